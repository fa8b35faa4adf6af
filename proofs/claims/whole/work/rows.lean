section
-- ===== PART A: goes FIRST, ahead of the names: the tables' words, and 'selects' of the private methods out of them =====
/-- a private method of a class that the tables say can be made, by its rows of tables_1 -/
def lw_okq (q : MethodName × Nat) : Prop := (q.1.cls ≠ "java/lang/invoke/MethodHandle" ∧ q.1.cls ≠ "java/lang/invoke/VarHandle") ∧ Cond.instantiable q.1.cls q.2 ∈ tables_1 ∧ Cond.privateMethod q.1 ∈ tables_1 ∧ Cond.instanceMethod q.1 ∈ tables_1
theorem lw_p0 : lw_okq (⟨"BorderThroughBed$HouseText", "takesLine", "()Z"⟩, 4) := ⟨⟨by decide +kernel, by decide +kernel⟩, List.mem_of_getElem? (i := 38) (by decide +kernel), List.mem_of_getElem? (i := 328) (by decide +kernel), List.mem_of_getElem? (i := 329) (by decide +kernel)⟩
theorem lw_p1 : lw_okq (⟨"BorderThroughBed$HouseText", "takesRowEnd", "()Z"⟩, 4) := ⟨⟨by decide +kernel, by decide +kernel⟩, List.mem_of_getElem? (i := 38) (by decide +kernel), List.mem_of_getElem? (i := 332) (by decide +kernel), List.mem_of_getElem? (i := 333) (by decide +kernel)⟩
theorem lw_p2 : lw_okq (⟨"BorderThroughBed$HouseText", "isRowWhole", "()Z"⟩, 4) := ⟨⟨by decide +kernel, by decide +kernel⟩, List.mem_of_getElem? (i := 38) (by decide +kernel), List.mem_of_getElem? (i := 336) (by decide +kernel), List.mem_of_getElem? (i := 337) (by decide +kernel)⟩
theorem lw_p3 : lw_okq (⟨"BorderThroughBed$HouseText", "takesCell", "()Z"⟩, 4) := ⟨⟨by decide +kernel, by decide +kernel⟩, List.mem_of_getElem? (i := 38) (by decide +kernel), List.mem_of_getElem? (i := 340) (by decide +kernel), List.mem_of_getElem? (i := 341) (by decide +kernel)⟩
theorem lw_p4 : lw_okq (⟨"BorderThroughBed$LawText", "takesSide", "(I)Z"⟩, 7) := ⟨⟨by decide +kernel, by decide +kernel⟩, List.mem_of_getElem? (i := 60) (by decide +kernel), List.mem_of_getElem? (i := 347) (by decide +kernel), List.mem_of_getElem? (i := 348) (by decide +kernel)⟩
theorem lw_p5 : lw_okq (⟨"BorderThroughBed$LawText", "takesAct", "(I)Z"⟩, 7) := ⟨⟨by decide +kernel, by decide +kernel⟩, List.mem_of_getElem? (i := 60) (by decide +kernel), List.mem_of_getElem? (i := 351) (by decide +kernel), List.mem_of_getElem? (i := 352) (by decide +kernel)⟩
theorem lw_p6 : lw_okq (⟨"BorderThroughBed$LawText", "takesFrom", "(I)Z"⟩, 7) := ⟨⟨by decide +kernel, by decide +kernel⟩, List.mem_of_getElem? (i := 60) (by decide +kernel), List.mem_of_getElem? (i := 355) (by decide +kernel), List.mem_of_getElem? (i := 356) (by decide +kernel)⟩
theorem lw_p7 : lw_okq (⟨"BorderThroughBed$LawText", "hourWith", "(II)I"⟩, 7) := ⟨⟨by decide +kernel, by decide +kernel⟩, List.mem_of_getElem? (i := 60) (by decide +kernel), List.mem_of_getElem? (i := 359) (by decide +kernel), List.mem_of_getElem? (i := 360) (by decide +kernel)⟩
theorem lw_p8 : lw_okq (⟨"BorderThroughBed$LawText", "takesTo", "(I)Z"⟩, 7) := ⟨⟨by decide +kernel, by decide +kernel⟩, List.mem_of_getElem? (i := 60) (by decide +kernel), List.mem_of_getElem? (i := 363) (by decide +kernel), List.mem_of_getElem? (i := 364) (by decide +kernel)⟩
theorem lw_p9 : lw_okq (⟨"BorderThroughBed$House", "setLine", "(II)V"⟩, 14) := ⟨⟨by decide +kernel, by decide +kernel⟩, List.mem_of_getElem? (i := 88) (by decide +kernel), List.mem_of_getElem? (i := 399) (by decide +kernel), List.mem_of_getElem? (i := 400) (by decide +kernel)⟩
theorem lw_p10 : lw_okq (⟨"BorderThroughBed$House", "addCell", "(III)V"⟩, 14) := ⟨⟨by decide +kernel, by decide +kernel⟩, List.mem_of_getElem? (i := 88) (by decide +kernel), List.mem_of_getElem? (i := 404) (by decide +kernel), List.mem_of_getElem? (i := 405) (by decide +kernel)⟩
theorem lw_p11 : lw_okq (⟨"BorderThroughBed$House", "joinCells", "()V"⟩, 14) := ⟨⟨by decide +kernel, by decide +kernel⟩, List.mem_of_getElem? (i := 88) (by decide +kernel), List.mem_of_getElem? (i := 408) (by decide +kernel), List.mem_of_getElem? (i := 409) (by decide +kernel)⟩
theorem lw_p12 : lw_okq (⟨"BorderThroughBed$House", "joinPlace", "(III)V"⟩, 14) := ⟨⟨by decide +kernel, by decide +kernel⟩, List.mem_of_getElem? (i := 88) (by decide +kernel), List.mem_of_getElem? (i := 412) (by decide +kernel), List.mem_of_getElem? (i := 413) (by decide +kernel)⟩
theorem lw_p13 : lw_okq (⟨"BorderThroughBed$House", "cellAt", "(II)I"⟩, 14) := ⟨⟨by decide +kernel, by decide +kernel⟩, List.mem_of_getElem? (i := 88) (by decide +kernel), List.mem_of_getElem? (i := 420) (by decide +kernel), List.mem_of_getElem? (i := 421) (by decide +kernel)⟩
theorem lw_p14 : lw_okq (⟨"BorderThroughBed$House", "findDoors", "()V"⟩, 14) := ⟨⟨by decide +kernel, by decide +kernel⟩, List.mem_of_getElem? (i := 88) (by decide +kernel), List.mem_of_getElem? (i := 436) (by decide +kernel), List.mem_of_getElem? (i := 437) (by decide +kernel)⟩
theorem lw_p15 : lw_okq (⟨"BorderThroughBed$House", "findWhereNearest", "(I)V"⟩, 14) := ⟨⟨by decide +kernel, by decide +kernel⟩, List.mem_of_getElem? (i := 88) (by decide +kernel), List.mem_of_getElem? (i := 441) (by decide +kernel), List.mem_of_getElem? (i := 442) (by decide +kernel)⟩
def lw_privs_1 : List (MethodName × Nat) := [(⟨"BorderThroughBed$HouseText", "takesLine", "()Z"⟩, 4), (⟨"BorderThroughBed$HouseText", "takesRowEnd", "()Z"⟩, 4), (⟨"BorderThroughBed$HouseText", "isRowWhole", "()Z"⟩, 4), (⟨"BorderThroughBed$HouseText", "takesCell", "()Z"⟩, 4), (⟨"BorderThroughBed$LawText", "takesSide", "(I)Z"⟩, 7), (⟨"BorderThroughBed$LawText", "takesAct", "(I)Z"⟩, 7), (⟨"BorderThroughBed$LawText", "takesFrom", "(I)Z"⟩, 7), (⟨"BorderThroughBed$LawText", "hourWith", "(II)I"⟩, 7), (⟨"BorderThroughBed$LawText", "takesTo", "(I)Z"⟩, 7), (⟨"BorderThroughBed$House", "setLine", "(II)V"⟩, 14), (⟨"BorderThroughBed$House", "addCell", "(III)V"⟩, 14), (⟨"BorderThroughBed$House", "joinCells", "()V"⟩, 14), (⟨"BorderThroughBed$House", "joinPlace", "(III)V"⟩, 14), (⟨"BorderThroughBed$House", "cellAt", "(II)I"⟩, 14), (⟨"BorderThroughBed$House", "findDoors", "()V"⟩, 14), (⟨"BorderThroughBed$House", "findWhereNearest", "(I)V"⟩, 14)]
theorem lw_r1 : ∀ q ∈ lw_privs_1, lw_okq q := List.forall_mem_cons.mpr ⟨lw_p0, List.forall_mem_cons.mpr ⟨lw_p1, List.forall_mem_cons.mpr ⟨lw_p2, List.forall_mem_cons.mpr ⟨lw_p3, List.forall_mem_cons.mpr ⟨lw_p4, List.forall_mem_cons.mpr ⟨lw_p5, List.forall_mem_cons.mpr ⟨lw_p6, List.forall_mem_cons.mpr ⟨lw_p7, List.forall_mem_cons.mpr ⟨lw_p8, List.forall_mem_cons.mpr ⟨lw_p9, List.forall_mem_cons.mpr ⟨lw_p10, List.forall_mem_cons.mpr ⟨lw_p11, List.forall_mem_cons.mpr ⟨lw_p12, List.forall_mem_cons.mpr ⟨lw_p13, List.forall_mem_cons.mpr ⟨lw_p14, List.forall_mem_cons.mpr ⟨lw_p15, fun _ h => absurd h List.not_mem_nil⟩⟩⟩⟩⟩⟩⟩⟩⟩⟩⟩⟩⟩⟩⟩⟩
theorem lw_p16 : lw_okq (⟨"BorderThroughBed$House", "measure", "(III)V"⟩, 14) := ⟨⟨by decide +kernel, by decide +kernel⟩, List.mem_of_getElem? (i := 88) (by decide +kernel), List.mem_of_getElem? (i := 445) (by decide +kernel), List.mem_of_getElem? (i := 446) (by decide +kernel)⟩
theorem lw_p17 : lw_okq (⟨"BorderThroughBed$House", "goOn", "(II)Z"⟩, 14) := ⟨⟨by decide +kernel, by decide +kernel⟩, List.mem_of_getElem? (i := 88) (by decide +kernel), List.mem_of_getElem? (i := 449) (by decide +kernel), List.mem_of_getElem? (i := 450) (by decide +kernel)⟩
theorem lw_p18 : lw_okq (⟨"BorderThroughBed", "cellTold", "(II)I"⟩, 12) := ⟨⟨by decide +kernel, by decide +kernel⟩, List.mem_of_getElem? (i := 16) (by decide +kernel), List.mem_of_getElem? (i := 541) (by decide +kernel), List.mem_of_getElem? (i := 542) (by decide +kernel)⟩
theorem lw_p19 : lw_okq (⟨"BorderThroughBed$Laws", "holds", "(II)Z"⟩, 1) := ⟨⟨by decide +kernel, by decide +kernel⟩, List.mem_of_getElem? (i := 137) (by decide +kernel), List.mem_of_getElem? (i := 597) (by decide +kernel), List.mem_of_getElem? (i := 598) (by decide +kernel)⟩
theorem lw_p20 : lw_okq (⟨"BorderThroughBed$Laws", "counts", "(LBorderThroughBed$House;IIII)Z"⟩, 1) := ⟨⟨by decide +kernel, by decide +kernel⟩, List.mem_of_getElem? (i := 137) (by decide +kernel), List.mem_of_getElem? (i := 601) (by decide +kernel), List.mem_of_getElem? (i := 602) (by decide +kernel)⟩
theorem lw_p21 : lw_okq (⟨"BorderThroughBed", "firstAgainst", "()I"⟩, 12) := ⟨⟨by decide +kernel, by decide +kernel⟩, List.mem_of_getElem? (i := 16) (by decide +kernel), List.mem_of_getElem? (i := 622) (by decide +kernel), List.mem_of_getElem? (i := 623) (by decide +kernel)⟩
theorem lw_p22 : lw_okq (⟨"BorderThroughBed", "eventBroken", "(II)I"⟩, 12) := ⟨⟨by decide +kernel, by decide +kernel⟩, List.mem_of_getElem? (i := 16) (by decide +kernel), List.mem_of_getElem? (i := 628) (by decide +kernel), List.mem_of_getElem? (i := 629) (by decide +kernel)⟩
theorem lw_p23 : lw_okq (⟨"BorderThroughBed", "mapOf", "(IIII)I"⟩, 12) := ⟨⟨by decide +kernel, by decide +kernel⟩, List.mem_of_getElem? (i := 16) (by decide +kernel), List.mem_of_getElem? (i := 643) (by decide +kernel), List.mem_of_getElem? (i := 644) (by decide +kernel)⟩
theorem lw_p24 : lw_okq (⟨"BorderThroughBed", "isRoom", "(III)Z"⟩, 12) := ⟨⟨by decide +kernel, by decide +kernel⟩, List.mem_of_getElem? (i := 16) (by decide +kernel), List.mem_of_getElem? (i := 655) (by decide +kernel), List.mem_of_getElem? (i := 656) (by decide +kernel)⟩
theorem lw_p25 : lw_okq (⟨"BorderThroughBed", "thingTold", "(II)I"⟩, 12) := ⟨⟨by decide +kernel, by decide +kernel⟩, List.mem_of_getElem? (i := 16) (by decide +kernel), List.mem_of_getElem? (i := 676) (by decide +kernel), List.mem_of_getElem? (i := 677) (by decide +kernel)⟩
theorem lw_p26 : lw_okq (⟨"BorderThroughBed$Keeping", "learnOne", "(LBorderThroughBed$House;LBorderThroughBed$Laws;II)V"⟩, 3) := ⟨⟨by decide +kernel, by decide +kernel⟩, List.mem_of_getElem? (i := 190) (by decide +kernel), List.mem_of_getElem? (i := 714) (by decide +kernel), List.mem_of_getElem? (i := 715) (by decide +kernel)⟩
theorem lw_p27 : lw_okq (⟨"BorderThroughBed$Keeping", "note", "(LBorderThroughBed$House;III)V"⟩, 3) := ⟨⟨by decide +kernel, by decide +kernel⟩, List.mem_of_getElem? (i := 190) (by decide +kernel), List.mem_of_getElem? (i := 728) (by decide +kernel), List.mem_of_getElem? (i := 729) (by decide +kernel)⟩
theorem lw_p28 : lw_okq (⟨"BorderThroughBed$Keeping", "add", "(III)V"⟩, 3) := ⟨⟨by decide +kernel, by decide +kernel⟩, List.mem_of_getElem? (i := 190) (by decide +kernel), List.mem_of_getElem? (i := 732) (by decide +kernel), List.mem_of_getElem? (i := 733) (by decide +kernel)⟩
theorem lw_p29 : lw_okq (⟨"BorderThroughBed$Mover", "takenBut", "(II)I"⟩, 6) := ⟨⟨by decide +kernel, by decide +kernel⟩, List.mem_of_getElem? (i := 206) (by decide +kernel), List.mem_of_getElem? (i := 752) (by decide +kernel), List.mem_of_getElem? (i := 753) (by decide +kernel)⟩
theorem lw_p30 : lw_okq (⟨"BorderThroughBed$Mover", "isKeptNow", "(LBorderThroughBed$Keeping;II)Z"⟩, 6) := ⟨⟨by decide +kernel, by decide +kernel⟩, List.mem_of_getElem? (i := 206) (by decide +kernel), List.mem_of_getElem? (i := 756) (by decide +kernel), List.mem_of_getElem? (i := 757) (by decide +kernel)⟩
theorem lw_p31 : lw_okq (⟨"BorderThroughBed$Keeping", "goodAt", "(II)I"⟩, 3) := ⟨⟨by decide +kernel, by decide +kernel⟩, List.mem_of_getElem? (i := 190) (by decide +kernel), List.mem_of_getElem? (i := 768) (by decide +kernel), List.mem_of_getElem? (i := 769) (by decide +kernel)⟩
def lw_privs_2 : List (MethodName × Nat) := [(⟨"BorderThroughBed$House", "measure", "(III)V"⟩, 14), (⟨"BorderThroughBed$House", "goOn", "(II)Z"⟩, 14), (⟨"BorderThroughBed", "cellTold", "(II)I"⟩, 12), (⟨"BorderThroughBed$Laws", "holds", "(II)Z"⟩, 1), (⟨"BorderThroughBed$Laws", "counts", "(LBorderThroughBed$House;IIII)Z"⟩, 1), (⟨"BorderThroughBed", "firstAgainst", "()I"⟩, 12), (⟨"BorderThroughBed", "eventBroken", "(II)I"⟩, 12), (⟨"BorderThroughBed", "mapOf", "(IIII)I"⟩, 12), (⟨"BorderThroughBed", "isRoom", "(III)Z"⟩, 12), (⟨"BorderThroughBed", "thingTold", "(II)I"⟩, 12), (⟨"BorderThroughBed$Keeping", "learnOne", "(LBorderThroughBed$House;LBorderThroughBed$Laws;II)V"⟩, 3), (⟨"BorderThroughBed$Keeping", "note", "(LBorderThroughBed$House;III)V"⟩, 3), (⟨"BorderThroughBed$Keeping", "add", "(III)V"⟩, 3), (⟨"BorderThroughBed$Mover", "takenBut", "(II)I"⟩, 6), (⟨"BorderThroughBed$Mover", "isKeptNow", "(LBorderThroughBed$Keeping;II)Z"⟩, 6), (⟨"BorderThroughBed$Keeping", "goodAt", "(II)I"⟩, 3)]
theorem lw_r2 : ∀ q ∈ lw_privs_2, lw_okq q := List.forall_mem_cons.mpr ⟨lw_p16, List.forall_mem_cons.mpr ⟨lw_p17, List.forall_mem_cons.mpr ⟨lw_p18, List.forall_mem_cons.mpr ⟨lw_p19, List.forall_mem_cons.mpr ⟨lw_p20, List.forall_mem_cons.mpr ⟨lw_p21, List.forall_mem_cons.mpr ⟨lw_p22, List.forall_mem_cons.mpr ⟨lw_p23, List.forall_mem_cons.mpr ⟨lw_p24, List.forall_mem_cons.mpr ⟨lw_p25, List.forall_mem_cons.mpr ⟨lw_p26, List.forall_mem_cons.mpr ⟨lw_p27, List.forall_mem_cons.mpr ⟨lw_p28, List.forall_mem_cons.mpr ⟨lw_p29, List.forall_mem_cons.mpr ⟨lw_p30, List.forall_mem_cons.mpr ⟨lw_p31, fun _ h => absurd h List.not_mem_nil⟩⟩⟩⟩⟩⟩⟩⟩⟩⟩⟩⟩⟩⟩⟩⟩
theorem lw_p32 : lw_okq (⟨"BorderThroughBed$Mover", "allKept", "(LBorderThroughBed$Keeping;I)Z"⟩, 6) := ⟨⟨by decide +kernel, by decide +kernel⟩, List.mem_of_getElem? (i := 206) (by decide +kernel), List.mem_of_getElem? (i := 785) (by decide +kernel), List.mem_of_getElem? (i := 786) (by decide +kernel)⟩
theorem lw_p33 : lw_okq (⟨"BorderThroughBed$Mover", "tell", "(III)V"⟩, 6) := ⟨⟨by decide +kernel, by decide +kernel⟩, List.mem_of_getElem? (i := 206) (by decide +kernel), List.mem_of_getElem? (i := 793) (by decide +kernel), List.mem_of_getElem? (i := 794) (by decide +kernel)⟩
theorem lw_p34 : lw_okq (⟨"BorderThroughBed$Mover", "placeOf", "(I)I"⟩, 6) := ⟨⟨by decide +kernel, by decide +kernel⟩, List.mem_of_getElem? (i := 206) (by decide +kernel), List.mem_of_getElem? (i := 797) (by decide +kernel), List.mem_of_getElem? (i := 798) (by decide +kernel)⟩
theorem lw_p35 : lw_okq (⟨"BorderThroughBed$Mover", "isDoneBy", "(ILBorderThroughBed$House;LBorderThroughBed$Keeping;)Z"⟩, 6) := ⟨⟨by decide +kernel, by decide +kernel⟩, List.mem_of_getElem? (i := 206) (by decide +kernel), List.mem_of_getElem? (i := 810) (by decide +kernel), List.mem_of_getElem? (i := 811) (by decide +kernel)⟩
theorem lw_p36 : lw_okq (⟨"BorderThroughBed$Mover", "isDoneWith", "(ILBorderThroughBed$House;LBorderThroughBed$Keeping;)Z"⟩, 6) := ⟨⟨by decide +kernel, by decide +kernel⟩, List.mem_of_getElem? (i := 206) (by decide +kernel), List.mem_of_getElem? (i := 818) (by decide +kernel), List.mem_of_getElem? (i := 819) (by decide +kernel)⟩
theorem lw_p37 : lw_okq (⟨"BorderThroughBed", "fitting", "()I"⟩, 12) := ⟨⟨by decide +kernel, by decide +kernel⟩, List.mem_of_getElem? (i := 16) (by decide +kernel), List.mem_of_getElem? (i := 865) (by decide +kernel), List.mem_of_getElem? (i := 866) (by decide +kernel)⟩
theorem lw_p38 : lw_okq (⟨"BorderThroughBed", "allJudgedSo", "(I)Z"⟩, 12) := ⟨⟨by decide +kernel, by decide +kernel⟩, List.mem_of_getElem? (i := 16) (by decide +kernel), List.mem_of_getElem? (i := 869) (by decide +kernel), List.mem_of_getElem? (i := 870) (by decide +kernel)⟩
theorem lw_p39 : lw_okq (⟨"BorderThroughBed", "digestOfCells", "(J)J"⟩, 12) := ⟨⟨by decide +kernel, by decide +kernel⟩, List.mem_of_getElem? (i := 16) (by decide +kernel), List.mem_of_getElem? (i := 901) (by decide +kernel), List.mem_of_getElem? (i := 902) (by decide +kernel)⟩
theorem lw_p40 : lw_okq (⟨"BorderThroughBed", "digestOfLaws", "(J)J"⟩, 12) := ⟨⟨by decide +kernel, by decide +kernel⟩, List.mem_of_getElem? (i := 16) (by decide +kernel), List.mem_of_getElem? (i := 906) (by decide +kernel), List.mem_of_getElem? (i := 907) (by decide +kernel)⟩
theorem lw_p41 : lw_okq (⟨"BorderThroughBed", "digestOfEvents", "(J)J"⟩, 12) := ⟨⟨by decide +kernel, by decide +kernel⟩, List.mem_of_getElem? (i := 16) (by decide +kernel), List.mem_of_getElem? (i := 910) (by decide +kernel), List.mem_of_getElem? (i := 911) (by decide +kernel)⟩
theorem lw_p42 : lw_okq (⟨"BorderThroughBed", "digestOfThings", "(J)J"⟩, 12) := ⟨⟨by decide +kernel, by decide +kernel⟩, List.mem_of_getElem? (i := 16) (by decide +kernel), List.mem_of_getElem? (i := 914) (by decide +kernel), List.mem_of_getElem? (i := 915) (by decide +kernel)⟩
theorem lw_p43 : lw_okq (⟨"BorderThroughBedModel", "readHouse", "()V"⟩, 58) := ⟨⟨by decide +kernel, by decide +kernel⟩, List.mem_of_getElem? (i := 924) (by decide +kernel), List.mem_of_getElem? (i := 1122) (by decide +kernel), List.mem_of_getElem? (i := 1123) (by decide +kernel)⟩
theorem lw_p44 : lw_okq (⟨"BorderThroughBedModel", "takeHouse", "(I)Z"⟩, 58) := ⟨⟨by decide +kernel, by decide +kernel⟩, List.mem_of_getElem? (i := 924) (by decide +kernel), List.mem_of_getElem? (i := 1126) (by decide +kernel), List.mem_of_getElem? (i := 1127) (by decide +kernel)⟩
theorem lw_p45 : lw_okq (⟨"BorderThroughBedModel", "readLaw", "()V"⟩, 58) := ⟨⟨by decide +kernel, by decide +kernel⟩, List.mem_of_getElem? (i := 924) (by decide +kernel), List.mem_of_getElem? (i := 1133) (by decide +kernel), List.mem_of_getElem? (i := 1134) (by decide +kernel)⟩
theorem lw_p46 : lw_okq (⟨"BorderThroughBedModel", "nextLaw", "(II)I"⟩, 58) := ⟨⟨by decide +kernel, by decide +kernel⟩, List.mem_of_getElem? (i := 924) (by decide +kernel), List.mem_of_getElem? (i := 1137) (by decide +kernel), List.mem_of_getElem? (i := 1138) (by decide +kernel)⟩
theorem lw_p47 : lw_okq (⟨"BorderThroughBedModel", "goOnHour", "(II)Z"⟩, 58) := ⟨⟨by decide +kernel, by decide +kernel⟩, List.mem_of_getElem? (i := 924) (by decide +kernel), List.mem_of_getElem? (i := 1144) (by decide +kernel), List.mem_of_getElem? (i := 1145) (by decide +kernel)⟩
def lw_privs_3 : List (MethodName × Nat) := [(⟨"BorderThroughBed$Mover", "allKept", "(LBorderThroughBed$Keeping;I)Z"⟩, 6), (⟨"BorderThroughBed$Mover", "tell", "(III)V"⟩, 6), (⟨"BorderThroughBed$Mover", "placeOf", "(I)I"⟩, 6), (⟨"BorderThroughBed$Mover", "isDoneBy", "(ILBorderThroughBed$House;LBorderThroughBed$Keeping;)Z"⟩, 6), (⟨"BorderThroughBed$Mover", "isDoneWith", "(ILBorderThroughBed$House;LBorderThroughBed$Keeping;)Z"⟩, 6), (⟨"BorderThroughBed", "fitting", "()I"⟩, 12), (⟨"BorderThroughBed", "allJudgedSo", "(I)Z"⟩, 12), (⟨"BorderThroughBed", "digestOfCells", "(J)J"⟩, 12), (⟨"BorderThroughBed", "digestOfLaws", "(J)J"⟩, 12), (⟨"BorderThroughBed", "digestOfEvents", "(J)J"⟩, 12), (⟨"BorderThroughBed", "digestOfThings", "(J)J"⟩, 12), (⟨"BorderThroughBedModel", "readHouse", "()V"⟩, 58), (⟨"BorderThroughBedModel", "takeHouse", "(I)Z"⟩, 58), (⟨"BorderThroughBedModel", "readLaw", "()V"⟩, 58), (⟨"BorderThroughBedModel", "nextLaw", "(II)I"⟩, 58), (⟨"BorderThroughBedModel", "goOnHour", "(II)Z"⟩, 58)]
theorem lw_r3 : ∀ q ∈ lw_privs_3, lw_okq q := List.forall_mem_cons.mpr ⟨lw_p32, List.forall_mem_cons.mpr ⟨lw_p33, List.forall_mem_cons.mpr ⟨lw_p34, List.forall_mem_cons.mpr ⟨lw_p35, List.forall_mem_cons.mpr ⟨lw_p36, List.forall_mem_cons.mpr ⟨lw_p37, List.forall_mem_cons.mpr ⟨lw_p38, List.forall_mem_cons.mpr ⟨lw_p39, List.forall_mem_cons.mpr ⟨lw_p40, List.forall_mem_cons.mpr ⟨lw_p41, List.forall_mem_cons.mpr ⟨lw_p42, List.forall_mem_cons.mpr ⟨lw_p43, List.forall_mem_cons.mpr ⟨lw_p44, List.forall_mem_cons.mpr ⟨lw_p45, List.forall_mem_cons.mpr ⟨lw_p46, List.forall_mem_cons.mpr ⟨lw_p47, fun _ h => absurd h List.not_mem_nil⟩⟩⟩⟩⟩⟩⟩⟩⟩⟩⟩⟩⟩⟩⟩⟩
theorem lw_p48 : lw_okq (⟨"BorderThroughBedModel", "hour", "(I)I"⟩, 58) := ⟨⟨by decide +kernel, by decide +kernel⟩, List.mem_of_getElem? (i := 924) (by decide +kernel), List.mem_of_getElem? (i := 1148) (by decide +kernel), List.mem_of_getElem? (i := 1149) (by decide +kernel)⟩
theorem lw_p49 : lw_okq (⟨"BorderThroughBedModel", "setHour", "(II)V"⟩, 58) := ⟨⟨by decide +kernel, by decide +kernel⟩, List.mem_of_getElem? (i := 924) (by decide +kernel), List.mem_of_getElem? (i := 1152) (by decide +kernel), List.mem_of_getElem? (i := 1153) (by decide +kernel)⟩
theorem lw_p50 : lw_okq (⟨"BorderThroughBedModel", "endLaw", "(I)I"⟩, 58) := ⟨⟨by decide +kernel, by decide +kernel⟩, List.mem_of_getElem? (i := 924) (by decide +kernel), List.mem_of_getElem? (i := 1156) (by decide +kernel), List.mem_of_getElem? (i := 1157) (by decide +kernel)⟩
theorem lw_p51 : lw_okq (⟨"BorderThroughBedModel", "kindBy", "(I)I"⟩, 58) := ⟨⟨by decide +kernel, by decide +kernel⟩, List.mem_of_getElem? (i := 924) (by decide +kernel), List.mem_of_getElem? (i := 1160) (by decide +kernel), List.mem_of_getElem? (i := 1161) (by decide +kernel)⟩
theorem lw_p52 : lw_okq (⟨"BorderThroughBedModel", "isLaw", "(I)Z"⟩, 58) := ⟨⟨by decide +kernel, by decide +kernel⟩, List.mem_of_getElem? (i := 924) (by decide +kernel), List.mem_of_getElem? (i := 1176) (by decide +kernel), List.mem_of_getElem? (i := 1177) (by decide +kernel)⟩
theorem lw_p53 : lw_okq (⟨"BorderThroughBedModel", "lawNow", "(II)I"⟩, 58) := ⟨⟨by decide +kernel, by decide +kernel⟩, List.mem_of_getElem? (i := 924) (by decide +kernel), List.mem_of_getElem? (i := 1180) (by decide +kernel), List.mem_of_getElem? (i := 1181) (by decide +kernel)⟩
theorem lw_p54 : lw_okq (⟨"BorderThroughBedModel", "isCell", "(I)Z"⟩, 58) := ⟨⟨by decide +kernel, by decide +kernel⟩, List.mem_of_getElem? (i := 924) (by decide +kernel), List.mem_of_getElem? (i := 1192) (by decide +kernel), List.mem_of_getElem? (i := 1193) (by decide +kernel)⟩
theorem lw_p55 : lw_okq (⟨"BorderThroughBedModel", "cells", "()I"⟩, 58) := ⟨⟨by decide +kernel, by decide +kernel⟩, List.mem_of_getElem? (i := 924) (by decide +kernel), List.mem_of_getElem? (i := 1196) (by decide +kernel), List.mem_of_getElem? (i := 1197) (by decide +kernel)⟩
theorem lw_p56 : lw_okq (⟨"BorderThroughBedModel", "cellNow", "(II)I"⟩, 58) := ⟨⟨by decide +kernel, by decide +kernel⟩, List.mem_of_getElem? (i := 924) (by decide +kernel), List.mem_of_getElem? (i := 1200) (by decide +kernel), List.mem_of_getElem? (i := 1201) (by decide +kernel)⟩
theorem lw_p57 : lw_okq (⟨"BorderThroughBedModel", "sideOf", "(I)I"⟩, 58) := ⟨⟨by decide +kernel, by decide +kernel⟩, List.mem_of_getElem? (i := 924) (by decide +kernel), List.mem_of_getElem? (i := 1204) (by decide +kernel), List.mem_of_getElem? (i := 1205) (by decide +kernel)⟩
theorem lw_p58 : lw_okq (⟨"BorderThroughBedModel", "thingAt", "(I)I"⟩, 58) := ⟨⟨by decide +kernel, by decide +kernel⟩, List.mem_of_getElem? (i := 924) (by decide +kernel), List.mem_of_getElem? (i := 1208) (by decide +kernel), List.mem_of_getElem? (i := 1209) (by decide +kernel)⟩
theorem lw_p59 : lw_okq (⟨"BorderThroughBedModel", "lastCell", "(I)I"⟩, 58) := ⟨⟨by decide +kernel, by decide +kernel⟩, List.mem_of_getElem? (i := 924) (by decide +kernel), List.mem_of_getElem? (i := 1212) (by decide +kernel), List.mem_of_getElem? (i := 1213) (by decide +kernel)⟩
theorem lw_p60 : lw_okq (⟨"BorderThroughBedModel", "ahead", "(II)I"⟩, 58) := ⟨⟨by decide +kernel, by decide +kernel⟩, List.mem_of_getElem? (i := 924) (by decide +kernel), List.mem_of_getElem? (i := 1216) (by decide +kernel), List.mem_of_getElem? (i := 1217) (by decide +kernel)⟩
theorem lw_p61 : lw_okq (⟨"BorderThroughBedModel", "beside", "(II)I"⟩, 58) := ⟨⟨by decide +kernel, by decide +kernel⟩, List.mem_of_getElem? (i := 924) (by decide +kernel), List.mem_of_getElem? (i := 1220) (by decide +kernel), List.mem_of_getElem? (i := 1221) (by decide +kernel)⟩
theorem lw_p62 : lw_okq (⟨"BorderThroughBedModel", "nearestDoor", "(I)I"⟩, 58) := ⟨⟨by decide +kernel, by decide +kernel⟩, List.mem_of_getElem? (i := 924) (by decide +kernel), List.mem_of_getElem? (i := 1224) (by decide +kernel), List.mem_of_getElem? (i := 1225) (by decide +kernel)⟩
theorem lw_p63 : lw_okq (⟨"BorderThroughBedModel", "laySteps", "(IZ)V"⟩, 58) := ⟨⟨by decide +kernel, by decide +kernel⟩, List.mem_of_getElem? (i := 924) (by decide +kernel), List.mem_of_getElem? (i := 1228) (by decide +kernel), List.mem_of_getElem? (i := 1229) (by decide +kernel)⟩
def lw_privs_4 : List (MethodName × Nat) := [(⟨"BorderThroughBedModel", "hour", "(I)I"⟩, 58), (⟨"BorderThroughBedModel", "setHour", "(II)V"⟩, 58), (⟨"BorderThroughBedModel", "endLaw", "(I)I"⟩, 58), (⟨"BorderThroughBedModel", "kindBy", "(I)I"⟩, 58), (⟨"BorderThroughBedModel", "isLaw", "(I)Z"⟩, 58), (⟨"BorderThroughBedModel", "lawNow", "(II)I"⟩, 58), (⟨"BorderThroughBedModel", "isCell", "(I)Z"⟩, 58), (⟨"BorderThroughBedModel", "cells", "()I"⟩, 58), (⟨"BorderThroughBedModel", "cellNow", "(II)I"⟩, 58), (⟨"BorderThroughBedModel", "sideOf", "(I)I"⟩, 58), (⟨"BorderThroughBedModel", "thingAt", "(I)I"⟩, 58), (⟨"BorderThroughBedModel", "lastCell", "(I)I"⟩, 58), (⟨"BorderThroughBedModel", "ahead", "(II)I"⟩, 58), (⟨"BorderThroughBedModel", "beside", "(II)I"⟩, 58), (⟨"BorderThroughBedModel", "nearestDoor", "(I)I"⟩, 58), (⟨"BorderThroughBedModel", "laySteps", "(IZ)V"⟩, 58)]
theorem lw_r4 : ∀ q ∈ lw_privs_4, lw_okq q := List.forall_mem_cons.mpr ⟨lw_p48, List.forall_mem_cons.mpr ⟨lw_p49, List.forall_mem_cons.mpr ⟨lw_p50, List.forall_mem_cons.mpr ⟨lw_p51, List.forall_mem_cons.mpr ⟨lw_p52, List.forall_mem_cons.mpr ⟨lw_p53, List.forall_mem_cons.mpr ⟨lw_p54, List.forall_mem_cons.mpr ⟨lw_p55, List.forall_mem_cons.mpr ⟨lw_p56, List.forall_mem_cons.mpr ⟨lw_p57, List.forall_mem_cons.mpr ⟨lw_p58, List.forall_mem_cons.mpr ⟨lw_p59, List.forall_mem_cons.mpr ⟨lw_p60, List.forall_mem_cons.mpr ⟨lw_p61, List.forall_mem_cons.mpr ⟨lw_p62, List.forall_mem_cons.mpr ⟨lw_p63, fun _ h => absurd h List.not_mem_nil⟩⟩⟩⟩⟩⟩⟩⟩⟩⟩⟩⟩⟩⟩⟩⟩
theorem lw_p64 : lw_okq (⟨"BorderThroughBedModel", "isOpen", "(I)Z"⟩, 58) := ⟨⟨by decide +kernel, by decide +kernel⟩, List.mem_of_getElem? (i := 924) (by decide +kernel), List.mem_of_getElem? (i := 1237) (by decide +kernel), List.mem_of_getElem? (i := 1238) (by decide +kernel)⟩
theorem lw_p65 : lw_okq (⟨"BorderThroughBedModel", "partOf", "(IIII)I"⟩, 58) := ⟨⟨by decide +kernel, by decide +kernel⟩, List.mem_of_getElem? (i := 924) (by decide +kernel), List.mem_of_getElem? (i := 1244) (by decide +kernel), List.mem_of_getElem? (i := 1245) (by decide +kernel)⟩
theorem lw_p66 : lw_okq (⟨"BorderThroughBedModel", "againstBy", "(IIIII)I"⟩, 58) := ⟨⟨by decide +kernel, by decide +kernel⟩, List.mem_of_getElem? (i := 924) (by decide +kernel), List.mem_of_getElem? (i := 1255) (by decide +kernel), List.mem_of_getElem? (i := 1256) (by decide +kernel)⟩
theorem lw_p67 : lw_okq (⟨"BorderThroughBedModel", "holds", "(II)Z"⟩, 58) := ⟨⟨by decide +kernel, by decide +kernel⟩, List.mem_of_getElem? (i := 924) (by decide +kernel), List.mem_of_getElem? (i := 1259) (by decide +kernel), List.mem_of_getElem? (i := 1260) (by decide +kernel)⟩
theorem lw_p68 : lw_okq (⟨"BorderThroughBedModel", "counts", "(IIII)Z"⟩, 58) := ⟨⟨by decide +kernel, by decide +kernel⟩, List.mem_of_getElem? (i := 924) (by decide +kernel), List.mem_of_getElem? (i := 1263) (by decide +kernel), List.mem_of_getElem? (i := 1264) (by decide +kernel)⟩
theorem lw_p69 : lw_okq (⟨"BorderThroughBedModel", "eventAgainst", "(I)I"⟩, 58) := ⟨⟨by decide +kernel, by decide +kernel⟩, List.mem_of_getElem? (i := 924) (by decide +kernel), List.mem_of_getElem? (i := 1275) (by decide +kernel), List.mem_of_getElem? (i := 1276) (by decide +kernel)⟩
theorem lw_p70 : lw_okq (⟨"BorderThroughBedModel", "isFloor", "(I)Z"⟩, 58) := ⟨⟨by decide +kernel, by decide +kernel⟩, List.mem_of_getElem? (i := 924) (by decide +kernel), List.mem_of_getElem? (i := 1290) (by decide +kernel), List.mem_of_getElem? (i := 1291) (by decide +kernel)⟩
theorem lw_p71 : lw_okq (⟨"BorderThroughBedModel", "roomBeside", "(III)Z"⟩, 58) := ⟨⟨by decide +kernel, by decide +kernel⟩, List.mem_of_getElem? (i := 924) (by decide +kernel), List.mem_of_getElem? (i := 1297) (by decide +kernel), List.mem_of_getElem? (i := 1298) (by decide +kernel)⟩
theorem lw_p72 : lw_okq (⟨"BorderThroughBedModel", "fitsIn", "(III)Z"⟩, 58) := ⟨⟨by decide +kernel, by decide +kernel⟩, List.mem_of_getElem? (i := 924) (by decide +kernel), List.mem_of_getElem? (i := 1301) (by decide +kernel), List.mem_of_getElem? (i := 1302) (by decide +kernel)⟩
theorem lw_p73 : lw_okq (⟨"BorderThroughBedModel", "put", "(IIII)V"⟩, 58) := ⟨⟨by decide +kernel, by decide +kernel⟩, List.mem_of_getElem? (i := 924) (by decide +kernel), List.mem_of_getElem? (i := 1305) (by decide +kernel), List.mem_of_getElem? (i := 1306) (by decide +kernel)⟩
theorem lw_p74 : lw_okq (⟨"BorderThroughBedModel", "haveRoom", "()Z"⟩, 58) := ⟨⟨by decide +kernel, by decide +kernel⟩, List.mem_of_getElem? (i := 924) (by decide +kernel), List.mem_of_getElem? (i := 1309) (by decide +kernel), List.mem_of_getElem? (i := 1310) (by decide +kernel)⟩
theorem lw_p75 : lw_okq (⟨"BorderThroughBedModel", "touches", "(II)Z"⟩, 58) := ⟨⟨by decide +kernel, by decide +kernel⟩, List.mem_of_getElem? (i := 924) (by decide +kernel), List.mem_of_getElem? (i := 1313) (by decide +kernel), List.mem_of_getElem? (i := 1314) (by decide +kernel)⟩
theorem lw_p76 : lw_okq (⟨"BorderThroughBedModel", "isThing", "(I)Z"⟩, 58) := ⟨⟨by decide +kernel, by decide +kernel⟩, List.mem_of_getElem? (i := 924) (by decide +kernel), List.mem_of_getElem? (i := 1321) (by decide +kernel), List.mem_of_getElem? (i := 1322) (by decide +kernel)⟩
theorem lw_p77 : lw_okq (⟨"BorderThroughBedModel", "thingNow", "(II)I"⟩, 58) := ⟨⟨by decide +kernel, by decide +kernel⟩, List.mem_of_getElem? (i := 924) (by decide +kernel), List.mem_of_getElem? (i := 1329) (by decide +kernel), List.mem_of_getElem? (i := 1330) (by decide +kernel)⟩
theorem lw_p78 : lw_okq (⟨"BorderThroughBedModel", "keptNow", "()I"⟩, 58) := ⟨⟨by decide +kernel, by decide +kernel⟩, List.mem_of_getElem? (i := 924) (by decide +kernel), List.mem_of_getElem? (i := 1345) (by decide +kernel), List.mem_of_getElem? (i := 1346) (by decide +kernel)⟩
theorem lw_p79 : lw_okq (⟨"BorderThroughBedModel", "isKeptHabit", "(I)Z"⟩, 58) := ⟨⟨by decide +kernel, by decide +kernel⟩, List.mem_of_getElem? (i := 924) (by decide +kernel), List.mem_of_getElem? (i := 1349) (by decide +kernel), List.mem_of_getElem? (i := 1350) (by decide +kernel)⟩
def lw_privs_5 : List (MethodName × Nat) := [(⟨"BorderThroughBedModel", "isOpen", "(I)Z"⟩, 58), (⟨"BorderThroughBedModel", "partOf", "(IIII)I"⟩, 58), (⟨"BorderThroughBedModel", "againstBy", "(IIIII)I"⟩, 58), (⟨"BorderThroughBedModel", "holds", "(II)Z"⟩, 58), (⟨"BorderThroughBedModel", "counts", "(IIII)Z"⟩, 58), (⟨"BorderThroughBedModel", "eventAgainst", "(I)I"⟩, 58), (⟨"BorderThroughBedModel", "isFloor", "(I)Z"⟩, 58), (⟨"BorderThroughBedModel", "roomBeside", "(III)Z"⟩, 58), (⟨"BorderThroughBedModel", "fitsIn", "(III)Z"⟩, 58), (⟨"BorderThroughBedModel", "put", "(IIII)V"⟩, 58), (⟨"BorderThroughBedModel", "haveRoom", "()Z"⟩, 58), (⟨"BorderThroughBedModel", "touches", "(II)Z"⟩, 58), (⟨"BorderThroughBedModel", "isThing", "(I)Z"⟩, 58), (⟨"BorderThroughBedModel", "thingNow", "(II)I"⟩, 58), (⟨"BorderThroughBedModel", "keptNow", "()I"⟩, 58), (⟨"BorderThroughBedModel", "isKeptHabit", "(I)Z"⟩, 58)]
theorem lw_r5 : ∀ q ∈ lw_privs_5, lw_okq q := List.forall_mem_cons.mpr ⟨lw_p64, List.forall_mem_cons.mpr ⟨lw_p65, List.forall_mem_cons.mpr ⟨lw_p66, List.forall_mem_cons.mpr ⟨lw_p67, List.forall_mem_cons.mpr ⟨lw_p68, List.forall_mem_cons.mpr ⟨lw_p69, List.forall_mem_cons.mpr ⟨lw_p70, List.forall_mem_cons.mpr ⟨lw_p71, List.forall_mem_cons.mpr ⟨lw_p72, List.forall_mem_cons.mpr ⟨lw_p73, List.forall_mem_cons.mpr ⟨lw_p74, List.forall_mem_cons.mpr ⟨lw_p75, List.forall_mem_cons.mpr ⟨lw_p76, List.forall_mem_cons.mpr ⟨lw_p77, List.forall_mem_cons.mpr ⟨lw_p78, List.forall_mem_cons.mpr ⟨lw_p79, fun _ h => absurd h List.not_mem_nil⟩⟩⟩⟩⟩⟩⟩⟩⟩⟩⟩⟩⟩⟩⟩⟩
theorem lw_p80 : lw_okq (⟨"BorderThroughBedModel", "isKeptInBed", "(II)Z"⟩, 58) := ⟨⟨by decide +kernel, by decide +kernel⟩, List.mem_of_getElem? (i := 924) (by decide +kernel), List.mem_of_getElem? (i := 1353) (by decide +kernel), List.mem_of_getElem? (i := 1354) (by decide +kernel)⟩
theorem lw_p81 : lw_okq (⟨"BorderThroughBedModel", "isKeptAt", "(II)Z"⟩, 58) := ⟨⟨by decide +kernel, by decide +kernel⟩, List.mem_of_getElem? (i := 924) (by decide +kernel), List.mem_of_getElem? (i := 1357) (by decide +kernel), List.mem_of_getElem? (i := 1358) (by decide +kernel)⟩
theorem lw_p82 : lw_okq (⟨"BorderThroughBedModel", "isKeptAnywhere", "(II)Z"⟩, 58) := ⟨⟨by decide +kernel, by decide +kernel⟩, List.mem_of_getElem? (i := 924) (by decide +kernel), List.mem_of_getElem? (i := 1361) (by decide +kernel), List.mem_of_getElem? (i := 1362) (by decide +kernel)⟩
theorem lw_p83 : lw_okq (⟨"BorderThroughBedModel", "find", "()Z"⟩, 58) := ⟨⟨by decide +kernel, by decide +kernel⟩, List.mem_of_getElem? (i := 924) (by decide +kernel), List.mem_of_getElem? (i := 1369) (by decide +kernel), List.mem_of_getElem? (i := 1370) (by decide +kernel)⟩
theorem lw_p84 : lw_okq (⟨"BorderThroughBedModel", "areAllKept", "()Z"⟩, 58) := ⟨⟨by decide +kernel, by decide +kernel⟩, List.mem_of_getElem? (i := 924) (by decide +kernel), List.mem_of_getElem? (i := 1373) (by decide +kernel), List.mem_of_getElem? (i := 1374) (by decide +kernel)⟩
theorem lw_p85 : lw_okq (⟨"BorderThroughBedModel", "findOne", "()Z"⟩, 58) := ⟨⟨by decide +kernel, by decide +kernel⟩, List.mem_of_getElem? (i := 924) (by decide +kernel), List.mem_of_getElem? (i := 1377) (by decide +kernel), List.mem_of_getElem? (i := 1378) (by decide +kernel)⟩
theorem lw_p86 : lw_okq (⟨"BorderThroughBedModel", "isPlace", "(II)Z"⟩, 58) := ⟨⟨by decide +kernel, by decide +kernel⟩, List.mem_of_getElem? (i := 924) (by decide +kernel), List.mem_of_getElem? (i := 1381) (by decide +kernel), List.mem_of_getElem? (i := 1382) (by decide +kernel)⟩
theorem lw_p87 : lw_okq (⟨"BorderThroughBedModel", "findTwo", "()Z"⟩, 58) := ⟨⟨by decide +kernel, by decide +kernel⟩, List.mem_of_getElem? (i := 924) (by decide +kernel), List.mem_of_getElem? (i := 1385) (by decide +kernel), List.mem_of_getElem? (i := 1386) (by decide +kernel)⟩
theorem lw_p88 : lw_okq (⟨"BorderThroughBedModel", "findSecond", "(I)Z"⟩, 58) := ⟨⟨by decide +kernel, by decide +kernel⟩, List.mem_of_getElem? (i := 924) (by decide +kernel), List.mem_of_getElem? (i := 1389) (by decide +kernel), List.mem_of_getElem? (i := 1390) (by decide +kernel)⟩
theorem lw_p89 : lw_okq (⟨"BorderThroughBedModel", "fitsNow", "()I"⟩, 58) := ⟨⟨by decide +kernel, by decide +kernel⟩, List.mem_of_getElem? (i := 924) (by decide +kernel), List.mem_of_getElem? (i := 1421) (by decide +kernel), List.mem_of_getElem? (i := 1422) (by decide +kernel)⟩
theorem lw_p90 : lw_okq (⟨"BorderThroughBedModel", "howMany", "(I)I"⟩, 58) := ⟨⟨by decide +kernel, by decide +kernel⟩, List.mem_of_getElem? (i := 924) (by decide +kernel), List.mem_of_getElem? (i := 1437) (by decide +kernel), List.mem_of_getElem? (i := 1438) (by decide +kernel)⟩
theorem lw_p91 : lw_okq (⟨"BorderThroughBedModel", "mixHouse", "()V"⟩, 58) := ⟨⟨by decide +kernel, by decide +kernel⟩, List.mem_of_getElem? (i := 924) (by decide +kernel), List.mem_of_getElem? (i := 1446) (by decide +kernel), List.mem_of_getElem? (i := 1447) (by decide +kernel)⟩
theorem lw_p92 : lw_okq (⟨"BorderThroughBedModel", "mix", "(J)V"⟩, 58) := ⟨⟨by decide +kernel, by decide +kernel⟩, List.mem_of_getElem? (i := 924) (by decide +kernel), List.mem_of_getElem? (i := 1450) (by decide +kernel), List.mem_of_getElem? (i := 1451) (by decide +kernel)⟩
def lw_privs_6 : List (MethodName × Nat) := [(⟨"BorderThroughBedModel", "isKeptInBed", "(II)Z"⟩, 58), (⟨"BorderThroughBedModel", "isKeptAt", "(II)Z"⟩, 58), (⟨"BorderThroughBedModel", "isKeptAnywhere", "(II)Z"⟩, 58), (⟨"BorderThroughBedModel", "find", "()Z"⟩, 58), (⟨"BorderThroughBedModel", "areAllKept", "()Z"⟩, 58), (⟨"BorderThroughBedModel", "findOne", "()Z"⟩, 58), (⟨"BorderThroughBedModel", "isPlace", "(II)Z"⟩, 58), (⟨"BorderThroughBedModel", "findTwo", "()Z"⟩, 58), (⟨"BorderThroughBedModel", "findSecond", "(I)Z"⟩, 58), (⟨"BorderThroughBedModel", "fitsNow", "()I"⟩, 58), (⟨"BorderThroughBedModel", "howMany", "(I)I"⟩, 58), (⟨"BorderThroughBedModel", "mixHouse", "()V"⟩, 58), (⟨"BorderThroughBedModel", "mix", "(J)V"⟩, 58)]
theorem lw_r6 : ∀ q ∈ lw_privs_6, lw_okq q := List.forall_mem_cons.mpr ⟨lw_p80, List.forall_mem_cons.mpr ⟨lw_p81, List.forall_mem_cons.mpr ⟨lw_p82, List.forall_mem_cons.mpr ⟨lw_p83, List.forall_mem_cons.mpr ⟨lw_p84, List.forall_mem_cons.mpr ⟨lw_p85, List.forall_mem_cons.mpr ⟨lw_p86, List.forall_mem_cons.mpr ⟨lw_p87, List.forall_mem_cons.mpr ⟨lw_p88, List.forall_mem_cons.mpr ⟨lw_p89, List.forall_mem_cons.mpr ⟨lw_p90, List.forall_mem_cons.mpr ⟨lw_p91, List.forall_mem_cons.mpr ⟨lw_p92, fun _ h => absurd h List.not_mem_nil⟩⟩⟩⟩⟩⟩⟩⟩⟩⟩⟩⟩⟩
def lw_privs : List (MethodName × Nat) := lw_privs_1 ++ (lw_privs_2 ++ (lw_privs_3 ++ (lw_privs_4 ++ (lw_privs_5 ++ (lw_privs_6)))))
def lw_tbl : List Cond := k2_sels lw_privs ++ tables_1
theorem lw_privs_ok : ∀ q ∈ lw_privs, lw_okq q := by
  show ∀ q ∈ lw_privs_1 ++ (lw_privs_2 ++ (lw_privs_3 ++ (lw_privs_4 ++ (lw_privs_5 ++ (lw_privs_6))))), lw_okq q
  exact List.forall_mem_append.mpr ⟨lw_r1, List.forall_mem_append.mpr ⟨lw_r2, List.forall_mem_append.mpr ⟨lw_r3, List.forall_mem_append.mpr ⟨lw_r4, List.forall_mem_append.mpr ⟨lw_r5, lw_r6⟩⟩⟩⟩⟩
-- ===== end of PART A; then your names; then what follows =====
end
section
/-! TABLES of the pure machine, printed by wip/whole/gen2.py out of the claim's own listing: classes, objects, methods, blocks, pools -/
def ex_R : List String := ["BorderThroughBed$Day", "BorderThroughBed$House", "BorderThroughBed$HouseText", "BorderThroughBed$Keeping", "BorderThroughBed$LawText", "BorderThroughBed$Laws", "BorderThroughBed$Mover", "BorderThroughBed$Page", "BorderThroughBed$Table", "BorderThroughBed$Text", "BorderThroughBed", "BorderThroughBedModel"]
def ex_Rn (c : Nat) : String := ex_R.getD c ""
def ex_T0 : u_T := fun k => match k with
  | 0 => ("BorderThroughBed$Day", "things", "LBorderThroughBed$Table;", true)
  | 1 => ("BorderThroughBed$Day", "events", "LBorderThroughBed$Table;", true)
  | 2 => ("BorderThroughBed$Day", "habits", "LBorderThroughBed$Table;", true)
  | _ => ("BorderThroughBed$Day", "judgments", "LBorderThroughBed$Table;", true)
def ex_ty0 : Nat → FieldType := fun k => match k with
  | 0 => .object "BorderThroughBed$Table"
  | 1 => .object "BorderThroughBed$Table"
  | 2 => .object "BorderThroughBed$Table"
  | _ => .object "BorderThroughBed$Table"
def ex_T1 : u_T := fun k => match k with
  | 0 => ("BorderThroughBed$House", "kinds", "[I", true)
  | 1 => ("BorderThroughBed$House", "rowOf", "[I", true)
  | 2 => ("BorderThroughBed$House", "columnOf", "[I", true)
  | 3 => ("BorderThroughBed$House", "lines", "[I", true)
  | 4 => ("BorderThroughBed$House", "beside", "[I", true)
  | 5 => ("BorderThroughBed$House", "ahead", "[I", true)
  | 6 => ("BorderThroughBed$House", "bedSpots", "[I", true)
  | 7 => ("BorderThroughBed$House", "otherSpots", "[I", true)
  | 8 => ("BorderThroughBed$House", "doors", "[I", true)
  | 9 => ("BorderThroughBed$House", "doorSteps", "[I", true)
  | 10 => ("BorderThroughBed$House", "costs", "[I", true)
  | 11 => ("BorderThroughBed$House", "cells", "I", false)
  | 12 => ("BorderThroughBed$House", "rows", "I", false)
  | _ => ("BorderThroughBed$House", "width", "I", false)
def ex_ty1 : Nat → FieldType := fun k => match k with
  | 0 => .array .int
  | 1 => .array .int
  | 2 => .array .int
  | 3 => .array .int
  | 4 => .array .int
  | 5 => .array .int
  | 6 => .array .int
  | 7 => .array .int
  | 8 => .array .int
  | 9 => .array .int
  | 10 => .array .int
  | 11 => .int
  | 12 => .int
  | _ => .int
def ex_T2 : u_T := fun k => match k with
  | 0 => ("BorderThroughBed$HouseText", "row", "I", false)
  | 1 => ("BorderThroughBed$HouseText", "width", "I", false)
  | 2 => ("BorderThroughBed$HouseText", "column", "I", false)
  | _ => ("BorderThroughBed$HouseText", "hasLine", "Z", false)
def ex_ty2 : Nat → FieldType := fun k => match k with
  | 0 => .int
  | 1 => .int
  | 2 => .int
  | _ => .boolean
def ex_T3 : u_T := fun k => match k with
  | 0 => ("BorderThroughBed$Keeping", "acts", "[I", true)
  | 1 => ("BorderThroughBed$Keeping", "good", "[I", true)
  | _ => ("BorderThroughBed$Keeping", "size", "I", false)
def ex_ty3 : Nat → FieldType := fun k => match k with
  | 0 => .array .int
  | 1 => .array .int
  | _ => .int
def ex_T4 : u_T := fun k => match k with
  | 0 => ("BorderThroughBed$LawText", "side", "I", false)
  | 1 => ("BorderThroughBed$LawText", "act", "I", false)
  | 2 => ("BorderThroughBed$LawText", "from", "I", false)
  | 3 => ("BorderThroughBed$LawText", "to", "I", false)
  | 4 => ("BorderThroughBed$LawText", "kind", "I", false)
  | 5 => ("BorderThroughBed$LawText", "stage", "I", false)
  | _ => ("BorderThroughBed$LawText", "digits", "I", false)
def ex_ty4 : Nat → FieldType := fun k => match k with
  | 0 => .int
  | 1 => .int
  | 2 => .int
  | 3 => .int
  | 4 => .int
  | 5 => .int
  | _ => .int
def ex_T5 : u_T := fun k => match k with
  | _ => ("BorderThroughBed$Laws", "laws", "LBorderThroughBed$Table;", true)
def ex_ty5 : Nat → FieldType := fun k => match k with
  | _ => .object "BorderThroughBed$Table"
def ex_T6 : u_T := fun k => match k with
  | 0 => ("BorderThroughBed$Mover", "kinds", "[I", true)
  | 1 => ("BorderThroughBed$Mover", "places", "[I", true)
  | 2 => ("BorderThroughBed$Mover", "spots", "[I", true)
  | 3 => ("BorderThroughBed$Mover", "answer", "[I", true)
  | 4 => ("BorderThroughBed$Mover", "size", "I", false)
  | _ => ("BorderThroughBed$Mover", "hardest", "I", false)
def ex_ty6 : Nat → FieldType := fun k => match k with
  | 0 => .array .int
  | 1 => .array .int
  | 2 => .array .int
  | 3 => .array .int
  | 4 => .int
  | _ => .int
def ex_T7 : u_T := fun k => match k with
  | 0 => ("BorderThroughBed$Page", "codes", "[I", true)
  | _ => ("BorderThroughBed$Page", "size", "I", false)
def ex_ty7 : Nat → FieldType := fun k => match k with
  | 0 => .array .int
  | _ => .int
def ex_T8 : u_T := fun k => match k with
  | 0 => ("BorderThroughBed$Table", "numbers", "[I", true)
  | 1 => ("BorderThroughBed$Table", "most", "I", true)
  | _ => ("BorderThroughBed$Table", "size", "I", false)
def ex_ty8 : Nat → FieldType := fun k => match k with
  | 0 => .array .int
  | 1 => .int
  | _ => .int
def ex_T9 : u_T := fun k => match k with
  | _ => ("", "", "", false)
def ex_ty9 : Nat → FieldType := fun k => match k with
  | _ => .object ""
def ex_T10 : u_T := fun k => match k with
  | 0 => ("BorderThroughBed", "page", "LBorderThroughBed$Page;", true)
  | 1 => ("BorderThroughBed", "houseText", "LBorderThroughBed$HouseText;", true)
  | 2 => ("BorderThroughBed", "lawText", "LBorderThroughBed$LawText;", true)
  | 3 => ("BorderThroughBed", "house", "LBorderThroughBed$House;", true)
  | 4 => ("BorderThroughBed", "laws", "LBorderThroughBed$Laws;", true)
  | 5 => ("BorderThroughBed", "now", "LBorderThroughBed$Day;", true)
  | 6 => ("BorderThroughBed", "imageDay", "LBorderThroughBed$Day;", true)
  | 7 => ("BorderThroughBed", "keeping", "LBorderThroughBed$Keeping;", true)
  | 8 => ("BorderThroughBed", "mover", "LBorderThroughBed$Mover;", true)
  | 9 => ("BorderThroughBed", "imageIsKept", "Z", false)
  | 10 => ("BorderThroughBed", "housesRead", "I", false)
  | _ => ("BorderThroughBed", "movesDone", "I", false)
def ex_ty10 : Nat → FieldType := fun k => match k with
  | 0 => .object "BorderThroughBed$Page"
  | 1 => .object "BorderThroughBed$HouseText"
  | 2 => .object "BorderThroughBed$LawText"
  | 3 => .object "BorderThroughBed$House"
  | 4 => .object "BorderThroughBed$Laws"
  | 5 => .object "BorderThroughBed$Day"
  | 6 => .object "BorderThroughBed$Day"
  | 7 => .object "BorderThroughBed$Keeping"
  | 8 => .object "BorderThroughBed$Mover"
  | 9 => .boolean
  | 10 => .int
  | _ => .int
def ex_T11 : u_T := fun k => match k with
  | 0 => ("BorderThroughBedModel", "rows", "I", false)
  | 1 => ("BorderThroughBedModel", "columns", "I", false)
  | 2 => ("BorderThroughBedModel", "houses", "I", false)
  | 3 => ("BorderThroughBedModel", "sort", "[I", true)
  | 4 => ("BorderThroughBedModel", "line", "[I", true)
  | 5 => ("BorderThroughBedModel", "laws", "I", false)
  | 6 => ("BorderThroughBedModel", "lawSide", "[I", true)
  | 7 => ("BorderThroughBedModel", "lawAct", "[I", true)
  | 8 => ("BorderThroughBedModel", "lawFrom", "[I", true)
  | 9 => ("BorderThroughBedModel", "lawTo", "[I", true)
  | 10 => ("BorderThroughBedModel", "lawKind", "[I", true)
  | 11 => ("BorderThroughBedModel", "events", "I", false)
  | 12 => ("BorderThroughBedModel", "eventOf", "[I", true)
  | 13 => ("BorderThroughBedModel", "things", "I", false)
  | 14 => ("BorderThroughBedModel", "thingKind", "[I", true)
  | 15 => ("BorderThroughBedModel", "thingCell", "[I", true)
  | 16 => ("BorderThroughBedModel", "thingWay", "[I", true)
  | 17 => ("BorderThroughBedModel", "habits", "I", false)
  | 18 => ("BorderThroughBedModel", "habitAct", "[I", true)
  | 19 => ("BorderThroughBedModel", "habitHour", "[I", true)
  | 20 => ("BorderThroughBedModel", "judgments", "I", false)
  | 21 => ("BorderThroughBedModel", "judgedCell", "[I", true)
  | 22 => ("BorderThroughBedModel", "judgedSide", "[I", true)
  | 23 => ("BorderThroughBedModel", "asks", "I", false)
  | 24 => ("BorderThroughBedModel", "pageLength", "I", false)
  | 25 => ("BorderThroughBedModel", "page", "[B", true)
  | 26 => ("BorderThroughBedModel", "isKept", "Z", false)
  | 27 => ("BorderThroughBedModel", "keptHouse", "I", false)
  | 28 => ("BorderThroughBedModel", "keptThings", "I", false)
  | 29 => ("BorderThroughBedModel", "keptEvents", "I", false)
  | 30 => ("BorderThroughBedModel", "keptHabits", "I", false)
  | 31 => ("BorderThroughBedModel", "keptJudgments", "I", false)
  | 32 => ("BorderThroughBedModel", "keptThing", "[I", true)
  | 33 => ("BorderThroughBedModel", "keptEvent", "[I", true)
  | 34 => ("BorderThroughBedModel", "keptHabit", "[I", true)
  | 35 => ("BorderThroughBedModel", "keptJudged", "[I", true)
  | 36 => ("BorderThroughBedModel", "faultAt", "I", false)
  | 37 => ("BorderThroughBedModel", "isWhole", "Z", false)
  | 38 => ("BorderThroughBedModel", "newRows", "I", false)
  | 39 => ("BorderThroughBedModel", "newColumns", "I", false)
  | 40 => ("BorderThroughBedModel", "newHere", "I", false)
  | 41 => ("BorderThroughBedModel", "hasLine", "Z", false)
  | 42 => ("BorderThroughBedModel", "newSort", "[I", true)
  | 43 => ("BorderThroughBedModel", "newLine", "[I", true)
  | 44 => ("BorderThroughBedModel", "newSide", "I", false)
  | 45 => ("BorderThroughBedModel", "newAct", "I", false)
  | 46 => ("BorderThroughBedModel", "newFrom", "I", false)
  | 47 => ("BorderThroughBedModel", "newTo", "I", false)
  | 48 => ("BorderThroughBedModel", "newKind", "I", false)
  | 49 => ("BorderThroughBedModel", "shift", "I", false)
  | 50 => ("BorderThroughBedModel", "far", "[I", true)
  | 51 => ("BorderThroughBedModel", "queue", "[I", true)
  | 52 => ("BorderThroughBedModel", "movedMany", "I", false)
  | 53 => ("BorderThroughBedModel", "movedFirst", "I", false)
  | 54 => ("BorderThroughBedModel", "placeFirst", "I", false)
  | 55 => ("BorderThroughBedModel", "movedSecond", "I", false)
  | 56 => ("BorderThroughBedModel", "placeSecond", "I", false)
  | _ => ("BorderThroughBedModel", "h", "J", false)
def ex_ty11 : Nat → FieldType := fun k => match k with
  | 0 => .int
  | 1 => .int
  | 2 => .int
  | 3 => .array .int
  | 4 => .array .int
  | 5 => .int
  | 6 => .array .int
  | 7 => .array .int
  | 8 => .array .int
  | 9 => .array .int
  | 10 => .array .int
  | 11 => .int
  | 12 => .array .int
  | 13 => .int
  | 14 => .array .int
  | 15 => .array .int
  | 16 => .array .int
  | 17 => .int
  | 18 => .array .int
  | 19 => .array .int
  | 20 => .int
  | 21 => .array .int
  | 22 => .array .int
  | 23 => .int
  | 24 => .int
  | 25 => .array .byte
  | 26 => .boolean
  | 27 => .int
  | 28 => .int
  | 29 => .int
  | 30 => .int
  | 31 => .int
  | 32 => .array .int
  | 33 => .array .int
  | 34 => .array .int
  | 35 => .array .int
  | 36 => .int
  | 37 => .boolean
  | 38 => .int
  | 39 => .int
  | 40 => .int
  | 41 => .boolean
  | 42 => .array .int
  | 43 => .array .int
  | 44 => .int
  | 45 => .int
  | 46 => .int
  | 47 => .int
  | 48 => .int
  | 49 => .int
  | 50 => .array .int
  | 51 => .array .int
  | 52 => .int
  | 53 => .int
  | 54 => .int
  | 55 => .int
  | 56 => .int
  | _ => .long
def ex_T (c : Nat) : u_T := match c with
  | 0 => ex_T0
  | 1 => ex_T1
  | 2 => ex_T2
  | 3 => ex_T3
  | 4 => ex_T4
  | 5 => ex_T5
  | 6 => ex_T6
  | 7 => ex_T7
  | 8 => ex_T8
  | 9 => ex_T9
  | 10 => ex_T10
  | _ => ex_T11
def ex_ty (c : Nat) : Nat → FieldType := match c with
  | 0 => ex_ty0
  | 1 => ex_ty1
  | 2 => ex_ty2
  | 3 => ex_ty3
  | 4 => ex_ty4
  | 5 => ex_ty5
  | 6 => ex_ty6
  | 7 => ex_ty7
  | 8 => ex_ty8
  | 9 => ex_ty9
  | 10 => ex_ty10
  | _ => ex_ty11
def ex_N (c : Nat) : Nat := ([4, 14, 4, 3, 7, 1, 6, 2, 3, 0, 12, 58] : List Nat).getD c 0
def ex_cl : List vw_C := [("BorderThroughBed$Day", ex_T0, 4), ("BorderThroughBed$House", ex_T1, 14), ("BorderThroughBed$HouseText", ex_T2, 4), ("BorderThroughBed$Keeping", ex_T3, 3), ("BorderThroughBed$LawText", ex_T4, 7), ("BorderThroughBed$Laws", ex_T5, 1), ("BorderThroughBed$Mover", ex_T6, 6), ("BorderThroughBed$Page", ex_T7, 2), ("BorderThroughBed$Table", ex_T8, 3), ("BorderThroughBed$Text", ex_T9, 0), ("BorderThroughBed", ex_T10, 12), ("BorderThroughBedModel", ex_T11, 58)]
def ex_Sh : List (Nat × List Nat) := [(10, [4, 6, 7, 8, 20, 23, 32, 41, 44, 2, 0, 0]), (7, [5, 0]), (12, [40]), (2, [0, 0, 0, 2]), (4, [0, 0, 0, 0, 0, 0, 0]), (1, [9, 10, 11, 12, 13, 14, 15, 16, 17, 18, 19, 0, 0, 0]), (12, [24]), (12, [24]), (12, [24]), (12, [4]), (12, [96]), (12, [96]), (12, [96]), (12, [96]), (12, [24]), (12, [24]), (12, [24]), (5, [21]), (8, [22, 0, 0]), (12, [60]), (0, [24, 26, 28, 30]), (8, [25, 0, 0]), (12, [60]), (8, [27, 0, 0]), (12, [60]), (8, [29, 0, 0]), (12, [60]), (8, [31, 0, 0]), (12, [60]), (0, [33, 35, 37, 39]), (8, [34, 0, 0]), (12, [60]), (8, [36, 0, 0]), (12, [60]), (8, [38, 0, 0]), (12, [60]), (8, [40, 0, 0]), (12, [60]), (3, [42, 43, 0]), (12, [6]), (12, [144]), (6, [45, 46, 47, 48, 0, 0]), (12, [3]), (12, [3]), (12, [3]), (12, [5]), (11, [0, 0, 0, 50, 51, 0, 52, 53, 54, 55, 56, 0, 57, 0, 58, 59, 60, 0, 61, 62, 0, 63, 64, 0, 0, 65, 2, 0, 0, 0, 0, 0, 66, 67, 68, 69, 0, 2, 0, 0, 0, 2, 70, 71, 0, 0, 0, 0, 0, 0, 72, 73, 0, 0, 0, 0, 0, 1]), (12, [24]), (12, [4]), (12, [8]), (12, [8]), (12, [8]), (12, [8]), (12, [8]), (12, [60]), (12, [3]), (12, [3]), (12, [3]), (12, [6]), (12, [6]), (12, [10]), (12, [10]), (13, [40]), (12, [9]), (12, [60]), (12, [12]), (12, [20]), (12, [24]), (12, [4]), (12, [24]), (12, [24])]
abbrev ex_NO : Nat := 71
def ex_M0 : List (MethodName × ByteArray × Nat × Option FieldType × Nat) := [(⟨"BorderThroughBed$Day", "clear", "()V"⟩, prog_2_method_2_code, 1, none, 0),
  (⟨"BorderThroughBed$Day", "copy", "(LBorderThroughBed$Day;)V"⟩, prog_2_method_3_code, 2, none, 0),
  (⟨"BorderThroughBed$Day", "isOfKind", "(II)Z"⟩, prog_2_method_4_code, 2, some .boolean, 0),
  (⟨"BorderThroughBed$Day", "kindOf", "(I)I"⟩, prog_2_method_5_code, 2, some .int, 0),
  (⟨"BorderThroughBed$Day", "cellOf", "(I)I"⟩, prog_2_method_6_code, 2, some .int, 0),
  (⟨"BorderThroughBed$Day", "wayOf", "(I)I"⟩, prog_2_method_7_code, 2, some .int, 0),
  (⟨"BorderThroughBed$Day", "placeOf", "(I)I"⟩, prog_2_method_8_code, 2, some .int, 0),
  (⟨"BorderThroughBed$Day", "setPlace", "(III)V"⟩, prog_2_method_9_code, 4, none, 0),
  (⟨"BorderThroughBed$Day", "lastCellOf", "(LBorderThroughBed$House;I)I"⟩, prog_2_method_10_code, 4, some .int, 0),
  (⟨"BorderThroughBed$Day", "takenBut", "(LBorderThroughBed$House;I)I"⟩, prog_2_method_11_code, 5, some .int, 0),
  (⟨"BorderThroughBed$Day", "thingAt", "(LBorderThroughBed$House;I)I"⟩, prog_2_method_12_code, 4, some .int, 0),
  (⟨"BorderThroughBed$House", "read", "(LBorderThroughBed$Page;)V"⟩, prog_3_method_2_code, 6, none, 1),
  (⟨"BorderThroughBed$House", "setLine", "(II)V"⟩, prog_3_method_3_code, 3, none, 1),
  (⟨"BorderThroughBed$House", "addCell", "(III)V"⟩, prog_3_method_4_code, 4, none, 1),
  (⟨"BorderThroughBed$House", "joinCells", "()V"⟩, prog_3_method_5_code, 2, none, 1),
  (⟨"BorderThroughBed$House", "joinPlace", "(III)V"⟩, prog_3_method_6_code, 5, none, 1),
  (⟨"BorderThroughBed$House", "cellAt", "(II)I"⟩, prog_3_method_7_code, 3, some .int, 1),
  (⟨"BorderThroughBed$House", "findDoors", "()V"⟩, prog_3_method_8_code, 2, none, 1),
  (⟨"BorderThroughBed$House", "findWhereNearest", "(I)V"⟩, prog_3_method_9_code, 3, none, 1),
  (⟨"BorderThroughBed$House", "isThere", "()Z"⟩, prog_3_method_10_code, 1, some .boolean, 1),
  (⟨"BorderThroughBed$House", "cells", "()I"⟩, prog_3_method_11_code, 1, some .int, 1),
  (⟨"BorderThroughBed$House", "has", "(I)Z"⟩, prog_3_method_12_code, 2, some .boolean, 1),
  (⟨"BorderThroughBed$House", "kindOf", "(I)I"⟩, prog_3_method_13_code, 2, some .int, 1),
  (⟨"BorderThroughBed$House", "isOpen", "(I)Z"⟩, prog_3_method_14_code, 2, some .boolean, 1),
  (⟨"BorderThroughBed$House", "isFloor", "(I)Z"⟩, prog_3_method_15_code, 2, some .boolean, 1),
  (⟨"BorderThroughBed$House", "sideOf", "(II)I"⟩, prog_3_method_16_code, 3, some .int, 1),
  (⟨"BorderThroughBed$House", "next", "(II)I"⟩, prog_3_method_17_code, 4, some .int, 1),
  (⟨"BorderThroughBed$House", "partAt", "(III)I"⟩, prog_3_method_18_code, 5, some .int, 1),
  (⟨"BorderThroughBed$House", "doorOf", "(I)I"⟩, prog_3_method_19_code, 2, some .int, 1),
  (⟨"BorderThroughBed$House", "doorOrOwn", "(I)I"⟩, prog_3_method_20_code, 3, some .int, 1),
  (⟨"BorderThroughBed$House", "spot", "(II)I"⟩, prog_3_method_21_code, 3, some .int, 1),
  (⟨"BorderThroughBed$House", "cost", "(IIII)I"⟩, prog_3_method_22_code, 5, some .int, 1),
  (⟨"BorderThroughBed$House", "measure", "(III)V"⟩, prog_3_method_23_code, 8, none, 1),
  (⟨"BorderThroughBed$House", "goOn", "(II)Z"⟩, prog_3_method_24_code, 7, some .boolean, 1),
  (⟨"BorderThroughBed$HouseText", "begin", "()V"⟩, prog_4_method_2_code, 1, none, 2),
  (⟨"BorderThroughBed$HouseText", "takes", "(I)Z"⟩, prog_4_method_3_code, 2, some .boolean, 2),
  (⟨"BorderThroughBed$HouseText", "takesLine", "()Z"⟩, prog_4_method_4_code, 1, some .boolean, 2),
  (⟨"BorderThroughBed$HouseText", "takesRowEnd", "()Z"⟩, prog_4_method_5_code, 1, some .boolean, 2),
  (⟨"BorderThroughBed$HouseText", "takesCell", "()Z"⟩, prog_4_method_6_code, 1, some .boolean, 2),
  (⟨"BorderThroughBed$HouseText", "isRowWhole", "()Z"⟩, prog_4_method_7_code, 1, some .boolean, 2),
  (⟨"BorderThroughBed$HouseText", "isWhole", "()Z"⟩, prog_4_method_8_code, 1, some .boolean, 2),
  (⟨"BorderThroughBed$Keeping", "learn", "(LBorderThroughBed$House;LBorderThroughBed$Laws;LBorderThroughBed$Day;)V"⟩, prog_5_method_2_code, 6, none, 3),
  (⟨"BorderThroughBed$Keeping", "learnOne", "(LBorderThroughBed$House;LBorderThroughBed$Laws;II)V"⟩, prog_5_method_3_code, 8, none, 3),
  (⟨"BorderThroughBed$Keeping", "postureOf", "(I)I"⟩, prog_5_method_4_code, 1, some .int, 3),
  (⟨"BorderThroughBed$Keeping", "note", "(LBorderThroughBed$House;III)V"⟩, prog_5_method_5_code, 6, none, 3),
  (⟨"BorderThroughBed$Keeping", "add", "(III)V"⟩, prog_5_method_6_code, 4, none, 3),
  (⟨"BorderThroughBed$Keeping", "size", "()I"⟩, prog_5_method_7_code, 1, some .int, 3),
  (⟨"BorderThroughBed$Keeping", "actOf", "(I)I"⟩, prog_5_method_8_code, 2, some .int, 3),
  (⟨"BorderThroughBed$Keeping", "wantsThing", "(I)Z"⟩, prog_5_method_9_code, 2, some .boolean, 3),
  (⟨"BorderThroughBed$Keeping", "isKeptBy", "(IIII)Z"⟩, prog_5_method_10_code, 7, some .boolean, 3),
  (⟨"BorderThroughBed$Keeping", "isKeptWithout", "(II)Z"⟩, prog_5_method_11_code, 3, some .boolean, 3),
  (⟨"BorderThroughBed$Keeping", "goodAt", "(II)I"⟩, prog_5_method_12_code, 4, some .int, 3),
  (⟨"BorderThroughBed$Keeping", "isHopeless", "()Z"⟩, prog_5_method_13_code, 4, some .boolean, 3),
  (⟨"BorderThroughBed$LawText", "begin", "()V"⟩, prog_6_method_2_code, 1, none, 4),
  (⟨"BorderThroughBed$LawText", "takes", "(I)Z"⟩, prog_6_method_3_code, 2, some .boolean, 4),
  (⟨"BorderThroughBed$LawText", "takesSide", "(I)Z"⟩, prog_6_method_4_code, 2, some .boolean, 4),
  (⟨"BorderThroughBed$LawText", "takesAct", "(I)Z"⟩, prog_6_method_5_code, 2, some .boolean, 4),
  (⟨"BorderThroughBed$LawText", "takesFrom", "(I)Z"⟩, prog_6_method_6_code, 3, some .boolean, 4),
  (⟨"BorderThroughBed$LawText", "takesTo", "(I)Z"⟩, prog_6_method_7_code, 3, some .boolean, 4),
  (⟨"BorderThroughBed$LawText", "hourWith", "(II)I"⟩, prog_6_method_8_code, 4, some .int, 4)]
def ex_M1 : List (MethodName × ByteArray × Nat × Option FieldType × Nat) := [(⟨"BorderThroughBed$LawText", "kindTold", "(I)I"⟩, prog_6_method_9_code, 1, some .int, 4),
  (⟨"BorderThroughBed$LawText", "isWhole", "()Z"⟩, prog_6_method_10_code, 1, some .boolean, 4),
  (⟨"BorderThroughBed$LawText", "number", "(I)I"⟩, prog_6_method_11_code, 2, some .int, 4),
  (⟨"BorderThroughBed$Laws", "isOfKind", "(II)Z"⟩, prog_7_method_2_code, 2, some .boolean, 5),
  (⟨"BorderThroughBed$Laws", "size", "()I"⟩, prog_7_method_3_code, 1, some .int, 5),
  (⟨"BorderThroughBed$Laws", "isFull", "()Z"⟩, prog_7_method_4_code, 1, some .boolean, 5),
  (⟨"BorderThroughBed$Laws", "add", "(LBorderThroughBed$LawText;)I"⟩, prog_7_method_5_code, 2, some .int, 5),
  (⟨"BorderThroughBed$Laws", "told", "(II)I"⟩, prog_7_method_6_code, 3, some .int, 5),
  (⟨"BorderThroughBed$Laws", "broken", "(LBorderThroughBed$House;IIIII)I"⟩, prog_7_method_7_code, 9, some .int, 5),
  (⟨"BorderThroughBed$Laws", "holds", "(II)Z"⟩, prog_7_method_8_code, 5, some .boolean, 5),
  (⟨"BorderThroughBed$Laws", "counts", "(LBorderThroughBed$House;IIII)Z"⟩, prog_7_method_9_code, 8, some .boolean, 5),
  (⟨"BorderThroughBed$Mover", "begin", "(LBorderThroughBed$House;LBorderThroughBed$Day;)V"⟩, prog_8_method_2_code, 4, none, 6),
  (⟨"BorderThroughBed$Mover", "told", "(I)I"⟩, prog_8_method_3_code, 2, some .int, 6),
  (⟨"BorderThroughBed$Mover", "isDoneByNone", "(LBorderThroughBed$Keeping;)Z"⟩, prog_8_method_4_code, 3, some .boolean, 6),
  (⟨"BorderThroughBed$Mover", "tell", "(III)V"⟩, prog_8_method_5_code, 4, none, 6),
  (⟨"BorderThroughBed$Mover", "placeOf", "(I)I"⟩, prog_8_method_6_code, 2, some .int, 6),
  (⟨"BorderThroughBed$Mover", "isDoneByOne", "(LBorderThroughBed$House;LBorderThroughBed$Keeping;)Z"⟩, prog_8_method_7_code, 4, some .boolean, 6),
  (⟨"BorderThroughBed$Mover", "isDoneBy", "(ILBorderThroughBed$House;LBorderThroughBed$Keeping;)Z"⟩, prog_8_method_8_code, 9, some .boolean, 6),
  (⟨"BorderThroughBed$Mover", "searchTwo", "(LBorderThroughBed$House;LBorderThroughBed$Keeping;)V"⟩, prog_8_method_9_code, 8, none, 6),
  (⟨"BorderThroughBed$Mover", "isDoneWith", "(ILBorderThroughBed$House;LBorderThroughBed$Keeping;)Z"⟩, prog_8_method_10_code, 6, some .boolean, 6),
  (⟨"BorderThroughBed$Mover", "takenBut", "(II)I"⟩, prog_8_method_11_code, 5, some .int, 6),
  (⟨"BorderThroughBed$Mover", "allKept", "(LBorderThroughBed$Keeping;I)Z"⟩, prog_8_method_12_code, 4, some .boolean, 6),
  (⟨"BorderThroughBed$Mover", "isKept", "(LBorderThroughBed$Keeping;I)Z"⟩, prog_8_method_13_code, 3, some .boolean, 6),
  (⟨"BorderThroughBed$Mover", "isKeptNow", "(LBorderThroughBed$Keeping;II)Z"⟩, prog_8_method_14_code, 5, some .boolean, 6),
  (⟨"BorderThroughBed$Page", "lettersIn", "(J)I"⟩, prog_9_method_2_code, 6, some .int, 7),
  (⟨"BorderThroughBed$Page", "codeIn", "(JI)I"⟩, prog_9_method_3_code, 3, some .int, 7),
  (⟨"BorderThroughBed$Page", "append", "(JI)V"⟩, prog_9_method_4_code, 5, none, 7),
  (⟨"BorderThroughBed$Page", "size", "()I"⟩, prog_9_method_5_code, 1, some .int, 7),
  (⟨"BorderThroughBed$Page", "codeAt", "(I)I"⟩, prog_9_method_6_code, 2, some .int, 7),
  (⟨"BorderThroughBed$Page", "clear", "()V"⟩, prog_9_method_7_code, 1, none, 7),
  (⟨"BorderThroughBed$Table", "size", "()I"⟩, prog_10_method_2_code, 1, some .int, 8),
  (⟨"BorderThroughBed$Table", "isFull", "()Z"⟩, prog_10_method_3_code, 1, some .boolean, 8),
  (⟨"BorderThroughBed$Table", "add", "(IIIII)I"⟩, prog_10_method_4_code, 7, some .int, 8),
  (⟨"BorderThroughBed$Table", "get", "(II)I"⟩, prog_10_method_5_code, 4, some .int, 8),
  (⟨"BorderThroughBed$Table", "set", "(III)V"⟩, prog_10_method_6_code, 5, none, 8),
  (⟨"BorderThroughBed$Table", "clear", "()V"⟩, prog_10_method_7_code, 1, none, 8),
  (⟨"BorderThroughBed$Table", "copy", "(LBorderThroughBed$Table;)V"⟩, prog_10_method_8_code, 2, none, 8),
  (⟨"BorderThroughBed$Text", "taken", "(LBorderThroughBed$Page;)I"⟩, prog_11_method_5_code, 3, some .int, 9),
  (⟨"BorderThroughBed$Text", "isOn", "(LBorderThroughBed$Page;)Z"⟩, prog_11_method_6_code, 2, some .boolean, 9),
  (⟨"BorderThroughBed", "letters", "(J)I"⟩, prog_1_method_2_code, 4, some .int, 10),
  (⟨"BorderThroughBed", "blank", "()I"⟩, prog_1_method_3_code, 2, some .int, 10),
  (⟨"BorderThroughBed", "fault", "(I)I"⟩, prog_1_method_4_code, 2, some .int, 10),
  (⟨"BorderThroughBed", "house", "()I"⟩, prog_1_method_5_code, 1, some .int, 10),
  (⟨"BorderThroughBed", "law", "()I"⟩, prog_1_method_6_code, 1, some .int, 10),
  (⟨"BorderThroughBed", "lawTold", "(II)I"⟩, prog_1_method_7_code, 3, some .int, 10),
  (⟨"BorderThroughBed", "asLaw", "(II)I"⟩, prog_1_method_8_code, 3, some .int, 10),
  (⟨"BorderThroughBed", "cell", "(II)I"⟩, prog_1_method_9_code, 3, some .int, 10),
  (⟨"BorderThroughBed", "part", "(IIII)I"⟩, prog_1_method_10_code, 5, some .int, 10),
  (⟨"BorderThroughBed", "against", "(IIIII)I"⟩, prog_1_method_11_code, 6, some .int, 10),
  (⟨"BorderThroughBed", "event", "(IIIII)I"⟩, prog_1_method_12_code, 6, some .int, 10),
  (⟨"BorderThroughBed", "first", "(I)I"⟩, prog_1_method_13_code, 3, some .int, 10),
  (⟨"BorderThroughBed", "map", "(IIII)I"⟩, prog_1_method_14_code, 7, some .int, 10),
  (⟨"BorderThroughBed", "thing", "(III)I"⟩, prog_1_method_15_code, 4, some .int, 10),
  (⟨"BorderThroughBed", "asThing", "(II)I"⟩, prog_1_method_16_code, 3, some .int, 10),
  (⟨"BorderThroughBed", "about", "(II)I"⟩, prog_1_method_17_code, 3, some .int, 10),
  (⟨"BorderThroughBed", "move", "(III)I"⟩, prog_1_method_18_code, 5, some .int, 10),
  (⟨"BorderThroughBed", "habit", "(II)I"⟩, prog_1_method_19_code, 3, some .int, 10),
  (⟨"BorderThroughBed", "kept", "()I"⟩, prog_1_method_20_code, 3, some .int, 10),
  (⟨"BorderThroughBed", "moves", "(I)I"⟩, prog_1_method_21_code, 2, some .int, 10),
  (⟨"BorderThroughBed", "steps", "(II)I"⟩, prog_1_method_22_code, 3, some .int, 10)]
def ex_M2 : List (MethodName × ByteArray × Nat × Option FieldType × Nat) := [(⟨"BorderThroughBed", "cheapest", "(III)I"⟩, prog_1_method_23_code, 4, some .int, 10),
  (⟨"BorderThroughBed", "whose", "(II)I"⟩, prog_1_method_24_code, 5, some .int, 10),
  (⟨"BorderThroughBed", "duty", "(IIIII)I"⟩, prog_1_method_25_code, 10, some .int, 10),
  (⟨"BorderThroughBed", "drawn", "(I)I"⟩, prog_1_method_26_code, 4, some .int, 10),
  (⟨"BorderThroughBed", "judgment", "(II)I"⟩, prog_1_method_27_code, 3, some .int, 10),
  (⟨"BorderThroughBed", "fits", "()I"⟩, prog_1_method_28_code, 1, some .int, 10),
  (⟨"BorderThroughBed", "image", "()I"⟩, prog_1_method_29_code, 1, some .int, 10),
  (⟨"BorderThroughBed", "restore", "()I"⟩, prog_1_method_30_code, 1, some .int, 10),
  (⟨"BorderThroughBed", "count", "(I)I"⟩, prog_1_method_31_code, 2, some .int, 10),
  (⟨"BorderThroughBed", "digest", "()J"⟩, prog_1_method_32_code, 4, some .long, 10),
  (⟨"BorderThroughBed", "below", "(II)Z"⟩, prog_1_method_33_code, 2, some .boolean, 10),
  (⟨"BorderThroughBed", "isDoing", "(III)Z"⟩, prog_1_method_34_code, 3, some .boolean, 10),
  (⟨"BorderThroughBed", "leastBit", "(I)I"⟩, prog_1_method_35_code, 2, some .int, 10),
  (⟨"BorderThroughBed", "waysOf", "(I)I"⟩, prog_1_method_36_code, 1, some .int, 10),
  (⟨"BorderThroughBed", "dutyOf", "(IIIII)I"⟩, prog_1_method_37_code, 6, some .int, 10),
  (⟨"BorderThroughBed", "cellTold", "(II)I"⟩, prog_1_method_38_code, 3, some .int, 10),
  (⟨"BorderThroughBed", "thingTold", "(II)I"⟩, prog_1_method_39_code, 3, some .int, 10),
  (⟨"BorderThroughBed", "isRoom", "(III)Z"⟩, prog_1_method_40_code, 5, some .boolean, 10),
  (⟨"BorderThroughBed", "eventBroken", "(II)I"⟩, prog_1_method_41_code, 5, some .int, 10),
  (⟨"BorderThroughBed", "firstAgainst", "()I"⟩, prog_1_method_42_code, 5, some .int, 10),
  (⟨"BorderThroughBed", "mapOf", "(IIII)I"⟩, prog_1_method_43_code, 7, some .int, 10),
  (⟨"BorderThroughBed", "fitting", "()I"⟩, prog_1_method_44_code, 3, some .int, 10),
  (⟨"BorderThroughBed", "allJudgedSo", "(I)Z"⟩, prog_1_method_45_code, 3, some .boolean, 10),
  (⟨"BorderThroughBed", "digestOfCells", "(J)J"⟩, prog_1_method_46_code, 7, some .long, 10),
  (⟨"BorderThroughBed", "digestOfLaws", "(J)J"⟩, prog_1_method_47_code, 7, some .long, 10),
  (⟨"BorderThroughBed", "digestOfEvents", "(J)J"⟩, prog_1_method_48_code, 7, some .long, 10),
  (⟨"BorderThroughBed", "digestOfThings", "(J)J"⟩, prog_1_method_49_code, 7, some .long, 10),
  (⟨"BorderThroughBed", "digestOfPairs", "(JLBorderThroughBed$Table;)J"⟩, prog_1_method_50_code, 6, some .long, 10),
  (⟨"BorderThroughBedModel", "within", "(III)Z"⟩, prog_13_method_3_code, 3, some .boolean, 11),
  (⟨"BorderThroughBedModel", "letters", "(J)I"⟩, prog_13_method_4_code, 7, some .int, 11),
  (⟨"BorderThroughBedModel", "blank", "()I"⟩, prog_13_method_5_code, 2, some .int, 11),
  (⟨"BorderThroughBedModel", "isDigit", "(I)Z"⟩, prog_13_method_6_code, 1, some .boolean, 11),
  (⟨"BorderThroughBedModel", "sortBy", "(I)I"⟩, prog_13_method_7_code, 1, some .int, 11),
  (⟨"BorderThroughBedModel", "takeHouse", "(I)Z"⟩, prog_13_method_8_code, 3, some .boolean, 11),
  (⟨"BorderThroughBedModel", "readHouse", "()V"⟩, prog_13_method_9_code, 2, none, 11),
  (⟨"BorderThroughBedModel", "hour", "(I)I"⟩, prog_13_method_10_code, 2, some .int, 11),
  (⟨"BorderThroughBedModel", "setHour", "(II)V"⟩, prog_13_method_11_code, 3, none, 11),
  (⟨"BorderThroughBedModel", "goOnHour", "(II)Z"⟩, prog_13_method_12_code, 4, some .boolean, 11),
  (⟨"BorderThroughBedModel", "kindBy", "(I)I"⟩, prog_13_method_13_code, 2, some .int, 11),
  (⟨"BorderThroughBedModel", "endLaw", "(I)I"⟩, prog_13_method_14_code, 3, some .int, 11),
  (⟨"BorderThroughBedModel", "nextLaw", "(II)I"⟩, prog_13_method_15_code, 3, some .int, 11),
  (⟨"BorderThroughBedModel", "readLaw", "()V"⟩, prog_13_method_16_code, 5, none, 11),
  (⟨"BorderThroughBedModel", "fault", "(I)I"⟩, prog_13_method_17_code, 2, some .int, 11),
  (⟨"BorderThroughBedModel", "house", "()I"⟩, prog_13_method_18_code, 2, some .int, 11),
  (⟨"BorderThroughBedModel", "law", "()I"⟩, prog_13_method_19_code, 1, some .int, 11),
  (⟨"BorderThroughBedModel", "lawNow", "(II)I"⟩, prog_13_method_20_code, 3, some .int, 11),
  (⟨"BorderThroughBedModel", "isLaw", "(I)Z"⟩, prog_13_method_21_code, 2, some .boolean, 11),
  (⟨"BorderThroughBedModel", "lawTold", "(II)I"⟩, prog_13_method_22_code, 3, some .int, 11),
  (⟨"BorderThroughBedModel", "asLaw", "(II)I"⟩, prog_13_method_23_code, 4, some .int, 11),
  (⟨"BorderThroughBedModel", "cells", "()I"⟩, prog_13_method_24_code, 1, some .int, 11),
  (⟨"BorderThroughBedModel", "isCell", "(I)Z"⟩, prog_13_method_25_code, 2, some .boolean, 11),
  (⟨"BorderThroughBedModel", "isOpen", "(I)Z"⟩, prog_13_method_26_code, 2, some .boolean, 11),
  (⟨"BorderThroughBedModel", "sideOf", "(I)I"⟩, prog_13_method_27_code, 3, some .int, 11),
  (⟨"BorderThroughBedModel", "beside", "(II)I"⟩, prog_13_method_28_code, 5, some .int, 11),
  (⟨"BorderThroughBedModel", "ahead", "(II)I"⟩, prog_13_method_29_code, 4, some .int, 11),
  (⟨"BorderThroughBedModel", "lastCell", "(I)I"⟩, prog_13_method_30_code, 2, some .int, 11),
  (⟨"BorderThroughBedModel", "thingAt", "(I)I"⟩, prog_13_method_31_code, 3, some .int, 11),
  (⟨"BorderThroughBedModel", "laySteps", "(IZ)V"⟩, prog_13_method_32_code, 9, none, 11),
  (⟨"BorderThroughBedModel", "nearestDoor", "(I)I"⟩, prog_13_method_33_code, 4, some .int, 11),
  (⟨"BorderThroughBedModel", "cellNow", "(II)I"⟩, prog_13_method_34_code, 3, some .int, 11)]
def ex_M3 : List (MethodName × ByteArray × Nat × Option FieldType × Nat) := [(⟨"BorderThroughBedModel", "cell", "(II)I"⟩, prog_13_method_35_code, 3, some .int, 11),
  (⟨"BorderThroughBedModel", "partOf", "(IIII)I"⟩, prog_13_method_36_code, 6, some .int, 11),
  (⟨"BorderThroughBedModel", "isPosture", "(II)Z"⟩, prog_13_method_37_code, 2, some .boolean, 11),
  (⟨"BorderThroughBedModel", "part", "(IIII)I"⟩, prog_13_method_38_code, 5, some .int, 11),
  (⟨"BorderThroughBedModel", "holds", "(II)Z"⟩, prog_13_method_39_code, 5, some .boolean, 11),
  (⟨"BorderThroughBedModel", "counts", "(IIII)Z"⟩, prog_13_method_40_code, 7, some .boolean, 11),
  (⟨"BorderThroughBedModel", "againstBy", "(IIIII)I"⟩, prog_13_method_41_code, 9, some .int, 11),
  (⟨"BorderThroughBedModel", "isAct", "(II)Z"⟩, prog_13_method_42_code, 2, some .boolean, 11),
  (⟨"BorderThroughBedModel", "against", "(IIIII)I"⟩, prog_13_method_43_code, 6, some .int, 11),
  (⟨"BorderThroughBedModel", "event", "(IIIII)I"⟩, prog_13_method_44_code, 6, some .int, 11),
  (⟨"BorderThroughBedModel", "eventAgainst", "(I)I"⟩, prog_13_method_45_code, 2, some .int, 11),
  (⟨"BorderThroughBedModel", "lowest", "(I)I"⟩, prog_13_method_46_code, 2, some .int, 11),
  (⟨"BorderThroughBedModel", "first", "(I)I"⟩, prog_13_method_47_code, 4, some .int, 11),
  (⟨"BorderThroughBedModel", "map", "(IIII)I"⟩, prog_13_method_48_code, 9, some .int, 11),
  (⟨"BorderThroughBedModel", "isFloor", "(I)Z"⟩, prog_13_method_49_code, 2, some .boolean, 11),
  (⟨"BorderThroughBedModel", "fitsIn", "(III)Z"⟩, prog_13_method_50_code, 5, some .boolean, 11),
  (⟨"BorderThroughBedModel", "touches", "(II)Z"⟩, prog_13_method_51_code, 5, some .boolean, 11),
  (⟨"BorderThroughBedModel", "haveRoom", "()Z"⟩, prog_13_method_52_code, 4, some .boolean, 11),
  (⟨"BorderThroughBedModel", "put", "(IIII)V"⟩, prog_13_method_53_code, 5, none, 11),
  (⟨"BorderThroughBedModel", "isWay", "(II)Z"⟩, prog_13_method_54_code, 2, some .boolean, 11),
  (⟨"BorderThroughBedModel", "thing", "(III)I"⟩, prog_13_method_55_code, 4, some .int, 11),
  (⟨"BorderThroughBedModel", "roomBeside", "(III)Z"⟩, prog_13_method_56_code, 5, some .boolean, 11),
  (⟨"BorderThroughBedModel", "isThing", "(I)Z"⟩, prog_13_method_57_code, 2, some .boolean, 11),
  (⟨"BorderThroughBedModel", "asThing", "(II)I"⟩, prog_13_method_58_code, 4, some .int, 11),
  (⟨"BorderThroughBedModel", "thingNow", "(II)I"⟩, prog_13_method_59_code, 3, some .int, 11),
  (⟨"BorderThroughBedModel", "about", "(II)I"⟩, prog_13_method_60_code, 3, some .int, 11),
  (⟨"BorderThroughBedModel", "move", "(III)I"⟩, prog_13_method_61_code, 6, some .int, 11),
  (⟨"BorderThroughBedModel", "habit", "(II)I"⟩, prog_13_method_62_code, 3, some .int, 11),
  (⟨"BorderThroughBedModel", "isKeptInBed", "(II)Z"⟩, prog_13_method_63_code, 5, some .boolean, 11),
  (⟨"BorderThroughBedModel", "isKeptAt", "(II)Z"⟩, prog_13_method_64_code, 9, some .boolean, 11),
  (⟨"BorderThroughBedModel", "isKeptAnywhere", "(II)Z"⟩, prog_13_method_65_code, 6, some .boolean, 11),
  (⟨"BorderThroughBedModel", "isKeptHabit", "(I)Z"⟩, prog_13_method_66_code, 4, some .boolean, 11),
  (⟨"BorderThroughBedModel", "keptNow", "()I"⟩, prog_13_method_67_code, 3, some .int, 11),
  (⟨"BorderThroughBedModel", "kept", "()I"⟩, prog_13_method_68_code, 1, some .int, 11),
  (⟨"BorderThroughBedModel", "areAllKept", "()Z"⟩, prog_13_method_69_code, 3, some .boolean, 11),
  (⟨"BorderThroughBedModel", "isPlace", "(II)Z"⟩, prog_13_method_70_code, 3, some .boolean, 11),
  (⟨"BorderThroughBedModel", "findOne", "()Z"⟩, prog_13_method_71_code, 5, some .boolean, 11),
  (⟨"BorderThroughBedModel", "findSecond", "(I)Z"⟩, prog_13_method_72_code, 6, some .boolean, 11),
  (⟨"BorderThroughBedModel", "findTwo", "()Z"⟩, prog_13_method_73_code, 5, some .boolean, 11),
  (⟨"BorderThroughBedModel", "find", "()Z"⟩, prog_13_method_74_code, 1, some .boolean, 11),
  (⟨"BorderThroughBedModel", "moves", "(I)I"⟩, prog_13_method_75_code, 3, some .int, 11),
  (⟨"BorderThroughBedModel", "steps", "(II)I"⟩, prog_13_method_76_code, 3, some .int, 11),
  (⟨"BorderThroughBedModel", "cheapest", "(III)I"⟩, prog_13_method_77_code, 11, some .int, 11),
  (⟨"BorderThroughBedModel", "whose", "(II)I"⟩, prog_13_method_78_code, 6, some .int, 11),
  (⟨"BorderThroughBedModel", "duty", "(IIIII)I"⟩, prog_13_method_79_code, 12, some .int, 11),
  (⟨"BorderThroughBedModel", "drawn", "(I)I"⟩, prog_13_method_80_code, 4, some .int, 11),
  (⟨"BorderThroughBedModel", "judgment", "(II)I"⟩, prog_13_method_81_code, 3, some .int, 11),
  (⟨"BorderThroughBedModel", "fitsNow", "()I"⟩, prog_13_method_82_code, 5, some .int, 11),
  (⟨"BorderThroughBedModel", "fits", "()I"⟩, prog_13_method_83_code, 1, some .int, 11),
  (⟨"BorderThroughBedModel", "image", "()I"⟩, prog_13_method_84_code, 2, some .int, 11),
  (⟨"BorderThroughBedModel", "restore", "()I"⟩, prog_13_method_85_code, 2, some .int, 11),
  (⟨"BorderThroughBedModel", "howMany", "(I)I"⟩, prog_13_method_86_code, 2, some .int, 11),
  (⟨"BorderThroughBedModel", "count", "(I)I"⟩, prog_13_method_87_code, 2, some .int, 11),
  (⟨"BorderThroughBedModel", "mix", "(J)V"⟩, prog_13_method_88_code, 3, none, 11),
  (⟨"BorderThroughBedModel", "mixHouse", "()V"⟩, prog_13_method_89_code, 3, none, 11),
  (⟨"BorderThroughBedModel", "digest", "()J"⟩, prog_13_method_90_code, 3, some .long, 11)]
def ex_M : List (MethodName × ByteArray × Nat × Option FieldType × Nat) := ex_M0 ++ ex_M1 ++ ex_M2 ++ ex_M3
def ex_cF : List (List (Nat × Nat)) := [[(14, 0), (20, 1), (23, 2), (26, 3)],
  [(9, 64), (15, 65), (18, 66), (21, 67), (24, 68), (27, 69), (30, 70), (33, 71), (36, 72), (39, 73), (42, 74), (45, 75), (67, 76), (70, 77)],
  [(9, 128), (15, 129), (18, 130), (21, 131)],
  [(9, 192), (15, 193), (18, 2), (36, 194)],
  [(9, 256), (15, 257), (18, 258), (21, 259), (24, 260), (27, 261), (30, 262)],
  [(14, 320)],
  [(9, 384), (15, 385), (18, 386), (21, 387), (24, 0), (42, 388), (45, 389)],
  [(11, 448), (19, 449)],
  [(11, 512), (15, 513), (19, 514)],
  [],
  [(10, 640), (19, 641), (26, 642), (33, 643), (40, 644), (47, 645), (51, 646), (57, 647), (64, 648), (101, 649), (105, 650), (151, 1), (187, 0), (205, 2), (220, 651), (262, 3)],
  [(7, 707), (13, 708), (16, 710), (19, 711), (22, 712), (25, 713), (28, 714), (31, 716), (34, 718), (37, 719), (40, 720), (43, 722), (46, 723), (49, 725), (52, 726), (55, 729), (59, 736), (62, 737), (65, 738), (68, 739), (71, 746), (74, 747), (77, 754), (80, 755), (85, 728), (97, 744), (100, 742), (103, 743), (106, 745), (114, 740), (117, 741), (120, 750), (123, 751), (139, 752), (142, 748), (145, 749), (165, 704), (168, 705), (171, 706), (174, 717), (177, 715), (180, 721), (183, 724), (186, 753), (189, 709), (311, 756), (314, 757), (317, 758), (320, 759), (323, 760), (335, 727), (344, 730), (347, 731), (350, 732), (353, 733), (356, 734), (359, 735), (367, 761)]]
def ex_cS : List (List (Nat × Nat)) := [[],
  [(86, 1000), (89, 1001)],
  [],
  [],
  [],
  [],
  [],
  [],
  [],
  [],
  [],
  []]
def ex_cK : List (List (Nat × Int)) := [[],
  [(103, 1000000)],
  [],
  [],
  [],
  [],
  [],
  [],
  [],
  [],
  [],
  [(214, 268435456)]]
def ex_cL : List (List (Nat × Int)) := [[],
  [],
  [],
  [],
  [],
  [],
  [],
  [],
  [],
  [],
  [(272, 521), (291, 31)],
  [(83, 255), (365, 31), (375, 521)]]
def ex_cT : List (List (Nat × Nat)) := [[],
  [(79, 1042)],
  [],
  [(50, 345), (82, 1042), (86, 18)],
  [(50, 481)],
  [],
  [(60, 1042)],
  [(15, 682), (23, 1042)],
  [(30, 1042)],
  [],
  [(68, 673), (83, 1042), (126, 506), (143, 1051), (167, 1057), (181, 1065), (194, 18), (259, 1077), (287, 1178)],
  [(89, 1187), (93, 1217), (126, 1209), (234, 1458), (248, 1498), (258, 1529), (270, 1594)]]
def ex_cJ : List (List (Nat × Nat)) := [[],
  [],
  [],
  [(30, 1)],
  [],
  [],
  [(36, 1)],
  [],
  [(34, 2)],
  [],
  [(302, 0)],
  []]
def ex_cV : List (List (Nat × Nat)) := [[(29, 760), (32, 769), (36, 746), (40, 33), (44, 41), (47, 755), (51, 25), (54, 210), (59, 720), (63, 49), (66, 242)],
  [(49, 696), (55, 705), (59, 98), (63, 107), (73, 112), (76, 136), (83, 123), (92, 130), (96, 185), (100, 193), (104, 145), (108, 259), (111, 177), (114, 225), (117, 266), (120, 210), (123, 202)],
  [(25, 288), (29, 296), (32, 304), (35, 312)],
  [(24, 720), (39, 746), (42, 340), (46, 377), (53, 160), (58, 185), (62, 550), (68, 356), (72, 363), (76, 210), (79, 242), (89, 410)],
  [(33, 441), (37, 449), (40, 457), (43, 465), (46, 474)],
  [(20, 720), (24, 728), (28, 497), (34, 741), (38, 746), (42, 554), (46, 565), (50, 202), (55, 219), (59, 233)],
  [(30, 720), (48, 25), (52, 49), (55, 242), (64, 642), (67, 650), (71, 595), (75, 601), (76, 619), (80, 635), (83, 368), (86, 667), (90, 385), (94, 402), (97, 396)],
  [],
  [(22, 728), (26, 755)],
  [(12, 696), (18, 705)],
  [(72, 696), (76, 690), (80, 712), (96, 89), (100, 0), (109, 160), (113, 520), (117, 529), (121, 512), (122, 538), (129, 169), (133, 1082), (136, 185), (139, 219), (147, 550), (155, 728), (158, 741), (161, 1112), (164, 1106), (171, 152), (174, 1124), (178, 193), (184, 1099), (190, 720), (191, 25), (195, 1090), (198, 49), (201, 59), (208, 331), (212, 570), (216, 658), (223, 585), (227, 416), (230, 610), (234, 626), (238, 577), (240, 74), (244, 252), (247, 33), (250, 202), (253, 66), (256, 233), (265, 1128), (268, 9), (274, 1145), (278, 1153), (281, 1161), (284, 1169), (293, 936), (296, 705), (299, 1025), (307, 177), (308, 82), (311, 225), (314, 41), (317, 242), (320, 746), (323, 1137)],
  [(110, 1225), (129, 1241), (132, 1250), (136, 1265), (148, 1258), (152, 1273), (155, 1282), (159, 1232), (162, 1288), (192, 1329), (195, 1322), (198, 1352), (202, 1361), (205, 1386), (208, 1394), (211, 1401), (215, 1409), (218, 1418), (222, 1377), (225, 1425), (228, 1434), (231, 1369), (237, 1452), (241, 1474), (244, 1484), (251, 1493), (255, 1521), (261, 1563), (264, 1570), (267, 1553), (273, 1611), (276, 1588), (280, 1576), (284, 1617), (287, 1634), (290, 1666), (293, 1674), (296, 1682), (299, 1689), (302, 1696), (305, 1722), (308, 1712), (326, 1737), (329, 1728), (332, 1744), (338, 1752), (341, 1816), (362, 1849), (371, 1865), (377, 1872)]]
def ex_cW : List (List (Nat × (Nat × Nat))) := [[],
  [],
  [],
  [],
  [],
  [],
  [],
  [],
  [],
  [(7, (1, 0)), (22, (2, 1)), (26, (5, 1)), (30, (6, 0))],
  [(87, (0, 1)), (91, (3, 1)), (92, (4, 1)), (112, (7, 1))],
  []]
/-- dispatch: the site, the class of the receiver, the method -/
def ex_D : List (List (Nat × Nat)) := [[(2, 97)], [(2, 34), (4, 53)], [(2, 35), (4, 54)], [(4, 97)], [(2, 98)], [(2, 97), (4, 97)], [(2, 40), (4, 61)], [(4, 98)]]
def ex_b0 : List (Nat × List Instr) := [(0, [.aload 0, .getfield 0, .invokevirtual 760, .aload 0, .getfield 1, .invokevirtual 760, .aload 0, .getfield 2, .invokevirtual 760, .aload 0, .getfield 3, .invokevirtual 760, .return_])]
def ex_b1 : List (Nat × List Instr) := [(0, [.aload 0, .getfield 0, .aload 1, .getfield 0, .invokevirtual 769, .aload 0, .getfield 1, .aload 1, .getfield 1, .invokevirtual 769, .aload 0, .getfield 2, .aload 1, .getfield 2, .invokevirtual 769, .aload 0, .getfield 3, .aload 1, .getfield 3, .invokevirtual 769, .return_])]
def ex_b2 : List (Nat × List Instr) := [(0, [.iload 1, .ifCond .eq 19, .iload 0, .iload 1, .if_icmp .eq 19, .iload 0, .sipush 3, .if_icmp .ne 23, .iload 1, .sipush 2, .if_icmp .ne 23, .jsr 19]),
  (19, [.sipush 1, .goto 24]),
  (23, [.sipush 0, .jsr 24]),
  (24, [.areturn])]
def ex_b3 : List (Nat × List Instr) := [(0, [.aload 0, .getfield 0, .iload 1, .sipush 0, .invokevirtual 746, .ireturn])]
def ex_b4 : List (Nat × List Instr) := [(0, [.aload 0, .getfield 0, .iload 1, .sipush 1, .invokevirtual 746, .ireturn])]
def ex_b5 : List (Nat × List Instr) := [(0, [.aload 0, .getfield 0, .iload 1, .sipush 2, .invokevirtual 746, .ireturn])]
def ex_b6 : List (Nat × List Instr) := [(0, [.sipush 4, .aload 0, .iload 1, .invokevirtual 33, .imul, .aload 0, .iload 1, .invokevirtual 41, .iadd, .ireturn])]
def ex_b7 : List (Nat × List Instr) := [(0, [.aload 0, .getfield 0, .iload 1, .sipush 1, .iload 2, .invokevirtual 755, .aload 0, .getfield 0, .iload 1, .sipush 2, .iload 3, .invokevirtual 755, .return_])]
def ex_b8 : List (Nat × List Instr) := [(0, [.aload 0, .iload 2, .invokevirtual 33, .istore 3, .aload 0, .iload 2, .invokevirtual 25, .sipush 1, .if_icmp .ne 28, .aload 1, .iload 3, .aload 0, .iload 2, .invokevirtual 41, .invokevirtual 210, .goto 29]),
  (28, [.iload 3, .jsr 29]),
  (29, [.ireturn])]
def ex_b9 : List (Nat × List Instr) := [(0, [.sipush 0, .istore 3, .sipush 0, .istore 4, .jsr 5]),
  (5, [.iload 4, .aload 0, .getfield 0, .invokevirtual 720, .if_icmp .ge 48, .iload 4, .iload 2, .if_icmp .eq 42, .iload 3, .aload 1, .aload 0, .iload 4, .invokevirtual 25, .aload 0, .iload 4, .invokevirtual 49, .invokevirtual 242, .ior, .istore 3, .jsr 42]),
  (42, [.iinc 4 1, .goto 5]),
  (48, [.iload 3, .ireturn])]
def ex_b10 : List (Nat × List Instr) := [(0, [.sipush 0, .istore 3, .jsr 2]),
  (2, [.iload 3, .aload 0, .getfield 0, .invokevirtual 720, .if_icmp .ge 42, .aload 1, .aload 0, .iload 3, .invokevirtual 25, .aload 0, .iload 3, .invokevirtual 49, .invokevirtual 242, .iload 2, .ishr, .sipush 1, .iand, .ifCond .eq 36, .iload 3, .ireturn]),
  (36, [.iinc 3 1, .goto 2]),
  (42, [.sipush (-1), .ireturn])]
def ex_b11 : List (Nat × List Instr) := [(0, [.aload 0, .sipush 0, .putfield 75, .sipush 0, .istore 2, .sipush 0, .istore 3, .sipush 0, .istore 4, .jsr 12]),
  (12, [.iload 4, .aload 1, .invokevirtual 696, .if_icmp .ge 77, .aload 1, .iload 4, .invokevirtual 705, .istore 5, .iload 5, .sipush 47, .if_icmp .ne 44, .iinc 2 1, .sipush 0, .istore 3, .goto 71]),
  (44, [.iload 5, .sipush 124, .if_icmp .ne 60, .aload 0, .iload 2, .iload 3, .invokevirtual 98, .goto 71]),
  (60, [.aload 0, .iload 5, .iload 2, .iload 3, .invokevirtual 107, .iinc 3 1, .jsr 71]),
  (71, [.iinc 4 1, .goto 12]),
  (77, [.aload 0, .iload 2, .sipush 1, .iadd, .putfield 76, .aload 0, .iload 3, .putfield 77, .aload 0, .invokevirtual 112, .aload 0, .invokevirtual 136, .return_])]
def ex_b12 : List (Nat × List Instr) := [(0, [.iload 1, .sipush 4, .invokestatic 1042, .ifCond .eq 15, .aload 0, .getfield 67, .iload 1, .iload 2, .iastore, .jsr 15]),
  (15, [.return_])]
def ex_b13 : List (Nat × List Instr) := [(0, [.aload 0, .getfield 75, .sipush 24, .if_icmp .lt 10, .return_]),
  (10, [.iload 1, .sipush 100, .if_icmp .ne 29, .aload 0, .getfield 64, .aload 0, .getfield 75, .sipush 2, .iastore, .goto 49]),
  (29, [.aload 0, .getfield 64, .aload 0, .getfield 75, .iload 1, .sipush 35, .if_icmp .ne 47, .sipush 1, .goto 48]),
  (47, [.sipush 0, .jsr 48]),
  (48, [.iastore, .jsr 49]),
  (49, [.aload 0, .getfield 65, .aload 0, .getfield 75, .iload 2, .iastore, .aload 0, .getfield 66, .aload 0, .getfield 75, .iload 3, .iastore, .aload 0, .dup, .getfield 75, .sipush 1, .iadd, .putfield 75, .return_])]
def ex_b14 : List (Nat × List Instr) := [(0, [.sipush 0, .istore 1, .jsr 2]),
  (2, [.iload 1, .sipush 96, .if_icmp .ge 25, .aload 0, .iload 1, .iload 1, .sipush 2, .ishr, .iload 1, .sipush 3, .iand, .invokevirtual 123, .iinc 1 1, .goto 2]),
  (25, [.return_])]
def ex_b15 : List (Nat × List Instr) := [(0, [.sipush (-1), .istore 4, .iload 2, .aload 0, .getfield 75, .if_icmp .ge 41, .aload 0, .aload 0, .getfield 65, .iload 2, .iaload, .getstatic 1000, .iload 3, .iaload, .iadd, .aload 0, .getfield 66, .iload 2, .iaload, .getstatic 1001, .iload 3, .iaload, .iadd, .invokevirtual 130, .istore 4, .jsr 41]),
  (41, [.aload 0, .getfield 68, .iload 1, .iload 4, .iastore, .aload 0, .getfield 69, .iload 1, .aload 0, .iload 4, .invokevirtual 185, .ifCond .eq 68, .iload 4, .goto 69]),
  (68, [.iload 2, .jsr 69]),
  (69, [.iastore, .aload 0, .getfield 70, .iload 1, .aload 0, .iload 2, .invokevirtual 193, .ifCond .eq 103, .aload 0, .iload 4, .invokevirtual 193, .ifCond .eq 103, .sipush 1, .iload 2, .ishl, .sipush 1, .iload 4, .ishl, .ior, .goto 104]),
  (103, [.sipush 0, .jsr 104]),
  (104, [.iastore, .aload 0, .getfield 71, .iload 1, .aload 0, .iload 2, .invokevirtual 193, .ifCond .eq 128, .iload 3, .ifCond .ne 128, .sipush 1, .iload 2, .ishl, .goto 129]),
  (128, [.sipush 0, .jsr 129]),
  (129, [.iastore, .return_])]
def ex_b16 : List (Nat × List Instr) := [(0, [.iload 1, .aload 0, .getfield 76, .invokestatic 1042, .ifCond .eq 33, .iload 2, .aload 0, .getfield 77, .invokestatic 1042, .ifCond .eq 33, .iload 1, .aload 0, .getfield 77, .imul, .iload 2, .iadd, .goto 34]),
  (33, [.sipush (-1), .jsr 34]),
  (34, [.ireturn])]
def ex_b17 : List (Nat × List Instr) := [(0, [.sipush 0, .istore 1, .jsr 2]),
  (2, [.iload 1, .sipush 24, .if_icmp .ge 29, .aload 0, .getfield 72, .iload 1, .sipush (-1), .iastore, .aload 0, .getfield 73, .iload 1, .sipush 1000000, .iastore, .iinc 1 1, .goto 2]),
  (29, [.sipush 0, .istore 1, .jsr 31]),
  (31, [.iload 1, .aload 0, .getfield 75, .if_icmp .ge 66, .iload 1, .sipush 24, .if_icmp .ge 66, .aload 0, .getfield 64, .iload 1, .iaload, .sipush 2, .if_icmp .ne 60, .aload 0, .iload 1, .invokevirtual 145, .jsr 60]),
  (60, [.iinc 1 1, .goto 31]),
  (66, [.return_])]
def ex_b18 : List (Nat × List Instr) := [(0, [.aload 0, .iload 1, .sipush 0, .sipush 0, .invokevirtual 259, .sipush 0, .istore 2, .jsr 9]),
  (9, [.iload 2, .aload 0, .getfield 75, .if_icmp .ge 63, .iload 2, .sipush 24, .if_icmp .ge 63, .aload 0, .getfield 74, .iload 2, .iaload, .aload 0, .getfield 73, .iload 2, .iaload, .if_icmp .ge 57, .aload 0, .getfield 73, .iload 2, .aload 0, .getfield 74, .iload 2, .iaload, .iastore, .aload 0, .getfield 72, .iload 2, .iload 1, .iastore, .jsr 57]),
  (57, [.iinc 2 1, .goto 9]),
  (63, [.return_])]
def ex_b19 : List (Nat × List Instr) := [(0, [.aload 0, .getfield 75, .ifCond .le 11, .sipush 1, .goto 12]),
  (11, [.sipush 0, .jsr 12]),
  (12, [.areturn])]
def ex_b20 : List (Nat × List Instr) := [(0, [.aload 0, .getfield 75, .ireturn])]
def ex_b21 : List (Nat × List Instr) := [(0, [.iload 1, .aload 0, .getfield 75, .invokestatic 1042, .areturn])]
def ex_b22 : List (Nat × List Instr) := [(0, [.iload 1, .ifCond .lt 27, .iload 1, .aload 0, .getfield 75, .if_icmp .ge 27, .iload 1, .sipush 24, .if_icmp .ge 27, .aload 0, .getfield 64, .iload 1, .iaload, .goto 28]),
  (27, [.sipush 1, .jsr 28]),
  (28, [.ireturn])]
def ex_b23 : List (Nat × List Instr) := [(0, [.aload 0, .iload 1, .invokevirtual 177, .sipush 1, .if_icmp .eq 13, .sipush 1, .goto 14]),
  (13, [.sipush 0, .jsr 14]),
  (14, [.areturn])]
def ex_b24 : List (Nat × List Instr) := [(0, [.aload 0, .iload 1, .invokevirtual 177, .ifCond .ne 12, .sipush 1, .goto 13]),
  (12, [.sipush 0, .jsr 13]),
  (13, [.areturn])]
def ex_b25 : List (Nat × List Instr) := [(0, [.iload 1, .aload 0, .getfield 75, .invokestatic 1042, .ifCond .eq 30, .iload 1, .sipush 24, .if_icmp .ge 30, .aload 0, .getfield 65, .iload 1, .iaload, .sipush 4, .invokestatic 1042, .ifCond .ne 32, .jsr 30]),
  (30, [.sipush (-1), .ireturn]),
  (32, [.aload 0, .getfield 66, .iload 1, .iaload, .aload 0, .getfield 67, .aload 0, .getfield 65, .iload 1, .iaload, .iaload, .iload 2, .iadd, .if_icmp .ge 58, .sipush 0, .goto 59]),
  (58, [.sipush 1, .jsr 59]),
  (59, [.ireturn])]
def ex_b26 : List (Nat × List Instr) := [(0, [.sipush 4, .iload 1, .imul, .iload 2, .iadd, .istore 3, .iload 2, .sipush 4, .invokestatic 1042, .ifCond .eq 32, .iload 3, .sipush 96, .invokestatic 1042, .ifCond .eq 32, .aload 0, .getfield 68, .iload 3, .iaload, .goto 33]),
  (32, [.sipush (-1), .jsr 33]),
  (33, [.ireturn])]
def ex_b27 : List (Nat × List Instr) := [(0, [.iload 2, .sipush 96, .invokestatic 1042, .ifCond .ne 11, .sipush (-1), .ireturn]),
  (11, [.iload 3, .tableswitch 83 1 3 #[40, 54, 69]]),
  (40, [.iload 1, .ifCond .ne 48, .sipush 1, .goto 49]),
  (48, [.sipush 0, .jsr 49]),
  (49, [.istore 4, .goto 86]),
  (54, [.iload 1, .sipush 1, .if_icmp .ne 63, .sipush 1, .goto 64]),
  (63, [.sipush 0, .jsr 64]),
  (64, [.istore 4, .goto 86]),
  (69, [.iload 1, .ifCond .eq 77, .sipush 1, .goto 78]),
  (77, [.sipush 0, .jsr 78]),
  (78, [.istore 4, .goto 86]),
  (83, [.sipush 0, .istore 4, .jsr 86]),
  (86, [.iload 4, .ifCond .eq 100, .aload 0, .getfield 69, .iload 2, .iaload, .goto 103]),
  (100, [.iload 2, .sipush 2, .ishr, .jsr 103]),
  (103, [.ireturn])]
def ex_b28 : List (Nat × List Instr) := [(0, [.iload 1, .ifCond .lt 19, .iload 1, .sipush 24, .if_icmp .ge 19, .aload 0, .getfield 72, .iload 1, .iaload, .goto 20]),
  (19, [.sipush (-1), .jsr 20]),
  (20, [.ireturn])]
def ex_b29 : List (Nat × List Instr) := [(0, [.aload 0, .iload 1, .invokevirtual 225, .istore 2, .iload 2, .sipush (-1), .if_icmp .ne 15, .iload 1, .goto 16]),
  (15, [.iload 2, .jsr 16]),
  (16, [.ireturn])]
def ex_b30 : List (Nat × List Instr) := [(0, [.iload 2, .sipush 96, .invokestatic 1042, .ifCond .ne 11, .sipush 0, .ireturn]),
  (11, [.iload 1, .sipush 1, .if_icmp .ne 25, .aload 0, .getfield 70, .iload 2, .iaload, .goto 31]),
  (25, [.aload 0, .getfield 71, .iload 2, .iaload, .jsr 31]),
  (31, [.ireturn])]
def ex_b31 : List (Nat × List Instr) := [(0, [.aload 0, .iload 1, .iload 3, .iload 4, .invokevirtual 259, .iload 2, .sipush 24, .invokestatic 1042, .ifCond .eq 37, .aload 0, .getfield 74, .iload 2, .iaload, .sipush 1000000, .if_icmp .ge 37, .aload 0, .getfield 74, .iload 2, .iaload, .goto 38]),
  (37, [.sipush (-1), .jsr 38]),
  (38, [.ireturn])]
def ex_b32 : List (Nat × List Instr) := [(0, [.sipush 0, .istore 4, .jsr 3]),
  (3, [.iload 4, .sipush 24, .if_icmp .ge 35, .aload 0, .getfield 74, .iload 4, .iload 4, .iload 1, .if_icmp .ne 26, .sipush 0, .goto 28]),
  (26, [.sipush 1000000, .jsr 28]),
  (28, [.iastore, .iinc 4 1, .goto 3]),
  (35, [.sipush 1, .istore 4, .sipush 0, .istore 5, .jsr 41]),
  (41, [.iload 4, .ifCond .eq 139, .iload 5, .sipush 24, .if_icmp .ge 139, .sipush 0, .istore 4, .sipush 0, .istore 6, .jsr 59]),
  (59, [.iload 6, .aload 0, .getfield 75, .if_icmp .ge 133, .iload 6, .sipush 24, .if_icmp .ge 133, .iload 6, .iload 1, .if_icmp .eq 90, .iload 3, .iload 6, .ishr, .sipush 1, .iand, .ifCond .ne 94, .jsr 90]),
  (90, [.sipush 1, .goto 95]),
  (94, [.sipush 0, .jsr 95]),
  (95, [.istore 7, .iload 7, .ifCond .eq 127, .aload 0, .getfield 74, .iload 6, .iaload, .sipush 1000000, .if_icmp .ge 127, .aload 0, .iload 6, .iload 2, .invokevirtual 266, .ifCond .eq 127, .sipush 1, .istore 4, .jsr 127]),
  (127, [.iinc 6 1, .goto 59]),
  (133, [.iinc 5 1, .goto 41]),
  (139, [.return_])]
def ex_b33 : List (Nat × List Instr) := [(0, [.sipush 0, .istore 3, .sipush 0, .istore 4, .jsr 5]),
  (5, [.iload 4, .sipush 4, .if_icmp .ge 116, .aload 0, .iload 1, .iload 4, .invokevirtual 210, .istore 5, .iload 5, .sipush 24, .invokestatic 1042, .ifCond .eq 110, .iload 1, .sipush 24, .invokestatic 1042, .ifCond .eq 110, .aload 0, .iload 5, .invokevirtual 185, .ifCond .eq 110, .aload 0, .iload 1, .sipush 0, .invokevirtual 202, .aload 0, .iload 5, .sipush 0, .invokevirtual 202, .if_icmp .ne 68, .sipush 1, .goto 71]),
  (68, [.sipush 1, .iload 2, .iadd, .jsr 71]),
  (71, [.istore 6, .aload 0, .getfield 74, .iload 1, .iaload, .iload 6, .iadd, .aload 0, .getfield 74, .iload 5, .iaload, .if_icmp .ge 110, .aload 0, .getfield 74, .iload 5, .aload 0, .getfield 74, .iload 1, .iaload, .iload 6, .iadd, .iastore, .sipush 1, .istore 3, .jsr 110]),
  (110, [.iinc 4 1, .goto 5]),
  (116, [.iload 3, .areturn])]
def ex_b34 : List (Nat × List Instr) := [(0, [.aload 0, .sipush 0, .putfield 128, .aload 0, .sipush (-1), .putfield 129, .aload 0, .sipush 0, .putfield 130, .aload 0, .sipush 0, .putfield 131, .return_])]
def ex_b35 : List (Nat × List Instr) := [(0, [.iload 1, .lookupswitch 67 #[(35, 62), (46, 62), (47, 57), (100, 62), (124, 52)]]),
  (52, [.aload 0, .invokevirtual 288, .areturn]),
  (57, [.aload 0, .invokevirtual 296, .areturn]),
  (62, [.aload 0, .invokevirtual 304, .areturn]),
  (67, [.sipush 0, .areturn])]
def ex_b36 : List (Nat × List Instr) := [(0, [.aload 0, .getfield 131, .ifCond .eq 9, .sipush 0, .areturn]),
  (9, [.aload 0, .sipush 1, .putfield 131, .sipush 1, .areturn])]
def ex_b37 : List (Nat × List Instr) := [(0, [.aload 0, .getfield 128, .sipush 1, .iadd, .sipush 4, .if_icmp .ge 17, .aload 0, .invokevirtual 312, .ifCond .ne 19, .jsr 17]),
  (17, [.sipush 0, .areturn]),
  (19, [.aload 0, .aload 0, .getfield 130, .putfield 129, .aload 0, .dup, .getfield 128, .sipush 1, .iadd, .putfield 128, .aload 0, .sipush 0, .putfield 130, .aload 0, .sipush 0, .putfield 131, .sipush 1, .areturn])]
def ex_b38 : List (Nat × List Instr) := [(0, [.aload 0, .getfield 130, .aload 0, .getfield 129, .sipush (-1), .if_icmp .ne 17, .sipush 6, .goto 21]),
  (17, [.aload 0, .getfield 129, .jsr 21]),
  (21, [.if_icmp .lt 26, .sipush 0, .areturn]),
  (26, [.aload 0, .dup, .getfield 130, .sipush 1, .iadd, .putfield 130, .sipush 1, .areturn])]
def ex_b39 : List (Nat × List Instr) := [(0, [.aload 0, .getfield 131, .ifCond .eq 41, .aload 0, .getfield 129, .sipush (-1), .if_icmp .ne 26, .aload 0, .getfield 130, .sipush 2, .if_icmp .lt 41, .goto 37]),
  (26, [.aload 0, .getfield 130, .aload 0, .getfield 129, .if_icmp .ne 41, .jsr 37]),
  (37, [.sipush 1, .goto 42]),
  (41, [.sipush 0, .jsr 42]),
  (42, [.areturn])]
def ex_b40 : List (Nat × List Instr) := [(0, [.aload 0, .getfield 128, .sipush 1, .iadd, .sipush 2, .if_icmp .lt 21, .aload 0, .invokevirtual 312, .ifCond .eq 21, .sipush 1, .goto 22]),
  (21, [.sipush 0, .jsr 22]),
  (22, [.areturn])]
def ex_b41 : List (Nat × List Instr) := [(0, [.aload 0, .sipush 6, .aload 3, .getfield 2, .invokevirtual 720, .invokedynamic 1, .putfield 194, .sipush 0, .istore 4, .jsr 19]),
  (19, [.iload 4, .aload 0, .getfield 194, .if_icmp .ge 99, .aload 0, .getfield 192, .iload 4, .aload 3, .getfield 2, .iload 4, .sipush 0, .invokevirtual 746, .iastore, .sipush 0, .istore 5, .jsr 48]),
  (48, [.iload 5, .sipush 24, .if_icmp .ge 75, .aload 0, .getfield 193, .iload 4, .sipush 24, .imul, .iload 5, .iadd, .sipush 0, .iastore, .iinc 5 1, .goto 48]),
  (75, [.aload 0, .aload 1, .aload 2, .iload 4, .aload 3, .getfield 2, .iload 4, .sipush 1, .invokevirtual 746, .invokevirtual 340, .iinc 4 1, .goto 19]),
  (99, [.return_])]
def ex_b42 : List (Nat × List Instr) := [(0, [.aload 0, .iload 3, .invokevirtual 377, .istore 5, .iload 5, .invokestatic 345, .istore 6, .sipush 0, .istore 7, .jsr 17]),
  (17, [.iload 7, .sipush 4, .aload 1, .invokevirtual 160, .imul, .if_icmp .ge 72, .aload 1, .iload 7, .sipush 2, .ishr, .invokevirtual 185, .ifCond .eq 66, .aload 2, .aload 1, .iload 5, .iload 4, .iload 6, .iload 7, .sipush 0, .invokevirtual 550, .ifCond .ne 66, .aload 0, .aload 1, .iload 3, .iload 5, .iload 7, .invokevirtual 356, .jsr 66]),
  (66, [.iinc 7 1, .goto 17]),
  (72, [.return_])]
def ex_b43 : List (Nat × List Instr) := [(0, [.iload 0, .ifCond .ne 6, .sipush 1, .ireturn]),
  (6, [.iload 0, .sipush 4, .if_icmp .ne 15, .sipush 2, .goto 16]),
  (15, [.sipush 0, .jsr 16]),
  (16, [.ireturn])]
def ex_b44 : List (Nat × List Instr) := [(0, [.iload 4, .sipush 2, .ishr, .istore 5, .iload 3, .sipush 3, .if_icmp .lt 24, .aload 0, .iload 2, .sipush 0, .sipush 1, .iload 5, .ishl, .invokevirtual 363, .goto 73]),
  (24, [.iload 3, .ifCond .eq 50, .aload 0, .iload 2, .aload 1, .iload 5, .iload 4, .sipush 3, .iand, .invokevirtual 210, .sipush 1, .iload 5, .ishl, .invokevirtual 363, .goto 73]),
  (50, [.aload 1, .sipush 1, .iload 4, .invokevirtual 242, .ifCond .eq 73, .aload 0, .iload 2, .iload 5, .sipush 1, .iload 4, .sipush 3, .iand, .ishl, .invokevirtual 363, .jsr 73]),
  (73, [.return_])]
def ex_b45 : List (Nat × List Instr) := [(0, [.iload 1, .sipush 6, .invokestatic 1042, .ifCond .eq 33, .iload 2, .sipush 24, .invokestatic 1042, .ifCond .eq 33, .aload 0, .getfield 193, .iload 1, .sipush 24, .imul, .iload 2, .iadd, .dup2, .iaload, .iload 3, .ior, .iastore, .jsr 33]),
  (33, [.return_])]
def ex_b46 : List (Nat × List Instr) := [(0, [.aload 0, .getfield 194, .ireturn])]
def ex_b47 : List (Nat × List Instr) := [(0, [.iload 1, .ifCond .lt 19, .iload 1, .sipush 6, .if_icmp .ge 19, .aload 0, .getfield 192, .iload 1, .iaload, .goto 20]),
  (19, [.sipush (-1), .jsr 20]),
  (20, [.ireturn])]
def ex_b48 : List (Nat × List Instr) := [(0, [.aload 0, .iload 1, .invokevirtual 377, .sipush 3, .if_icmp .ge 13, .sipush 1, .goto 14]),
  (13, [.sipush 0, .jsr 14]),
  (14, [.areturn])]
def ex_b49 : List (Nat × List Instr) := [(0, [.aload 0, .iload 1, .invokevirtual 377, .istore 5, .iload 2, .iload 5, .sipush 1, .iadd, .invokestatic 18, .ifCond .ne 20, .sipush 0, .areturn]),
  (20, [.aload 0, .iload 1, .iload 3, .sipush 2, .ishr, .invokevirtual 410, .istore 6, .iload 5, .ifCond .ne 54, .iload 6, .iload 3, .sipush 3, .iand, .ishr, .sipush 1, .iand, .ifCond .eq 50, .sipush 1, .goto 69]),
  (50, [.sipush 0, .goto 69]),
  (54, [.iload 6, .iload 4, .sipush (-1), .ixor, .iand, .ifCond .eq 68, .sipush 1, .goto 69]),
  (68, [.sipush 0, .jsr 69]),
  (69, [.areturn])]
def ex_b50 : List (Nat × List Instr) := [(0, [.aload 0, .iload 1, .sipush 0, .invokevirtual 410, .iload 2, .sipush (-1), .ixor, .iand, .ifCond .eq 17, .sipush 1, .goto 18]),
  (17, [.sipush 0, .jsr 18]),
  (18, [.areturn])]
def ex_b51 : List (Nat × List Instr) := [(0, [.iload 1, .sipush 24, .imul, .iload 2, .iadd, .istore 3, .iload 3, .ifCond .lt 29, .iload 3, .aload 0, .getfield 193, .arraylength, .if_icmp .ge 29, .aload 0, .getfield 193, .iload 3, .iaload, .goto 30]),
  (29, [.sipush 0, .jsr 30]),
  (30, [.ireturn])]
def ex_b52 : List (Nat × List Instr) := [(0, [.sipush 0, .istore 1, .jsr 2]),
  (2, [.iload 1, .aload 0, .getfield 194, .if_icmp .ge 47, .sipush 0, .istore 2, .sipush 0, .istore 3, .jsr 14]),
  (14, [.iload 3, .sipush 24, .if_icmp .ge 35, .iload 2, .aload 0, .iload 1, .iload 3, .invokevirtual 410, .ior, .istore 2, .iinc 3 1, .goto 14]),
  (35, [.iload 2, .ifCond .ne 41, .sipush 1, .areturn]),
  (41, [.iinc 1 1, .goto 2]),
  (47, [.sipush 0, .areturn])]
def ex_b53 : List (Nat × List Instr) := [(0, [.aload 0, .sipush 0, .putfield 256, .aload 0, .sipush 0, .putfield 257, .aload 0, .sipush 0, .putfield 258, .aload 0, .sipush 0, .putfield 259, .aload 0, .sipush 0, .putfield 260, .aload 0, .sipush 0, .putfield 261, .aload 0, .sipush 0, .putfield 262, .return_])]
def ex_b54 : List (Nat × List Instr) := [(0, [.aload 0, .getfield 261, .tableswitch 60 0 3 #[36, 42, 48, 54]]),
  (36, [.aload 0, .iload 1, .invokevirtual 441, .areturn]),
  (42, [.aload 0, .iload 1, .invokevirtual 449, .areturn]),
  (48, [.aload 0, .iload 1, .invokevirtual 457, .areturn]),
  (54, [.aload 0, .iload 1, .invokevirtual 465, .areturn]),
  (60, [.sipush 0, .areturn])]
def ex_b55 : List (Nat × List Instr) := [(0, [.iload 1, .sipush 119, .if_icmp .eq 14, .iload 1, .sipush 101, .if_icmp .eq 14, .sipush 0, .areturn]),
  (14, [.aload 0, .iload 1, .sipush 119, .if_icmp .ne 25, .sipush 0, .goto 26]),
  (25, [.sipush 1, .jsr 26]),
  (26, [.putfield 256, .aload 0, .sipush 1, .putfield 261, .sipush 1, .areturn])]
def ex_b56 : List (Nat × List Instr) := [(0, [.iload 1, .sipush 97, .if_icmp .lt 12, .iload 1, .sipush 102, .if_icmp .le 14, .jsr 12]),
  (12, [.sipush 0, .areturn]),
  (14, [.aload 0, .iload 1, .sipush 97, .isub, .putfield 257, .aload 0, .sipush 2, .putfield 261, .sipush 1, .areturn])]
def ex_b57 : List (Nat × List Instr) := [(0, [.iload 1, .sipush 45, .if_icmp .ne 25, .aload 0, .getfield 262, .ifCond .le 25, .aload 0, .sipush 3, .putfield 261, .aload 0, .sipush 0, .putfield 262, .sipush 1, .areturn]),
  (25, [.aload 0, .aload 0, .getfield 258, .iload 1, .invokevirtual 474, .istore 2, .iload 2, .sipush (-1), .if_icmp .ne 42, .sipush 0, .areturn]),
  (42, [.aload 0, .iload 2, .putfield 258, .aload 0, .dup, .getfield 262, .sipush 1, .iadd, .putfield 262, .sipush 1, .areturn])]
def ex_b58 : List (Nat × List Instr) := [(0, [.aload 0, .getfield 262, .ifCond .le 30, .iload 1, .invokestatic 481, .sipush (-1), .if_icmp .eq 30, .aload 0, .iload 1, .invokestatic 481, .putfield 260, .aload 0, .sipush 5, .putfield 261, .sipush 1, .areturn]),
  (30, [.aload 0, .aload 0, .getfield 259, .iload 1, .invokevirtual 474, .istore 2, .iload 2, .sipush (-1), .if_icmp .ne 47, .sipush 0, .areturn]),
  (47, [.aload 0, .iload 2, .putfield 259, .aload 0, .dup, .getfield 262, .sipush 1, .iadd, .putfield 262, .sipush 1, .areturn])]
def ex_b59 : List (Nat × List Instr) := [(0, [.iload 2, .sipush 48, .if_icmp .lt 12, .iload 2, .sipush 57, .if_icmp .le 14, .jsr 12]),
  (12, [.sipush (-1), .ireturn]),
  (14, [.aload 0, .getfield 262, .ifCond .ne 26, .iload 2, .sipush 48, .isub, .ireturn]),
  (26, [.sipush 10, .iload 1, .imul, .iload 2, .iadd, .sipush 48, .isub, .istore 3, .aload 0, .getfield 262, .sipush 1, .if_icmp .ne 58, .iload 1, .ifCond .eq 58, .iload 3, .sipush 24, .if_icmp .ge 58, .iload 3, .goto 59]),
  (58, [.sipush (-1), .jsr 59]),
  (59, [.ireturn])]
def ex_b60 : List (Nat × List Instr) := [(0, [.iload 0, .tableswitch 64 102 111 #[60, 64, 56, 64, 64, 64, 64, 64, 58, 62]]),
  (56, [.sipush 1, .ireturn]),
  (58, [.sipush 2, .ireturn]),
  (60, [.sipush 3, .ireturn]),
  (62, [.sipush 4, .ireturn]),
  (64, [.sipush (-1), .ireturn])]
def ex_b61 : List (Nat × List Instr) := [(0, [.aload 0, .getfield 261, .sipush 5, .if_icmp .eq 23, .aload 0, .getfield 261, .sipush 3, .if_icmp .ne 27, .aload 0, .getfield 262, .ifCond .le 27, .jsr 23]),
  (23, [.sipush 1, .goto 28]),
  (27, [.sipush 0, .jsr 28]),
  (28, [.areturn])]
def ex_b62 : List (Nat × List Instr) := [(0, [.iload 1, .tableswitch 52 0 3 #[32, 37, 42, 47]]),
  (32, [.aload 0, .getfield 256, .ireturn]),
  (37, [.aload 0, .getfield 257, .ireturn]),
  (42, [.aload 0, .getfield 258, .ireturn]),
  (47, [.aload 0, .getfield 259, .ireturn]),
  (52, [.aload 0, .getfield 260, .ireturn])]
def ex_b63 : List (Nat × List Instr) := [(0, [.iload 1, .ifCond .eq 19, .iload 0, .iload 1, .if_icmp .eq 19, .iload 0, .sipush 3, .if_icmp .ne 23, .iload 1, .sipush 1, .if_icmp .ne 23, .jsr 19]),
  (19, [.sipush 1, .goto 24]),
  (23, [.sipush 0, .jsr 24]),
  (24, [.areturn])]
def ex_b64 : List (Nat × List Instr) := [(0, [.aload 0, .getfield 320, .invokevirtual 720, .ireturn])]
def ex_b65 : List (Nat × List Instr) := [(0, [.aload 0, .getfield 320, .invokevirtual 728, .areturn])]
def ex_b66 : List (Nat × List Instr) := [(0, [.aload 0, .getfield 320, .aload 1, .sipush 0, .invokevirtual 497, .aload 1, .sipush 1, .invokevirtual 497, .aload 1, .sipush 2, .invokevirtual 497, .aload 1, .sipush 3, .invokevirtual 497, .aload 1, .sipush 4, .invokevirtual 497, .invokevirtual 741, .ireturn])]
def ex_b67 : List (Nat × List Instr) := [(0, [.aload 0, .getfield 320, .iload 1, .iload 2, .invokevirtual 746, .ireturn])]
def ex_b68 : List (Nat × List Instr) := [(0, [.sipush 0, .istore 7, .sipush 0, .istore 8, .jsr 6]),
  (6, [.iload 8, .aload 0, .getfield 320, .invokevirtual 720, .if_icmp .ge 73, .aload 0, .getfield 320, .iload 8, .sipush 1, .invokevirtual 746, .iload 2, .if_icmp .ne 67, .aload 0, .iload 8, .iload 3, .invokevirtual 554, .ifCond .eq 67, .aload 0, .aload 1, .iload 8, .iload 4, .iload 5, .iload 6, .invokevirtual 565, .ifCond .eq 67, .iload 7, .sipush 1, .iload 8, .ishl, .ior, .istore 7, .jsr 67]),
  (67, [.iinc 8 1, .goto 6]),
  (73, [.iload 7, .ireturn])]
def ex_b69 : List (Nat × List Instr) := [(0, [.aload 0, .getfield 320, .iload 1, .sipush 2, .invokevirtual 746, .istore 3, .aload 0, .getfield 320, .iload 1, .sipush 3, .invokevirtual 746, .istore 4, .iload 3, .iload 4, .if_icmp .ge 44, .iload 2, .iload 3, .if_icmp .lt 42, .iload 2, .iload 4, .if_icmp .ge 42, .sipush 1, .goto 43]),
  (42, [.sipush 0, .jsr 43]),
  (43, [.areturn]),
  (44, [.iload 3, .iload 4, .if_icmp .eq 61, .iload 2, .iload 3, .if_icmp .ge 61, .iload 2, .iload 4, .if_icmp .ge 65, .jsr 61]),
  (61, [.sipush 1, .goto 66]),
  (65, [.sipush 0, .jsr 66]),
  (66, [.areturn])]
def ex_b70 : List (Nat × List Instr) := [(0, [.aload 0, .getfield 320, .iload 2, .sipush 0, .invokevirtual 746, .istore 6, .iload 4, .sipush 2, .ishr, .istore 7, .aload 0, .getfield 320, .iload 2, .sipush 4, .invokevirtual 746, .tableswitch 180 1 4 #[56, 75, 100, 157]]),
  (56, [.aload 1, .iload 7, .iload 5, .invokevirtual 202, .iload 6, .if_icmp .ne 73, .sipush 1, .goto 74]),
  (73, [.sipush 0, .jsr 74]),
  (74, [.areturn]),
  (75, [.aload 1, .aload 1, .iload 3, .iload 4, .sipush 1, .invokevirtual 219, .iload 5, .invokevirtual 202, .iload 6, .if_icmp .ne 98, .sipush 1, .goto 99]),
  (98, [.sipush 0, .jsr 99]),
  (99, [.areturn]),
  (100, [.aload 1, .iload 7, .iload 5, .invokevirtual 202, .iload 6, .if_icmp .ne 155, .aload 1, .aload 1, .iload 3, .iload 4, .sipush 2, .invokevirtual 219, .iload 5, .invokevirtual 202, .iload 6, .if_icmp .ne 155, .aload 1, .aload 1, .iload 3, .iload 4, .sipush 3, .invokevirtual 219, .iload 5, .invokevirtual 202, .iload 6, .if_icmp .ne 155, .sipush 1, .goto 156]),
  (155, [.sipush 0, .jsr 156]),
  (156, [.areturn]),
  (157, [.aload 1, .aload 1, .iload 7, .invokevirtual 233, .iload 5, .invokevirtual 202, .iload 6, .if_icmp .ne 178, .sipush 1, .goto 179]),
  (178, [.sipush 0, .jsr 179]),
  (179, [.areturn]),
  (180, [.sipush 1, .areturn])]
def ex_b71 : List (Nat × List Instr) := [(0, [.aload 0, .sipush 3, .aload 2, .getfield 0, .invokevirtual 720, .invokedynamic 1, .putfield 388, .aload 0, .sipush 0, .putfield 389, .sipush 0, .istore 3, .jsr 22]),
  (22, [.iload 3, .aload 0, .getfield 388, .if_icmp .ge 80, .aload 0, .getfield 384, .iload 3, .aload 2, .iload 3, .invokevirtual 25, .iastore, .aload 0, .getfield 385, .iload 3, .aload 2, .iload 3, .invokevirtual 49, .iastore, .aload 0, .getfield 386, .iload 3, .aload 1, .aload 0, .getfield 384, .iload 3, .iaload, .aload 0, .getfield 385, .iload 3, .iaload, .invokevirtual 242, .iastore, .iinc 3 1, .goto 22]),
  (80, [.return_])]
def ex_b72 : List (Nat × List Instr) := [(0, [.iload 1, .sipush 5, .invokestatic 1042, .ifCond .eq 17, .aload 0, .getfield 387, .iload 1, .iaload, .goto 18]),
  (17, [.sipush (-1), .jsr 18]),
  (18, [.ireturn])]
def ex_b73 : List (Nat × List Instr) := [(0, [.aload 0, .aload 1, .aload 0, .sipush (-1), .sipush (-1), .invokevirtual 642, .invokevirtual 650, .istore 2, .aload 0, .iload 2, .ifCond .eq 21, .sipush 0, .goto 22]),
  (21, [.sipush (-1), .jsr 22]),
  (22, [.sipush (-1), .sipush (-1), .invokevirtual 595, .iload 2, .areturn])]
def ex_b74 : List (Nat × List Instr) := [(0, [.aload 0, .getfield 387, .sipush 0, .iload 1, .iastore, .aload 0, .getfield 387, .sipush 1, .iload 2, .iastore, .aload 0, .getfield 387, .sipush 2, .aload 0, .iload 2, .invokevirtual 601, .iastore, .aload 0, .getfield 387, .sipush 3, .iload 3, .iastore, .aload 0, .getfield 387, .sipush 4, .aload 0, .iload 3, .invokevirtual 601, .iastore, .return_])]
def ex_b75 : List (Nat × List Instr) := [(0, [.iload 1, .sipush 3, .invokestatic 1042, .ifCond .eq 17, .aload 0, .getfield 385, .iload 1, .iaload, .goto 18]),
  (17, [.sipush (-1), .jsr 18]),
  (18, [.ireturn])]
def ex_b76 : List (Nat × List Instr) := [(0, [.sipush 0, .istore 3, .jsr 2]),
  (2, [.iload 3, .aload 0, .getfield 388, .if_icmp .ge 35, .aload 0, .iload 3, .aload 1, .aload 2, .invokevirtual 619, .ifCond .eq 29, .aload 0, .sipush 1, .iload 3, .sipush (-1), .invokevirtual 595, .sipush 1, .areturn]),
  (29, [.iinc 3 1, .goto 2]),
  (35, [.sipush 0, .areturn])]
def ex_b77 : List (Nat × List Instr) := [(0, [.iload 1, .sipush 3, .invokestatic 1042, .ifCond .ne 10, .sipush 0, .areturn]),
  (10, [.aload 0, .getfield 385, .iload 1, .iaload, .istore 4, .aload 0, .getfield 386, .iload 1, .iaload, .istore 5, .aload 0, .iload 1, .sipush (-1), .invokevirtual 642, .istore 6, .sipush 0, .istore 7, .jsr 37]),
  (37, [.iload 7, .sipush 96, .if_icmp .ge 115, .aload 2, .aload 0, .getfield 384, .iload 1, .iaload, .iload 7, .invokevirtual 242, .istore 8, .iload 7, .iload 4, .if_icmp .eq 109, .iload 8, .ifCond .eq 109, .iload 8, .iload 6, .iand, .ifCond .ne 109, .aload 0, .getfield 385, .iload 1, .iload 7, .iastore, .aload 0, .getfield 386, .iload 1, .iload 8, .iastore, .aload 0, .aload 3, .iload 6, .iload 8, .ior, .invokevirtual 650, .ifCond .eq 109, .sipush 1, .areturn]),
  (109, [.iinc 7 1, .goto 37]),
  (115, [.aload 0, .getfield 385, .iload 1, .iload 4, .iastore, .aload 0, .getfield 386, .iload 1, .iload 5, .iastore, .sipush 0, .areturn])]
def ex_b78 : List (Nat × List Instr) := [(0, [.sipush 0, .istore 3, .jsr 2]),
  (2, [.iload 3, .sipush 1, .iadd, .aload 0, .getfield 388, .if_icmp .ge 124, .iload 3, .sipush 3, .if_icmp .ge 124, .aload 0, .getfield 385, .iload 3, .iaload, .istore 4, .aload 0, .getfield 386, .iload 3, .iaload, .istore 5, .sipush 0, .istore 6, .jsr 36]),
  (36, [.iload 6, .sipush 96, .if_icmp .ge 102, .aload 1, .aload 0, .getfield 384, .iload 3, .iaload, .iload 6, .invokevirtual 242, .istore 7, .iload 6, .iload 4, .if_icmp .eq 96, .iload 7, .ifCond .eq 96, .aload 0, .getfield 385, .iload 3, .iload 6, .iastore, .aload 0, .getfield 386, .iload 3, .iload 7, .iastore, .aload 0, .iload 3, .aload 1, .aload 2, .invokevirtual 635, .ifCond .eq 96, .return_]),
  (96, [.iinc 6 1, .goto 36]),
  (102, [.aload 0, .getfield 385, .iload 3, .iload 4, .iastore, .aload 0, .getfield 386, .iload 3, .iload 5, .iastore, .iinc 3 1, .goto 2]),
  (124, [.return_])]
def ex_b79 : List (Nat × List Instr) := [(0, [.iload 1, .sipush 3, .invokestatic 1042, .ifCond .eq 17, .aload 0, .getfield 386, .iload 1, .iaload, .goto 18]),
  (17, [.sipush 0, .jsr 18]),
  (18, [.istore 4, .iload 1, .sipush 1, .iadd, .istore 5, .jsr 25]),
  (25, [.iload 5, .aload 0, .getfield 388, .if_icmp .ge 74, .iload 4, .aload 0, .iload 1, .iload 5, .invokevirtual 642, .iand, .ifCond .ne 68, .aload 0, .iload 5, .aload 2, .aload 3, .invokevirtual 619, .ifCond .eq 68, .aload 0, .sipush 2, .iload 1, .iload 5, .invokevirtual 595, .sipush 1, .areturn]),
  (68, [.iinc 5 1, .goto 25]),
  (74, [.sipush 0, .areturn])]
def ex_b80 : List (Nat × List Instr) := [(0, [.sipush 0, .istore 3, .sipush 0, .istore 4, .jsr 5]),
  (5, [.iload 4, .aload 0, .getfield 388, .if_icmp .ge 48, .iload 4, .sipush 3, .if_icmp .ge 48, .iload 4, .iload 1, .if_icmp .eq 42, .iload 4, .iload 2, .if_icmp .eq 42, .iload 3, .aload 0, .getfield 386, .iload 4, .iaload, .ior, .istore 3, .jsr 42]),
  (42, [.iinc 4 1, .goto 5]),
  (48, [.iload 3, .ireturn])]
def ex_b81 : List (Nat × List Instr) := [(0, [.aload 0, .getfield 389, .aload 1, .invokevirtual 368, .if_icmp .ge 26, .aload 0, .aload 1, .aload 0, .getfield 389, .iload 2, .invokevirtual 667, .ifCond .ne 26, .sipush 0, .areturn]),
  (26, [.sipush 0, .istore 3, .jsr 28]),
  (28, [.iload 3, .aload 1, .invokevirtual 368, .if_icmp .ge 59, .aload 0, .aload 1, .iload 3, .iload 2, .invokevirtual 667, .ifCond .ne 53, .aload 0, .iload 3, .putfield 389, .sipush 0, .areturn]),
  (53, [.iinc 3 1, .goto 28]),
  (59, [.sipush 1, .areturn])]
def ex_b82 : List (Nat × List Instr) := [(0, [.aload 0, .aload 1, .iload 2, .aload 0, .sipush (-1), .sipush (-1), .invokevirtual 642, .invokevirtual 667, .areturn])]
def ex_b83 : List (Nat × List Instr) := [(0, [.aload 1, .iload 2, .invokevirtual 385, .ifCond .ne 15, .aload 1, .iload 2, .iload 3, .invokevirtual 402, .areturn]),
  (15, [.sipush 0, .istore 4, .jsr 18]),
  (18, [.iload 4, .aload 0, .getfield 388, .if_icmp .ge 64, .iload 4, .sipush 3, .if_icmp .ge 64, .aload 1, .iload 2, .aload 0, .getfield 384, .iload 4, .iaload, .aload 0, .getfield 385, .iload 4, .iaload, .iload 3, .invokevirtual 396, .ifCond .eq 58, .sipush 1, .areturn]),
  (58, [.iinc 4 1, .goto 18]),
  (64, [.sipush 0, .areturn])]
def ex_b84 : List (Nat × List Instr) := [(0, [.sipush 0, .istore 2, .sipush 0, .istore 3, .sipush 0, .istore 4, .jsr 7]),
  (7, [.iload 4, .sipush 8, .if_icmp .ge 59, .lload 0, .iload 4, .invokestatic 682, .istore 5, .iload 5, .sipush 126, .if_icmp .gt 38, .iload 3, .ifCond .eq 40, .iload 5, .ifCond .eq 40, .jsr 38]),
  (38, [.sipush (-1), .ireturn]),
  (40, [.iload 5, .ifCond .ne 50, .sipush 1, .istore 3, .goto 53]),
  (50, [.iinc 2 1, .jsr 53]),
  (53, [.iinc 4 1, .goto 7]),
  (59, [.iload 2, .ireturn])]
def ex_b85 : List (Nat × List Instr) := [(0, [.lload 0, .sipush 8, .iload 2, .imul, .lushr, .l2i, .sipush 255, .iand, .ireturn])]
def ex_b86 : List (Nat × List Instr) := [(0, [.sipush 0, .istore 4, .jsr 3]),
  (3, [.iload 4, .iload 3, .if_icmp .ge 49, .aload 0, .getfield 449, .sipush 40, .if_icmp .ge 49, .aload 0, .getfield 448, .aload 0, .getfield 449, .lload 1, .iload 4, .invokestatic 682, .iastore, .aload 0, .dup, .getfield 449, .sipush 1, .iadd, .putfield 449, .iinc 4 1, .goto 3]),
  (49, [.return_])]
def ex_b87 : List (Nat × List Instr) := [(0, [.aload 0, .getfield 449, .ireturn])]
def ex_b88 : List (Nat × List Instr) := [(0, [.iload 1, .aload 0, .getfield 449, .invokestatic 1042, .ifCond .eq 20, .aload 0, .getfield 448, .iload 1, .iaload, .goto 21]),
  (20, [.sipush 0, .jsr 21]),
  (21, [.ireturn])]
def ex_b89 : List (Nat × List Instr) := [(0, [.aload 0, .sipush 0, .putfield 449, .return_])]
def ex_b90 : List (Nat × List Instr) := [(0, [.aload 0, .getfield 514, .ireturn])]
def ex_b91 : List (Nat × List Instr) := [(0, [.aload 0, .getfield 514, .aload 0, .getfield 513, .if_icmp .ge 24, .aload 0, .getfield 514, .sipush 1, .iadd, .sipush 5, .imul, .sipush 60, .if_icmp .le 28, .jsr 24]),
  (24, [.sipush 1, .goto 29]),
  (28, [.sipush 0, .jsr 29]),
  (29, [.areturn])]
def ex_b92 : List (Nat × List Instr) := [(0, [.aload 0, .invokevirtual 728, .ifCond .eq 9, .sipush (-1), .ireturn]),
  (9, [.aload 0, .getfield 514, .istore 6, .aload 0, .dup, .getfield 514, .sipush 1, .iadd, .putfield 514, .aload 0, .iload 6, .sipush 0, .iload 1, .invokevirtual 755, .aload 0, .iload 6, .sipush 1, .iload 2, .invokevirtual 755, .aload 0, .iload 6, .sipush 2, .iload 3, .invokevirtual 755, .aload 0, .iload 6, .sipush 3, .iload 4, .invokevirtual 755, .aload 0, .iload 6, .sipush 4, .iload 5, .invokevirtual 755, .iload 6, .ireturn])]
def ex_b93 : List (Nat × List Instr) := [(0, [.iload 1, .sipush 5, .imul, .iload 2, .iadd, .istore 3, .iload 1, .aload 0, .getfield 514, .invokestatic 1042, .ifCond .eq 35, .iload 3, .sipush 60, .invokestatic 1042, .ifCond .eq 35, .aload 0, .getfield 512, .iload 3, .iaload, .goto 36]),
  (35, [.sipush (-1), .jsr 36]),
  (36, [.ireturn])]
def ex_b94 : List (Nat × List Instr) := [(0, [.iload 1, .sipush 5, .imul, .iload 2, .iadd, .istore 4, .iload 1, .aload 0, .getfield 514, .invokestatic 1042, .ifCond .eq 36, .iload 4, .sipush 60, .invokestatic 1042, .ifCond .eq 36, .aload 0, .getfield 512, .iload 4, .iload 3, .iastore, .jsr 36]),
  (36, [.return_])]
def ex_b95 : List (Nat × List Instr) := [(0, [.aload 0, .sipush 0, .putfield 514, .return_])]
def ex_b96 : List (Nat × List Instr) := [(0, [.aload 1, .getfield 512, .sipush 0, .aload 0, .getfield 512, .sipush 0, .sipush 60, .invokedynamic 2, .aload 0, .aload 1, .getfield 514, .putfield 514, .return_])]
def ex_b97 : List (Nat × List Instr) := [(0, [.aload 0, .invokeinterface 1 0, .sipush 0, .istore 2, .jsr 6]),
  (6, [.iload 2, .aload 1, .invokevirtual 696, .if_icmp .ge 34, .aload 0, .aload 1, .iload 2, .invokevirtual 705, .invokeinterface 2 1, .ifCond .ne 28, .iload 2, .ireturn]),
  (28, [.iinc 2 1, .goto 6]),
  (34, [.aload 1, .invokevirtual 696, .ireturn])]
def ex_b98 : List (Nat × List Instr) := [(0, [.aload 0, .aload 1, .invokeinterface 5 1, .aload 1, .invokevirtual 696, .if_icmp .ne 23, .aload 0, .invokeinterface 6 0, .ifCond .eq 23, .sipush 1, .goto 24]),
  (23, [.sipush 0, .jsr 24]),
  (24, [.areturn])]
def ex_b99 : List (Nat × List Instr) := [(0, [.lload 1, .invokestatic 673, .istore 3, .iload 3, .ifCond .ge 12, .sipush (-102), .ireturn]),
  (12, [.aload 0, .getfield 640, .invokevirtual 696, .iload 3, .iadd, .sipush 40, .if_icmp .le 29, .sipush (-104), .ireturn]),
  (29, [.aload 0, .getfield 640, .lload 1, .iload 3, .invokevirtual 690, .aload 0, .getfield 640, .invokevirtual 696, .ireturn])]
def ex_b100 : List (Nat × List Instr) := [(0, [.aload 0, .getfield 640, .invokevirtual 696, .istore 1, .aload 0, .getfield 640, .invokevirtual 712, .iload 1, .ireturn])]
def ex_b101 : List (Nat × List Instr) := [(0, [.iload 1, .sipush 2, .invokestatic 1042, .ifCond .ne 11, .sipush (-102), .ireturn]),
  (11, [.iload 1, .ifCond .ne 29, .aload 0, .getfield 641, .aload 0, .getfield 640, .invokeinterface 0 1, .goto 40]),
  (29, [.aload 0, .getfield 642, .aload 0, .getfield 640, .invokeinterface 3 1, .jsr 40]),
  (40, [.ireturn])]
def ex_b102 : List (Nat × List Instr) := [(0, [.aload 0, .getfield 641, .aload 0, .getfield 640, .invokeinterface 4 1, .ifCond .ne 17, .sipush (-103), .ireturn]),
  (17, [.aload 0, .getfield 643, .aload 0, .getfield 640, .invokevirtual 89, .aload 0, .getfield 640, .invokevirtual 712, .aload 0, .getfield 645, .invokevirtual 0, .aload 0, .sipush 0, .putfield 649, .aload 0, .dup, .getfield 650, .sipush 1, .iadd, .putfield 650, .aload 0, .getfield 643, .invokevirtual 160, .ireturn])]
def ex_b103 : List (Nat × List Instr) := [(0, [.aload 0, .getfield 642, .aload 0, .getfield 640, .invokeinterface 7 1, .ifCond .ne 17, .sipush (-103), .ireturn]),
  (17, [.aload 0, .getfield 644, .invokevirtual 520, .ifCond .eq 30, .sipush (-104), .ireturn]),
  (30, [.aload 0, .getfield 640, .invokevirtual 712, .aload 0, .getfield 644, .aload 0, .getfield 642, .invokevirtual 529, .ireturn])]
def ex_b104 : List (Nat × List Instr) := [(0, [.iload 1, .aload 0, .getfield 644, .invokevirtual 512, .invokestatic 1042, .ifCond .ne 17, .sipush (-101), .ireturn]),
  (17, [.iload 2, .sipush 5, .invokestatic 1042, .ifCond .eq 37, .aload 0, .getfield 644, .iload 1, .iload 2, .invokevirtual 538, .goto 39]),
  (37, [.sipush (-102), .jsr 39]),
  (39, [.ireturn])]
def ex_b105 : List (Nat × List Instr) := [(0, [.iload 1, .aload 0, .getfield 644, .invokevirtual 512, .invokestatic 1042, .ifCond .ne 17, .sipush (-101), .ireturn]),
  (17, [.iload 2, .sipush 5, .invokestatic 1042, .ifCond .ne 28, .sipush (-102), .ireturn]),
  (28, [.aload 0, .getfield 644, .iload 1, .sipush 4, .invokevirtual 538, .iload 2, .invokestatic 506, .ifCond .eq 48, .iload 1, .goto 49]),
  (48, [.sipush (-1), .jsr 49]),
  (49, [.ireturn])]
def ex_b106 : List (Nat × List Instr) := [(0, [.aload 0, .getfield 643, .iload 1, .invokevirtual 169, .ifCond .ne 14, .sipush (-101), .ireturn]),
  (14, [.iload 2, .sipush 4, .invokestatic 1042, .ifCond .eq 31, .aload 0, .iload 1, .iload 2, .invokevirtual 1082, .goto 33]),
  (31, [.sipush (-102), .jsr 33]),
  (33, [.ireturn])]
def ex_b107 : List (Nat × List Instr) := [(0, [.aload 0, .getfield 643, .iload 2, .invokevirtual 185, .ifCond .ne 14, .sipush (-101), .ireturn]),
  (14, [.iload 1, .sipush 3, .invokestatic 1042, .ifCond .eq 39, .iload 3, .sipush 4, .invokestatic 1042, .ifCond .eq 39, .iload 4, .sipush 4, .invokestatic 1042, .ifCond .ne 42, .jsr 39]),
  (39, [.sipush (-102), .ireturn]),
  (42, [.aload 0, .getfield 643, .iload 1, .sipush 4, .iload 2, .imul, .iload 3, .iadd, .iload 4, .invokevirtual 219, .ireturn])]
def ex_b108 : List (Nat × List Instr) := [(0, [.aload 0, .getfield 643, .iload 4, .invokevirtual 185, .ifCond .ne 15, .sipush (-101), .ireturn]),
  (15, [.iload 1, .iload 2, .iload 3, .invokestatic 1051, .ifCond .eq 33, .iload 5, .sipush 4, .invokestatic 1042, .ifCond .ne 36, .jsr 33]),
  (33, [.sipush (-102), .ireturn]),
  (36, [.aload 0, .getfield 644, .aload 0, .getfield 643, .iload 1, .iload 2, .iload 3, .sipush 4, .iload 4, .imul, .iload 5, .iadd, .sipush 0, .invokevirtual 550, .ireturn])]
def ex_b109 : List (Nat × List Instr) := [(0, [.aload 0, .getfield 643, .iload 4, .invokevirtual 185, .ifCond .ne 15, .sipush (-101), .ireturn]),
  (15, [.iload 2, .iload 1, .iload 3, .invokestatic 1051, .ifCond .eq 33, .iload 5, .sipush 4, .invokestatic 1042, .ifCond .ne 36, .jsr 33]),
  (33, [.sipush (-102), .ireturn]),
  (36, [.aload 0, .getfield 645, .getfield 1, .invokevirtual 728, .ifCond .eq 52, .sipush (-104), .ireturn]),
  (52, [.aload 0, .getfield 645, .getfield 1, .iload 1, .iload 2, .iload 3, .iload 4, .iload 5, .invokevirtual 741, .ireturn])]
def ex_b110 : List (Nat × List Instr) := [(0, [.iload 1, .sipush 2, .invokestatic 1042, .ifCond .ne 11, .sipush (-102), .ireturn]),
  (11, [.aload 0, .invokevirtual 1112, .istore 2, .iload 2, .sipush (-1), .if_icmp .eq 25, .iload 1, .ifCond .ne 27, .jsr 25]),
  (25, [.iload 2, .ireturn]),
  (27, [.aload 0, .iload 2, .sipush 0, .invokevirtual 1106, .invokestatic 1057, .ireturn])]
def ex_b111 : List (Nat × List Instr) := [(0, [.aload 0, .getfield 643, .invokevirtual 152, .ifCond .ne 13, .sipush (-103), .ireturn]),
  (13, [.iload 1, .iload 2, .iload 3, .invokestatic 1051, .ifCond .eq 31, .iload 4, .sipush 3, .invokestatic 1042, .ifCond .ne 34, .jsr 31]),
  (31, [.sipush (-102), .ireturn]),
  (34, [.sipush 0, .istore 5, .sipush 0, .istore 6, .jsr 40]),
  (40, [.iload 6, .aload 0, .getfield 643, .invokevirtual 160, .if_icmp .ge 87, .aload 0, .getfield 643, .iload 6, .invokevirtual 185, .ifCond .eq 81, .aload 0, .iload 1, .iload 2, .iload 3, .iload 6, .invokevirtual 1124, .iload 4, .if_icmp .ne 81, .iinc 5 1, .jsr 81]),
  (81, [.iinc 6 1, .goto 40]),
  (87, [.iload 5, .ireturn])]
def ex_b112 : List (Nat × List Instr) := [(0, [.iload 1, .sipush 4, .invokestatic 1042, .ifCond .ne 11, .sipush (-102), .ireturn]),
  (11, [.aload 0, .getfield 643, .iload 2, .invokevirtual 193, .ifCond .ne 25, .sipush (-101), .ireturn]),
  (25, [.iload 3, .iload 1, .invokestatic 1065, .invokestatic 1042, .ifCond .ne 39, .sipush (-102), .ireturn]),
  (39, [.aload 0, .iload 1, .sipush 4, .iload 2, .imul, .iload 3, .iadd, .sipush (-1), .invokevirtual 1099, .ifCond .ne 56, .sipush (-103), .ireturn]),
  (56, [.aload 0, .getfield 645, .getfield 0, .invokevirtual 728, .ifCond .eq 72, .sipush (-104), .ireturn]),
  (72, [.aload 0, .getfield 645, .getfield 0, .iload 1, .iload 2, .iload 3, .sipush 0, .sipush 0, .invokevirtual 741, .ireturn])]
def ex_b113 : List (Nat × List Instr) := [(0, [.iload 1, .aload 0, .getfield 645, .getfield 0, .invokevirtual 720, .invokestatic 1042, .ifCond .ne 20, .sipush (-101), .ireturn]),
  (20, [.iload 2, .sipush 4, .invokestatic 1042, .ifCond .ne 31, .sipush (-102), .ireturn]),
  (31, [.aload 0, .getfield 645, .iload 1, .invokevirtual 25, .iload 2, .invokestatic 18, .ifCond .eq 50, .iload 1, .goto 51]),
  (50, [.sipush (-1), .jsr 51]),
  (51, [.ireturn])]
def ex_b114 : List (Nat × List Instr) := [(0, [.iload 1, .aload 0, .getfield 645, .getfield 0, .invokevirtual 720, .invokestatic 1042, .ifCond .ne 20, .sipush (-101), .ireturn]),
  (20, [.iload 2, .sipush 4, .invokestatic 1042, .ifCond .eq 37, .aload 0, .iload 1, .iload 2, .invokevirtual 1090, .goto 39]),
  (37, [.sipush (-102), .jsr 39]),
  (39, [.ireturn])]
def ex_b115 : List (Nat × List Instr) := [(0, [.iload 1, .aload 0, .getfield 645, .getfield 0, .invokevirtual 720, .invokestatic 1042, .ifCond .eq 28, .aload 0, .getfield 643, .iload 2, .invokevirtual 193, .ifCond .ne 31, .jsr 28]),
  (28, [.sipush (-101), .ireturn]),
  (31, [.iload 3, .aload 0, .getfield 645, .iload 1, .invokevirtual 25, .invokestatic 1065, .invokestatic 1042, .ifCond .ne 52, .sipush (-102), .ireturn]),
  (52, [.aload 0, .aload 0, .getfield 645, .iload 1, .invokevirtual 25, .sipush 4, .iload 2, .imul, .iload 3, .iadd, .iload 1, .invokevirtual 1099, .ifCond .ne 76, .sipush (-103), .ireturn]),
  (76, [.aload 0, .getfield 645, .iload 1, .invokevirtual 49, .istore 4, .aload 0, .getfield 645, .iload 1, .iload 2, .iload 3, .invokevirtual 59, .iload 4, .ireturn])]
def ex_b116 : List (Nat × List Instr) := [(0, [.iload 1, .sipush 6, .invokestatic 1042, .ifCond .eq 18, .iload 2, .sipush 24, .invokestatic 1042, .ifCond .ne 21, .jsr 18]),
  (18, [.sipush (-102), .ireturn]),
  (21, [.aload 0, .getfield 645, .getfield 2, .invokevirtual 728, .ifCond .eq 37, .sipush (-104), .ireturn]),
  (37, [.aload 0, .getfield 645, .getfield 2, .iload 1, .iload 2, .sipush 0, .sipush 0, .sipush 0, .invokevirtual 741, .ireturn])]
def ex_b117 : List (Nat × List Instr) := [(0, [.aload 0, .getfield 647, .aload 0, .getfield 643, .aload 0, .getfield 644, .aload 0, .getfield 645, .invokevirtual 331, .aload 0, .getfield 648, .aload 0, .getfield 643, .aload 0, .getfield 645, .invokevirtual 570, .sipush 0, .istore 1, .sipush 0, .istore 2, .jsr 38]),
  (38, [.iload 2, .aload 0, .getfield 645, .getfield 2, .invokevirtual 720, .if_icmp .ge 79, .aload 0, .getfield 648, .aload 0, .getfield 647, .iload 2, .invokevirtual 658, .ifCond .eq 73, .iload 1, .sipush 1, .iload 2, .ishl, .ior, .istore 1, .jsr 73]),
  (73, [.iinc 2 1, .goto 38]),
  (79, [.iload 1, .ireturn])]
def ex_b118 : List (Nat × List Instr) := [(0, [.aload 0, .getfield 643, .invokevirtual 152, .ifCond .ne 13, .sipush (-103), .ireturn]),
  (13, [.iload 1, .sipush 5, .invokestatic 1042, .ifCond .ne 24, .sipush (-102), .ireturn]),
  (24, [.aload 0, .getfield 651, .sipush 12, .if_icmp .lt 36, .sipush (-103), .ireturn]),
  (36, [.aload 0, .dup, .getfield 651, .sipush 1, .iadd, .putfield 651, .aload 0, .getfield 647, .aload 0, .getfield 643, .aload 0, .getfield 644, .aload 0, .getfield 645, .invokevirtual 331, .aload 0, .getfield 648, .aload 0, .getfield 643, .aload 0, .getfield 645, .invokevirtual 570, .aload 0, .getfield 648, .aload 0, .getfield 647, .invokevirtual 585, .ifCond .ne 137, .aload 0, .getfield 647, .invokevirtual 416, .ifCond .ne 137, .aload 0, .getfield 648, .aload 0, .getfield 643, .aload 0, .getfield 647, .invokevirtual 610, .ifCond .ne 137, .aload 0, .getfield 648, .aload 0, .getfield 643, .aload 0, .getfield 647, .invokevirtual 626, .jsr 137]),
  (137, [.aload 0, .getfield 648, .iload 1, .invokevirtual 577, .ireturn])]
def ex_b119 : List (Nat × List Instr) := [(0, [.aload 0, .getfield 643, .iload 1, .invokevirtual 185, .ifCond .eq 22, .aload 0, .getfield 643, .iload 2, .invokevirtual 185, .ifCond .ne 25, .jsr 22]),
  (22, [.sipush (-101), .ireturn]),
  (25, [.aload 0, .getfield 643, .iload 1, .iload 2, .sipush 0, .aload 0, .getfield 645, .aload 0, .getfield 643, .sipush (-1), .invokevirtual 74, .invokevirtual 252, .ireturn])]
def ex_b120 : List (Nat × List Instr) := [(0, [.aload 0, .getfield 643, .iload 1, .invokevirtual 185, .ifCond .eq 22, .aload 0, .getfield 643, .iload 2, .invokevirtual 185, .ifCond .ne 25, .jsr 22]),
  (22, [.sipush (-101), .ireturn]),
  (25, [.iload 3, .sipush 10, .invokestatic 1042, .ifCond .ne 37, .sipush (-102), .ireturn]),
  (37, [.aload 0, .getfield 643, .iload 1, .iload 2, .iload 3, .aload 0, .getfield 645, .aload 0, .getfield 643, .sipush (-1), .invokevirtual 74, .invokevirtual 252, .ireturn])]
def ex_b121 : List (Nat × List Instr) := [(0, [.iload 1, .aload 0, .getfield 645, .getfield 0, .invokevirtual 720, .invokestatic 1042, .ifCond .ne 20, .sipush (-101), .ireturn]),
  (20, [.iload 2, .sipush 4, .invokestatic 1042, .ifCond .ne 31, .sipush (-102), .ireturn]),
  (31, [.aload 0, .getfield 643, .aload 0, .getfield 645, .iload 1, .invokevirtual 33, .sipush 0, .invokevirtual 202, .istore 3, .aload 0, .getfield 643, .aload 0, .getfield 645, .aload 0, .getfield 643, .iload 1, .invokevirtual 66, .sipush 0, .invokevirtual 202, .istore 4, .iload 2, .sipush 1, .if_icmp .ne 78, .iload 4, .ireturn]),
  (78, [.iload 2, .sipush 2, .if_icmp .ne 107, .aload 0, .getfield 643, .aload 0, .getfield 643, .aload 0, .getfield 645, .iload 1, .invokevirtual 33, .invokevirtual 233, .sipush 0, .invokevirtual 202, .ireturn]),
  (107, [.iload 2, .sipush 3, .if_icmp .ne 122, .iload 3, .iload 4, .if_icmp .eq 122, .sipush (-1), .goto 123]),
  (122, [.iload 3, .jsr 123]),
  (123, [.ireturn])]
def ex_b122 : List (Nat × List Instr) := [(0, [.iload 1, .sipush 1000, .invokestatic 1042, .ifCond .eq 47, .iload 2, .sipush 100, .invokestatic 1042, .ifCond .eq 47, .iload 3, .sipush 11, .invokestatic 1042, .ifCond .eq 47, .iload 4, .sipush 100, .invokestatic 1042, .ifCond .eq 47, .iload 5, .sipush 2, .invokestatic 1042, .ifCond .ne 50, .jsr 47]),
  (47, [.sipush (-102), .ireturn]),
  (50, [.sipush 1, .istore 6, .sipush 1, .iload 1, .iload 2, .iload 3, .iload 4, .invokestatic 1077, .istore 7, .sipush 2, .istore 8, .jsr 67]),
  (67, [.iload 8, .sipush 20, .if_icmp .gt 107, .iload 8, .iload 1, .iload 2, .iload 3, .iload 4, .invokestatic 1077, .istore 9, .iload 9, .iload 7, .if_icmp .ge 101, .iload 9, .istore 7, .iload 8, .istore 6, .jsr 101]),
  (101, [.iinc 8 1, .goto 67]),
  (107, [.iload 5, .ifCond .ne 117, .iload 6, .goto 119]),
  (117, [.iload 7, .jsr 119]),
  (119, [.ireturn])]
def ex_b123 : List (Nat × List Instr) := [(0, [.aload 0, .getfield 643, .invokevirtual 152, .ifCond .ne 13, .sipush (-103), .ireturn]),
  (13, [.iload 1, .sipush (-3), .if_icmp .lt 24, .iload 1, .sipush 3, .if_icmp .le 27, .jsr 24]),
  (24, [.sipush (-102), .ireturn]),
  (27, [.sipush 0, .istore 2, .sipush 0, .istore 3, .jsr 31]),
  (31, [.iload 3, .aload 0, .getfield 645, .getfield 1, .invokevirtual 720, .if_icmp .ge 66, .aload 0, .iload 3, .iload 1, .invokevirtual 1106, .ifCond .eq 60, .iload 2, .sipush 1, .iload 3, .ishl, .ior, .istore 2, .jsr 60]),
  (60, [.iinc 3 1, .goto 31]),
  (66, [.iload 2, .ireturn])]
def ex_b124 : List (Nat × List Instr) := [(0, [.aload 0, .getfield 643, .iload 1, .invokevirtual 169, .ifCond .ne 14, .sipush (-101), .ireturn]),
  (14, [.iload 2, .sipush 2, .invokestatic 1042, .ifCond .ne 25, .sipush (-102), .ireturn]),
  (25, [.aload 0, .getfield 645, .getfield 3, .invokevirtual 728, .ifCond .eq 41, .sipush (-104), .ireturn]),
  (41, [.aload 0, .getfield 645, .getfield 3, .iload 1, .iload 2, .sipush 0, .sipush 0, .sipush 0, .invokevirtual 741, .pop, .aload 0, .getfield 645, .getfield 3, .invokevirtual 720, .ireturn])]
def ex_b125 : List (Nat × List Instr) := [(0, [.aload 0, .getfield 643, .invokevirtual 152, .ifCond .eq 17, .aload 0, .invokevirtual 1128, .goto 19]),
  (17, [.sipush (-103), .jsr 19]),
  (19, [.ireturn])]
def ex_b126 : List (Nat × List Instr) := [(0, [.aload 0, .getfield 643, .invokevirtual 152, .ifCond .ne 13, .sipush (-103), .ireturn]),
  (13, [.aload 0, .getfield 646, .aload 0, .getfield 645, .invokevirtual 9, .aload 0, .sipush 1, .putfield 649, .aload 0, .getfield 645, .getfield 0, .invokevirtual 720, .ireturn])]
def ex_b127 : List (Nat × List Instr) := [(0, [.aload 0, .getfield 649, .ifCond .ne 10, .sipush (-103), .ireturn]),
  (10, [.aload 0, .getfield 645, .aload 0, .getfield 646, .invokevirtual 9, .aload 0, .getfield 645, .getfield 0, .invokevirtual 720, .ireturn])]
def ex_b128 : List (Nat × List Instr) := [(0, [.iload 1, .tableswitch 130 0 8 #[52, 60, 68, 79, 90, 101, 112, 120, 125]]),
  (52, [.aload 0, .getfield 643, .invokevirtual 160, .ireturn]),
  (60, [.aload 0, .getfield 644, .invokevirtual 512, .ireturn]),
  (68, [.aload 0, .getfield 645, .getfield 1, .invokevirtual 720, .ireturn]),
  (79, [.aload 0, .getfield 645, .getfield 0, .invokevirtual 720, .ireturn]),
  (90, [.aload 0, .getfield 645, .getfield 2, .invokevirtual 720, .ireturn]),
  (101, [.aload 0, .getfield 645, .getfield 3, .invokevirtual 720, .ireturn]),
  (112, [.aload 0, .getfield 640, .invokevirtual 696, .ireturn]),
  (120, [.aload 0, .getfield 650, .ireturn]),
  (125, [.aload 0, .getfield 651, .ireturn]),
  (130, [.sipush (-102), .ireturn])]
def ex_b129 : List (Nat × List Instr) := [(0, [.aload 0, .goto_w 521, .invokevirtual 1145, .lstore 1, .aload 0, .lload 1, .invokevirtual 1153, .lstore 1, .aload 0, .lload 1, .invokevirtual 1161, .lstore 1, .aload 0, .lload 1, .invokevirtual 1169, .lstore 1, .lload 1, .aload 0, .getfield 645, .getfield 2, .invokestatic 1178, .lstore 1, .goto_w 31, .lload 1, .lmul, .aload 0, .invokevirtual 936, .i2l, .ladd, .lstore 1, .lload 1, .aload 0, .getfield 645, .getfield 3, .invokestatic 1178, .lstore 1, .aload 0, .getfield 643, .invokevirtual 152, .ifCond .eq 84, .goto_w 31, .lload 1, .lmul, .aload 0, .invokevirtual 1128, .i2l, .ladd, .lstore 1, .jsr 84]),
  (84, [.sipush 0, .istore 3, .jsr 86]),
  (86, [.iload 3, .aload 0, .getfield 640, .invokevirtual 696, .if_icmp .ge 119, .goto_w 31, .lload 1, .lmul, .aload 0, .getfield 640, .iload 3, .invokevirtual 705, .i2l, .ladd, .lstore 1, .iinc 3 1, .goto 86]),
  (119, [.sipush 0, .istore 3, .jsr 121]),
  (121, [.iload 3, .sipush 8, .if_icmp .gt 146, .goto_w 31, .lload 1, .lmul, .aload 0, .iload 3, .invokevirtual 1025, .i2l, .ladd, .lstore 1, .iinc 3 1, .goto 121]),
  (146, [.lload 1, .lreturn])]
def ex_b130 : List (Nat × List Instr) := [(0, [.iload 0, .ifCond .lt 13, .iload 0, .iload 1, .if_icmp .ge 13, .sipush 1, .goto 14]),
  (13, [.sipush 0, .jsr 14]),
  (14, [.areturn])]
def ex_b131 : List (Nat × List Instr) := [(0, [.iload 0, .sipush 6, .invokestatic 1042, .ifCond .eq 30, .iload 1, .sipush 24, .invokestatic 1042, .ifCond .eq 30, .iload 2, .sipush 3, .invokestatic 1042, .ifCond .eq 30, .sipush 1, .goto 31]),
  (30, [.sipush 0, .jsr 31]),
  (31, [.areturn])]
def ex_b132 : List (Nat × List Instr) := [(0, [.sipush 0, .istore 1, .jsr 2]),
  (2, [.iload 1, .sipush 32, .if_icmp .ge 24, .iload 0, .iload 1, .ishr, .sipush 1, .iand, .ifCond .eq 18, .iload 1, .ireturn]),
  (18, [.iinc 1 1, .goto 2]),
  (24, [.sipush (-1), .ireturn])]
def ex_b133 : List (Nat × List Instr) := [(0, [.iload 0, .sipush 1, .if_icmp .ne 9, .sipush 4, .goto 10]),
  (9, [.sipush 1, .jsr 10]),
  (10, [.ireturn])]
def ex_b134 : List (Nat × List Instr) := [(0, [.sipush 0, .iload 1, .iload 2, .iload 0, .imul, .isub, .invokedynamic 0, .istore 5, .iload 4, .iload 0, .imul, .iload 3, .iload 5, .imul, .sipush 9, .iadd, .sipush 10, .idiv, .iadd, .ireturn])]
def ex_b135 : List (Nat × List Instr) := [(0, [.iload 2, .tableswitch 60 0 2 #[28, 37, 47]]),
  (28, [.aload 0, .getfield 643, .iload 1, .invokevirtual 177, .ireturn]),
  (37, [.aload 0, .getfield 643, .iload 1, .sipush 0, .invokevirtual 202, .ireturn]),
  (47, [.aload 0, .getfield 645, .aload 0, .getfield 643, .iload 1, .invokevirtual 82, .ireturn]),
  (60, [.aload 0, .getfield 643, .iload 1, .invokevirtual 225, .ireturn])]
def ex_b136 : List (Nat × List Instr) := [(0, [.iload 2, .tableswitch 55 0 2 #[28, 37, 46]]),
  (28, [.aload 0, .getfield 645, .iload 1, .invokevirtual 25, .ireturn]),
  (37, [.aload 0, .getfield 645, .iload 1, .invokevirtual 33, .ireturn]),
  (46, [.aload 0, .getfield 645, .iload 1, .invokevirtual 41, .ireturn]),
  (55, [.aload 0, .getfield 645, .aload 0, .getfield 643, .iload 1, .invokevirtual 66, .ireturn])]
def ex_b137 : List (Nat × List Instr) := [(0, [.aload 0, .getfield 643, .iload 1, .iload 2, .invokevirtual 242, .istore 4, .iload 4, .ifCond .eq 38, .iload 4, .aload 0, .getfield 645, .aload 0, .getfield 643, .iload 3, .invokevirtual 74, .iand, .ifCond .ne 38, .sipush 1, .goto 39]),
  (38, [.sipush 0, .jsr 39]),
  (39, [.areturn])]
def ex_b138 : List (Nat × List Instr) := [(0, [.aload 0, .getfield 645, .getfield 1, .astore 3, .sipush 4, .aload 3, .iload 1, .sipush 3, .invokevirtual 746, .imul, .aload 3, .iload 1, .sipush 4, .invokevirtual 746, .iadd, .istore 4, .aload 0, .getfield 644, .aload 0, .getfield 643, .aload 3, .iload 1, .sipush 1, .invokevirtual 746, .aload 3, .iload 1, .sipush 0, .invokevirtual 746, .aload 3, .iload 1, .sipush 2, .invokevirtual 746, .iload 4, .iload 2, .invokevirtual 550, .ireturn])]
def ex_b139 : List (Nat × List Instr) := [(0, [.sipush (-1), .istore 1, .sipush 24, .istore 2, .sipush 0, .istore 3, .jsr 7]),
  (7, [.iload 3, .aload 0, .getfield 645, .getfield 1, .invokevirtual 720, .if_icmp .ge 61, .aload 0, .getfield 645, .getfield 1, .iload 3, .sipush 0, .invokevirtual 746, .istore 4, .iload 4, .iload 2, .if_icmp .ge 55, .aload 0, .iload 3, .sipush 0, .invokevirtual 1106, .ifCond .eq 55, .iload 4, .istore 2, .iload 3, .istore 1, .jsr 55]),
  (55, [.iinc 3 1, .goto 7]),
  (61, [.iload 1, .ireturn])]
def ex_b140 : List (Nat × List Instr) := [(0, [.sipush 0, .istore 5, .sipush 0, .istore 6, .jsr 6]),
  (6, [.iload 6, .sipush 4, .if_icmp .ge 46, .aload 0, .getfield 644, .aload 0, .getfield 643, .iload 1, .iload 2, .iload 3, .sipush 4, .iload 4, .imul, .iload 6, .iadd, .sipush 0, .invokevirtual 550, .ifCond .eq 40, .iinc 5 1, .jsr 40]),
  (40, [.iinc 6 1, .goto 6]),
  (46, [.iload 5, .ifCond .ne 53, .sipush 0, .ireturn]),
  (53, [.iload 5, .sipush 4, .if_icmp .ge 63, .sipush 1, .goto 64]),
  (63, [.sipush 2, .jsr 64]),
  (64, [.ireturn])]
def ex_b141 : List (Nat × List Instr) := [(0, [.sipush 0, .istore 1, .sipush (-3), .istore 2, .jsr 5]),
  (5, [.iload 2, .sipush 3, .if_icmp .gt 32, .aload 0, .iload 2, .invokevirtual 1137, .ifCond .eq 26, .iload 1, .sipush 1, .iload 2, .sipush 3, .iadd, .ishl, .ior, .istore 1, .jsr 26]),
  (26, [.iinc 2 1, .goto 5]),
  (32, [.iload 1, .ireturn])]
def ex_b142 : List (Nat × List Instr) := [(0, [.sipush 0, .istore 2, .jsr 2]),
  (2, [.iload 2, .aload 0, .getfield 645, .getfield 3, .invokevirtual 720, .if_icmp .ge 59, .aload 0, .getfield 643, .aload 0, .getfield 645, .getfield 3, .iload 2, .sipush 0, .invokevirtual 746, .iload 1, .invokevirtual 202, .aload 0, .getfield 645, .getfield 3, .iload 2, .sipush 1, .invokevirtual 746, .if_icmp .eq 53, .sipush 0, .areturn]),
  (53, [.iinc 2 1, .goto 2]),
  (59, [.sipush 1, .areturn])]
def ex_b143 : List (Nat × List Instr) := [(0, [.lload 1, .lstore 3, .sipush 0, .istore 5, .jsr 5]),
  (5, [.iload 5, .aload 0, .getfield 643, .invokevirtual 160, .if_icmp .ge 54, .sipush 0, .istore 6, .jsr 20]),
  (20, [.iload 6, .sipush 4, .if_icmp .ge 48, .goto_w 31, .lload 3, .lmul, .aload 0, .iload 5, .iload 6, .invokevirtual 1082, .i2l, .ladd, .lstore 3, .iinc 6 1, .goto 20]),
  (48, [.iinc 5 1, .goto 5]),
  (54, [.lload 3, .lreturn])]
def ex_b144 : List (Nat × List Instr) := [(0, [.lload 1, .lstore 3, .sipush 0, .istore 5, .jsr 5]),
  (5, [.iload 5, .aload 0, .getfield 644, .invokevirtual 512, .if_icmp .ge 57, .sipush 0, .istore 6, .jsr 20]),
  (20, [.iload 6, .sipush 5, .if_icmp .ge 51, .goto_w 31, .lload 3, .lmul, .aload 0, .getfield 644, .iload 5, .iload 6, .invokevirtual 538, .i2l, .ladd, .lstore 3, .iinc 6 1, .goto 20]),
  (51, [.iinc 5 1, .goto 5]),
  (57, [.lload 3, .lreturn])]
def ex_b145 : List (Nat × List Instr) := [(0, [.lload 1, .lstore 3, .sipush 0, .istore 5, .jsr 5]),
  (5, [.iload 5, .aload 0, .getfield 645, .getfield 1, .invokevirtual 720, .if_icmp .ge 78, .sipush 0, .istore 6, .jsr 23]),
  (23, [.iload 6, .sipush 5, .if_icmp .ge 57, .goto_w 31, .lload 3, .lmul, .aload 0, .getfield 645, .getfield 1, .iload 5, .iload 6, .invokevirtual 746, .i2l, .ladd, .lstore 3, .iinc 6 1, .goto 23]),
  (57, [.goto_w 31, .lload 3, .lmul, .aload 0, .iload 5, .sipush 0, .invokevirtual 1106, .i2l, .ladd, .lstore 3, .iinc 5 1, .goto 5]),
  (78, [.lload 3, .lreturn])]
def ex_b146 : List (Nat × List Instr) := [(0, [.lload 1, .lstore 3, .sipush 0, .istore 5, .jsr 5]),
  (5, [.iload 5, .aload 0, .getfield 645, .getfield 0, .invokevirtual 720, .if_icmp .ge 57, .sipush 0, .istore 6, .jsr 23]),
  (23, [.iload 6, .sipush 4, .if_icmp .ge 51, .goto_w 31, .lload 3, .lmul, .aload 0, .iload 5, .iload 6, .invokevirtual 1090, .i2l, .ladd, .lstore 3, .iinc 6 1, .goto 23]),
  (51, [.iinc 5 1, .goto 5]),
  (57, [.lload 3, .lreturn])]
def ex_b147 : List (Nat × List Instr) := [(0, [.lload 0, .lstore 3, .sipush 0, .istore 5, .jsr 5]),
  (5, [.iload 5, .aload 2, .invokevirtual 720, .if_icmp .ge 50, .goto_w 31, .lload 3, .lmul, .aload 2, .iload 5, .sipush 0, .invokevirtual 746, .i2l, .ladd, .lstore 3, .goto_w 31, .lload 3, .lmul, .aload 2, .iload 5, .sipush 1, .invokevirtual 746, .i2l, .ladd, .lstore 3, .iinc 5 1, .goto 5]),
  (50, [.lload 3, .lreturn])]
def ex_b148 : List (Nat × List Instr) := [(0, [.iload 0, .iload 1, .if_icmp .lt 14, .iload 0, .iload 2, .if_icmp .gt 14, .sipush 1, .goto 15]),
  (14, [.sipush 0, .jsr 15]),
  (15, [.areturn])]
def ex_b149 : List (Nat × List Instr) := [(0, [.sipush 0, .istore 3, .sipush 0, .istore 4, .sipush 0, .istore 5, .jsr 8]),
  (8, [.iload 5, .sipush 8, .if_icmp .ge 85, .lload 1, .sipush 8, .iload 5, .imul, .lshr, .goto_w 255, .land, .l2i, .istore 6, .iload 6, .sipush 126, .if_icmp .gt 46, .iload 4, .ifCond .eq 49, .iload 6, .ifCond .eq 49, .jsr 46]),
  (46, [.sipush (-102), .ireturn]),
  (49, [.iload 4, .ifCond .ne 59, .iload 6, .ifCond .ne 63, .jsr 59]),
  (59, [.sipush 1, .goto 64]),
  (63, [.sipush 0, .jsr 64]),
  (64, [.istore 4, .iload 3, .iload 6, .ifCond .ne 76, .sipush 0, .goto 77]),
  (76, [.sipush 1, .jsr 77]),
  (77, [.iadd, .istore 3, .iinc 5 1, .goto 8]),
  (85, [.aload 0, .getfield 728, .iload 3, .iadd, .sipush 40, .if_icmp .le 99, .sipush (-104), .ireturn]),
  (99, [.sipush 0, .istore 5, .jsr 102]),
  (102, [.iload 5, .iload 3, .if_icmp .ge 135, .aload 0, .getfield 729, .aload 0, .getfield 728, .iload 5, .iadd, .lload 1, .sipush 8, .iload 5, .imul, .lshr, .l2i, .i2b, .bastore, .iinc 5 1, .goto 102]),
  (135, [.aload 0, .dup, .getfield 728, .iload 3, .iadd, .putfield 728, .aload 0, .getfield 728, .ireturn])]
def ex_b150 : List (Nat × List Instr) := [(0, [.aload 0, .getfield 728, .istore 1, .aload 0, .sipush 0, .putfield 728, .iload 1, .ireturn])]
def ex_b151 : List (Nat × List Instr) := [(0, [.iload 0, .sipush 48, .sipush 57, .invokestatic 1187, .areturn])]
def ex_b152 : List (Nat × List Instr) := [(0, [.iload 0, .sipush 46, .if_icmp .ne 10, .sipush 0, .goto 31]),
  (10, [.iload 0, .sipush 35, .if_icmp .ne 20, .sipush 1, .goto 31]),
  (20, [.iload 0, .sipush 100, .if_icmp .ne 30, .sipush 2, .goto 31]),
  (30, [.sipush (-1), .jsr 31]),
  (31, [.ireturn])]
def ex_b153 : List (Nat × List Instr) := [(0, [.iload 1, .invokestatic 1217, .sipush (-1), .if_icmp .eq 68, .aload 0, .getfield 744, .aload 0, .getfield 742, .ifCond .ne 24, .sipush 6, .goto 28]),
  (24, [.aload 0, .getfield 743, .jsr 28]),
  (28, [.if_icmp .ne 33, .sipush 0, .areturn]),
  (33, [.aload 0, .getfield 746, .aload 0, .getfield 742, .aload 0, .getfield 743, .imul, .aload 0, .getfield 744, .iadd, .iload 1, .invokestatic 1217, .iastore, .aload 0, .dup, .getfield 744, .sipush 1, .iadd, .putfield 744, .sipush 1, .areturn]),
  (68, [.iload 1, .sipush 124, .if_icmp .ne 101, .aload 0, .getfield 745, .ifCond .ne 101, .aload 0, .getfield 747, .aload 0, .getfield 742, .aload 0, .getfield 744, .iastore, .aload 0, .sipush 1, .putfield 745, .sipush 1, .areturn]),
  (101, [.iload 1, .sipush 47, .if_icmp .ne 155, .aload 0, .getfield 745, .ifCond .eq 155, .aload 0, .getfield 742, .sipush 3, .if_icmp .ge 155, .aload 0, .getfield 742, .ifCond .ne 140, .aload 0, .getfield 744, .sipush 1, .if_icmp .le 155, .goto 151]),
  (140, [.aload 0, .getfield 744, .aload 0, .getfield 743, .if_icmp .ne 155, .jsr 151]),
  (151, [.sipush 1, .goto 156]),
  (155, [.sipush 0, .jsr 156]),
  (156, [.istore 2, .iload 2, .ifCond .eq 189, .aload 0, .aload 0, .getfield 744, .putfield 743, .aload 0, .dup, .getfield 742, .sipush 1, .iadd, .putfield 742, .aload 0, .sipush 0, .putfield 744, .aload 0, .sipush 0, .putfield 745, .jsr 189]),
  (189, [.iload 2, .areturn])]
def ex_b154 : List (Nat × List Instr) := [(0, [.aload 0, .sipush 0, .putfield 742, .aload 0, .sipush 0, .putfield 743, .aload 0, .sipush 0, .putfield 744, .aload 0, .sipush 0, .putfield 745, .sipush 0, .istore 1, .jsr 22]),
  (22, [.iload 1, .aload 0, .getfield 728, .if_icmp .ge 49, .aload 0, .aload 0, .getfield 729, .iload 1, .baload, .invokevirtual 1225, .ifCond .eq 49, .iinc 1 1, .goto 22]),
  (49, [.aload 0, .iload 1, .putfield 740, .aload 0, .iload 1, .aload 0, .getfield 728, .if_icmp .ne 92, .aload 0, .getfield 745, .ifCond .eq 92, .aload 0, .getfield 742, .ifCond .le 92, .aload 0, .getfield 744, .aload 0, .getfield 743, .if_icmp .ne 92, .sipush 1, .goto 93]),
  (92, [.sipush 0, .jsr 93]),
  (93, [.putfield 741, .return_])]
def ex_b155 : List (Nat × List Instr) := [(0, [.iload 1, .ifCond .ne 11, .aload 0, .getfield 750, .goto 15]),
  (11, [.aload 0, .getfield 751, .jsr 15]),
  (15, [.ireturn])]
def ex_b156 : List (Nat × List Instr) := [(0, [.iload 1, .ifCond .ne 12, .aload 0, .iload 2, .putfield 750, .goto 17]),
  (12, [.aload 0, .iload 2, .putfield 751, .jsr 17]),
  (17, [.return_])]
def ex_b157 : List (Nat × List Instr) := [(0, [.iload 2, .invokestatic 1209, .ifCond .eq 37, .aload 0, .iload 1, .invokevirtual 1241, .ifCond .le 37, .sipush 10, .aload 0, .iload 1, .invokevirtual 1241, .imul, .iload 2, .iadd, .sipush 48, .isub, .sipush 24, .if_icmp .ge 37, .sipush 1, .goto 38]),
  (37, [.sipush 0, .jsr 38]),
  (38, [.istore 3, .aload 0, .iload 1, .iload 3, .ifCond .eq 61, .sipush 10, .aload 0, .iload 1, .invokevirtual 1241, .imul, .iload 2, .iadd, .sipush 48, .isub, .goto 66]),
  (61, [.aload 0, .iload 1, .invokevirtual 1241, .jsr 66]),
  (66, [.invokevirtual 1250, .iload 3, .areturn])]
def ex_b158 : List (Nat × List Instr) := [(0, [.iload 1, .sipush 104, .if_icmp .ne 10, .sipush 1, .goto 41]),
  (10, [.iload 1, .sipush 110, .if_icmp .ne 20, .sipush 2, .goto 41]),
  (20, [.iload 1, .sipush 102, .if_icmp .ne 30, .sipush 3, .goto 41]),
  (30, [.iload 1, .sipush 111, .if_icmp .ne 40, .sipush 4, .goto 41]),
  (40, [.sipush (-1), .jsr 41]),
  (41, [.ireturn])]
def ex_b159 : List (Nat × List Instr) := [(0, [.aload 0, .iload 1, .invokevirtual 1265, .istore 2, .aload 0, .iload 2, .sipush (-1), .if_icmp .ne 19, .aload 0, .getfield 752, .goto 20]),
  (19, [.iload 2, .jsr 20]),
  (20, [.putfield 752, .iload 2, .sipush (-1), .if_icmp .ne 32, .sipush (-1), .goto 34]),
  (32, [.sipush 8, .jsr 34]),
  (34, [.ireturn])]
def ex_b160 : List (Nat × List Instr) := [(0, [.iload 1, .tableswitch 212 0 7 #[48, 81, 106, 127, 152, 164, 186, 206]]),
  (48, [.aload 0, .iload 2, .sipush 119, .if_icmp .ne 59, .sipush 0, .goto 60]),
  (59, [.sipush 1, .jsr 60]),
  (60, [.putfield 748, .iload 2, .sipush 119, .if_icmp .eq 75, .iload 2, .sipush 101, .if_icmp .ne 79, .jsr 75]),
  (75, [.sipush 1, .goto 80]),
  (79, [.sipush (-1), .jsr 80]),
  (80, [.ireturn]),
  (81, [.aload 0, .iload 2, .sipush 97, .isub, .putfield 749, .iload 2, .sipush 97, .sipush 102, .invokestatic 1187, .ifCond .eq 104, .sipush 2, .goto 105]),
  (104, [.sipush (-1), .jsr 105]),
  (105, [.ireturn]),
  (106, [.aload 0, .iload 2, .sipush 48, .isub, .putfield 750, .iload 2, .invokestatic 1209, .ifCond .eq 125, .sipush 3, .goto 126]),
  (125, [.sipush (-1), .jsr 126]),
  (126, [.ireturn]),
  (127, [.aload 0, .sipush 0, .iload 2, .invokevirtual 1258, .ifCond .eq 140, .sipush 4, .goto 151]),
  (140, [.iload 2, .sipush 45, .if_icmp .ne 150, .sipush 5, .goto 151]),
  (150, [.sipush (-1), .jsr 151]),
  (151, [.ireturn]),
  (152, [.iload 2, .sipush 45, .if_icmp .ne 162, .sipush 5, .goto 163]),
  (162, [.sipush (-1), .jsr 163]),
  (163, [.ireturn]),
  (164, [.aload 0, .iload 2, .sipush 48, .isub, .putfield 751, .iload 2, .invokestatic 1209, .ifCond .eq 184, .sipush 6, .goto 185]),
  (184, [.sipush (-1), .jsr 185]),
  (185, [.ireturn]),
  (186, [.aload 0, .sipush 1, .iload 2, .invokevirtual 1258, .ifCond .eq 200, .sipush 7, .goto 205]),
  (200, [.aload 0, .iload 2, .invokevirtual 1273, .jsr 205]),
  (205, [.ireturn]),
  (206, [.aload 0, .iload 2, .invokevirtual 1273, .ireturn]),
  (212, [.sipush (-1), .ireturn])]
def ex_b161 : List (Nat × List Instr) := [(0, [.aload 0, .sipush 0, .putfield 752, .sipush 0, .istore 1, .sipush 0, .istore 2, .sipush 1, .istore 3, .jsr 11]),
  (11, [.iload 2, .aload 0, .getfield 728, .if_icmp .ge 74, .iload 3, .ifCond .eq 74, .aload 0, .iload 1, .aload 0, .getfield 729, .iload 2, .baload, .invokevirtual 1282, .istore 4, .iload 4, .sipush (-1), .if_icmp .eq 46, .sipush 1, .goto 47]),
  (46, [.sipush 0, .jsr 47]),
  (47, [.istore 3, .iload 3, .ifCond .eq 57, .iload 4, .goto 58]),
  (57, [.iload 1, .jsr 58]),
  (58, [.istore 1, .iload 2, .iload 3, .ifCond .eq 68, .sipush 1, .goto 69]),
  (68, [.sipush 0, .jsr 69]),
  (69, [.iadd, .istore 2, .goto 11]),
  (74, [.aload 0, .iload 2, .putfield 740, .aload 0, .iload 2, .aload 0, .getfield 728, .if_icmp .ne 97, .iload 1, .sipush 5, .if_icmp .le 97, .sipush 1, .goto 98]),
  (97, [.sipush 0, .jsr 98]),
  (98, [.putfield 741, .return_])]
def ex_b162 : List (Nat × List Instr) := [(0, [.iload 1, .sipush 0, .sipush 1, .invokestatic 1187, .ifCond .ne 12, .sipush (-102), .ireturn]),
  (12, [.iload 1, .ifCond .ne 23, .aload 0, .invokevirtual 1232, .goto 27]),
  (23, [.aload 0, .invokevirtual 1288, .jsr 27]),
  (27, [.aload 0, .getfield 740, .ireturn])]
def ex_b163 : List (Nat × List Instr) := [(0, [.aload 0, .invokevirtual 1232, .aload 0, .getfield 741, .ifCond .ne 14, .sipush (-103), .ireturn]),
  (14, [.aload 0, .aload 0, .getfield 742, .sipush 1, .iadd, .putfield 704, .aload 0, .aload 0, .getfield 743, .putfield 705, .sipush 0, .istore 1, .jsr 34]),
  (34, [.iload 1, .aload 0, .getfield 704, .aload 0, .getfield 705, .imul, .if_icmp .ge 65, .aload 0, .getfield 707, .iload 1, .aload 0, .getfield 746, .iload 1, .iaload, .iastore, .iinc 1 1, .goto 34]),
  (65, [.sipush 0, .istore 1, .jsr 67]),
  (67, [.iload 1, .aload 0, .getfield 704, .if_icmp .ge 93, .aload 0, .getfield 708, .iload 1, .aload 0, .getfield 747, .iload 1, .iaload, .iastore, .iinc 1 1, .goto 67]),
  (93, [.aload 0, .dup, .getfield 706, .sipush 1, .iadd, .putfield 706, .aload 0, .sipush 0, .putfield 717, .aload 0, .sipush 0, .putfield 715, .aload 0, .sipush 0, .putfield 721, .aload 0, .sipush 0, .putfield 724, .aload 0, .sipush 0, .putfield 753, .aload 0, .sipush 0, .putfield 728, .aload 0, .getfield 704, .aload 0, .getfield 705, .imul, .ireturn])]
def ex_b164 : List (Nat × List Instr) := [(0, [.aload 0, .invokevirtual 1288, .aload 0, .getfield 741, .ifCond .ne 14, .sipush (-103), .ireturn]),
  (14, [.aload 0, .getfield 709, .sipush 8, .if_icmp .ne 26, .sipush (-104), .ireturn]),
  (26, [.aload 0, .getfield 710, .aload 0, .getfield 709, .aload 0, .getfield 748, .iastore, .aload 0, .getfield 711, .aload 0, .getfield 709, .aload 0, .getfield 749, .iastore, .aload 0, .getfield 712, .aload 0, .getfield 709, .aload 0, .getfield 750, .iastore, .aload 0, .getfield 713, .aload 0, .getfield 709, .aload 0, .getfield 751, .iastore, .aload 0, .getfield 714, .aload 0, .getfield 709, .aload 0, .getfield 752, .iastore, .aload 0, .dup, .getfield 709, .sipush 1, .iadd, .putfield 709, .aload 0, .sipush 0, .putfield 728, .aload 0, .getfield 709, .sipush 1, .isub, .ireturn])]
def ex_b165 : List (Nat × List Instr) := [(0, [.iload 2, .tableswitch 60 0 3 #[32, 39, 46, 53]]),
  (32, [.aload 0, .getfield 710, .iload 1, .iaload, .ireturn]),
  (39, [.aload 0, .getfield 711, .iload 1, .iaload, .ireturn]),
  (46, [.aload 0, .getfield 712, .iload 1, .iaload, .ireturn]),
  (53, [.aload 0, .getfield 713, .iload 1, .iaload, .ireturn]),
  (60, [.aload 0, .getfield 714, .iload 1, .iaload, .ireturn])]
def ex_b166 : List (Nat × List Instr) := [(0, [.iload 1, .sipush 0, .aload 0, .getfield 709, .sipush 1, .isub, .invokestatic 1187, .areturn])]
def ex_b167 : List (Nat × List Instr) := [(0, [.aload 0, .iload 1, .invokevirtual 1329, .ifCond .ne 13, .sipush (-101), .goto 33]),
  (13, [.iload 2, .sipush 0, .sipush 4, .invokestatic 1187, .ifCond .eq 31, .aload 0, .iload 1, .iload 2, .invokevirtual 1322, .goto 33]),
  (31, [.sipush (-102), .jsr 33]),
  (33, [.ireturn])]
def ex_b168 : List (Nat × List Instr) := [(0, [.aload 0, .iload 1, .invokevirtual 1329, .ifCond .ne 11, .sipush (-101), .ireturn]),
  (11, [.iload 2, .sipush 0, .sipush 4, .invokestatic 1187, .ifCond .ne 23, .sipush (-102), .ireturn]),
  (23, [.aload 0, .getfield 714, .iload 1, .iaload, .istore 3, .iload 2, .ifCond .eq 49, .iload 3, .iload 2, .if_icmp .eq 49, .iload 2, .sipush 1, .if_icmp .ne 53, .iload 3, .sipush 3, .if_icmp .ne 53, .jsr 49]),
  (49, [.iload 1, .goto 54]),
  (53, [.sipush (-1), .jsr 54]),
  (54, [.ireturn])]
def ex_b169 : List (Nat × List Instr) := [(0, [.aload 0, .getfield 704, .aload 0, .getfield 705, .imul, .ireturn])]
def ex_b170 : List (Nat × List Instr) := [(0, [.iload 1, .sipush 0, .aload 0, .invokevirtual 1352, .sipush 1, .isub, .invokestatic 1187, .areturn])]
def ex_b171 : List (Nat × List Instr) := [(0, [.aload 0, .iload 1, .invokevirtual 1361, .ifCond .eq 22, .aload 0, .getfield 707, .iload 1, .iaload, .sipush 1, .if_icmp .eq 22, .sipush 1, .goto 23]),
  (22, [.sipush 0, .jsr 23]),
  (23, [.areturn])]
def ex_b172 : List (Nat × List Instr) := [(0, [.aload 0, .getfield 708, .iload 1, .aload 0, .getfield 705, .idiv, .iaload, .aload 0, .getfield 753, .iadd, .istore 2, .iload 2, .ifCond .ge 25, .sipush 0, .goto 41]),
  (25, [.iload 2, .aload 0, .getfield 705, .if_icmp .le 40, .aload 0, .getfield 705, .goto 41]),
  (40, [.iload 2, .jsr 41]),
  (41, [.istore 2, .iload 1, .aload 0, .getfield 705, .irem, .iload 2, .if_icmp .ge 56, .sipush 0, .goto 57]),
  (56, [.sipush 1, .jsr 57]),
  (57, [.ireturn])]
def ex_b173 : List (Nat × List Instr) := [(0, [.iload 1, .aload 0, .getfield 705, .idiv, .iload 2, .ifCond .ne 14, .sipush (-1), .goto 24]),
  (14, [.iload 2, .sipush 2, .if_icmp .ne 23, .sipush 1, .goto 24]),
  (23, [.sipush 0, .jsr 24]),
  (24, [.iadd, .istore 3, .iload 1, .aload 0, .getfield 705, .irem, .iload 2, .sipush 1, .if_icmp .ne 41, .sipush 1, .goto 51]),
  (41, [.iload 2, .sipush 3, .if_icmp .ne 50, .sipush (-1), .goto 51]),
  (50, [.sipush 0, .jsr 51]),
  (51, [.iadd, .istore 4, .iload 3, .sipush 0, .aload 0, .getfield 704, .sipush 1, .isub, .invokestatic 1187, .ifCond .eq 95, .iload 4, .sipush 0, .aload 0, .getfield 705, .sipush 1, .isub, .invokestatic 1187, .ifCond .eq 95, .iload 3, .aload 0, .getfield 705, .imul, .iload 4, .iadd, .goto 96]),
  (95, [.sipush (-1), .jsr 96]),
  (96, [.ireturn])]
def ex_b174 : List (Nat × List Instr) := [(0, [.aload 0, .iload 1, .iload 2, .invokevirtual 1386, .istore 3, .iload 3, .sipush (-1), .if_icmp .eq 22, .aload 0, .getfield 707, .iload 3, .iaload, .sipush 1, .if_icmp .ne 26, .jsr 22]),
  (22, [.iload 1, .goto 27]),
  (26, [.iload 3, .jsr 27]),
  (27, [.ireturn])]
def ex_b175 : List (Nat × List Instr) := [(0, [.aload 0, .getfield 718, .iload 1, .iaload, .sipush 1, .if_icmp .ne 29, .aload 0, .aload 0, .getfield 719, .iload 1, .iaload, .aload 0, .getfield 720, .iload 1, .iaload, .invokevirtual 1394, .goto 35]),
  (29, [.aload 0, .getfield 719, .iload 1, .iaload, .jsr 35]),
  (35, [.ireturn])]
def ex_b176 : List (Nat × List Instr) := [(0, [.sipush 0, .istore 2, .jsr 2]),
  (2, [.iload 2, .aload 0, .getfield 717, .if_icmp .ge 37, .aload 0, .getfield 719, .iload 2, .iaload, .iload 1, .if_icmp .eq 29, .aload 0, .iload 2, .invokevirtual 1401, .iload 1, .if_icmp .ne 31, .jsr 29]),
  (29, [.iload 2, .ireturn]),
  (31, [.iinc 2 1, .goto 2]),
  (37, [.sipush (-1), .ireturn])]
def ex_b177 : List (Nat × List Instr) := [(0, [.sipush 0, .istore 3, .jsr 2]),
  (2, [.iload 3, .sipush 24, .if_icmp .ge 22, .aload 0, .getfield 754, .iload 3, .sipush 268435456, .iastore, .iinc 3 1, .goto 2]),
  (22, [.aload 0, .getfield 754, .iload 1, .sipush 0, .iastore, .aload 0, .getfield 755, .sipush 0, .iload 1, .iastore, .sipush 1, .istore 3, .sipush 0, .istore 4, .jsr 41]),
  (41, [.iload 4, .iload 3, .if_icmp .ge 175, .aload 0, .getfield 755, .iload 4, .iaload, .istore 5, .iload 2, .ifCond .eq 76, .iload 5, .iload 1, .if_icmp .eq 76, .aload 0, .iload 5, .invokevirtual 1409, .sipush (-1), .if_icmp .ne 80, .jsr 76]),
  (76, [.sipush 1, .goto 81]),
  (80, [.sipush 0, .jsr 81]),
  (81, [.istore 6, .sipush 0, .istore 7, .jsr 86]),
  (86, [.iload 7, .sipush 4, .if_icmp .ge 169, .iload 6, .ifCond .eq 169, .aload 0, .iload 5, .iload 7, .invokevirtual 1386, .istore 8, .iload 8, .sipush (-1), .if_icmp .eq 163, .aload 0, .getfield 707, .iload 8, .iaload, .sipush 1, .if_icmp .eq 163, .aload 0, .getfield 754, .iload 8, .iaload, .sipush 268435456, .if_icmp .ne 163, .aload 0, .getfield 754, .iload 8, .aload 0, .getfield 754, .iload 5, .iaload, .sipush 1, .iadd, .iastore, .aload 0, .getfield 755, .iload 3, .iload 8, .iastore, .iinc 3 1, .jsr 163]),
  (163, [.iinc 7 1, .goto 86]),
  (169, [.iinc 4 1, .goto 41]),
  (175, [.return_])]
def ex_b178 : List (Nat × List Instr) := [(0, [.sipush (-1), .istore 2, .aload 0, .getfield 707, .iload 1, .iaload, .sipush 1, .if_icmp .ne 14, .sipush (-1), .ireturn]),
  (14, [.aload 0, .iload 1, .sipush 0, .invokevirtual 1418, .sipush 0, .istore 3, .jsr 22]),
  (22, [.iload 3, .aload 0, .invokevirtual 1352, .if_icmp .ge 79, .aload 0, .getfield 707, .iload 3, .iaload, .sipush 2, .if_icmp .ne 73, .aload 0, .getfield 754, .iload 3, .iaload, .sipush 268435456, .if_icmp .ge 73, .iload 2, .sipush (-1), .if_icmp .eq 71, .aload 0, .getfield 754, .iload 3, .iaload, .aload 0, .getfield 754, .iload 2, .iaload, .if_icmp .ge 73, .jsr 71]),
  (71, [.iload 3, .istore 2, .jsr 73]),
  (73, [.iinc 3 1, .goto 22]),
  (79, [.iload 2, .ireturn])]
def ex_b179 : List (Nat × List Instr) := [(0, [.iload 2, .tableswitch 47 0 2 #[28, 35, 41]]),
  (28, [.aload 0, .getfield 707, .iload 1, .iaload, .ireturn]),
  (35, [.aload 0, .iload 1, .invokevirtual 1377, .ireturn]),
  (41, [.aload 0, .iload 1, .invokevirtual 1409, .ireturn]),
  (47, [.aload 0, .iload 1, .invokevirtual 1425, .ireturn])]
def ex_b180 : List (Nat × List Instr) := [(0, [.aload 0, .iload 1, .invokevirtual 1361, .ifCond .ne 13, .sipush (-101), .goto 33]),
  (13, [.iload 2, .sipush 0, .sipush 3, .invokestatic 1187, .ifCond .eq 31, .aload 0, .iload 1, .iload 2, .invokevirtual 1434, .goto 33]),
  (31, [.sipush (-102), .jsr 33]),
  (33, [.ireturn])]
def ex_b181 : List (Nat × List Instr) := [(0, [.iload 4, .sipush 1, .if_icmp .ne 10, .iload 1, .ifCond .eq 32, .jsr 10]),
  (10, [.iload 4, .sipush 1, .if_icmp .le 21, .iload 1, .sipush 1, .if_icmp .eq 32, .jsr 21]),
  (21, [.iload 4, .sipush 3, .if_icmp .ne 36, .iload 1, .sipush 2, .if_icmp .ne 36, .jsr 32]),
  (32, [.sipush 1, .goto 37]),
  (36, [.sipush 0, .jsr 37]),
  (37, [.istore 5, .iload 5, .ifCond .eq 53, .aload 0, .iload 2, .iload 3, .invokevirtual 1394, .goto 54]),
  (53, [.iload 2, .jsr 54]),
  (54, [.ireturn])]
def ex_b182 : List (Nat × List Instr) := [(0, [.iload 0, .sipush 0, .sipush 2, .invokestatic 1187, .ifCond .eq 22, .iload 1, .sipush 0, .sipush 3, .invokestatic 1187, .ifCond .eq 22, .sipush 1, .goto 23]),
  (22, [.sipush 0, .jsr 23]),
  (23, [.areturn])]
def ex_b183 : List (Nat × List Instr) := [(0, [.aload 0, .iload 2, .invokevirtual 1369, .ifCond .ne 11, .sipush (-101), .ireturn]),
  (11, [.iload 1, .iload 3, .invokestatic 1458, .ifCond .eq 41, .iload 4, .sipush 0, .sipush 3, .invokestatic 1187, .ifCond .eq 41, .aload 0, .iload 1, .iload 2, .iload 3, .iload 4, .invokevirtual 1452, .goto 43]),
  (41, [.sipush (-102), .jsr 43]),
  (43, [.ireturn])]
def ex_b184 : List (Nat × List Instr) := [(0, [.aload 0, .getfield 712, .iload 1, .iaload, .aload 0, .getfield 713, .iload 1, .iaload, .if_icmp .ne 17, .sipush 1, .areturn]),
  (17, [.iload 2, .aload 0, .getfield 712, .iload 1, .iaload, .if_icmp .lt 31, .sipush 1, .goto 32]),
  (31, [.sipush 0, .jsr 32]),
  (32, [.istore 3, .iload 2, .aload 0, .getfield 713, .iload 1, .iaload, .if_icmp .ge 47, .sipush 1, .goto 48]),
  (47, [.sipush 0, .jsr 48]),
  (48, [.istore 4, .aload 0, .getfield 712, .iload 1, .iaload, .aload 0, .getfield 713, .iload 1, .iaload, .if_icmp .ge 82, .iload 3, .ifCond .eq 78, .iload 4, .ifCond .eq 78, .sipush 1, .goto 96]),
  (78, [.sipush 0, .goto 96]),
  (82, [.iload 3, .ifCond .ne 91, .iload 4, .ifCond .eq 95, .jsr 91]),
  (91, [.sipush 1, .goto 96]),
  (95, [.sipush 0, .jsr 96]),
  (96, [.areturn])]
def ex_b185 : List (Nat × List Instr) := [(0, [.aload 0, .getfield 710, .iload 1, .iaload, .istore 5, .aload 0, .getfield 714, .iload 1, .iaload, .tableswitch 170 1 4 #[44, 60, 84, 136]]),
  (44, [.aload 0, .iload 3, .invokevirtual 1377, .iload 5, .if_icmp .ne 58, .sipush 1, .goto 59]),
  (58, [.sipush 0, .jsr 59]),
  (59, [.areturn]),
  (60, [.aload 0, .aload 0, .iload 2, .iload 3, .iload 4, .sipush 1, .invokevirtual 1452, .invokevirtual 1377, .iload 5, .if_icmp .ne 82, .sipush 1, .goto 83]),
  (82, [.sipush 0, .jsr 83]),
  (83, [.areturn]),
  (84, [.aload 0, .iload 3, .invokevirtual 1377, .iload 5, .if_icmp .ne 134, .aload 0, .aload 0, .iload 2, .iload 3, .iload 4, .sipush 2, .invokevirtual 1452, .invokevirtual 1377, .iload 5, .if_icmp .ne 134, .aload 0, .aload 0, .iload 2, .iload 3, .iload 4, .sipush 3, .invokevirtual 1452, .invokevirtual 1377, .iload 5, .if_icmp .ne 134, .sipush 1, .goto 135]),
  (134, [.sipush 0, .jsr 135]),
  (135, [.areturn]),
  (136, [.aload 0, .iload 3, .invokevirtual 1425, .istore 6, .aload 0, .iload 6, .sipush (-1), .if_icmp .ne 154, .iload 3, .goto 156]),
  (154, [.iload 6, .jsr 156]),
  (156, [.invokevirtual 1377, .iload 5, .if_icmp .ne 168, .sipush 1, .goto 169]),
  (168, [.sipush 0, .jsr 169]),
  (169, [.areturn]),
  (170, [.sipush 1, .areturn])]
def ex_b186 : List (Nat × List Instr) := [(0, [.sipush 0, .istore 6, .sipush 0, .istore 7, .jsr 6]),
  (6, [.iload 7, .aload 0, .getfield 709, .if_icmp .ge 81, .aload 0, .getfield 711, .iload 7, .iaload, .iload 1, .if_icmp .ne 54, .aload 0, .iload 7, .iload 2, .invokevirtual 1474, .ifCond .eq 54, .aload 0, .iload 7, .iload 3, .iload 4, .iload 5, .invokevirtual 1484, .ifCond .eq 54, .sipush 1, .goto 55]),
  (54, [.sipush 0, .jsr 55]),
  (55, [.istore 8, .iload 6, .iload 8, .ifCond .eq 71, .sipush 1, .iload 7, .ishl, .goto 72]),
  (71, [.sipush 0, .jsr 72]),
  (72, [.ior, .istore 6, .iinc 7 1, .goto 6]),
  (81, [.iload 6, .ireturn])]
def ex_b187 : List (Nat × List Instr) := [(0, [.iload 0, .sipush 0, .sipush 5, .invokestatic 1187, .ifCond .eq 23, .iload 1, .sipush 0, .sipush 23, .invokestatic 1187, .ifCond .eq 23, .sipush 1, .goto 24]),
  (23, [.sipush 0, .jsr 24]),
  (24, [.areturn])]
def ex_b188 : List (Nat × List Instr) := [(0, [.aload 0, .iload 4, .invokevirtual 1369, .ifCond .ne 12, .sipush (-101), .ireturn]),
  (12, [.iload 1, .iload 2, .invokestatic 1498, .ifCond .eq 43, .iload 3, .iload 5, .invokestatic 1458, .ifCond .eq 43, .aload 0, .iload 1, .iload 2, .iload 3, .iload 4, .iload 5, .invokevirtual 1493, .goto 45]),
  (43, [.sipush (-102), .jsr 45]),
  (45, [.ireturn])]
def ex_b189 : List (Nat × List Instr) := [(0, [.aload 0, .iload 4, .invokevirtual 1369, .ifCond .ne 12, .sipush (-101), .ireturn]),
  (12, [.iload 2, .iload 1, .invokestatic 1498, .ifCond .eq 29, .iload 3, .iload 5, .invokestatic 1458, .ifCond .ne 32, .jsr 29]),
  (29, [.sipush (-102), .ireturn]),
  (32, [.aload 0, .getfield 715, .sipush 12, .if_icmp .ne 44, .sipush (-104), .ireturn]),
  (44, [.aload 0, .getfield 716, .sipush 5, .aload 0, .getfield 715, .imul, .iload 1, .iastore, .aload 0, .getfield 716, .sipush 5, .aload 0, .getfield 715, .imul, .sipush 1, .iadd, .iload 2, .iastore, .aload 0, .getfield 716, .sipush 5, .aload 0, .getfield 715, .imul, .sipush 2, .iadd, .iload 3, .iastore, .aload 0, .getfield 716, .sipush 5, .aload 0, .getfield 715, .imul, .sipush 3, .iadd, .iload 4, .iastore, .aload 0, .getfield 716, .sipush 5, .aload 0, .getfield 715, .imul, .sipush 4, .iadd, .iload 5, .iastore, .aload 0, .dup, .getfield 715, .sipush 1, .iadd, .putfield 715, .aload 0, .getfield 715, .sipush 1, .isub, .ireturn])]
def ex_b190 : List (Nat × List Instr) := [(0, [.aload 0, .aload 0, .getfield 716, .sipush 5, .iload 1, .imul, .sipush 1, .iadd, .iaload, .aload 0, .getfield 716, .sipush 5, .iload 1, .imul, .iaload, .aload 0, .getfield 716, .sipush 5, .iload 1, .imul, .sipush 2, .iadd, .iaload, .aload 0, .getfield 716, .sipush 5, .iload 1, .imul, .sipush 3, .iadd, .iaload, .aload 0, .getfield 716, .sipush 5, .iload 1, .imul, .sipush 4, .iadd, .iaload, .invokevirtual 1493, .ireturn])]
def ex_b191 : List (Nat × List Instr) := [(0, [.sipush 0, .istore 1, .jsr 2]),
  (2, [.iload 0, .iload 1, .ishr, .sipush 1, .iand, .ifCond .ne 16, .iinc 1 1, .goto 2]),
  (16, [.iload 1, .ireturn])]
def ex_b192 : List (Nat × List Instr) := [(0, [.iload 1, .sipush 0, .sipush 1, .invokestatic 1187, .ifCond .ne 12, .sipush (-102), .ireturn]),
  (12, [.sipush (-1), .istore 2, .sipush 0, .istore 3, .jsr 16]),
  (16, [.iload 3, .aload 0, .getfield 715, .if_icmp .ge 64, .aload 0, .iload 3, .invokevirtual 1521, .ifCond .eq 58, .iload 2, .sipush (-1), .if_icmp .eq 56, .aload 0, .getfield 716, .sipush 5, .iload 3, .imul, .iaload, .aload 0, .getfield 716, .sipush 5, .iload 2, .imul, .iaload, .if_icmp .ge 58, .jsr 56]),
  (56, [.iload 3, .istore 2, .jsr 58]),
  (58, [.iinc 3 1, .goto 16]),
  (64, [.iload 2, .sipush (-1), .if_icmp .eq 73, .iload 1, .ifCond .ne 77, .jsr 73]),
  (73, [.iload 2, .goto 85]),
  (77, [.aload 0, .iload 2, .invokevirtual 1521, .invokestatic 1529, .jsr 85]),
  (85, [.ireturn])]
def ex_b193 : List (Nat × List Instr) := [(0, [.aload 0, .getfield 706, .ifCond .ne 10, .sipush (-103), .ireturn]),
  (10, [.iload 1, .iload 2, .invokestatic 1498, .ifCond .eq 36, .iload 3, .sipush 0, .invokestatic 1458, .ifCond .eq 36, .iload 4, .sipush 0, .sipush 2, .invokestatic 1187, .ifCond .ne 39, .jsr 36]),
  (36, [.sipush (-102), .ireturn]),
  (39, [.sipush 0, .istore 5, .sipush 0, .istore 6, .jsr 45]),
  (45, [.iload 6, .aload 0, .invokevirtual 1352, .if_icmp .ge 152, .aload 0, .getfield 707, .iload 6, .iaload, .sipush 1, .if_icmp .eq 146, .sipush 0, .istore 7, .sipush 0, .istore 8, .jsr 71]),
  (71, [.iload 8, .sipush 4, .if_icmp .ge 107, .iload 7, .aload 0, .iload 1, .iload 2, .iload 3, .iload 6, .iload 8, .invokevirtual 1493, .ifCond .ne 97, .sipush 0, .goto 98]),
  (97, [.sipush 1, .jsr 98]),
  (98, [.iadd, .istore 7, .iinc 8 1, .goto 71]),
  (107, [.iload 7, .ifCond .ne 116, .sipush 0, .goto 127]),
  (116, [.iload 7, .sipush 4, .if_icmp .ne 126, .sipush 2, .goto 127]),
  (126, [.sipush 1, .jsr 127]),
  (127, [.istore 8, .iload 5, .iload 8, .iload 4, .if_icmp .ne 142, .sipush 1, .goto 143]),
  (142, [.sipush 0, .jsr 143]),
  (143, [.iadd, .istore 5, .jsr 146]),
  (146, [.iinc 6 1, .goto 45]),
  (152, [.iload 5, .ireturn])]
def ex_b194 : List (Nat × List Instr) := [(0, [.aload 0, .iload 1, .invokevirtual 1361, .ifCond .eq 21, .aload 0, .getfield 707, .iload 1, .iaload, .ifCond .ne 21, .sipush 1, .goto 22]),
  (21, [.sipush 0, .jsr 22]),
  (22, [.areturn])]
def ex_b195 : List (Nat × List Instr) := [(0, [.iload 1, .sipush 1, .if_icmp .ne 14, .aload 0, .iload 2, .iload 3, .invokevirtual 1386, .goto 15]),
  (14, [.iload 2, .jsr 15]),
  (15, [.istore 4, .iload 4, .sipush (-1), .if_icmp .eq 46, .aload 0, .getfield 707, .iload 2, .iaload, .ifCond .ne 46, .aload 0, .getfield 707, .iload 4, .iaload, .ifCond .ne 46, .sipush 1, .goto 47]),
  (46, [.sipush 0, .jsr 47]),
  (47, [.areturn])]
def ex_b196 : List (Nat × List Instr) := [(0, [.aload 0, .iload 1, .invokevirtual 1401, .istore 3, .aload 0, .iload 2, .invokevirtual 1401, .istore 4, .aload 0, .getfield 719, .iload 1, .iaload, .aload 0, .getfield 719, .iload 2, .iaload, .if_icmp .eq 55, .aload 0, .getfield 719, .iload 1, .iaload, .iload 4, .if_icmp .eq 55, .iload 3, .aload 0, .getfield 719, .iload 2, .iaload, .if_icmp .eq 55, .iload 3, .iload 4, .if_icmp .ne 59, .jsr 55]),
  (55, [.sipush 1, .goto 60]),
  (59, [.sipush 0, .jsr 60]),
  (60, [.areturn])]
def ex_b197 : List (Nat × List Instr) := [(0, [.sipush 1, .istore 1, .sipush 0, .istore 2, .jsr 4]),
  (4, [.iload 2, .aload 0, .getfield 717, .if_icmp .ge 85, .iload 1, .ifCond .eq 45, .aload 0, .aload 0, .getfield 718, .iload 2, .iaload, .aload 0, .getfield 719, .iload 2, .iaload, .aload 0, .getfield 720, .iload 2, .iaload, .invokevirtual 1563, .ifCond .eq 45, .sipush 1, .goto 46]),
  (45, [.sipush 0, .jsr 46]),
  (46, [.istore 1, .sipush 0, .istore 3, .jsr 49]),
  (49, [.iload 3, .iload 2, .if_icmp .ge 79, .iload 1, .ifCond .eq 71, .aload 0, .iload 2, .iload 3, .invokevirtual 1570, .ifCond .ne 71, .sipush 1, .goto 72]),
  (71, [.sipush 0, .jsr 72]),
  (72, [.istore 1, .iinc 3 1, .goto 49]),
  (79, [.iinc 2 1, .goto 4]),
  (85, [.iload 1, .areturn])]
def ex_b198 : List (Nat × List Instr) := [(0, [.aload 0, .getfield 718, .iload 1, .iload 2, .iastore, .aload 0, .getfield 719, .iload 1, .iload 3, .iastore, .aload 0, .getfield 720, .iload 1, .iload 4, .iastore, .return_])]
def ex_b199 : List (Nat × List Instr) := [(0, [.iload 1, .sipush 0, .iload 0, .sipush 1, .if_icmp .ne 11, .sipush 3, .goto 12]),
  (11, [.sipush 0, .jsr 12]),
  (12, [.invokestatic 1187, .areturn])]
def ex_b200 : List (Nat × List Instr) := [(0, [.iload 1, .sipush 0, .sipush 3, .invokestatic 1187, .ifCond .ne 12, .sipush (-102), .ireturn]),
  (12, [.aload 0, .iload 2, .invokevirtual 1553, .ifCond .ne 23, .sipush (-101), .ireturn]),
  (23, [.iload 1, .iload 3, .invokestatic 1594, .ifCond .ne 34, .sipush (-102), .ireturn]),
  (34, [.aload 0, .getfield 717, .sipush 3, .if_icmp .ne 60, .aload 0, .iload 1, .iload 2, .iload 3, .invokevirtual 1611, .ifCond .eq 57, .sipush (-104), .goto 59]),
  (57, [.sipush (-103), .jsr 59]),
  (59, [.ireturn]),
  (60, [.aload 0, .aload 0, .getfield 717, .iload 1, .iload 2, .iload 3, .invokevirtual 1588, .aload 0, .dup, .getfield 717, .sipush 1, .iadd, .putfield 717, .aload 0, .invokevirtual 1576, .ifCond .ne 101, .aload 0, .dup, .getfield 717, .sipush 1, .isub, .putfield 717, .sipush (-103), .ireturn]),
  (101, [.aload 0, .getfield 717, .sipush 1, .isub, .ireturn])]
def ex_b201 : List (Nat × List Instr) := [(0, [.aload 0, .iload 1, .iload 2, .iload 3, .invokevirtual 1563, .ifCond .ne 12, .sipush 0, .areturn]),
  (12, [.iload 1, .sipush 1, .if_icmp .ne 26, .aload 0, .iload 2, .iload 3, .invokevirtual 1386, .goto 27]),
  (26, [.iload 2, .jsr 27]),
  (27, [.istore 4, .aload 0, .iload 2, .invokevirtual 1409, .sipush (-1), .if_icmp .ne 52, .aload 0, .iload 4, .invokevirtual 1409, .sipush (-1), .if_icmp .ne 52, .sipush 1, .goto 53]),
  (52, [.sipush 0, .jsr 53]),
  (53, [.areturn])]
def ex_b202 : List (Nat × List Instr) := [(0, [.iload 1, .sipush 0, .aload 0, .getfield 717, .sipush 1, .isub, .invokestatic 1187, .areturn])]
def ex_b203 : List (Nat × List Instr) := [(0, [.aload 0, .iload 1, .invokevirtual 1617, .ifCond .ne 11, .sipush (-101), .ireturn]),
  (11, [.iload 2, .sipush 0, .sipush 3, .invokestatic 1187, .ifCond .ne 23, .sipush (-102), .ireturn]),
  (23, [.aload 0, .getfield 718, .iload 1, .iaload, .istore 3, .iload 2, .ifCond .eq 49, .iload 3, .iload 2, .if_icmp .eq 49, .iload 2, .sipush 2, .if_icmp .ne 53, .iload 3, .sipush 3, .if_icmp .ne 53, .jsr 49]),
  (49, [.iload 1, .goto 54]),
  (53, [.sipush (-1), .jsr 54]),
  (54, [.ireturn])]
def ex_b204 : List (Nat × List Instr) := [(0, [.iload 2, .tableswitch 49 0 2 #[28, 35, 42]]),
  (28, [.aload 0, .getfield 718, .iload 1, .iaload, .ireturn]),
  (35, [.aload 0, .getfield 719, .iload 1, .iaload, .ireturn]),
  (42, [.aload 0, .getfield 720, .iload 1, .iaload, .ireturn]),
  (49, [.aload 0, .iload 1, .invokevirtual 1401, .ireturn])]
def ex_b205 : List (Nat × List Instr) := [(0, [.aload 0, .iload 1, .invokevirtual 1617, .ifCond .ne 13, .sipush (-101), .goto 33]),
  (13, [.iload 2, .sipush 0, .sipush 3, .invokestatic 1187, .ifCond .eq 31, .aload 0, .iload 1, .iload 2, .invokevirtual 1634, .goto 33]),
  (31, [.sipush (-102), .jsr 33]),
  (33, [.ireturn])]
def ex_b206 : List (Nat × List Instr) := [(0, [.aload 0, .iload 1, .invokevirtual 1617, .ifCond .eq 16, .aload 0, .iload 2, .invokevirtual 1553, .ifCond .ne 19, .jsr 16]),
  (16, [.sipush (-101), .ireturn]),
  (19, [.aload 0, .getfield 718, .iload 1, .iaload, .iload 3, .invokestatic 1594, .ifCond .ne 35, .sipush (-102), .ireturn]),
  (35, [.aload 0, .getfield 719, .iload 1, .iaload, .istore 4, .aload 0, .getfield 720, .iload 1, .iaload, .istore 5, .aload 0, .iload 1, .aload 0, .getfield 718, .iload 1, .iaload, .iload 2, .iload 3, .invokevirtual 1588, .aload 0, .invokevirtual 1576, .ifCond .ne 89, .aload 0, .iload 1, .aload 0, .getfield 718, .iload 1, .iaload, .iload 4, .iload 5, .invokevirtual 1588, .sipush (-103), .ireturn]),
  (89, [.sipush 4, .iload 4, .imul, .iload 5, .iadd, .ireturn])]
def ex_b207 : List (Nat × List Instr) := [(0, [.iload 1, .iload 2, .invokestatic 1498, .ifCond .ne 11, .sipush (-102), .ireturn]),
  (11, [.aload 0, .getfield 721, .sipush 6, .if_icmp .ne 23, .sipush (-104), .ireturn]),
  (23, [.aload 0, .getfield 722, .aload 0, .getfield 721, .iload 1, .iastore, .aload 0, .getfield 723, .aload 0, .getfield 721, .iload 2, .iastore, .aload 0, .dup, .getfield 721, .sipush 1, .iadd, .putfield 721, .aload 0, .getfield 721, .sipush 1, .isub, .ireturn])]
def ex_b208 : List (Nat × List Instr) := [(0, [.sipush 0, .istore 3, .sipush 0, .istore 4, .jsr 5]),
  (5, [.iload 4, .aload 0, .getfield 717, .if_icmp .ge 65, .iload 3, .ifCond .ne 53, .aload 0, .getfield 718, .iload 4, .iaload, .sipush 1, .if_icmp .ne 57, .aload 0, .iload 1, .iload 2, .sipush 1, .aload 0, .getfield 719, .iload 4, .iaload, .aload 0, .getfield 720, .iload 4, .iaload, .invokevirtual 1493, .ifCond .ne 57, .jsr 53]),
  (53, [.sipush 1, .goto 58]),
  (57, [.sipush 0, .jsr 58]),
  (58, [.istore 3, .iinc 4 1, .goto 5]),
  (65, [.iload 3, .areturn])]
def ex_b209 : List (Nat × List Instr) := [(0, [.sipush 0, .istore 3, .sipush 0, .istore 4, .jsr 5]),
  (5, [.iload 4, .aload 0, .invokevirtual 1352, .if_icmp .ge 153, .aload 0, .getfield 707, .iload 4, .iaload, .sipush 1, .if_icmp .eq 147, .aload 0, .iload 4, .invokevirtual 1409, .sipush (-1), .if_icmp .ne 147, .sipush 0, .istore 5, .jsr 38]),
  (38, [.iload 5, .sipush 4, .if_icmp .ge 147, .iload 3, .ifCond .ne 147, .aload 0, .iload 4, .iload 5, .invokevirtual 1386, .istore 6, .iload 6, .sipush (-1), .if_icmp .ne 68, .sipush (-1), .goto 74]),
  (68, [.aload 0, .iload 6, .invokevirtual 1409, .jsr 74]),
  (74, [.istore 7, .iload 7, .sipush (-1), .if_icmp .eq 113, .aload 0, .getfield 718, .iload 7, .iaload, .sipush 3, .if_icmp .eq 109, .iload 1, .sipush 1, .if_icmp .ne 113, .aload 0, .getfield 718, .iload 7, .iaload, .sipush 2, .if_icmp .ne 113, .jsr 109]),
  (109, [.sipush 1, .goto 114]),
  (113, [.sipush 0, .jsr 114]),
  (114, [.istore 8, .iload 8, .ifCond .eq 139, .aload 0, .iload 1, .iload 2, .sipush 0, .iload 4, .iload 5, .invokevirtual 1493, .ifCond .ne 139, .sipush 1, .goto 140]),
  (139, [.sipush 0, .jsr 140]),
  (140, [.istore 3, .iinc 5 1, .goto 38]),
  (147, [.iinc 4 1, .goto 5]),
  (153, [.iload 3, .areturn])]
def ex_b210 : List (Nat × List Instr) := [(0, [.sipush 0, .istore 3, .sipush 0, .istore 4, .jsr 5]),
  (5, [.iload 4, .aload 0, .invokevirtual 1352, .if_icmp .ge 89, .aload 0, .getfield 707, .iload 4, .iaload, .sipush 1, .if_icmp .eq 83, .aload 0, .iload 4, .invokevirtual 1409, .sipush (-1), .if_icmp .ne 83, .sipush 0, .istore 5, .jsr 38]),
  (38, [.iload 5, .sipush 4, .if_icmp .ge 83, .iload 3, .ifCond .ne 83, .aload 0, .iload 1, .iload 2, .iload 1, .sipush 4, .if_icmp .ne 60, .sipush 2, .goto 61]),
  (60, [.sipush 0, .jsr 61]),
  (61, [.iload 4, .iload 5, .invokevirtual 1493, .ifCond .ne 75, .sipush 1, .goto 76]),
  (75, [.sipush 0, .jsr 76]),
  (76, [.istore 3, .iinc 5 1, .goto 38]),
  (83, [.iinc 4 1, .goto 5]),
  (89, [.iload 3, .areturn])]
def ex_b211 : List (Nat × List Instr) := [(0, [.aload 0, .getfield 722, .iload 1, .iaload, .istore 2, .aload 0, .getfield 723, .iload 1, .iaload, .istore 3, .iload 2, .ifCond .ne 27, .aload 0, .iload 2, .iload 3, .invokevirtual 1666, .goto 47]),
  (27, [.iload 2, .sipush 3, .if_icmp .ge 41, .aload 0, .iload 2, .iload 3, .invokevirtual 1674, .goto 47]),
  (41, [.aload 0, .iload 2, .iload 3, .invokevirtual 1682, .jsr 47]),
  (47, [.areturn])]
def ex_b212 : List (Nat × List Instr) := [(0, [.sipush 0, .istore 1, .sipush 0, .istore 2, .jsr 4]),
  (4, [.iload 2, .aload 0, .getfield 721, .if_icmp .ge 43, .aload 0, .getfield 706, .ifCond .le 43, .iload 1, .aload 0, .iload 2, .invokevirtual 1689, .ifCond .eq 34, .sipush 1, .iload 2, .ishl, .goto 35]),
  (34, [.sipush 0, .jsr 35]),
  (35, [.ior, .istore 1, .iinc 2 1, .goto 4]),
  (43, [.iload 1, .ireturn])]
def ex_b213 : List (Nat × List Instr) := [(0, [.aload 0, .invokevirtual 1696, .ireturn])]
def ex_b214 : List (Nat × List Instr) := [(0, [.sipush 1, .istore 1, .sipush 0, .istore 2, .jsr 4]),
  (4, [.iload 2, .aload 0, .getfield 721, .if_icmp .ge 28, .iload 1, .ifCond .eq 28, .aload 0, .iload 2, .invokevirtual 1689, .istore 1, .iinc 2 1, .goto 4]),
  (28, [.iload 1, .areturn])]
def ex_b215 : List (Nat × List Instr) := [(0, [.aload 0, .getfield 718, .iload 1, .iaload, .iload 2, .sipush 4, .irem, .invokestatic 1594, .ifCond .eq 57, .iload 2, .sipush 4, .aload 0, .getfield 719, .iload 1, .iaload, .imul, .aload 0, .getfield 720, .iload 1, .iaload, .iadd, .if_icmp .eq 57, .aload 0, .aload 0, .getfield 718, .iload 1, .iaload, .iload 2, .sipush 4, .idiv, .iload 2, .sipush 4, .irem, .invokevirtual 1563, .ifCond .eq 57, .sipush 1, .goto 58]),
  (57, [.sipush 0, .jsr 58]),
  (58, [.areturn])]
def ex_b216 : List (Nat × List Instr) := [(0, [.sipush 0, .istore 1, .jsr 2]),
  (2, [.iload 1, .aload 0, .getfield 717, .if_icmp .ge 136, .sipush 4, .aload 0, .getfield 719, .iload 1, .iaload, .imul, .aload 0, .getfield 720, .iload 1, .iaload, .iadd, .istore 2, .sipush 0, .istore 3, .jsr 28]),
  (28, [.iload 3, .sipush 4, .aload 0, .invokevirtual 1352, .imul, .if_icmp .ge 130, .aload 0, .iload 1, .iload 3, .invokevirtual 1722, .ifCond .eq 124, .aload 0, .iload 1, .aload 0, .getfield 718, .iload 1, .iaload, .iload 3, .sipush 4, .idiv, .iload 3, .sipush 4, .irem, .invokevirtual 1588, .aload 0, .invokevirtual 1576, .ifCond .eq 82, .aload 0, .invokevirtual 1712, .ifCond .eq 82, .sipush 1, .goto 83]),
  (82, [.sipush 0, .jsr 83]),
  (83, [.istore 4, .aload 0, .iload 1, .aload 0, .getfield 718, .iload 1, .iaload, .iload 2, .sipush 4, .idiv, .iload 2, .sipush 4, .irem, .invokevirtual 1588, .iload 4, .ifCond .eq 124, .aload 0, .sipush 1, .putfield 756, .aload 0, .iload 1, .putfield 757, .aload 0, .iload 3, .putfield 758, .sipush 1, .areturn]),
  (124, [.iinc 3 1, .goto 28]),
  (130, [.iinc 1 1, .goto 2]),
  (136, [.sipush 0, .areturn])]
def ex_b217 : List (Nat × List Instr) := [(0, [.iload 1, .sipush 1, .iadd, .istore 2, .jsr 4]),
  (4, [.iload 2, .aload 0, .getfield 717, .if_icmp .ge 139, .sipush 4, .aload 0, .getfield 719, .iload 2, .iaload, .imul, .aload 0, .getfield 720, .iload 2, .iaload, .iadd, .istore 3, .sipush 0, .istore 4, .jsr 31]),
  (31, [.iload 4, .sipush 4, .aload 0, .invokevirtual 1352, .imul, .if_icmp .ge 133, .aload 0, .iload 2, .iload 4, .invokevirtual 1722, .ifCond .eq 127, .aload 0, .iload 2, .aload 0, .getfield 718, .iload 2, .iaload, .iload 4, .sipush 4, .idiv, .iload 4, .sipush 4, .irem, .invokevirtual 1588, .aload 0, .invokevirtual 1576, .ifCond .eq 89, .aload 0, .invokevirtual 1712, .ifCond .eq 89, .sipush 1, .goto 90]),
  (89, [.sipush 0, .jsr 90]),
  (90, [.istore 5, .aload 0, .iload 2, .aload 0, .getfield 718, .iload 2, .iaload, .iload 3, .sipush 4, .idiv, .iload 3, .sipush 4, .irem, .invokevirtual 1588, .iload 5, .ifCond .eq 127, .aload 0, .iload 2, .putfield 759, .aload 0, .iload 4, .putfield 760, .sipush 1, .areturn]),
  (127, [.iinc 4 1, .goto 31]),
  (133, [.iinc 2 1, .goto 4]),
  (139, [.sipush 0, .areturn])]
def ex_b218 : List (Nat × List Instr) := [(0, [.sipush 0, .istore 1, .jsr 2]),
  (2, [.iload 1, .aload 0, .getfield 717, .if_icmp .ge 122, .sipush 4, .aload 0, .getfield 719, .iload 1, .iaload, .imul, .aload 0, .getfield 720, .iload 1, .iaload, .iadd, .istore 2, .sipush 0, .istore 3, .jsr 28]),
  (28, [.iload 3, .sipush 4, .aload 0, .invokevirtual 1352, .imul, .if_icmp .ge 116, .aload 0, .iload 1, .iload 3, .invokevirtual 1722, .ifCond .eq 110, .aload 0, .iload 1, .aload 0, .getfield 718, .iload 1, .iaload, .iload 3, .sipush 4, .idiv, .iload 3, .sipush 4, .irem, .invokevirtual 1588, .aload 0, .iload 1, .invokevirtual 1737, .istore 4, .aload 0, .iload 1, .aload 0, .getfield 718, .iload 1, .iaload, .iload 2, .sipush 4, .idiv, .iload 2, .sipush 4, .irem, .invokevirtual 1588, .iload 4, .ifCond .eq 110, .aload 0, .sipush 2, .putfield 756, .aload 0, .iload 1, .putfield 757, .aload 0, .iload 3, .putfield 758, .sipush 1, .areturn]),
  (110, [.iinc 3 1, .goto 28]),
  (116, [.iinc 1 1, .goto 2]),
  (122, [.sipush 0, .areturn])]
def ex_b219 : List (Nat × List Instr) := [(0, [.aload 0, .sipush 0, .putfield 756, .aload 0, .sipush (-1), .putfield 757, .aload 0, .sipush (-1), .putfield 758, .aload 0, .sipush (-1), .putfield 759, .aload 0, .sipush (-1), .putfield 760, .aload 0, .invokevirtual 1712, .ifCond .ne 46, .aload 0, .invokevirtual 1728, .ifCond .ne 46, .aload 0, .invokevirtual 1744, .ifCond .eq 50, .jsr 46]),
  (46, [.sipush 1, .goto 51]),
  (50, [.sipush 0, .jsr 51]),
  (51, [.areturn])]
def ex_b220 : List (Nat × List Instr) := [(0, [.aload 0, .getfield 706, .ifCond .ne 10, .sipush (-103), .ireturn]),
  (10, [.iload 1, .sipush 0, .sipush 4, .invokestatic 1187, .ifCond .ne 22, .sipush (-102), .ireturn]),
  (22, [.aload 0, .getfield 727, .sipush 12, .if_icmp .ne 34, .sipush (-103), .ireturn]),
  (34, [.aload 0, .dup, .getfield 727, .sipush 1, .iadd, .putfield 727, .aload 0, .invokevirtual 1752, .istore 2, .iload 1, .tableswitch 108 0 3 #[80, 93, 98, 103]]),
  (80, [.iload 2, .ifCond .eq 91, .aload 0, .getfield 756, .goto 92]),
  (91, [.sipush (-1), .jsr 92]),
  (92, [.ireturn]),
  (93, [.aload 0, .getfield 757, .ireturn]),
  (98, [.aload 0, .getfield 758, .ireturn]),
  (103, [.aload 0, .getfield 759, .ireturn]),
  (108, [.aload 0, .getfield 760, .ireturn])]
def ex_b221 : List (Nat × List Instr) := [(0, [.aload 0, .iload 1, .invokevirtual 1369, .ifCond .eq 16, .aload 0, .iload 2, .invokevirtual 1369, .ifCond .ne 19, .jsr 16]),
  (16, [.sipush (-101), .ireturn]),
  (19, [.aload 0, .iload 1, .sipush 1, .invokevirtual 1418, .aload 0, .getfield 754, .iload 2, .iaload, .sipush 268435456, .if_icmp .ne 40, .sipush (-1), .goto 46]),
  (40, [.aload 0, .getfield 754, .iload 2, .iaload, .jsr 46]),
  (46, [.ireturn])]
def ex_b222 : List (Nat × List Instr) := [(0, [.aload 0, .iload 1, .invokevirtual 1369, .ifCond .eq 16, .aload 0, .iload 2, .invokevirtual 1369, .ifCond .ne 19, .jsr 16]),
  (16, [.sipush (-101), .ireturn]),
  (19, [.iload 3, .sipush 0, .sipush 9, .invokestatic 1187, .ifCond .ne 32, .sipush (-102), .ireturn]),
  (32, [.sipush 0, .istore 4, .jsr 35]),
  (35, [.iload 4, .sipush 24, .if_icmp .ge 67, .aload 0, .getfield 754, .iload 4, .iload 4, .iload 1, .if_icmp .ne 58, .sipush 0, .goto 60]),
  (58, [.sipush 268435456, .jsr 60]),
  (60, [.iastore, .iinc 4 1, .goto 35]),
  (67, [.sipush 1, .istore 4, .jsr 70]),
  (70, [.iload 4, .ifCond .eq 259, .sipush 0, .istore 4, .sipush 0, .istore 5, .jsr 81]),
  (81, [.iload 5, .aload 0, .invokevirtual 1352, .if_icmp .ge 256, .aload 0, .getfield 754, .iload 5, .iaload, .sipush 268435456, .if_icmp .ge 122, .iload 5, .iload 1, .if_icmp .eq 118, .aload 0, .iload 5, .invokevirtual 1409, .sipush (-1), .if_icmp .ne 122, .jsr 118]),
  (118, [.sipush 1, .goto 123]),
  (122, [.sipush 0, .jsr 123]),
  (123, [.istore 6, .sipush 0, .istore 7, .jsr 128]),
  (128, [.iload 7, .sipush 4, .if_icmp .ge 250, .iload 6, .ifCond .eq 250, .aload 0, .iload 5, .iload 7, .invokevirtual 1386, .istore 8, .iload 8, .sipush (-1), .if_icmp .eq 170, .aload 0, .getfield 707, .iload 8, .iaload, .sipush 1, .if_icmp .eq 170, .sipush 1, .goto 171]),
  (170, [.sipush 0, .jsr 171]),
  (171, [.istore 9, .iload 9, .ifCond .eq 211, .aload 0, .getfield 754, .iload 5, .iaload, .sipush 1, .iadd, .aload 0, .iload 5, .invokevirtual 1377, .aload 0, .iload 8, .invokevirtual 1377, .if_icmp .ne 206, .sipush 0, .goto 207]),
  (206, [.iload 3, .jsr 207]),
  (207, [.iadd, .goto 213]),
  (211, [.sipush 268435456, .jsr 213]),
  (213, [.istore 10, .iload 9, .ifCond .eq 244, .iload 10, .aload 0, .getfield 754, .iload 8, .iaload, .if_icmp .ge 244, .aload 0, .getfield 754, .iload 8, .iload 10, .iastore, .sipush 1, .istore 4, .jsr 244]),
  (244, [.iinc 7 1, .goto 128]),
  (250, [.iinc 5 1, .goto 81]),
  (256, [.goto 70]),
  (259, [.aload 0, .getfield 754, .iload 2, .iaload, .sipush 268435456, .if_icmp .ne 274, .sipush (-1), .goto 280]),
  (274, [.aload 0, .getfield 754, .iload 2, .iaload, .jsr 280]),
  (280, [.ireturn])]
def ex_b223 : List (Nat × List Instr) := [(0, [.aload 0, .iload 1, .invokevirtual 1617, .ifCond .ne 11, .sipush (-101), .ireturn]),
  (11, [.iload 2, .sipush 0, .sipush 3, .invokestatic 1187, .ifCond .ne 23, .sipush (-102), .ireturn]),
  (23, [.aload 0, .aload 0, .getfield 719, .iload 1, .iaload, .invokevirtual 1377, .istore 3, .aload 0, .aload 0, .iload 1, .invokevirtual 1401, .invokevirtual 1377, .istore 4, .aload 0, .aload 0, .getfield 719, .iload 1, .iaload, .invokevirtual 1425, .istore 5, .iload 2, .tableswitch 106 0 2 #[84, 86, 89]]),
  (84, [.iload 3, .ireturn]),
  (86, [.iload 4, .ireturn]),
  (89, [.iload 5, .sipush (-1), .if_icmp .ne 99, .iload 3, .goto 105]),
  (99, [.aload 0, .iload 5, .invokevirtual 1377, .jsr 105]),
  (105, [.ireturn]),
  (106, [.iload 3, .iload 4, .if_icmp .ne 116, .iload 3, .goto 117]),
  (116, [.sipush (-1), .jsr 117]),
  (117, [.ireturn])]
def ex_b224 : List (Nat × List Instr) := [(0, [.iload 1, .sipush 0, .sipush 999, .invokestatic 1187, .ifCond .eq 35, .iload 2, .sipush 0, .sipush 99, .invokestatic 1187, .ifCond .eq 35, .iload 3, .sipush 0, .sipush 10, .invokestatic 1187, .ifCond .eq 35, .sipush 1, .goto 36]),
  (35, [.sipush 0, .jsr 36]),
  (36, [.istore 6, .iload 6, .ifCond .eq 64, .iload 4, .sipush 0, .sipush 99, .invokestatic 1187, .ifCond .eq 64, .iload 5, .sipush 0, .sipush 1, .invokestatic 1187, .ifCond .ne 67, .jsr 64]),
  (64, [.sipush (-102), .ireturn]),
  (67, [.sipush 0, .istore 7, .sipush 268435456, .istore 8, .sipush 1, .istore 9, .jsr 77]),
  (77, [.iload 9, .sipush 21, .if_icmp .ge 160, .iload 1, .iload 2, .iload 9, .imul, .if_icmp .le 101, .iload 1, .iload 2, .iload 9, .imul, .isub, .goto 102]),
  (101, [.sipush 0, .jsr 102]),
  (102, [.istore 10, .iload 4, .iload 9, .imul, .iload 3, .iload 10, .imul, .sipush 9, .iadd, .sipush 10, .idiv, .iadd, .istore 11, .iload 11, .iload 8, .if_icmp .ge 134, .iload 9, .goto 136]),
  (134, [.iload 7, .jsr 136]),
  (136, [.istore 7, .iload 11, .iload 8, .if_icmp .ge 150, .iload 11, .goto 152]),
  (150, [.iload 8, .jsr 152]),
  (152, [.istore 8, .iinc 9 1, .goto 77]),
  (160, [.iload 5, .ifCond .ne 170, .iload 7, .goto 172]),
  (170, [.iload 8, .jsr 172]),
  (172, [.ireturn])]
def ex_b225 : List (Nat × List Instr) := [(0, [.aload 0, .getfield 706, .ifCond .ne 10, .sipush (-103), .ireturn]),
  (10, [.iload 1, .sipush (-3), .sipush 3, .invokestatic 1187, .ifCond .ne 23, .sipush (-102), .ireturn]),
  (23, [.aload 0, .iload 1, .putfield 753, .sipush 0, .istore 2, .sipush 0, .istore 3, .jsr 32]),
  (32, [.iload 3, .aload 0, .getfield 715, .if_icmp .ge 64, .iload 2, .aload 0, .iload 3, .invokevirtual 1521, .ifCond .ne 53, .sipush 0, .goto 56]),
  (53, [.sipush 1, .iload 3, .ishl, .jsr 56]),
  (56, [.ior, .istore 2, .iinc 3 1, .goto 32]),
  (64, [.aload 0, .sipush 0, .putfield 753, .iload 2, .ireturn])]
def ex_b226 : List (Nat × List Instr) := [(0, [.aload 0, .iload 1, .invokevirtual 1361, .ifCond .ne 11, .sipush (-101), .ireturn]),
  (11, [.iload 2, .sipush 0, .sipush 1, .invokestatic 1187, .ifCond .ne 23, .sipush (-102), .ireturn]),
  (23, [.aload 0, .getfield 724, .sipush 10, .if_icmp .ne 35, .sipush (-104), .ireturn]),
  (35, [.aload 0, .getfield 725, .aload 0, .getfield 724, .iload 1, .iastore, .aload 0, .getfield 726, .aload 0, .getfield 724, .iload 2, .iastore, .aload 0, .dup, .getfield 724, .sipush 1, .iadd, .putfield 724, .aload 0, .getfield 724, .ireturn])]
def ex_b227 : List (Nat × List Instr) := [(0, [.sipush 0, .istore 1, .sipush (-3), .istore 2, .jsr 5]),
  (5, [.iload 2, .sipush 4, .if_icmp .ge 88, .aload 0, .iload 2, .putfield 753, .sipush 1, .istore 3, .sipush 0, .istore 4, .jsr 20]),
  (20, [.iload 4, .aload 0, .getfield 724, .if_icmp .ge 66, .iload 3, .ifCond .eq 58, .aload 0, .aload 0, .getfield 725, .iload 4, .iaload, .invokevirtual 1377, .aload 0, .getfield 726, .iload 4, .iaload, .if_icmp .ne 58, .sipush 1, .goto 59]),
  (58, [.sipush 0, .jsr 59]),
  (59, [.istore 3, .iinc 4 1, .goto 20]),
  (66, [.iload 1, .iload 3, .ifCond .eq 79, .sipush 1, .iload 2, .sipush 3, .iadd, .ishl, .goto 80]),
  (79, [.sipush 0, .jsr 80]),
  (80, [.ior, .istore 1, .iinc 2 1, .goto 5]),
  (88, [.aload 0, .sipush 0, .putfield 753, .iload 1, .ireturn])]
def ex_b228 : List (Nat × List Instr) := [(0, [.aload 0, .getfield 706, .ifCond .ne 12, .sipush (-103), .goto 16]),
  (12, [.aload 0, .invokevirtual 1816, .jsr 16]),
  (16, [.ireturn])]
def ex_b229 : List (Nat × List Instr) := [(0, [.aload 0, .getfield 706, .ifCond .ne 10, .sipush (-103), .ireturn]),
  (10, [.aload 0, .sipush 1, .putfield 730, .aload 0, .aload 0, .getfield 706, .putfield 731, .aload 0, .aload 0, .getfield 717, .putfield 732, .aload 0, .aload 0, .getfield 715, .putfield 733, .aload 0, .aload 0, .getfield 721, .putfield 734, .aload 0, .aload 0, .getfield 724, .putfield 735, .sipush 0, .istore 1, .jsr 57]),
  (57, [.iload 1, .sipush 3, .if_icmp .ge 114, .aload 0, .getfield 736, .sipush 3, .iload 1, .imul, .aload 0, .getfield 718, .iload 1, .iaload, .iastore, .aload 0, .getfield 736, .sipush 3, .iload 1, .imul, .sipush 1, .iadd, .aload 0, .getfield 719, .iload 1, .iaload, .iastore, .aload 0, .getfield 736, .sipush 3, .iload 1, .imul, .sipush 2, .iadd, .aload 0, .getfield 720, .iload 1, .iaload, .iastore, .iinc 1 1, .goto 57]),
  (114, [.sipush 0, .istore 1, .jsr 116]),
  (116, [.iload 1, .sipush 60, .if_icmp .ge 140, .aload 0, .getfield 737, .iload 1, .aload 0, .getfield 716, .iload 1, .iaload, .iastore, .iinc 1 1, .goto 116]),
  (140, [.sipush 0, .istore 1, .jsr 142]),
  (142, [.iload 1, .sipush 6, .if_icmp .ge 184, .aload 0, .getfield 738, .sipush 2, .iload 1, .imul, .aload 0, .getfield 722, .iload 1, .iaload, .iastore, .aload 0, .getfield 738, .sipush 2, .iload 1, .imul, .sipush 1, .iadd, .aload 0, .getfield 723, .iload 1, .iaload, .iastore, .iinc 1 1, .goto 142]),
  (184, [.sipush 0, .istore 1, .jsr 186]),
  (186, [.iload 1, .sipush 10, .if_icmp .ge 228, .aload 0, .getfield 739, .sipush 2, .iload 1, .imul, .aload 0, .getfield 725, .iload 1, .iaload, .iastore, .aload 0, .getfield 739, .sipush 2, .iload 1, .imul, .sipush 1, .iadd, .aload 0, .getfield 726, .iload 1, .iaload, .iastore, .iinc 1 1, .goto 186]),
  (228, [.aload 0, .getfield 717, .ireturn])]
def ex_b230 : List (Nat × List Instr) := [(0, [.aload 0, .getfield 730, .ifCond .eq 18, .aload 0, .getfield 731, .aload 0, .getfield 706, .if_icmp .eq 21, .jsr 18]),
  (18, [.sipush (-103), .ireturn]),
  (21, [.aload 0, .aload 0, .getfield 732, .putfield 717, .aload 0, .aload 0, .getfield 733, .putfield 715, .aload 0, .aload 0, .getfield 734, .putfield 721, .aload 0, .aload 0, .getfield 735, .putfield 724, .sipush 0, .istore 1, .jsr 55]),
  (55, [.iload 1, .sipush 3, .if_icmp .ge 99, .aload 0, .iload 1, .aload 0, .getfield 736, .sipush 3, .iload 1, .imul, .iaload, .aload 0, .getfield 736, .sipush 3, .iload 1, .imul, .sipush 1, .iadd, .iaload, .aload 0, .getfield 736, .sipush 3, .iload 1, .imul, .sipush 2, .iadd, .iaload, .invokevirtual 1588, .iinc 1 1, .goto 55]),
  (99, [.sipush 0, .istore 1, .jsr 101]),
  (101, [.iload 1, .sipush 60, .if_icmp .ge 125, .aload 0, .getfield 716, .iload 1, .aload 0, .getfield 737, .iload 1, .iaload, .iastore, .iinc 1 1, .goto 101]),
  (125, [.sipush 0, .istore 1, .jsr 127]),
  (127, [.iload 1, .sipush 6, .if_icmp .ge 169, .aload 0, .getfield 722, .iload 1, .aload 0, .getfield 738, .sipush 2, .iload 1, .imul, .iaload, .iastore, .aload 0, .getfield 723, .iload 1, .aload 0, .getfield 738, .sipush 2, .iload 1, .imul, .sipush 1, .iadd, .iaload, .iastore, .iinc 1 1, .goto 127]),
  (169, [.sipush 0, .istore 1, .jsr 171]),
  (171, [.iload 1, .sipush 10, .if_icmp .ge 213, .aload 0, .getfield 725, .iload 1, .aload 0, .getfield 739, .sipush 2, .iload 1, .imul, .iaload, .iastore, .aload 0, .getfield 726, .iload 1, .aload 0, .getfield 739, .sipush 2, .iload 1, .imul, .sipush 1, .iadd, .iaload, .iastore, .iinc 1 1, .goto 171]),
  (213, [.aload 0, .getfield 717, .ireturn])]
def ex_b231 : List (Nat × List Instr) := [(0, [.iload 1, .tableswitch 97 0 8 #[52, 57, 62, 67, 72, 77, 82, 87, 92]]),
  (52, [.aload 0, .invokevirtual 1352, .ireturn]),
  (57, [.aload 0, .getfield 709, .ireturn]),
  (62, [.aload 0, .getfield 715, .ireturn]),
  (67, [.aload 0, .getfield 717, .ireturn]),
  (72, [.aload 0, .getfield 721, .ireturn]),
  (77, [.aload 0, .getfield 724, .ireturn]),
  (82, [.aload 0, .getfield 728, .ireturn]),
  (87, [.aload 0, .getfield 706, .ireturn]),
  (92, [.aload 0, .getfield 727, .ireturn]),
  (97, [.sipush (-102), .ireturn])]
def ex_b232 : List (Nat × List Instr) := [(0, [.aload 0, .iload 1, .invokevirtual 1849, .ireturn])]
def ex_b233 : List (Nat × List Instr) := [(0, [.aload 0, .goto_w 31, .aload 0, .getfield 761, .lmul, .lload 1, .ladd, .putfield 761, .return_])]
def ex_b234 : List (Nat × List Instr) := [(0, [.sipush 0, .istore 1, .jsr 2]),
  (2, [.iload 1, .aload 0, .invokevirtual 1352, .if_icmp .ge 40, .sipush 0, .istore 2, .jsr 12]),
  (12, [.iload 2, .sipush 4, .if_icmp .ge 34, .aload 0, .aload 0, .iload 1, .iload 2, .invokevirtual 1434, .i2l, .invokevirtual 1865, .iinc 2 1, .goto 12]),
  (34, [.iinc 1 1, .goto 2]),
  (40, [.sipush 0, .istore 1, .jsr 42]),
  (42, [.iload 1, .aload 0, .getfield 709, .if_icmp .ge 80, .sipush 0, .istore 2, .jsr 52]),
  (52, [.iload 2, .sipush 5, .if_icmp .ge 74, .aload 0, .aload 0, .iload 1, .iload 2, .invokevirtual 1322, .i2l, .invokevirtual 1865, .iinc 2 1, .goto 52]),
  (74, [.iinc 1 1, .goto 42]),
  (80, [.sipush 0, .istore 1, .jsr 82]),
  (82, [.iload 1, .aload 0, .getfield 715, .if_icmp .ge 134, .sipush 0, .istore 2, .jsr 92]),
  (92, [.iload 2, .sipush 5, .if_icmp .ge 118, .aload 0, .aload 0, .getfield 716, .sipush 5, .iload 1, .imul, .iload 2, .iadd, .iaload, .i2l, .invokevirtual 1865, .iinc 2 1, .goto 92]),
  (118, [.aload 0, .aload 0, .iload 1, .invokevirtual 1521, .i2l, .invokevirtual 1865, .iinc 1 1, .goto 82]),
  (134, [.return_])]
def ex_b235 : List (Nat × List Instr) := [(0, [.aload 0, .goto_w 521, .putfield 761, .aload 0, .invokevirtual 1872, .sipush 0, .istore 1, .jsr 13]),
  (13, [.iload 1, .aload 0, .getfield 717, .if_icmp .ge 51, .sipush 0, .istore 2, .jsr 23]),
  (23, [.iload 2, .sipush 4, .if_icmp .ge 45, .aload 0, .aload 0, .iload 1, .iload 2, .invokevirtual 1634, .i2l, .invokevirtual 1865, .iinc 2 1, .goto 23]),
  (45, [.iinc 1 1, .goto 13]),
  (51, [.sipush 0, .istore 1, .jsr 53]),
  (53, [.iload 1, .aload 0, .getfield 721, .if_icmp .ge 89, .aload 0, .aload 0, .getfield 722, .iload 1, .iaload, .i2l, .invokevirtual 1865, .aload 0, .aload 0, .getfield 723, .iload 1, .iaload, .i2l, .invokevirtual 1865, .iinc 1 1, .goto 53]),
  (89, [.aload 0, .aload 0, .invokevirtual 1696, .i2l, .invokevirtual 1865, .sipush 0, .istore 1, .jsr 100]),
  (100, [.iload 1, .aload 0, .getfield 724, .if_icmp .ge 136, .aload 0, .aload 0, .getfield 725, .iload 1, .iaload, .i2l, .invokevirtual 1865, .aload 0, .aload 0, .getfield 726, .iload 1, .iaload, .i2l, .invokevirtual 1865, .iinc 1 1, .goto 100]),
  (136, [.aload 0, .getfield 706, .ifCond .le 152, .aload 0, .aload 0, .invokevirtual 1816, .i2l, .invokevirtual 1865, .jsr 152]),
  (152, [.sipush 0, .istore 1, .jsr 154]),
  (154, [.iload 1, .aload 0, .getfield 728, .if_icmp .ge 179, .aload 0, .aload 0, .getfield 729, .iload 1, .baload, .i2l, .invokevirtual 1865, .iinc 1 1, .goto 154]),
  (179, [.sipush 0, .istore 1, .jsr 181]),
  (181, [.iload 1, .sipush 9, .if_icmp .ge 203, .aload 0, .aload 0, .iload 1, .invokevirtual 1849, .i2l, .invokevirtual 1865, .iinc 1 1, .goto 181]),
  (203, [.aload 0, .getfield 761, .lreturn])]
def ex_bs0 : List (List (Nat × List Instr)) := [ex_b0, ex_b1, ex_b2, ex_b3, ex_b4, ex_b5, ex_b6, ex_b7, ex_b8, ex_b9, ex_b10, ex_b11, ex_b12, ex_b13, ex_b14, ex_b15, ex_b16, ex_b17, ex_b18, ex_b19, ex_b20, ex_b21, ex_b22, ex_b23, ex_b24, ex_b25, ex_b26, ex_b27, ex_b28, ex_b29, ex_b30, ex_b31, ex_b32, ex_b33, ex_b34, ex_b35, ex_b36, ex_b37, ex_b38, ex_b39]
def ex_bs1 : List (List (Nat × List Instr)) := [ex_b40, ex_b41, ex_b42, ex_b43, ex_b44, ex_b45, ex_b46, ex_b47, ex_b48, ex_b49, ex_b50, ex_b51, ex_b52, ex_b53, ex_b54, ex_b55, ex_b56, ex_b57, ex_b58, ex_b59, ex_b60, ex_b61, ex_b62, ex_b63, ex_b64, ex_b65, ex_b66, ex_b67, ex_b68, ex_b69, ex_b70, ex_b71, ex_b72, ex_b73, ex_b74, ex_b75, ex_b76, ex_b77, ex_b78, ex_b79]
def ex_bs2 : List (List (Nat × List Instr)) := [ex_b80, ex_b81, ex_b82, ex_b83, ex_b84, ex_b85, ex_b86, ex_b87, ex_b88, ex_b89, ex_b90, ex_b91, ex_b92, ex_b93, ex_b94, ex_b95, ex_b96, ex_b97, ex_b98, ex_b99, ex_b100, ex_b101, ex_b102, ex_b103, ex_b104, ex_b105, ex_b106, ex_b107, ex_b108, ex_b109, ex_b110, ex_b111, ex_b112, ex_b113, ex_b114, ex_b115, ex_b116, ex_b117, ex_b118, ex_b119]
def ex_bs3 : List (List (Nat × List Instr)) := [ex_b120, ex_b121, ex_b122, ex_b123, ex_b124, ex_b125, ex_b126, ex_b127, ex_b128, ex_b129, ex_b130, ex_b131, ex_b132, ex_b133, ex_b134, ex_b135, ex_b136, ex_b137, ex_b138, ex_b139, ex_b140, ex_b141, ex_b142, ex_b143, ex_b144, ex_b145, ex_b146, ex_b147, ex_b148, ex_b149, ex_b150, ex_b151, ex_b152, ex_b153, ex_b154, ex_b155, ex_b156, ex_b157, ex_b158, ex_b159]
def ex_bs4 : List (List (Nat × List Instr)) := [ex_b160, ex_b161, ex_b162, ex_b163, ex_b164, ex_b165, ex_b166, ex_b167, ex_b168, ex_b169, ex_b170, ex_b171, ex_b172, ex_b173, ex_b174, ex_b175, ex_b176, ex_b177, ex_b178, ex_b179, ex_b180, ex_b181, ex_b182, ex_b183, ex_b184, ex_b185, ex_b186, ex_b187, ex_b188, ex_b189, ex_b190, ex_b191, ex_b192, ex_b193, ex_b194, ex_b195, ex_b196, ex_b197, ex_b198, ex_b199]
def ex_bs5 : List (List (Nat × List Instr)) := [ex_b200, ex_b201, ex_b202, ex_b203, ex_b204, ex_b205, ex_b206, ex_b207, ex_b208, ex_b209, ex_b210, ex_b211, ex_b212, ex_b213, ex_b214, ex_b215, ex_b216, ex_b217, ex_b218, ex_b219, ex_b220, ex_b221, ex_b222, ex_b223, ex_b224, ex_b225, ex_b226, ex_b227, ex_b228, ex_b229, ex_b230, ex_b231, ex_b232, ex_b233, ex_b234, ex_b235]
def ex_bs : List (List (Nat × List Instr)) := ex_bs0 ++ ex_bs1 ++ ex_bs2 ++ ex_bs3 ++ ex_bs4 ++ ex_bs5
end
section
/-! THE PURE MACHINE: integers alone are symbolic; references are numbers of objects (ex_Sh); nothing is made. -/
abbrev PW : Type := (Nat → Nat → Int32) × Int64
abbrev ES : Type := List Instr × List Value × List Value × PW
abbrev ER : Type := Option Value × PW
def ex_up (w : PW) (o k : Nat) (x : Int32) : PW := (fun a b => if a = o ∧ b = k then x else w.1 a b, w.2)
def ex_fk (o e : Nat) : Option Nat := match ex_Sh[o]? with
  | some q => if q.1 = e / 64 then q.2[e % 64]? else none
  | none => none
def ex_cls (o : Nat) : Nat := match ex_Sh[o]? with
  | some q => q.1
  | none => 99
def ex_len (o : Nat) : Nat := match ex_Sh[o]? with
  | some q => q.2.headD 0
  | none => 0
def ex_dsp (x c : Nat) : Option Nat := (ex_D.getD x []).lookup c
def ex_mi (y : Nat) : MethodName × ByteArray × Nat × Option FieldType × Nat := ex_M.getD y (⟨"", "", ""⟩, ⟨#[]⟩, 0, none, 99)
def ex_Y (y : Nat) : MethodName := (ex_mi y).1
def ex_B (y : Nat) : ByteArray := (ex_mi y).2.1
def ex_L (y : Nat) : Nat := (ex_mi y).2.2.1
def ex_ret (y : Nat) : Option FieldType := (ex_mi y).2.2.2.1
def ex_C (y : Nat) : Nat := (ex_mi y).2.2.2.2
def ex_blk (y : Nat) (L : Nat) : List Instr := ((ex_bs.getD y []).lookup L).getD []
def ex_spl : Nat → List Value → List Value → Option (List Value × List Value)
  | 0, as, st => some (as, st)
  | _ + 1, _, [] => none
  | n + 1, as, v :: st => ex_spl n (v :: as) st
def ex_low : List Value → Bool
  | [] => true
  | [_] => true
  | [_, _] => true
  | [_, _, _] => true
  | [_, _, _, _] => true
  | _ => false
def ex_down (j : Nat) : Int32 := if j = 0 then -1 else if j = 2 then 1 else 0
def ex_right (j : Nat) : Int32 := if j = 1 then 1 else if j = 3 then -1 else 0
/-- an int array's element (1000, 1001: the two static ones) -/
def ex_ald (w : PW) (o : Nat) (i : Int32) : Option Int32 :=
  if o = 1000 then (if i < 0 ∨ 4 ≤ i.toNatClampNeg then none else some (ex_down i.toNatClampNeg))
  else if o = 1001 then (if i < 0 ∨ 4 ≤ i.toNatClampNeg then none else some (ex_right i.toNatClampNeg))
  else if ex_cls o = 12 then (if i < 0 ∨ ex_len o ≤ i.toNatClampNeg then none else some (w.1 o i.toNatClampNeg)) else none
def ex_lks : List (Int × Int) → Int → Int → Int
  | [], d, _ => d
  | q :: r, d, x => if x = q.1 then q.2 else ex_lks r d x
def ex_cpy (w : PW) (a b n : Nat) : PW := (fun o k => if o = b ∧ k < n then w.1 a k else w.1 o k, w.2)
def ex_go (c : List Instr) (pl st : List Value) (w : PW) : Option (ER ⊕ ES) := some (.inr (c, pl, st, w))
def ex_ii (f : Int32 → Int32 → Int32) (c : List Instr) (pl st : List Value) (w : PW) : Option (ER ⊕ ES) := match st with
  | .int y :: .int x :: r => ex_go c pl (.int (f x y) :: r) w
  | _ => none
def ex_ll (f : Int64 → Int64 → Int64) (c : List Instr) (pl st : List Value) (w : PW) : Option (ER ⊕ ES) := match st with
  | .long y :: .long x :: r => ex_go c pl (.long (f x y) :: r) w
  | _ => none
def ex_lis (f : Int64 → Int32 → Int64) (c : List Instr) (pl st : List Value) (w : PW) : Option (ER ⊕ ES) := match st with
  | .int y :: .long x :: r => ex_go c pl (.long (f x y) :: r) w
  | _ => none
def ex_store (k : Nat) (v : Value) (c : List Instr) (pl r : List Value) (w : PW) : Option (ER ⊕ ES) := match pl.getD k (.retAddr 0) with
  | .retAddr _ => none
  | _ => ex_go c (pl.set k v) r w
def ex_cnd (c : ClassFile.Cond) (x y : Int32) : Prop := match c with
  | .eq => x = y
  | .ne => ¬ x = y
  | .lt => x < y
  | .ge => y ≤ x
  | .gt => y < x
  | .le => x ≤ y
noncomputable def ex_dec (P : Prop) : Decidable P := Classical.propDecidable P
def ex_cnb (c : ClassFile.Cond) (x y : Int32) : Bool := match c with
  | .eq => decide (x = y)
  | .ne => decide (¬ x = y)
  | .lt => decide (x < y)
  | .ge => decide (y ≤ x)
  | .gt => decide (y < x)
  | .le => decide (x ≤ y)
def ex_back (r : Option ER) (c : List Instr) (pl st : List Value) : Option (ER ⊕ ES) := match r with
  | some (v, w) => ex_go c pl (v.toList ++ st) w
  | none => none
def ex_call (cal : Nat → List Value → PW → Option ER) (y n : Nat) (c : List Instr) (pl st : List Value) (w : PW) : Option (ER ⊕ ES) := match ex_spl n [] st with
  | some (as, r) => if ex_low r then ex_back (cal y as w) c pl r else none
  | none => none
def ex_callv (cal : Nat → List Value → PW → Option ER) (y n : Nat) (c : List Instr) (pl st : List Value) (w : PW) : Option (ER ⊕ ES) := match ex_spl n [] st with
  | some (as, r) => match as with
    | .ref _ :: _ => if ex_low r then ex_back (cal y as w) c pl r else none
    | _ => none
  | none => none
def ex_vcall (cal : Nat → List Value → PW → Option ER) (x n : Nat) (c : List Instr) (pl st : List Value) (w : PW) : Option (ER ⊕ ES) := match ex_spl (n + 1) [] st with
  | some (as, r) => match as with
    | .ref o :: _ => match ex_dsp x (ex_cls o) with
      | some y => if ex_low r then ex_back (cal y as w) c pl r else none
      | none => none
    | _ => none
  | none => none
def ex_gf (e : Nat) (c : List Instr) (pl st : List Value) (w : PW) : Option (ER ⊕ ES) := match st with
  | .ref o :: r => match ex_fk o e with
    | some 0 => ex_go c pl (.int (w.1 o (e % 64)) :: r) w
    | some 1 => ex_go c pl (.long w.2 :: r) w
    | some 2 => ex_go c pl (.int (w.1 o (e % 64)) :: r) w
    | some (n + 3) => ex_go c pl (.ref n :: r) w
    | none => none
  | _ => none
def ex_pf (e : Nat) (c : List Instr) (pl st : List Value) (w : PW) : Option (ER ⊕ ES) := match st with
  | .int x :: .ref o :: r => match ex_fk o e with
    | some 0 => ex_go c pl r (ex_up w o (e % 64) x)
    | some 2 => if x = 0 ∨ x = 1 then ex_go c pl r (ex_up w o (e % 64) x) else none
    | _ => none
  | .long x :: .ref o :: r => match ex_fk o e with
    | some 1 => ex_go c pl r (w.1, x)
    | _ => none
  | _ => none
def ex_nat (d k : Nat) (c : List Instr) (pl st : List Value) (w : PW) : Option (ER ⊕ ES) := if d < 2 then none else match k, st with
  | 0, .int y :: .int x :: r => if ex_low r then ex_go c pl (.int (if x < y then y else x) :: r) w else none
  | 1, .int y :: .int x :: r => if ex_low r then ex_go c pl (.int (if y < x then y else x) :: r) w else none
  | 2, .int n :: .int dp :: .ref b :: .int sp :: .ref a :: [] => if sp = 0 ∧ dp = 0 ∧ ex_cls a = 12 ∧ ex_cls b = 12 ∧ ¬ n < 0 ∧ n.toNatClampNeg ≤ ex_len a ∧ n.toNatClampNeg ≤ ex_len b then ex_go c pl [] (ex_cpy w a b n.toNatClampNeg) else none
  | _, _ => none
def ex_nx (d : Nat) (cal : Nat → List Value → PW → Option ER) (y : Nat) : ES → Option (ER ⊕ ES) := fun s => match s with
  | ([], _) => none
  | (i :: c, pl, st, w) => match i with
    | .iload k => (match pl.getD k .null with | .int x => ex_go c pl (.int x :: st) w | _ => none)
    | .aload k => (match pl.getD k .null with | .ref x => ex_go c pl (.ref x :: st) w | _ => none)
    | .lload k => (match pl.getD k .null with | .long x => ex_go c pl (.long x :: st) w | _ => none)
    | .istore k => (match st with | .int x :: r => ex_store k (.int x) c pl r w | _ => none)
    | .astore k => (match st with | .ref x :: r => ex_store k (.ref x) c pl r w | _ => none)
    | .lstore k => (match st with | .long x :: r => if k + 1 < pl.length then ex_store k (.long x) c (pl.set (k + 1) (.retAddr 0)) r w else none | _ => none)
    | .iinc k n => (match pl.getD k .null with | .int x => ex_go c (pl.set k (.int (x + Int32.ofInt n))) st w | _ => none)
    | .sipush n => ex_go c pl (.int (Int32.ofInt n) :: st) w
    | .goto_w n => ex_go c pl (.long (Int64.ofInt n) :: st) w
    | .iadd => ex_ii (fun x y => x + y) c pl st w
    | .isub => ex_ii (fun x y => x - y) c pl st w
    | .imul => ex_ii (fun x y => x * y) c pl st w
    | .iand => ex_ii (fun x y => x &&& y) c pl st w
    | .ior => ex_ii (fun x y => x ||| y) c pl st w
    | .ixor => ex_ii (fun x y => x ^^^ y) c pl st w
    | .ishl => ex_ii (fun x y => x <<< (y &&& 31)) c pl st w
    | .ishr => ex_ii (fun x y => x >>> (y &&& 31)) c pl st w
    | .idiv => (match st with | .int y :: .int x :: r => if y = 0 then none else ex_go c pl (.int (x / y) :: r) w | _ => none)
    | .irem => (match st with | .int y :: .int x :: r => if y = 0 then none else ex_go c pl (.int (x - x / y * y) :: r) w | _ => none)
    | .ladd => ex_ll (fun x y => x + y) c pl st w
    | .lmul => ex_ll (fun x y => x * y) c pl st w
    | .land => ex_ll (fun x y => x &&& y) c pl st w
    | .lshr => ex_lis (fun x y => x >>> (y.toInt64 &&& 63)) c pl st w
    | .lushr => ex_lis (fun x y => (x.toUInt64 >>> (y.toInt64.toUInt64 &&& Int64.toUInt64 63)).toInt64) c pl st w
    | .i2l => (match st with | .int x :: r => ex_go c pl (.long x.toInt64 :: r) w | _ => none)
    | .l2i => (match st with | .long x :: r => ex_go c pl (.int x.toInt32 :: r) w | _ => none)
    | .i2b => (match st with | .int x :: r => ex_go c pl (.int x.toInt8.toInt32 :: r) w | _ => none)
    | .dup => (match st with | .ref x :: r => ex_go c pl (.ref x :: .ref x :: r) w | .int x :: r => ex_go c pl (.int x :: .int x :: r) w | _ => none)
    | .dup2 => (match st with | .int x :: .ref o :: r => ex_go c pl (.int x :: .ref o :: .int x :: .ref o :: r) w | _ => none)
    | .pop => (match st with | .int _ :: r => ex_go c pl r w | _ => none)
    | .goto L => ex_go (ex_blk y L.toNat) pl st w
    | .jsr L => ex_go (ex_blk y L.toNat) pl st w
    | .if_icmp cd L => (match st with | .int b :: .int a :: r => if ex_cnb cd a b = true then ex_go (ex_blk y L.toNat) pl r w else ex_go c pl r w | _ => none)
    | .ifCond cd L => (match st with | .int a :: r => if ex_cnb cd a 0 = true then ex_go (ex_blk y L.toNat) pl r w else ex_go c pl r w | _ => none)
    | .tableswitch df lo hi offs => (match st with | .int a :: r => if a.toInt < lo ∨ hi < a.toInt then ex_go (ex_blk y df.toNat) pl r w else ex_go (ex_blk y ((offs.toList.getD (a.toInt - lo).toNat 0).toNat)) pl r w | _ => none)
    | .lookupswitch df ps => (match st with | .int a :: r => ex_go (ex_blk y (ex_lks ps.toList df a.toInt).toNat) pl r w | _ => none)
    | .getfield e => ex_gf e c pl st w
    | .putfield e => ex_pf e c pl st w
    | .getstatic o => if o = 1000 ∨ o = 1001 then ex_go c pl (.ref o :: st) w else none
    | .iaload => (match st with | .int i :: .ref o :: r => (match ex_ald w o i with | some x => ex_go c pl (.int x :: r) w | none => none) | _ => none)
    | .baload => (match st with | .int i :: .ref o :: r => if ex_cls o = 13 ∧ ¬ (i < 0 ∨ ex_len o ≤ i.toNatClampNeg) then ex_go c pl (.int (w.1 o i.toNatClampNeg) :: r) w else none | _ => none)
    | .iastore => (match st with | .int x :: .int i :: .ref o :: r => if ex_cls o = 12 ∧ ¬ (i < 0 ∨ ex_len o ≤ i.toNatClampNeg) then ex_go c pl r (ex_up w o i.toNatClampNeg x) else none | _ => none)
    | .bastore => (match st with | .int x :: .int i :: .ref o :: r => if ex_cls o = 13 ∧ ¬ (i < 0 ∨ ex_len o ≤ i.toNatClampNeg) then ex_go c pl r (ex_up w o i.toNatClampNeg x.toInt8.toInt32) else none | _ => none)
    | .arraylength => (match st with | .ref o :: r => if ex_cls o = 12 then ex_go c pl (.int (Int32.ofNat (ex_len o)) :: r) w else none | _ => none)
    | .invokestatic e => ex_call cal (e / 8) (e % 8) c pl st w
    | .invokevirtual e => ex_callv cal (e / 8) (e % 8 + 1) c pl st w
    | .invokeinterface x n => ex_vcall cal x n c pl st w
    | .invokedynamic k => ex_nat d k c pl st w
    | .ireturn => (match st with | [.int x] => if ex_ret y = some .int then some (.inl (some (.int x), w)) else none | _ => none)
    | .areturn => (match st with | [.int x] => if x = 0 ∨ x = 1 then (if ex_ret y = some .boolean then some (.inl (some (.int x), w)) else none) else none | _ => none)
    | .lreturn => (match st with | [.long x] => if ex_ret y = some .long then some (.inl (some (.long x), w)) else none | _ => none)
    | .return_ => (match st with | [] => if ex_ret y = none then some (.inl (none, w)) else none | _ => none)
    | _ => none
def ex_run (d : Nat) (cal : Nat → List Value → PW → Option ER) (y : Nat) : Nat → ES → Option ER
  | 0, _ => none
  | n + 1, s => match ex_nx d cal y s with
    | some (.inl r) => some r
    | some (.inr s') => ex_run d cal y n s'
    | none => none
noncomputable def ex_ev (d : Nat) (cal : Nat → List Value → PW → Option ER) (y : Nat) (s : ES) : Option ER :=
  @ite _ (∃ n, ex_run d cal y n s ≠ none) (Classical.propDecidable _) (ex_run d cal y (Classical.epsilon fun n => ex_run d cal y n s ≠ none) s) none
theorem ex_run_succ {d : Nat} {cal : Nat → List Value → PW → Option ER} {y n : Nat} {s : ES} {r : ER} (h : ex_run d cal y n s = some r) : ex_run d cal y (n + 1) s = some r := by
  induction n generalizing s with
  | zero => cases h
  | succ n ih =>
    cases h0 : ex_nx d cal y s with
    | none => rw [ex_run, h0] at h; cases h
    | some q =>
      cases q with
      | inl r0 =>
        rw [ex_run, h0] at h
        rw [ex_run, h0]; exact h
      | inr s' =>
        rw [ex_run, h0] at h
        rw [ex_run, h0]; exact ih h
theorem ex_run_le {d : Nat} {cal : Nat → List Value → PW → Option ER} {y n k : Nat} {s : ES} {r : ER} (h : ex_run d cal y n s = some r) : ex_run d cal y (n + k) s = some r := by
  induction k with
  | zero => exact h
  | succ k ih => exact ex_run_succ ih
theorem ex_run_det {d : Nat} {cal : Nat → List Value → PW → Option ER} {y n k : Nat} {s : ES} {r r' : ER} (h : ex_run d cal y n s = some r) (h' : ex_run d cal y k s = some r') : r = r' := by
  have h1 := ex_run_le (k := k) h
  have h2 := ex_run_le (k := n) h'
  rw [Nat.add_comm] at h2
  rw [h1] at h2
  exact Option.some.inj h2
theorem ex_ev_of {d : Nat} {cal : Nat → List Value → PW → Option ER} {y n : Nat} {s : ES} {r : ER} (h : ex_run d cal y n s = some r) : ex_ev d cal y s = some r := by
  have hx : ∃ n, ex_run d cal y n s ≠ none := ⟨n, by rw [h]; exact fun h => by cases h⟩
  have he := Classical.epsilon_spec hx
  unfold ex_ev
  rw [@if_pos _ (Classical.propDecidable _) hx]
  cases h2 : ex_run d cal y (Classical.epsilon fun n => ex_run d cal y n s ≠ none) s with
  | none => exact absurd h2 he
  | some r' => rw [ex_run_det h h2]
theorem ex_ev_run {d : Nat} {cal : Nat → List Value → PW → Option ER} {y : Nat} {s : ES} {r : ER} (h : ex_ev d cal y s = some r) : ∃ n, ex_run d cal y n s = some r := by
  unfold ex_ev at h
  by_cases hx : ∃ n, ex_run d cal y n s ≠ none
  · rw [@if_pos _ (Classical.propDecidable _) hx] at h
    exact ⟨_, h⟩
  · rw [@if_neg _ (Classical.propDecidable _) hx] at h
    cases h
theorem ex_ev_eq (d : Nat) (cal : Nat → List Value → PW → Option ER) (y : Nat) (s : ES) : ex_ev d cal y s = match ex_nx d cal y s with
    | some (.inl r) => some r
    | some (.inr s') => ex_ev d cal y s'
    | none => none := by
  cases h : ex_nx d cal y s with
  | none =>
    have : ¬ ∃ n, ex_run d cal y n s ≠ none := by
      rintro ⟨n, hn⟩
      cases n with
      | zero => exact hn rfl
      | succ n => rw [ex_run, h] at hn; exact hn rfl
    unfold ex_ev
    rw [@if_neg _ (Classical.propDecidable _) this]
  | some q =>
    cases q with
    | inl r => exact ex_ev_of (n := 1) (by rw [ex_run, h])
    | inr s' =>
      show ex_ev d cal y s = ex_ev d cal y s'
      cases h2 : ex_ev d cal y s' with
      | some r =>
        obtain ⟨n, hn⟩ := ex_ev_run h2
        exact ex_ev_of (n := n + 1) (by rw [ex_run, h]; exact hn)
      | none =>
        cases h3 : ex_ev d cal y s with
        | none => rfl
        | some r =>
          obtain ⟨n, hn⟩ := ex_ev_run h3
          cases n with
          | zero => cases hn
          | succ n =>
            rw [ex_run, h] at hn
            have := ex_ev_of hn
            rw [h2] at this
            cases this
def ex_isv (v : Value) : Bool := match v with
  | .int _ => true
  | .long _ => true
  | .ref _ => true
  | _ => false
def ex_lay : List Value → List Value
  | [] => []
  | .long x :: r => .long x :: .retAddr 0 :: ex_lay r
  | v :: r => v :: ex_lay r
def ex_okR (y : Nat) (as : List Value) : Bool := as.all ex_isv && (decide ((ex_lay as).length ≤ ex_L y) && (match as with
  | .ref o :: _ => ex_cls o == ex_C y || (ex_C y == 9 && (ex_cls o == 2 || ex_cls o == 4))
  | _ => true))
def ex_ent (y : Nat) (as : List Value) : List Value := ex_lay as ++ List.replicate (ex_L y - (ex_lay as).length) .null
noncomputable def ex_cal : Nat → Nat → List Value → PW → Option ER
  | 0 => fun _ _ _ => none
  | d + 1 => fun y as w => if ex_okR y as then ex_ev d (ex_cal d) y (ex_blk y 0, ex_ent y as, [], w) else none
end
section
/-! the machine, instruction by instruction, as equations -/
theorem ev_iload {d : Nat} {cal : Nat → List Value → PW → Option ER} {y : Nat} {c : List Instr} {pl st : List Value} {w : PW} {k : Nat} : ex_ev d cal y (.iload k :: c, pl, st, w) = (match pl.getD k .null with | .int x => ex_ev d cal y (c, pl, .int x :: st, w) | _ => none) := by
  rw [ex_ev_eq]
  show (match (match pl.getD k .null with | .int x => ex_go c pl (.int x :: st) w | _ => none) with | some (.inl r) => some r | some (.inr s') => ex_ev d cal y s' | none => none) = _
  cases pl.getD k .null <;> rfl
theorem ev_aload {d : Nat} {cal : Nat → List Value → PW → Option ER} {y : Nat} {c : List Instr} {pl st : List Value} {w : PW} {k : Nat} : ex_ev d cal y (.aload k :: c, pl, st, w) = (match pl.getD k .null with | .ref x => ex_ev d cal y (c, pl, .ref x :: st, w) | _ => none) := by
  rw [ex_ev_eq]
  show (match (match pl.getD k .null with | .ref x => ex_go c pl (.ref x :: st) w | _ => none) with | some (.inl r) => some r | some (.inr s') => ex_ev d cal y s' | none => none) = _
  cases pl.getD k .null <;> rfl
theorem ev_lload {d : Nat} {cal : Nat → List Value → PW → Option ER} {y : Nat} {c : List Instr} {pl st : List Value} {w : PW} {k : Nat} : ex_ev d cal y (.lload k :: c, pl, st, w) = (match pl.getD k .null with | .long x => ex_ev d cal y (c, pl, .long x :: st, w) | _ => none) := by
  rw [ex_ev_eq]
  show (match (match pl.getD k .null with | .long x => ex_go c pl (.long x :: st) w | _ => none) with | some (.inl r) => some r | some (.inr s') => ex_ev d cal y s' | none => none) = _
  cases pl.getD k .null <;> rfl
theorem ev_istore {d : Nat} {cal : Nat → List Value → PW → Option ER} {y : Nat} {c : List Instr} {pl st : List Value} {w : PW} {k : Nat} {x : Int32} : ex_ev d cal y (.istore k :: c, pl, .int x :: st, w) = (match pl.getD k (.retAddr 0) with | .retAddr _ => none | _ => ex_ev d cal y (c, pl.set k (.int x), st, w)) := by
  rw [ex_ev_eq]
  show (match (ex_store k (.int x) c pl st w) with | some (.inl r) => some r | some (.inr s') => ex_ev d cal y s' | none => none) = _
  unfold ex_store
  cases pl.getD k (.retAddr 0) <;> rfl
theorem ev_astore {d : Nat} {cal : Nat → List Value → PW → Option ER} {y : Nat} {c : List Instr} {pl st : List Value} {w : PW} {k : Nat} {x : Nat} : ex_ev d cal y (.astore k :: c, pl, .ref x :: st, w) = (match pl.getD k (.retAddr 0) with | .retAddr _ => none | _ => ex_ev d cal y (c, pl.set k (.ref x), st, w)) := by
  rw [ex_ev_eq]
  show (match (ex_store k (.ref x) c pl st w) with | some (.inl r) => some r | some (.inr s') => ex_ev d cal y s' | none => none) = _
  unfold ex_store
  cases pl.getD k (.retAddr 0) <;> rfl
theorem ev_lstore {d : Nat} {cal : Nat → List Value → PW → Option ER} {y : Nat} {c : List Instr} {pl st : List Value} {w : PW} {k : Nat} {x : Int64} : ex_ev d cal y (.lstore k :: c, pl, .long x :: st, w) = (if k + 1 < pl.length then (match (pl.set (k + 1) (.retAddr 0)).getD k (.retAddr 0) with | .retAddr _ => none | _ => ex_ev d cal y (c, (pl.set (k + 1) (.retAddr 0)).set k (.long x), st, w)) else none) := by
  rw [ex_ev_eq]
  show (match (if k + 1 < pl.length then ex_store k (.long x) c (pl.set (k + 1) (.retAddr 0)) st w else none) with | some (.inl r) => some r | some (.inr s') => ex_ev d cal y s' | none => none) = _
  unfold ex_store
  by_cases hk : k + 1 < pl.length
  · rw [if_pos hk, if_pos hk]
    cases (pl.set (k + 1) (.retAddr 0)).getD k (.retAddr 0) <;> rfl
  · rw [if_neg hk, if_neg hk]
theorem ev_iinc {d : Nat} {cal : Nat → List Value → PW → Option ER} {y : Nat} {c : List Instr} {pl st : List Value} {w : PW} {k : Nat} {n : Int} : ex_ev d cal y (.iinc k n :: c, pl, st, w) = (match pl.getD k .null with | .int x => ex_ev d cal y (c, pl.set k (.int (x + Int32.ofInt n)), st, w) | _ => none) := by
  rw [ex_ev_eq]
  show (match (match pl.getD k .null with | .int x => ex_go c (pl.set k (.int (x + Int32.ofInt n))) st w | _ => none) with | some (.inl r) => some r | some (.inr s') => ex_ev d cal y s' | none => none) = _
  cases pl.getD k .null <;> rfl
theorem ev_push {d : Nat} {cal : Nat → List Value → PW → Option ER} {y : Nat} {c : List Instr} {pl st : List Value} {w : PW} {n : Int} : ex_ev d cal y (.sipush n :: c, pl, st, w) = ex_ev d cal y (c, pl, .int (Int32.ofInt n) :: st, w) := by
  rw [ex_ev_eq]
  rfl
theorem ev_lpush {d : Nat} {cal : Nat → List Value → PW → Option ER} {y : Nat} {c : List Instr} {pl st : List Value} {w : PW} {n : Int} : ex_ev d cal y (.goto_w n :: c, pl, st, w) = ex_ev d cal y (c, pl, .long (Int64.ofInt n) :: st, w) := by
  rw [ex_ev_eq]
  rfl
theorem ev_iadd {d : Nat} {cal : Nat → List Value → PW → Option ER} {y : Nat} {c : List Instr} {pl st : List Value} {w : PW} {a b : Int32} : ex_ev d cal y (.iadd :: c, pl, .int b :: .int a :: st, w) = ex_ev d cal y (c, pl, .int (a + b) :: st, w) := by
  rw [ex_ev_eq]
  rfl
theorem ev_isub {d : Nat} {cal : Nat → List Value → PW → Option ER} {y : Nat} {c : List Instr} {pl st : List Value} {w : PW} {a b : Int32} : ex_ev d cal y (.isub :: c, pl, .int b :: .int a :: st, w) = ex_ev d cal y (c, pl, .int (a - b) :: st, w) := by
  rw [ex_ev_eq]
  rfl
theorem ev_imul {d : Nat} {cal : Nat → List Value → PW → Option ER} {y : Nat} {c : List Instr} {pl st : List Value} {w : PW} {a b : Int32} : ex_ev d cal y (.imul :: c, pl, .int b :: .int a :: st, w) = ex_ev d cal y (c, pl, .int (a * b) :: st, w) := by
  rw [ex_ev_eq]
  rfl
theorem ev_iand {d : Nat} {cal : Nat → List Value → PW → Option ER} {y : Nat} {c : List Instr} {pl st : List Value} {w : PW} {a b : Int32} : ex_ev d cal y (.iand :: c, pl, .int b :: .int a :: st, w) = ex_ev d cal y (c, pl, .int (a &&& b) :: st, w) := by
  rw [ex_ev_eq]
  rfl
theorem ev_ior {d : Nat} {cal : Nat → List Value → PW → Option ER} {y : Nat} {c : List Instr} {pl st : List Value} {w : PW} {a b : Int32} : ex_ev d cal y (.ior :: c, pl, .int b :: .int a :: st, w) = ex_ev d cal y (c, pl, .int (a ||| b) :: st, w) := by
  rw [ex_ev_eq]
  rfl
theorem ev_ixor {d : Nat} {cal : Nat → List Value → PW → Option ER} {y : Nat} {c : List Instr} {pl st : List Value} {w : PW} {a b : Int32} : ex_ev d cal y (.ixor :: c, pl, .int b :: .int a :: st, w) = ex_ev d cal y (c, pl, .int (a ^^^ b) :: st, w) := by
  rw [ex_ev_eq]
  rfl
theorem ev_ishl {d : Nat} {cal : Nat → List Value → PW → Option ER} {y : Nat} {c : List Instr} {pl st : List Value} {w : PW} {a b : Int32} : ex_ev d cal y (.ishl :: c, pl, .int b :: .int a :: st, w) = ex_ev d cal y (c, pl, .int (a <<< (b &&& 31)) :: st, w) := by
  rw [ex_ev_eq]
  rfl
theorem ev_ishr {d : Nat} {cal : Nat → List Value → PW → Option ER} {y : Nat} {c : List Instr} {pl st : List Value} {w : PW} {a b : Int32} : ex_ev d cal y (.ishr :: c, pl, .int b :: .int a :: st, w) = ex_ev d cal y (c, pl, .int (a >>> (b &&& 31)) :: st, w) := by
  rw [ex_ev_eq]
  rfl
theorem ev_idiv {d : Nat} {cal : Nat → List Value → PW → Option ER} {y : Nat} {c : List Instr} {pl st : List Value} {w : PW} {a b : Int32} : ex_ev d cal y (.idiv :: c, pl, .int b :: .int a :: st, w) = (if b = 0 then none else ex_ev d cal y (c, pl, .int (a / b) :: st, w)) := by
  rw [ex_ev_eq]
  show (match (if b = 0 then none else ex_go c pl (.int (a / b) :: st) w) with | some (.inl r) => some r | some (.inr s') => ex_ev d cal y s' | none => none) = _
  by_cases hk : b = 0
  · simp only [if_pos hk] <;> rfl
  · simp only [if_neg hk] <;> rfl
theorem ev_irem {d : Nat} {cal : Nat → List Value → PW → Option ER} {y : Nat} {c : List Instr} {pl st : List Value} {w : PW} {a b : Int32} : ex_ev d cal y (.irem :: c, pl, .int b :: .int a :: st, w) = (if b = 0 then none else ex_ev d cal y (c, pl, .int (a - a / b * b) :: st, w)) := by
  rw [ex_ev_eq]
  show (match (if b = 0 then none else ex_go c pl (.int (a - a / b * b) :: st) w) with | some (.inl r) => some r | some (.inr s') => ex_ev d cal y s' | none => none) = _
  by_cases hk : b = 0
  · simp only [if_pos hk] <;> rfl
  · simp only [if_neg hk] <;> rfl
theorem ev_ladd {d : Nat} {cal : Nat → List Value → PW → Option ER} {y : Nat} {c : List Instr} {pl st : List Value} {w : PW} {a b : Int64} : ex_ev d cal y (.ladd :: c, pl, .long b :: .long a :: st, w) = ex_ev d cal y (c, pl, .long (a + b) :: st, w) := by
  rw [ex_ev_eq]
  rfl
theorem ev_lmul {d : Nat} {cal : Nat → List Value → PW → Option ER} {y : Nat} {c : List Instr} {pl st : List Value} {w : PW} {a b : Int64} : ex_ev d cal y (.lmul :: c, pl, .long b :: .long a :: st, w) = ex_ev d cal y (c, pl, .long (a * b) :: st, w) := by
  rw [ex_ev_eq]
  rfl
theorem ev_land {d : Nat} {cal : Nat → List Value → PW → Option ER} {y : Nat} {c : List Instr} {pl st : List Value} {w : PW} {a b : Int64} : ex_ev d cal y (.land :: c, pl, .long b :: .long a :: st, w) = ex_ev d cal y (c, pl, .long (a &&& b) :: st, w) := by
  rw [ex_ev_eq]
  rfl
theorem ev_lshr {d : Nat} {cal : Nat → List Value → PW → Option ER} {y : Nat} {c : List Instr} {pl st : List Value} {w : PW} {a : Int64} {b : Int32} : ex_ev d cal y (.lshr :: c, pl, .int b :: .long a :: st, w) = ex_ev d cal y (c, pl, .long (a >>> (b.toInt64 &&& 63)) :: st, w) := by
  rw [ex_ev_eq]
  rfl
theorem ev_lushr {d : Nat} {cal : Nat → List Value → PW → Option ER} {y : Nat} {c : List Instr} {pl st : List Value} {w : PW} {a : Int64} {b : Int32} : ex_ev d cal y (.lushr :: c, pl, .int b :: .long a :: st, w) = ex_ev d cal y (c, pl, .long (a.toUInt64 >>> (b.toInt64.toUInt64 &&& Int64.toUInt64 63)).toInt64 :: st, w) := by
  rw [ex_ev_eq]
  rfl
theorem ev_i2l {d : Nat} {cal : Nat → List Value → PW → Option ER} {y : Nat} {c : List Instr} {pl st : List Value} {w : PW} {a : Int32} : ex_ev d cal y (.i2l :: c, pl, .int a :: st, w) = ex_ev d cal y (c, pl, .long a.toInt64 :: st, w) := by
  rw [ex_ev_eq]
  rfl
theorem ev_l2i {d : Nat} {cal : Nat → List Value → PW → Option ER} {y : Nat} {c : List Instr} {pl st : List Value} {w : PW} {a : Int64} : ex_ev d cal y (.l2i :: c, pl, .long a :: st, w) = ex_ev d cal y (c, pl, .int a.toInt32 :: st, w) := by
  rw [ex_ev_eq]
  rfl
theorem ev_i2b {d : Nat} {cal : Nat → List Value → PW → Option ER} {y : Nat} {c : List Instr} {pl st : List Value} {w : PW} {a : Int32} : ex_ev d cal y (.i2b :: c, pl, .int a :: st, w) = ex_ev d cal y (c, pl, .int a.toInt8.toInt32 :: st, w) := by
  rw [ex_ev_eq]
  rfl
theorem ev_dup_r {d : Nat} {cal : Nat → List Value → PW → Option ER} {y : Nat} {c : List Instr} {pl st : List Value} {w : PW} {a : Nat} : ex_ev d cal y (.dup :: c, pl, .ref a :: st, w) = ex_ev d cal y (c, pl, .ref a :: .ref a :: st, w) := by
  rw [ex_ev_eq]
  rfl
theorem ev_dup_i {d : Nat} {cal : Nat → List Value → PW → Option ER} {y : Nat} {c : List Instr} {pl st : List Value} {w : PW} {a : Int32} : ex_ev d cal y (.dup :: c, pl, .int a :: st, w) = ex_ev d cal y (c, pl, .int a :: .int a :: st, w) := by
  rw [ex_ev_eq]
  rfl
theorem ev_dup2 {d : Nat} {cal : Nat → List Value → PW → Option ER} {y : Nat} {c : List Instr} {pl st : List Value} {w : PW} {a : Int32} {b : Nat} : ex_ev d cal y (.dup2 :: c, pl, .int a :: .ref b :: st, w) = ex_ev d cal y (c, pl, .int a :: .ref b :: .int a :: .ref b :: st, w) := by
  rw [ex_ev_eq]
  rfl
theorem ev_pop {d : Nat} {cal : Nat → List Value → PW → Option ER} {y : Nat} {c : List Instr} {pl st : List Value} {w : PW} {a : Int32} : ex_ev d cal y (.pop :: c, pl, .int a :: st, w) = ex_ev d cal y (c, pl, st, w) := by
  rw [ex_ev_eq]
  rfl
theorem ev_goto {d : Nat} {cal : Nat → List Value → PW → Option ER} {y : Nat} {c : List Instr} {pl st : List Value} {w : PW} {L : Int} : ex_ev d cal y (.goto L :: c, pl, st, w) = ex_ev d cal y (ex_blk y L.toNat, pl, st, w) := by
  rw [ex_ev_eq]
  rfl
theorem ev_jsr {d : Nat} {cal : Nat → List Value → PW → Option ER} {y : Nat} {c : List Instr} {pl st : List Value} {w : PW} {L : Int} : ex_ev d cal y (.jsr L :: c, pl, st, w) = ex_ev d cal y (ex_blk y L.toNat, pl, st, w) := by
  rw [ex_ev_eq]
  rfl
theorem ev_icmp_eq {d : Nat} {cal : Nat → List Value → PW → Option ER} {y : Nat} {c : List Instr} {pl st : List Value} {w : PW} {a b : Int32} {L : Int} : ex_ev d cal y (.if_icmp .eq L :: c, pl, .int b :: .int a :: st, w) = (if a = b then ex_ev d cal y (ex_blk y L.toNat, pl, st, w) else ex_ev d cal y (c, pl, st, w)) := by
  rw [ex_ev_eq]
  show (match (if decide (a = b) = true then ex_go (ex_blk y L.toNat) pl st w else ex_go c pl st w) with | some (.inl r) => some r | some (.inr s') => ex_ev d cal y s' | none => none) = _
  by_cases h : a = b
  · rw [if_pos h, if_pos (decide_eq_true h)]; rfl
  · rw [if_neg h, if_neg (by simpa using h)]; rfl
theorem ev_if_eq {d : Nat} {cal : Nat → List Value → PW → Option ER} {y : Nat} {c : List Instr} {pl st : List Value} {w : PW} {a : Int32} {L : Int} : ex_ev d cal y (.ifCond .eq L :: c, pl, .int a :: st, w) = (if a = 0 then ex_ev d cal y (ex_blk y L.toNat, pl, st, w) else ex_ev d cal y (c, pl, st, w)) := by
  rw [ex_ev_eq]
  show (match (if decide (a = 0) = true then ex_go (ex_blk y L.toNat) pl st w else ex_go c pl st w) with | some (.inl r) => some r | some (.inr s') => ex_ev d cal y s' | none => none) = _
  by_cases h : a = 0
  · rw [if_pos h, if_pos (decide_eq_true h)]; rfl
  · rw [if_neg h, if_neg (by simpa using h)]; rfl
theorem ev_icmp_ne {d : Nat} {cal : Nat → List Value → PW → Option ER} {y : Nat} {c : List Instr} {pl st : List Value} {w : PW} {a b : Int32} {L : Int} : ex_ev d cal y (.if_icmp .ne L :: c, pl, .int b :: .int a :: st, w) = (if ¬ a = b then ex_ev d cal y (ex_blk y L.toNat, pl, st, w) else ex_ev d cal y (c, pl, st, w)) := by
  rw [ex_ev_eq]
  show (match (if decide (¬ a = b) = true then ex_go (ex_blk y L.toNat) pl st w else ex_go c pl st w) with | some (.inl r) => some r | some (.inr s') => ex_ev d cal y s' | none => none) = _
  by_cases h : ¬ a = b
  · rw [if_pos h, if_pos (decide_eq_true h)]; rfl
  · rw [if_neg h, if_neg (by simpa using h)]; rfl
theorem ev_if_ne {d : Nat} {cal : Nat → List Value → PW → Option ER} {y : Nat} {c : List Instr} {pl st : List Value} {w : PW} {a : Int32} {L : Int} : ex_ev d cal y (.ifCond .ne L :: c, pl, .int a :: st, w) = (if ¬ a = 0 then ex_ev d cal y (ex_blk y L.toNat, pl, st, w) else ex_ev d cal y (c, pl, st, w)) := by
  rw [ex_ev_eq]
  show (match (if decide (¬ a = 0) = true then ex_go (ex_blk y L.toNat) pl st w else ex_go c pl st w) with | some (.inl r) => some r | some (.inr s') => ex_ev d cal y s' | none => none) = _
  by_cases h : ¬ a = 0
  · rw [if_pos h, if_pos (decide_eq_true h)]; rfl
  · rw [if_neg h, if_neg (by simpa using h)]; rfl
theorem ev_icmp_lt {d : Nat} {cal : Nat → List Value → PW → Option ER} {y : Nat} {c : List Instr} {pl st : List Value} {w : PW} {a b : Int32} {L : Int} : ex_ev d cal y (.if_icmp .lt L :: c, pl, .int b :: .int a :: st, w) = (if a < b then ex_ev d cal y (ex_blk y L.toNat, pl, st, w) else ex_ev d cal y (c, pl, st, w)) := by
  rw [ex_ev_eq]
  show (match (if decide (a < b) = true then ex_go (ex_blk y L.toNat) pl st w else ex_go c pl st w) with | some (.inl r) => some r | some (.inr s') => ex_ev d cal y s' | none => none) = _
  by_cases h : a < b
  · rw [if_pos h, if_pos (decide_eq_true h)]; rfl
  · rw [if_neg h, if_neg (by simpa using h)]; rfl
theorem ev_if_lt {d : Nat} {cal : Nat → List Value → PW → Option ER} {y : Nat} {c : List Instr} {pl st : List Value} {w : PW} {a : Int32} {L : Int} : ex_ev d cal y (.ifCond .lt L :: c, pl, .int a :: st, w) = (if a < 0 then ex_ev d cal y (ex_blk y L.toNat, pl, st, w) else ex_ev d cal y (c, pl, st, w)) := by
  rw [ex_ev_eq]
  show (match (if decide (a < 0) = true then ex_go (ex_blk y L.toNat) pl st w else ex_go c pl st w) with | some (.inl r) => some r | some (.inr s') => ex_ev d cal y s' | none => none) = _
  by_cases h : a < 0
  · rw [if_pos h, if_pos (decide_eq_true h)]; rfl
  · rw [if_neg h, if_neg (by simpa using h)]; rfl
theorem ev_icmp_ge {d : Nat} {cal : Nat → List Value → PW → Option ER} {y : Nat} {c : List Instr} {pl st : List Value} {w : PW} {a b : Int32} {L : Int} : ex_ev d cal y (.if_icmp .ge L :: c, pl, .int b :: .int a :: st, w) = (if b ≤ a then ex_ev d cal y (ex_blk y L.toNat, pl, st, w) else ex_ev d cal y (c, pl, st, w)) := by
  rw [ex_ev_eq]
  show (match (if decide (b ≤ a) = true then ex_go (ex_blk y L.toNat) pl st w else ex_go c pl st w) with | some (.inl r) => some r | some (.inr s') => ex_ev d cal y s' | none => none) = _
  by_cases h : b ≤ a
  · rw [if_pos h, if_pos (decide_eq_true h)]; rfl
  · rw [if_neg h, if_neg (by simpa using h)]; rfl
theorem ev_if_ge {d : Nat} {cal : Nat → List Value → PW → Option ER} {y : Nat} {c : List Instr} {pl st : List Value} {w : PW} {a : Int32} {L : Int} : ex_ev d cal y (.ifCond .ge L :: c, pl, .int a :: st, w) = (if 0 ≤ a then ex_ev d cal y (ex_blk y L.toNat, pl, st, w) else ex_ev d cal y (c, pl, st, w)) := by
  rw [ex_ev_eq]
  show (match (if decide (0 ≤ a) = true then ex_go (ex_blk y L.toNat) pl st w else ex_go c pl st w) with | some (.inl r) => some r | some (.inr s') => ex_ev d cal y s' | none => none) = _
  by_cases h : 0 ≤ a
  · rw [if_pos h, if_pos (decide_eq_true h)]; rfl
  · rw [if_neg h, if_neg (by simpa using h)]; rfl
theorem ev_icmp_gt {d : Nat} {cal : Nat → List Value → PW → Option ER} {y : Nat} {c : List Instr} {pl st : List Value} {w : PW} {a b : Int32} {L : Int} : ex_ev d cal y (.if_icmp .gt L :: c, pl, .int b :: .int a :: st, w) = (if b < a then ex_ev d cal y (ex_blk y L.toNat, pl, st, w) else ex_ev d cal y (c, pl, st, w)) := by
  rw [ex_ev_eq]
  show (match (if decide (b < a) = true then ex_go (ex_blk y L.toNat) pl st w else ex_go c pl st w) with | some (.inl r) => some r | some (.inr s') => ex_ev d cal y s' | none => none) = _
  by_cases h : b < a
  · rw [if_pos h, if_pos (decide_eq_true h)]; rfl
  · rw [if_neg h, if_neg (by simpa using h)]; rfl
theorem ev_if_gt {d : Nat} {cal : Nat → List Value → PW → Option ER} {y : Nat} {c : List Instr} {pl st : List Value} {w : PW} {a : Int32} {L : Int} : ex_ev d cal y (.ifCond .gt L :: c, pl, .int a :: st, w) = (if 0 < a then ex_ev d cal y (ex_blk y L.toNat, pl, st, w) else ex_ev d cal y (c, pl, st, w)) := by
  rw [ex_ev_eq]
  show (match (if decide (0 < a) = true then ex_go (ex_blk y L.toNat) pl st w else ex_go c pl st w) with | some (.inl r) => some r | some (.inr s') => ex_ev d cal y s' | none => none) = _
  by_cases h : 0 < a
  · rw [if_pos h, if_pos (decide_eq_true h)]; rfl
  · rw [if_neg h, if_neg (by simpa using h)]; rfl
theorem ev_icmp_le {d : Nat} {cal : Nat → List Value → PW → Option ER} {y : Nat} {c : List Instr} {pl st : List Value} {w : PW} {a b : Int32} {L : Int} : ex_ev d cal y (.if_icmp .le L :: c, pl, .int b :: .int a :: st, w) = (if a ≤ b then ex_ev d cal y (ex_blk y L.toNat, pl, st, w) else ex_ev d cal y (c, pl, st, w)) := by
  rw [ex_ev_eq]
  show (match (if decide (a ≤ b) = true then ex_go (ex_blk y L.toNat) pl st w else ex_go c pl st w) with | some (.inl r) => some r | some (.inr s') => ex_ev d cal y s' | none => none) = _
  by_cases h : a ≤ b
  · rw [if_pos h, if_pos (decide_eq_true h)]; rfl
  · rw [if_neg h, if_neg (by simpa using h)]; rfl
theorem ev_if_le {d : Nat} {cal : Nat → List Value → PW → Option ER} {y : Nat} {c : List Instr} {pl st : List Value} {w : PW} {a : Int32} {L : Int} : ex_ev d cal y (.ifCond .le L :: c, pl, .int a :: st, w) = (if a ≤ 0 then ex_ev d cal y (ex_blk y L.toNat, pl, st, w) else ex_ev d cal y (c, pl, st, w)) := by
  rw [ex_ev_eq]
  show (match (if decide (a ≤ 0) = true then ex_go (ex_blk y L.toNat) pl st w else ex_go c pl st w) with | some (.inl r) => some r | some (.inr s') => ex_ev d cal y s' | none => none) = _
  by_cases h : a ≤ 0
  · rw [if_pos h, if_pos (decide_eq_true h)]; rfl
  · rw [if_neg h, if_neg (by simpa using h)]; rfl
theorem ev_tswitch {d : Nat} {cal : Nat → List Value → PW → Option ER} {y : Nat} {c : List Instr} {pl st : List Value} {w : PW} {df lo hi : Int} {offs : Array Int} {a : Int32} : ex_ev d cal y (.tableswitch df lo hi offs :: c, pl, .int a :: st, w) = (if a.toInt < lo ∨ hi < a.toInt then ex_ev d cal y (ex_blk y df.toNat, pl, st, w) else ex_ev d cal y (ex_blk y ((offs.toList.getD (a.toInt - lo).toNat 0).toNat), pl, st, w)) := by
  rw [ex_ev_eq]
  show (match (if a.toInt < lo ∨ hi < a.toInt then ex_go (ex_blk y df.toNat) pl st w else ex_go (ex_blk y ((offs.toList.getD (a.toInt - lo).toNat 0).toNat)) pl st w) with | some (.inl r) => some r | some (.inr s') => ex_ev d cal y s' | none => none) = _
  by_cases hk : a.toInt < lo ∨ hi < a.toInt
  · simp only [if_pos hk] <;> rfl
  · simp only [if_neg hk] <;> rfl
theorem ev_lswitch {d : Nat} {cal : Nat → List Value → PW → Option ER} {y : Nat} {c : List Instr} {pl st : List Value} {w : PW} {df : Int} {ps : Array (Int × Int)} {a : Int32} : ex_ev d cal y (.lookupswitch df ps :: c, pl, .int a :: st, w) = ex_ev d cal y (ex_blk y (ex_lks ps.toList df a.toInt).toNat, pl, st, w) := by
  rw [ex_ev_eq]
  rfl
def ex_fv (w : PW) (o e : Nat) : Option Value := match ex_fk o e with
  | some 0 => some (.int (w.1 o (e % 64)))
  | some 1 => some (.long w.2)
  | some 2 => some (.int (w.1 o (e % 64)))
  | some (n + 3) => some (.ref n)
  | none => none
theorem ev_getf {d : Nat} {cal : Nat → List Value → PW → Option ER} {y : Nat} {c : List Instr} {pl st : List Value} {w : PW} {o e : Nat} : ex_ev d cal y (.getfield e :: c, pl, .ref o :: st, w) = (match ex_fv w o e with | some v => ex_ev d cal y (c, pl, v :: st, w) | none => none) := by
  rw [ex_ev_eq]
  show (match ex_gf e c pl (.ref o :: st) w with | some (.inl r) => some r | some (.inr s') => ex_ev d cal y s' | none => none) = _
  unfold ex_gf ex_fv
  dsimp only
  cases ex_fk o e with
  | none => rfl
  | some k =>
    match k with
    | 0 => rfl
    | 1 => rfl
    | 2 => rfl
    | n + 3 => rfl
theorem ev_putf {d : Nat} {cal : Nat → List Value → PW → Option ER} {y : Nat} {c : List Instr} {pl st : List Value} {w : PW} {o e : Nat} {x : Int32} : ex_ev d cal y (.putfield e :: c, pl, .int x :: .ref o :: st, w) = (match ex_fk o e with | some 0 => ex_ev d cal y (c, pl, st, ex_up w o (e % 64) x) | some 2 => (if x = 0 ∨ x = 1 then ex_ev d cal y (c, pl, st, ex_up w o (e % 64) x) else none) | _ => none) := by
  rw [ex_ev_eq]
  show (match ex_pf e c pl (.int x :: .ref o :: st) w with | some (.inl r) => some r | some (.inr s') => ex_ev d cal y s' | none => none) = _
  unfold ex_pf
  dsimp only
  cases ex_fk o e with
  | none => rfl
  | some k =>
    match k with
    | 0 => rfl
    | 1 => rfl
    | 2 =>
      by_cases hk : x = 0 ∨ x = 1
      · simp only [if_pos hk] <;> rfl
      · simp only [if_neg hk] <;> rfl
    | n + 3 => rfl
theorem ev_putl {d : Nat} {cal : Nat → List Value → PW → Option ER} {y : Nat} {c : List Instr} {pl st : List Value} {w : PW} {o e : Nat} {x : Int64} : ex_ev d cal y (.putfield e :: c, pl, .long x :: .ref o :: st, w) = (match ex_fk o e with | some 1 => ex_ev d cal y (c, pl, st, (w.1, x)) | _ => none) := by
  rw [ex_ev_eq]
  show (match ex_pf e c pl (.long x :: .ref o :: st) w with | some (.inl r) => some r | some (.inr s') => ex_ev d cal y s' | none => none) = _
  unfold ex_pf
  dsimp only
  cases ex_fk o e with
  | none => rfl
  | some k =>
    match k with
    | 0 => rfl
    | 1 => rfl
    | n + 2 => rfl
theorem ev_gets {d : Nat} {cal : Nat → List Value → PW → Option ER} {y : Nat} {c : List Instr} {pl st : List Value} {w : PW} {o : Nat} : ex_ev d cal y (.getstatic o :: c, pl, st, w) = (if o = 1000 ∨ o = 1001 then ex_ev d cal y (c, pl, .ref o :: st, w) else none) := by
  rw [ex_ev_eq]
  show (match (if o = 1000 ∨ o = 1001 then ex_go c pl (.ref o :: st) w else none) with | some (.inl r) => some r | some (.inr s') => ex_ev d cal y s' | none => none) = _
  by_cases hk : o = 1000 ∨ o = 1001
  · simp only [if_pos hk] <;> rfl
  · simp only [if_neg hk] <;> rfl
theorem ev_iald {d : Nat} {cal : Nat → List Value → PW → Option ER} {y : Nat} {c : List Instr} {pl st : List Value} {w : PW} {o : Nat} {i : Int32} : ex_ev d cal y (.iaload :: c, pl, .int i :: .ref o :: st, w) = (match ex_ald w o i with | some x => ex_ev d cal y (c, pl, .int x :: st, w) | none => none) := by
  rw [ex_ev_eq]
  show (match (match ex_ald w o i with | some x => ex_go c pl (.int x :: st) w | none => none) with | some (.inl r) => some r | some (.inr s') => ex_ev d cal y s' | none => none) = _
  cases ex_ald w o i <;> rfl
theorem ev_bald {d : Nat} {cal : Nat → List Value → PW → Option ER} {y : Nat} {c : List Instr} {pl st : List Value} {w : PW} {o : Nat} {i : Int32} : ex_ev d cal y (.baload :: c, pl, .int i :: .ref o :: st, w) = (if ex_cls o = 13 ∧ ¬ (i < 0 ∨ ex_len o ≤ i.toNatClampNeg) then ex_ev d cal y (c, pl, .int (w.1 o i.toNatClampNeg) :: st, w) else none) := by
  rw [ex_ev_eq]
  show (match (if ex_cls o = 13 ∧ ¬ (i < 0 ∨ ex_len o ≤ i.toNatClampNeg) then ex_go c pl (.int (w.1 o i.toNatClampNeg) :: st) w else none) with | some (.inl r) => some r | some (.inr s') => ex_ev d cal y s' | none => none) = _
  by_cases hk : ex_cls o = 13 ∧ ¬ (i < 0 ∨ ex_len o ≤ i.toNatClampNeg)
  · simp only [if_pos hk] <;> rfl
  · simp only [if_neg hk] <;> rfl
theorem ev_iast {d : Nat} {cal : Nat → List Value → PW → Option ER} {y : Nat} {c : List Instr} {pl st : List Value} {w : PW} {o : Nat} {i x : Int32} : ex_ev d cal y (.iastore :: c, pl, .int x :: .int i :: .ref o :: st, w) = (if ex_cls o = 12 ∧ ¬ (i < 0 ∨ ex_len o ≤ i.toNatClampNeg) then ex_ev d cal y (c, pl, st, ex_up w o i.toNatClampNeg x) else none) := by
  rw [ex_ev_eq]
  show (match (if ex_cls o = 12 ∧ ¬ (i < 0 ∨ ex_len o ≤ i.toNatClampNeg) then ex_go c pl st (ex_up w o i.toNatClampNeg x) else none) with | some (.inl r) => some r | some (.inr s') => ex_ev d cal y s' | none => none) = _
  by_cases hk : ex_cls o = 12 ∧ ¬ (i < 0 ∨ ex_len o ≤ i.toNatClampNeg)
  · simp only [if_pos hk] <;> rfl
  · simp only [if_neg hk] <;> rfl
theorem ev_bast {d : Nat} {cal : Nat → List Value → PW → Option ER} {y : Nat} {c : List Instr} {pl st : List Value} {w : PW} {o : Nat} {i x : Int32} : ex_ev d cal y (.bastore :: c, pl, .int x :: .int i :: .ref o :: st, w) = (if ex_cls o = 13 ∧ ¬ (i < 0 ∨ ex_len o ≤ i.toNatClampNeg) then ex_ev d cal y (c, pl, st, ex_up w o i.toNatClampNeg (x.toInt8.toInt32)) else none) := by
  rw [ex_ev_eq]
  show (match (if ex_cls o = 13 ∧ ¬ (i < 0 ∨ ex_len o ≤ i.toNatClampNeg) then ex_go c pl st (ex_up w o i.toNatClampNeg (x.toInt8.toInt32)) else none) with | some (.inl r) => some r | some (.inr s') => ex_ev d cal y s' | none => none) = _
  by_cases hk : ex_cls o = 13 ∧ ¬ (i < 0 ∨ ex_len o ≤ i.toNatClampNeg)
  · simp only [if_pos hk] <;> rfl
  · simp only [if_neg hk] <;> rfl
theorem ev_alen {d : Nat} {cal : Nat → List Value → PW → Option ER} {y : Nat} {c : List Instr} {pl st : List Value} {w : PW} {o : Nat} : ex_ev d cal y (.arraylength :: c, pl, .ref o :: st, w) = (if ex_cls o = 12 then ex_ev d cal y (c, pl, .int (Int32.ofNat (ex_len o)) :: st, w) else none) := by
  rw [ex_ev_eq]
  show (match (if ex_cls o = 12 then ex_go c pl (.int (Int32.ofNat (ex_len o)) :: st) w else none) with | some (.inl r) => some r | some (.inr s') => ex_ev d cal y s' | none => none) = _
  by_cases hk : ex_cls o = 12
  · simp only [if_pos hk] <;> rfl
  · simp only [if_neg hk] <;> rfl
theorem ev_call {d : Nat} {cal : Nat → List Value → PW → Option ER} {y : Nat} {c : List Instr} {pl st : List Value} {w : PW} {e : Nat} : ex_ev d cal y (.invokestatic e :: c, pl, st, w) = (match ex_spl (e % 8) [] st with | some (as, r) => (if ex_low r = true then (match cal (e / 8) as w with | some (v, w1) => ex_ev d cal y (c, pl, v.toList ++ r, w1) | none => none) else none) | none => none) := by
  rw [ex_ev_eq]
  show (match ex_call cal (e / 8) (e % 8) c pl st w with | some (.inl r) => some r | some (.inr s') => ex_ev d cal y s' | none => none) = _
  unfold ex_call
  cases ex_spl (e % 8) [] st with
  | none => rfl
  | some q =>
    obtain ⟨as, r⟩ := q
    dsimp only
    by_cases hk : ex_low r = true
    · simp only [if_pos hk]
      unfold ex_back
      cases cal (e / 8) as w with
      | none => rfl
      | some q => rfl
    · simp only [if_neg hk] <;> rfl
theorem ev_callv {d : Nat} {cal : Nat → List Value → PW → Option ER} {y : Nat} {c : List Instr} {pl st : List Value} {w : PW} {e : Nat} : ex_ev d cal y (.invokevirtual e :: c, pl, st, w) = (match ex_spl (e % 8 + 1) [] st with | some (as, r) => (match as with | .ref _ :: _ => (if ex_low r = true then (match cal (e / 8) as w with | some (v, w1) => ex_ev d cal y (c, pl, v.toList ++ r, w1) | none => none) else none) | _ => none) | none => none) := by
  rw [ex_ev_eq]
  show (match ex_callv cal (e / 8) (e % 8 + 1) c pl st w with | some (.inl r) => some r | some (.inr s') => ex_ev d cal y s' | none => none) = _
  unfold ex_callv
  cases ex_spl (e % 8 + 1) [] st with
  | none => rfl
  | some q =>
    obtain ⟨as, r⟩ := q
    dsimp only
    cases as with
    | nil => rfl
    | cons v as =>
      cases v with
      | ref o =>
        dsimp only
        by_cases hk : ex_low r = true
        · simp only [if_pos hk]
          unfold ex_back
          cases cal (e / 8) (.ref o :: as) w with
          | none => rfl
          | some q => rfl
        · simp only [if_neg hk] <;> rfl
      | _ => rfl
theorem ev_calli {d : Nat} {cal : Nat → List Value → PW → Option ER} {y : Nat} {c : List Instr} {pl st : List Value} {w : PW} {x n : Nat} : ex_ev d cal y (.invokeinterface x n :: c, pl, st, w) = (match ex_vcall cal x n c pl st w with | some (.inl r) => some r | some (.inr s') => ex_ev d cal y s' | none => none) := by
  rw [ex_ev_eq]
  rfl
theorem ev_native {d : Nat} {cal : Nat → List Value → PW → Option ER} {y : Nat} {c : List Instr} {pl st : List Value} {w : PW} {k : Nat} : ex_ev d cal y (.invokedynamic k :: c, pl, st, w) = (match ex_nat d k c pl st w with | some (.inl r) => some r | some (.inr s') => ex_ev d cal y s' | none => none) := by
  rw [ex_ev_eq]
  rfl
theorem ev_iret {d : Nat} {cal : Nat → List Value → PW → Option ER} {y : Nat} {c : List Instr} {pl st : List Value} {w : PW} {x : Int32} : ex_ev d cal y (.ireturn :: c, pl, [.int x], w) = (if ex_ret y = some .int then some (some (.int x), w) else none) := by
  rw [ex_ev_eq]
  show (match (if ex_ret y = some .int then (some (.inl (some (.int x), w)) : Option (ER ⊕ ES)) else none) with | some (.inl r) => some r | some (.inr s') => ex_ev d cal y s' | none => none) = _
  by_cases hk : ex_ret y = some .int
  · simp only [if_pos hk] <;> rfl
  · simp only [if_neg hk] <;> rfl
theorem ev_zret {d : Nat} {cal : Nat → List Value → PW → Option ER} {y : Nat} {c : List Instr} {pl st : List Value} {w : PW} {x : Int32} : ex_ev d cal y (.areturn :: c, pl, [.int x], w) = (if x = 0 ∨ x = 1 then (if ex_ret y = some .boolean then some (some (.int x), w) else none) else none) := by
  rw [ex_ev_eq]
  show (match (if x = 0 ∨ x = 1 then (if ex_ret y = some .boolean then (some (.inl (some (.int x), w)) : Option (ER ⊕ ES)) else none) else none) with | some (.inl r) => some r | some (.inr s') => ex_ev d cal y s' | none => none) = _
  by_cases hk : x = 0 ∨ x = 1
  · by_cases hj : ex_ret y = some .boolean
    · simp only [if_pos hk, if_pos hj] <;> rfl
    · simp only [if_pos hk, if_neg hj] <;> rfl
  · simp only [if_neg hk] <;> rfl
theorem ev_lret {d : Nat} {cal : Nat → List Value → PW → Option ER} {y : Nat} {c : List Instr} {pl st : List Value} {w : PW} {x : Int64} : ex_ev d cal y (.lreturn :: c, pl, [.long x], w) = (if ex_ret y = some .long then some (some (.long x), w) else none) := by
  rw [ex_ev_eq]
  show (match (if ex_ret y = some .long then (some (.inl (some (.long x), w)) : Option (ER ⊕ ES)) else none) with | some (.inl r) => some r | some (.inr s') => ex_ev d cal y s' | none => none) = _
  by_cases hk : ex_ret y = some .long
  · simp only [if_pos hk] <;> rfl
  · simp only [if_neg hk] <;> rfl
theorem ev_vret {d : Nat} {cal : Nat → List Value → PW → Option ER} {y : Nat} {c : List Instr} {pl st : List Value} {w : PW}  : ex_ev d cal y (.return_ :: c, pl, [], w) = (if ex_ret y = none then some (none, w) else none) := by
  rw [ex_ev_eq]
  show (match (if ex_ret y = none then (some (.inl (none, w)) : Option (ER ⊕ ES)) else none) with | some (.inl r) => some r | some (.inr s') => ex_ev d cal y s' | none => none) = _
  by_cases hk : ex_ret y = none
  · simp only [if_pos hk] <;> rfl
  · simp only [if_neg hk] <;> rfl
theorem ex_cal_s {d y : Nat} {as : List Value} {w : PW} (h : ex_okR y as = true) : ex_cal (d + 1) y as w = ex_ev d (ex_cal d) y (ex_blk y 0, ex_ent y as, [], w) := by
  show (if ex_okR y as = true then _ else _) = _
  rw [if_pos h]
end
section
/-! facts of the tables, a row each (printed by wip/whole/gen5.py) -/
theorem kb_0_0 : ex_blk 0 0 = [.aload 0, .getfield 0, .invokevirtual 760, .aload 0, .getfield 1, .invokevirtual 760, .aload 0, .getfield 2, .invokevirtual 760, .aload 0, .getfield 3, .invokevirtual 760, .return_] := rfl
theorem kb_1_0 : ex_blk 1 0 = [.aload 0, .getfield 0, .aload 1, .getfield 0, .invokevirtual 769, .aload 0, .getfield 1, .aload 1, .getfield 1, .invokevirtual 769, .aload 0, .getfield 2, .aload 1, .getfield 2, .invokevirtual 769, .aload 0, .getfield 3, .aload 1, .getfield 3, .invokevirtual 769, .return_] := rfl
theorem kb_2_0 : ex_blk 2 0 = [.iload 1, .ifCond .eq 19, .iload 0, .iload 1, .if_icmp .eq 19, .iload 0, .sipush 3, .if_icmp .ne 23, .iload 1, .sipush 2, .if_icmp .ne 23, .jsr 19] := rfl
theorem kb_2_19 : ex_blk 2 19 = [.sipush 1, .goto 24] := rfl
theorem kb_2_23 : ex_blk 2 23 = [.sipush 0, .jsr 24] := rfl
theorem kb_2_24 : ex_blk 2 24 = [.areturn] := rfl
theorem kb_3_0 : ex_blk 3 0 = [.aload 0, .getfield 0, .iload 1, .sipush 0, .invokevirtual 746, .ireturn] := rfl
theorem kb_4_0 : ex_blk 4 0 = [.aload 0, .getfield 0, .iload 1, .sipush 1, .invokevirtual 746, .ireturn] := rfl
theorem kb_5_0 : ex_blk 5 0 = [.aload 0, .getfield 0, .iload 1, .sipush 2, .invokevirtual 746, .ireturn] := rfl
theorem kb_6_0 : ex_blk 6 0 = [.sipush 4, .aload 0, .iload 1, .invokevirtual 33, .imul, .aload 0, .iload 1, .invokevirtual 41, .iadd, .ireturn] := rfl
theorem kb_7_0 : ex_blk 7 0 = [.aload 0, .getfield 0, .iload 1, .sipush 1, .iload 2, .invokevirtual 755, .aload 0, .getfield 0, .iload 1, .sipush 2, .iload 3, .invokevirtual 755, .return_] := rfl
theorem kb_8_0 : ex_blk 8 0 = [.aload 0, .iload 2, .invokevirtual 33, .istore 3, .aload 0, .iload 2, .invokevirtual 25, .sipush 1, .if_icmp .ne 28, .aload 1, .iload 3, .aload 0, .iload 2, .invokevirtual 41, .invokevirtual 210, .goto 29] := rfl
theorem kb_8_28 : ex_blk 8 28 = [.iload 3, .jsr 29] := rfl
theorem kb_8_29 : ex_blk 8 29 = [.ireturn] := rfl
theorem kb_9_0 : ex_blk 9 0 = [.sipush 0, .istore 3, .sipush 0, .istore 4, .jsr 5] := rfl
theorem kb_9_5 : ex_blk 9 5 = [.iload 4, .aload 0, .getfield 0, .invokevirtual 720, .if_icmp .ge 48, .iload 4, .iload 2, .if_icmp .eq 42, .iload 3, .aload 1, .aload 0, .iload 4, .invokevirtual 25, .aload 0, .iload 4, .invokevirtual 49, .invokevirtual 242, .ior, .istore 3, .jsr 42] := rfl
theorem kb_9_42 : ex_blk 9 42 = [.iinc 4 1, .goto 5] := rfl
theorem kb_9_48 : ex_blk 9 48 = [.iload 3, .ireturn] := rfl
theorem kb_10_0 : ex_blk 10 0 = [.sipush 0, .istore 3, .jsr 2] := rfl
theorem kb_10_2 : ex_blk 10 2 = [.iload 3, .aload 0, .getfield 0, .invokevirtual 720, .if_icmp .ge 42, .aload 1, .aload 0, .iload 3, .invokevirtual 25, .aload 0, .iload 3, .invokevirtual 49, .invokevirtual 242, .iload 2, .ishr, .sipush 1, .iand, .ifCond .eq 36, .iload 3, .ireturn] := rfl
theorem kb_10_36 : ex_blk 10 36 = [.iinc 3 1, .goto 2] := rfl
theorem kb_10_42 : ex_blk 10 42 = [.sipush (-1), .ireturn] := rfl
theorem kb_11_0 : ex_blk 11 0 = [.aload 0, .sipush 0, .putfield 75, .sipush 0, .istore 2, .sipush 0, .istore 3, .sipush 0, .istore 4, .jsr 12] := rfl
theorem kb_11_12 : ex_blk 11 12 = [.iload 4, .aload 1, .invokevirtual 696, .if_icmp .ge 77, .aload 1, .iload 4, .invokevirtual 705, .istore 5, .iload 5, .sipush 47, .if_icmp .ne 44, .iinc 2 1, .sipush 0, .istore 3, .goto 71] := rfl
theorem kb_11_44 : ex_blk 11 44 = [.iload 5, .sipush 124, .if_icmp .ne 60, .aload 0, .iload 2, .iload 3, .invokevirtual 98, .goto 71] := rfl
theorem kb_11_60 : ex_blk 11 60 = [.aload 0, .iload 5, .iload 2, .iload 3, .invokevirtual 107, .iinc 3 1, .jsr 71] := rfl
theorem kb_11_71 : ex_blk 11 71 = [.iinc 4 1, .goto 12] := rfl
theorem kb_11_77 : ex_blk 11 77 = [.aload 0, .iload 2, .sipush 1, .iadd, .putfield 76, .aload 0, .iload 3, .putfield 77, .aload 0, .invokevirtual 112, .aload 0, .invokevirtual 136, .return_] := rfl
theorem kb_12_0 : ex_blk 12 0 = [.iload 1, .sipush 4, .invokestatic 1042, .ifCond .eq 15, .aload 0, .getfield 67, .iload 1, .iload 2, .iastore, .jsr 15] := rfl
theorem kb_12_15 : ex_blk 12 15 = [.return_] := rfl
theorem kb_13_0 : ex_blk 13 0 = [.aload 0, .getfield 75, .sipush 24, .if_icmp .lt 10, .return_] := rfl
theorem kb_13_10 : ex_blk 13 10 = [.iload 1, .sipush 100, .if_icmp .ne 29, .aload 0, .getfield 64, .aload 0, .getfield 75, .sipush 2, .iastore, .goto 49] := rfl
theorem kb_13_29 : ex_blk 13 29 = [.aload 0, .getfield 64, .aload 0, .getfield 75, .iload 1, .sipush 35, .if_icmp .ne 47, .sipush 1, .goto 48] := rfl
theorem kb_13_47 : ex_blk 13 47 = [.sipush 0, .jsr 48] := rfl
theorem kb_13_48 : ex_blk 13 48 = [.iastore, .jsr 49] := rfl
theorem kb_13_49 : ex_blk 13 49 = [.aload 0, .getfield 65, .aload 0, .getfield 75, .iload 2, .iastore, .aload 0, .getfield 66, .aload 0, .getfield 75, .iload 3, .iastore, .aload 0, .dup, .getfield 75, .sipush 1, .iadd, .putfield 75, .return_] := rfl
theorem kb_14_0 : ex_blk 14 0 = [.sipush 0, .istore 1, .jsr 2] := rfl
theorem kb_14_2 : ex_blk 14 2 = [.iload 1, .sipush 96, .if_icmp .ge 25, .aload 0, .iload 1, .iload 1, .sipush 2, .ishr, .iload 1, .sipush 3, .iand, .invokevirtual 123, .iinc 1 1, .goto 2] := rfl
theorem kb_14_25 : ex_blk 14 25 = [.return_] := rfl
theorem kb_15_0 : ex_blk 15 0 = [.sipush (-1), .istore 4, .iload 2, .aload 0, .getfield 75, .if_icmp .ge 41, .aload 0, .aload 0, .getfield 65, .iload 2, .iaload, .getstatic 1000, .iload 3, .iaload, .iadd, .aload 0, .getfield 66, .iload 2, .iaload, .getstatic 1001, .iload 3, .iaload, .iadd, .invokevirtual 130, .istore 4, .jsr 41] := rfl
theorem kb_15_41 : ex_blk 15 41 = [.aload 0, .getfield 68, .iload 1, .iload 4, .iastore, .aload 0, .getfield 69, .iload 1, .aload 0, .iload 4, .invokevirtual 185, .ifCond .eq 68, .iload 4, .goto 69] := rfl
theorem kb_15_68 : ex_blk 15 68 = [.iload 2, .jsr 69] := rfl
theorem kb_15_69 : ex_blk 15 69 = [.iastore, .aload 0, .getfield 70, .iload 1, .aload 0, .iload 2, .invokevirtual 193, .ifCond .eq 103, .aload 0, .iload 4, .invokevirtual 193, .ifCond .eq 103, .sipush 1, .iload 2, .ishl, .sipush 1, .iload 4, .ishl, .ior, .goto 104] := rfl
theorem kb_15_103 : ex_blk 15 103 = [.sipush 0, .jsr 104] := rfl
theorem kb_15_104 : ex_blk 15 104 = [.iastore, .aload 0, .getfield 71, .iload 1, .aload 0, .iload 2, .invokevirtual 193, .ifCond .eq 128, .iload 3, .ifCond .ne 128, .sipush 1, .iload 2, .ishl, .goto 129] := rfl
theorem kb_15_128 : ex_blk 15 128 = [.sipush 0, .jsr 129] := rfl
theorem kb_15_129 : ex_blk 15 129 = [.iastore, .return_] := rfl
theorem kb_16_0 : ex_blk 16 0 = [.iload 1, .aload 0, .getfield 76, .invokestatic 1042, .ifCond .eq 33, .iload 2, .aload 0, .getfield 77, .invokestatic 1042, .ifCond .eq 33, .iload 1, .aload 0, .getfield 77, .imul, .iload 2, .iadd, .goto 34] := rfl
theorem kb_16_33 : ex_blk 16 33 = [.sipush (-1), .jsr 34] := rfl
theorem kb_16_34 : ex_blk 16 34 = [.ireturn] := rfl
theorem kb_17_0 : ex_blk 17 0 = [.sipush 0, .istore 1, .jsr 2] := rfl
theorem kb_17_2 : ex_blk 17 2 = [.iload 1, .sipush 24, .if_icmp .ge 29, .aload 0, .getfield 72, .iload 1, .sipush (-1), .iastore, .aload 0, .getfield 73, .iload 1, .sipush 1000000, .iastore, .iinc 1 1, .goto 2] := rfl
theorem kb_17_29 : ex_blk 17 29 = [.sipush 0, .istore 1, .jsr 31] := rfl
theorem kb_17_31 : ex_blk 17 31 = [.iload 1, .aload 0, .getfield 75, .if_icmp .ge 66, .iload 1, .sipush 24, .if_icmp .ge 66, .aload 0, .getfield 64, .iload 1, .iaload, .sipush 2, .if_icmp .ne 60, .aload 0, .iload 1, .invokevirtual 145, .jsr 60] := rfl
theorem kb_17_60 : ex_blk 17 60 = [.iinc 1 1, .goto 31] := rfl
theorem kb_17_66 : ex_blk 17 66 = [.return_] := rfl
theorem kb_18_0 : ex_blk 18 0 = [.aload 0, .iload 1, .sipush 0, .sipush 0, .invokevirtual 259, .sipush 0, .istore 2, .jsr 9] := rfl
theorem kb_18_9 : ex_blk 18 9 = [.iload 2, .aload 0, .getfield 75, .if_icmp .ge 63, .iload 2, .sipush 24, .if_icmp .ge 63, .aload 0, .getfield 74, .iload 2, .iaload, .aload 0, .getfield 73, .iload 2, .iaload, .if_icmp .ge 57, .aload 0, .getfield 73, .iload 2, .aload 0, .getfield 74, .iload 2, .iaload, .iastore, .aload 0, .getfield 72, .iload 2, .iload 1, .iastore, .jsr 57] := rfl
theorem kb_18_57 : ex_blk 18 57 = [.iinc 2 1, .goto 9] := rfl
theorem kb_18_63 : ex_blk 18 63 = [.return_] := rfl
theorem kb_19_0 : ex_blk 19 0 = [.aload 0, .getfield 75, .ifCond .le 11, .sipush 1, .goto 12] := rfl
theorem kb_19_11 : ex_blk 19 11 = [.sipush 0, .jsr 12] := rfl
theorem kb_19_12 : ex_blk 19 12 = [.areturn] := rfl
theorem kb_20_0 : ex_blk 20 0 = [.aload 0, .getfield 75, .ireturn] := rfl
theorem kb_21_0 : ex_blk 21 0 = [.iload 1, .aload 0, .getfield 75, .invokestatic 1042, .areturn] := rfl
theorem kb_22_0 : ex_blk 22 0 = [.iload 1, .ifCond .lt 27, .iload 1, .aload 0, .getfield 75, .if_icmp .ge 27, .iload 1, .sipush 24, .if_icmp .ge 27, .aload 0, .getfield 64, .iload 1, .iaload, .goto 28] := rfl
theorem kb_22_27 : ex_blk 22 27 = [.sipush 1, .jsr 28] := rfl
theorem kb_22_28 : ex_blk 22 28 = [.ireturn] := rfl
theorem kb_23_0 : ex_blk 23 0 = [.aload 0, .iload 1, .invokevirtual 177, .sipush 1, .if_icmp .eq 13, .sipush 1, .goto 14] := rfl
theorem kb_23_13 : ex_blk 23 13 = [.sipush 0, .jsr 14] := rfl
theorem kb_23_14 : ex_blk 23 14 = [.areturn] := rfl
theorem kb_24_0 : ex_blk 24 0 = [.aload 0, .iload 1, .invokevirtual 177, .ifCond .ne 12, .sipush 1, .goto 13] := rfl
theorem kb_24_12 : ex_blk 24 12 = [.sipush 0, .jsr 13] := rfl
theorem kb_24_13 : ex_blk 24 13 = [.areturn] := rfl
theorem kb_25_0 : ex_blk 25 0 = [.iload 1, .aload 0, .getfield 75, .invokestatic 1042, .ifCond .eq 30, .iload 1, .sipush 24, .if_icmp .ge 30, .aload 0, .getfield 65, .iload 1, .iaload, .sipush 4, .invokestatic 1042, .ifCond .ne 32, .jsr 30] := rfl
theorem kb_25_30 : ex_blk 25 30 = [.sipush (-1), .ireturn] := rfl
theorem kb_25_32 : ex_blk 25 32 = [.aload 0, .getfield 66, .iload 1, .iaload, .aload 0, .getfield 67, .aload 0, .getfield 65, .iload 1, .iaload, .iaload, .iload 2, .iadd, .if_icmp .ge 58, .sipush 0, .goto 59] := rfl
theorem kb_25_58 : ex_blk 25 58 = [.sipush 1, .jsr 59] := rfl
theorem kb_25_59 : ex_blk 25 59 = [.ireturn] := rfl
theorem kb_26_0 : ex_blk 26 0 = [.sipush 4, .iload 1, .imul, .iload 2, .iadd, .istore 3, .iload 2, .sipush 4, .invokestatic 1042, .ifCond .eq 32, .iload 3, .sipush 96, .invokestatic 1042, .ifCond .eq 32, .aload 0, .getfield 68, .iload 3, .iaload, .goto 33] := rfl
theorem kb_26_32 : ex_blk 26 32 = [.sipush (-1), .jsr 33] := rfl
theorem kb_26_33 : ex_blk 26 33 = [.ireturn] := rfl
theorem kb_27_0 : ex_blk 27 0 = [.iload 2, .sipush 96, .invokestatic 1042, .ifCond .ne 11, .sipush (-1), .ireturn] := rfl
theorem kb_27_11 : ex_blk 27 11 = [.iload 3, .tableswitch 83 1 3 #[40, 54, 69]] := rfl
theorem kb_27_40 : ex_blk 27 40 = [.iload 1, .ifCond .ne 48, .sipush 1, .goto 49] := rfl
theorem kb_27_48 : ex_blk 27 48 = [.sipush 0, .jsr 49] := rfl
theorem kb_27_49 : ex_blk 27 49 = [.istore 4, .goto 86] := rfl
theorem kb_27_54 : ex_blk 27 54 = [.iload 1, .sipush 1, .if_icmp .ne 63, .sipush 1, .goto 64] := rfl
theorem kb_27_63 : ex_blk 27 63 = [.sipush 0, .jsr 64] := rfl
theorem kb_27_64 : ex_blk 27 64 = [.istore 4, .goto 86] := rfl
theorem kb_27_69 : ex_blk 27 69 = [.iload 1, .ifCond .eq 77, .sipush 1, .goto 78] := rfl
theorem kb_27_77 : ex_blk 27 77 = [.sipush 0, .jsr 78] := rfl
theorem kb_27_78 : ex_blk 27 78 = [.istore 4, .goto 86] := rfl
theorem kb_27_83 : ex_blk 27 83 = [.sipush 0, .istore 4, .jsr 86] := rfl
theorem kb_27_86 : ex_blk 27 86 = [.iload 4, .ifCond .eq 100, .aload 0, .getfield 69, .iload 2, .iaload, .goto 103] := rfl
theorem kb_27_100 : ex_blk 27 100 = [.iload 2, .sipush 2, .ishr, .jsr 103] := rfl
theorem kb_27_103 : ex_blk 27 103 = [.ireturn] := rfl
theorem kb_28_0 : ex_blk 28 0 = [.iload 1, .ifCond .lt 19, .iload 1, .sipush 24, .if_icmp .ge 19, .aload 0, .getfield 72, .iload 1, .iaload, .goto 20] := rfl
theorem kb_28_19 : ex_blk 28 19 = [.sipush (-1), .jsr 20] := rfl
theorem kb_28_20 : ex_blk 28 20 = [.ireturn] := rfl
theorem kb_29_0 : ex_blk 29 0 = [.aload 0, .iload 1, .invokevirtual 225, .istore 2, .iload 2, .sipush (-1), .if_icmp .ne 15, .iload 1, .goto 16] := rfl
theorem kb_29_15 : ex_blk 29 15 = [.iload 2, .jsr 16] := rfl
theorem kb_29_16 : ex_blk 29 16 = [.ireturn] := rfl
theorem kb_30_0 : ex_blk 30 0 = [.iload 2, .sipush 96, .invokestatic 1042, .ifCond .ne 11, .sipush 0, .ireturn] := rfl
theorem kb_30_11 : ex_blk 30 11 = [.iload 1, .sipush 1, .if_icmp .ne 25, .aload 0, .getfield 70, .iload 2, .iaload, .goto 31] := rfl
theorem kb_30_25 : ex_blk 30 25 = [.aload 0, .getfield 71, .iload 2, .iaload, .jsr 31] := rfl
theorem kb_30_31 : ex_blk 30 31 = [.ireturn] := rfl
theorem kb_31_0 : ex_blk 31 0 = [.aload 0, .iload 1, .iload 3, .iload 4, .invokevirtual 259, .iload 2, .sipush 24, .invokestatic 1042, .ifCond .eq 37, .aload 0, .getfield 74, .iload 2, .iaload, .sipush 1000000, .if_icmp .ge 37, .aload 0, .getfield 74, .iload 2, .iaload, .goto 38] := rfl
theorem kb_31_37 : ex_blk 31 37 = [.sipush (-1), .jsr 38] := rfl
theorem kb_31_38 : ex_blk 31 38 = [.ireturn] := rfl
theorem kb_32_0 : ex_blk 32 0 = [.sipush 0, .istore 4, .jsr 3] := rfl
theorem kb_32_3 : ex_blk 32 3 = [.iload 4, .sipush 24, .if_icmp .ge 35, .aload 0, .getfield 74, .iload 4, .iload 4, .iload 1, .if_icmp .ne 26, .sipush 0, .goto 28] := rfl
theorem kb_32_26 : ex_blk 32 26 = [.sipush 1000000, .jsr 28] := rfl
theorem kb_32_28 : ex_blk 32 28 = [.iastore, .iinc 4 1, .goto 3] := rfl
theorem kb_32_35 : ex_blk 32 35 = [.sipush 1, .istore 4, .sipush 0, .istore 5, .jsr 41] := rfl
theorem kb_32_41 : ex_blk 32 41 = [.iload 4, .ifCond .eq 139, .iload 5, .sipush 24, .if_icmp .ge 139, .sipush 0, .istore 4, .sipush 0, .istore 6, .jsr 59] := rfl
theorem kb_32_59 : ex_blk 32 59 = [.iload 6, .aload 0, .getfield 75, .if_icmp .ge 133, .iload 6, .sipush 24, .if_icmp .ge 133, .iload 6, .iload 1, .if_icmp .eq 90, .iload 3, .iload 6, .ishr, .sipush 1, .iand, .ifCond .ne 94, .jsr 90] := rfl
theorem kb_32_90 : ex_blk 32 90 = [.sipush 1, .goto 95] := rfl
theorem kb_32_94 : ex_blk 32 94 = [.sipush 0, .jsr 95] := rfl
theorem kb_32_95 : ex_blk 32 95 = [.istore 7, .iload 7, .ifCond .eq 127, .aload 0, .getfield 74, .iload 6, .iaload, .sipush 1000000, .if_icmp .ge 127, .aload 0, .iload 6, .iload 2, .invokevirtual 266, .ifCond .eq 127, .sipush 1, .istore 4, .jsr 127] := rfl
theorem kb_32_127 : ex_blk 32 127 = [.iinc 6 1, .goto 59] := rfl
theorem kb_32_133 : ex_blk 32 133 = [.iinc 5 1, .goto 41] := rfl
theorem kb_32_139 : ex_blk 32 139 = [.return_] := rfl
theorem kb_33_0 : ex_blk 33 0 = [.sipush 0, .istore 3, .sipush 0, .istore 4, .jsr 5] := rfl
theorem kb_33_5 : ex_blk 33 5 = [.iload 4, .sipush 4, .if_icmp .ge 116, .aload 0, .iload 1, .iload 4, .invokevirtual 210, .istore 5, .iload 5, .sipush 24, .invokestatic 1042, .ifCond .eq 110, .iload 1, .sipush 24, .invokestatic 1042, .ifCond .eq 110, .aload 0, .iload 5, .invokevirtual 185, .ifCond .eq 110, .aload 0, .iload 1, .sipush 0, .invokevirtual 202, .aload 0, .iload 5, .sipush 0, .invokevirtual 202, .if_icmp .ne 68, .sipush 1, .goto 71] := rfl
theorem kb_33_68 : ex_blk 33 68 = [.sipush 1, .iload 2, .iadd, .jsr 71] := rfl
theorem kb_33_71 : ex_blk 33 71 = [.istore 6, .aload 0, .getfield 74, .iload 1, .iaload, .iload 6, .iadd, .aload 0, .getfield 74, .iload 5, .iaload, .if_icmp .ge 110, .aload 0, .getfield 74, .iload 5, .aload 0, .getfield 74, .iload 1, .iaload, .iload 6, .iadd, .iastore, .sipush 1, .istore 3, .jsr 110] := rfl
theorem kb_33_110 : ex_blk 33 110 = [.iinc 4 1, .goto 5] := rfl
theorem kb_33_116 : ex_blk 33 116 = [.iload 3, .areturn] := rfl
theorem kb_34_0 : ex_blk 34 0 = [.aload 0, .sipush 0, .putfield 128, .aload 0, .sipush (-1), .putfield 129, .aload 0, .sipush 0, .putfield 130, .aload 0, .sipush 0, .putfield 131, .return_] := rfl
theorem kb_35_0 : ex_blk 35 0 = [.iload 1, .lookupswitch 67 #[(35, 62), (46, 62), (47, 57), (100, 62), (124, 52)]] := rfl
theorem kb_35_52 : ex_blk 35 52 = [.aload 0, .invokevirtual 288, .areturn] := rfl
theorem kb_35_57 : ex_blk 35 57 = [.aload 0, .invokevirtual 296, .areturn] := rfl
theorem kb_35_62 : ex_blk 35 62 = [.aload 0, .invokevirtual 304, .areturn] := rfl
theorem kb_35_67 : ex_blk 35 67 = [.sipush 0, .areturn] := rfl
theorem kb_36_0 : ex_blk 36 0 = [.aload 0, .getfield 131, .ifCond .eq 9, .sipush 0, .areturn] := rfl
theorem kb_36_9 : ex_blk 36 9 = [.aload 0, .sipush 1, .putfield 131, .sipush 1, .areturn] := rfl
theorem kb_37_0 : ex_blk 37 0 = [.aload 0, .getfield 128, .sipush 1, .iadd, .sipush 4, .if_icmp .ge 17, .aload 0, .invokevirtual 312, .ifCond .ne 19, .jsr 17] := rfl
theorem kb_37_17 : ex_blk 37 17 = [.sipush 0, .areturn] := rfl
theorem kb_37_19 : ex_blk 37 19 = [.aload 0, .aload 0, .getfield 130, .putfield 129, .aload 0, .dup, .getfield 128, .sipush 1, .iadd, .putfield 128, .aload 0, .sipush 0, .putfield 130, .aload 0, .sipush 0, .putfield 131, .sipush 1, .areturn] := rfl
theorem kb_38_0 : ex_blk 38 0 = [.aload 0, .getfield 130, .aload 0, .getfield 129, .sipush (-1), .if_icmp .ne 17, .sipush 6, .goto 21] := rfl
theorem kb_38_17 : ex_blk 38 17 = [.aload 0, .getfield 129, .jsr 21] := rfl
theorem kb_38_21 : ex_blk 38 21 = [.if_icmp .lt 26, .sipush 0, .areturn] := rfl
theorem kb_38_26 : ex_blk 38 26 = [.aload 0, .dup, .getfield 130, .sipush 1, .iadd, .putfield 130, .sipush 1, .areturn] := rfl
theorem kb_39_0 : ex_blk 39 0 = [.aload 0, .getfield 131, .ifCond .eq 41, .aload 0, .getfield 129, .sipush (-1), .if_icmp .ne 26, .aload 0, .getfield 130, .sipush 2, .if_icmp .lt 41, .goto 37] := rfl
theorem kb_39_26 : ex_blk 39 26 = [.aload 0, .getfield 130, .aload 0, .getfield 129, .if_icmp .ne 41, .jsr 37] := rfl
theorem kb_39_37 : ex_blk 39 37 = [.sipush 1, .goto 42] := rfl
theorem kb_39_41 : ex_blk 39 41 = [.sipush 0, .jsr 42] := rfl
theorem kb_39_42 : ex_blk 39 42 = [.areturn] := rfl
theorem kb_40_0 : ex_blk 40 0 = [.aload 0, .getfield 128, .sipush 1, .iadd, .sipush 2, .if_icmp .lt 21, .aload 0, .invokevirtual 312, .ifCond .eq 21, .sipush 1, .goto 22] := rfl
theorem kb_40_21 : ex_blk 40 21 = [.sipush 0, .jsr 22] := rfl
theorem kb_40_22 : ex_blk 40 22 = [.areturn] := rfl
theorem kb_41_0 : ex_blk 41 0 = [.aload 0, .sipush 6, .aload 3, .getfield 2, .invokevirtual 720, .invokedynamic 1, .putfield 194, .sipush 0, .istore 4, .jsr 19] := rfl
theorem kb_41_19 : ex_blk 41 19 = [.iload 4, .aload 0, .getfield 194, .if_icmp .ge 99, .aload 0, .getfield 192, .iload 4, .aload 3, .getfield 2, .iload 4, .sipush 0, .invokevirtual 746, .iastore, .sipush 0, .istore 5, .jsr 48] := rfl
theorem kb_41_48 : ex_blk 41 48 = [.iload 5, .sipush 24, .if_icmp .ge 75, .aload 0, .getfield 193, .iload 4, .sipush 24, .imul, .iload 5, .iadd, .sipush 0, .iastore, .iinc 5 1, .goto 48] := rfl
theorem kb_41_75 : ex_blk 41 75 = [.aload 0, .aload 1, .aload 2, .iload 4, .aload 3, .getfield 2, .iload 4, .sipush 1, .invokevirtual 746, .invokevirtual 340, .iinc 4 1, .goto 19] := rfl
theorem kb_41_99 : ex_blk 41 99 = [.return_] := rfl
theorem kb_42_0 : ex_blk 42 0 = [.aload 0, .iload 3, .invokevirtual 377, .istore 5, .iload 5, .invokestatic 345, .istore 6, .sipush 0, .istore 7, .jsr 17] := rfl
theorem kb_42_17 : ex_blk 42 17 = [.iload 7, .sipush 4, .aload 1, .invokevirtual 160, .imul, .if_icmp .ge 72, .aload 1, .iload 7, .sipush 2, .ishr, .invokevirtual 185, .ifCond .eq 66, .aload 2, .aload 1, .iload 5, .iload 4, .iload 6, .iload 7, .sipush 0, .invokevirtual 550, .ifCond .ne 66, .aload 0, .aload 1, .iload 3, .iload 5, .iload 7, .invokevirtual 356, .jsr 66] := rfl
theorem kb_42_66 : ex_blk 42 66 = [.iinc 7 1, .goto 17] := rfl
theorem kb_42_72 : ex_blk 42 72 = [.return_] := rfl
theorem kb_43_0 : ex_blk 43 0 = [.iload 0, .ifCond .ne 6, .sipush 1, .ireturn] := rfl
theorem kb_43_6 : ex_blk 43 6 = [.iload 0, .sipush 4, .if_icmp .ne 15, .sipush 2, .goto 16] := rfl
theorem kb_43_15 : ex_blk 43 15 = [.sipush 0, .jsr 16] := rfl
theorem kb_43_16 : ex_blk 43 16 = [.ireturn] := rfl
theorem kb_44_0 : ex_blk 44 0 = [.iload 4, .sipush 2, .ishr, .istore 5, .iload 3, .sipush 3, .if_icmp .lt 24, .aload 0, .iload 2, .sipush 0, .sipush 1, .iload 5, .ishl, .invokevirtual 363, .goto 73] := rfl
theorem kb_44_24 : ex_blk 44 24 = [.iload 3, .ifCond .eq 50, .aload 0, .iload 2, .aload 1, .iload 5, .iload 4, .sipush 3, .iand, .invokevirtual 210, .sipush 1, .iload 5, .ishl, .invokevirtual 363, .goto 73] := rfl
theorem kb_44_50 : ex_blk 44 50 = [.aload 1, .sipush 1, .iload 4, .invokevirtual 242, .ifCond .eq 73, .aload 0, .iload 2, .iload 5, .sipush 1, .iload 4, .sipush 3, .iand, .ishl, .invokevirtual 363, .jsr 73] := rfl
theorem kb_44_73 : ex_blk 44 73 = [.return_] := rfl
theorem kb_45_0 : ex_blk 45 0 = [.iload 1, .sipush 6, .invokestatic 1042, .ifCond .eq 33, .iload 2, .sipush 24, .invokestatic 1042, .ifCond .eq 33, .aload 0, .getfield 193, .iload 1, .sipush 24, .imul, .iload 2, .iadd, .dup2, .iaload, .iload 3, .ior, .iastore, .jsr 33] := rfl
theorem kb_45_33 : ex_blk 45 33 = [.return_] := rfl
theorem kb_46_0 : ex_blk 46 0 = [.aload 0, .getfield 194, .ireturn] := rfl
theorem kb_47_0 : ex_blk 47 0 = [.iload 1, .ifCond .lt 19, .iload 1, .sipush 6, .if_icmp .ge 19, .aload 0, .getfield 192, .iload 1, .iaload, .goto 20] := rfl
theorem kb_47_19 : ex_blk 47 19 = [.sipush (-1), .jsr 20] := rfl
theorem kb_47_20 : ex_blk 47 20 = [.ireturn] := rfl
theorem kb_48_0 : ex_blk 48 0 = [.aload 0, .iload 1, .invokevirtual 377, .sipush 3, .if_icmp .ge 13, .sipush 1, .goto 14] := rfl
theorem kb_48_13 : ex_blk 48 13 = [.sipush 0, .jsr 14] := rfl
theorem kb_48_14 : ex_blk 48 14 = [.areturn] := rfl
theorem kb_49_0 : ex_blk 49 0 = [.aload 0, .iload 1, .invokevirtual 377, .istore 5, .iload 2, .iload 5, .sipush 1, .iadd, .invokestatic 18, .ifCond .ne 20, .sipush 0, .areturn] := rfl
theorem kb_49_20 : ex_blk 49 20 = [.aload 0, .iload 1, .iload 3, .sipush 2, .ishr, .invokevirtual 410, .istore 6, .iload 5, .ifCond .ne 54, .iload 6, .iload 3, .sipush 3, .iand, .ishr, .sipush 1, .iand, .ifCond .eq 50, .sipush 1, .goto 69] := rfl
theorem kb_49_50 : ex_blk 49 50 = [.sipush 0, .goto 69] := rfl
theorem kb_49_54 : ex_blk 49 54 = [.iload 6, .iload 4, .sipush (-1), .ixor, .iand, .ifCond .eq 68, .sipush 1, .goto 69] := rfl
theorem kb_49_68 : ex_blk 49 68 = [.sipush 0, .jsr 69] := rfl
theorem kb_49_69 : ex_blk 49 69 = [.areturn] := rfl
theorem kb_50_0 : ex_blk 50 0 = [.aload 0, .iload 1, .sipush 0, .invokevirtual 410, .iload 2, .sipush (-1), .ixor, .iand, .ifCond .eq 17, .sipush 1, .goto 18] := rfl
theorem kb_50_17 : ex_blk 50 17 = [.sipush 0, .jsr 18] := rfl
theorem kb_50_18 : ex_blk 50 18 = [.areturn] := rfl
theorem kb_51_0 : ex_blk 51 0 = [.iload 1, .sipush 24, .imul, .iload 2, .iadd, .istore 3, .iload 3, .ifCond .lt 29, .iload 3, .aload 0, .getfield 193, .arraylength, .if_icmp .ge 29, .aload 0, .getfield 193, .iload 3, .iaload, .goto 30] := rfl
theorem kb_51_29 : ex_blk 51 29 = [.sipush 0, .jsr 30] := rfl
theorem kb_51_30 : ex_blk 51 30 = [.ireturn] := rfl
theorem kb_52_0 : ex_blk 52 0 = [.sipush 0, .istore 1, .jsr 2] := rfl
theorem kb_52_2 : ex_blk 52 2 = [.iload 1, .aload 0, .getfield 194, .if_icmp .ge 47, .sipush 0, .istore 2, .sipush 0, .istore 3, .jsr 14] := rfl
theorem kb_52_14 : ex_blk 52 14 = [.iload 3, .sipush 24, .if_icmp .ge 35, .iload 2, .aload 0, .iload 1, .iload 3, .invokevirtual 410, .ior, .istore 2, .iinc 3 1, .goto 14] := rfl
theorem kb_52_35 : ex_blk 52 35 = [.iload 2, .ifCond .ne 41, .sipush 1, .areturn] := rfl
theorem kb_52_41 : ex_blk 52 41 = [.iinc 1 1, .goto 2] := rfl
theorem kb_52_47 : ex_blk 52 47 = [.sipush 0, .areturn] := rfl
theorem kb_53_0 : ex_blk 53 0 = [.aload 0, .sipush 0, .putfield 256, .aload 0, .sipush 0, .putfield 257, .aload 0, .sipush 0, .putfield 258, .aload 0, .sipush 0, .putfield 259, .aload 0, .sipush 0, .putfield 260, .aload 0, .sipush 0, .putfield 261, .aload 0, .sipush 0, .putfield 262, .return_] := rfl
theorem kb_54_0 : ex_blk 54 0 = [.aload 0, .getfield 261, .tableswitch 60 0 3 #[36, 42, 48, 54]] := rfl
theorem kb_54_36 : ex_blk 54 36 = [.aload 0, .iload 1, .invokevirtual 441, .areturn] := rfl
theorem kb_54_42 : ex_blk 54 42 = [.aload 0, .iload 1, .invokevirtual 449, .areturn] := rfl
theorem kb_54_48 : ex_blk 54 48 = [.aload 0, .iload 1, .invokevirtual 457, .areturn] := rfl
theorem kb_54_54 : ex_blk 54 54 = [.aload 0, .iload 1, .invokevirtual 465, .areturn] := rfl
theorem kb_54_60 : ex_blk 54 60 = [.sipush 0, .areturn] := rfl
theorem kb_55_0 : ex_blk 55 0 = [.iload 1, .sipush 119, .if_icmp .eq 14, .iload 1, .sipush 101, .if_icmp .eq 14, .sipush 0, .areturn] := rfl
theorem kb_55_14 : ex_blk 55 14 = [.aload 0, .iload 1, .sipush 119, .if_icmp .ne 25, .sipush 0, .goto 26] := rfl
theorem kb_55_25 : ex_blk 55 25 = [.sipush 1, .jsr 26] := rfl
theorem kb_55_26 : ex_blk 55 26 = [.putfield 256, .aload 0, .sipush 1, .putfield 261, .sipush 1, .areturn] := rfl
theorem kb_56_0 : ex_blk 56 0 = [.iload 1, .sipush 97, .if_icmp .lt 12, .iload 1, .sipush 102, .if_icmp .le 14, .jsr 12] := rfl
theorem kb_56_12 : ex_blk 56 12 = [.sipush 0, .areturn] := rfl
theorem kb_56_14 : ex_blk 56 14 = [.aload 0, .iload 1, .sipush 97, .isub, .putfield 257, .aload 0, .sipush 2, .putfield 261, .sipush 1, .areturn] := rfl
theorem kb_57_0 : ex_blk 57 0 = [.iload 1, .sipush 45, .if_icmp .ne 25, .aload 0, .getfield 262, .ifCond .le 25, .aload 0, .sipush 3, .putfield 261, .aload 0, .sipush 0, .putfield 262, .sipush 1, .areturn] := rfl
theorem kb_57_25 : ex_blk 57 25 = [.aload 0, .aload 0, .getfield 258, .iload 1, .invokevirtual 474, .istore 2, .iload 2, .sipush (-1), .if_icmp .ne 42, .sipush 0, .areturn] := rfl
theorem kb_57_42 : ex_blk 57 42 = [.aload 0, .iload 2, .putfield 258, .aload 0, .dup, .getfield 262, .sipush 1, .iadd, .putfield 262, .sipush 1, .areturn] := rfl
theorem kb_58_0 : ex_blk 58 0 = [.aload 0, .getfield 262, .ifCond .le 30, .iload 1, .invokestatic 481, .sipush (-1), .if_icmp .eq 30, .aload 0, .iload 1, .invokestatic 481, .putfield 260, .aload 0, .sipush 5, .putfield 261, .sipush 1, .areturn] := rfl
theorem kb_58_30 : ex_blk 58 30 = [.aload 0, .aload 0, .getfield 259, .iload 1, .invokevirtual 474, .istore 2, .iload 2, .sipush (-1), .if_icmp .ne 47, .sipush 0, .areturn] := rfl
theorem kb_58_47 : ex_blk 58 47 = [.aload 0, .iload 2, .putfield 259, .aload 0, .dup, .getfield 262, .sipush 1, .iadd, .putfield 262, .sipush 1, .areturn] := rfl
theorem kb_59_0 : ex_blk 59 0 = [.iload 2, .sipush 48, .if_icmp .lt 12, .iload 2, .sipush 57, .if_icmp .le 14, .jsr 12] := rfl
theorem kb_59_12 : ex_blk 59 12 = [.sipush (-1), .ireturn] := rfl
theorem kb_59_14 : ex_blk 59 14 = [.aload 0, .getfield 262, .ifCond .ne 26, .iload 2, .sipush 48, .isub, .ireturn] := rfl
theorem kb_59_26 : ex_blk 59 26 = [.sipush 10, .iload 1, .imul, .iload 2, .iadd, .sipush 48, .isub, .istore 3, .aload 0, .getfield 262, .sipush 1, .if_icmp .ne 58, .iload 1, .ifCond .eq 58, .iload 3, .sipush 24, .if_icmp .ge 58, .iload 3, .goto 59] := rfl
theorem kb_59_58 : ex_blk 59 58 = [.sipush (-1), .jsr 59] := rfl
theorem kb_59_59 : ex_blk 59 59 = [.ireturn] := rfl
theorem kb_60_0 : ex_blk 60 0 = [.iload 0, .tableswitch 64 102 111 #[60, 64, 56, 64, 64, 64, 64, 64, 58, 62]] := rfl
theorem kb_60_56 : ex_blk 60 56 = [.sipush 1, .ireturn] := rfl
theorem kb_60_58 : ex_blk 60 58 = [.sipush 2, .ireturn] := rfl
theorem kb_60_60 : ex_blk 60 60 = [.sipush 3, .ireturn] := rfl
theorem kb_60_62 : ex_blk 60 62 = [.sipush 4, .ireturn] := rfl
theorem kb_60_64 : ex_blk 60 64 = [.sipush (-1), .ireturn] := rfl
theorem kb_61_0 : ex_blk 61 0 = [.aload 0, .getfield 261, .sipush 5, .if_icmp .eq 23, .aload 0, .getfield 261, .sipush 3, .if_icmp .ne 27, .aload 0, .getfield 262, .ifCond .le 27, .jsr 23] := rfl
theorem kb_61_23 : ex_blk 61 23 = [.sipush 1, .goto 28] := rfl
theorem kb_61_27 : ex_blk 61 27 = [.sipush 0, .jsr 28] := rfl
theorem kb_61_28 : ex_blk 61 28 = [.areturn] := rfl
theorem kb_62_0 : ex_blk 62 0 = [.iload 1, .tableswitch 52 0 3 #[32, 37, 42, 47]] := rfl
theorem kb_62_32 : ex_blk 62 32 = [.aload 0, .getfield 256, .ireturn] := rfl
theorem kb_62_37 : ex_blk 62 37 = [.aload 0, .getfield 257, .ireturn] := rfl
theorem kb_62_42 : ex_blk 62 42 = [.aload 0, .getfield 258, .ireturn] := rfl
theorem kb_62_47 : ex_blk 62 47 = [.aload 0, .getfield 259, .ireturn] := rfl
theorem kb_62_52 : ex_blk 62 52 = [.aload 0, .getfield 260, .ireturn] := rfl
theorem kb_63_0 : ex_blk 63 0 = [.iload 1, .ifCond .eq 19, .iload 0, .iload 1, .if_icmp .eq 19, .iload 0, .sipush 3, .if_icmp .ne 23, .iload 1, .sipush 1, .if_icmp .ne 23, .jsr 19] := rfl
theorem kb_63_19 : ex_blk 63 19 = [.sipush 1, .goto 24] := rfl
theorem kb_63_23 : ex_blk 63 23 = [.sipush 0, .jsr 24] := rfl
theorem kb_63_24 : ex_blk 63 24 = [.areturn] := rfl
theorem kb_64_0 : ex_blk 64 0 = [.aload 0, .getfield 320, .invokevirtual 720, .ireturn] := rfl
theorem kb_65_0 : ex_blk 65 0 = [.aload 0, .getfield 320, .invokevirtual 728, .areturn] := rfl
theorem kb_66_0 : ex_blk 66 0 = [.aload 0, .getfield 320, .aload 1, .sipush 0, .invokevirtual 497, .aload 1, .sipush 1, .invokevirtual 497, .aload 1, .sipush 2, .invokevirtual 497, .aload 1, .sipush 3, .invokevirtual 497, .aload 1, .sipush 4, .invokevirtual 497, .invokevirtual 741, .ireturn] := rfl
theorem kb_67_0 : ex_blk 67 0 = [.aload 0, .getfield 320, .iload 1, .iload 2, .invokevirtual 746, .ireturn] := rfl
theorem kb_68_0 : ex_blk 68 0 = [.sipush 0, .istore 7, .sipush 0, .istore 8, .jsr 6] := rfl
theorem kb_68_6 : ex_blk 68 6 = [.iload 8, .aload 0, .getfield 320, .invokevirtual 720, .if_icmp .ge 73, .aload 0, .getfield 320, .iload 8, .sipush 1, .invokevirtual 746, .iload 2, .if_icmp .ne 67, .aload 0, .iload 8, .iload 3, .invokevirtual 554, .ifCond .eq 67, .aload 0, .aload 1, .iload 8, .iload 4, .iload 5, .iload 6, .invokevirtual 565, .ifCond .eq 67, .iload 7, .sipush 1, .iload 8, .ishl, .ior, .istore 7, .jsr 67] := rfl
theorem kb_68_67 : ex_blk 68 67 = [.iinc 8 1, .goto 6] := rfl
theorem kb_68_73 : ex_blk 68 73 = [.iload 7, .ireturn] := rfl
theorem kb_69_0 : ex_blk 69 0 = [.aload 0, .getfield 320, .iload 1, .sipush 2, .invokevirtual 746, .istore 3, .aload 0, .getfield 320, .iload 1, .sipush 3, .invokevirtual 746, .istore 4, .iload 3, .iload 4, .if_icmp .ge 44, .iload 2, .iload 3, .if_icmp .lt 42, .iload 2, .iload 4, .if_icmp .ge 42, .sipush 1, .goto 43] := rfl
theorem kb_69_42 : ex_blk 69 42 = [.sipush 0, .jsr 43] := rfl
theorem kb_69_43 : ex_blk 69 43 = [.areturn] := rfl
theorem kb_69_44 : ex_blk 69 44 = [.iload 3, .iload 4, .if_icmp .eq 61, .iload 2, .iload 3, .if_icmp .ge 61, .iload 2, .iload 4, .if_icmp .ge 65, .jsr 61] := rfl
theorem kb_69_61 : ex_blk 69 61 = [.sipush 1, .goto 66] := rfl
theorem kb_69_65 : ex_blk 69 65 = [.sipush 0, .jsr 66] := rfl
theorem kb_69_66 : ex_blk 69 66 = [.areturn] := rfl
theorem kb_70_0 : ex_blk 70 0 = [.aload 0, .getfield 320, .iload 2, .sipush 0, .invokevirtual 746, .istore 6, .iload 4, .sipush 2, .ishr, .istore 7, .aload 0, .getfield 320, .iload 2, .sipush 4, .invokevirtual 746, .tableswitch 180 1 4 #[56, 75, 100, 157]] := rfl
theorem kb_70_56 : ex_blk 70 56 = [.aload 1, .iload 7, .iload 5, .invokevirtual 202, .iload 6, .if_icmp .ne 73, .sipush 1, .goto 74] := rfl
theorem kb_70_73 : ex_blk 70 73 = [.sipush 0, .jsr 74] := rfl
theorem kb_70_74 : ex_blk 70 74 = [.areturn] := rfl
theorem kb_70_75 : ex_blk 70 75 = [.aload 1, .aload 1, .iload 3, .iload 4, .sipush 1, .invokevirtual 219, .iload 5, .invokevirtual 202, .iload 6, .if_icmp .ne 98, .sipush 1, .goto 99] := rfl
theorem kb_70_98 : ex_blk 70 98 = [.sipush 0, .jsr 99] := rfl
theorem kb_70_99 : ex_blk 70 99 = [.areturn] := rfl
theorem kb_70_100 : ex_blk 70 100 = [.aload 1, .iload 7, .iload 5, .invokevirtual 202, .iload 6, .if_icmp .ne 155, .aload 1, .aload 1, .iload 3, .iload 4, .sipush 2, .invokevirtual 219, .iload 5, .invokevirtual 202, .iload 6, .if_icmp .ne 155, .aload 1, .aload 1, .iload 3, .iload 4, .sipush 3, .invokevirtual 219, .iload 5, .invokevirtual 202, .iload 6, .if_icmp .ne 155, .sipush 1, .goto 156] := rfl
theorem kb_70_155 : ex_blk 70 155 = [.sipush 0, .jsr 156] := rfl
theorem kb_70_156 : ex_blk 70 156 = [.areturn] := rfl
theorem kb_70_157 : ex_blk 70 157 = [.aload 1, .aload 1, .iload 7, .invokevirtual 233, .iload 5, .invokevirtual 202, .iload 6, .if_icmp .ne 178, .sipush 1, .goto 179] := rfl
theorem kb_70_178 : ex_blk 70 178 = [.sipush 0, .jsr 179] := rfl
theorem kb_70_179 : ex_blk 70 179 = [.areturn] := rfl
theorem kb_70_180 : ex_blk 70 180 = [.sipush 1, .areturn] := rfl
theorem kb_71_0 : ex_blk 71 0 = [.aload 0, .sipush 3, .aload 2, .getfield 0, .invokevirtual 720, .invokedynamic 1, .putfield 388, .aload 0, .sipush 0, .putfield 389, .sipush 0, .istore 3, .jsr 22] := rfl
theorem kb_71_22 : ex_blk 71 22 = [.iload 3, .aload 0, .getfield 388, .if_icmp .ge 80, .aload 0, .getfield 384, .iload 3, .aload 2, .iload 3, .invokevirtual 25, .iastore, .aload 0, .getfield 385, .iload 3, .aload 2, .iload 3, .invokevirtual 49, .iastore, .aload 0, .getfield 386, .iload 3, .aload 1, .aload 0, .getfield 384, .iload 3, .iaload, .aload 0, .getfield 385, .iload 3, .iaload, .invokevirtual 242, .iastore, .iinc 3 1, .goto 22] := rfl
theorem kb_71_80 : ex_blk 71 80 = [.return_] := rfl
theorem kb_72_0 : ex_blk 72 0 = [.iload 1, .sipush 5, .invokestatic 1042, .ifCond .eq 17, .aload 0, .getfield 387, .iload 1, .iaload, .goto 18] := rfl
theorem kb_72_17 : ex_blk 72 17 = [.sipush (-1), .jsr 18] := rfl
theorem kb_72_18 : ex_blk 72 18 = [.ireturn] := rfl
theorem kb_73_0 : ex_blk 73 0 = [.aload 0, .aload 1, .aload 0, .sipush (-1), .sipush (-1), .invokevirtual 642, .invokevirtual 650, .istore 2, .aload 0, .iload 2, .ifCond .eq 21, .sipush 0, .goto 22] := rfl
theorem kb_73_21 : ex_blk 73 21 = [.sipush (-1), .jsr 22] := rfl
theorem kb_73_22 : ex_blk 73 22 = [.sipush (-1), .sipush (-1), .invokevirtual 595, .iload 2, .areturn] := rfl
theorem kb_74_0 : ex_blk 74 0 = [.aload 0, .getfield 387, .sipush 0, .iload 1, .iastore, .aload 0, .getfield 387, .sipush 1, .iload 2, .iastore, .aload 0, .getfield 387, .sipush 2, .aload 0, .iload 2, .invokevirtual 601, .iastore, .aload 0, .getfield 387, .sipush 3, .iload 3, .iastore, .aload 0, .getfield 387, .sipush 4, .aload 0, .iload 3, .invokevirtual 601, .iastore, .return_] := rfl
theorem kb_75_0 : ex_blk 75 0 = [.iload 1, .sipush 3, .invokestatic 1042, .ifCond .eq 17, .aload 0, .getfield 385, .iload 1, .iaload, .goto 18] := rfl
theorem kb_75_17 : ex_blk 75 17 = [.sipush (-1), .jsr 18] := rfl
theorem kb_75_18 : ex_blk 75 18 = [.ireturn] := rfl
theorem kb_76_0 : ex_blk 76 0 = [.sipush 0, .istore 3, .jsr 2] := rfl
theorem kb_76_2 : ex_blk 76 2 = [.iload 3, .aload 0, .getfield 388, .if_icmp .ge 35, .aload 0, .iload 3, .aload 1, .aload 2, .invokevirtual 619, .ifCond .eq 29, .aload 0, .sipush 1, .iload 3, .sipush (-1), .invokevirtual 595, .sipush 1, .areturn] := rfl
theorem kb_76_29 : ex_blk 76 29 = [.iinc 3 1, .goto 2] := rfl
theorem kb_76_35 : ex_blk 76 35 = [.sipush 0, .areturn] := rfl
theorem kb_77_0 : ex_blk 77 0 = [.iload 1, .sipush 3, .invokestatic 1042, .ifCond .ne 10, .sipush 0, .areturn] := rfl
theorem kb_77_10 : ex_blk 77 10 = [.aload 0, .getfield 385, .iload 1, .iaload, .istore 4, .aload 0, .getfield 386, .iload 1, .iaload, .istore 5, .aload 0, .iload 1, .sipush (-1), .invokevirtual 642, .istore 6, .sipush 0, .istore 7, .jsr 37] := rfl
theorem kb_77_37 : ex_blk 77 37 = [.iload 7, .sipush 96, .if_icmp .ge 115, .aload 2, .aload 0, .getfield 384, .iload 1, .iaload, .iload 7, .invokevirtual 242, .istore 8, .iload 7, .iload 4, .if_icmp .eq 109, .iload 8, .ifCond .eq 109, .iload 8, .iload 6, .iand, .ifCond .ne 109, .aload 0, .getfield 385, .iload 1, .iload 7, .iastore, .aload 0, .getfield 386, .iload 1, .iload 8, .iastore, .aload 0, .aload 3, .iload 6, .iload 8, .ior, .invokevirtual 650, .ifCond .eq 109, .sipush 1, .areturn] := rfl
theorem kb_77_109 : ex_blk 77 109 = [.iinc 7 1, .goto 37] := rfl
theorem kb_77_115 : ex_blk 77 115 = [.aload 0, .getfield 385, .iload 1, .iload 4, .iastore, .aload 0, .getfield 386, .iload 1, .iload 5, .iastore, .sipush 0, .areturn] := rfl
theorem kb_78_0 : ex_blk 78 0 = [.sipush 0, .istore 3, .jsr 2] := rfl
theorem kb_78_2 : ex_blk 78 2 = [.iload 3, .sipush 1, .iadd, .aload 0, .getfield 388, .if_icmp .ge 124, .iload 3, .sipush 3, .if_icmp .ge 124, .aload 0, .getfield 385, .iload 3, .iaload, .istore 4, .aload 0, .getfield 386, .iload 3, .iaload, .istore 5, .sipush 0, .istore 6, .jsr 36] := rfl
theorem kb_78_36 : ex_blk 78 36 = [.iload 6, .sipush 96, .if_icmp .ge 102, .aload 1, .aload 0, .getfield 384, .iload 3, .iaload, .iload 6, .invokevirtual 242, .istore 7, .iload 6, .iload 4, .if_icmp .eq 96, .iload 7, .ifCond .eq 96, .aload 0, .getfield 385, .iload 3, .iload 6, .iastore, .aload 0, .getfield 386, .iload 3, .iload 7, .iastore, .aload 0, .iload 3, .aload 1, .aload 2, .invokevirtual 635, .ifCond .eq 96, .return_] := rfl
theorem kb_78_96 : ex_blk 78 96 = [.iinc 6 1, .goto 36] := rfl
theorem kb_78_102 : ex_blk 78 102 = [.aload 0, .getfield 385, .iload 3, .iload 4, .iastore, .aload 0, .getfield 386, .iload 3, .iload 5, .iastore, .iinc 3 1, .goto 2] := rfl
theorem kb_78_124 : ex_blk 78 124 = [.return_] := rfl
theorem kb_79_0 : ex_blk 79 0 = [.iload 1, .sipush 3, .invokestatic 1042, .ifCond .eq 17, .aload 0, .getfield 386, .iload 1, .iaload, .goto 18] := rfl
theorem kb_79_17 : ex_blk 79 17 = [.sipush 0, .jsr 18] := rfl
theorem kb_79_18 : ex_blk 79 18 = [.istore 4, .iload 1, .sipush 1, .iadd, .istore 5, .jsr 25] := rfl
theorem kb_79_25 : ex_blk 79 25 = [.iload 5, .aload 0, .getfield 388, .if_icmp .ge 74, .iload 4, .aload 0, .iload 1, .iload 5, .invokevirtual 642, .iand, .ifCond .ne 68, .aload 0, .iload 5, .aload 2, .aload 3, .invokevirtual 619, .ifCond .eq 68, .aload 0, .sipush 2, .iload 1, .iload 5, .invokevirtual 595, .sipush 1, .areturn] := rfl
theorem kb_79_68 : ex_blk 79 68 = [.iinc 5 1, .goto 25] := rfl
theorem kb_79_74 : ex_blk 79 74 = [.sipush 0, .areturn] := rfl
theorem kb_80_0 : ex_blk 80 0 = [.sipush 0, .istore 3, .sipush 0, .istore 4, .jsr 5] := rfl
theorem kb_80_5 : ex_blk 80 5 = [.iload 4, .aload 0, .getfield 388, .if_icmp .ge 48, .iload 4, .sipush 3, .if_icmp .ge 48, .iload 4, .iload 1, .if_icmp .eq 42, .iload 4, .iload 2, .if_icmp .eq 42, .iload 3, .aload 0, .getfield 386, .iload 4, .iaload, .ior, .istore 3, .jsr 42] := rfl
theorem kb_80_42 : ex_blk 80 42 = [.iinc 4 1, .goto 5] := rfl
theorem kb_80_48 : ex_blk 80 48 = [.iload 3, .ireturn] := rfl
theorem kb_81_0 : ex_blk 81 0 = [.aload 0, .getfield 389, .aload 1, .invokevirtual 368, .if_icmp .ge 26, .aload 0, .aload 1, .aload 0, .getfield 389, .iload 2, .invokevirtual 667, .ifCond .ne 26, .sipush 0, .areturn] := rfl
theorem kb_81_26 : ex_blk 81 26 = [.sipush 0, .istore 3, .jsr 28] := rfl
theorem kb_81_28 : ex_blk 81 28 = [.iload 3, .aload 1, .invokevirtual 368, .if_icmp .ge 59, .aload 0, .aload 1, .iload 3, .iload 2, .invokevirtual 667, .ifCond .ne 53, .aload 0, .iload 3, .putfield 389, .sipush 0, .areturn] := rfl
theorem kb_81_53 : ex_blk 81 53 = [.iinc 3 1, .goto 28] := rfl
theorem kb_81_59 : ex_blk 81 59 = [.sipush 1, .areturn] := rfl
theorem kb_82_0 : ex_blk 82 0 = [.aload 0, .aload 1, .iload 2, .aload 0, .sipush (-1), .sipush (-1), .invokevirtual 642, .invokevirtual 667, .areturn] := rfl
theorem kb_83_0 : ex_blk 83 0 = [.aload 1, .iload 2, .invokevirtual 385, .ifCond .ne 15, .aload 1, .iload 2, .iload 3, .invokevirtual 402, .areturn] := rfl
theorem kb_83_15 : ex_blk 83 15 = [.sipush 0, .istore 4, .jsr 18] := rfl
theorem kb_83_18 : ex_blk 83 18 = [.iload 4, .aload 0, .getfield 388, .if_icmp .ge 64, .iload 4, .sipush 3, .if_icmp .ge 64, .aload 1, .iload 2, .aload 0, .getfield 384, .iload 4, .iaload, .aload 0, .getfield 385, .iload 4, .iaload, .iload 3, .invokevirtual 396, .ifCond .eq 58, .sipush 1, .areturn] := rfl
theorem kb_83_58 : ex_blk 83 58 = [.iinc 4 1, .goto 18] := rfl
theorem kb_83_64 : ex_blk 83 64 = [.sipush 0, .areturn] := rfl
theorem kb_84_0 : ex_blk 84 0 = [.sipush 0, .istore 2, .sipush 0, .istore 3, .sipush 0, .istore 4, .jsr 7] := rfl
theorem kb_84_7 : ex_blk 84 7 = [.iload 4, .sipush 8, .if_icmp .ge 59, .lload 0, .iload 4, .invokestatic 682, .istore 5, .iload 5, .sipush 126, .if_icmp .gt 38, .iload 3, .ifCond .eq 40, .iload 5, .ifCond .eq 40, .jsr 38] := rfl
theorem kb_84_38 : ex_blk 84 38 = [.sipush (-1), .ireturn] := rfl
theorem kb_84_40 : ex_blk 84 40 = [.iload 5, .ifCond .ne 50, .sipush 1, .istore 3, .goto 53] := rfl
theorem kb_84_50 : ex_blk 84 50 = [.iinc 2 1, .jsr 53] := rfl
theorem kb_84_53 : ex_blk 84 53 = [.iinc 4 1, .goto 7] := rfl
theorem kb_84_59 : ex_blk 84 59 = [.iload 2, .ireturn] := rfl
theorem kb_85_0 : ex_blk 85 0 = [.lload 0, .sipush 8, .iload 2, .imul, .lushr, .l2i, .sipush 255, .iand, .ireturn] := rfl
theorem kb_86_0 : ex_blk 86 0 = [.sipush 0, .istore 4, .jsr 3] := rfl
theorem kb_86_3 : ex_blk 86 3 = [.iload 4, .iload 3, .if_icmp .ge 49, .aload 0, .getfield 449, .sipush 40, .if_icmp .ge 49, .aload 0, .getfield 448, .aload 0, .getfield 449, .lload 1, .iload 4, .invokestatic 682, .iastore, .aload 0, .dup, .getfield 449, .sipush 1, .iadd, .putfield 449, .iinc 4 1, .goto 3] := rfl
theorem kb_86_49 : ex_blk 86 49 = [.return_] := rfl
theorem kb_87_0 : ex_blk 87 0 = [.aload 0, .getfield 449, .ireturn] := rfl
theorem kb_88_0 : ex_blk 88 0 = [.iload 1, .aload 0, .getfield 449, .invokestatic 1042, .ifCond .eq 20, .aload 0, .getfield 448, .iload 1, .iaload, .goto 21] := rfl
theorem kb_88_20 : ex_blk 88 20 = [.sipush 0, .jsr 21] := rfl
theorem kb_88_21 : ex_blk 88 21 = [.ireturn] := rfl
theorem kb_89_0 : ex_blk 89 0 = [.aload 0, .sipush 0, .putfield 449, .return_] := rfl
theorem kb_90_0 : ex_blk 90 0 = [.aload 0, .getfield 514, .ireturn] := rfl
theorem kb_91_0 : ex_blk 91 0 = [.aload 0, .getfield 514, .aload 0, .getfield 513, .if_icmp .ge 24, .aload 0, .getfield 514, .sipush 1, .iadd, .sipush 5, .imul, .sipush 60, .if_icmp .le 28, .jsr 24] := rfl
theorem kb_91_24 : ex_blk 91 24 = [.sipush 1, .goto 29] := rfl
theorem kb_91_28 : ex_blk 91 28 = [.sipush 0, .jsr 29] := rfl
theorem kb_91_29 : ex_blk 91 29 = [.areturn] := rfl
theorem kb_92_0 : ex_blk 92 0 = [.aload 0, .invokevirtual 728, .ifCond .eq 9, .sipush (-1), .ireturn] := rfl
theorem kb_92_9 : ex_blk 92 9 = [.aload 0, .getfield 514, .istore 6, .aload 0, .dup, .getfield 514, .sipush 1, .iadd, .putfield 514, .aload 0, .iload 6, .sipush 0, .iload 1, .invokevirtual 755, .aload 0, .iload 6, .sipush 1, .iload 2, .invokevirtual 755, .aload 0, .iload 6, .sipush 2, .iload 3, .invokevirtual 755, .aload 0, .iload 6, .sipush 3, .iload 4, .invokevirtual 755, .aload 0, .iload 6, .sipush 4, .iload 5, .invokevirtual 755, .iload 6, .ireturn] := rfl
theorem kb_93_0 : ex_blk 93 0 = [.iload 1, .sipush 5, .imul, .iload 2, .iadd, .istore 3, .iload 1, .aload 0, .getfield 514, .invokestatic 1042, .ifCond .eq 35, .iload 3, .sipush 60, .invokestatic 1042, .ifCond .eq 35, .aload 0, .getfield 512, .iload 3, .iaload, .goto 36] := rfl
theorem kb_93_35 : ex_blk 93 35 = [.sipush (-1), .jsr 36] := rfl
theorem kb_93_36 : ex_blk 93 36 = [.ireturn] := rfl
theorem kb_94_0 : ex_blk 94 0 = [.iload 1, .sipush 5, .imul, .iload 2, .iadd, .istore 4, .iload 1, .aload 0, .getfield 514, .invokestatic 1042, .ifCond .eq 36, .iload 4, .sipush 60, .invokestatic 1042, .ifCond .eq 36, .aload 0, .getfield 512, .iload 4, .iload 3, .iastore, .jsr 36] := rfl
theorem kb_94_36 : ex_blk 94 36 = [.return_] := rfl
theorem kb_95_0 : ex_blk 95 0 = [.aload 0, .sipush 0, .putfield 514, .return_] := rfl
theorem kb_96_0 : ex_blk 96 0 = [.aload 1, .getfield 512, .sipush 0, .aload 0, .getfield 512, .sipush 0, .sipush 60, .invokedynamic 2, .aload 0, .aload 1, .getfield 514, .putfield 514, .return_] := rfl
theorem kb_97_0 : ex_blk 97 0 = [.aload 0, .invokeinterface 1 0, .sipush 0, .istore 2, .jsr 6] := rfl
theorem kb_97_6 : ex_blk 97 6 = [.iload 2, .aload 1, .invokevirtual 696, .if_icmp .ge 34, .aload 0, .aload 1, .iload 2, .invokevirtual 705, .invokeinterface 2 1, .ifCond .ne 28, .iload 2, .ireturn] := rfl
theorem kb_97_28 : ex_blk 97 28 = [.iinc 2 1, .goto 6] := rfl
theorem kb_97_34 : ex_blk 97 34 = [.aload 1, .invokevirtual 696, .ireturn] := rfl
theorem kb_98_0 : ex_blk 98 0 = [.aload 0, .aload 1, .invokeinterface 5 1, .aload 1, .invokevirtual 696, .if_icmp .ne 23, .aload 0, .invokeinterface 6 0, .ifCond .eq 23, .sipush 1, .goto 24] := rfl
theorem kb_98_23 : ex_blk 98 23 = [.sipush 0, .jsr 24] := rfl
theorem kb_98_24 : ex_blk 98 24 = [.areturn] := rfl
theorem kb_99_0 : ex_blk 99 0 = [.lload 1, .invokestatic 673, .istore 3, .iload 3, .ifCond .ge 12, .sipush (-102), .ireturn] := rfl
theorem kb_99_12 : ex_blk 99 12 = [.aload 0, .getfield 640, .invokevirtual 696, .iload 3, .iadd, .sipush 40, .if_icmp .le 29, .sipush (-104), .ireturn] := rfl
theorem kb_99_29 : ex_blk 99 29 = [.aload 0, .getfield 640, .lload 1, .iload 3, .invokevirtual 690, .aload 0, .getfield 640, .invokevirtual 696, .ireturn] := rfl
theorem kb_100_0 : ex_blk 100 0 = [.aload 0, .getfield 640, .invokevirtual 696, .istore 1, .aload 0, .getfield 640, .invokevirtual 712, .iload 1, .ireturn] := rfl
theorem kb_101_0 : ex_blk 101 0 = [.iload 1, .sipush 2, .invokestatic 1042, .ifCond .ne 11, .sipush (-102), .ireturn] := rfl
theorem kb_101_11 : ex_blk 101 11 = [.iload 1, .ifCond .ne 29, .aload 0, .getfield 641, .aload 0, .getfield 640, .invokeinterface 0 1, .goto 40] := rfl
theorem kb_101_29 : ex_blk 101 29 = [.aload 0, .getfield 642, .aload 0, .getfield 640, .invokeinterface 3 1, .jsr 40] := rfl
theorem kb_101_40 : ex_blk 101 40 = [.ireturn] := rfl
theorem kb_102_0 : ex_blk 102 0 = [.aload 0, .getfield 641, .aload 0, .getfield 640, .invokeinterface 4 1, .ifCond .ne 17, .sipush (-103), .ireturn] := rfl
theorem kb_102_17 : ex_blk 102 17 = [.aload 0, .getfield 643, .aload 0, .getfield 640, .invokevirtual 89, .aload 0, .getfield 640, .invokevirtual 712, .aload 0, .getfield 645, .invokevirtual 0, .aload 0, .sipush 0, .putfield 649, .aload 0, .dup, .getfield 650, .sipush 1, .iadd, .putfield 650, .aload 0, .getfield 643, .invokevirtual 160, .ireturn] := rfl
theorem kb_103_0 : ex_blk 103 0 = [.aload 0, .getfield 642, .aload 0, .getfield 640, .invokeinterface 7 1, .ifCond .ne 17, .sipush (-103), .ireturn] := rfl
theorem kb_103_17 : ex_blk 103 17 = [.aload 0, .getfield 644, .invokevirtual 520, .ifCond .eq 30, .sipush (-104), .ireturn] := rfl
theorem kb_103_30 : ex_blk 103 30 = [.aload 0, .getfield 640, .invokevirtual 712, .aload 0, .getfield 644, .aload 0, .getfield 642, .invokevirtual 529, .ireturn] := rfl
theorem kb_104_0 : ex_blk 104 0 = [.iload 1, .aload 0, .getfield 644, .invokevirtual 512, .invokestatic 1042, .ifCond .ne 17, .sipush (-101), .ireturn] := rfl
theorem kb_104_17 : ex_blk 104 17 = [.iload 2, .sipush 5, .invokestatic 1042, .ifCond .eq 37, .aload 0, .getfield 644, .iload 1, .iload 2, .invokevirtual 538, .goto 39] := rfl
theorem kb_104_37 : ex_blk 104 37 = [.sipush (-102), .jsr 39] := rfl
theorem kb_104_39 : ex_blk 104 39 = [.ireturn] := rfl
theorem kb_105_0 : ex_blk 105 0 = [.iload 1, .aload 0, .getfield 644, .invokevirtual 512, .invokestatic 1042, .ifCond .ne 17, .sipush (-101), .ireturn] := rfl
theorem kb_105_17 : ex_blk 105 17 = [.iload 2, .sipush 5, .invokestatic 1042, .ifCond .ne 28, .sipush (-102), .ireturn] := rfl
theorem kb_105_28 : ex_blk 105 28 = [.aload 0, .getfield 644, .iload 1, .sipush 4, .invokevirtual 538, .iload 2, .invokestatic 506, .ifCond .eq 48, .iload 1, .goto 49] := rfl
theorem kb_105_48 : ex_blk 105 48 = [.sipush (-1), .jsr 49] := rfl
theorem kb_105_49 : ex_blk 105 49 = [.ireturn] := rfl
theorem kb_106_0 : ex_blk 106 0 = [.aload 0, .getfield 643, .iload 1, .invokevirtual 169, .ifCond .ne 14, .sipush (-101), .ireturn] := rfl
theorem kb_106_14 : ex_blk 106 14 = [.iload 2, .sipush 4, .invokestatic 1042, .ifCond .eq 31, .aload 0, .iload 1, .iload 2, .invokevirtual 1082, .goto 33] := rfl
theorem kb_106_31 : ex_blk 106 31 = [.sipush (-102), .jsr 33] := rfl
theorem kb_106_33 : ex_blk 106 33 = [.ireturn] := rfl
theorem kb_107_0 : ex_blk 107 0 = [.aload 0, .getfield 643, .iload 2, .invokevirtual 185, .ifCond .ne 14, .sipush (-101), .ireturn] := rfl
theorem kb_107_14 : ex_blk 107 14 = [.iload 1, .sipush 3, .invokestatic 1042, .ifCond .eq 39, .iload 3, .sipush 4, .invokestatic 1042, .ifCond .eq 39, .iload 4, .sipush 4, .invokestatic 1042, .ifCond .ne 42, .jsr 39] := rfl
theorem kb_107_39 : ex_blk 107 39 = [.sipush (-102), .ireturn] := rfl
theorem kb_107_42 : ex_blk 107 42 = [.aload 0, .getfield 643, .iload 1, .sipush 4, .iload 2, .imul, .iload 3, .iadd, .iload 4, .invokevirtual 219, .ireturn] := rfl
theorem kb_108_0 : ex_blk 108 0 = [.aload 0, .getfield 643, .iload 4, .invokevirtual 185, .ifCond .ne 15, .sipush (-101), .ireturn] := rfl
theorem kb_108_15 : ex_blk 108 15 = [.iload 1, .iload 2, .iload 3, .invokestatic 1051, .ifCond .eq 33, .iload 5, .sipush 4, .invokestatic 1042, .ifCond .ne 36, .jsr 33] := rfl
theorem kb_108_33 : ex_blk 108 33 = [.sipush (-102), .ireturn] := rfl
theorem kb_108_36 : ex_blk 108 36 = [.aload 0, .getfield 644, .aload 0, .getfield 643, .iload 1, .iload 2, .iload 3, .sipush 4, .iload 4, .imul, .iload 5, .iadd, .sipush 0, .invokevirtual 550, .ireturn] := rfl
theorem kb_109_0 : ex_blk 109 0 = [.aload 0, .getfield 643, .iload 4, .invokevirtual 185, .ifCond .ne 15, .sipush (-101), .ireturn] := rfl
theorem kb_109_15 : ex_blk 109 15 = [.iload 2, .iload 1, .iload 3, .invokestatic 1051, .ifCond .eq 33, .iload 5, .sipush 4, .invokestatic 1042, .ifCond .ne 36, .jsr 33] := rfl
theorem kb_109_33 : ex_blk 109 33 = [.sipush (-102), .ireturn] := rfl
theorem kb_109_36 : ex_blk 109 36 = [.aload 0, .getfield 645, .getfield 1, .invokevirtual 728, .ifCond .eq 52, .sipush (-104), .ireturn] := rfl
theorem kb_109_52 : ex_blk 109 52 = [.aload 0, .getfield 645, .getfield 1, .iload 1, .iload 2, .iload 3, .iload 4, .iload 5, .invokevirtual 741, .ireturn] := rfl
theorem kb_110_0 : ex_blk 110 0 = [.iload 1, .sipush 2, .invokestatic 1042, .ifCond .ne 11, .sipush (-102), .ireturn] := rfl
theorem kb_110_11 : ex_blk 110 11 = [.aload 0, .invokevirtual 1112, .istore 2, .iload 2, .sipush (-1), .if_icmp .eq 25, .iload 1, .ifCond .ne 27, .jsr 25] := rfl
theorem kb_110_25 : ex_blk 110 25 = [.iload 2, .ireturn] := rfl
theorem kb_110_27 : ex_blk 110 27 = [.aload 0, .iload 2, .sipush 0, .invokevirtual 1106, .invokestatic 1057, .ireturn] := rfl
theorem kb_111_0 : ex_blk 111 0 = [.aload 0, .getfield 643, .invokevirtual 152, .ifCond .ne 13, .sipush (-103), .ireturn] := rfl
theorem kb_111_13 : ex_blk 111 13 = [.iload 1, .iload 2, .iload 3, .invokestatic 1051, .ifCond .eq 31, .iload 4, .sipush 3, .invokestatic 1042, .ifCond .ne 34, .jsr 31] := rfl
theorem kb_111_31 : ex_blk 111 31 = [.sipush (-102), .ireturn] := rfl
theorem kb_111_34 : ex_blk 111 34 = [.sipush 0, .istore 5, .sipush 0, .istore 6, .jsr 40] := rfl
theorem kb_111_40 : ex_blk 111 40 = [.iload 6, .aload 0, .getfield 643, .invokevirtual 160, .if_icmp .ge 87, .aload 0, .getfield 643, .iload 6, .invokevirtual 185, .ifCond .eq 81, .aload 0, .iload 1, .iload 2, .iload 3, .iload 6, .invokevirtual 1124, .iload 4, .if_icmp .ne 81, .iinc 5 1, .jsr 81] := rfl
theorem kb_111_81 : ex_blk 111 81 = [.iinc 6 1, .goto 40] := rfl
theorem kb_111_87 : ex_blk 111 87 = [.iload 5, .ireturn] := rfl
theorem kb_112_0 : ex_blk 112 0 = [.iload 1, .sipush 4, .invokestatic 1042, .ifCond .ne 11, .sipush (-102), .ireturn] := rfl
theorem kb_112_11 : ex_blk 112 11 = [.aload 0, .getfield 643, .iload 2, .invokevirtual 193, .ifCond .ne 25, .sipush (-101), .ireturn] := rfl
theorem kb_112_25 : ex_blk 112 25 = [.iload 3, .iload 1, .invokestatic 1065, .invokestatic 1042, .ifCond .ne 39, .sipush (-102), .ireturn] := rfl
theorem kb_112_39 : ex_blk 112 39 = [.aload 0, .iload 1, .sipush 4, .iload 2, .imul, .iload 3, .iadd, .sipush (-1), .invokevirtual 1099, .ifCond .ne 56, .sipush (-103), .ireturn] := rfl
theorem kb_112_56 : ex_blk 112 56 = [.aload 0, .getfield 645, .getfield 0, .invokevirtual 728, .ifCond .eq 72, .sipush (-104), .ireturn] := rfl
theorem kb_112_72 : ex_blk 112 72 = [.aload 0, .getfield 645, .getfield 0, .iload 1, .iload 2, .iload 3, .sipush 0, .sipush 0, .invokevirtual 741, .ireturn] := rfl
theorem kb_113_0 : ex_blk 113 0 = [.iload 1, .aload 0, .getfield 645, .getfield 0, .invokevirtual 720, .invokestatic 1042, .ifCond .ne 20, .sipush (-101), .ireturn] := rfl
theorem kb_113_20 : ex_blk 113 20 = [.iload 2, .sipush 4, .invokestatic 1042, .ifCond .ne 31, .sipush (-102), .ireturn] := rfl
theorem kb_113_31 : ex_blk 113 31 = [.aload 0, .getfield 645, .iload 1, .invokevirtual 25, .iload 2, .invokestatic 18, .ifCond .eq 50, .iload 1, .goto 51] := rfl
theorem kb_113_50 : ex_blk 113 50 = [.sipush (-1), .jsr 51] := rfl
theorem kb_113_51 : ex_blk 113 51 = [.ireturn] := rfl
theorem kb_114_0 : ex_blk 114 0 = [.iload 1, .aload 0, .getfield 645, .getfield 0, .invokevirtual 720, .invokestatic 1042, .ifCond .ne 20, .sipush (-101), .ireturn] := rfl
theorem kb_114_20 : ex_blk 114 20 = [.iload 2, .sipush 4, .invokestatic 1042, .ifCond .eq 37, .aload 0, .iload 1, .iload 2, .invokevirtual 1090, .goto 39] := rfl
theorem kb_114_37 : ex_blk 114 37 = [.sipush (-102), .jsr 39] := rfl
theorem kb_114_39 : ex_blk 114 39 = [.ireturn] := rfl
theorem kb_115_0 : ex_blk 115 0 = [.iload 1, .aload 0, .getfield 645, .getfield 0, .invokevirtual 720, .invokestatic 1042, .ifCond .eq 28, .aload 0, .getfield 643, .iload 2, .invokevirtual 193, .ifCond .ne 31, .jsr 28] := rfl
theorem kb_115_28 : ex_blk 115 28 = [.sipush (-101), .ireturn] := rfl
theorem kb_115_31 : ex_blk 115 31 = [.iload 3, .aload 0, .getfield 645, .iload 1, .invokevirtual 25, .invokestatic 1065, .invokestatic 1042, .ifCond .ne 52, .sipush (-102), .ireturn] := rfl
theorem kb_115_52 : ex_blk 115 52 = [.aload 0, .aload 0, .getfield 645, .iload 1, .invokevirtual 25, .sipush 4, .iload 2, .imul, .iload 3, .iadd, .iload 1, .invokevirtual 1099, .ifCond .ne 76, .sipush (-103), .ireturn] := rfl
theorem kb_115_76 : ex_blk 115 76 = [.aload 0, .getfield 645, .iload 1, .invokevirtual 49, .istore 4, .aload 0, .getfield 645, .iload 1, .iload 2, .iload 3, .invokevirtual 59, .iload 4, .ireturn] := rfl
theorem kb_116_0 : ex_blk 116 0 = [.iload 1, .sipush 6, .invokestatic 1042, .ifCond .eq 18, .iload 2, .sipush 24, .invokestatic 1042, .ifCond .ne 21, .jsr 18] := rfl
theorem kb_116_18 : ex_blk 116 18 = [.sipush (-102), .ireturn] := rfl
theorem kb_116_21 : ex_blk 116 21 = [.aload 0, .getfield 645, .getfield 2, .invokevirtual 728, .ifCond .eq 37, .sipush (-104), .ireturn] := rfl
theorem kb_116_37 : ex_blk 116 37 = [.aload 0, .getfield 645, .getfield 2, .iload 1, .iload 2, .sipush 0, .sipush 0, .sipush 0, .invokevirtual 741, .ireturn] := rfl
theorem kb_117_0 : ex_blk 117 0 = [.aload 0, .getfield 647, .aload 0, .getfield 643, .aload 0, .getfield 644, .aload 0, .getfield 645, .invokevirtual 331, .aload 0, .getfield 648, .aload 0, .getfield 643, .aload 0, .getfield 645, .invokevirtual 570, .sipush 0, .istore 1, .sipush 0, .istore 2, .jsr 38] := rfl
theorem kb_117_38 : ex_blk 117 38 = [.iload 2, .aload 0, .getfield 645, .getfield 2, .invokevirtual 720, .if_icmp .ge 79, .aload 0, .getfield 648, .aload 0, .getfield 647, .iload 2, .invokevirtual 658, .ifCond .eq 73, .iload 1, .sipush 1, .iload 2, .ishl, .ior, .istore 1, .jsr 73] := rfl
theorem kb_117_73 : ex_blk 117 73 = [.iinc 2 1, .goto 38] := rfl
theorem kb_117_79 : ex_blk 117 79 = [.iload 1, .ireturn] := rfl
theorem kb_118_0 : ex_blk 118 0 = [.aload 0, .getfield 643, .invokevirtual 152, .ifCond .ne 13, .sipush (-103), .ireturn] := rfl
theorem kb_118_13 : ex_blk 118 13 = [.iload 1, .sipush 5, .invokestatic 1042, .ifCond .ne 24, .sipush (-102), .ireturn] := rfl
theorem kb_118_24 : ex_blk 118 24 = [.aload 0, .getfield 651, .sipush 12, .if_icmp .lt 36, .sipush (-103), .ireturn] := rfl
theorem kb_118_36 : ex_blk 118 36 = [.aload 0, .dup, .getfield 651, .sipush 1, .iadd, .putfield 651, .aload 0, .getfield 647, .aload 0, .getfield 643, .aload 0, .getfield 644, .aload 0, .getfield 645, .invokevirtual 331, .aload 0, .getfield 648, .aload 0, .getfield 643, .aload 0, .getfield 645, .invokevirtual 570, .aload 0, .getfield 648, .aload 0, .getfield 647, .invokevirtual 585, .ifCond .ne 137, .aload 0, .getfield 647, .invokevirtual 416, .ifCond .ne 137, .aload 0, .getfield 648, .aload 0, .getfield 643, .aload 0, .getfield 647, .invokevirtual 610, .ifCond .ne 137, .aload 0, .getfield 648, .aload 0, .getfield 643, .aload 0, .getfield 647, .invokevirtual 626, .jsr 137] := rfl
theorem kb_118_137 : ex_blk 118 137 = [.aload 0, .getfield 648, .iload 1, .invokevirtual 577, .ireturn] := rfl
theorem kb_119_0 : ex_blk 119 0 = [.aload 0, .getfield 643, .iload 1, .invokevirtual 185, .ifCond .eq 22, .aload 0, .getfield 643, .iload 2, .invokevirtual 185, .ifCond .ne 25, .jsr 22] := rfl
theorem kb_119_22 : ex_blk 119 22 = [.sipush (-101), .ireturn] := rfl
theorem kb_119_25 : ex_blk 119 25 = [.aload 0, .getfield 643, .iload 1, .iload 2, .sipush 0, .aload 0, .getfield 645, .aload 0, .getfield 643, .sipush (-1), .invokevirtual 74, .invokevirtual 252, .ireturn] := rfl
theorem kb_120_0 : ex_blk 120 0 = [.aload 0, .getfield 643, .iload 1, .invokevirtual 185, .ifCond .eq 22, .aload 0, .getfield 643, .iload 2, .invokevirtual 185, .ifCond .ne 25, .jsr 22] := rfl
theorem kb_120_22 : ex_blk 120 22 = [.sipush (-101), .ireturn] := rfl
theorem kb_120_25 : ex_blk 120 25 = [.iload 3, .sipush 10, .invokestatic 1042, .ifCond .ne 37, .sipush (-102), .ireturn] := rfl
theorem kb_120_37 : ex_blk 120 37 = [.aload 0, .getfield 643, .iload 1, .iload 2, .iload 3, .aload 0, .getfield 645, .aload 0, .getfield 643, .sipush (-1), .invokevirtual 74, .invokevirtual 252, .ireturn] := rfl
theorem kb_121_0 : ex_blk 121 0 = [.iload 1, .aload 0, .getfield 645, .getfield 0, .invokevirtual 720, .invokestatic 1042, .ifCond .ne 20, .sipush (-101), .ireturn] := rfl
theorem kb_121_20 : ex_blk 121 20 = [.iload 2, .sipush 4, .invokestatic 1042, .ifCond .ne 31, .sipush (-102), .ireturn] := rfl
theorem kb_121_31 : ex_blk 121 31 = [.aload 0, .getfield 643, .aload 0, .getfield 645, .iload 1, .invokevirtual 33, .sipush 0, .invokevirtual 202, .istore 3, .aload 0, .getfield 643, .aload 0, .getfield 645, .aload 0, .getfield 643, .iload 1, .invokevirtual 66, .sipush 0, .invokevirtual 202, .istore 4, .iload 2, .sipush 1, .if_icmp .ne 78, .iload 4, .ireturn] := rfl
theorem kb_121_78 : ex_blk 121 78 = [.iload 2, .sipush 2, .if_icmp .ne 107, .aload 0, .getfield 643, .aload 0, .getfield 643, .aload 0, .getfield 645, .iload 1, .invokevirtual 33, .invokevirtual 233, .sipush 0, .invokevirtual 202, .ireturn] := rfl
theorem kb_121_107 : ex_blk 121 107 = [.iload 2, .sipush 3, .if_icmp .ne 122, .iload 3, .iload 4, .if_icmp .eq 122, .sipush (-1), .goto 123] := rfl
theorem kb_121_122 : ex_blk 121 122 = [.iload 3, .jsr 123] := rfl
theorem kb_121_123 : ex_blk 121 123 = [.ireturn] := rfl
theorem kb_122_0 : ex_blk 122 0 = [.iload 1, .sipush 1000, .invokestatic 1042, .ifCond .eq 47, .iload 2, .sipush 100, .invokestatic 1042, .ifCond .eq 47, .iload 3, .sipush 11, .invokestatic 1042, .ifCond .eq 47, .iload 4, .sipush 100, .invokestatic 1042, .ifCond .eq 47, .iload 5, .sipush 2, .invokestatic 1042, .ifCond .ne 50, .jsr 47] := rfl
theorem kb_122_47 : ex_blk 122 47 = [.sipush (-102), .ireturn] := rfl
theorem kb_122_50 : ex_blk 122 50 = [.sipush 1, .istore 6, .sipush 1, .iload 1, .iload 2, .iload 3, .iload 4, .invokestatic 1077, .istore 7, .sipush 2, .istore 8, .jsr 67] := rfl
theorem kb_122_67 : ex_blk 122 67 = [.iload 8, .sipush 20, .if_icmp .gt 107, .iload 8, .iload 1, .iload 2, .iload 3, .iload 4, .invokestatic 1077, .istore 9, .iload 9, .iload 7, .if_icmp .ge 101, .iload 9, .istore 7, .iload 8, .istore 6, .jsr 101] := rfl
theorem kb_122_101 : ex_blk 122 101 = [.iinc 8 1, .goto 67] := rfl
theorem kb_122_107 : ex_blk 122 107 = [.iload 5, .ifCond .ne 117, .iload 6, .goto 119] := rfl
theorem kb_122_117 : ex_blk 122 117 = [.iload 7, .jsr 119] := rfl
theorem kb_122_119 : ex_blk 122 119 = [.ireturn] := rfl
theorem kb_123_0 : ex_blk 123 0 = [.aload 0, .getfield 643, .invokevirtual 152, .ifCond .ne 13, .sipush (-103), .ireturn] := rfl
theorem kb_123_13 : ex_blk 123 13 = [.iload 1, .sipush (-3), .if_icmp .lt 24, .iload 1, .sipush 3, .if_icmp .le 27, .jsr 24] := rfl
theorem kb_123_24 : ex_blk 123 24 = [.sipush (-102), .ireturn] := rfl
theorem kb_123_27 : ex_blk 123 27 = [.sipush 0, .istore 2, .sipush 0, .istore 3, .jsr 31] := rfl
theorem kb_123_31 : ex_blk 123 31 = [.iload 3, .aload 0, .getfield 645, .getfield 1, .invokevirtual 720, .if_icmp .ge 66, .aload 0, .iload 3, .iload 1, .invokevirtual 1106, .ifCond .eq 60, .iload 2, .sipush 1, .iload 3, .ishl, .ior, .istore 2, .jsr 60] := rfl
theorem kb_123_60 : ex_blk 123 60 = [.iinc 3 1, .goto 31] := rfl
theorem kb_123_66 : ex_blk 123 66 = [.iload 2, .ireturn] := rfl
theorem kb_124_0 : ex_blk 124 0 = [.aload 0, .getfield 643, .iload 1, .invokevirtual 169, .ifCond .ne 14, .sipush (-101), .ireturn] := rfl
theorem kb_124_14 : ex_blk 124 14 = [.iload 2, .sipush 2, .invokestatic 1042, .ifCond .ne 25, .sipush (-102), .ireturn] := rfl
theorem kb_124_25 : ex_blk 124 25 = [.aload 0, .getfield 645, .getfield 3, .invokevirtual 728, .ifCond .eq 41, .sipush (-104), .ireturn] := rfl
theorem kb_124_41 : ex_blk 124 41 = [.aload 0, .getfield 645, .getfield 3, .iload 1, .iload 2, .sipush 0, .sipush 0, .sipush 0, .invokevirtual 741, .pop, .aload 0, .getfield 645, .getfield 3, .invokevirtual 720, .ireturn] := rfl
theorem kb_125_0 : ex_blk 125 0 = [.aload 0, .getfield 643, .invokevirtual 152, .ifCond .eq 17, .aload 0, .invokevirtual 1128, .goto 19] := rfl
theorem kb_125_17 : ex_blk 125 17 = [.sipush (-103), .jsr 19] := rfl
theorem kb_125_19 : ex_blk 125 19 = [.ireturn] := rfl
theorem kb_126_0 : ex_blk 126 0 = [.aload 0, .getfield 643, .invokevirtual 152, .ifCond .ne 13, .sipush (-103), .ireturn] := rfl
theorem kb_126_13 : ex_blk 126 13 = [.aload 0, .getfield 646, .aload 0, .getfield 645, .invokevirtual 9, .aload 0, .sipush 1, .putfield 649, .aload 0, .getfield 645, .getfield 0, .invokevirtual 720, .ireturn] := rfl
theorem kb_127_0 : ex_blk 127 0 = [.aload 0, .getfield 649, .ifCond .ne 10, .sipush (-103), .ireturn] := rfl
theorem kb_127_10 : ex_blk 127 10 = [.aload 0, .getfield 645, .aload 0, .getfield 646, .invokevirtual 9, .aload 0, .getfield 645, .getfield 0, .invokevirtual 720, .ireturn] := rfl
theorem kb_128_0 : ex_blk 128 0 = [.iload 1, .tableswitch 130 0 8 #[52, 60, 68, 79, 90, 101, 112, 120, 125]] := rfl
theorem kb_128_52 : ex_blk 128 52 = [.aload 0, .getfield 643, .invokevirtual 160, .ireturn] := rfl
theorem kb_128_60 : ex_blk 128 60 = [.aload 0, .getfield 644, .invokevirtual 512, .ireturn] := rfl
theorem kb_128_68 : ex_blk 128 68 = [.aload 0, .getfield 645, .getfield 1, .invokevirtual 720, .ireturn] := rfl
theorem kb_128_79 : ex_blk 128 79 = [.aload 0, .getfield 645, .getfield 0, .invokevirtual 720, .ireturn] := rfl
theorem kb_128_90 : ex_blk 128 90 = [.aload 0, .getfield 645, .getfield 2, .invokevirtual 720, .ireturn] := rfl
theorem kb_128_101 : ex_blk 128 101 = [.aload 0, .getfield 645, .getfield 3, .invokevirtual 720, .ireturn] := rfl
theorem kb_128_112 : ex_blk 128 112 = [.aload 0, .getfield 640, .invokevirtual 696, .ireturn] := rfl
theorem kb_128_120 : ex_blk 128 120 = [.aload 0, .getfield 650, .ireturn] := rfl
theorem kb_128_125 : ex_blk 128 125 = [.aload 0, .getfield 651, .ireturn] := rfl
theorem kb_128_130 : ex_blk 128 130 = [.sipush (-102), .ireturn] := rfl
theorem kb_129_0 : ex_blk 129 0 = [.aload 0, .goto_w 521, .invokevirtual 1145, .lstore 1, .aload 0, .lload 1, .invokevirtual 1153, .lstore 1, .aload 0, .lload 1, .invokevirtual 1161, .lstore 1, .aload 0, .lload 1, .invokevirtual 1169, .lstore 1, .lload 1, .aload 0, .getfield 645, .getfield 2, .invokestatic 1178, .lstore 1, .goto_w 31, .lload 1, .lmul, .aload 0, .invokevirtual 936, .i2l, .ladd, .lstore 1, .lload 1, .aload 0, .getfield 645, .getfield 3, .invokestatic 1178, .lstore 1, .aload 0, .getfield 643, .invokevirtual 152, .ifCond .eq 84, .goto_w 31, .lload 1, .lmul, .aload 0, .invokevirtual 1128, .i2l, .ladd, .lstore 1, .jsr 84] := rfl
theorem kb_129_84 : ex_blk 129 84 = [.sipush 0, .istore 3, .jsr 86] := rfl
theorem kb_129_86 : ex_blk 129 86 = [.iload 3, .aload 0, .getfield 640, .invokevirtual 696, .if_icmp .ge 119, .goto_w 31, .lload 1, .lmul, .aload 0, .getfield 640, .iload 3, .invokevirtual 705, .i2l, .ladd, .lstore 1, .iinc 3 1, .goto 86] := rfl
theorem kb_129_119 : ex_blk 129 119 = [.sipush 0, .istore 3, .jsr 121] := rfl
theorem kb_129_121 : ex_blk 129 121 = [.iload 3, .sipush 8, .if_icmp .gt 146, .goto_w 31, .lload 1, .lmul, .aload 0, .iload 3, .invokevirtual 1025, .i2l, .ladd, .lstore 1, .iinc 3 1, .goto 121] := rfl
theorem kb_129_146 : ex_blk 129 146 = [.lload 1, .lreturn] := rfl
theorem kb_130_0 : ex_blk 130 0 = [.iload 0, .ifCond .lt 13, .iload 0, .iload 1, .if_icmp .ge 13, .sipush 1, .goto 14] := rfl
theorem kb_130_13 : ex_blk 130 13 = [.sipush 0, .jsr 14] := rfl
theorem kb_130_14 : ex_blk 130 14 = [.areturn] := rfl
theorem kb_131_0 : ex_blk 131 0 = [.iload 0, .sipush 6, .invokestatic 1042, .ifCond .eq 30, .iload 1, .sipush 24, .invokestatic 1042, .ifCond .eq 30, .iload 2, .sipush 3, .invokestatic 1042, .ifCond .eq 30, .sipush 1, .goto 31] := rfl
theorem kb_131_30 : ex_blk 131 30 = [.sipush 0, .jsr 31] := rfl
theorem kb_131_31 : ex_blk 131 31 = [.areturn] := rfl
theorem kb_132_0 : ex_blk 132 0 = [.sipush 0, .istore 1, .jsr 2] := rfl
theorem kb_132_2 : ex_blk 132 2 = [.iload 1, .sipush 32, .if_icmp .ge 24, .iload 0, .iload 1, .ishr, .sipush 1, .iand, .ifCond .eq 18, .iload 1, .ireturn] := rfl
theorem kb_132_18 : ex_blk 132 18 = [.iinc 1 1, .goto 2] := rfl
theorem kb_132_24 : ex_blk 132 24 = [.sipush (-1), .ireturn] := rfl
theorem kb_133_0 : ex_blk 133 0 = [.iload 0, .sipush 1, .if_icmp .ne 9, .sipush 4, .goto 10] := rfl
theorem kb_133_9 : ex_blk 133 9 = [.sipush 1, .jsr 10] := rfl
theorem kb_133_10 : ex_blk 133 10 = [.ireturn] := rfl
theorem kb_134_0 : ex_blk 134 0 = [.sipush 0, .iload 1, .iload 2, .iload 0, .imul, .isub, .invokedynamic 0, .istore 5, .iload 4, .iload 0, .imul, .iload 3, .iload 5, .imul, .sipush 9, .iadd, .sipush 10, .idiv, .iadd, .ireturn] := rfl
theorem kb_135_0 : ex_blk 135 0 = [.iload 2, .tableswitch 60 0 2 #[28, 37, 47]] := rfl
theorem kb_135_28 : ex_blk 135 28 = [.aload 0, .getfield 643, .iload 1, .invokevirtual 177, .ireturn] := rfl
theorem kb_135_37 : ex_blk 135 37 = [.aload 0, .getfield 643, .iload 1, .sipush 0, .invokevirtual 202, .ireturn] := rfl
theorem kb_135_47 : ex_blk 135 47 = [.aload 0, .getfield 645, .aload 0, .getfield 643, .iload 1, .invokevirtual 82, .ireturn] := rfl
theorem kb_135_60 : ex_blk 135 60 = [.aload 0, .getfield 643, .iload 1, .invokevirtual 225, .ireturn] := rfl
theorem kb_136_0 : ex_blk 136 0 = [.iload 2, .tableswitch 55 0 2 #[28, 37, 46]] := rfl
theorem kb_136_28 : ex_blk 136 28 = [.aload 0, .getfield 645, .iload 1, .invokevirtual 25, .ireturn] := rfl
theorem kb_136_37 : ex_blk 136 37 = [.aload 0, .getfield 645, .iload 1, .invokevirtual 33, .ireturn] := rfl
theorem kb_136_46 : ex_blk 136 46 = [.aload 0, .getfield 645, .iload 1, .invokevirtual 41, .ireturn] := rfl
theorem kb_136_55 : ex_blk 136 55 = [.aload 0, .getfield 645, .aload 0, .getfield 643, .iload 1, .invokevirtual 66, .ireturn] := rfl
theorem kb_137_0 : ex_blk 137 0 = [.aload 0, .getfield 643, .iload 1, .iload 2, .invokevirtual 242, .istore 4, .iload 4, .ifCond .eq 38, .iload 4, .aload 0, .getfield 645, .aload 0, .getfield 643, .iload 3, .invokevirtual 74, .iand, .ifCond .ne 38, .sipush 1, .goto 39] := rfl
theorem kb_137_38 : ex_blk 137 38 = [.sipush 0, .jsr 39] := rfl
theorem kb_137_39 : ex_blk 137 39 = [.areturn] := rfl
theorem kb_138_0 : ex_blk 138 0 = [.aload 0, .getfield 645, .getfield 1, .astore 3, .sipush 4, .aload 3, .iload 1, .sipush 3, .invokevirtual 746, .imul, .aload 3, .iload 1, .sipush 4, .invokevirtual 746, .iadd, .istore 4, .aload 0, .getfield 644, .aload 0, .getfield 643, .aload 3, .iload 1, .sipush 1, .invokevirtual 746, .aload 3, .iload 1, .sipush 0, .invokevirtual 746, .aload 3, .iload 1, .sipush 2, .invokevirtual 746, .iload 4, .iload 2, .invokevirtual 550, .ireturn] := rfl
theorem kb_139_0 : ex_blk 139 0 = [.sipush (-1), .istore 1, .sipush 24, .istore 2, .sipush 0, .istore 3, .jsr 7] := rfl
theorem kb_139_7 : ex_blk 139 7 = [.iload 3, .aload 0, .getfield 645, .getfield 1, .invokevirtual 720, .if_icmp .ge 61, .aload 0, .getfield 645, .getfield 1, .iload 3, .sipush 0, .invokevirtual 746, .istore 4, .iload 4, .iload 2, .if_icmp .ge 55, .aload 0, .iload 3, .sipush 0, .invokevirtual 1106, .ifCond .eq 55, .iload 4, .istore 2, .iload 3, .istore 1, .jsr 55] := rfl
theorem kb_139_55 : ex_blk 139 55 = [.iinc 3 1, .goto 7] := rfl
theorem kb_139_61 : ex_blk 139 61 = [.iload 1, .ireturn] := rfl
theorem kb_140_0 : ex_blk 140 0 = [.sipush 0, .istore 5, .sipush 0, .istore 6, .jsr 6] := rfl
theorem kb_140_6 : ex_blk 140 6 = [.iload 6, .sipush 4, .if_icmp .ge 46, .aload 0, .getfield 644, .aload 0, .getfield 643, .iload 1, .iload 2, .iload 3, .sipush 4, .iload 4, .imul, .iload 6, .iadd, .sipush 0, .invokevirtual 550, .ifCond .eq 40, .iinc 5 1, .jsr 40] := rfl
theorem kb_140_40 : ex_blk 140 40 = [.iinc 6 1, .goto 6] := rfl
theorem kb_140_46 : ex_blk 140 46 = [.iload 5, .ifCond .ne 53, .sipush 0, .ireturn] := rfl
theorem kb_140_53 : ex_blk 140 53 = [.iload 5, .sipush 4, .if_icmp .ge 63, .sipush 1, .goto 64] := rfl
theorem kb_140_63 : ex_blk 140 63 = [.sipush 2, .jsr 64] := rfl
theorem kb_140_64 : ex_blk 140 64 = [.ireturn] := rfl
theorem kb_141_0 : ex_blk 141 0 = [.sipush 0, .istore 1, .sipush (-3), .istore 2, .jsr 5] := rfl
theorem kb_141_5 : ex_blk 141 5 = [.iload 2, .sipush 3, .if_icmp .gt 32, .aload 0, .iload 2, .invokevirtual 1137, .ifCond .eq 26, .iload 1, .sipush 1, .iload 2, .sipush 3, .iadd, .ishl, .ior, .istore 1, .jsr 26] := rfl
theorem kb_141_26 : ex_blk 141 26 = [.iinc 2 1, .goto 5] := rfl
theorem kb_141_32 : ex_blk 141 32 = [.iload 1, .ireturn] := rfl
theorem kb_142_0 : ex_blk 142 0 = [.sipush 0, .istore 2, .jsr 2] := rfl
theorem kb_142_2 : ex_blk 142 2 = [.iload 2, .aload 0, .getfield 645, .getfield 3, .invokevirtual 720, .if_icmp .ge 59, .aload 0, .getfield 643, .aload 0, .getfield 645, .getfield 3, .iload 2, .sipush 0, .invokevirtual 746, .iload 1, .invokevirtual 202, .aload 0, .getfield 645, .getfield 3, .iload 2, .sipush 1, .invokevirtual 746, .if_icmp .eq 53, .sipush 0, .areturn] := rfl
theorem kb_142_53 : ex_blk 142 53 = [.iinc 2 1, .goto 2] := rfl
theorem kb_142_59 : ex_blk 142 59 = [.sipush 1, .areturn] := rfl
theorem kb_143_0 : ex_blk 143 0 = [.lload 1, .lstore 3, .sipush 0, .istore 5, .jsr 5] := rfl
theorem kb_143_5 : ex_blk 143 5 = [.iload 5, .aload 0, .getfield 643, .invokevirtual 160, .if_icmp .ge 54, .sipush 0, .istore 6, .jsr 20] := rfl
theorem kb_143_20 : ex_blk 143 20 = [.iload 6, .sipush 4, .if_icmp .ge 48, .goto_w 31, .lload 3, .lmul, .aload 0, .iload 5, .iload 6, .invokevirtual 1082, .i2l, .ladd, .lstore 3, .iinc 6 1, .goto 20] := rfl
theorem kb_143_48 : ex_blk 143 48 = [.iinc 5 1, .goto 5] := rfl
theorem kb_143_54 : ex_blk 143 54 = [.lload 3, .lreturn] := rfl
theorem kb_144_0 : ex_blk 144 0 = [.lload 1, .lstore 3, .sipush 0, .istore 5, .jsr 5] := rfl
theorem kb_144_5 : ex_blk 144 5 = [.iload 5, .aload 0, .getfield 644, .invokevirtual 512, .if_icmp .ge 57, .sipush 0, .istore 6, .jsr 20] := rfl
theorem kb_144_20 : ex_blk 144 20 = [.iload 6, .sipush 5, .if_icmp .ge 51, .goto_w 31, .lload 3, .lmul, .aload 0, .getfield 644, .iload 5, .iload 6, .invokevirtual 538, .i2l, .ladd, .lstore 3, .iinc 6 1, .goto 20] := rfl
theorem kb_144_51 : ex_blk 144 51 = [.iinc 5 1, .goto 5] := rfl
theorem kb_144_57 : ex_blk 144 57 = [.lload 3, .lreturn] := rfl
theorem kb_145_0 : ex_blk 145 0 = [.lload 1, .lstore 3, .sipush 0, .istore 5, .jsr 5] := rfl
theorem kb_145_5 : ex_blk 145 5 = [.iload 5, .aload 0, .getfield 645, .getfield 1, .invokevirtual 720, .if_icmp .ge 78, .sipush 0, .istore 6, .jsr 23] := rfl
theorem kb_145_23 : ex_blk 145 23 = [.iload 6, .sipush 5, .if_icmp .ge 57, .goto_w 31, .lload 3, .lmul, .aload 0, .getfield 645, .getfield 1, .iload 5, .iload 6, .invokevirtual 746, .i2l, .ladd, .lstore 3, .iinc 6 1, .goto 23] := rfl
theorem kb_145_57 : ex_blk 145 57 = [.goto_w 31, .lload 3, .lmul, .aload 0, .iload 5, .sipush 0, .invokevirtual 1106, .i2l, .ladd, .lstore 3, .iinc 5 1, .goto 5] := rfl
theorem kb_145_78 : ex_blk 145 78 = [.lload 3, .lreturn] := rfl
theorem kb_146_0 : ex_blk 146 0 = [.lload 1, .lstore 3, .sipush 0, .istore 5, .jsr 5] := rfl
theorem kb_146_5 : ex_blk 146 5 = [.iload 5, .aload 0, .getfield 645, .getfield 0, .invokevirtual 720, .if_icmp .ge 57, .sipush 0, .istore 6, .jsr 23] := rfl
theorem kb_146_23 : ex_blk 146 23 = [.iload 6, .sipush 4, .if_icmp .ge 51, .goto_w 31, .lload 3, .lmul, .aload 0, .iload 5, .iload 6, .invokevirtual 1090, .i2l, .ladd, .lstore 3, .iinc 6 1, .goto 23] := rfl
theorem kb_146_51 : ex_blk 146 51 = [.iinc 5 1, .goto 5] := rfl
theorem kb_146_57 : ex_blk 146 57 = [.lload 3, .lreturn] := rfl
theorem kb_147_0 : ex_blk 147 0 = [.lload 0, .lstore 3, .sipush 0, .istore 5, .jsr 5] := rfl
theorem kb_147_5 : ex_blk 147 5 = [.iload 5, .aload 2, .invokevirtual 720, .if_icmp .ge 50, .goto_w 31, .lload 3, .lmul, .aload 2, .iload 5, .sipush 0, .invokevirtual 746, .i2l, .ladd, .lstore 3, .goto_w 31, .lload 3, .lmul, .aload 2, .iload 5, .sipush 1, .invokevirtual 746, .i2l, .ladd, .lstore 3, .iinc 5 1, .goto 5] := rfl
theorem kb_147_50 : ex_blk 147 50 = [.lload 3, .lreturn] := rfl
theorem kb_148_0 : ex_blk 148 0 = [.iload 0, .iload 1, .if_icmp .lt 14, .iload 0, .iload 2, .if_icmp .gt 14, .sipush 1, .goto 15] := rfl
theorem kb_148_14 : ex_blk 148 14 = [.sipush 0, .jsr 15] := rfl
theorem kb_148_15 : ex_blk 148 15 = [.areturn] := rfl
theorem kb_149_0 : ex_blk 149 0 = [.sipush 0, .istore 3, .sipush 0, .istore 4, .sipush 0, .istore 5, .jsr 8] := rfl
theorem kb_149_8 : ex_blk 149 8 = [.iload 5, .sipush 8, .if_icmp .ge 85, .lload 1, .sipush 8, .iload 5, .imul, .lshr, .goto_w 255, .land, .l2i, .istore 6, .iload 6, .sipush 126, .if_icmp .gt 46, .iload 4, .ifCond .eq 49, .iload 6, .ifCond .eq 49, .jsr 46] := rfl
theorem kb_149_46 : ex_blk 149 46 = [.sipush (-102), .ireturn] := rfl
theorem kb_149_49 : ex_blk 149 49 = [.iload 4, .ifCond .ne 59, .iload 6, .ifCond .ne 63, .jsr 59] := rfl
theorem kb_149_59 : ex_blk 149 59 = [.sipush 1, .goto 64] := rfl
theorem kb_149_63 : ex_blk 149 63 = [.sipush 0, .jsr 64] := rfl
theorem kb_149_64 : ex_blk 149 64 = [.istore 4, .iload 3, .iload 6, .ifCond .ne 76, .sipush 0, .goto 77] := rfl
theorem kb_149_76 : ex_blk 149 76 = [.sipush 1, .jsr 77] := rfl
theorem kb_149_77 : ex_blk 149 77 = [.iadd, .istore 3, .iinc 5 1, .goto 8] := rfl
theorem kb_149_85 : ex_blk 149 85 = [.aload 0, .getfield 728, .iload 3, .iadd, .sipush 40, .if_icmp .le 99, .sipush (-104), .ireturn] := rfl
theorem kb_149_99 : ex_blk 149 99 = [.sipush 0, .istore 5, .jsr 102] := rfl
theorem kb_149_102 : ex_blk 149 102 = [.iload 5, .iload 3, .if_icmp .ge 135, .aload 0, .getfield 729, .aload 0, .getfield 728, .iload 5, .iadd, .lload 1, .sipush 8, .iload 5, .imul, .lshr, .l2i, .i2b, .bastore, .iinc 5 1, .goto 102] := rfl
theorem kb_149_135 : ex_blk 149 135 = [.aload 0, .dup, .getfield 728, .iload 3, .iadd, .putfield 728, .aload 0, .getfield 728, .ireturn] := rfl
theorem kb_150_0 : ex_blk 150 0 = [.aload 0, .getfield 728, .istore 1, .aload 0, .sipush 0, .putfield 728, .iload 1, .ireturn] := rfl
theorem kb_151_0 : ex_blk 151 0 = [.iload 0, .sipush 48, .sipush 57, .invokestatic 1187, .areturn] := rfl
theorem kb_152_0 : ex_blk 152 0 = [.iload 0, .sipush 46, .if_icmp .ne 10, .sipush 0, .goto 31] := rfl
theorem kb_152_10 : ex_blk 152 10 = [.iload 0, .sipush 35, .if_icmp .ne 20, .sipush 1, .goto 31] := rfl
theorem kb_152_20 : ex_blk 152 20 = [.iload 0, .sipush 100, .if_icmp .ne 30, .sipush 2, .goto 31] := rfl
theorem kb_152_30 : ex_blk 152 30 = [.sipush (-1), .jsr 31] := rfl
theorem kb_152_31 : ex_blk 152 31 = [.ireturn] := rfl
theorem kb_153_0 : ex_blk 153 0 = [.iload 1, .invokestatic 1217, .sipush (-1), .if_icmp .eq 68, .aload 0, .getfield 744, .aload 0, .getfield 742, .ifCond .ne 24, .sipush 6, .goto 28] := rfl
theorem kb_153_24 : ex_blk 153 24 = [.aload 0, .getfield 743, .jsr 28] := rfl
theorem kb_153_28 : ex_blk 153 28 = [.if_icmp .ne 33, .sipush 0, .areturn] := rfl
theorem kb_153_33 : ex_blk 153 33 = [.aload 0, .getfield 746, .aload 0, .getfield 742, .aload 0, .getfield 743, .imul, .aload 0, .getfield 744, .iadd, .iload 1, .invokestatic 1217, .iastore, .aload 0, .dup, .getfield 744, .sipush 1, .iadd, .putfield 744, .sipush 1, .areturn] := rfl
theorem kb_153_68 : ex_blk 153 68 = [.iload 1, .sipush 124, .if_icmp .ne 101, .aload 0, .getfield 745, .ifCond .ne 101, .aload 0, .getfield 747, .aload 0, .getfield 742, .aload 0, .getfield 744, .iastore, .aload 0, .sipush 1, .putfield 745, .sipush 1, .areturn] := rfl
theorem kb_153_101 : ex_blk 153 101 = [.iload 1, .sipush 47, .if_icmp .ne 155, .aload 0, .getfield 745, .ifCond .eq 155, .aload 0, .getfield 742, .sipush 3, .if_icmp .ge 155, .aload 0, .getfield 742, .ifCond .ne 140, .aload 0, .getfield 744, .sipush 1, .if_icmp .le 155, .goto 151] := rfl
theorem kb_153_140 : ex_blk 153 140 = [.aload 0, .getfield 744, .aload 0, .getfield 743, .if_icmp .ne 155, .jsr 151] := rfl
theorem kb_153_151 : ex_blk 153 151 = [.sipush 1, .goto 156] := rfl
theorem kb_153_155 : ex_blk 153 155 = [.sipush 0, .jsr 156] := rfl
theorem kb_153_156 : ex_blk 153 156 = [.istore 2, .iload 2, .ifCond .eq 189, .aload 0, .aload 0, .getfield 744, .putfield 743, .aload 0, .dup, .getfield 742, .sipush 1, .iadd, .putfield 742, .aload 0, .sipush 0, .putfield 744, .aload 0, .sipush 0, .putfield 745, .jsr 189] := rfl
theorem kb_153_189 : ex_blk 153 189 = [.iload 2, .areturn] := rfl
theorem kb_154_0 : ex_blk 154 0 = [.aload 0, .sipush 0, .putfield 742, .aload 0, .sipush 0, .putfield 743, .aload 0, .sipush 0, .putfield 744, .aload 0, .sipush 0, .putfield 745, .sipush 0, .istore 1, .jsr 22] := rfl
theorem kb_154_22 : ex_blk 154 22 = [.iload 1, .aload 0, .getfield 728, .if_icmp .ge 49, .aload 0, .aload 0, .getfield 729, .iload 1, .baload, .invokevirtual 1225, .ifCond .eq 49, .iinc 1 1, .goto 22] := rfl
theorem kb_154_49 : ex_blk 154 49 = [.aload 0, .iload 1, .putfield 740, .aload 0, .iload 1, .aload 0, .getfield 728, .if_icmp .ne 92, .aload 0, .getfield 745, .ifCond .eq 92, .aload 0, .getfield 742, .ifCond .le 92, .aload 0, .getfield 744, .aload 0, .getfield 743, .if_icmp .ne 92, .sipush 1, .goto 93] := rfl
theorem kb_154_92 : ex_blk 154 92 = [.sipush 0, .jsr 93] := rfl
theorem kb_154_93 : ex_blk 154 93 = [.putfield 741, .return_] := rfl
theorem kb_155_0 : ex_blk 155 0 = [.iload 1, .ifCond .ne 11, .aload 0, .getfield 750, .goto 15] := rfl
theorem kb_155_11 : ex_blk 155 11 = [.aload 0, .getfield 751, .jsr 15] := rfl
theorem kb_155_15 : ex_blk 155 15 = [.ireturn] := rfl
theorem kb_156_0 : ex_blk 156 0 = [.iload 1, .ifCond .ne 12, .aload 0, .iload 2, .putfield 750, .goto 17] := rfl
theorem kb_156_12 : ex_blk 156 12 = [.aload 0, .iload 2, .putfield 751, .jsr 17] := rfl
theorem kb_156_17 : ex_blk 156 17 = [.return_] := rfl
theorem kb_157_0 : ex_blk 157 0 = [.iload 2, .invokestatic 1209, .ifCond .eq 37, .aload 0, .iload 1, .invokevirtual 1241, .ifCond .le 37, .sipush 10, .aload 0, .iload 1, .invokevirtual 1241, .imul, .iload 2, .iadd, .sipush 48, .isub, .sipush 24, .if_icmp .ge 37, .sipush 1, .goto 38] := rfl
theorem kb_157_37 : ex_blk 157 37 = [.sipush 0, .jsr 38] := rfl
theorem kb_157_38 : ex_blk 157 38 = [.istore 3, .aload 0, .iload 1, .iload 3, .ifCond .eq 61, .sipush 10, .aload 0, .iload 1, .invokevirtual 1241, .imul, .iload 2, .iadd, .sipush 48, .isub, .goto 66] := rfl
theorem kb_157_61 : ex_blk 157 61 = [.aload 0, .iload 1, .invokevirtual 1241, .jsr 66] := rfl
theorem kb_157_66 : ex_blk 157 66 = [.invokevirtual 1250, .iload 3, .areturn] := rfl
theorem kb_158_0 : ex_blk 158 0 = [.iload 1, .sipush 104, .if_icmp .ne 10, .sipush 1, .goto 41] := rfl
theorem kb_158_10 : ex_blk 158 10 = [.iload 1, .sipush 110, .if_icmp .ne 20, .sipush 2, .goto 41] := rfl
theorem kb_158_20 : ex_blk 158 20 = [.iload 1, .sipush 102, .if_icmp .ne 30, .sipush 3, .goto 41] := rfl
theorem kb_158_30 : ex_blk 158 30 = [.iload 1, .sipush 111, .if_icmp .ne 40, .sipush 4, .goto 41] := rfl
theorem kb_158_40 : ex_blk 158 40 = [.sipush (-1), .jsr 41] := rfl
theorem kb_158_41 : ex_blk 158 41 = [.ireturn] := rfl
theorem kb_159_0 : ex_blk 159 0 = [.aload 0, .iload 1, .invokevirtual 1265, .istore 2, .aload 0, .iload 2, .sipush (-1), .if_icmp .ne 19, .aload 0, .getfield 752, .goto 20] := rfl
theorem kb_159_19 : ex_blk 159 19 = [.iload 2, .jsr 20] := rfl
theorem kb_159_20 : ex_blk 159 20 = [.putfield 752, .iload 2, .sipush (-1), .if_icmp .ne 32, .sipush (-1), .goto 34] := rfl
theorem kb_159_32 : ex_blk 159 32 = [.sipush 8, .jsr 34] := rfl
theorem kb_159_34 : ex_blk 159 34 = [.ireturn] := rfl
theorem kb_160_0 : ex_blk 160 0 = [.iload 1, .tableswitch 212 0 7 #[48, 81, 106, 127, 152, 164, 186, 206]] := rfl
theorem kb_160_48 : ex_blk 160 48 = [.aload 0, .iload 2, .sipush 119, .if_icmp .ne 59, .sipush 0, .goto 60] := rfl
theorem kb_160_59 : ex_blk 160 59 = [.sipush 1, .jsr 60] := rfl
theorem kb_160_60 : ex_blk 160 60 = [.putfield 748, .iload 2, .sipush 119, .if_icmp .eq 75, .iload 2, .sipush 101, .if_icmp .ne 79, .jsr 75] := rfl
theorem kb_160_75 : ex_blk 160 75 = [.sipush 1, .goto 80] := rfl
theorem kb_160_79 : ex_blk 160 79 = [.sipush (-1), .jsr 80] := rfl
theorem kb_160_80 : ex_blk 160 80 = [.ireturn] := rfl
theorem kb_160_81 : ex_blk 160 81 = [.aload 0, .iload 2, .sipush 97, .isub, .putfield 749, .iload 2, .sipush 97, .sipush 102, .invokestatic 1187, .ifCond .eq 104, .sipush 2, .goto 105] := rfl
theorem kb_160_104 : ex_blk 160 104 = [.sipush (-1), .jsr 105] := rfl
theorem kb_160_105 : ex_blk 160 105 = [.ireturn] := rfl
theorem kb_160_106 : ex_blk 160 106 = [.aload 0, .iload 2, .sipush 48, .isub, .putfield 750, .iload 2, .invokestatic 1209, .ifCond .eq 125, .sipush 3, .goto 126] := rfl
theorem kb_160_125 : ex_blk 160 125 = [.sipush (-1), .jsr 126] := rfl
theorem kb_160_126 : ex_blk 160 126 = [.ireturn] := rfl
theorem kb_160_127 : ex_blk 160 127 = [.aload 0, .sipush 0, .iload 2, .invokevirtual 1258, .ifCond .eq 140, .sipush 4, .goto 151] := rfl
theorem kb_160_140 : ex_blk 160 140 = [.iload 2, .sipush 45, .if_icmp .ne 150, .sipush 5, .goto 151] := rfl
theorem kb_160_150 : ex_blk 160 150 = [.sipush (-1), .jsr 151] := rfl
theorem kb_160_151 : ex_blk 160 151 = [.ireturn] := rfl
theorem kb_160_152 : ex_blk 160 152 = [.iload 2, .sipush 45, .if_icmp .ne 162, .sipush 5, .goto 163] := rfl
theorem kb_160_162 : ex_blk 160 162 = [.sipush (-1), .jsr 163] := rfl
theorem kb_160_163 : ex_blk 160 163 = [.ireturn] := rfl
theorem kb_160_164 : ex_blk 160 164 = [.aload 0, .iload 2, .sipush 48, .isub, .putfield 751, .iload 2, .invokestatic 1209, .ifCond .eq 184, .sipush 6, .goto 185] := rfl
theorem kb_160_184 : ex_blk 160 184 = [.sipush (-1), .jsr 185] := rfl
theorem kb_160_185 : ex_blk 160 185 = [.ireturn] := rfl
theorem kb_160_186 : ex_blk 160 186 = [.aload 0, .sipush 1, .iload 2, .invokevirtual 1258, .ifCond .eq 200, .sipush 7, .goto 205] := rfl
theorem kb_160_200 : ex_blk 160 200 = [.aload 0, .iload 2, .invokevirtual 1273, .jsr 205] := rfl
theorem kb_160_205 : ex_blk 160 205 = [.ireturn] := rfl
theorem kb_160_206 : ex_blk 160 206 = [.aload 0, .iload 2, .invokevirtual 1273, .ireturn] := rfl
theorem kb_160_212 : ex_blk 160 212 = [.sipush (-1), .ireturn] := rfl
theorem kb_161_0 : ex_blk 161 0 = [.aload 0, .sipush 0, .putfield 752, .sipush 0, .istore 1, .sipush 0, .istore 2, .sipush 1, .istore 3, .jsr 11] := rfl
theorem kb_161_11 : ex_blk 161 11 = [.iload 2, .aload 0, .getfield 728, .if_icmp .ge 74, .iload 3, .ifCond .eq 74, .aload 0, .iload 1, .aload 0, .getfield 729, .iload 2, .baload, .invokevirtual 1282, .istore 4, .iload 4, .sipush (-1), .if_icmp .eq 46, .sipush 1, .goto 47] := rfl
theorem kb_161_46 : ex_blk 161 46 = [.sipush 0, .jsr 47] := rfl
theorem kb_161_47 : ex_blk 161 47 = [.istore 3, .iload 3, .ifCond .eq 57, .iload 4, .goto 58] := rfl
theorem kb_161_57 : ex_blk 161 57 = [.iload 1, .jsr 58] := rfl
theorem kb_161_58 : ex_blk 161 58 = [.istore 1, .iload 2, .iload 3, .ifCond .eq 68, .sipush 1, .goto 69] := rfl
theorem kb_161_68 : ex_blk 161 68 = [.sipush 0, .jsr 69] := rfl
theorem kb_161_69 : ex_blk 161 69 = [.iadd, .istore 2, .goto 11] := rfl
theorem kb_161_74 : ex_blk 161 74 = [.aload 0, .iload 2, .putfield 740, .aload 0, .iload 2, .aload 0, .getfield 728, .if_icmp .ne 97, .iload 1, .sipush 5, .if_icmp .le 97, .sipush 1, .goto 98] := rfl
theorem kb_161_97 : ex_blk 161 97 = [.sipush 0, .jsr 98] := rfl
theorem kb_161_98 : ex_blk 161 98 = [.putfield 741, .return_] := rfl
theorem kb_162_0 : ex_blk 162 0 = [.iload 1, .sipush 0, .sipush 1, .invokestatic 1187, .ifCond .ne 12, .sipush (-102), .ireturn] := rfl
theorem kb_162_12 : ex_blk 162 12 = [.iload 1, .ifCond .ne 23, .aload 0, .invokevirtual 1232, .goto 27] := rfl
theorem kb_162_23 : ex_blk 162 23 = [.aload 0, .invokevirtual 1288, .jsr 27] := rfl
theorem kb_162_27 : ex_blk 162 27 = [.aload 0, .getfield 740, .ireturn] := rfl
theorem kb_163_0 : ex_blk 163 0 = [.aload 0, .invokevirtual 1232, .aload 0, .getfield 741, .ifCond .ne 14, .sipush (-103), .ireturn] := rfl
theorem kb_163_14 : ex_blk 163 14 = [.aload 0, .aload 0, .getfield 742, .sipush 1, .iadd, .putfield 704, .aload 0, .aload 0, .getfield 743, .putfield 705, .sipush 0, .istore 1, .jsr 34] := rfl
theorem kb_163_34 : ex_blk 163 34 = [.iload 1, .aload 0, .getfield 704, .aload 0, .getfield 705, .imul, .if_icmp .ge 65, .aload 0, .getfield 707, .iload 1, .aload 0, .getfield 746, .iload 1, .iaload, .iastore, .iinc 1 1, .goto 34] := rfl
theorem kb_163_65 : ex_blk 163 65 = [.sipush 0, .istore 1, .jsr 67] := rfl
theorem kb_163_67 : ex_blk 163 67 = [.iload 1, .aload 0, .getfield 704, .if_icmp .ge 93, .aload 0, .getfield 708, .iload 1, .aload 0, .getfield 747, .iload 1, .iaload, .iastore, .iinc 1 1, .goto 67] := rfl
theorem kb_163_93 : ex_blk 163 93 = [.aload 0, .dup, .getfield 706, .sipush 1, .iadd, .putfield 706, .aload 0, .sipush 0, .putfield 717, .aload 0, .sipush 0, .putfield 715, .aload 0, .sipush 0, .putfield 721, .aload 0, .sipush 0, .putfield 724, .aload 0, .sipush 0, .putfield 753, .aload 0, .sipush 0, .putfield 728, .aload 0, .getfield 704, .aload 0, .getfield 705, .imul, .ireturn] := rfl
theorem kb_164_0 : ex_blk 164 0 = [.aload 0, .invokevirtual 1288, .aload 0, .getfield 741, .ifCond .ne 14, .sipush (-103), .ireturn] := rfl
theorem kb_164_14 : ex_blk 164 14 = [.aload 0, .getfield 709, .sipush 8, .if_icmp .ne 26, .sipush (-104), .ireturn] := rfl
theorem kb_164_26 : ex_blk 164 26 = [.aload 0, .getfield 710, .aload 0, .getfield 709, .aload 0, .getfield 748, .iastore, .aload 0, .getfield 711, .aload 0, .getfield 709, .aload 0, .getfield 749, .iastore, .aload 0, .getfield 712, .aload 0, .getfield 709, .aload 0, .getfield 750, .iastore, .aload 0, .getfield 713, .aload 0, .getfield 709, .aload 0, .getfield 751, .iastore, .aload 0, .getfield 714, .aload 0, .getfield 709, .aload 0, .getfield 752, .iastore, .aload 0, .dup, .getfield 709, .sipush 1, .iadd, .putfield 709, .aload 0, .sipush 0, .putfield 728, .aload 0, .getfield 709, .sipush 1, .isub, .ireturn] := rfl
theorem kb_165_0 : ex_blk 165 0 = [.iload 2, .tableswitch 60 0 3 #[32, 39, 46, 53]] := rfl
theorem kb_165_32 : ex_blk 165 32 = [.aload 0, .getfield 710, .iload 1, .iaload, .ireturn] := rfl
theorem kb_165_39 : ex_blk 165 39 = [.aload 0, .getfield 711, .iload 1, .iaload, .ireturn] := rfl
theorem kb_165_46 : ex_blk 165 46 = [.aload 0, .getfield 712, .iload 1, .iaload, .ireturn] := rfl
theorem kb_165_53 : ex_blk 165 53 = [.aload 0, .getfield 713, .iload 1, .iaload, .ireturn] := rfl
theorem kb_165_60 : ex_blk 165 60 = [.aload 0, .getfield 714, .iload 1, .iaload, .ireturn] := rfl
theorem kb_166_0 : ex_blk 166 0 = [.iload 1, .sipush 0, .aload 0, .getfield 709, .sipush 1, .isub, .invokestatic 1187, .areturn] := rfl
theorem kb_167_0 : ex_blk 167 0 = [.aload 0, .iload 1, .invokevirtual 1329, .ifCond .ne 13, .sipush (-101), .goto 33] := rfl
theorem kb_167_13 : ex_blk 167 13 = [.iload 2, .sipush 0, .sipush 4, .invokestatic 1187, .ifCond .eq 31, .aload 0, .iload 1, .iload 2, .invokevirtual 1322, .goto 33] := rfl
theorem kb_167_31 : ex_blk 167 31 = [.sipush (-102), .jsr 33] := rfl
theorem kb_167_33 : ex_blk 167 33 = [.ireturn] := rfl
theorem kb_168_0 : ex_blk 168 0 = [.aload 0, .iload 1, .invokevirtual 1329, .ifCond .ne 11, .sipush (-101), .ireturn] := rfl
theorem kb_168_11 : ex_blk 168 11 = [.iload 2, .sipush 0, .sipush 4, .invokestatic 1187, .ifCond .ne 23, .sipush (-102), .ireturn] := rfl
theorem kb_168_23 : ex_blk 168 23 = [.aload 0, .getfield 714, .iload 1, .iaload, .istore 3, .iload 2, .ifCond .eq 49, .iload 3, .iload 2, .if_icmp .eq 49, .iload 2, .sipush 1, .if_icmp .ne 53, .iload 3, .sipush 3, .if_icmp .ne 53, .jsr 49] := rfl
theorem kb_168_49 : ex_blk 168 49 = [.iload 1, .goto 54] := rfl
theorem kb_168_53 : ex_blk 168 53 = [.sipush (-1), .jsr 54] := rfl
theorem kb_168_54 : ex_blk 168 54 = [.ireturn] := rfl
theorem kb_169_0 : ex_blk 169 0 = [.aload 0, .getfield 704, .aload 0, .getfield 705, .imul, .ireturn] := rfl
theorem kb_170_0 : ex_blk 170 0 = [.iload 1, .sipush 0, .aload 0, .invokevirtual 1352, .sipush 1, .isub, .invokestatic 1187, .areturn] := rfl
theorem kb_171_0 : ex_blk 171 0 = [.aload 0, .iload 1, .invokevirtual 1361, .ifCond .eq 22, .aload 0, .getfield 707, .iload 1, .iaload, .sipush 1, .if_icmp .eq 22, .sipush 1, .goto 23] := rfl
theorem kb_171_22 : ex_blk 171 22 = [.sipush 0, .jsr 23] := rfl
theorem kb_171_23 : ex_blk 171 23 = [.areturn] := rfl
theorem kb_172_0 : ex_blk 172 0 = [.aload 0, .getfield 708, .iload 1, .aload 0, .getfield 705, .idiv, .iaload, .aload 0, .getfield 753, .iadd, .istore 2, .iload 2, .ifCond .ge 25, .sipush 0, .goto 41] := rfl
theorem kb_172_25 : ex_blk 172 25 = [.iload 2, .aload 0, .getfield 705, .if_icmp .le 40, .aload 0, .getfield 705, .goto 41] := rfl
theorem kb_172_40 : ex_blk 172 40 = [.iload 2, .jsr 41] := rfl
theorem kb_172_41 : ex_blk 172 41 = [.istore 2, .iload 1, .aload 0, .getfield 705, .irem, .iload 2, .if_icmp .ge 56, .sipush 0, .goto 57] := rfl
theorem kb_172_56 : ex_blk 172 56 = [.sipush 1, .jsr 57] := rfl
theorem kb_172_57 : ex_blk 172 57 = [.ireturn] := rfl
theorem kb_173_0 : ex_blk 173 0 = [.iload 1, .aload 0, .getfield 705, .idiv, .iload 2, .ifCond .ne 14, .sipush (-1), .goto 24] := rfl
theorem kb_173_14 : ex_blk 173 14 = [.iload 2, .sipush 2, .if_icmp .ne 23, .sipush 1, .goto 24] := rfl
theorem kb_173_23 : ex_blk 173 23 = [.sipush 0, .jsr 24] := rfl
theorem kb_173_24 : ex_blk 173 24 = [.iadd, .istore 3, .iload 1, .aload 0, .getfield 705, .irem, .iload 2, .sipush 1, .if_icmp .ne 41, .sipush 1, .goto 51] := rfl
theorem kb_173_41 : ex_blk 173 41 = [.iload 2, .sipush 3, .if_icmp .ne 50, .sipush (-1), .goto 51] := rfl
theorem kb_173_50 : ex_blk 173 50 = [.sipush 0, .jsr 51] := rfl
theorem kb_173_51 : ex_blk 173 51 = [.iadd, .istore 4, .iload 3, .sipush 0, .aload 0, .getfield 704, .sipush 1, .isub, .invokestatic 1187, .ifCond .eq 95, .iload 4, .sipush 0, .aload 0, .getfield 705, .sipush 1, .isub, .invokestatic 1187, .ifCond .eq 95, .iload 3, .aload 0, .getfield 705, .imul, .iload 4, .iadd, .goto 96] := rfl
theorem kb_173_95 : ex_blk 173 95 = [.sipush (-1), .jsr 96] := rfl
theorem kb_173_96 : ex_blk 173 96 = [.ireturn] := rfl
theorem kb_174_0 : ex_blk 174 0 = [.aload 0, .iload 1, .iload 2, .invokevirtual 1386, .istore 3, .iload 3, .sipush (-1), .if_icmp .eq 22, .aload 0, .getfield 707, .iload 3, .iaload, .sipush 1, .if_icmp .ne 26, .jsr 22] := rfl
theorem kb_174_22 : ex_blk 174 22 = [.iload 1, .goto 27] := rfl
theorem kb_174_26 : ex_blk 174 26 = [.iload 3, .jsr 27] := rfl
theorem kb_174_27 : ex_blk 174 27 = [.ireturn] := rfl
theorem kb_175_0 : ex_blk 175 0 = [.aload 0, .getfield 718, .iload 1, .iaload, .sipush 1, .if_icmp .ne 29, .aload 0, .aload 0, .getfield 719, .iload 1, .iaload, .aload 0, .getfield 720, .iload 1, .iaload, .invokevirtual 1394, .goto 35] := rfl
theorem kb_175_29 : ex_blk 175 29 = [.aload 0, .getfield 719, .iload 1, .iaload, .jsr 35] := rfl
theorem kb_175_35 : ex_blk 175 35 = [.ireturn] := rfl
theorem kb_176_0 : ex_blk 176 0 = [.sipush 0, .istore 2, .jsr 2] := rfl
theorem kb_176_2 : ex_blk 176 2 = [.iload 2, .aload 0, .getfield 717, .if_icmp .ge 37, .aload 0, .getfield 719, .iload 2, .iaload, .iload 1, .if_icmp .eq 29, .aload 0, .iload 2, .invokevirtual 1401, .iload 1, .if_icmp .ne 31, .jsr 29] := rfl
theorem kb_176_29 : ex_blk 176 29 = [.iload 2, .ireturn] := rfl
theorem kb_176_31 : ex_blk 176 31 = [.iinc 2 1, .goto 2] := rfl
theorem kb_176_37 : ex_blk 176 37 = [.sipush (-1), .ireturn] := rfl
theorem kb_177_0 : ex_blk 177 0 = [.sipush 0, .istore 3, .jsr 2] := rfl
theorem kb_177_2 : ex_blk 177 2 = [.iload 3, .sipush 24, .if_icmp .ge 22, .aload 0, .getfield 754, .iload 3, .sipush 268435456, .iastore, .iinc 3 1, .goto 2] := rfl
theorem kb_177_22 : ex_blk 177 22 = [.aload 0, .getfield 754, .iload 1, .sipush 0, .iastore, .aload 0, .getfield 755, .sipush 0, .iload 1, .iastore, .sipush 1, .istore 3, .sipush 0, .istore 4, .jsr 41] := rfl
theorem kb_177_41 : ex_blk 177 41 = [.iload 4, .iload 3, .if_icmp .ge 175, .aload 0, .getfield 755, .iload 4, .iaload, .istore 5, .iload 2, .ifCond .eq 76, .iload 5, .iload 1, .if_icmp .eq 76, .aload 0, .iload 5, .invokevirtual 1409, .sipush (-1), .if_icmp .ne 80, .jsr 76] := rfl
theorem kb_177_76 : ex_blk 177 76 = [.sipush 1, .goto 81] := rfl
theorem kb_177_80 : ex_blk 177 80 = [.sipush 0, .jsr 81] := rfl
theorem kb_177_81 : ex_blk 177 81 = [.istore 6, .sipush 0, .istore 7, .jsr 86] := rfl
theorem kb_177_86 : ex_blk 177 86 = [.iload 7, .sipush 4, .if_icmp .ge 169, .iload 6, .ifCond .eq 169, .aload 0, .iload 5, .iload 7, .invokevirtual 1386, .istore 8, .iload 8, .sipush (-1), .if_icmp .eq 163, .aload 0, .getfield 707, .iload 8, .iaload, .sipush 1, .if_icmp .eq 163, .aload 0, .getfield 754, .iload 8, .iaload, .sipush 268435456, .if_icmp .ne 163, .aload 0, .getfield 754, .iload 8, .aload 0, .getfield 754, .iload 5, .iaload, .sipush 1, .iadd, .iastore, .aload 0, .getfield 755, .iload 3, .iload 8, .iastore, .iinc 3 1, .jsr 163] := rfl
theorem kb_177_163 : ex_blk 177 163 = [.iinc 7 1, .goto 86] := rfl
theorem kb_177_169 : ex_blk 177 169 = [.iinc 4 1, .goto 41] := rfl
theorem kb_177_175 : ex_blk 177 175 = [.return_] := rfl
theorem kb_178_0 : ex_blk 178 0 = [.sipush (-1), .istore 2, .aload 0, .getfield 707, .iload 1, .iaload, .sipush 1, .if_icmp .ne 14, .sipush (-1), .ireturn] := rfl
theorem kb_178_14 : ex_blk 178 14 = [.aload 0, .iload 1, .sipush 0, .invokevirtual 1418, .sipush 0, .istore 3, .jsr 22] := rfl
theorem kb_178_22 : ex_blk 178 22 = [.iload 3, .aload 0, .invokevirtual 1352, .if_icmp .ge 79, .aload 0, .getfield 707, .iload 3, .iaload, .sipush 2, .if_icmp .ne 73, .aload 0, .getfield 754, .iload 3, .iaload, .sipush 268435456, .if_icmp .ge 73, .iload 2, .sipush (-1), .if_icmp .eq 71, .aload 0, .getfield 754, .iload 3, .iaload, .aload 0, .getfield 754, .iload 2, .iaload, .if_icmp .ge 73, .jsr 71] := rfl
theorem kb_178_71 : ex_blk 178 71 = [.iload 3, .istore 2, .jsr 73] := rfl
theorem kb_178_73 : ex_blk 178 73 = [.iinc 3 1, .goto 22] := rfl
theorem kb_178_79 : ex_blk 178 79 = [.iload 2, .ireturn] := rfl
theorem kb_179_0 : ex_blk 179 0 = [.iload 2, .tableswitch 47 0 2 #[28, 35, 41]] := rfl
theorem kb_179_28 : ex_blk 179 28 = [.aload 0, .getfield 707, .iload 1, .iaload, .ireturn] := rfl
theorem kb_179_35 : ex_blk 179 35 = [.aload 0, .iload 1, .invokevirtual 1377, .ireturn] := rfl
theorem kb_179_41 : ex_blk 179 41 = [.aload 0, .iload 1, .invokevirtual 1409, .ireturn] := rfl
theorem kb_179_47 : ex_blk 179 47 = [.aload 0, .iload 1, .invokevirtual 1425, .ireturn] := rfl
theorem kb_180_0 : ex_blk 180 0 = [.aload 0, .iload 1, .invokevirtual 1361, .ifCond .ne 13, .sipush (-101), .goto 33] := rfl
theorem kb_180_13 : ex_blk 180 13 = [.iload 2, .sipush 0, .sipush 3, .invokestatic 1187, .ifCond .eq 31, .aload 0, .iload 1, .iload 2, .invokevirtual 1434, .goto 33] := rfl
theorem kb_180_31 : ex_blk 180 31 = [.sipush (-102), .jsr 33] := rfl
theorem kb_180_33 : ex_blk 180 33 = [.ireturn] := rfl
theorem kb_181_0 : ex_blk 181 0 = [.iload 4, .sipush 1, .if_icmp .ne 10, .iload 1, .ifCond .eq 32, .jsr 10] := rfl
theorem kb_181_10 : ex_blk 181 10 = [.iload 4, .sipush 1, .if_icmp .le 21, .iload 1, .sipush 1, .if_icmp .eq 32, .jsr 21] := rfl
theorem kb_181_21 : ex_blk 181 21 = [.iload 4, .sipush 3, .if_icmp .ne 36, .iload 1, .sipush 2, .if_icmp .ne 36, .jsr 32] := rfl
theorem kb_181_32 : ex_blk 181 32 = [.sipush 1, .goto 37] := rfl
theorem kb_181_36 : ex_blk 181 36 = [.sipush 0, .jsr 37] := rfl
theorem kb_181_37 : ex_blk 181 37 = [.istore 5, .iload 5, .ifCond .eq 53, .aload 0, .iload 2, .iload 3, .invokevirtual 1394, .goto 54] := rfl
theorem kb_181_53 : ex_blk 181 53 = [.iload 2, .jsr 54] := rfl
theorem kb_181_54 : ex_blk 181 54 = [.ireturn] := rfl
theorem kb_182_0 : ex_blk 182 0 = [.iload 0, .sipush 0, .sipush 2, .invokestatic 1187, .ifCond .eq 22, .iload 1, .sipush 0, .sipush 3, .invokestatic 1187, .ifCond .eq 22, .sipush 1, .goto 23] := rfl
theorem kb_182_22 : ex_blk 182 22 = [.sipush 0, .jsr 23] := rfl
theorem kb_182_23 : ex_blk 182 23 = [.areturn] := rfl
theorem kb_183_0 : ex_blk 183 0 = [.aload 0, .iload 2, .invokevirtual 1369, .ifCond .ne 11, .sipush (-101), .ireturn] := rfl
theorem kb_183_11 : ex_blk 183 11 = [.iload 1, .iload 3, .invokestatic 1458, .ifCond .eq 41, .iload 4, .sipush 0, .sipush 3, .invokestatic 1187, .ifCond .eq 41, .aload 0, .iload 1, .iload 2, .iload 3, .iload 4, .invokevirtual 1452, .goto 43] := rfl
theorem kb_183_41 : ex_blk 183 41 = [.sipush (-102), .jsr 43] := rfl
theorem kb_183_43 : ex_blk 183 43 = [.ireturn] := rfl
theorem kb_184_0 : ex_blk 184 0 = [.aload 0, .getfield 712, .iload 1, .iaload, .aload 0, .getfield 713, .iload 1, .iaload, .if_icmp .ne 17, .sipush 1, .areturn] := rfl
theorem kb_184_17 : ex_blk 184 17 = [.iload 2, .aload 0, .getfield 712, .iload 1, .iaload, .if_icmp .lt 31, .sipush 1, .goto 32] := rfl
theorem kb_184_31 : ex_blk 184 31 = [.sipush 0, .jsr 32] := rfl
theorem kb_184_32 : ex_blk 184 32 = [.istore 3, .iload 2, .aload 0, .getfield 713, .iload 1, .iaload, .if_icmp .ge 47, .sipush 1, .goto 48] := rfl
theorem kb_184_47 : ex_blk 184 47 = [.sipush 0, .jsr 48] := rfl
theorem kb_184_48 : ex_blk 184 48 = [.istore 4, .aload 0, .getfield 712, .iload 1, .iaload, .aload 0, .getfield 713, .iload 1, .iaload, .if_icmp .ge 82, .iload 3, .ifCond .eq 78, .iload 4, .ifCond .eq 78, .sipush 1, .goto 96] := rfl
theorem kb_184_78 : ex_blk 184 78 = [.sipush 0, .goto 96] := rfl
theorem kb_184_82 : ex_blk 184 82 = [.iload 3, .ifCond .ne 91, .iload 4, .ifCond .eq 95, .jsr 91] := rfl
theorem kb_184_91 : ex_blk 184 91 = [.sipush 1, .goto 96] := rfl
theorem kb_184_95 : ex_blk 184 95 = [.sipush 0, .jsr 96] := rfl
theorem kb_184_96 : ex_blk 184 96 = [.areturn] := rfl
theorem kb_185_0 : ex_blk 185 0 = [.aload 0, .getfield 710, .iload 1, .iaload, .istore 5, .aload 0, .getfield 714, .iload 1, .iaload, .tableswitch 170 1 4 #[44, 60, 84, 136]] := rfl
theorem kb_185_44 : ex_blk 185 44 = [.aload 0, .iload 3, .invokevirtual 1377, .iload 5, .if_icmp .ne 58, .sipush 1, .goto 59] := rfl
theorem kb_185_58 : ex_blk 185 58 = [.sipush 0, .jsr 59] := rfl
theorem kb_185_59 : ex_blk 185 59 = [.areturn] := rfl
theorem kb_185_60 : ex_blk 185 60 = [.aload 0, .aload 0, .iload 2, .iload 3, .iload 4, .sipush 1, .invokevirtual 1452, .invokevirtual 1377, .iload 5, .if_icmp .ne 82, .sipush 1, .goto 83] := rfl
theorem kb_185_82 : ex_blk 185 82 = [.sipush 0, .jsr 83] := rfl
theorem kb_185_83 : ex_blk 185 83 = [.areturn] := rfl
theorem kb_185_84 : ex_blk 185 84 = [.aload 0, .iload 3, .invokevirtual 1377, .iload 5, .if_icmp .ne 134, .aload 0, .aload 0, .iload 2, .iload 3, .iload 4, .sipush 2, .invokevirtual 1452, .invokevirtual 1377, .iload 5, .if_icmp .ne 134, .aload 0, .aload 0, .iload 2, .iload 3, .iload 4, .sipush 3, .invokevirtual 1452, .invokevirtual 1377, .iload 5, .if_icmp .ne 134, .sipush 1, .goto 135] := rfl
theorem kb_185_134 : ex_blk 185 134 = [.sipush 0, .jsr 135] := rfl
theorem kb_185_135 : ex_blk 185 135 = [.areturn] := rfl
theorem kb_185_136 : ex_blk 185 136 = [.aload 0, .iload 3, .invokevirtual 1425, .istore 6, .aload 0, .iload 6, .sipush (-1), .if_icmp .ne 154, .iload 3, .goto 156] := rfl
theorem kb_185_154 : ex_blk 185 154 = [.iload 6, .jsr 156] := rfl
theorem kb_185_156 : ex_blk 185 156 = [.invokevirtual 1377, .iload 5, .if_icmp .ne 168, .sipush 1, .goto 169] := rfl
theorem kb_185_168 : ex_blk 185 168 = [.sipush 0, .jsr 169] := rfl
theorem kb_185_169 : ex_blk 185 169 = [.areturn] := rfl
theorem kb_185_170 : ex_blk 185 170 = [.sipush 1, .areturn] := rfl
theorem kb_186_0 : ex_blk 186 0 = [.sipush 0, .istore 6, .sipush 0, .istore 7, .jsr 6] := rfl
theorem kb_186_6 : ex_blk 186 6 = [.iload 7, .aload 0, .getfield 709, .if_icmp .ge 81, .aload 0, .getfield 711, .iload 7, .iaload, .iload 1, .if_icmp .ne 54, .aload 0, .iload 7, .iload 2, .invokevirtual 1474, .ifCond .eq 54, .aload 0, .iload 7, .iload 3, .iload 4, .iload 5, .invokevirtual 1484, .ifCond .eq 54, .sipush 1, .goto 55] := rfl
theorem kb_186_54 : ex_blk 186 54 = [.sipush 0, .jsr 55] := rfl
theorem kb_186_55 : ex_blk 186 55 = [.istore 8, .iload 6, .iload 8, .ifCond .eq 71, .sipush 1, .iload 7, .ishl, .goto 72] := rfl
theorem kb_186_71 : ex_blk 186 71 = [.sipush 0, .jsr 72] := rfl
theorem kb_186_72 : ex_blk 186 72 = [.ior, .istore 6, .iinc 7 1, .goto 6] := rfl
theorem kb_186_81 : ex_blk 186 81 = [.iload 6, .ireturn] := rfl
theorem kb_187_0 : ex_blk 187 0 = [.iload 0, .sipush 0, .sipush 5, .invokestatic 1187, .ifCond .eq 23, .iload 1, .sipush 0, .sipush 23, .invokestatic 1187, .ifCond .eq 23, .sipush 1, .goto 24] := rfl
theorem kb_187_23 : ex_blk 187 23 = [.sipush 0, .jsr 24] := rfl
theorem kb_187_24 : ex_blk 187 24 = [.areturn] := rfl
theorem kb_188_0 : ex_blk 188 0 = [.aload 0, .iload 4, .invokevirtual 1369, .ifCond .ne 12, .sipush (-101), .ireturn] := rfl
theorem kb_188_12 : ex_blk 188 12 = [.iload 1, .iload 2, .invokestatic 1498, .ifCond .eq 43, .iload 3, .iload 5, .invokestatic 1458, .ifCond .eq 43, .aload 0, .iload 1, .iload 2, .iload 3, .iload 4, .iload 5, .invokevirtual 1493, .goto 45] := rfl
theorem kb_188_43 : ex_blk 188 43 = [.sipush (-102), .jsr 45] := rfl
theorem kb_188_45 : ex_blk 188 45 = [.ireturn] := rfl
theorem kb_189_0 : ex_blk 189 0 = [.aload 0, .iload 4, .invokevirtual 1369, .ifCond .ne 12, .sipush (-101), .ireturn] := rfl
theorem kb_189_12 : ex_blk 189 12 = [.iload 2, .iload 1, .invokestatic 1498, .ifCond .eq 29, .iload 3, .iload 5, .invokestatic 1458, .ifCond .ne 32, .jsr 29] := rfl
theorem kb_189_29 : ex_blk 189 29 = [.sipush (-102), .ireturn] := rfl
theorem kb_189_32 : ex_blk 189 32 = [.aload 0, .getfield 715, .sipush 12, .if_icmp .ne 44, .sipush (-104), .ireturn] := rfl
theorem kb_189_44 : ex_blk 189 44 = [.aload 0, .getfield 716, .sipush 5, .aload 0, .getfield 715, .imul, .iload 1, .iastore, .aload 0, .getfield 716, .sipush 5, .aload 0, .getfield 715, .imul, .sipush 1, .iadd, .iload 2, .iastore, .aload 0, .getfield 716, .sipush 5, .aload 0, .getfield 715, .imul, .sipush 2, .iadd, .iload 3, .iastore, .aload 0, .getfield 716, .sipush 5, .aload 0, .getfield 715, .imul, .sipush 3, .iadd, .iload 4, .iastore, .aload 0, .getfield 716, .sipush 5, .aload 0, .getfield 715, .imul, .sipush 4, .iadd, .iload 5, .iastore, .aload 0, .dup, .getfield 715, .sipush 1, .iadd, .putfield 715, .aload 0, .getfield 715, .sipush 1, .isub, .ireturn] := rfl
theorem kb_190_0 : ex_blk 190 0 = [.aload 0, .aload 0, .getfield 716, .sipush 5, .iload 1, .imul, .sipush 1, .iadd, .iaload, .aload 0, .getfield 716, .sipush 5, .iload 1, .imul, .iaload, .aload 0, .getfield 716, .sipush 5, .iload 1, .imul, .sipush 2, .iadd, .iaload, .aload 0, .getfield 716, .sipush 5, .iload 1, .imul, .sipush 3, .iadd, .iaload, .aload 0, .getfield 716, .sipush 5, .iload 1, .imul, .sipush 4, .iadd, .iaload, .invokevirtual 1493, .ireturn] := rfl
theorem kb_191_0 : ex_blk 191 0 = [.sipush 0, .istore 1, .jsr 2] := rfl
theorem kb_191_2 : ex_blk 191 2 = [.iload 0, .iload 1, .ishr, .sipush 1, .iand, .ifCond .ne 16, .iinc 1 1, .goto 2] := rfl
theorem kb_191_16 : ex_blk 191 16 = [.iload 1, .ireturn] := rfl
theorem kb_192_0 : ex_blk 192 0 = [.iload 1, .sipush 0, .sipush 1, .invokestatic 1187, .ifCond .ne 12, .sipush (-102), .ireturn] := rfl
theorem kb_192_12 : ex_blk 192 12 = [.sipush (-1), .istore 2, .sipush 0, .istore 3, .jsr 16] := rfl
theorem kb_192_16 : ex_blk 192 16 = [.iload 3, .aload 0, .getfield 715, .if_icmp .ge 64, .aload 0, .iload 3, .invokevirtual 1521, .ifCond .eq 58, .iload 2, .sipush (-1), .if_icmp .eq 56, .aload 0, .getfield 716, .sipush 5, .iload 3, .imul, .iaload, .aload 0, .getfield 716, .sipush 5, .iload 2, .imul, .iaload, .if_icmp .ge 58, .jsr 56] := rfl
theorem kb_192_56 : ex_blk 192 56 = [.iload 3, .istore 2, .jsr 58] := rfl
theorem kb_192_58 : ex_blk 192 58 = [.iinc 3 1, .goto 16] := rfl
theorem kb_192_64 : ex_blk 192 64 = [.iload 2, .sipush (-1), .if_icmp .eq 73, .iload 1, .ifCond .ne 77, .jsr 73] := rfl
theorem kb_192_73 : ex_blk 192 73 = [.iload 2, .goto 85] := rfl
theorem kb_192_77 : ex_blk 192 77 = [.aload 0, .iload 2, .invokevirtual 1521, .invokestatic 1529, .jsr 85] := rfl
theorem kb_192_85 : ex_blk 192 85 = [.ireturn] := rfl
theorem kb_193_0 : ex_blk 193 0 = [.aload 0, .getfield 706, .ifCond .ne 10, .sipush (-103), .ireturn] := rfl
theorem kb_193_10 : ex_blk 193 10 = [.iload 1, .iload 2, .invokestatic 1498, .ifCond .eq 36, .iload 3, .sipush 0, .invokestatic 1458, .ifCond .eq 36, .iload 4, .sipush 0, .sipush 2, .invokestatic 1187, .ifCond .ne 39, .jsr 36] := rfl
theorem kb_193_36 : ex_blk 193 36 = [.sipush (-102), .ireturn] := rfl
theorem kb_193_39 : ex_blk 193 39 = [.sipush 0, .istore 5, .sipush 0, .istore 6, .jsr 45] := rfl
theorem kb_193_45 : ex_blk 193 45 = [.iload 6, .aload 0, .invokevirtual 1352, .if_icmp .ge 152, .aload 0, .getfield 707, .iload 6, .iaload, .sipush 1, .if_icmp .eq 146, .sipush 0, .istore 7, .sipush 0, .istore 8, .jsr 71] := rfl
theorem kb_193_71 : ex_blk 193 71 = [.iload 8, .sipush 4, .if_icmp .ge 107, .iload 7, .aload 0, .iload 1, .iload 2, .iload 3, .iload 6, .iload 8, .invokevirtual 1493, .ifCond .ne 97, .sipush 0, .goto 98] := rfl
theorem kb_193_97 : ex_blk 193 97 = [.sipush 1, .jsr 98] := rfl
theorem kb_193_98 : ex_blk 193 98 = [.iadd, .istore 7, .iinc 8 1, .goto 71] := rfl
theorem kb_193_107 : ex_blk 193 107 = [.iload 7, .ifCond .ne 116, .sipush 0, .goto 127] := rfl
theorem kb_193_116 : ex_blk 193 116 = [.iload 7, .sipush 4, .if_icmp .ne 126, .sipush 2, .goto 127] := rfl
theorem kb_193_126 : ex_blk 193 126 = [.sipush 1, .jsr 127] := rfl
theorem kb_193_127 : ex_blk 193 127 = [.istore 8, .iload 5, .iload 8, .iload 4, .if_icmp .ne 142, .sipush 1, .goto 143] := rfl
theorem kb_193_142 : ex_blk 193 142 = [.sipush 0, .jsr 143] := rfl
theorem kb_193_143 : ex_blk 193 143 = [.iadd, .istore 5, .jsr 146] := rfl
theorem kb_193_146 : ex_blk 193 146 = [.iinc 6 1, .goto 45] := rfl
theorem kb_193_152 : ex_blk 193 152 = [.iload 5, .ireturn] := rfl
theorem kb_194_0 : ex_blk 194 0 = [.aload 0, .iload 1, .invokevirtual 1361, .ifCond .eq 21, .aload 0, .getfield 707, .iload 1, .iaload, .ifCond .ne 21, .sipush 1, .goto 22] := rfl
theorem kb_194_21 : ex_blk 194 21 = [.sipush 0, .jsr 22] := rfl
theorem kb_194_22 : ex_blk 194 22 = [.areturn] := rfl
theorem kb_195_0 : ex_blk 195 0 = [.iload 1, .sipush 1, .if_icmp .ne 14, .aload 0, .iload 2, .iload 3, .invokevirtual 1386, .goto 15] := rfl
theorem kb_195_14 : ex_blk 195 14 = [.iload 2, .jsr 15] := rfl
theorem kb_195_15 : ex_blk 195 15 = [.istore 4, .iload 4, .sipush (-1), .if_icmp .eq 46, .aload 0, .getfield 707, .iload 2, .iaload, .ifCond .ne 46, .aload 0, .getfield 707, .iload 4, .iaload, .ifCond .ne 46, .sipush 1, .goto 47] := rfl
theorem kb_195_46 : ex_blk 195 46 = [.sipush 0, .jsr 47] := rfl
theorem kb_195_47 : ex_blk 195 47 = [.areturn] := rfl
theorem kb_196_0 : ex_blk 196 0 = [.aload 0, .iload 1, .invokevirtual 1401, .istore 3, .aload 0, .iload 2, .invokevirtual 1401, .istore 4, .aload 0, .getfield 719, .iload 1, .iaload, .aload 0, .getfield 719, .iload 2, .iaload, .if_icmp .eq 55, .aload 0, .getfield 719, .iload 1, .iaload, .iload 4, .if_icmp .eq 55, .iload 3, .aload 0, .getfield 719, .iload 2, .iaload, .if_icmp .eq 55, .iload 3, .iload 4, .if_icmp .ne 59, .jsr 55] := rfl
theorem kb_196_55 : ex_blk 196 55 = [.sipush 1, .goto 60] := rfl
theorem kb_196_59 : ex_blk 196 59 = [.sipush 0, .jsr 60] := rfl
theorem kb_196_60 : ex_blk 196 60 = [.areturn] := rfl
theorem kb_197_0 : ex_blk 197 0 = [.sipush 1, .istore 1, .sipush 0, .istore 2, .jsr 4] := rfl
theorem kb_197_4 : ex_blk 197 4 = [.iload 2, .aload 0, .getfield 717, .if_icmp .ge 85, .iload 1, .ifCond .eq 45, .aload 0, .aload 0, .getfield 718, .iload 2, .iaload, .aload 0, .getfield 719, .iload 2, .iaload, .aload 0, .getfield 720, .iload 2, .iaload, .invokevirtual 1563, .ifCond .eq 45, .sipush 1, .goto 46] := rfl
theorem kb_197_45 : ex_blk 197 45 = [.sipush 0, .jsr 46] := rfl
theorem kb_197_46 : ex_blk 197 46 = [.istore 1, .sipush 0, .istore 3, .jsr 49] := rfl
theorem kb_197_49 : ex_blk 197 49 = [.iload 3, .iload 2, .if_icmp .ge 79, .iload 1, .ifCond .eq 71, .aload 0, .iload 2, .iload 3, .invokevirtual 1570, .ifCond .ne 71, .sipush 1, .goto 72] := rfl
theorem kb_197_71 : ex_blk 197 71 = [.sipush 0, .jsr 72] := rfl
theorem kb_197_72 : ex_blk 197 72 = [.istore 1, .iinc 3 1, .goto 49] := rfl
theorem kb_197_79 : ex_blk 197 79 = [.iinc 2 1, .goto 4] := rfl
theorem kb_197_85 : ex_blk 197 85 = [.iload 1, .areturn] := rfl
theorem kb_198_0 : ex_blk 198 0 = [.aload 0, .getfield 718, .iload 1, .iload 2, .iastore, .aload 0, .getfield 719, .iload 1, .iload 3, .iastore, .aload 0, .getfield 720, .iload 1, .iload 4, .iastore, .return_] := rfl
theorem kb_199_0 : ex_blk 199 0 = [.iload 1, .sipush 0, .iload 0, .sipush 1, .if_icmp .ne 11, .sipush 3, .goto 12] := rfl
theorem kb_199_11 : ex_blk 199 11 = [.sipush 0, .jsr 12] := rfl
theorem kb_199_12 : ex_blk 199 12 = [.invokestatic 1187, .areturn] := rfl
theorem kb_200_0 : ex_blk 200 0 = [.iload 1, .sipush 0, .sipush 3, .invokestatic 1187, .ifCond .ne 12, .sipush (-102), .ireturn] := rfl
theorem kb_200_12 : ex_blk 200 12 = [.aload 0, .iload 2, .invokevirtual 1553, .ifCond .ne 23, .sipush (-101), .ireturn] := rfl
theorem kb_200_23 : ex_blk 200 23 = [.iload 1, .iload 3, .invokestatic 1594, .ifCond .ne 34, .sipush (-102), .ireturn] := rfl
theorem kb_200_34 : ex_blk 200 34 = [.aload 0, .getfield 717, .sipush 3, .if_icmp .ne 60, .aload 0, .iload 1, .iload 2, .iload 3, .invokevirtual 1611, .ifCond .eq 57, .sipush (-104), .goto 59] := rfl
theorem kb_200_57 : ex_blk 200 57 = [.sipush (-103), .jsr 59] := rfl
theorem kb_200_59 : ex_blk 200 59 = [.ireturn] := rfl
theorem kb_200_60 : ex_blk 200 60 = [.aload 0, .aload 0, .getfield 717, .iload 1, .iload 2, .iload 3, .invokevirtual 1588, .aload 0, .dup, .getfield 717, .sipush 1, .iadd, .putfield 717, .aload 0, .invokevirtual 1576, .ifCond .ne 101, .aload 0, .dup, .getfield 717, .sipush 1, .isub, .putfield 717, .sipush (-103), .ireturn] := rfl
theorem kb_200_101 : ex_blk 200 101 = [.aload 0, .getfield 717, .sipush 1, .isub, .ireturn] := rfl
theorem kb_201_0 : ex_blk 201 0 = [.aload 0, .iload 1, .iload 2, .iload 3, .invokevirtual 1563, .ifCond .ne 12, .sipush 0, .areturn] := rfl
theorem kb_201_12 : ex_blk 201 12 = [.iload 1, .sipush 1, .if_icmp .ne 26, .aload 0, .iload 2, .iload 3, .invokevirtual 1386, .goto 27] := rfl
theorem kb_201_26 : ex_blk 201 26 = [.iload 2, .jsr 27] := rfl
theorem kb_201_27 : ex_blk 201 27 = [.istore 4, .aload 0, .iload 2, .invokevirtual 1409, .sipush (-1), .if_icmp .ne 52, .aload 0, .iload 4, .invokevirtual 1409, .sipush (-1), .if_icmp .ne 52, .sipush 1, .goto 53] := rfl
theorem kb_201_52 : ex_blk 201 52 = [.sipush 0, .jsr 53] := rfl
theorem kb_201_53 : ex_blk 201 53 = [.areturn] := rfl
theorem kb_202_0 : ex_blk 202 0 = [.iload 1, .sipush 0, .aload 0, .getfield 717, .sipush 1, .isub, .invokestatic 1187, .areturn] := rfl
theorem kb_203_0 : ex_blk 203 0 = [.aload 0, .iload 1, .invokevirtual 1617, .ifCond .ne 11, .sipush (-101), .ireturn] := rfl
theorem kb_203_11 : ex_blk 203 11 = [.iload 2, .sipush 0, .sipush 3, .invokestatic 1187, .ifCond .ne 23, .sipush (-102), .ireturn] := rfl
theorem kb_203_23 : ex_blk 203 23 = [.aload 0, .getfield 718, .iload 1, .iaload, .istore 3, .iload 2, .ifCond .eq 49, .iload 3, .iload 2, .if_icmp .eq 49, .iload 2, .sipush 2, .if_icmp .ne 53, .iload 3, .sipush 3, .if_icmp .ne 53, .jsr 49] := rfl
theorem kb_203_49 : ex_blk 203 49 = [.iload 1, .goto 54] := rfl
theorem kb_203_53 : ex_blk 203 53 = [.sipush (-1), .jsr 54] := rfl
theorem kb_203_54 : ex_blk 203 54 = [.ireturn] := rfl
theorem kb_204_0 : ex_blk 204 0 = [.iload 2, .tableswitch 49 0 2 #[28, 35, 42]] := rfl
theorem kb_204_28 : ex_blk 204 28 = [.aload 0, .getfield 718, .iload 1, .iaload, .ireturn] := rfl
theorem kb_204_35 : ex_blk 204 35 = [.aload 0, .getfield 719, .iload 1, .iaload, .ireturn] := rfl
theorem kb_204_42 : ex_blk 204 42 = [.aload 0, .getfield 720, .iload 1, .iaload, .ireturn] := rfl
theorem kb_204_49 : ex_blk 204 49 = [.aload 0, .iload 1, .invokevirtual 1401, .ireturn] := rfl
theorem kb_205_0 : ex_blk 205 0 = [.aload 0, .iload 1, .invokevirtual 1617, .ifCond .ne 13, .sipush (-101), .goto 33] := rfl
theorem kb_205_13 : ex_blk 205 13 = [.iload 2, .sipush 0, .sipush 3, .invokestatic 1187, .ifCond .eq 31, .aload 0, .iload 1, .iload 2, .invokevirtual 1634, .goto 33] := rfl
theorem kb_205_31 : ex_blk 205 31 = [.sipush (-102), .jsr 33] := rfl
theorem kb_205_33 : ex_blk 205 33 = [.ireturn] := rfl
theorem kb_206_0 : ex_blk 206 0 = [.aload 0, .iload 1, .invokevirtual 1617, .ifCond .eq 16, .aload 0, .iload 2, .invokevirtual 1553, .ifCond .ne 19, .jsr 16] := rfl
theorem kb_206_16 : ex_blk 206 16 = [.sipush (-101), .ireturn] := rfl
theorem kb_206_19 : ex_blk 206 19 = [.aload 0, .getfield 718, .iload 1, .iaload, .iload 3, .invokestatic 1594, .ifCond .ne 35, .sipush (-102), .ireturn] := rfl
theorem kb_206_35 : ex_blk 206 35 = [.aload 0, .getfield 719, .iload 1, .iaload, .istore 4, .aload 0, .getfield 720, .iload 1, .iaload, .istore 5, .aload 0, .iload 1, .aload 0, .getfield 718, .iload 1, .iaload, .iload 2, .iload 3, .invokevirtual 1588, .aload 0, .invokevirtual 1576, .ifCond .ne 89, .aload 0, .iload 1, .aload 0, .getfield 718, .iload 1, .iaload, .iload 4, .iload 5, .invokevirtual 1588, .sipush (-103), .ireturn] := rfl
theorem kb_206_89 : ex_blk 206 89 = [.sipush 4, .iload 4, .imul, .iload 5, .iadd, .ireturn] := rfl
theorem kb_207_0 : ex_blk 207 0 = [.iload 1, .iload 2, .invokestatic 1498, .ifCond .ne 11, .sipush (-102), .ireturn] := rfl
theorem kb_207_11 : ex_blk 207 11 = [.aload 0, .getfield 721, .sipush 6, .if_icmp .ne 23, .sipush (-104), .ireturn] := rfl
theorem kb_207_23 : ex_blk 207 23 = [.aload 0, .getfield 722, .aload 0, .getfield 721, .iload 1, .iastore, .aload 0, .getfield 723, .aload 0, .getfield 721, .iload 2, .iastore, .aload 0, .dup, .getfield 721, .sipush 1, .iadd, .putfield 721, .aload 0, .getfield 721, .sipush 1, .isub, .ireturn] := rfl
theorem kb_208_0 : ex_blk 208 0 = [.sipush 0, .istore 3, .sipush 0, .istore 4, .jsr 5] := rfl
theorem kb_208_5 : ex_blk 208 5 = [.iload 4, .aload 0, .getfield 717, .if_icmp .ge 65, .iload 3, .ifCond .ne 53, .aload 0, .getfield 718, .iload 4, .iaload, .sipush 1, .if_icmp .ne 57, .aload 0, .iload 1, .iload 2, .sipush 1, .aload 0, .getfield 719, .iload 4, .iaload, .aload 0, .getfield 720, .iload 4, .iaload, .invokevirtual 1493, .ifCond .ne 57, .jsr 53] := rfl
theorem kb_208_53 : ex_blk 208 53 = [.sipush 1, .goto 58] := rfl
theorem kb_208_57 : ex_blk 208 57 = [.sipush 0, .jsr 58] := rfl
theorem kb_208_58 : ex_blk 208 58 = [.istore 3, .iinc 4 1, .goto 5] := rfl
theorem kb_208_65 : ex_blk 208 65 = [.iload 3, .areturn] := rfl
theorem kb_209_0 : ex_blk 209 0 = [.sipush 0, .istore 3, .sipush 0, .istore 4, .jsr 5] := rfl
theorem kb_209_5 : ex_blk 209 5 = [.iload 4, .aload 0, .invokevirtual 1352, .if_icmp .ge 153, .aload 0, .getfield 707, .iload 4, .iaload, .sipush 1, .if_icmp .eq 147, .aload 0, .iload 4, .invokevirtual 1409, .sipush (-1), .if_icmp .ne 147, .sipush 0, .istore 5, .jsr 38] := rfl
theorem kb_209_38 : ex_blk 209 38 = [.iload 5, .sipush 4, .if_icmp .ge 147, .iload 3, .ifCond .ne 147, .aload 0, .iload 4, .iload 5, .invokevirtual 1386, .istore 6, .iload 6, .sipush (-1), .if_icmp .ne 68, .sipush (-1), .goto 74] := rfl
theorem kb_209_68 : ex_blk 209 68 = [.aload 0, .iload 6, .invokevirtual 1409, .jsr 74] := rfl
theorem kb_209_74 : ex_blk 209 74 = [.istore 7, .iload 7, .sipush (-1), .if_icmp .eq 113, .aload 0, .getfield 718, .iload 7, .iaload, .sipush 3, .if_icmp .eq 109, .iload 1, .sipush 1, .if_icmp .ne 113, .aload 0, .getfield 718, .iload 7, .iaload, .sipush 2, .if_icmp .ne 113, .jsr 109] := rfl
theorem kb_209_109 : ex_blk 209 109 = [.sipush 1, .goto 114] := rfl
theorem kb_209_113 : ex_blk 209 113 = [.sipush 0, .jsr 114] := rfl
theorem kb_209_114 : ex_blk 209 114 = [.istore 8, .iload 8, .ifCond .eq 139, .aload 0, .iload 1, .iload 2, .sipush 0, .iload 4, .iload 5, .invokevirtual 1493, .ifCond .ne 139, .sipush 1, .goto 140] := rfl
theorem kb_209_139 : ex_blk 209 139 = [.sipush 0, .jsr 140] := rfl
theorem kb_209_140 : ex_blk 209 140 = [.istore 3, .iinc 5 1, .goto 38] := rfl
theorem kb_209_147 : ex_blk 209 147 = [.iinc 4 1, .goto 5] := rfl
theorem kb_209_153 : ex_blk 209 153 = [.iload 3, .areturn] := rfl
theorem kb_210_0 : ex_blk 210 0 = [.sipush 0, .istore 3, .sipush 0, .istore 4, .jsr 5] := rfl
theorem kb_210_5 : ex_blk 210 5 = [.iload 4, .aload 0, .invokevirtual 1352, .if_icmp .ge 89, .aload 0, .getfield 707, .iload 4, .iaload, .sipush 1, .if_icmp .eq 83, .aload 0, .iload 4, .invokevirtual 1409, .sipush (-1), .if_icmp .ne 83, .sipush 0, .istore 5, .jsr 38] := rfl
theorem kb_210_38 : ex_blk 210 38 = [.iload 5, .sipush 4, .if_icmp .ge 83, .iload 3, .ifCond .ne 83, .aload 0, .iload 1, .iload 2, .iload 1, .sipush 4, .if_icmp .ne 60, .sipush 2, .goto 61] := rfl
theorem kb_210_60 : ex_blk 210 60 = [.sipush 0, .jsr 61] := rfl
theorem kb_210_61 : ex_blk 210 61 = [.iload 4, .iload 5, .invokevirtual 1493, .ifCond .ne 75, .sipush 1, .goto 76] := rfl
theorem kb_210_75 : ex_blk 210 75 = [.sipush 0, .jsr 76] := rfl
theorem kb_210_76 : ex_blk 210 76 = [.istore 3, .iinc 5 1, .goto 38] := rfl
theorem kb_210_83 : ex_blk 210 83 = [.iinc 4 1, .goto 5] := rfl
theorem kb_210_89 : ex_blk 210 89 = [.iload 3, .areturn] := rfl
theorem kb_211_0 : ex_blk 211 0 = [.aload 0, .getfield 722, .iload 1, .iaload, .istore 2, .aload 0, .getfield 723, .iload 1, .iaload, .istore 3, .iload 2, .ifCond .ne 27, .aload 0, .iload 2, .iload 3, .invokevirtual 1666, .goto 47] := rfl
theorem kb_211_27 : ex_blk 211 27 = [.iload 2, .sipush 3, .if_icmp .ge 41, .aload 0, .iload 2, .iload 3, .invokevirtual 1674, .goto 47] := rfl
theorem kb_211_41 : ex_blk 211 41 = [.aload 0, .iload 2, .iload 3, .invokevirtual 1682, .jsr 47] := rfl
theorem kb_211_47 : ex_blk 211 47 = [.areturn] := rfl
theorem kb_212_0 : ex_blk 212 0 = [.sipush 0, .istore 1, .sipush 0, .istore 2, .jsr 4] := rfl
theorem kb_212_4 : ex_blk 212 4 = [.iload 2, .aload 0, .getfield 721, .if_icmp .ge 43, .aload 0, .getfield 706, .ifCond .le 43, .iload 1, .aload 0, .iload 2, .invokevirtual 1689, .ifCond .eq 34, .sipush 1, .iload 2, .ishl, .goto 35] := rfl
theorem kb_212_34 : ex_blk 212 34 = [.sipush 0, .jsr 35] := rfl
theorem kb_212_35 : ex_blk 212 35 = [.ior, .istore 1, .iinc 2 1, .goto 4] := rfl
theorem kb_212_43 : ex_blk 212 43 = [.iload 1, .ireturn] := rfl
theorem kb_213_0 : ex_blk 213 0 = [.aload 0, .invokevirtual 1696, .ireturn] := rfl
theorem kb_214_0 : ex_blk 214 0 = [.sipush 1, .istore 1, .sipush 0, .istore 2, .jsr 4] := rfl
theorem kb_214_4 : ex_blk 214 4 = [.iload 2, .aload 0, .getfield 721, .if_icmp .ge 28, .iload 1, .ifCond .eq 28, .aload 0, .iload 2, .invokevirtual 1689, .istore 1, .iinc 2 1, .goto 4] := rfl
theorem kb_214_28 : ex_blk 214 28 = [.iload 1, .areturn] := rfl
theorem kb_215_0 : ex_blk 215 0 = [.aload 0, .getfield 718, .iload 1, .iaload, .iload 2, .sipush 4, .irem, .invokestatic 1594, .ifCond .eq 57, .iload 2, .sipush 4, .aload 0, .getfield 719, .iload 1, .iaload, .imul, .aload 0, .getfield 720, .iload 1, .iaload, .iadd, .if_icmp .eq 57, .aload 0, .aload 0, .getfield 718, .iload 1, .iaload, .iload 2, .sipush 4, .idiv, .iload 2, .sipush 4, .irem, .invokevirtual 1563, .ifCond .eq 57, .sipush 1, .goto 58] := rfl
theorem kb_215_57 : ex_blk 215 57 = [.sipush 0, .jsr 58] := rfl
theorem kb_215_58 : ex_blk 215 58 = [.areturn] := rfl
theorem kb_216_0 : ex_blk 216 0 = [.sipush 0, .istore 1, .jsr 2] := rfl
theorem kb_216_2 : ex_blk 216 2 = [.iload 1, .aload 0, .getfield 717, .if_icmp .ge 136, .sipush 4, .aload 0, .getfield 719, .iload 1, .iaload, .imul, .aload 0, .getfield 720, .iload 1, .iaload, .iadd, .istore 2, .sipush 0, .istore 3, .jsr 28] := rfl
theorem kb_216_28 : ex_blk 216 28 = [.iload 3, .sipush 4, .aload 0, .invokevirtual 1352, .imul, .if_icmp .ge 130, .aload 0, .iload 1, .iload 3, .invokevirtual 1722, .ifCond .eq 124, .aload 0, .iload 1, .aload 0, .getfield 718, .iload 1, .iaload, .iload 3, .sipush 4, .idiv, .iload 3, .sipush 4, .irem, .invokevirtual 1588, .aload 0, .invokevirtual 1576, .ifCond .eq 82, .aload 0, .invokevirtual 1712, .ifCond .eq 82, .sipush 1, .goto 83] := rfl
theorem kb_216_82 : ex_blk 216 82 = [.sipush 0, .jsr 83] := rfl
theorem kb_216_83 : ex_blk 216 83 = [.istore 4, .aload 0, .iload 1, .aload 0, .getfield 718, .iload 1, .iaload, .iload 2, .sipush 4, .idiv, .iload 2, .sipush 4, .irem, .invokevirtual 1588, .iload 4, .ifCond .eq 124, .aload 0, .sipush 1, .putfield 756, .aload 0, .iload 1, .putfield 757, .aload 0, .iload 3, .putfield 758, .sipush 1, .areturn] := rfl
theorem kb_216_124 : ex_blk 216 124 = [.iinc 3 1, .goto 28] := rfl
theorem kb_216_130 : ex_blk 216 130 = [.iinc 1 1, .goto 2] := rfl
theorem kb_216_136 : ex_blk 216 136 = [.sipush 0, .areturn] := rfl
theorem kb_217_0 : ex_blk 217 0 = [.iload 1, .sipush 1, .iadd, .istore 2, .jsr 4] := rfl
theorem kb_217_4 : ex_blk 217 4 = [.iload 2, .aload 0, .getfield 717, .if_icmp .ge 139, .sipush 4, .aload 0, .getfield 719, .iload 2, .iaload, .imul, .aload 0, .getfield 720, .iload 2, .iaload, .iadd, .istore 3, .sipush 0, .istore 4, .jsr 31] := rfl
theorem kb_217_31 : ex_blk 217 31 = [.iload 4, .sipush 4, .aload 0, .invokevirtual 1352, .imul, .if_icmp .ge 133, .aload 0, .iload 2, .iload 4, .invokevirtual 1722, .ifCond .eq 127, .aload 0, .iload 2, .aload 0, .getfield 718, .iload 2, .iaload, .iload 4, .sipush 4, .idiv, .iload 4, .sipush 4, .irem, .invokevirtual 1588, .aload 0, .invokevirtual 1576, .ifCond .eq 89, .aload 0, .invokevirtual 1712, .ifCond .eq 89, .sipush 1, .goto 90] := rfl
theorem kb_217_89 : ex_blk 217 89 = [.sipush 0, .jsr 90] := rfl
theorem kb_217_90 : ex_blk 217 90 = [.istore 5, .aload 0, .iload 2, .aload 0, .getfield 718, .iload 2, .iaload, .iload 3, .sipush 4, .idiv, .iload 3, .sipush 4, .irem, .invokevirtual 1588, .iload 5, .ifCond .eq 127, .aload 0, .iload 2, .putfield 759, .aload 0, .iload 4, .putfield 760, .sipush 1, .areturn] := rfl
theorem kb_217_127 : ex_blk 217 127 = [.iinc 4 1, .goto 31] := rfl
theorem kb_217_133 : ex_blk 217 133 = [.iinc 2 1, .goto 4] := rfl
theorem kb_217_139 : ex_blk 217 139 = [.sipush 0, .areturn] := rfl
theorem kb_218_0 : ex_blk 218 0 = [.sipush 0, .istore 1, .jsr 2] := rfl
theorem kb_218_2 : ex_blk 218 2 = [.iload 1, .aload 0, .getfield 717, .if_icmp .ge 122, .sipush 4, .aload 0, .getfield 719, .iload 1, .iaload, .imul, .aload 0, .getfield 720, .iload 1, .iaload, .iadd, .istore 2, .sipush 0, .istore 3, .jsr 28] := rfl
theorem kb_218_28 : ex_blk 218 28 = [.iload 3, .sipush 4, .aload 0, .invokevirtual 1352, .imul, .if_icmp .ge 116, .aload 0, .iload 1, .iload 3, .invokevirtual 1722, .ifCond .eq 110, .aload 0, .iload 1, .aload 0, .getfield 718, .iload 1, .iaload, .iload 3, .sipush 4, .idiv, .iload 3, .sipush 4, .irem, .invokevirtual 1588, .aload 0, .iload 1, .invokevirtual 1737, .istore 4, .aload 0, .iload 1, .aload 0, .getfield 718, .iload 1, .iaload, .iload 2, .sipush 4, .idiv, .iload 2, .sipush 4, .irem, .invokevirtual 1588, .iload 4, .ifCond .eq 110, .aload 0, .sipush 2, .putfield 756, .aload 0, .iload 1, .putfield 757, .aload 0, .iload 3, .putfield 758, .sipush 1, .areturn] := rfl
theorem kb_218_110 : ex_blk 218 110 = [.iinc 3 1, .goto 28] := rfl
theorem kb_218_116 : ex_blk 218 116 = [.iinc 1 1, .goto 2] := rfl
theorem kb_218_122 : ex_blk 218 122 = [.sipush 0, .areturn] := rfl
theorem kb_219_0 : ex_blk 219 0 = [.aload 0, .sipush 0, .putfield 756, .aload 0, .sipush (-1), .putfield 757, .aload 0, .sipush (-1), .putfield 758, .aload 0, .sipush (-1), .putfield 759, .aload 0, .sipush (-1), .putfield 760, .aload 0, .invokevirtual 1712, .ifCond .ne 46, .aload 0, .invokevirtual 1728, .ifCond .ne 46, .aload 0, .invokevirtual 1744, .ifCond .eq 50, .jsr 46] := rfl
theorem kb_219_46 : ex_blk 219 46 = [.sipush 1, .goto 51] := rfl
theorem kb_219_50 : ex_blk 219 50 = [.sipush 0, .jsr 51] := rfl
theorem kb_219_51 : ex_blk 219 51 = [.areturn] := rfl
theorem kb_220_0 : ex_blk 220 0 = [.aload 0, .getfield 706, .ifCond .ne 10, .sipush (-103), .ireturn] := rfl
theorem kb_220_10 : ex_blk 220 10 = [.iload 1, .sipush 0, .sipush 4, .invokestatic 1187, .ifCond .ne 22, .sipush (-102), .ireturn] := rfl
theorem kb_220_22 : ex_blk 220 22 = [.aload 0, .getfield 727, .sipush 12, .if_icmp .ne 34, .sipush (-103), .ireturn] := rfl
theorem kb_220_34 : ex_blk 220 34 = [.aload 0, .dup, .getfield 727, .sipush 1, .iadd, .putfield 727, .aload 0, .invokevirtual 1752, .istore 2, .iload 1, .tableswitch 108 0 3 #[80, 93, 98, 103]] := rfl
theorem kb_220_80 : ex_blk 220 80 = [.iload 2, .ifCond .eq 91, .aload 0, .getfield 756, .goto 92] := rfl
theorem kb_220_91 : ex_blk 220 91 = [.sipush (-1), .jsr 92] := rfl
theorem kb_220_92 : ex_blk 220 92 = [.ireturn] := rfl
theorem kb_220_93 : ex_blk 220 93 = [.aload 0, .getfield 757, .ireturn] := rfl
theorem kb_220_98 : ex_blk 220 98 = [.aload 0, .getfield 758, .ireturn] := rfl
theorem kb_220_103 : ex_blk 220 103 = [.aload 0, .getfield 759, .ireturn] := rfl
theorem kb_220_108 : ex_blk 220 108 = [.aload 0, .getfield 760, .ireturn] := rfl
theorem kb_221_0 : ex_blk 221 0 = [.aload 0, .iload 1, .invokevirtual 1369, .ifCond .eq 16, .aload 0, .iload 2, .invokevirtual 1369, .ifCond .ne 19, .jsr 16] := rfl
theorem kb_221_16 : ex_blk 221 16 = [.sipush (-101), .ireturn] := rfl
theorem kb_221_19 : ex_blk 221 19 = [.aload 0, .iload 1, .sipush 1, .invokevirtual 1418, .aload 0, .getfield 754, .iload 2, .iaload, .sipush 268435456, .if_icmp .ne 40, .sipush (-1), .goto 46] := rfl
theorem kb_221_40 : ex_blk 221 40 = [.aload 0, .getfield 754, .iload 2, .iaload, .jsr 46] := rfl
theorem kb_221_46 : ex_blk 221 46 = [.ireturn] := rfl
theorem kb_222_0 : ex_blk 222 0 = [.aload 0, .iload 1, .invokevirtual 1369, .ifCond .eq 16, .aload 0, .iload 2, .invokevirtual 1369, .ifCond .ne 19, .jsr 16] := rfl
theorem kb_222_16 : ex_blk 222 16 = [.sipush (-101), .ireturn] := rfl
theorem kb_222_19 : ex_blk 222 19 = [.iload 3, .sipush 0, .sipush 9, .invokestatic 1187, .ifCond .ne 32, .sipush (-102), .ireturn] := rfl
theorem kb_222_32 : ex_blk 222 32 = [.sipush 0, .istore 4, .jsr 35] := rfl
theorem kb_222_35 : ex_blk 222 35 = [.iload 4, .sipush 24, .if_icmp .ge 67, .aload 0, .getfield 754, .iload 4, .iload 4, .iload 1, .if_icmp .ne 58, .sipush 0, .goto 60] := rfl
theorem kb_222_58 : ex_blk 222 58 = [.sipush 268435456, .jsr 60] := rfl
theorem kb_222_60 : ex_blk 222 60 = [.iastore, .iinc 4 1, .goto 35] := rfl
theorem kb_222_67 : ex_blk 222 67 = [.sipush 1, .istore 4, .jsr 70] := rfl
theorem kb_222_70 : ex_blk 222 70 = [.iload 4, .ifCond .eq 259, .sipush 0, .istore 4, .sipush 0, .istore 5, .jsr 81] := rfl
theorem kb_222_81 : ex_blk 222 81 = [.iload 5, .aload 0, .invokevirtual 1352, .if_icmp .ge 256, .aload 0, .getfield 754, .iload 5, .iaload, .sipush 268435456, .if_icmp .ge 122, .iload 5, .iload 1, .if_icmp .eq 118, .aload 0, .iload 5, .invokevirtual 1409, .sipush (-1), .if_icmp .ne 122, .jsr 118] := rfl
theorem kb_222_118 : ex_blk 222 118 = [.sipush 1, .goto 123] := rfl
theorem kb_222_122 : ex_blk 222 122 = [.sipush 0, .jsr 123] := rfl
theorem kb_222_123 : ex_blk 222 123 = [.istore 6, .sipush 0, .istore 7, .jsr 128] := rfl
theorem kb_222_128 : ex_blk 222 128 = [.iload 7, .sipush 4, .if_icmp .ge 250, .iload 6, .ifCond .eq 250, .aload 0, .iload 5, .iload 7, .invokevirtual 1386, .istore 8, .iload 8, .sipush (-1), .if_icmp .eq 170, .aload 0, .getfield 707, .iload 8, .iaload, .sipush 1, .if_icmp .eq 170, .sipush 1, .goto 171] := rfl
theorem kb_222_170 : ex_blk 222 170 = [.sipush 0, .jsr 171] := rfl
theorem kb_222_171 : ex_blk 222 171 = [.istore 9, .iload 9, .ifCond .eq 211, .aload 0, .getfield 754, .iload 5, .iaload, .sipush 1, .iadd, .aload 0, .iload 5, .invokevirtual 1377, .aload 0, .iload 8, .invokevirtual 1377, .if_icmp .ne 206, .sipush 0, .goto 207] := rfl
theorem kb_222_206 : ex_blk 222 206 = [.iload 3, .jsr 207] := rfl
theorem kb_222_207 : ex_blk 222 207 = [.iadd, .goto 213] := rfl
theorem kb_222_211 : ex_blk 222 211 = [.sipush 268435456, .jsr 213] := rfl
theorem kb_222_213 : ex_blk 222 213 = [.istore 10, .iload 9, .ifCond .eq 244, .iload 10, .aload 0, .getfield 754, .iload 8, .iaload, .if_icmp .ge 244, .aload 0, .getfield 754, .iload 8, .iload 10, .iastore, .sipush 1, .istore 4, .jsr 244] := rfl
theorem kb_222_244 : ex_blk 222 244 = [.iinc 7 1, .goto 128] := rfl
theorem kb_222_250 : ex_blk 222 250 = [.iinc 5 1, .goto 81] := rfl
theorem kb_222_256 : ex_blk 222 256 = [.goto 70] := rfl
theorem kb_222_259 : ex_blk 222 259 = [.aload 0, .getfield 754, .iload 2, .iaload, .sipush 268435456, .if_icmp .ne 274, .sipush (-1), .goto 280] := rfl
theorem kb_222_274 : ex_blk 222 274 = [.aload 0, .getfield 754, .iload 2, .iaload, .jsr 280] := rfl
theorem kb_222_280 : ex_blk 222 280 = [.ireturn] := rfl
theorem kb_223_0 : ex_blk 223 0 = [.aload 0, .iload 1, .invokevirtual 1617, .ifCond .ne 11, .sipush (-101), .ireturn] := rfl
theorem kb_223_11 : ex_blk 223 11 = [.iload 2, .sipush 0, .sipush 3, .invokestatic 1187, .ifCond .ne 23, .sipush (-102), .ireturn] := rfl
theorem kb_223_23 : ex_blk 223 23 = [.aload 0, .aload 0, .getfield 719, .iload 1, .iaload, .invokevirtual 1377, .istore 3, .aload 0, .aload 0, .iload 1, .invokevirtual 1401, .invokevirtual 1377, .istore 4, .aload 0, .aload 0, .getfield 719, .iload 1, .iaload, .invokevirtual 1425, .istore 5, .iload 2, .tableswitch 106 0 2 #[84, 86, 89]] := rfl
theorem kb_223_84 : ex_blk 223 84 = [.iload 3, .ireturn] := rfl
theorem kb_223_86 : ex_blk 223 86 = [.iload 4, .ireturn] := rfl
theorem kb_223_89 : ex_blk 223 89 = [.iload 5, .sipush (-1), .if_icmp .ne 99, .iload 3, .goto 105] := rfl
theorem kb_223_99 : ex_blk 223 99 = [.aload 0, .iload 5, .invokevirtual 1377, .jsr 105] := rfl
theorem kb_223_105 : ex_blk 223 105 = [.ireturn] := rfl
theorem kb_223_106 : ex_blk 223 106 = [.iload 3, .iload 4, .if_icmp .ne 116, .iload 3, .goto 117] := rfl
theorem kb_223_116 : ex_blk 223 116 = [.sipush (-1), .jsr 117] := rfl
theorem kb_223_117 : ex_blk 223 117 = [.ireturn] := rfl
theorem kb_224_0 : ex_blk 224 0 = [.iload 1, .sipush 0, .sipush 999, .invokestatic 1187, .ifCond .eq 35, .iload 2, .sipush 0, .sipush 99, .invokestatic 1187, .ifCond .eq 35, .iload 3, .sipush 0, .sipush 10, .invokestatic 1187, .ifCond .eq 35, .sipush 1, .goto 36] := rfl
theorem kb_224_35 : ex_blk 224 35 = [.sipush 0, .jsr 36] := rfl
theorem kb_224_36 : ex_blk 224 36 = [.istore 6, .iload 6, .ifCond .eq 64, .iload 4, .sipush 0, .sipush 99, .invokestatic 1187, .ifCond .eq 64, .iload 5, .sipush 0, .sipush 1, .invokestatic 1187, .ifCond .ne 67, .jsr 64] := rfl
theorem kb_224_64 : ex_blk 224 64 = [.sipush (-102), .ireturn] := rfl
theorem kb_224_67 : ex_blk 224 67 = [.sipush 0, .istore 7, .sipush 268435456, .istore 8, .sipush 1, .istore 9, .jsr 77] := rfl
theorem kb_224_77 : ex_blk 224 77 = [.iload 9, .sipush 21, .if_icmp .ge 160, .iload 1, .iload 2, .iload 9, .imul, .if_icmp .le 101, .iload 1, .iload 2, .iload 9, .imul, .isub, .goto 102] := rfl
theorem kb_224_101 : ex_blk 224 101 = [.sipush 0, .jsr 102] := rfl
theorem kb_224_102 : ex_blk 224 102 = [.istore 10, .iload 4, .iload 9, .imul, .iload 3, .iload 10, .imul, .sipush 9, .iadd, .sipush 10, .idiv, .iadd, .istore 11, .iload 11, .iload 8, .if_icmp .ge 134, .iload 9, .goto 136] := rfl
theorem kb_224_134 : ex_blk 224 134 = [.iload 7, .jsr 136] := rfl
theorem kb_224_136 : ex_blk 224 136 = [.istore 7, .iload 11, .iload 8, .if_icmp .ge 150, .iload 11, .goto 152] := rfl
theorem kb_224_150 : ex_blk 224 150 = [.iload 8, .jsr 152] := rfl
theorem kb_224_152 : ex_blk 224 152 = [.istore 8, .iinc 9 1, .goto 77] := rfl
theorem kb_224_160 : ex_blk 224 160 = [.iload 5, .ifCond .ne 170, .iload 7, .goto 172] := rfl
theorem kb_224_170 : ex_blk 224 170 = [.iload 8, .jsr 172] := rfl
theorem kb_224_172 : ex_blk 224 172 = [.ireturn] := rfl
theorem kb_225_0 : ex_blk 225 0 = [.aload 0, .getfield 706, .ifCond .ne 10, .sipush (-103), .ireturn] := rfl
theorem kb_225_10 : ex_blk 225 10 = [.iload 1, .sipush (-3), .sipush 3, .invokestatic 1187, .ifCond .ne 23, .sipush (-102), .ireturn] := rfl
theorem kb_225_23 : ex_blk 225 23 = [.aload 0, .iload 1, .putfield 753, .sipush 0, .istore 2, .sipush 0, .istore 3, .jsr 32] := rfl
theorem kb_225_32 : ex_blk 225 32 = [.iload 3, .aload 0, .getfield 715, .if_icmp .ge 64, .iload 2, .aload 0, .iload 3, .invokevirtual 1521, .ifCond .ne 53, .sipush 0, .goto 56] := rfl
theorem kb_225_53 : ex_blk 225 53 = [.sipush 1, .iload 3, .ishl, .jsr 56] := rfl
theorem kb_225_56 : ex_blk 225 56 = [.ior, .istore 2, .iinc 3 1, .goto 32] := rfl
theorem kb_225_64 : ex_blk 225 64 = [.aload 0, .sipush 0, .putfield 753, .iload 2, .ireturn] := rfl
theorem kb_226_0 : ex_blk 226 0 = [.aload 0, .iload 1, .invokevirtual 1361, .ifCond .ne 11, .sipush (-101), .ireturn] := rfl
theorem kb_226_11 : ex_blk 226 11 = [.iload 2, .sipush 0, .sipush 1, .invokestatic 1187, .ifCond .ne 23, .sipush (-102), .ireturn] := rfl
theorem kb_226_23 : ex_blk 226 23 = [.aload 0, .getfield 724, .sipush 10, .if_icmp .ne 35, .sipush (-104), .ireturn] := rfl
theorem kb_226_35 : ex_blk 226 35 = [.aload 0, .getfield 725, .aload 0, .getfield 724, .iload 1, .iastore, .aload 0, .getfield 726, .aload 0, .getfield 724, .iload 2, .iastore, .aload 0, .dup, .getfield 724, .sipush 1, .iadd, .putfield 724, .aload 0, .getfield 724, .ireturn] := rfl
theorem kb_227_0 : ex_blk 227 0 = [.sipush 0, .istore 1, .sipush (-3), .istore 2, .jsr 5] := rfl
theorem kb_227_5 : ex_blk 227 5 = [.iload 2, .sipush 4, .if_icmp .ge 88, .aload 0, .iload 2, .putfield 753, .sipush 1, .istore 3, .sipush 0, .istore 4, .jsr 20] := rfl
theorem kb_227_20 : ex_blk 227 20 = [.iload 4, .aload 0, .getfield 724, .if_icmp .ge 66, .iload 3, .ifCond .eq 58, .aload 0, .aload 0, .getfield 725, .iload 4, .iaload, .invokevirtual 1377, .aload 0, .getfield 726, .iload 4, .iaload, .if_icmp .ne 58, .sipush 1, .goto 59] := rfl
theorem kb_227_58 : ex_blk 227 58 = [.sipush 0, .jsr 59] := rfl
theorem kb_227_59 : ex_blk 227 59 = [.istore 3, .iinc 4 1, .goto 20] := rfl
theorem kb_227_66 : ex_blk 227 66 = [.iload 1, .iload 3, .ifCond .eq 79, .sipush 1, .iload 2, .sipush 3, .iadd, .ishl, .goto 80] := rfl
theorem kb_227_79 : ex_blk 227 79 = [.sipush 0, .jsr 80] := rfl
theorem kb_227_80 : ex_blk 227 80 = [.ior, .istore 1, .iinc 2 1, .goto 5] := rfl
theorem kb_227_88 : ex_blk 227 88 = [.aload 0, .sipush 0, .putfield 753, .iload 1, .ireturn] := rfl
theorem kb_228_0 : ex_blk 228 0 = [.aload 0, .getfield 706, .ifCond .ne 12, .sipush (-103), .goto 16] := rfl
theorem kb_228_12 : ex_blk 228 12 = [.aload 0, .invokevirtual 1816, .jsr 16] := rfl
theorem kb_228_16 : ex_blk 228 16 = [.ireturn] := rfl
theorem kb_229_0 : ex_blk 229 0 = [.aload 0, .getfield 706, .ifCond .ne 10, .sipush (-103), .ireturn] := rfl
theorem kb_229_10 : ex_blk 229 10 = [.aload 0, .sipush 1, .putfield 730, .aload 0, .aload 0, .getfield 706, .putfield 731, .aload 0, .aload 0, .getfield 717, .putfield 732, .aload 0, .aload 0, .getfield 715, .putfield 733, .aload 0, .aload 0, .getfield 721, .putfield 734, .aload 0, .aload 0, .getfield 724, .putfield 735, .sipush 0, .istore 1, .jsr 57] := rfl
theorem kb_229_57 : ex_blk 229 57 = [.iload 1, .sipush 3, .if_icmp .ge 114, .aload 0, .getfield 736, .sipush 3, .iload 1, .imul, .aload 0, .getfield 718, .iload 1, .iaload, .iastore, .aload 0, .getfield 736, .sipush 3, .iload 1, .imul, .sipush 1, .iadd, .aload 0, .getfield 719, .iload 1, .iaload, .iastore, .aload 0, .getfield 736, .sipush 3, .iload 1, .imul, .sipush 2, .iadd, .aload 0, .getfield 720, .iload 1, .iaload, .iastore, .iinc 1 1, .goto 57] := rfl
theorem kb_229_114 : ex_blk 229 114 = [.sipush 0, .istore 1, .jsr 116] := rfl
theorem kb_229_116 : ex_blk 229 116 = [.iload 1, .sipush 60, .if_icmp .ge 140, .aload 0, .getfield 737, .iload 1, .aload 0, .getfield 716, .iload 1, .iaload, .iastore, .iinc 1 1, .goto 116] := rfl
theorem kb_229_140 : ex_blk 229 140 = [.sipush 0, .istore 1, .jsr 142] := rfl
theorem kb_229_142 : ex_blk 229 142 = [.iload 1, .sipush 6, .if_icmp .ge 184, .aload 0, .getfield 738, .sipush 2, .iload 1, .imul, .aload 0, .getfield 722, .iload 1, .iaload, .iastore, .aload 0, .getfield 738, .sipush 2, .iload 1, .imul, .sipush 1, .iadd, .aload 0, .getfield 723, .iload 1, .iaload, .iastore, .iinc 1 1, .goto 142] := rfl
theorem kb_229_184 : ex_blk 229 184 = [.sipush 0, .istore 1, .jsr 186] := rfl
theorem kb_229_186 : ex_blk 229 186 = [.iload 1, .sipush 10, .if_icmp .ge 228, .aload 0, .getfield 739, .sipush 2, .iload 1, .imul, .aload 0, .getfield 725, .iload 1, .iaload, .iastore, .aload 0, .getfield 739, .sipush 2, .iload 1, .imul, .sipush 1, .iadd, .aload 0, .getfield 726, .iload 1, .iaload, .iastore, .iinc 1 1, .goto 186] := rfl
theorem kb_229_228 : ex_blk 229 228 = [.aload 0, .getfield 717, .ireturn] := rfl
theorem kb_230_0 : ex_blk 230 0 = [.aload 0, .getfield 730, .ifCond .eq 18, .aload 0, .getfield 731, .aload 0, .getfield 706, .if_icmp .eq 21, .jsr 18] := rfl
theorem kb_230_18 : ex_blk 230 18 = [.sipush (-103), .ireturn] := rfl
theorem kb_230_21 : ex_blk 230 21 = [.aload 0, .aload 0, .getfield 732, .putfield 717, .aload 0, .aload 0, .getfield 733, .putfield 715, .aload 0, .aload 0, .getfield 734, .putfield 721, .aload 0, .aload 0, .getfield 735, .putfield 724, .sipush 0, .istore 1, .jsr 55] := rfl
theorem kb_230_55 : ex_blk 230 55 = [.iload 1, .sipush 3, .if_icmp .ge 99, .aload 0, .iload 1, .aload 0, .getfield 736, .sipush 3, .iload 1, .imul, .iaload, .aload 0, .getfield 736, .sipush 3, .iload 1, .imul, .sipush 1, .iadd, .iaload, .aload 0, .getfield 736, .sipush 3, .iload 1, .imul, .sipush 2, .iadd, .iaload, .invokevirtual 1588, .iinc 1 1, .goto 55] := rfl
theorem kb_230_99 : ex_blk 230 99 = [.sipush 0, .istore 1, .jsr 101] := rfl
theorem kb_230_101 : ex_blk 230 101 = [.iload 1, .sipush 60, .if_icmp .ge 125, .aload 0, .getfield 716, .iload 1, .aload 0, .getfield 737, .iload 1, .iaload, .iastore, .iinc 1 1, .goto 101] := rfl
theorem kb_230_125 : ex_blk 230 125 = [.sipush 0, .istore 1, .jsr 127] := rfl
theorem kb_230_127 : ex_blk 230 127 = [.iload 1, .sipush 6, .if_icmp .ge 169, .aload 0, .getfield 722, .iload 1, .aload 0, .getfield 738, .sipush 2, .iload 1, .imul, .iaload, .iastore, .aload 0, .getfield 723, .iload 1, .aload 0, .getfield 738, .sipush 2, .iload 1, .imul, .sipush 1, .iadd, .iaload, .iastore, .iinc 1 1, .goto 127] := rfl
theorem kb_230_169 : ex_blk 230 169 = [.sipush 0, .istore 1, .jsr 171] := rfl
theorem kb_230_171 : ex_blk 230 171 = [.iload 1, .sipush 10, .if_icmp .ge 213, .aload 0, .getfield 725, .iload 1, .aload 0, .getfield 739, .sipush 2, .iload 1, .imul, .iaload, .iastore, .aload 0, .getfield 726, .iload 1, .aload 0, .getfield 739, .sipush 2, .iload 1, .imul, .sipush 1, .iadd, .iaload, .iastore, .iinc 1 1, .goto 171] := rfl
theorem kb_230_213 : ex_blk 230 213 = [.aload 0, .getfield 717, .ireturn] := rfl
theorem kb_231_0 : ex_blk 231 0 = [.iload 1, .tableswitch 97 0 8 #[52, 57, 62, 67, 72, 77, 82, 87, 92]] := rfl
theorem kb_231_52 : ex_blk 231 52 = [.aload 0, .invokevirtual 1352, .ireturn] := rfl
theorem kb_231_57 : ex_blk 231 57 = [.aload 0, .getfield 709, .ireturn] := rfl
theorem kb_231_62 : ex_blk 231 62 = [.aload 0, .getfield 715, .ireturn] := rfl
theorem kb_231_67 : ex_blk 231 67 = [.aload 0, .getfield 717, .ireturn] := rfl
theorem kb_231_72 : ex_blk 231 72 = [.aload 0, .getfield 721, .ireturn] := rfl
theorem kb_231_77 : ex_blk 231 77 = [.aload 0, .getfield 724, .ireturn] := rfl
theorem kb_231_82 : ex_blk 231 82 = [.aload 0, .getfield 728, .ireturn] := rfl
theorem kb_231_87 : ex_blk 231 87 = [.aload 0, .getfield 706, .ireturn] := rfl
theorem kb_231_92 : ex_blk 231 92 = [.aload 0, .getfield 727, .ireturn] := rfl
theorem kb_231_97 : ex_blk 231 97 = [.sipush (-102), .ireturn] := rfl
theorem kb_232_0 : ex_blk 232 0 = [.aload 0, .iload 1, .invokevirtual 1849, .ireturn] := rfl
theorem kb_233_0 : ex_blk 233 0 = [.aload 0, .goto_w 31, .aload 0, .getfield 761, .lmul, .lload 1, .ladd, .putfield 761, .return_] := rfl
theorem kb_234_0 : ex_blk 234 0 = [.sipush 0, .istore 1, .jsr 2] := rfl
theorem kb_234_2 : ex_blk 234 2 = [.iload 1, .aload 0, .invokevirtual 1352, .if_icmp .ge 40, .sipush 0, .istore 2, .jsr 12] := rfl
theorem kb_234_12 : ex_blk 234 12 = [.iload 2, .sipush 4, .if_icmp .ge 34, .aload 0, .aload 0, .iload 1, .iload 2, .invokevirtual 1434, .i2l, .invokevirtual 1865, .iinc 2 1, .goto 12] := rfl
theorem kb_234_34 : ex_blk 234 34 = [.iinc 1 1, .goto 2] := rfl
theorem kb_234_40 : ex_blk 234 40 = [.sipush 0, .istore 1, .jsr 42] := rfl
theorem kb_234_42 : ex_blk 234 42 = [.iload 1, .aload 0, .getfield 709, .if_icmp .ge 80, .sipush 0, .istore 2, .jsr 52] := rfl
theorem kb_234_52 : ex_blk 234 52 = [.iload 2, .sipush 5, .if_icmp .ge 74, .aload 0, .aload 0, .iload 1, .iload 2, .invokevirtual 1322, .i2l, .invokevirtual 1865, .iinc 2 1, .goto 52] := rfl
theorem kb_234_74 : ex_blk 234 74 = [.iinc 1 1, .goto 42] := rfl
theorem kb_234_80 : ex_blk 234 80 = [.sipush 0, .istore 1, .jsr 82] := rfl
theorem kb_234_82 : ex_blk 234 82 = [.iload 1, .aload 0, .getfield 715, .if_icmp .ge 134, .sipush 0, .istore 2, .jsr 92] := rfl
theorem kb_234_92 : ex_blk 234 92 = [.iload 2, .sipush 5, .if_icmp .ge 118, .aload 0, .aload 0, .getfield 716, .sipush 5, .iload 1, .imul, .iload 2, .iadd, .iaload, .i2l, .invokevirtual 1865, .iinc 2 1, .goto 92] := rfl
theorem kb_234_118 : ex_blk 234 118 = [.aload 0, .aload 0, .iload 1, .invokevirtual 1521, .i2l, .invokevirtual 1865, .iinc 1 1, .goto 82] := rfl
theorem kb_234_134 : ex_blk 234 134 = [.return_] := rfl
theorem kb_235_0 : ex_blk 235 0 = [.aload 0, .goto_w 521, .putfield 761, .aload 0, .invokevirtual 1872, .sipush 0, .istore 1, .jsr 13] := rfl
theorem kb_235_13 : ex_blk 235 13 = [.iload 1, .aload 0, .getfield 717, .if_icmp .ge 51, .sipush 0, .istore 2, .jsr 23] := rfl
theorem kb_235_23 : ex_blk 235 23 = [.iload 2, .sipush 4, .if_icmp .ge 45, .aload 0, .aload 0, .iload 1, .iload 2, .invokevirtual 1634, .i2l, .invokevirtual 1865, .iinc 2 1, .goto 23] := rfl
theorem kb_235_45 : ex_blk 235 45 = [.iinc 1 1, .goto 13] := rfl
theorem kb_235_51 : ex_blk 235 51 = [.sipush 0, .istore 1, .jsr 53] := rfl
theorem kb_235_53 : ex_blk 235 53 = [.iload 1, .aload 0, .getfield 721, .if_icmp .ge 89, .aload 0, .aload 0, .getfield 722, .iload 1, .iaload, .i2l, .invokevirtual 1865, .aload 0, .aload 0, .getfield 723, .iload 1, .iaload, .i2l, .invokevirtual 1865, .iinc 1 1, .goto 53] := rfl
theorem kb_235_89 : ex_blk 235 89 = [.aload 0, .aload 0, .invokevirtual 1696, .i2l, .invokevirtual 1865, .sipush 0, .istore 1, .jsr 100] := rfl
theorem kb_235_100 : ex_blk 235 100 = [.iload 1, .aload 0, .getfield 724, .if_icmp .ge 136, .aload 0, .aload 0, .getfield 725, .iload 1, .iaload, .i2l, .invokevirtual 1865, .aload 0, .aload 0, .getfield 726, .iload 1, .iaload, .i2l, .invokevirtual 1865, .iinc 1 1, .goto 100] := rfl
theorem kb_235_136 : ex_blk 235 136 = [.aload 0, .getfield 706, .ifCond .le 152, .aload 0, .aload 0, .invokevirtual 1816, .i2l, .invokevirtual 1865, .jsr 152] := rfl
theorem kb_235_152 : ex_blk 235 152 = [.sipush 0, .istore 1, .jsr 154] := rfl
theorem kb_235_154 : ex_blk 235 154 = [.iload 1, .aload 0, .getfield 728, .if_icmp .ge 179, .aload 0, .aload 0, .getfield 729, .iload 1, .baload, .i2l, .invokevirtual 1865, .iinc 1 1, .goto 154] := rfl
theorem kb_235_179 : ex_blk 235 179 = [.sipush 0, .istore 1, .jsr 181] := rfl
theorem kb_235_181 : ex_blk 235 181 = [.iload 1, .sipush 9, .if_icmp .ge 203, .aload 0, .aload 0, .iload 1, .invokevirtual 1849, .i2l, .invokevirtual 1865, .iinc 1 1, .goto 181] := rfl
theorem kb_235_203 : ex_blk 235 203 = [.aload 0, .getfield 761, .lreturn] := rfl
theorem kr_0 : ex_ret 0 = none := rfl
theorem ke_0 {d : Nat} {o : Nat} {w : PW} (h : ex_cls o = 0) : ex_cal (d + 1) 0 [.ref o] w = ex_ev d (ex_cal d) 0 (ex_blk 0 0, [.ref o], [], w) := by
  rw [ex_cal_s (by simp [ex_okR, ex_isv, ex_lay, h, show ex_C 0 = 0 from rfl, show ex_L 0 = 1 from rfl])]
  rfl
theorem kr_1 : ex_ret 1 = none := rfl
theorem ke_1 {d : Nat} {o : Nat} {a0 : Nat} {w : PW} (h : ex_cls o = 0) : ex_cal (d + 1) 1 [.ref o, .ref a0] w = ex_ev d (ex_cal d) 1 (ex_blk 1 0, [.ref o, .ref a0], [], w) := by
  rw [ex_cal_s (by simp [ex_okR, ex_isv, ex_lay, h, show ex_C 1 = 0 from rfl, show ex_L 1 = 2 from rfl])]
  rfl
theorem kr_2 : ex_ret 2 = some .boolean := rfl
theorem ke_2 {d : Nat} {a0 : Int32} {a1 : Int32} {w : PW} : ex_cal (d + 1) 2 [.int a0, .int a1] w = ex_ev d (ex_cal d) 2 (ex_blk 2 0, [.int a0, .int a1], [], w) := by
  rw [ex_cal_s (rfl)]
  rfl
theorem kr_3 : ex_ret 3 = some .int := rfl
theorem ke_3 {d : Nat} {o : Nat} {a0 : Int32} {w : PW} (h : ex_cls o = 0) : ex_cal (d + 1) 3 [.ref o, .int a0] w = ex_ev d (ex_cal d) 3 (ex_blk 3 0, [.ref o, .int a0], [], w) := by
  rw [ex_cal_s (by simp [ex_okR, ex_isv, ex_lay, h, show ex_C 3 = 0 from rfl, show ex_L 3 = 2 from rfl])]
  rfl
theorem kr_4 : ex_ret 4 = some .int := rfl
theorem ke_4 {d : Nat} {o : Nat} {a0 : Int32} {w : PW} (h : ex_cls o = 0) : ex_cal (d + 1) 4 [.ref o, .int a0] w = ex_ev d (ex_cal d) 4 (ex_blk 4 0, [.ref o, .int a0], [], w) := by
  rw [ex_cal_s (by simp [ex_okR, ex_isv, ex_lay, h, show ex_C 4 = 0 from rfl, show ex_L 4 = 2 from rfl])]
  rfl
theorem kr_5 : ex_ret 5 = some .int := rfl
theorem ke_5 {d : Nat} {o : Nat} {a0 : Int32} {w : PW} (h : ex_cls o = 0) : ex_cal (d + 1) 5 [.ref o, .int a0] w = ex_ev d (ex_cal d) 5 (ex_blk 5 0, [.ref o, .int a0], [], w) := by
  rw [ex_cal_s (by simp [ex_okR, ex_isv, ex_lay, h, show ex_C 5 = 0 from rfl, show ex_L 5 = 2 from rfl])]
  rfl
theorem kr_6 : ex_ret 6 = some .int := rfl
theorem ke_6 {d : Nat} {o : Nat} {a0 : Int32} {w : PW} (h : ex_cls o = 0) : ex_cal (d + 1) 6 [.ref o, .int a0] w = ex_ev d (ex_cal d) 6 (ex_blk 6 0, [.ref o, .int a0], [], w) := by
  rw [ex_cal_s (by simp [ex_okR, ex_isv, ex_lay, h, show ex_C 6 = 0 from rfl, show ex_L 6 = 2 from rfl])]
  rfl
theorem kr_7 : ex_ret 7 = none := rfl
theorem ke_7 {d : Nat} {o : Nat} {a0 : Int32} {a1 : Int32} {a2 : Int32} {w : PW} (h : ex_cls o = 0) : ex_cal (d + 1) 7 [.ref o, .int a0, .int a1, .int a2] w = ex_ev d (ex_cal d) 7 (ex_blk 7 0, [.ref o, .int a0, .int a1, .int a2], [], w) := by
  rw [ex_cal_s (by simp [ex_okR, ex_isv, ex_lay, h, show ex_C 7 = 0 from rfl, show ex_L 7 = 4 from rfl])]
  rfl
theorem kr_8 : ex_ret 8 = some .int := rfl
theorem ke_8 {d : Nat} {o : Nat} {a0 : Nat} {a1 : Int32} {w : PW} (h : ex_cls o = 0) : ex_cal (d + 1) 8 [.ref o, .ref a0, .int a1] w = ex_ev d (ex_cal d) 8 (ex_blk 8 0, [.ref o, .ref a0, .int a1, .null], [], w) := by
  rw [ex_cal_s (by simp [ex_okR, ex_isv, ex_lay, h, show ex_C 8 = 0 from rfl, show ex_L 8 = 4 from rfl])]
  rfl
theorem kr_9 : ex_ret 9 = some .int := rfl
theorem ke_9 {d : Nat} {o : Nat} {a0 : Nat} {a1 : Int32} {w : PW} (h : ex_cls o = 0) : ex_cal (d + 1) 9 [.ref o, .ref a0, .int a1] w = ex_ev d (ex_cal d) 9 (ex_blk 9 0, [.ref o, .ref a0, .int a1, .null, .null], [], w) := by
  rw [ex_cal_s (by simp [ex_okR, ex_isv, ex_lay, h, show ex_C 9 = 0 from rfl, show ex_L 9 = 5 from rfl])]
  rfl
theorem kr_10 : ex_ret 10 = some .int := rfl
theorem ke_10 {d : Nat} {o : Nat} {a0 : Nat} {a1 : Int32} {w : PW} (h : ex_cls o = 0) : ex_cal (d + 1) 10 [.ref o, .ref a0, .int a1] w = ex_ev d (ex_cal d) 10 (ex_blk 10 0, [.ref o, .ref a0, .int a1, .null], [], w) := by
  rw [ex_cal_s (by simp [ex_okR, ex_isv, ex_lay, h, show ex_C 10 = 0 from rfl, show ex_L 10 = 4 from rfl])]
  rfl
theorem kr_11 : ex_ret 11 = none := rfl
theorem ke_11 {d : Nat} {o : Nat} {a0 : Nat} {w : PW} (h : ex_cls o = 1) : ex_cal (d + 1) 11 [.ref o, .ref a0] w = ex_ev d (ex_cal d) 11 (ex_blk 11 0, [.ref o, .ref a0, .null, .null, .null, .null], [], w) := by
  rw [ex_cal_s (by simp [ex_okR, ex_isv, ex_lay, h, show ex_C 11 = 1 from rfl, show ex_L 11 = 6 from rfl])]
  rfl
theorem kr_12 : ex_ret 12 = none := rfl
theorem ke_12 {d : Nat} {o : Nat} {a0 : Int32} {a1 : Int32} {w : PW} (h : ex_cls o = 1) : ex_cal (d + 1) 12 [.ref o, .int a0, .int a1] w = ex_ev d (ex_cal d) 12 (ex_blk 12 0, [.ref o, .int a0, .int a1], [], w) := by
  rw [ex_cal_s (by simp [ex_okR, ex_isv, ex_lay, h, show ex_C 12 = 1 from rfl, show ex_L 12 = 3 from rfl])]
  rfl
theorem kr_13 : ex_ret 13 = none := rfl
theorem ke_13 {d : Nat} {o : Nat} {a0 : Int32} {a1 : Int32} {a2 : Int32} {w : PW} (h : ex_cls o = 1) : ex_cal (d + 1) 13 [.ref o, .int a0, .int a1, .int a2] w = ex_ev d (ex_cal d) 13 (ex_blk 13 0, [.ref o, .int a0, .int a1, .int a2], [], w) := by
  rw [ex_cal_s (by simp [ex_okR, ex_isv, ex_lay, h, show ex_C 13 = 1 from rfl, show ex_L 13 = 4 from rfl])]
  rfl
theorem kr_14 : ex_ret 14 = none := rfl
theorem ke_14 {d : Nat} {o : Nat} {w : PW} (h : ex_cls o = 1) : ex_cal (d + 1) 14 [.ref o] w = ex_ev d (ex_cal d) 14 (ex_blk 14 0, [.ref o, .null], [], w) := by
  rw [ex_cal_s (by simp [ex_okR, ex_isv, ex_lay, h, show ex_C 14 = 1 from rfl, show ex_L 14 = 2 from rfl])]
  rfl
theorem kr_15 : ex_ret 15 = none := rfl
theorem ke_15 {d : Nat} {o : Nat} {a0 : Int32} {a1 : Int32} {a2 : Int32} {w : PW} (h : ex_cls o = 1) : ex_cal (d + 1) 15 [.ref o, .int a0, .int a1, .int a2] w = ex_ev d (ex_cal d) 15 (ex_blk 15 0, [.ref o, .int a0, .int a1, .int a2, .null], [], w) := by
  rw [ex_cal_s (by simp [ex_okR, ex_isv, ex_lay, h, show ex_C 15 = 1 from rfl, show ex_L 15 = 5 from rfl])]
  rfl
theorem kr_16 : ex_ret 16 = some .int := rfl
theorem ke_16 {d : Nat} {o : Nat} {a0 : Int32} {a1 : Int32} {w : PW} (h : ex_cls o = 1) : ex_cal (d + 1) 16 [.ref o, .int a0, .int a1] w = ex_ev d (ex_cal d) 16 (ex_blk 16 0, [.ref o, .int a0, .int a1], [], w) := by
  rw [ex_cal_s (by simp [ex_okR, ex_isv, ex_lay, h, show ex_C 16 = 1 from rfl, show ex_L 16 = 3 from rfl])]
  rfl
theorem kr_17 : ex_ret 17 = none := rfl
theorem ke_17 {d : Nat} {o : Nat} {w : PW} (h : ex_cls o = 1) : ex_cal (d + 1) 17 [.ref o] w = ex_ev d (ex_cal d) 17 (ex_blk 17 0, [.ref o, .null], [], w) := by
  rw [ex_cal_s (by simp [ex_okR, ex_isv, ex_lay, h, show ex_C 17 = 1 from rfl, show ex_L 17 = 2 from rfl])]
  rfl
theorem kr_18 : ex_ret 18 = none := rfl
theorem ke_18 {d : Nat} {o : Nat} {a0 : Int32} {w : PW} (h : ex_cls o = 1) : ex_cal (d + 1) 18 [.ref o, .int a0] w = ex_ev d (ex_cal d) 18 (ex_blk 18 0, [.ref o, .int a0, .null], [], w) := by
  rw [ex_cal_s (by simp [ex_okR, ex_isv, ex_lay, h, show ex_C 18 = 1 from rfl, show ex_L 18 = 3 from rfl])]
  rfl
theorem kr_19 : ex_ret 19 = some .boolean := rfl
theorem ke_19 {d : Nat} {o : Nat} {w : PW} (h : ex_cls o = 1) : ex_cal (d + 1) 19 [.ref o] w = ex_ev d (ex_cal d) 19 (ex_blk 19 0, [.ref o], [], w) := by
  rw [ex_cal_s (by simp [ex_okR, ex_isv, ex_lay, h, show ex_C 19 = 1 from rfl, show ex_L 19 = 1 from rfl])]
  rfl
theorem kr_20 : ex_ret 20 = some .int := rfl
theorem ke_20 {d : Nat} {o : Nat} {w : PW} (h : ex_cls o = 1) : ex_cal (d + 1) 20 [.ref o] w = ex_ev d (ex_cal d) 20 (ex_blk 20 0, [.ref o], [], w) := by
  rw [ex_cal_s (by simp [ex_okR, ex_isv, ex_lay, h, show ex_C 20 = 1 from rfl, show ex_L 20 = 1 from rfl])]
  rfl
theorem kr_21 : ex_ret 21 = some .boolean := rfl
theorem ke_21 {d : Nat} {o : Nat} {a0 : Int32} {w : PW} (h : ex_cls o = 1) : ex_cal (d + 1) 21 [.ref o, .int a0] w = ex_ev d (ex_cal d) 21 (ex_blk 21 0, [.ref o, .int a0], [], w) := by
  rw [ex_cal_s (by simp [ex_okR, ex_isv, ex_lay, h, show ex_C 21 = 1 from rfl, show ex_L 21 = 2 from rfl])]
  rfl
theorem kr_22 : ex_ret 22 = some .int := rfl
theorem ke_22 {d : Nat} {o : Nat} {a0 : Int32} {w : PW} (h : ex_cls o = 1) : ex_cal (d + 1) 22 [.ref o, .int a0] w = ex_ev d (ex_cal d) 22 (ex_blk 22 0, [.ref o, .int a0], [], w) := by
  rw [ex_cal_s (by simp [ex_okR, ex_isv, ex_lay, h, show ex_C 22 = 1 from rfl, show ex_L 22 = 2 from rfl])]
  rfl
theorem kr_23 : ex_ret 23 = some .boolean := rfl
theorem ke_23 {d : Nat} {o : Nat} {a0 : Int32} {w : PW} (h : ex_cls o = 1) : ex_cal (d + 1) 23 [.ref o, .int a0] w = ex_ev d (ex_cal d) 23 (ex_blk 23 0, [.ref o, .int a0], [], w) := by
  rw [ex_cal_s (by simp [ex_okR, ex_isv, ex_lay, h, show ex_C 23 = 1 from rfl, show ex_L 23 = 2 from rfl])]
  rfl
theorem kr_24 : ex_ret 24 = some .boolean := rfl
theorem ke_24 {d : Nat} {o : Nat} {a0 : Int32} {w : PW} (h : ex_cls o = 1) : ex_cal (d + 1) 24 [.ref o, .int a0] w = ex_ev d (ex_cal d) 24 (ex_blk 24 0, [.ref o, .int a0], [], w) := by
  rw [ex_cal_s (by simp [ex_okR, ex_isv, ex_lay, h, show ex_C 24 = 1 from rfl, show ex_L 24 = 2 from rfl])]
  rfl
theorem kr_25 : ex_ret 25 = some .int := rfl
theorem ke_25 {d : Nat} {o : Nat} {a0 : Int32} {a1 : Int32} {w : PW} (h : ex_cls o = 1) : ex_cal (d + 1) 25 [.ref o, .int a0, .int a1] w = ex_ev d (ex_cal d) 25 (ex_blk 25 0, [.ref o, .int a0, .int a1], [], w) := by
  rw [ex_cal_s (by simp [ex_okR, ex_isv, ex_lay, h, show ex_C 25 = 1 from rfl, show ex_L 25 = 3 from rfl])]
  rfl
theorem kr_26 : ex_ret 26 = some .int := rfl
theorem ke_26 {d : Nat} {o : Nat} {a0 : Int32} {a1 : Int32} {w : PW} (h : ex_cls o = 1) : ex_cal (d + 1) 26 [.ref o, .int a0, .int a1] w = ex_ev d (ex_cal d) 26 (ex_blk 26 0, [.ref o, .int a0, .int a1, .null], [], w) := by
  rw [ex_cal_s (by simp [ex_okR, ex_isv, ex_lay, h, show ex_C 26 = 1 from rfl, show ex_L 26 = 4 from rfl])]
  rfl
theorem kr_27 : ex_ret 27 = some .int := rfl
theorem ke_27 {d : Nat} {o : Nat} {a0 : Int32} {a1 : Int32} {a2 : Int32} {w : PW} (h : ex_cls o = 1) : ex_cal (d + 1) 27 [.ref o, .int a0, .int a1, .int a2] w = ex_ev d (ex_cal d) 27 (ex_blk 27 0, [.ref o, .int a0, .int a1, .int a2, .null], [], w) := by
  rw [ex_cal_s (by simp [ex_okR, ex_isv, ex_lay, h, show ex_C 27 = 1 from rfl, show ex_L 27 = 5 from rfl])]
  rfl
theorem kr_28 : ex_ret 28 = some .int := rfl
theorem ke_28 {d : Nat} {o : Nat} {a0 : Int32} {w : PW} (h : ex_cls o = 1) : ex_cal (d + 1) 28 [.ref o, .int a0] w = ex_ev d (ex_cal d) 28 (ex_blk 28 0, [.ref o, .int a0], [], w) := by
  rw [ex_cal_s (by simp [ex_okR, ex_isv, ex_lay, h, show ex_C 28 = 1 from rfl, show ex_L 28 = 2 from rfl])]
  rfl
theorem kr_29 : ex_ret 29 = some .int := rfl
theorem ke_29 {d : Nat} {o : Nat} {a0 : Int32} {w : PW} (h : ex_cls o = 1) : ex_cal (d + 1) 29 [.ref o, .int a0] w = ex_ev d (ex_cal d) 29 (ex_blk 29 0, [.ref o, .int a0, .null], [], w) := by
  rw [ex_cal_s (by simp [ex_okR, ex_isv, ex_lay, h, show ex_C 29 = 1 from rfl, show ex_L 29 = 3 from rfl])]
  rfl
theorem kr_30 : ex_ret 30 = some .int := rfl
theorem ke_30 {d : Nat} {o : Nat} {a0 : Int32} {a1 : Int32} {w : PW} (h : ex_cls o = 1) : ex_cal (d + 1) 30 [.ref o, .int a0, .int a1] w = ex_ev d (ex_cal d) 30 (ex_blk 30 0, [.ref o, .int a0, .int a1], [], w) := by
  rw [ex_cal_s (by simp [ex_okR, ex_isv, ex_lay, h, show ex_C 30 = 1 from rfl, show ex_L 30 = 3 from rfl])]
  rfl
theorem kr_31 : ex_ret 31 = some .int := rfl
theorem ke_31 {d : Nat} {o : Nat} {a0 : Int32} {a1 : Int32} {a2 : Int32} {a3 : Int32} {w : PW} (h : ex_cls o = 1) : ex_cal (d + 1) 31 [.ref o, .int a0, .int a1, .int a2, .int a3] w = ex_ev d (ex_cal d) 31 (ex_blk 31 0, [.ref o, .int a0, .int a1, .int a2, .int a3], [], w) := by
  rw [ex_cal_s (by simp [ex_okR, ex_isv, ex_lay, h, show ex_C 31 = 1 from rfl, show ex_L 31 = 5 from rfl])]
  rfl
theorem kr_32 : ex_ret 32 = none := rfl
theorem ke_32 {d : Nat} {o : Nat} {a0 : Int32} {a1 : Int32} {a2 : Int32} {w : PW} (h : ex_cls o = 1) : ex_cal (d + 1) 32 [.ref o, .int a0, .int a1, .int a2] w = ex_ev d (ex_cal d) 32 (ex_blk 32 0, [.ref o, .int a0, .int a1, .int a2, .null, .null, .null, .null], [], w) := by
  rw [ex_cal_s (by simp [ex_okR, ex_isv, ex_lay, h, show ex_C 32 = 1 from rfl, show ex_L 32 = 8 from rfl])]
  rfl
theorem kr_33 : ex_ret 33 = some .boolean := rfl
theorem ke_33 {d : Nat} {o : Nat} {a0 : Int32} {a1 : Int32} {w : PW} (h : ex_cls o = 1) : ex_cal (d + 1) 33 [.ref o, .int a0, .int a1] w = ex_ev d (ex_cal d) 33 (ex_blk 33 0, [.ref o, .int a0, .int a1, .null, .null, .null, .null], [], w) := by
  rw [ex_cal_s (by simp [ex_okR, ex_isv, ex_lay, h, show ex_C 33 = 1 from rfl, show ex_L 33 = 7 from rfl])]
  rfl
theorem kr_34 : ex_ret 34 = none := rfl
theorem ke_34 {d : Nat} {o : Nat} {w : PW} (h : ex_cls o = 2) : ex_cal (d + 1) 34 [.ref o] w = ex_ev d (ex_cal d) 34 (ex_blk 34 0, [.ref o], [], w) := by
  rw [ex_cal_s (by simp [ex_okR, ex_isv, ex_lay, h, show ex_C 34 = 2 from rfl, show ex_L 34 = 1 from rfl])]
  rfl
theorem kr_35 : ex_ret 35 = some .boolean := rfl
theorem ke_35 {d : Nat} {o : Nat} {a0 : Int32} {w : PW} (h : ex_cls o = 2) : ex_cal (d + 1) 35 [.ref o, .int a0] w = ex_ev d (ex_cal d) 35 (ex_blk 35 0, [.ref o, .int a0], [], w) := by
  rw [ex_cal_s (by simp [ex_okR, ex_isv, ex_lay, h, show ex_C 35 = 2 from rfl, show ex_L 35 = 2 from rfl])]
  rfl
theorem kr_36 : ex_ret 36 = some .boolean := rfl
theorem ke_36 {d : Nat} {o : Nat} {w : PW} (h : ex_cls o = 2) : ex_cal (d + 1) 36 [.ref o] w = ex_ev d (ex_cal d) 36 (ex_blk 36 0, [.ref o], [], w) := by
  rw [ex_cal_s (by simp [ex_okR, ex_isv, ex_lay, h, show ex_C 36 = 2 from rfl, show ex_L 36 = 1 from rfl])]
  rfl
theorem kr_37 : ex_ret 37 = some .boolean := rfl
theorem ke_37 {d : Nat} {o : Nat} {w : PW} (h : ex_cls o = 2) : ex_cal (d + 1) 37 [.ref o] w = ex_ev d (ex_cal d) 37 (ex_blk 37 0, [.ref o], [], w) := by
  rw [ex_cal_s (by simp [ex_okR, ex_isv, ex_lay, h, show ex_C 37 = 2 from rfl, show ex_L 37 = 1 from rfl])]
  rfl
theorem kr_38 : ex_ret 38 = some .boolean := rfl
theorem ke_38 {d : Nat} {o : Nat} {w : PW} (h : ex_cls o = 2) : ex_cal (d + 1) 38 [.ref o] w = ex_ev d (ex_cal d) 38 (ex_blk 38 0, [.ref o], [], w) := by
  rw [ex_cal_s (by simp [ex_okR, ex_isv, ex_lay, h, show ex_C 38 = 2 from rfl, show ex_L 38 = 1 from rfl])]
  rfl
theorem kr_39 : ex_ret 39 = some .boolean := rfl
theorem ke_39 {d : Nat} {o : Nat} {w : PW} (h : ex_cls o = 2) : ex_cal (d + 1) 39 [.ref o] w = ex_ev d (ex_cal d) 39 (ex_blk 39 0, [.ref o], [], w) := by
  rw [ex_cal_s (by simp [ex_okR, ex_isv, ex_lay, h, show ex_C 39 = 2 from rfl, show ex_L 39 = 1 from rfl])]
  rfl
theorem kr_40 : ex_ret 40 = some .boolean := rfl
theorem ke_40 {d : Nat} {o : Nat} {w : PW} (h : ex_cls o = 2) : ex_cal (d + 1) 40 [.ref o] w = ex_ev d (ex_cal d) 40 (ex_blk 40 0, [.ref o], [], w) := by
  rw [ex_cal_s (by simp [ex_okR, ex_isv, ex_lay, h, show ex_C 40 = 2 from rfl, show ex_L 40 = 1 from rfl])]
  rfl
theorem kr_41 : ex_ret 41 = none := rfl
theorem ke_41 {d : Nat} {o : Nat} {a0 : Nat} {a1 : Nat} {a2 : Nat} {w : PW} (h : ex_cls o = 3) : ex_cal (d + 1) 41 [.ref o, .ref a0, .ref a1, .ref a2] w = ex_ev d (ex_cal d) 41 (ex_blk 41 0, [.ref o, .ref a0, .ref a1, .ref a2, .null, .null], [], w) := by
  rw [ex_cal_s (by simp [ex_okR, ex_isv, ex_lay, h, show ex_C 41 = 3 from rfl, show ex_L 41 = 6 from rfl])]
  rfl
theorem kr_42 : ex_ret 42 = none := rfl
theorem ke_42 {d : Nat} {o : Nat} {a0 : Nat} {a1 : Nat} {a2 : Int32} {a3 : Int32} {w : PW} (h : ex_cls o = 3) : ex_cal (d + 1) 42 [.ref o, .ref a0, .ref a1, .int a2, .int a3] w = ex_ev d (ex_cal d) 42 (ex_blk 42 0, [.ref o, .ref a0, .ref a1, .int a2, .int a3, .null, .null, .null], [], w) := by
  rw [ex_cal_s (by simp [ex_okR, ex_isv, ex_lay, h, show ex_C 42 = 3 from rfl, show ex_L 42 = 8 from rfl])]
  rfl
theorem kr_43 : ex_ret 43 = some .int := rfl
theorem ke_43 {d : Nat} {a0 : Int32} {w : PW} : ex_cal (d + 1) 43 [.int a0] w = ex_ev d (ex_cal d) 43 (ex_blk 43 0, [.int a0], [], w) := by
  rw [ex_cal_s (rfl)]
  rfl
theorem kr_44 : ex_ret 44 = none := rfl
theorem ke_44 {d : Nat} {o : Nat} {a0 : Nat} {a1 : Int32} {a2 : Int32} {a3 : Int32} {w : PW} (h : ex_cls o = 3) : ex_cal (d + 1) 44 [.ref o, .ref a0, .int a1, .int a2, .int a3] w = ex_ev d (ex_cal d) 44 (ex_blk 44 0, [.ref o, .ref a0, .int a1, .int a2, .int a3, .null], [], w) := by
  rw [ex_cal_s (by simp [ex_okR, ex_isv, ex_lay, h, show ex_C 44 = 3 from rfl, show ex_L 44 = 6 from rfl])]
  rfl
theorem kr_45 : ex_ret 45 = none := rfl
theorem ke_45 {d : Nat} {o : Nat} {a0 : Int32} {a1 : Int32} {a2 : Int32} {w : PW} (h : ex_cls o = 3) : ex_cal (d + 1) 45 [.ref o, .int a0, .int a1, .int a2] w = ex_ev d (ex_cal d) 45 (ex_blk 45 0, [.ref o, .int a0, .int a1, .int a2], [], w) := by
  rw [ex_cal_s (by simp [ex_okR, ex_isv, ex_lay, h, show ex_C 45 = 3 from rfl, show ex_L 45 = 4 from rfl])]
  rfl
theorem kr_46 : ex_ret 46 = some .int := rfl
theorem ke_46 {d : Nat} {o : Nat} {w : PW} (h : ex_cls o = 3) : ex_cal (d + 1) 46 [.ref o] w = ex_ev d (ex_cal d) 46 (ex_blk 46 0, [.ref o], [], w) := by
  rw [ex_cal_s (by simp [ex_okR, ex_isv, ex_lay, h, show ex_C 46 = 3 from rfl, show ex_L 46 = 1 from rfl])]
  rfl
theorem kr_47 : ex_ret 47 = some .int := rfl
theorem ke_47 {d : Nat} {o : Nat} {a0 : Int32} {w : PW} (h : ex_cls o = 3) : ex_cal (d + 1) 47 [.ref o, .int a0] w = ex_ev d (ex_cal d) 47 (ex_blk 47 0, [.ref o, .int a0], [], w) := by
  rw [ex_cal_s (by simp [ex_okR, ex_isv, ex_lay, h, show ex_C 47 = 3 from rfl, show ex_L 47 = 2 from rfl])]
  rfl
theorem kr_48 : ex_ret 48 = some .boolean := rfl
theorem ke_48 {d : Nat} {o : Nat} {a0 : Int32} {w : PW} (h : ex_cls o = 3) : ex_cal (d + 1) 48 [.ref o, .int a0] w = ex_ev d (ex_cal d) 48 (ex_blk 48 0, [.ref o, .int a0], [], w) := by
  rw [ex_cal_s (by simp [ex_okR, ex_isv, ex_lay, h, show ex_C 48 = 3 from rfl, show ex_L 48 = 2 from rfl])]
  rfl
theorem kr_49 : ex_ret 49 = some .boolean := rfl
theorem ke_49 {d : Nat} {o : Nat} {a0 : Int32} {a1 : Int32} {a2 : Int32} {a3 : Int32} {w : PW} (h : ex_cls o = 3) : ex_cal (d + 1) 49 [.ref o, .int a0, .int a1, .int a2, .int a3] w = ex_ev d (ex_cal d) 49 (ex_blk 49 0, [.ref o, .int a0, .int a1, .int a2, .int a3, .null, .null], [], w) := by
  rw [ex_cal_s (by simp [ex_okR, ex_isv, ex_lay, h, show ex_C 49 = 3 from rfl, show ex_L 49 = 7 from rfl])]
  rfl
theorem kr_50 : ex_ret 50 = some .boolean := rfl
theorem ke_50 {d : Nat} {o : Nat} {a0 : Int32} {a1 : Int32} {w : PW} (h : ex_cls o = 3) : ex_cal (d + 1) 50 [.ref o, .int a0, .int a1] w = ex_ev d (ex_cal d) 50 (ex_blk 50 0, [.ref o, .int a0, .int a1], [], w) := by
  rw [ex_cal_s (by simp [ex_okR, ex_isv, ex_lay, h, show ex_C 50 = 3 from rfl, show ex_L 50 = 3 from rfl])]
  rfl
theorem kr_51 : ex_ret 51 = some .int := rfl
theorem ke_51 {d : Nat} {o : Nat} {a0 : Int32} {a1 : Int32} {w : PW} (h : ex_cls o = 3) : ex_cal (d + 1) 51 [.ref o, .int a0, .int a1] w = ex_ev d (ex_cal d) 51 (ex_blk 51 0, [.ref o, .int a0, .int a1, .null], [], w) := by
  rw [ex_cal_s (by simp [ex_okR, ex_isv, ex_lay, h, show ex_C 51 = 3 from rfl, show ex_L 51 = 4 from rfl])]
  rfl
theorem kr_52 : ex_ret 52 = some .boolean := rfl
theorem ke_52 {d : Nat} {o : Nat} {w : PW} (h : ex_cls o = 3) : ex_cal (d + 1) 52 [.ref o] w = ex_ev d (ex_cal d) 52 (ex_blk 52 0, [.ref o, .null, .null, .null], [], w) := by
  rw [ex_cal_s (by simp [ex_okR, ex_isv, ex_lay, h, show ex_C 52 = 3 from rfl, show ex_L 52 = 4 from rfl])]
  rfl
theorem kr_53 : ex_ret 53 = none := rfl
theorem ke_53 {d : Nat} {o : Nat} {w : PW} (h : ex_cls o = 4) : ex_cal (d + 1) 53 [.ref o] w = ex_ev d (ex_cal d) 53 (ex_blk 53 0, [.ref o], [], w) := by
  rw [ex_cal_s (by simp [ex_okR, ex_isv, ex_lay, h, show ex_C 53 = 4 from rfl, show ex_L 53 = 1 from rfl])]
  rfl
theorem kr_54 : ex_ret 54 = some .boolean := rfl
theorem ke_54 {d : Nat} {o : Nat} {a0 : Int32} {w : PW} (h : ex_cls o = 4) : ex_cal (d + 1) 54 [.ref o, .int a0] w = ex_ev d (ex_cal d) 54 (ex_blk 54 0, [.ref o, .int a0], [], w) := by
  rw [ex_cal_s (by simp [ex_okR, ex_isv, ex_lay, h, show ex_C 54 = 4 from rfl, show ex_L 54 = 2 from rfl])]
  rfl
theorem kr_55 : ex_ret 55 = some .boolean := rfl
theorem ke_55 {d : Nat} {o : Nat} {a0 : Int32} {w : PW} (h : ex_cls o = 4) : ex_cal (d + 1) 55 [.ref o, .int a0] w = ex_ev d (ex_cal d) 55 (ex_blk 55 0, [.ref o, .int a0], [], w) := by
  rw [ex_cal_s (by simp [ex_okR, ex_isv, ex_lay, h, show ex_C 55 = 4 from rfl, show ex_L 55 = 2 from rfl])]
  rfl
theorem kr_56 : ex_ret 56 = some .boolean := rfl
theorem ke_56 {d : Nat} {o : Nat} {a0 : Int32} {w : PW} (h : ex_cls o = 4) : ex_cal (d + 1) 56 [.ref o, .int a0] w = ex_ev d (ex_cal d) 56 (ex_blk 56 0, [.ref o, .int a0], [], w) := by
  rw [ex_cal_s (by simp [ex_okR, ex_isv, ex_lay, h, show ex_C 56 = 4 from rfl, show ex_L 56 = 2 from rfl])]
  rfl
theorem kr_57 : ex_ret 57 = some .boolean := rfl
theorem ke_57 {d : Nat} {o : Nat} {a0 : Int32} {w : PW} (h : ex_cls o = 4) : ex_cal (d + 1) 57 [.ref o, .int a0] w = ex_ev d (ex_cal d) 57 (ex_blk 57 0, [.ref o, .int a0, .null], [], w) := by
  rw [ex_cal_s (by simp [ex_okR, ex_isv, ex_lay, h, show ex_C 57 = 4 from rfl, show ex_L 57 = 3 from rfl])]
  rfl
theorem kr_58 : ex_ret 58 = some .boolean := rfl
theorem ke_58 {d : Nat} {o : Nat} {a0 : Int32} {w : PW} (h : ex_cls o = 4) : ex_cal (d + 1) 58 [.ref o, .int a0] w = ex_ev d (ex_cal d) 58 (ex_blk 58 0, [.ref o, .int a0, .null], [], w) := by
  rw [ex_cal_s (by simp [ex_okR, ex_isv, ex_lay, h, show ex_C 58 = 4 from rfl, show ex_L 58 = 3 from rfl])]
  rfl
theorem kr_59 : ex_ret 59 = some .int := rfl
theorem ke_59 {d : Nat} {o : Nat} {a0 : Int32} {a1 : Int32} {w : PW} (h : ex_cls o = 4) : ex_cal (d + 1) 59 [.ref o, .int a0, .int a1] w = ex_ev d (ex_cal d) 59 (ex_blk 59 0, [.ref o, .int a0, .int a1, .null], [], w) := by
  rw [ex_cal_s (by simp [ex_okR, ex_isv, ex_lay, h, show ex_C 59 = 4 from rfl, show ex_L 59 = 4 from rfl])]
  rfl
theorem kr_60 : ex_ret 60 = some .int := rfl
theorem ke_60 {d : Nat} {a0 : Int32} {w : PW} : ex_cal (d + 1) 60 [.int a0] w = ex_ev d (ex_cal d) 60 (ex_blk 60 0, [.int a0], [], w) := by
  rw [ex_cal_s (rfl)]
  rfl
theorem kr_61 : ex_ret 61 = some .boolean := rfl
theorem ke_61 {d : Nat} {o : Nat} {w : PW} (h : ex_cls o = 4) : ex_cal (d + 1) 61 [.ref o] w = ex_ev d (ex_cal d) 61 (ex_blk 61 0, [.ref o], [], w) := by
  rw [ex_cal_s (by simp [ex_okR, ex_isv, ex_lay, h, show ex_C 61 = 4 from rfl, show ex_L 61 = 1 from rfl])]
  rfl
theorem kr_62 : ex_ret 62 = some .int := rfl
theorem ke_62 {d : Nat} {o : Nat} {a0 : Int32} {w : PW} (h : ex_cls o = 4) : ex_cal (d + 1) 62 [.ref o, .int a0] w = ex_ev d (ex_cal d) 62 (ex_blk 62 0, [.ref o, .int a0], [], w) := by
  rw [ex_cal_s (by simp [ex_okR, ex_isv, ex_lay, h, show ex_C 62 = 4 from rfl, show ex_L 62 = 2 from rfl])]
  rfl
theorem kr_63 : ex_ret 63 = some .boolean := rfl
theorem ke_63 {d : Nat} {a0 : Int32} {a1 : Int32} {w : PW} : ex_cal (d + 1) 63 [.int a0, .int a1] w = ex_ev d (ex_cal d) 63 (ex_blk 63 0, [.int a0, .int a1], [], w) := by
  rw [ex_cal_s (rfl)]
  rfl
theorem kr_64 : ex_ret 64 = some .int := rfl
theorem ke_64 {d : Nat} {o : Nat} {w : PW} (h : ex_cls o = 5) : ex_cal (d + 1) 64 [.ref o] w = ex_ev d (ex_cal d) 64 (ex_blk 64 0, [.ref o], [], w) := by
  rw [ex_cal_s (by simp [ex_okR, ex_isv, ex_lay, h, show ex_C 64 = 5 from rfl, show ex_L 64 = 1 from rfl])]
  rfl
theorem kr_65 : ex_ret 65 = some .boolean := rfl
theorem ke_65 {d : Nat} {o : Nat} {w : PW} (h : ex_cls o = 5) : ex_cal (d + 1) 65 [.ref o] w = ex_ev d (ex_cal d) 65 (ex_blk 65 0, [.ref o], [], w) := by
  rw [ex_cal_s (by simp [ex_okR, ex_isv, ex_lay, h, show ex_C 65 = 5 from rfl, show ex_L 65 = 1 from rfl])]
  rfl
theorem kr_66 : ex_ret 66 = some .int := rfl
theorem ke_66 {d : Nat} {o : Nat} {a0 : Nat} {w : PW} (h : ex_cls o = 5) : ex_cal (d + 1) 66 [.ref o, .ref a0] w = ex_ev d (ex_cal d) 66 (ex_blk 66 0, [.ref o, .ref a0], [], w) := by
  rw [ex_cal_s (by simp [ex_okR, ex_isv, ex_lay, h, show ex_C 66 = 5 from rfl, show ex_L 66 = 2 from rfl])]
  rfl
theorem kr_67 : ex_ret 67 = some .int := rfl
theorem ke_67 {d : Nat} {o : Nat} {a0 : Int32} {a1 : Int32} {w : PW} (h : ex_cls o = 5) : ex_cal (d + 1) 67 [.ref o, .int a0, .int a1] w = ex_ev d (ex_cal d) 67 (ex_blk 67 0, [.ref o, .int a0, .int a1], [], w) := by
  rw [ex_cal_s (by simp [ex_okR, ex_isv, ex_lay, h, show ex_C 67 = 5 from rfl, show ex_L 67 = 3 from rfl])]
  rfl
theorem kr_68 : ex_ret 68 = some .int := rfl
theorem ke_68 {d : Nat} {o : Nat} {a0 : Nat} {a1 : Int32} {a2 : Int32} {a3 : Int32} {a4 : Int32} {a5 : Int32} {w : PW} (h : ex_cls o = 5) : ex_cal (d + 1) 68 [.ref o, .ref a0, .int a1, .int a2, .int a3, .int a4, .int a5] w = ex_ev d (ex_cal d) 68 (ex_blk 68 0, [.ref o, .ref a0, .int a1, .int a2, .int a3, .int a4, .int a5, .null, .null], [], w) := by
  rw [ex_cal_s (by simp [ex_okR, ex_isv, ex_lay, h, show ex_C 68 = 5 from rfl, show ex_L 68 = 9 from rfl])]
  rfl
theorem kr_69 : ex_ret 69 = some .boolean := rfl
theorem ke_69 {d : Nat} {o : Nat} {a0 : Int32} {a1 : Int32} {w : PW} (h : ex_cls o = 5) : ex_cal (d + 1) 69 [.ref o, .int a0, .int a1] w = ex_ev d (ex_cal d) 69 (ex_blk 69 0, [.ref o, .int a0, .int a1, .null, .null], [], w) := by
  rw [ex_cal_s (by simp [ex_okR, ex_isv, ex_lay, h, show ex_C 69 = 5 from rfl, show ex_L 69 = 5 from rfl])]
  rfl
theorem kr_70 : ex_ret 70 = some .boolean := rfl
theorem ke_70 {d : Nat} {o : Nat} {a0 : Nat} {a1 : Int32} {a2 : Int32} {a3 : Int32} {a4 : Int32} {w : PW} (h : ex_cls o = 5) : ex_cal (d + 1) 70 [.ref o, .ref a0, .int a1, .int a2, .int a3, .int a4] w = ex_ev d (ex_cal d) 70 (ex_blk 70 0, [.ref o, .ref a0, .int a1, .int a2, .int a3, .int a4, .null, .null], [], w) := by
  rw [ex_cal_s (by simp [ex_okR, ex_isv, ex_lay, h, show ex_C 70 = 5 from rfl, show ex_L 70 = 8 from rfl])]
  rfl
theorem kr_71 : ex_ret 71 = none := rfl
theorem ke_71 {d : Nat} {o : Nat} {a0 : Nat} {a1 : Nat} {w : PW} (h : ex_cls o = 6) : ex_cal (d + 1) 71 [.ref o, .ref a0, .ref a1] w = ex_ev d (ex_cal d) 71 (ex_blk 71 0, [.ref o, .ref a0, .ref a1, .null], [], w) := by
  rw [ex_cal_s (by simp [ex_okR, ex_isv, ex_lay, h, show ex_C 71 = 6 from rfl, show ex_L 71 = 4 from rfl])]
  rfl
theorem kr_72 : ex_ret 72 = some .int := rfl
theorem ke_72 {d : Nat} {o : Nat} {a0 : Int32} {w : PW} (h : ex_cls o = 6) : ex_cal (d + 1) 72 [.ref o, .int a0] w = ex_ev d (ex_cal d) 72 (ex_blk 72 0, [.ref o, .int a0], [], w) := by
  rw [ex_cal_s (by simp [ex_okR, ex_isv, ex_lay, h, show ex_C 72 = 6 from rfl, show ex_L 72 = 2 from rfl])]
  rfl
theorem kr_73 : ex_ret 73 = some .boolean := rfl
theorem ke_73 {d : Nat} {o : Nat} {a0 : Nat} {w : PW} (h : ex_cls o = 6) : ex_cal (d + 1) 73 [.ref o, .ref a0] w = ex_ev d (ex_cal d) 73 (ex_blk 73 0, [.ref o, .ref a0, .null], [], w) := by
  rw [ex_cal_s (by simp [ex_okR, ex_isv, ex_lay, h, show ex_C 73 = 6 from rfl, show ex_L 73 = 3 from rfl])]
  rfl
theorem kr_74 : ex_ret 74 = none := rfl
theorem ke_74 {d : Nat} {o : Nat} {a0 : Int32} {a1 : Int32} {a2 : Int32} {w : PW} (h : ex_cls o = 6) : ex_cal (d + 1) 74 [.ref o, .int a0, .int a1, .int a2] w = ex_ev d (ex_cal d) 74 (ex_blk 74 0, [.ref o, .int a0, .int a1, .int a2], [], w) := by
  rw [ex_cal_s (by simp [ex_okR, ex_isv, ex_lay, h, show ex_C 74 = 6 from rfl, show ex_L 74 = 4 from rfl])]
  rfl
theorem kr_75 : ex_ret 75 = some .int := rfl
theorem ke_75 {d : Nat} {o : Nat} {a0 : Int32} {w : PW} (h : ex_cls o = 6) : ex_cal (d + 1) 75 [.ref o, .int a0] w = ex_ev d (ex_cal d) 75 (ex_blk 75 0, [.ref o, .int a0], [], w) := by
  rw [ex_cal_s (by simp [ex_okR, ex_isv, ex_lay, h, show ex_C 75 = 6 from rfl, show ex_L 75 = 2 from rfl])]
  rfl
theorem kr_76 : ex_ret 76 = some .boolean := rfl
theorem ke_76 {d : Nat} {o : Nat} {a0 : Nat} {a1 : Nat} {w : PW} (h : ex_cls o = 6) : ex_cal (d + 1) 76 [.ref o, .ref a0, .ref a1] w = ex_ev d (ex_cal d) 76 (ex_blk 76 0, [.ref o, .ref a0, .ref a1, .null], [], w) := by
  rw [ex_cal_s (by simp [ex_okR, ex_isv, ex_lay, h, show ex_C 76 = 6 from rfl, show ex_L 76 = 4 from rfl])]
  rfl
theorem kr_77 : ex_ret 77 = some .boolean := rfl
theorem ke_77 {d : Nat} {o : Nat} {a0 : Int32} {a1 : Nat} {a2 : Nat} {w : PW} (h : ex_cls o = 6) : ex_cal (d + 1) 77 [.ref o, .int a0, .ref a1, .ref a2] w = ex_ev d (ex_cal d) 77 (ex_blk 77 0, [.ref o, .int a0, .ref a1, .ref a2, .null, .null, .null, .null, .null], [], w) := by
  rw [ex_cal_s (by simp [ex_okR, ex_isv, ex_lay, h, show ex_C 77 = 6 from rfl, show ex_L 77 = 9 from rfl])]
  rfl
theorem kr_78 : ex_ret 78 = none := rfl
theorem ke_78 {d : Nat} {o : Nat} {a0 : Nat} {a1 : Nat} {w : PW} (h : ex_cls o = 6) : ex_cal (d + 1) 78 [.ref o, .ref a0, .ref a1] w = ex_ev d (ex_cal d) 78 (ex_blk 78 0, [.ref o, .ref a0, .ref a1, .null, .null, .null, .null, .null], [], w) := by
  rw [ex_cal_s (by simp [ex_okR, ex_isv, ex_lay, h, show ex_C 78 = 6 from rfl, show ex_L 78 = 8 from rfl])]
  rfl
theorem kr_79 : ex_ret 79 = some .boolean := rfl
theorem ke_79 {d : Nat} {o : Nat} {a0 : Int32} {a1 : Nat} {a2 : Nat} {w : PW} (h : ex_cls o = 6) : ex_cal (d + 1) 79 [.ref o, .int a0, .ref a1, .ref a2] w = ex_ev d (ex_cal d) 79 (ex_blk 79 0, [.ref o, .int a0, .ref a1, .ref a2, .null, .null], [], w) := by
  rw [ex_cal_s (by simp [ex_okR, ex_isv, ex_lay, h, show ex_C 79 = 6 from rfl, show ex_L 79 = 6 from rfl])]
  rfl
theorem kr_80 : ex_ret 80 = some .int := rfl
theorem ke_80 {d : Nat} {o : Nat} {a0 : Int32} {a1 : Int32} {w : PW} (h : ex_cls o = 6) : ex_cal (d + 1) 80 [.ref o, .int a0, .int a1] w = ex_ev d (ex_cal d) 80 (ex_blk 80 0, [.ref o, .int a0, .int a1, .null, .null], [], w) := by
  rw [ex_cal_s (by simp [ex_okR, ex_isv, ex_lay, h, show ex_C 80 = 6 from rfl, show ex_L 80 = 5 from rfl])]
  rfl
theorem kr_81 : ex_ret 81 = some .boolean := rfl
theorem ke_81 {d : Nat} {o : Nat} {a0 : Nat} {a1 : Int32} {w : PW} (h : ex_cls o = 6) : ex_cal (d + 1) 81 [.ref o, .ref a0, .int a1] w = ex_ev d (ex_cal d) 81 (ex_blk 81 0, [.ref o, .ref a0, .int a1, .null], [], w) := by
  rw [ex_cal_s (by simp [ex_okR, ex_isv, ex_lay, h, show ex_C 81 = 6 from rfl, show ex_L 81 = 4 from rfl])]
  rfl
theorem kr_82 : ex_ret 82 = some .boolean := rfl
theorem ke_82 {d : Nat} {o : Nat} {a0 : Nat} {a1 : Int32} {w : PW} (h : ex_cls o = 6) : ex_cal (d + 1) 82 [.ref o, .ref a0, .int a1] w = ex_ev d (ex_cal d) 82 (ex_blk 82 0, [.ref o, .ref a0, .int a1], [], w) := by
  rw [ex_cal_s (by simp [ex_okR, ex_isv, ex_lay, h, show ex_C 82 = 6 from rfl, show ex_L 82 = 3 from rfl])]
  rfl
theorem kr_83 : ex_ret 83 = some .boolean := rfl
theorem ke_83 {d : Nat} {o : Nat} {a0 : Nat} {a1 : Int32} {a2 : Int32} {w : PW} (h : ex_cls o = 6) : ex_cal (d + 1) 83 [.ref o, .ref a0, .int a1, .int a2] w = ex_ev d (ex_cal d) 83 (ex_blk 83 0, [.ref o, .ref a0, .int a1, .int a2, .null], [], w) := by
  rw [ex_cal_s (by simp [ex_okR, ex_isv, ex_lay, h, show ex_C 83 = 6 from rfl, show ex_L 83 = 5 from rfl])]
  rfl
theorem kr_84 : ex_ret 84 = some .int := rfl
theorem ke_84 {d : Nat} {a0 : Int64} {w : PW} : ex_cal (d + 1) 84 [.long a0] w = ex_ev d (ex_cal d) 84 (ex_blk 84 0, [.long a0, .retAddr 0, .null, .null, .null, .null], [], w) := by
  rw [ex_cal_s (rfl)]
  rfl
theorem kr_85 : ex_ret 85 = some .int := rfl
theorem ke_85 {d : Nat} {a0 : Int64} {a1 : Int32} {w : PW} : ex_cal (d + 1) 85 [.long a0, .int a1] w = ex_ev d (ex_cal d) 85 (ex_blk 85 0, [.long a0, .retAddr 0, .int a1], [], w) := by
  rw [ex_cal_s (rfl)]
  rfl
theorem kr_86 : ex_ret 86 = none := rfl
theorem ke_86 {d : Nat} {o : Nat} {a0 : Int64} {a1 : Int32} {w : PW} (h : ex_cls o = 7) : ex_cal (d + 1) 86 [.ref o, .long a0, .int a1] w = ex_ev d (ex_cal d) 86 (ex_blk 86 0, [.ref o, .long a0, .retAddr 0, .int a1, .null], [], w) := by
  rw [ex_cal_s (by simp [ex_okR, ex_isv, ex_lay, h, show ex_C 86 = 7 from rfl, show ex_L 86 = 5 from rfl])]
  rfl
theorem kr_87 : ex_ret 87 = some .int := rfl
theorem ke_87 {d : Nat} {o : Nat} {w : PW} (h : ex_cls o = 7) : ex_cal (d + 1) 87 [.ref o] w = ex_ev d (ex_cal d) 87 (ex_blk 87 0, [.ref o], [], w) := by
  rw [ex_cal_s (by simp [ex_okR, ex_isv, ex_lay, h, show ex_C 87 = 7 from rfl, show ex_L 87 = 1 from rfl])]
  rfl
theorem kr_88 : ex_ret 88 = some .int := rfl
theorem ke_88 {d : Nat} {o : Nat} {a0 : Int32} {w : PW} (h : ex_cls o = 7) : ex_cal (d + 1) 88 [.ref o, .int a0] w = ex_ev d (ex_cal d) 88 (ex_blk 88 0, [.ref o, .int a0], [], w) := by
  rw [ex_cal_s (by simp [ex_okR, ex_isv, ex_lay, h, show ex_C 88 = 7 from rfl, show ex_L 88 = 2 from rfl])]
  rfl
theorem kr_89 : ex_ret 89 = none := rfl
theorem ke_89 {d : Nat} {o : Nat} {w : PW} (h : ex_cls o = 7) : ex_cal (d + 1) 89 [.ref o] w = ex_ev d (ex_cal d) 89 (ex_blk 89 0, [.ref o], [], w) := by
  rw [ex_cal_s (by simp [ex_okR, ex_isv, ex_lay, h, show ex_C 89 = 7 from rfl, show ex_L 89 = 1 from rfl])]
  rfl
theorem kr_90 : ex_ret 90 = some .int := rfl
theorem ke_90 {d : Nat} {o : Nat} {w : PW} (h : ex_cls o = 8) : ex_cal (d + 1) 90 [.ref o] w = ex_ev d (ex_cal d) 90 (ex_blk 90 0, [.ref o], [], w) := by
  rw [ex_cal_s (by simp [ex_okR, ex_isv, ex_lay, h, show ex_C 90 = 8 from rfl, show ex_L 90 = 1 from rfl])]
  rfl
theorem kr_91 : ex_ret 91 = some .boolean := rfl
theorem ke_91 {d : Nat} {o : Nat} {w : PW} (h : ex_cls o = 8) : ex_cal (d + 1) 91 [.ref o] w = ex_ev d (ex_cal d) 91 (ex_blk 91 0, [.ref o], [], w) := by
  rw [ex_cal_s (by simp [ex_okR, ex_isv, ex_lay, h, show ex_C 91 = 8 from rfl, show ex_L 91 = 1 from rfl])]
  rfl
theorem kr_92 : ex_ret 92 = some .int := rfl
theorem ke_92 {d : Nat} {o : Nat} {a0 : Int32} {a1 : Int32} {a2 : Int32} {a3 : Int32} {a4 : Int32} {w : PW} (h : ex_cls o = 8) : ex_cal (d + 1) 92 [.ref o, .int a0, .int a1, .int a2, .int a3, .int a4] w = ex_ev d (ex_cal d) 92 (ex_blk 92 0, [.ref o, .int a0, .int a1, .int a2, .int a3, .int a4, .null], [], w) := by
  rw [ex_cal_s (by simp [ex_okR, ex_isv, ex_lay, h, show ex_C 92 = 8 from rfl, show ex_L 92 = 7 from rfl])]
  rfl
theorem kr_93 : ex_ret 93 = some .int := rfl
theorem ke_93 {d : Nat} {o : Nat} {a0 : Int32} {a1 : Int32} {w : PW} (h : ex_cls o = 8) : ex_cal (d + 1) 93 [.ref o, .int a0, .int a1] w = ex_ev d (ex_cal d) 93 (ex_blk 93 0, [.ref o, .int a0, .int a1, .null], [], w) := by
  rw [ex_cal_s (by simp [ex_okR, ex_isv, ex_lay, h, show ex_C 93 = 8 from rfl, show ex_L 93 = 4 from rfl])]
  rfl
theorem kr_94 : ex_ret 94 = none := rfl
theorem ke_94 {d : Nat} {o : Nat} {a0 : Int32} {a1 : Int32} {a2 : Int32} {w : PW} (h : ex_cls o = 8) : ex_cal (d + 1) 94 [.ref o, .int a0, .int a1, .int a2] w = ex_ev d (ex_cal d) 94 (ex_blk 94 0, [.ref o, .int a0, .int a1, .int a2, .null], [], w) := by
  rw [ex_cal_s (by simp [ex_okR, ex_isv, ex_lay, h, show ex_C 94 = 8 from rfl, show ex_L 94 = 5 from rfl])]
  rfl
theorem kr_95 : ex_ret 95 = none := rfl
theorem ke_95 {d : Nat} {o : Nat} {w : PW} (h : ex_cls o = 8) : ex_cal (d + 1) 95 [.ref o] w = ex_ev d (ex_cal d) 95 (ex_blk 95 0, [.ref o], [], w) := by
  rw [ex_cal_s (by simp [ex_okR, ex_isv, ex_lay, h, show ex_C 95 = 8 from rfl, show ex_L 95 = 1 from rfl])]
  rfl
theorem kr_96 : ex_ret 96 = none := rfl
theorem ke_96 {d : Nat} {o : Nat} {a0 : Nat} {w : PW} (h : ex_cls o = 8) : ex_cal (d + 1) 96 [.ref o, .ref a0] w = ex_ev d (ex_cal d) 96 (ex_blk 96 0, [.ref o, .ref a0], [], w) := by
  rw [ex_cal_s (by simp [ex_okR, ex_isv, ex_lay, h, show ex_C 96 = 8 from rfl, show ex_L 96 = 2 from rfl])]
  rfl
theorem kr_97 : ex_ret 97 = some .int := rfl
theorem ke_97 {d : Nat} {o : Nat} {a0 : Nat} {w : PW} (h : ex_cls o = 2 ∨ ex_cls o = 4) : ex_cal (d + 1) 97 [.ref o, .ref a0] w = ex_ev d (ex_cal d) 97 (ex_blk 97 0, [.ref o, .ref a0, .null], [], w) := by
  rw [ex_cal_s (by rcases h with h | h <;> simp [ex_okR, ex_isv, ex_lay, h, show ex_C 97 = 9 from rfl, show ex_L 97 = 3 from rfl])]
  rfl
theorem kr_98 : ex_ret 98 = some .boolean := rfl
theorem ke_98 {d : Nat} {o : Nat} {a0 : Nat} {w : PW} (h : ex_cls o = 2 ∨ ex_cls o = 4) : ex_cal (d + 1) 98 [.ref o, .ref a0] w = ex_ev d (ex_cal d) 98 (ex_blk 98 0, [.ref o, .ref a0], [], w) := by
  rw [ex_cal_s (by rcases h with h | h <;> simp [ex_okR, ex_isv, ex_lay, h, show ex_C 98 = 9 from rfl, show ex_L 98 = 2 from rfl])]
  rfl
theorem kr_99 : ex_ret 99 = some .int := rfl
theorem ke_99 {d : Nat} {o : Nat} {a0 : Int64} {w : PW} (h : ex_cls o = 10) : ex_cal (d + 1) 99 [.ref o, .long a0] w = ex_ev d (ex_cal d) 99 (ex_blk 99 0, [.ref o, .long a0, .retAddr 0, .null], [], w) := by
  rw [ex_cal_s (by simp [ex_okR, ex_isv, ex_lay, h, show ex_C 99 = 10 from rfl, show ex_L 99 = 4 from rfl])]
  rfl
theorem kr_100 : ex_ret 100 = some .int := rfl
theorem ke_100 {d : Nat} {o : Nat} {w : PW} (h : ex_cls o = 10) : ex_cal (d + 1) 100 [.ref o] w = ex_ev d (ex_cal d) 100 (ex_blk 100 0, [.ref o, .null], [], w) := by
  rw [ex_cal_s (by simp [ex_okR, ex_isv, ex_lay, h, show ex_C 100 = 10 from rfl, show ex_L 100 = 2 from rfl])]
  rfl
theorem kr_101 : ex_ret 101 = some .int := rfl
theorem ke_101 {d : Nat} {o : Nat} {a0 : Int32} {w : PW} (h : ex_cls o = 10) : ex_cal (d + 1) 101 [.ref o, .int a0] w = ex_ev d (ex_cal d) 101 (ex_blk 101 0, [.ref o, .int a0], [], w) := by
  rw [ex_cal_s (by simp [ex_okR, ex_isv, ex_lay, h, show ex_C 101 = 10 from rfl, show ex_L 101 = 2 from rfl])]
  rfl
theorem kr_102 : ex_ret 102 = some .int := rfl
theorem ke_102 {d : Nat} {o : Nat} {w : PW} (h : ex_cls o = 10) : ex_cal (d + 1) 102 [.ref o] w = ex_ev d (ex_cal d) 102 (ex_blk 102 0, [.ref o], [], w) := by
  rw [ex_cal_s (by simp [ex_okR, ex_isv, ex_lay, h, show ex_C 102 = 10 from rfl, show ex_L 102 = 1 from rfl])]
  rfl
theorem kr_103 : ex_ret 103 = some .int := rfl
theorem ke_103 {d : Nat} {o : Nat} {w : PW} (h : ex_cls o = 10) : ex_cal (d + 1) 103 [.ref o] w = ex_ev d (ex_cal d) 103 (ex_blk 103 0, [.ref o], [], w) := by
  rw [ex_cal_s (by simp [ex_okR, ex_isv, ex_lay, h, show ex_C 103 = 10 from rfl, show ex_L 103 = 1 from rfl])]
  rfl
theorem kr_104 : ex_ret 104 = some .int := rfl
theorem ke_104 {d : Nat} {o : Nat} {a0 : Int32} {a1 : Int32} {w : PW} (h : ex_cls o = 10) : ex_cal (d + 1) 104 [.ref o, .int a0, .int a1] w = ex_ev d (ex_cal d) 104 (ex_blk 104 0, [.ref o, .int a0, .int a1], [], w) := by
  rw [ex_cal_s (by simp [ex_okR, ex_isv, ex_lay, h, show ex_C 104 = 10 from rfl, show ex_L 104 = 3 from rfl])]
  rfl
theorem kr_105 : ex_ret 105 = some .int := rfl
theorem ke_105 {d : Nat} {o : Nat} {a0 : Int32} {a1 : Int32} {w : PW} (h : ex_cls o = 10) : ex_cal (d + 1) 105 [.ref o, .int a0, .int a1] w = ex_ev d (ex_cal d) 105 (ex_blk 105 0, [.ref o, .int a0, .int a1], [], w) := by
  rw [ex_cal_s (by simp [ex_okR, ex_isv, ex_lay, h, show ex_C 105 = 10 from rfl, show ex_L 105 = 3 from rfl])]
  rfl
theorem kr_106 : ex_ret 106 = some .int := rfl
theorem ke_106 {d : Nat} {o : Nat} {a0 : Int32} {a1 : Int32} {w : PW} (h : ex_cls o = 10) : ex_cal (d + 1) 106 [.ref o, .int a0, .int a1] w = ex_ev d (ex_cal d) 106 (ex_blk 106 0, [.ref o, .int a0, .int a1], [], w) := by
  rw [ex_cal_s (by simp [ex_okR, ex_isv, ex_lay, h, show ex_C 106 = 10 from rfl, show ex_L 106 = 3 from rfl])]
  rfl
theorem kr_107 : ex_ret 107 = some .int := rfl
theorem ke_107 {d : Nat} {o : Nat} {a0 : Int32} {a1 : Int32} {a2 : Int32} {a3 : Int32} {w : PW} (h : ex_cls o = 10) : ex_cal (d + 1) 107 [.ref o, .int a0, .int a1, .int a2, .int a3] w = ex_ev d (ex_cal d) 107 (ex_blk 107 0, [.ref o, .int a0, .int a1, .int a2, .int a3], [], w) := by
  rw [ex_cal_s (by simp [ex_okR, ex_isv, ex_lay, h, show ex_C 107 = 10 from rfl, show ex_L 107 = 5 from rfl])]
  rfl
theorem kr_108 : ex_ret 108 = some .int := rfl
theorem ke_108 {d : Nat} {o : Nat} {a0 : Int32} {a1 : Int32} {a2 : Int32} {a3 : Int32} {a4 : Int32} {w : PW} (h : ex_cls o = 10) : ex_cal (d + 1) 108 [.ref o, .int a0, .int a1, .int a2, .int a3, .int a4] w = ex_ev d (ex_cal d) 108 (ex_blk 108 0, [.ref o, .int a0, .int a1, .int a2, .int a3, .int a4], [], w) := by
  rw [ex_cal_s (by simp [ex_okR, ex_isv, ex_lay, h, show ex_C 108 = 10 from rfl, show ex_L 108 = 6 from rfl])]
  rfl
theorem kr_109 : ex_ret 109 = some .int := rfl
theorem ke_109 {d : Nat} {o : Nat} {a0 : Int32} {a1 : Int32} {a2 : Int32} {a3 : Int32} {a4 : Int32} {w : PW} (h : ex_cls o = 10) : ex_cal (d + 1) 109 [.ref o, .int a0, .int a1, .int a2, .int a3, .int a4] w = ex_ev d (ex_cal d) 109 (ex_blk 109 0, [.ref o, .int a0, .int a1, .int a2, .int a3, .int a4], [], w) := by
  rw [ex_cal_s (by simp [ex_okR, ex_isv, ex_lay, h, show ex_C 109 = 10 from rfl, show ex_L 109 = 6 from rfl])]
  rfl
theorem kr_110 : ex_ret 110 = some .int := rfl
theorem ke_110 {d : Nat} {o : Nat} {a0 : Int32} {w : PW} (h : ex_cls o = 10) : ex_cal (d + 1) 110 [.ref o, .int a0] w = ex_ev d (ex_cal d) 110 (ex_blk 110 0, [.ref o, .int a0, .null], [], w) := by
  rw [ex_cal_s (by simp [ex_okR, ex_isv, ex_lay, h, show ex_C 110 = 10 from rfl, show ex_L 110 = 3 from rfl])]
  rfl
theorem kr_111 : ex_ret 111 = some .int := rfl
theorem ke_111 {d : Nat} {o : Nat} {a0 : Int32} {a1 : Int32} {a2 : Int32} {a3 : Int32} {w : PW} (h : ex_cls o = 10) : ex_cal (d + 1) 111 [.ref o, .int a0, .int a1, .int a2, .int a3] w = ex_ev d (ex_cal d) 111 (ex_blk 111 0, [.ref o, .int a0, .int a1, .int a2, .int a3, .null, .null], [], w) := by
  rw [ex_cal_s (by simp [ex_okR, ex_isv, ex_lay, h, show ex_C 111 = 10 from rfl, show ex_L 111 = 7 from rfl])]
  rfl
theorem kr_112 : ex_ret 112 = some .int := rfl
theorem ke_112 {d : Nat} {o : Nat} {a0 : Int32} {a1 : Int32} {a2 : Int32} {w : PW} (h : ex_cls o = 10) : ex_cal (d + 1) 112 [.ref o, .int a0, .int a1, .int a2] w = ex_ev d (ex_cal d) 112 (ex_blk 112 0, [.ref o, .int a0, .int a1, .int a2], [], w) := by
  rw [ex_cal_s (by simp [ex_okR, ex_isv, ex_lay, h, show ex_C 112 = 10 from rfl, show ex_L 112 = 4 from rfl])]
  rfl
theorem kr_113 : ex_ret 113 = some .int := rfl
theorem ke_113 {d : Nat} {o : Nat} {a0 : Int32} {a1 : Int32} {w : PW} (h : ex_cls o = 10) : ex_cal (d + 1) 113 [.ref o, .int a0, .int a1] w = ex_ev d (ex_cal d) 113 (ex_blk 113 0, [.ref o, .int a0, .int a1], [], w) := by
  rw [ex_cal_s (by simp [ex_okR, ex_isv, ex_lay, h, show ex_C 113 = 10 from rfl, show ex_L 113 = 3 from rfl])]
  rfl
theorem kr_114 : ex_ret 114 = some .int := rfl
theorem ke_114 {d : Nat} {o : Nat} {a0 : Int32} {a1 : Int32} {w : PW} (h : ex_cls o = 10) : ex_cal (d + 1) 114 [.ref o, .int a0, .int a1] w = ex_ev d (ex_cal d) 114 (ex_blk 114 0, [.ref o, .int a0, .int a1], [], w) := by
  rw [ex_cal_s (by simp [ex_okR, ex_isv, ex_lay, h, show ex_C 114 = 10 from rfl, show ex_L 114 = 3 from rfl])]
  rfl
theorem kr_115 : ex_ret 115 = some .int := rfl
theorem ke_115 {d : Nat} {o : Nat} {a0 : Int32} {a1 : Int32} {a2 : Int32} {w : PW} (h : ex_cls o = 10) : ex_cal (d + 1) 115 [.ref o, .int a0, .int a1, .int a2] w = ex_ev d (ex_cal d) 115 (ex_blk 115 0, [.ref o, .int a0, .int a1, .int a2, .null], [], w) := by
  rw [ex_cal_s (by simp [ex_okR, ex_isv, ex_lay, h, show ex_C 115 = 10 from rfl, show ex_L 115 = 5 from rfl])]
  rfl
theorem kr_116 : ex_ret 116 = some .int := rfl
theorem ke_116 {d : Nat} {o : Nat} {a0 : Int32} {a1 : Int32} {w : PW} (h : ex_cls o = 10) : ex_cal (d + 1) 116 [.ref o, .int a0, .int a1] w = ex_ev d (ex_cal d) 116 (ex_blk 116 0, [.ref o, .int a0, .int a1], [], w) := by
  rw [ex_cal_s (by simp [ex_okR, ex_isv, ex_lay, h, show ex_C 116 = 10 from rfl, show ex_L 116 = 3 from rfl])]
  rfl
theorem kr_117 : ex_ret 117 = some .int := rfl
theorem ke_117 {d : Nat} {o : Nat} {w : PW} (h : ex_cls o = 10) : ex_cal (d + 1) 117 [.ref o] w = ex_ev d (ex_cal d) 117 (ex_blk 117 0, [.ref o, .null, .null], [], w) := by
  rw [ex_cal_s (by simp [ex_okR, ex_isv, ex_lay, h, show ex_C 117 = 10 from rfl, show ex_L 117 = 3 from rfl])]
  rfl
theorem kr_118 : ex_ret 118 = some .int := rfl
theorem ke_118 {d : Nat} {o : Nat} {a0 : Int32} {w : PW} (h : ex_cls o = 10) : ex_cal (d + 1) 118 [.ref o, .int a0] w = ex_ev d (ex_cal d) 118 (ex_blk 118 0, [.ref o, .int a0], [], w) := by
  rw [ex_cal_s (by simp [ex_okR, ex_isv, ex_lay, h, show ex_C 118 = 10 from rfl, show ex_L 118 = 2 from rfl])]
  rfl
theorem kr_119 : ex_ret 119 = some .int := rfl
theorem ke_119 {d : Nat} {o : Nat} {a0 : Int32} {a1 : Int32} {w : PW} (h : ex_cls o = 10) : ex_cal (d + 1) 119 [.ref o, .int a0, .int a1] w = ex_ev d (ex_cal d) 119 (ex_blk 119 0, [.ref o, .int a0, .int a1], [], w) := by
  rw [ex_cal_s (by simp [ex_okR, ex_isv, ex_lay, h, show ex_C 119 = 10 from rfl, show ex_L 119 = 3 from rfl])]
  rfl
theorem kr_120 : ex_ret 120 = some .int := rfl
theorem ke_120 {d : Nat} {o : Nat} {a0 : Int32} {a1 : Int32} {a2 : Int32} {w : PW} (h : ex_cls o = 10) : ex_cal (d + 1) 120 [.ref o, .int a0, .int a1, .int a2] w = ex_ev d (ex_cal d) 120 (ex_blk 120 0, [.ref o, .int a0, .int a1, .int a2], [], w) := by
  rw [ex_cal_s (by simp [ex_okR, ex_isv, ex_lay, h, show ex_C 120 = 10 from rfl, show ex_L 120 = 4 from rfl])]
  rfl
theorem kr_121 : ex_ret 121 = some .int := rfl
theorem ke_121 {d : Nat} {o : Nat} {a0 : Int32} {a1 : Int32} {w : PW} (h : ex_cls o = 10) : ex_cal (d + 1) 121 [.ref o, .int a0, .int a1] w = ex_ev d (ex_cal d) 121 (ex_blk 121 0, [.ref o, .int a0, .int a1, .null, .null], [], w) := by
  rw [ex_cal_s (by simp [ex_okR, ex_isv, ex_lay, h, show ex_C 121 = 10 from rfl, show ex_L 121 = 5 from rfl])]
  rfl
theorem kr_122 : ex_ret 122 = some .int := rfl
theorem ke_122 {d : Nat} {o : Nat} {a0 : Int32} {a1 : Int32} {a2 : Int32} {a3 : Int32} {a4 : Int32} {w : PW} (h : ex_cls o = 10) : ex_cal (d + 1) 122 [.ref o, .int a0, .int a1, .int a2, .int a3, .int a4] w = ex_ev d (ex_cal d) 122 (ex_blk 122 0, [.ref o, .int a0, .int a1, .int a2, .int a3, .int a4, .null, .null, .null, .null], [], w) := by
  rw [ex_cal_s (by simp [ex_okR, ex_isv, ex_lay, h, show ex_C 122 = 10 from rfl, show ex_L 122 = 10 from rfl])]
  rfl
theorem kr_123 : ex_ret 123 = some .int := rfl
theorem ke_123 {d : Nat} {o : Nat} {a0 : Int32} {w : PW} (h : ex_cls o = 10) : ex_cal (d + 1) 123 [.ref o, .int a0] w = ex_ev d (ex_cal d) 123 (ex_blk 123 0, [.ref o, .int a0, .null, .null], [], w) := by
  rw [ex_cal_s (by simp [ex_okR, ex_isv, ex_lay, h, show ex_C 123 = 10 from rfl, show ex_L 123 = 4 from rfl])]
  rfl
theorem kr_124 : ex_ret 124 = some .int := rfl
theorem ke_124 {d : Nat} {o : Nat} {a0 : Int32} {a1 : Int32} {w : PW} (h : ex_cls o = 10) : ex_cal (d + 1) 124 [.ref o, .int a0, .int a1] w = ex_ev d (ex_cal d) 124 (ex_blk 124 0, [.ref o, .int a0, .int a1], [], w) := by
  rw [ex_cal_s (by simp [ex_okR, ex_isv, ex_lay, h, show ex_C 124 = 10 from rfl, show ex_L 124 = 3 from rfl])]
  rfl
theorem kr_125 : ex_ret 125 = some .int := rfl
theorem ke_125 {d : Nat} {o : Nat} {w : PW} (h : ex_cls o = 10) : ex_cal (d + 1) 125 [.ref o] w = ex_ev d (ex_cal d) 125 (ex_blk 125 0, [.ref o], [], w) := by
  rw [ex_cal_s (by simp [ex_okR, ex_isv, ex_lay, h, show ex_C 125 = 10 from rfl, show ex_L 125 = 1 from rfl])]
  rfl
theorem kr_126 : ex_ret 126 = some .int := rfl
theorem ke_126 {d : Nat} {o : Nat} {w : PW} (h : ex_cls o = 10) : ex_cal (d + 1) 126 [.ref o] w = ex_ev d (ex_cal d) 126 (ex_blk 126 0, [.ref o], [], w) := by
  rw [ex_cal_s (by simp [ex_okR, ex_isv, ex_lay, h, show ex_C 126 = 10 from rfl, show ex_L 126 = 1 from rfl])]
  rfl
theorem kr_127 : ex_ret 127 = some .int := rfl
theorem ke_127 {d : Nat} {o : Nat} {w : PW} (h : ex_cls o = 10) : ex_cal (d + 1) 127 [.ref o] w = ex_ev d (ex_cal d) 127 (ex_blk 127 0, [.ref o], [], w) := by
  rw [ex_cal_s (by simp [ex_okR, ex_isv, ex_lay, h, show ex_C 127 = 10 from rfl, show ex_L 127 = 1 from rfl])]
  rfl
theorem kr_128 : ex_ret 128 = some .int := rfl
theorem ke_128 {d : Nat} {o : Nat} {a0 : Int32} {w : PW} (h : ex_cls o = 10) : ex_cal (d + 1) 128 [.ref o, .int a0] w = ex_ev d (ex_cal d) 128 (ex_blk 128 0, [.ref o, .int a0], [], w) := by
  rw [ex_cal_s (by simp [ex_okR, ex_isv, ex_lay, h, show ex_C 128 = 10 from rfl, show ex_L 128 = 2 from rfl])]
  rfl
theorem kr_129 : ex_ret 129 = some .long := rfl
theorem ke_129 {d : Nat} {o : Nat} {w : PW} (h : ex_cls o = 10) : ex_cal (d + 1) 129 [.ref o] w = ex_ev d (ex_cal d) 129 (ex_blk 129 0, [.ref o, .null, .null, .null], [], w) := by
  rw [ex_cal_s (by simp [ex_okR, ex_isv, ex_lay, h, show ex_C 129 = 10 from rfl, show ex_L 129 = 4 from rfl])]
  rfl
theorem kr_130 : ex_ret 130 = some .boolean := rfl
theorem ke_130 {d : Nat} {a0 : Int32} {a1 : Int32} {w : PW} : ex_cal (d + 1) 130 [.int a0, .int a1] w = ex_ev d (ex_cal d) 130 (ex_blk 130 0, [.int a0, .int a1], [], w) := by
  rw [ex_cal_s (rfl)]
  rfl
theorem kr_131 : ex_ret 131 = some .boolean := rfl
theorem ke_131 {d : Nat} {a0 : Int32} {a1 : Int32} {a2 : Int32} {w : PW} : ex_cal (d + 1) 131 [.int a0, .int a1, .int a2] w = ex_ev d (ex_cal d) 131 (ex_blk 131 0, [.int a0, .int a1, .int a2], [], w) := by
  rw [ex_cal_s (rfl)]
  rfl
theorem kr_132 : ex_ret 132 = some .int := rfl
theorem ke_132 {d : Nat} {a0 : Int32} {w : PW} : ex_cal (d + 1) 132 [.int a0] w = ex_ev d (ex_cal d) 132 (ex_blk 132 0, [.int a0, .null], [], w) := by
  rw [ex_cal_s (rfl)]
  rfl
theorem kr_133 : ex_ret 133 = some .int := rfl
theorem ke_133 {d : Nat} {a0 : Int32} {w : PW} : ex_cal (d + 1) 133 [.int a0] w = ex_ev d (ex_cal d) 133 (ex_blk 133 0, [.int a0], [], w) := by
  rw [ex_cal_s (rfl)]
  rfl
theorem kr_134 : ex_ret 134 = some .int := rfl
theorem ke_134 {d : Nat} {a0 : Int32} {a1 : Int32} {a2 : Int32} {a3 : Int32} {a4 : Int32} {w : PW} : ex_cal (d + 1) 134 [.int a0, .int a1, .int a2, .int a3, .int a4] w = ex_ev d (ex_cal d) 134 (ex_blk 134 0, [.int a0, .int a1, .int a2, .int a3, .int a4, .null], [], w) := by
  rw [ex_cal_s (rfl)]
  rfl
theorem kr_135 : ex_ret 135 = some .int := rfl
theorem ke_135 {d : Nat} {o : Nat} {a0 : Int32} {a1 : Int32} {w : PW} (h : ex_cls o = 10) : ex_cal (d + 1) 135 [.ref o, .int a0, .int a1] w = ex_ev d (ex_cal d) 135 (ex_blk 135 0, [.ref o, .int a0, .int a1], [], w) := by
  rw [ex_cal_s (by simp [ex_okR, ex_isv, ex_lay, h, show ex_C 135 = 10 from rfl, show ex_L 135 = 3 from rfl])]
  rfl
theorem kr_136 : ex_ret 136 = some .int := rfl
theorem ke_136 {d : Nat} {o : Nat} {a0 : Int32} {a1 : Int32} {w : PW} (h : ex_cls o = 10) : ex_cal (d + 1) 136 [.ref o, .int a0, .int a1] w = ex_ev d (ex_cal d) 136 (ex_blk 136 0, [.ref o, .int a0, .int a1], [], w) := by
  rw [ex_cal_s (by simp [ex_okR, ex_isv, ex_lay, h, show ex_C 136 = 10 from rfl, show ex_L 136 = 3 from rfl])]
  rfl
theorem kr_137 : ex_ret 137 = some .boolean := rfl
theorem ke_137 {d : Nat} {o : Nat} {a0 : Int32} {a1 : Int32} {a2 : Int32} {w : PW} (h : ex_cls o = 10) : ex_cal (d + 1) 137 [.ref o, .int a0, .int a1, .int a2] w = ex_ev d (ex_cal d) 137 (ex_blk 137 0, [.ref o, .int a0, .int a1, .int a2, .null], [], w) := by
  rw [ex_cal_s (by simp [ex_okR, ex_isv, ex_lay, h, show ex_C 137 = 10 from rfl, show ex_L 137 = 5 from rfl])]
  rfl
theorem kr_138 : ex_ret 138 = some .int := rfl
theorem ke_138 {d : Nat} {o : Nat} {a0 : Int32} {a1 : Int32} {w : PW} (h : ex_cls o = 10) : ex_cal (d + 1) 138 [.ref o, .int a0, .int a1] w = ex_ev d (ex_cal d) 138 (ex_blk 138 0, [.ref o, .int a0, .int a1, .null, .null], [], w) := by
  rw [ex_cal_s (by simp [ex_okR, ex_isv, ex_lay, h, show ex_C 138 = 10 from rfl, show ex_L 138 = 5 from rfl])]
  rfl
theorem kr_139 : ex_ret 139 = some .int := rfl
theorem ke_139 {d : Nat} {o : Nat} {w : PW} (h : ex_cls o = 10) : ex_cal (d + 1) 139 [.ref o] w = ex_ev d (ex_cal d) 139 (ex_blk 139 0, [.ref o, .null, .null, .null, .null], [], w) := by
  rw [ex_cal_s (by simp [ex_okR, ex_isv, ex_lay, h, show ex_C 139 = 10 from rfl, show ex_L 139 = 5 from rfl])]
  rfl
theorem kr_140 : ex_ret 140 = some .int := rfl
theorem ke_140 {d : Nat} {o : Nat} {a0 : Int32} {a1 : Int32} {a2 : Int32} {a3 : Int32} {w : PW} (h : ex_cls o = 10) : ex_cal (d + 1) 140 [.ref o, .int a0, .int a1, .int a2, .int a3] w = ex_ev d (ex_cal d) 140 (ex_blk 140 0, [.ref o, .int a0, .int a1, .int a2, .int a3, .null, .null], [], w) := by
  rw [ex_cal_s (by simp [ex_okR, ex_isv, ex_lay, h, show ex_C 140 = 10 from rfl, show ex_L 140 = 7 from rfl])]
  rfl
theorem kr_141 : ex_ret 141 = some .int := rfl
theorem ke_141 {d : Nat} {o : Nat} {w : PW} (h : ex_cls o = 10) : ex_cal (d + 1) 141 [.ref o] w = ex_ev d (ex_cal d) 141 (ex_blk 141 0, [.ref o, .null, .null], [], w) := by
  rw [ex_cal_s (by simp [ex_okR, ex_isv, ex_lay, h, show ex_C 141 = 10 from rfl, show ex_L 141 = 3 from rfl])]
  rfl
theorem kr_142 : ex_ret 142 = some .boolean := rfl
theorem ke_142 {d : Nat} {o : Nat} {a0 : Int32} {w : PW} (h : ex_cls o = 10) : ex_cal (d + 1) 142 [.ref o, .int a0] w = ex_ev d (ex_cal d) 142 (ex_blk 142 0, [.ref o, .int a0, .null], [], w) := by
  rw [ex_cal_s (by simp [ex_okR, ex_isv, ex_lay, h, show ex_C 142 = 10 from rfl, show ex_L 142 = 3 from rfl])]
  rfl
theorem kr_143 : ex_ret 143 = some .long := rfl
theorem ke_143 {d : Nat} {o : Nat} {a0 : Int64} {w : PW} (h : ex_cls o = 10) : ex_cal (d + 1) 143 [.ref o, .long a0] w = ex_ev d (ex_cal d) 143 (ex_blk 143 0, [.ref o, .long a0, .retAddr 0, .null, .null, .null, .null], [], w) := by
  rw [ex_cal_s (by simp [ex_okR, ex_isv, ex_lay, h, show ex_C 143 = 10 from rfl, show ex_L 143 = 7 from rfl])]
  rfl
theorem kr_144 : ex_ret 144 = some .long := rfl
theorem ke_144 {d : Nat} {o : Nat} {a0 : Int64} {w : PW} (h : ex_cls o = 10) : ex_cal (d + 1) 144 [.ref o, .long a0] w = ex_ev d (ex_cal d) 144 (ex_blk 144 0, [.ref o, .long a0, .retAddr 0, .null, .null, .null, .null], [], w) := by
  rw [ex_cal_s (by simp [ex_okR, ex_isv, ex_lay, h, show ex_C 144 = 10 from rfl, show ex_L 144 = 7 from rfl])]
  rfl
theorem kr_145 : ex_ret 145 = some .long := rfl
theorem ke_145 {d : Nat} {o : Nat} {a0 : Int64} {w : PW} (h : ex_cls o = 10) : ex_cal (d + 1) 145 [.ref o, .long a0] w = ex_ev d (ex_cal d) 145 (ex_blk 145 0, [.ref o, .long a0, .retAddr 0, .null, .null, .null, .null], [], w) := by
  rw [ex_cal_s (by simp [ex_okR, ex_isv, ex_lay, h, show ex_C 145 = 10 from rfl, show ex_L 145 = 7 from rfl])]
  rfl
theorem kr_146 : ex_ret 146 = some .long := rfl
theorem ke_146 {d : Nat} {o : Nat} {a0 : Int64} {w : PW} (h : ex_cls o = 10) : ex_cal (d + 1) 146 [.ref o, .long a0] w = ex_ev d (ex_cal d) 146 (ex_blk 146 0, [.ref o, .long a0, .retAddr 0, .null, .null, .null, .null], [], w) := by
  rw [ex_cal_s (by simp [ex_okR, ex_isv, ex_lay, h, show ex_C 146 = 10 from rfl, show ex_L 146 = 7 from rfl])]
  rfl
theorem kr_147 : ex_ret 147 = some .long := rfl
theorem ke_147 {d : Nat} {a0 : Int64} {a1 : Nat} {w : PW} : ex_cal (d + 1) 147 [.long a0, .ref a1] w = ex_ev d (ex_cal d) 147 (ex_blk 147 0, [.long a0, .retAddr 0, .ref a1, .null, .null, .null], [], w) := by
  rw [ex_cal_s (rfl)]
  rfl
theorem kr_148 : ex_ret 148 = some .boolean := rfl
theorem ke_148 {d : Nat} {a0 : Int32} {a1 : Int32} {a2 : Int32} {w : PW} : ex_cal (d + 1) 148 [.int a0, .int a1, .int a2] w = ex_ev d (ex_cal d) 148 (ex_blk 148 0, [.int a0, .int a1, .int a2], [], w) := by
  rw [ex_cal_s (rfl)]
  rfl
theorem kr_149 : ex_ret 149 = some .int := rfl
theorem ke_149 {d : Nat} {o : Nat} {a0 : Int64} {w : PW} (h : ex_cls o = 11) : ex_cal (d + 1) 149 [.ref o, .long a0] w = ex_ev d (ex_cal d) 149 (ex_blk 149 0, [.ref o, .long a0, .retAddr 0, .null, .null, .null, .null], [], w) := by
  rw [ex_cal_s (by simp [ex_okR, ex_isv, ex_lay, h, show ex_C 149 = 11 from rfl, show ex_L 149 = 7 from rfl])]
  rfl
theorem kr_150 : ex_ret 150 = some .int := rfl
theorem ke_150 {d : Nat} {o : Nat} {w : PW} (h : ex_cls o = 11) : ex_cal (d + 1) 150 [.ref o] w = ex_ev d (ex_cal d) 150 (ex_blk 150 0, [.ref o, .null], [], w) := by
  rw [ex_cal_s (by simp [ex_okR, ex_isv, ex_lay, h, show ex_C 150 = 11 from rfl, show ex_L 150 = 2 from rfl])]
  rfl
theorem kr_151 : ex_ret 151 = some .boolean := rfl
theorem ke_151 {d : Nat} {a0 : Int32} {w : PW} : ex_cal (d + 1) 151 [.int a0] w = ex_ev d (ex_cal d) 151 (ex_blk 151 0, [.int a0], [], w) := by
  rw [ex_cal_s (rfl)]
  rfl
theorem kr_152 : ex_ret 152 = some .int := rfl
theorem ke_152 {d : Nat} {a0 : Int32} {w : PW} : ex_cal (d + 1) 152 [.int a0] w = ex_ev d (ex_cal d) 152 (ex_blk 152 0, [.int a0], [], w) := by
  rw [ex_cal_s (rfl)]
  rfl
theorem kr_153 : ex_ret 153 = some .boolean := rfl
theorem ke_153 {d : Nat} {o : Nat} {a0 : Int32} {w : PW} (h : ex_cls o = 11) : ex_cal (d + 1) 153 [.ref o, .int a0] w = ex_ev d (ex_cal d) 153 (ex_blk 153 0, [.ref o, .int a0, .null], [], w) := by
  rw [ex_cal_s (by simp [ex_okR, ex_isv, ex_lay, h, show ex_C 153 = 11 from rfl, show ex_L 153 = 3 from rfl])]
  rfl
theorem kr_154 : ex_ret 154 = none := rfl
theorem ke_154 {d : Nat} {o : Nat} {w : PW} (h : ex_cls o = 11) : ex_cal (d + 1) 154 [.ref o] w = ex_ev d (ex_cal d) 154 (ex_blk 154 0, [.ref o, .null], [], w) := by
  rw [ex_cal_s (by simp [ex_okR, ex_isv, ex_lay, h, show ex_C 154 = 11 from rfl, show ex_L 154 = 2 from rfl])]
  rfl
theorem kr_155 : ex_ret 155 = some .int := rfl
theorem ke_155 {d : Nat} {o : Nat} {a0 : Int32} {w : PW} (h : ex_cls o = 11) : ex_cal (d + 1) 155 [.ref o, .int a0] w = ex_ev d (ex_cal d) 155 (ex_blk 155 0, [.ref o, .int a0], [], w) := by
  rw [ex_cal_s (by simp [ex_okR, ex_isv, ex_lay, h, show ex_C 155 = 11 from rfl, show ex_L 155 = 2 from rfl])]
  rfl
theorem kr_156 : ex_ret 156 = none := rfl
theorem ke_156 {d : Nat} {o : Nat} {a0 : Int32} {a1 : Int32} {w : PW} (h : ex_cls o = 11) : ex_cal (d + 1) 156 [.ref o, .int a0, .int a1] w = ex_ev d (ex_cal d) 156 (ex_blk 156 0, [.ref o, .int a0, .int a1], [], w) := by
  rw [ex_cal_s (by simp [ex_okR, ex_isv, ex_lay, h, show ex_C 156 = 11 from rfl, show ex_L 156 = 3 from rfl])]
  rfl
theorem kr_157 : ex_ret 157 = some .boolean := rfl
theorem ke_157 {d : Nat} {o : Nat} {a0 : Int32} {a1 : Int32} {w : PW} (h : ex_cls o = 11) : ex_cal (d + 1) 157 [.ref o, .int a0, .int a1] w = ex_ev d (ex_cal d) 157 (ex_blk 157 0, [.ref o, .int a0, .int a1, .null], [], w) := by
  rw [ex_cal_s (by simp [ex_okR, ex_isv, ex_lay, h, show ex_C 157 = 11 from rfl, show ex_L 157 = 4 from rfl])]
  rfl
theorem kr_158 : ex_ret 158 = some .int := rfl
theorem ke_158 {d : Nat} {o : Nat} {a0 : Int32} {w : PW} (h : ex_cls o = 11) : ex_cal (d + 1) 158 [.ref o, .int a0] w = ex_ev d (ex_cal d) 158 (ex_blk 158 0, [.ref o, .int a0], [], w) := by
  rw [ex_cal_s (by simp [ex_okR, ex_isv, ex_lay, h, show ex_C 158 = 11 from rfl, show ex_L 158 = 2 from rfl])]
  rfl
theorem kr_159 : ex_ret 159 = some .int := rfl
theorem ke_159 {d : Nat} {o : Nat} {a0 : Int32} {w : PW} (h : ex_cls o = 11) : ex_cal (d + 1) 159 [.ref o, .int a0] w = ex_ev d (ex_cal d) 159 (ex_blk 159 0, [.ref o, .int a0, .null], [], w) := by
  rw [ex_cal_s (by simp [ex_okR, ex_isv, ex_lay, h, show ex_C 159 = 11 from rfl, show ex_L 159 = 3 from rfl])]
  rfl
theorem kr_160 : ex_ret 160 = some .int := rfl
theorem ke_160 {d : Nat} {o : Nat} {a0 : Int32} {a1 : Int32} {w : PW} (h : ex_cls o = 11) : ex_cal (d + 1) 160 [.ref o, .int a0, .int a1] w = ex_ev d (ex_cal d) 160 (ex_blk 160 0, [.ref o, .int a0, .int a1], [], w) := by
  rw [ex_cal_s (by simp [ex_okR, ex_isv, ex_lay, h, show ex_C 160 = 11 from rfl, show ex_L 160 = 3 from rfl])]
  rfl
theorem kr_161 : ex_ret 161 = none := rfl
theorem ke_161 {d : Nat} {o : Nat} {w : PW} (h : ex_cls o = 11) : ex_cal (d + 1) 161 [.ref o] w = ex_ev d (ex_cal d) 161 (ex_blk 161 0, [.ref o, .null, .null, .null, .null], [], w) := by
  rw [ex_cal_s (by simp [ex_okR, ex_isv, ex_lay, h, show ex_C 161 = 11 from rfl, show ex_L 161 = 5 from rfl])]
  rfl
theorem kr_162 : ex_ret 162 = some .int := rfl
theorem ke_162 {d : Nat} {o : Nat} {a0 : Int32} {w : PW} (h : ex_cls o = 11) : ex_cal (d + 1) 162 [.ref o, .int a0] w = ex_ev d (ex_cal d) 162 (ex_blk 162 0, [.ref o, .int a0], [], w) := by
  rw [ex_cal_s (by simp [ex_okR, ex_isv, ex_lay, h, show ex_C 162 = 11 from rfl, show ex_L 162 = 2 from rfl])]
  rfl
theorem kr_163 : ex_ret 163 = some .int := rfl
theorem ke_163 {d : Nat} {o : Nat} {w : PW} (h : ex_cls o = 11) : ex_cal (d + 1) 163 [.ref o] w = ex_ev d (ex_cal d) 163 (ex_blk 163 0, [.ref o, .null], [], w) := by
  rw [ex_cal_s (by simp [ex_okR, ex_isv, ex_lay, h, show ex_C 163 = 11 from rfl, show ex_L 163 = 2 from rfl])]
  rfl
theorem kr_164 : ex_ret 164 = some .int := rfl
theorem ke_164 {d : Nat} {o : Nat} {w : PW} (h : ex_cls o = 11) : ex_cal (d + 1) 164 [.ref o] w = ex_ev d (ex_cal d) 164 (ex_blk 164 0, [.ref o], [], w) := by
  rw [ex_cal_s (by simp [ex_okR, ex_isv, ex_lay, h, show ex_C 164 = 11 from rfl, show ex_L 164 = 1 from rfl])]
  rfl
theorem kr_165 : ex_ret 165 = some .int := rfl
theorem ke_165 {d : Nat} {o : Nat} {a0 : Int32} {a1 : Int32} {w : PW} (h : ex_cls o = 11) : ex_cal (d + 1) 165 [.ref o, .int a0, .int a1] w = ex_ev d (ex_cal d) 165 (ex_blk 165 0, [.ref o, .int a0, .int a1], [], w) := by
  rw [ex_cal_s (by simp [ex_okR, ex_isv, ex_lay, h, show ex_C 165 = 11 from rfl, show ex_L 165 = 3 from rfl])]
  rfl
theorem kr_166 : ex_ret 166 = some .boolean := rfl
theorem ke_166 {d : Nat} {o : Nat} {a0 : Int32} {w : PW} (h : ex_cls o = 11) : ex_cal (d + 1) 166 [.ref o, .int a0] w = ex_ev d (ex_cal d) 166 (ex_blk 166 0, [.ref o, .int a0], [], w) := by
  rw [ex_cal_s (by simp [ex_okR, ex_isv, ex_lay, h, show ex_C 166 = 11 from rfl, show ex_L 166 = 2 from rfl])]
  rfl
theorem kr_167 : ex_ret 167 = some .int := rfl
theorem ke_167 {d : Nat} {o : Nat} {a0 : Int32} {a1 : Int32} {w : PW} (h : ex_cls o = 11) : ex_cal (d + 1) 167 [.ref o, .int a0, .int a1] w = ex_ev d (ex_cal d) 167 (ex_blk 167 0, [.ref o, .int a0, .int a1], [], w) := by
  rw [ex_cal_s (by simp [ex_okR, ex_isv, ex_lay, h, show ex_C 167 = 11 from rfl, show ex_L 167 = 3 from rfl])]
  rfl
theorem kr_168 : ex_ret 168 = some .int := rfl
theorem ke_168 {d : Nat} {o : Nat} {a0 : Int32} {a1 : Int32} {w : PW} (h : ex_cls o = 11) : ex_cal (d + 1) 168 [.ref o, .int a0, .int a1] w = ex_ev d (ex_cal d) 168 (ex_blk 168 0, [.ref o, .int a0, .int a1, .null], [], w) := by
  rw [ex_cal_s (by simp [ex_okR, ex_isv, ex_lay, h, show ex_C 168 = 11 from rfl, show ex_L 168 = 4 from rfl])]
  rfl
theorem kr_169 : ex_ret 169 = some .int := rfl
theorem ke_169 {d : Nat} {o : Nat} {w : PW} (h : ex_cls o = 11) : ex_cal (d + 1) 169 [.ref o] w = ex_ev d (ex_cal d) 169 (ex_blk 169 0, [.ref o], [], w) := by
  rw [ex_cal_s (by simp [ex_okR, ex_isv, ex_lay, h, show ex_C 169 = 11 from rfl, show ex_L 169 = 1 from rfl])]
  rfl
theorem kr_170 : ex_ret 170 = some .boolean := rfl
theorem ke_170 {d : Nat} {o : Nat} {a0 : Int32} {w : PW} (h : ex_cls o = 11) : ex_cal (d + 1) 170 [.ref o, .int a0] w = ex_ev d (ex_cal d) 170 (ex_blk 170 0, [.ref o, .int a0], [], w) := by
  rw [ex_cal_s (by simp [ex_okR, ex_isv, ex_lay, h, show ex_C 170 = 11 from rfl, show ex_L 170 = 2 from rfl])]
  rfl
theorem kr_171 : ex_ret 171 = some .boolean := rfl
theorem ke_171 {d : Nat} {o : Nat} {a0 : Int32} {w : PW} (h : ex_cls o = 11) : ex_cal (d + 1) 171 [.ref o, .int a0] w = ex_ev d (ex_cal d) 171 (ex_blk 171 0, [.ref o, .int a0], [], w) := by
  rw [ex_cal_s (by simp [ex_okR, ex_isv, ex_lay, h, show ex_C 171 = 11 from rfl, show ex_L 171 = 2 from rfl])]
  rfl
theorem kr_172 : ex_ret 172 = some .int := rfl
theorem ke_172 {d : Nat} {o : Nat} {a0 : Int32} {w : PW} (h : ex_cls o = 11) : ex_cal (d + 1) 172 [.ref o, .int a0] w = ex_ev d (ex_cal d) 172 (ex_blk 172 0, [.ref o, .int a0, .null], [], w) := by
  rw [ex_cal_s (by simp [ex_okR, ex_isv, ex_lay, h, show ex_C 172 = 11 from rfl, show ex_L 172 = 3 from rfl])]
  rfl
theorem kr_173 : ex_ret 173 = some .int := rfl
theorem ke_173 {d : Nat} {o : Nat} {a0 : Int32} {a1 : Int32} {w : PW} (h : ex_cls o = 11) : ex_cal (d + 1) 173 [.ref o, .int a0, .int a1] w = ex_ev d (ex_cal d) 173 (ex_blk 173 0, [.ref o, .int a0, .int a1, .null, .null], [], w) := by
  rw [ex_cal_s (by simp [ex_okR, ex_isv, ex_lay, h, show ex_C 173 = 11 from rfl, show ex_L 173 = 5 from rfl])]
  rfl
theorem kr_174 : ex_ret 174 = some .int := rfl
theorem ke_174 {d : Nat} {o : Nat} {a0 : Int32} {a1 : Int32} {w : PW} (h : ex_cls o = 11) : ex_cal (d + 1) 174 [.ref o, .int a0, .int a1] w = ex_ev d (ex_cal d) 174 (ex_blk 174 0, [.ref o, .int a0, .int a1, .null], [], w) := by
  rw [ex_cal_s (by simp [ex_okR, ex_isv, ex_lay, h, show ex_C 174 = 11 from rfl, show ex_L 174 = 4 from rfl])]
  rfl
theorem kr_175 : ex_ret 175 = some .int := rfl
theorem ke_175 {d : Nat} {o : Nat} {a0 : Int32} {w : PW} (h : ex_cls o = 11) : ex_cal (d + 1) 175 [.ref o, .int a0] w = ex_ev d (ex_cal d) 175 (ex_blk 175 0, [.ref o, .int a0], [], w) := by
  rw [ex_cal_s (by simp [ex_okR, ex_isv, ex_lay, h, show ex_C 175 = 11 from rfl, show ex_L 175 = 2 from rfl])]
  rfl
theorem kr_176 : ex_ret 176 = some .int := rfl
theorem ke_176 {d : Nat} {o : Nat} {a0 : Int32} {w : PW} (h : ex_cls o = 11) : ex_cal (d + 1) 176 [.ref o, .int a0] w = ex_ev d (ex_cal d) 176 (ex_blk 176 0, [.ref o, .int a0, .null], [], w) := by
  rw [ex_cal_s (by simp [ex_okR, ex_isv, ex_lay, h, show ex_C 176 = 11 from rfl, show ex_L 176 = 3 from rfl])]
  rfl
theorem kr_177 : ex_ret 177 = none := rfl
theorem ke_177 {d : Nat} {o : Nat} {a0 : Int32} {a1 : Int32} {w : PW} (h : ex_cls o = 11) : ex_cal (d + 1) 177 [.ref o, .int a0, .int a1] w = ex_ev d (ex_cal d) 177 (ex_blk 177 0, [.ref o, .int a0, .int a1, .null, .null, .null, .null, .null, .null], [], w) := by
  rw [ex_cal_s (by simp [ex_okR, ex_isv, ex_lay, h, show ex_C 177 = 11 from rfl, show ex_L 177 = 9 from rfl])]
  rfl
theorem kr_178 : ex_ret 178 = some .int := rfl
theorem ke_178 {d : Nat} {o : Nat} {a0 : Int32} {w : PW} (h : ex_cls o = 11) : ex_cal (d + 1) 178 [.ref o, .int a0] w = ex_ev d (ex_cal d) 178 (ex_blk 178 0, [.ref o, .int a0, .null, .null], [], w) := by
  rw [ex_cal_s (by simp [ex_okR, ex_isv, ex_lay, h, show ex_C 178 = 11 from rfl, show ex_L 178 = 4 from rfl])]
  rfl
theorem kr_179 : ex_ret 179 = some .int := rfl
theorem ke_179 {d : Nat} {o : Nat} {a0 : Int32} {a1 : Int32} {w : PW} (h : ex_cls o = 11) : ex_cal (d + 1) 179 [.ref o, .int a0, .int a1] w = ex_ev d (ex_cal d) 179 (ex_blk 179 0, [.ref o, .int a0, .int a1], [], w) := by
  rw [ex_cal_s (by simp [ex_okR, ex_isv, ex_lay, h, show ex_C 179 = 11 from rfl, show ex_L 179 = 3 from rfl])]
  rfl
theorem kr_180 : ex_ret 180 = some .int := rfl
theorem ke_180 {d : Nat} {o : Nat} {a0 : Int32} {a1 : Int32} {w : PW} (h : ex_cls o = 11) : ex_cal (d + 1) 180 [.ref o, .int a0, .int a1] w = ex_ev d (ex_cal d) 180 (ex_blk 180 0, [.ref o, .int a0, .int a1], [], w) := by
  rw [ex_cal_s (by simp [ex_okR, ex_isv, ex_lay, h, show ex_C 180 = 11 from rfl, show ex_L 180 = 3 from rfl])]
  rfl
theorem kr_181 : ex_ret 181 = some .int := rfl
theorem ke_181 {d : Nat} {o : Nat} {a0 : Int32} {a1 : Int32} {a2 : Int32} {a3 : Int32} {w : PW} (h : ex_cls o = 11) : ex_cal (d + 1) 181 [.ref o, .int a0, .int a1, .int a2, .int a3] w = ex_ev d (ex_cal d) 181 (ex_blk 181 0, [.ref o, .int a0, .int a1, .int a2, .int a3, .null], [], w) := by
  rw [ex_cal_s (by simp [ex_okR, ex_isv, ex_lay, h, show ex_C 181 = 11 from rfl, show ex_L 181 = 6 from rfl])]
  rfl
theorem kr_182 : ex_ret 182 = some .boolean := rfl
theorem ke_182 {d : Nat} {a0 : Int32} {a1 : Int32} {w : PW} : ex_cal (d + 1) 182 [.int a0, .int a1] w = ex_ev d (ex_cal d) 182 (ex_blk 182 0, [.int a0, .int a1], [], w) := by
  rw [ex_cal_s (rfl)]
  rfl
theorem kr_183 : ex_ret 183 = some .int := rfl
theorem ke_183 {d : Nat} {o : Nat} {a0 : Int32} {a1 : Int32} {a2 : Int32} {a3 : Int32} {w : PW} (h : ex_cls o = 11) : ex_cal (d + 1) 183 [.ref o, .int a0, .int a1, .int a2, .int a3] w = ex_ev d (ex_cal d) 183 (ex_blk 183 0, [.ref o, .int a0, .int a1, .int a2, .int a3], [], w) := by
  rw [ex_cal_s (by simp [ex_okR, ex_isv, ex_lay, h, show ex_C 183 = 11 from rfl, show ex_L 183 = 5 from rfl])]
  rfl
theorem kr_184 : ex_ret 184 = some .boolean := rfl
theorem ke_184 {d : Nat} {o : Nat} {a0 : Int32} {a1 : Int32} {w : PW} (h : ex_cls o = 11) : ex_cal (d + 1) 184 [.ref o, .int a0, .int a1] w = ex_ev d (ex_cal d) 184 (ex_blk 184 0, [.ref o, .int a0, .int a1, .null, .null], [], w) := by
  rw [ex_cal_s (by simp [ex_okR, ex_isv, ex_lay, h, show ex_C 184 = 11 from rfl, show ex_L 184 = 5 from rfl])]
  rfl
theorem kr_185 : ex_ret 185 = some .boolean := rfl
theorem ke_185 {d : Nat} {o : Nat} {a0 : Int32} {a1 : Int32} {a2 : Int32} {a3 : Int32} {w : PW} (h : ex_cls o = 11) : ex_cal (d + 1) 185 [.ref o, .int a0, .int a1, .int a2, .int a3] w = ex_ev d (ex_cal d) 185 (ex_blk 185 0, [.ref o, .int a0, .int a1, .int a2, .int a3, .null, .null], [], w) := by
  rw [ex_cal_s (by simp [ex_okR, ex_isv, ex_lay, h, show ex_C 185 = 11 from rfl, show ex_L 185 = 7 from rfl])]
  rfl
theorem kr_186 : ex_ret 186 = some .int := rfl
theorem ke_186 {d : Nat} {o : Nat} {a0 : Int32} {a1 : Int32} {a2 : Int32} {a3 : Int32} {a4 : Int32} {w : PW} (h : ex_cls o = 11) : ex_cal (d + 1) 186 [.ref o, .int a0, .int a1, .int a2, .int a3, .int a4] w = ex_ev d (ex_cal d) 186 (ex_blk 186 0, [.ref o, .int a0, .int a1, .int a2, .int a3, .int a4, .null, .null, .null], [], w) := by
  rw [ex_cal_s (by simp [ex_okR, ex_isv, ex_lay, h, show ex_C 186 = 11 from rfl, show ex_L 186 = 9 from rfl])]
  rfl
theorem kr_187 : ex_ret 187 = some .boolean := rfl
theorem ke_187 {d : Nat} {a0 : Int32} {a1 : Int32} {w : PW} : ex_cal (d + 1) 187 [.int a0, .int a1] w = ex_ev d (ex_cal d) 187 (ex_blk 187 0, [.int a0, .int a1], [], w) := by
  rw [ex_cal_s (rfl)]
  rfl
theorem kr_188 : ex_ret 188 = some .int := rfl
theorem ke_188 {d : Nat} {o : Nat} {a0 : Int32} {a1 : Int32} {a2 : Int32} {a3 : Int32} {a4 : Int32} {w : PW} (h : ex_cls o = 11) : ex_cal (d + 1) 188 [.ref o, .int a0, .int a1, .int a2, .int a3, .int a4] w = ex_ev d (ex_cal d) 188 (ex_blk 188 0, [.ref o, .int a0, .int a1, .int a2, .int a3, .int a4], [], w) := by
  rw [ex_cal_s (by simp [ex_okR, ex_isv, ex_lay, h, show ex_C 188 = 11 from rfl, show ex_L 188 = 6 from rfl])]
  rfl
theorem kr_189 : ex_ret 189 = some .int := rfl
theorem ke_189 {d : Nat} {o : Nat} {a0 : Int32} {a1 : Int32} {a2 : Int32} {a3 : Int32} {a4 : Int32} {w : PW} (h : ex_cls o = 11) : ex_cal (d + 1) 189 [.ref o, .int a0, .int a1, .int a2, .int a3, .int a4] w = ex_ev d (ex_cal d) 189 (ex_blk 189 0, [.ref o, .int a0, .int a1, .int a2, .int a3, .int a4], [], w) := by
  rw [ex_cal_s (by simp [ex_okR, ex_isv, ex_lay, h, show ex_C 189 = 11 from rfl, show ex_L 189 = 6 from rfl])]
  rfl
theorem kr_190 : ex_ret 190 = some .int := rfl
theorem ke_190 {d : Nat} {o : Nat} {a0 : Int32} {w : PW} (h : ex_cls o = 11) : ex_cal (d + 1) 190 [.ref o, .int a0] w = ex_ev d (ex_cal d) 190 (ex_blk 190 0, [.ref o, .int a0], [], w) := by
  rw [ex_cal_s (by simp [ex_okR, ex_isv, ex_lay, h, show ex_C 190 = 11 from rfl, show ex_L 190 = 2 from rfl])]
  rfl
theorem kr_191 : ex_ret 191 = some .int := rfl
theorem ke_191 {d : Nat} {a0 : Int32} {w : PW} : ex_cal (d + 1) 191 [.int a0] w = ex_ev d (ex_cal d) 191 (ex_blk 191 0, [.int a0, .null], [], w) := by
  rw [ex_cal_s (rfl)]
  rfl
theorem kr_192 : ex_ret 192 = some .int := rfl
theorem ke_192 {d : Nat} {o : Nat} {a0 : Int32} {w : PW} (h : ex_cls o = 11) : ex_cal (d + 1) 192 [.ref o, .int a0] w = ex_ev d (ex_cal d) 192 (ex_blk 192 0, [.ref o, .int a0, .null, .null], [], w) := by
  rw [ex_cal_s (by simp [ex_okR, ex_isv, ex_lay, h, show ex_C 192 = 11 from rfl, show ex_L 192 = 4 from rfl])]
  rfl
theorem kr_193 : ex_ret 193 = some .int := rfl
theorem ke_193 {d : Nat} {o : Nat} {a0 : Int32} {a1 : Int32} {a2 : Int32} {a3 : Int32} {w : PW} (h : ex_cls o = 11) : ex_cal (d + 1) 193 [.ref o, .int a0, .int a1, .int a2, .int a3] w = ex_ev d (ex_cal d) 193 (ex_blk 193 0, [.ref o, .int a0, .int a1, .int a2, .int a3, .null, .null, .null, .null], [], w) := by
  rw [ex_cal_s (by simp [ex_okR, ex_isv, ex_lay, h, show ex_C 193 = 11 from rfl, show ex_L 193 = 9 from rfl])]
  rfl
theorem kr_194 : ex_ret 194 = some .boolean := rfl
theorem ke_194 {d : Nat} {o : Nat} {a0 : Int32} {w : PW} (h : ex_cls o = 11) : ex_cal (d + 1) 194 [.ref o, .int a0] w = ex_ev d (ex_cal d) 194 (ex_blk 194 0, [.ref o, .int a0], [], w) := by
  rw [ex_cal_s (by simp [ex_okR, ex_isv, ex_lay, h, show ex_C 194 = 11 from rfl, show ex_L 194 = 2 from rfl])]
  rfl
theorem kr_195 : ex_ret 195 = some .boolean := rfl
theorem ke_195 {d : Nat} {o : Nat} {a0 : Int32} {a1 : Int32} {a2 : Int32} {w : PW} (h : ex_cls o = 11) : ex_cal (d + 1) 195 [.ref o, .int a0, .int a1, .int a2] w = ex_ev d (ex_cal d) 195 (ex_blk 195 0, [.ref o, .int a0, .int a1, .int a2, .null], [], w) := by
  rw [ex_cal_s (by simp [ex_okR, ex_isv, ex_lay, h, show ex_C 195 = 11 from rfl, show ex_L 195 = 5 from rfl])]
  rfl
theorem kr_196 : ex_ret 196 = some .boolean := rfl
theorem ke_196 {d : Nat} {o : Nat} {a0 : Int32} {a1 : Int32} {w : PW} (h : ex_cls o = 11) : ex_cal (d + 1) 196 [.ref o, .int a0, .int a1] w = ex_ev d (ex_cal d) 196 (ex_blk 196 0, [.ref o, .int a0, .int a1, .null, .null], [], w) := by
  rw [ex_cal_s (by simp [ex_okR, ex_isv, ex_lay, h, show ex_C 196 = 11 from rfl, show ex_L 196 = 5 from rfl])]
  rfl
theorem kr_197 : ex_ret 197 = some .boolean := rfl
theorem ke_197 {d : Nat} {o : Nat} {w : PW} (h : ex_cls o = 11) : ex_cal (d + 1) 197 [.ref o] w = ex_ev d (ex_cal d) 197 (ex_blk 197 0, [.ref o, .null, .null, .null], [], w) := by
  rw [ex_cal_s (by simp [ex_okR, ex_isv, ex_lay, h, show ex_C 197 = 11 from rfl, show ex_L 197 = 4 from rfl])]
  rfl
theorem kr_198 : ex_ret 198 = none := rfl
theorem ke_198 {d : Nat} {o : Nat} {a0 : Int32} {a1 : Int32} {a2 : Int32} {a3 : Int32} {w : PW} (h : ex_cls o = 11) : ex_cal (d + 1) 198 [.ref o, .int a0, .int a1, .int a2, .int a3] w = ex_ev d (ex_cal d) 198 (ex_blk 198 0, [.ref o, .int a0, .int a1, .int a2, .int a3], [], w) := by
  rw [ex_cal_s (by simp [ex_okR, ex_isv, ex_lay, h, show ex_C 198 = 11 from rfl, show ex_L 198 = 5 from rfl])]
  rfl
theorem kr_199 : ex_ret 199 = some .boolean := rfl
theorem ke_199 {d : Nat} {a0 : Int32} {a1 : Int32} {w : PW} : ex_cal (d + 1) 199 [.int a0, .int a1] w = ex_ev d (ex_cal d) 199 (ex_blk 199 0, [.int a0, .int a1], [], w) := by
  rw [ex_cal_s (rfl)]
  rfl
theorem kr_200 : ex_ret 200 = some .int := rfl
theorem ke_200 {d : Nat} {o : Nat} {a0 : Int32} {a1 : Int32} {a2 : Int32} {w : PW} (h : ex_cls o = 11) : ex_cal (d + 1) 200 [.ref o, .int a0, .int a1, .int a2] w = ex_ev d (ex_cal d) 200 (ex_blk 200 0, [.ref o, .int a0, .int a1, .int a2], [], w) := by
  rw [ex_cal_s (by simp [ex_okR, ex_isv, ex_lay, h, show ex_C 200 = 11 from rfl, show ex_L 200 = 4 from rfl])]
  rfl
theorem kr_201 : ex_ret 201 = some .boolean := rfl
theorem ke_201 {d : Nat} {o : Nat} {a0 : Int32} {a1 : Int32} {a2 : Int32} {w : PW} (h : ex_cls o = 11) : ex_cal (d + 1) 201 [.ref o, .int a0, .int a1, .int a2] w = ex_ev d (ex_cal d) 201 (ex_blk 201 0, [.ref o, .int a0, .int a1, .int a2, .null], [], w) := by
  rw [ex_cal_s (by simp [ex_okR, ex_isv, ex_lay, h, show ex_C 201 = 11 from rfl, show ex_L 201 = 5 from rfl])]
  rfl
theorem kr_202 : ex_ret 202 = some .boolean := rfl
theorem ke_202 {d : Nat} {o : Nat} {a0 : Int32} {w : PW} (h : ex_cls o = 11) : ex_cal (d + 1) 202 [.ref o, .int a0] w = ex_ev d (ex_cal d) 202 (ex_blk 202 0, [.ref o, .int a0], [], w) := by
  rw [ex_cal_s (by simp [ex_okR, ex_isv, ex_lay, h, show ex_C 202 = 11 from rfl, show ex_L 202 = 2 from rfl])]
  rfl
theorem kr_203 : ex_ret 203 = some .int := rfl
theorem ke_203 {d : Nat} {o : Nat} {a0 : Int32} {a1 : Int32} {w : PW} (h : ex_cls o = 11) : ex_cal (d + 1) 203 [.ref o, .int a0, .int a1] w = ex_ev d (ex_cal d) 203 (ex_blk 203 0, [.ref o, .int a0, .int a1, .null], [], w) := by
  rw [ex_cal_s (by simp [ex_okR, ex_isv, ex_lay, h, show ex_C 203 = 11 from rfl, show ex_L 203 = 4 from rfl])]
  rfl
theorem kr_204 : ex_ret 204 = some .int := rfl
theorem ke_204 {d : Nat} {o : Nat} {a0 : Int32} {a1 : Int32} {w : PW} (h : ex_cls o = 11) : ex_cal (d + 1) 204 [.ref o, .int a0, .int a1] w = ex_ev d (ex_cal d) 204 (ex_blk 204 0, [.ref o, .int a0, .int a1], [], w) := by
  rw [ex_cal_s (by simp [ex_okR, ex_isv, ex_lay, h, show ex_C 204 = 11 from rfl, show ex_L 204 = 3 from rfl])]
  rfl
theorem kr_205 : ex_ret 205 = some .int := rfl
theorem ke_205 {d : Nat} {o : Nat} {a0 : Int32} {a1 : Int32} {w : PW} (h : ex_cls o = 11) : ex_cal (d + 1) 205 [.ref o, .int a0, .int a1] w = ex_ev d (ex_cal d) 205 (ex_blk 205 0, [.ref o, .int a0, .int a1], [], w) := by
  rw [ex_cal_s (by simp [ex_okR, ex_isv, ex_lay, h, show ex_C 205 = 11 from rfl, show ex_L 205 = 3 from rfl])]
  rfl
theorem kr_206 : ex_ret 206 = some .int := rfl
theorem ke_206 {d : Nat} {o : Nat} {a0 : Int32} {a1 : Int32} {a2 : Int32} {w : PW} (h : ex_cls o = 11) : ex_cal (d + 1) 206 [.ref o, .int a0, .int a1, .int a2] w = ex_ev d (ex_cal d) 206 (ex_blk 206 0, [.ref o, .int a0, .int a1, .int a2, .null, .null], [], w) := by
  rw [ex_cal_s (by simp [ex_okR, ex_isv, ex_lay, h, show ex_C 206 = 11 from rfl, show ex_L 206 = 6 from rfl])]
  rfl
theorem kr_207 : ex_ret 207 = some .int := rfl
theorem ke_207 {d : Nat} {o : Nat} {a0 : Int32} {a1 : Int32} {w : PW} (h : ex_cls o = 11) : ex_cal (d + 1) 207 [.ref o, .int a0, .int a1] w = ex_ev d (ex_cal d) 207 (ex_blk 207 0, [.ref o, .int a0, .int a1], [], w) := by
  rw [ex_cal_s (by simp [ex_okR, ex_isv, ex_lay, h, show ex_C 207 = 11 from rfl, show ex_L 207 = 3 from rfl])]
  rfl
theorem kr_208 : ex_ret 208 = some .boolean := rfl
theorem ke_208 {d : Nat} {o : Nat} {a0 : Int32} {a1 : Int32} {w : PW} (h : ex_cls o = 11) : ex_cal (d + 1) 208 [.ref o, .int a0, .int a1] w = ex_ev d (ex_cal d) 208 (ex_blk 208 0, [.ref o, .int a0, .int a1, .null, .null], [], w) := by
  rw [ex_cal_s (by simp [ex_okR, ex_isv, ex_lay, h, show ex_C 208 = 11 from rfl, show ex_L 208 = 5 from rfl])]
  rfl
theorem kr_209 : ex_ret 209 = some .boolean := rfl
theorem ke_209 {d : Nat} {o : Nat} {a0 : Int32} {a1 : Int32} {w : PW} (h : ex_cls o = 11) : ex_cal (d + 1) 209 [.ref o, .int a0, .int a1] w = ex_ev d (ex_cal d) 209 (ex_blk 209 0, [.ref o, .int a0, .int a1, .null, .null, .null, .null, .null, .null], [], w) := by
  rw [ex_cal_s (by simp [ex_okR, ex_isv, ex_lay, h, show ex_C 209 = 11 from rfl, show ex_L 209 = 9 from rfl])]
  rfl
theorem kr_210 : ex_ret 210 = some .boolean := rfl
theorem ke_210 {d : Nat} {o : Nat} {a0 : Int32} {a1 : Int32} {w : PW} (h : ex_cls o = 11) : ex_cal (d + 1) 210 [.ref o, .int a0, .int a1] w = ex_ev d (ex_cal d) 210 (ex_blk 210 0, [.ref o, .int a0, .int a1, .null, .null, .null], [], w) := by
  rw [ex_cal_s (by simp [ex_okR, ex_isv, ex_lay, h, show ex_C 210 = 11 from rfl, show ex_L 210 = 6 from rfl])]
  rfl
theorem kr_211 : ex_ret 211 = some .boolean := rfl
theorem ke_211 {d : Nat} {o : Nat} {a0 : Int32} {w : PW} (h : ex_cls o = 11) : ex_cal (d + 1) 211 [.ref o, .int a0] w = ex_ev d (ex_cal d) 211 (ex_blk 211 0, [.ref o, .int a0, .null, .null], [], w) := by
  rw [ex_cal_s (by simp [ex_okR, ex_isv, ex_lay, h, show ex_C 211 = 11 from rfl, show ex_L 211 = 4 from rfl])]
  rfl
theorem kr_212 : ex_ret 212 = some .int := rfl
theorem ke_212 {d : Nat} {o : Nat} {w : PW} (h : ex_cls o = 11) : ex_cal (d + 1) 212 [.ref o] w = ex_ev d (ex_cal d) 212 (ex_blk 212 0, [.ref o, .null, .null], [], w) := by
  rw [ex_cal_s (by simp [ex_okR, ex_isv, ex_lay, h, show ex_C 212 = 11 from rfl, show ex_L 212 = 3 from rfl])]
  rfl
theorem kr_213 : ex_ret 213 = some .int := rfl
theorem ke_213 {d : Nat} {o : Nat} {w : PW} (h : ex_cls o = 11) : ex_cal (d + 1) 213 [.ref o] w = ex_ev d (ex_cal d) 213 (ex_blk 213 0, [.ref o], [], w) := by
  rw [ex_cal_s (by simp [ex_okR, ex_isv, ex_lay, h, show ex_C 213 = 11 from rfl, show ex_L 213 = 1 from rfl])]
  rfl
theorem kr_214 : ex_ret 214 = some .boolean := rfl
theorem ke_214 {d : Nat} {o : Nat} {w : PW} (h : ex_cls o = 11) : ex_cal (d + 1) 214 [.ref o] w = ex_ev d (ex_cal d) 214 (ex_blk 214 0, [.ref o, .null, .null], [], w) := by
  rw [ex_cal_s (by simp [ex_okR, ex_isv, ex_lay, h, show ex_C 214 = 11 from rfl, show ex_L 214 = 3 from rfl])]
  rfl
theorem kr_215 : ex_ret 215 = some .boolean := rfl
theorem ke_215 {d : Nat} {o : Nat} {a0 : Int32} {a1 : Int32} {w : PW} (h : ex_cls o = 11) : ex_cal (d + 1) 215 [.ref o, .int a0, .int a1] w = ex_ev d (ex_cal d) 215 (ex_blk 215 0, [.ref o, .int a0, .int a1], [], w) := by
  rw [ex_cal_s (by simp [ex_okR, ex_isv, ex_lay, h, show ex_C 215 = 11 from rfl, show ex_L 215 = 3 from rfl])]
  rfl
theorem kr_216 : ex_ret 216 = some .boolean := rfl
theorem ke_216 {d : Nat} {o : Nat} {w : PW} (h : ex_cls o = 11) : ex_cal (d + 1) 216 [.ref o] w = ex_ev d (ex_cal d) 216 (ex_blk 216 0, [.ref o, .null, .null, .null, .null], [], w) := by
  rw [ex_cal_s (by simp [ex_okR, ex_isv, ex_lay, h, show ex_C 216 = 11 from rfl, show ex_L 216 = 5 from rfl])]
  rfl
theorem kr_217 : ex_ret 217 = some .boolean := rfl
theorem ke_217 {d : Nat} {o : Nat} {a0 : Int32} {w : PW} (h : ex_cls o = 11) : ex_cal (d + 1) 217 [.ref o, .int a0] w = ex_ev d (ex_cal d) 217 (ex_blk 217 0, [.ref o, .int a0, .null, .null, .null, .null], [], w) := by
  rw [ex_cal_s (by simp [ex_okR, ex_isv, ex_lay, h, show ex_C 217 = 11 from rfl, show ex_L 217 = 6 from rfl])]
  rfl
theorem kr_218 : ex_ret 218 = some .boolean := rfl
theorem ke_218 {d : Nat} {o : Nat} {w : PW} (h : ex_cls o = 11) : ex_cal (d + 1) 218 [.ref o] w = ex_ev d (ex_cal d) 218 (ex_blk 218 0, [.ref o, .null, .null, .null, .null], [], w) := by
  rw [ex_cal_s (by simp [ex_okR, ex_isv, ex_lay, h, show ex_C 218 = 11 from rfl, show ex_L 218 = 5 from rfl])]
  rfl
theorem kr_219 : ex_ret 219 = some .boolean := rfl
theorem ke_219 {d : Nat} {o : Nat} {w : PW} (h : ex_cls o = 11) : ex_cal (d + 1) 219 [.ref o] w = ex_ev d (ex_cal d) 219 (ex_blk 219 0, [.ref o], [], w) := by
  rw [ex_cal_s (by simp [ex_okR, ex_isv, ex_lay, h, show ex_C 219 = 11 from rfl, show ex_L 219 = 1 from rfl])]
  rfl
theorem kr_220 : ex_ret 220 = some .int := rfl
theorem ke_220 {d : Nat} {o : Nat} {a0 : Int32} {w : PW} (h : ex_cls o = 11) : ex_cal (d + 1) 220 [.ref o, .int a0] w = ex_ev d (ex_cal d) 220 (ex_blk 220 0, [.ref o, .int a0, .null], [], w) := by
  rw [ex_cal_s (by simp [ex_okR, ex_isv, ex_lay, h, show ex_C 220 = 11 from rfl, show ex_L 220 = 3 from rfl])]
  rfl
theorem kr_221 : ex_ret 221 = some .int := rfl
theorem ke_221 {d : Nat} {o : Nat} {a0 : Int32} {a1 : Int32} {w : PW} (h : ex_cls o = 11) : ex_cal (d + 1) 221 [.ref o, .int a0, .int a1] w = ex_ev d (ex_cal d) 221 (ex_blk 221 0, [.ref o, .int a0, .int a1], [], w) := by
  rw [ex_cal_s (by simp [ex_okR, ex_isv, ex_lay, h, show ex_C 221 = 11 from rfl, show ex_L 221 = 3 from rfl])]
  rfl
theorem kr_222 : ex_ret 222 = some .int := rfl
theorem ke_222 {d : Nat} {o : Nat} {a0 : Int32} {a1 : Int32} {a2 : Int32} {w : PW} (h : ex_cls o = 11) : ex_cal (d + 1) 222 [.ref o, .int a0, .int a1, .int a2] w = ex_ev d (ex_cal d) 222 (ex_blk 222 0, [.ref o, .int a0, .int a1, .int a2, .null, .null, .null, .null, .null, .null, .null], [], w) := by
  rw [ex_cal_s (by simp [ex_okR, ex_isv, ex_lay, h, show ex_C 222 = 11 from rfl, show ex_L 222 = 11 from rfl])]
  rfl
theorem kr_223 : ex_ret 223 = some .int := rfl
theorem ke_223 {d : Nat} {o : Nat} {a0 : Int32} {a1 : Int32} {w : PW} (h : ex_cls o = 11) : ex_cal (d + 1) 223 [.ref o, .int a0, .int a1] w = ex_ev d (ex_cal d) 223 (ex_blk 223 0, [.ref o, .int a0, .int a1, .null, .null, .null], [], w) := by
  rw [ex_cal_s (by simp [ex_okR, ex_isv, ex_lay, h, show ex_C 223 = 11 from rfl, show ex_L 223 = 6 from rfl])]
  rfl
theorem kr_224 : ex_ret 224 = some .int := rfl
theorem ke_224 {d : Nat} {o : Nat} {a0 : Int32} {a1 : Int32} {a2 : Int32} {a3 : Int32} {a4 : Int32} {w : PW} (h : ex_cls o = 11) : ex_cal (d + 1) 224 [.ref o, .int a0, .int a1, .int a2, .int a3, .int a4] w = ex_ev d (ex_cal d) 224 (ex_blk 224 0, [.ref o, .int a0, .int a1, .int a2, .int a3, .int a4, .null, .null, .null, .null, .null, .null], [], w) := by
  rw [ex_cal_s (by simp [ex_okR, ex_isv, ex_lay, h, show ex_C 224 = 11 from rfl, show ex_L 224 = 12 from rfl])]
  rfl
theorem kr_225 : ex_ret 225 = some .int := rfl
theorem ke_225 {d : Nat} {o : Nat} {a0 : Int32} {w : PW} (h : ex_cls o = 11) : ex_cal (d + 1) 225 [.ref o, .int a0] w = ex_ev d (ex_cal d) 225 (ex_blk 225 0, [.ref o, .int a0, .null, .null], [], w) := by
  rw [ex_cal_s (by simp [ex_okR, ex_isv, ex_lay, h, show ex_C 225 = 11 from rfl, show ex_L 225 = 4 from rfl])]
  rfl
theorem kr_226 : ex_ret 226 = some .int := rfl
theorem ke_226 {d : Nat} {o : Nat} {a0 : Int32} {a1 : Int32} {w : PW} (h : ex_cls o = 11) : ex_cal (d + 1) 226 [.ref o, .int a0, .int a1] w = ex_ev d (ex_cal d) 226 (ex_blk 226 0, [.ref o, .int a0, .int a1], [], w) := by
  rw [ex_cal_s (by simp [ex_okR, ex_isv, ex_lay, h, show ex_C 226 = 11 from rfl, show ex_L 226 = 3 from rfl])]
  rfl
theorem kr_227 : ex_ret 227 = some .int := rfl
theorem ke_227 {d : Nat} {o : Nat} {w : PW} (h : ex_cls o = 11) : ex_cal (d + 1) 227 [.ref o] w = ex_ev d (ex_cal d) 227 (ex_blk 227 0, [.ref o, .null, .null, .null, .null], [], w) := by
  rw [ex_cal_s (by simp [ex_okR, ex_isv, ex_lay, h, show ex_C 227 = 11 from rfl, show ex_L 227 = 5 from rfl])]
  rfl
theorem kr_228 : ex_ret 228 = some .int := rfl
theorem ke_228 {d : Nat} {o : Nat} {w : PW} (h : ex_cls o = 11) : ex_cal (d + 1) 228 [.ref o] w = ex_ev d (ex_cal d) 228 (ex_blk 228 0, [.ref o], [], w) := by
  rw [ex_cal_s (by simp [ex_okR, ex_isv, ex_lay, h, show ex_C 228 = 11 from rfl, show ex_L 228 = 1 from rfl])]
  rfl
theorem kr_229 : ex_ret 229 = some .int := rfl
theorem ke_229 {d : Nat} {o : Nat} {w : PW} (h : ex_cls o = 11) : ex_cal (d + 1) 229 [.ref o] w = ex_ev d (ex_cal d) 229 (ex_blk 229 0, [.ref o, .null], [], w) := by
  rw [ex_cal_s (by simp [ex_okR, ex_isv, ex_lay, h, show ex_C 229 = 11 from rfl, show ex_L 229 = 2 from rfl])]
  rfl
theorem kr_230 : ex_ret 230 = some .int := rfl
theorem ke_230 {d : Nat} {o : Nat} {w : PW} (h : ex_cls o = 11) : ex_cal (d + 1) 230 [.ref o] w = ex_ev d (ex_cal d) 230 (ex_blk 230 0, [.ref o, .null], [], w) := by
  rw [ex_cal_s (by simp [ex_okR, ex_isv, ex_lay, h, show ex_C 230 = 11 from rfl, show ex_L 230 = 2 from rfl])]
  rfl
theorem kr_231 : ex_ret 231 = some .int := rfl
theorem ke_231 {d : Nat} {o : Nat} {a0 : Int32} {w : PW} (h : ex_cls o = 11) : ex_cal (d + 1) 231 [.ref o, .int a0] w = ex_ev d (ex_cal d) 231 (ex_blk 231 0, [.ref o, .int a0], [], w) := by
  rw [ex_cal_s (by simp [ex_okR, ex_isv, ex_lay, h, show ex_C 231 = 11 from rfl, show ex_L 231 = 2 from rfl])]
  rfl
theorem kr_232 : ex_ret 232 = some .int := rfl
theorem ke_232 {d : Nat} {o : Nat} {a0 : Int32} {w : PW} (h : ex_cls o = 11) : ex_cal (d + 1) 232 [.ref o, .int a0] w = ex_ev d (ex_cal d) 232 (ex_blk 232 0, [.ref o, .int a0], [], w) := by
  rw [ex_cal_s (by simp [ex_okR, ex_isv, ex_lay, h, show ex_C 232 = 11 from rfl, show ex_L 232 = 2 from rfl])]
  rfl
theorem kr_233 : ex_ret 233 = none := rfl
theorem ke_233 {d : Nat} {o : Nat} {a0 : Int64} {w : PW} (h : ex_cls o = 11) : ex_cal (d + 1) 233 [.ref o, .long a0] w = ex_ev d (ex_cal d) 233 (ex_blk 233 0, [.ref o, .long a0, .retAddr 0], [], w) := by
  rw [ex_cal_s (by simp [ex_okR, ex_isv, ex_lay, h, show ex_C 233 = 11 from rfl, show ex_L 233 = 3 from rfl])]
  rfl
theorem kr_234 : ex_ret 234 = none := rfl
theorem ke_234 {d : Nat} {o : Nat} {w : PW} (h : ex_cls o = 11) : ex_cal (d + 1) 234 [.ref o] w = ex_ev d (ex_cal d) 234 (ex_blk 234 0, [.ref o, .null, .null], [], w) := by
  rw [ex_cal_s (by simp [ex_okR, ex_isv, ex_lay, h, show ex_C 234 = 11 from rfl, show ex_L 234 = 3 from rfl])]
  rfl
theorem kr_235 : ex_ret 235 = some .long := rfl
theorem ke_235 {d : Nat} {o : Nat} {w : PW} (h : ex_cls o = 11) : ex_cal (d + 1) 235 [.ref o] w = ex_ev d (ex_cal d) 235 (ex_blk 235 0, [.ref o, .null, .null], [], w) := by
  rw [ex_cal_s (by simp [ex_okR, ex_isv, ex_lay, h, show ex_C 235 = 11 from rfl, show ex_L 235 = 3 from rfl])]
  rfl
theorem kc_0 : ex_cls 0 = 10 := rfl
theorem kf_0_640 {w : PW} : ex_fv w 0 640 = some (.ref 1) := rfl
theorem kf_0_641 {w : PW} : ex_fv w 0 641 = some (.ref 3) := rfl
theorem kf_0_642 {w : PW} : ex_fv w 0 642 = some (.ref 4) := rfl
theorem kf_0_643 {w : PW} : ex_fv w 0 643 = some (.ref 5) := rfl
theorem kf_0_644 {w : PW} : ex_fv w 0 644 = some (.ref 17) := rfl
theorem kf_0_645 {w : PW} : ex_fv w 0 645 = some (.ref 20) := rfl
theorem kf_0_646 {w : PW} : ex_fv w 0 646 = some (.ref 29) := rfl
theorem kf_0_647 {w : PW} : ex_fv w 0 647 = some (.ref 38) := rfl
theorem kf_0_648 {w : PW} : ex_fv w 0 648 = some (.ref 41) := rfl
theorem kf_0_649 {w : PW} : ex_fv w 0 649 = some (.int (w.1 0 9)) := rfl
theorem kk_0_649 : ex_fk 0 649 = some 2 := rfl
theorem kf_0_650 {w : PW} : ex_fv w 0 650 = some (.int (w.1 0 10)) := rfl
theorem kk_0_650 : ex_fk 0 650 = some 0 := rfl
theorem kf_0_651 {w : PW} : ex_fv w 0 651 = some (.int (w.1 0 11)) := rfl
theorem kk_0_651 : ex_fk 0 651 = some 0 := rfl
theorem kc_1 : ex_cls 1 = 7 := rfl
theorem kf_1_448 {w : PW} : ex_fv w 1 448 = some (.ref 2) := rfl
theorem kf_1_449 {w : PW} : ex_fv w 1 449 = some (.int (w.1 1 1)) := rfl
theorem kk_1_449 : ex_fk 1 449 = some 0 := rfl
theorem kc_2 : ex_cls 2 = 12 := rfl
theorem kl_2 : ex_len 2 = 40 := rfl
theorem ka_2 {w : PW} {i : Int32} : ex_ald w 2 i = if i < 0 ∨ 40 ≤ i.toNatClampNeg then none else some (w.1 2 i.toNatClampNeg) := rfl
theorem kc_3 : ex_cls 3 = 2 := rfl
theorem kf_3_128 {w : PW} : ex_fv w 3 128 = some (.int (w.1 3 0)) := rfl
theorem kk_3_128 : ex_fk 3 128 = some 0 := rfl
theorem kf_3_129 {w : PW} : ex_fv w 3 129 = some (.int (w.1 3 1)) := rfl
theorem kk_3_129 : ex_fk 3 129 = some 0 := rfl
theorem kf_3_130 {w : PW} : ex_fv w 3 130 = some (.int (w.1 3 2)) := rfl
theorem kk_3_130 : ex_fk 3 130 = some 0 := rfl
theorem kf_3_131 {w : PW} : ex_fv w 3 131 = some (.int (w.1 3 3)) := rfl
theorem kk_3_131 : ex_fk 3 131 = some 2 := rfl
theorem kc_4 : ex_cls 4 = 4 := rfl
theorem kf_4_256 {w : PW} : ex_fv w 4 256 = some (.int (w.1 4 0)) := rfl
theorem kk_4_256 : ex_fk 4 256 = some 0 := rfl
theorem kf_4_257 {w : PW} : ex_fv w 4 257 = some (.int (w.1 4 1)) := rfl
theorem kk_4_257 : ex_fk 4 257 = some 0 := rfl
theorem kf_4_258 {w : PW} : ex_fv w 4 258 = some (.int (w.1 4 2)) := rfl
theorem kk_4_258 : ex_fk 4 258 = some 0 := rfl
theorem kf_4_259 {w : PW} : ex_fv w 4 259 = some (.int (w.1 4 3)) := rfl
theorem kk_4_259 : ex_fk 4 259 = some 0 := rfl
theorem kf_4_260 {w : PW} : ex_fv w 4 260 = some (.int (w.1 4 4)) := rfl
theorem kk_4_260 : ex_fk 4 260 = some 0 := rfl
theorem kf_4_261 {w : PW} : ex_fv w 4 261 = some (.int (w.1 4 5)) := rfl
theorem kk_4_261 : ex_fk 4 261 = some 0 := rfl
theorem kf_4_262 {w : PW} : ex_fv w 4 262 = some (.int (w.1 4 6)) := rfl
theorem kk_4_262 : ex_fk 4 262 = some 0 := rfl
theorem kc_5 : ex_cls 5 = 1 := rfl
theorem kf_5_64 {w : PW} : ex_fv w 5 64 = some (.ref 6) := rfl
theorem kf_5_65 {w : PW} : ex_fv w 5 65 = some (.ref 7) := rfl
theorem kf_5_66 {w : PW} : ex_fv w 5 66 = some (.ref 8) := rfl
theorem kf_5_67 {w : PW} : ex_fv w 5 67 = some (.ref 9) := rfl
theorem kf_5_68 {w : PW} : ex_fv w 5 68 = some (.ref 10) := rfl
theorem kf_5_69 {w : PW} : ex_fv w 5 69 = some (.ref 11) := rfl
theorem kf_5_70 {w : PW} : ex_fv w 5 70 = some (.ref 12) := rfl
theorem kf_5_71 {w : PW} : ex_fv w 5 71 = some (.ref 13) := rfl
theorem kf_5_72 {w : PW} : ex_fv w 5 72 = some (.ref 14) := rfl
theorem kf_5_73 {w : PW} : ex_fv w 5 73 = some (.ref 15) := rfl
theorem kf_5_74 {w : PW} : ex_fv w 5 74 = some (.ref 16) := rfl
theorem kf_5_75 {w : PW} : ex_fv w 5 75 = some (.int (w.1 5 11)) := rfl
theorem kk_5_75 : ex_fk 5 75 = some 0 := rfl
theorem kf_5_76 {w : PW} : ex_fv w 5 76 = some (.int (w.1 5 12)) := rfl
theorem kk_5_76 : ex_fk 5 76 = some 0 := rfl
theorem kf_5_77 {w : PW} : ex_fv w 5 77 = some (.int (w.1 5 13)) := rfl
theorem kk_5_77 : ex_fk 5 77 = some 0 := rfl
theorem kc_6 : ex_cls 6 = 12 := rfl
theorem kl_6 : ex_len 6 = 24 := rfl
theorem ka_6 {w : PW} {i : Int32} : ex_ald w 6 i = if i < 0 ∨ 24 ≤ i.toNatClampNeg then none else some (w.1 6 i.toNatClampNeg) := rfl
theorem kc_7 : ex_cls 7 = 12 := rfl
theorem kl_7 : ex_len 7 = 24 := rfl
theorem ka_7 {w : PW} {i : Int32} : ex_ald w 7 i = if i < 0 ∨ 24 ≤ i.toNatClampNeg then none else some (w.1 7 i.toNatClampNeg) := rfl
theorem kc_8 : ex_cls 8 = 12 := rfl
theorem kl_8 : ex_len 8 = 24 := rfl
theorem ka_8 {w : PW} {i : Int32} : ex_ald w 8 i = if i < 0 ∨ 24 ≤ i.toNatClampNeg then none else some (w.1 8 i.toNatClampNeg) := rfl
theorem kc_9 : ex_cls 9 = 12 := rfl
theorem kl_9 : ex_len 9 = 4 := rfl
theorem ka_9 {w : PW} {i : Int32} : ex_ald w 9 i = if i < 0 ∨ 4 ≤ i.toNatClampNeg then none else some (w.1 9 i.toNatClampNeg) := rfl
theorem kc_10 : ex_cls 10 = 12 := rfl
theorem kl_10 : ex_len 10 = 96 := rfl
theorem ka_10 {w : PW} {i : Int32} : ex_ald w 10 i = if i < 0 ∨ 96 ≤ i.toNatClampNeg then none else some (w.1 10 i.toNatClampNeg) := rfl
theorem kc_11 : ex_cls 11 = 12 := rfl
theorem kl_11 : ex_len 11 = 96 := rfl
theorem ka_11 {w : PW} {i : Int32} : ex_ald w 11 i = if i < 0 ∨ 96 ≤ i.toNatClampNeg then none else some (w.1 11 i.toNatClampNeg) := rfl
theorem kc_12 : ex_cls 12 = 12 := rfl
theorem kl_12 : ex_len 12 = 96 := rfl
theorem ka_12 {w : PW} {i : Int32} : ex_ald w 12 i = if i < 0 ∨ 96 ≤ i.toNatClampNeg then none else some (w.1 12 i.toNatClampNeg) := rfl
theorem kc_13 : ex_cls 13 = 12 := rfl
theorem kl_13 : ex_len 13 = 96 := rfl
theorem ka_13 {w : PW} {i : Int32} : ex_ald w 13 i = if i < 0 ∨ 96 ≤ i.toNatClampNeg then none else some (w.1 13 i.toNatClampNeg) := rfl
theorem kc_14 : ex_cls 14 = 12 := rfl
theorem kl_14 : ex_len 14 = 24 := rfl
theorem ka_14 {w : PW} {i : Int32} : ex_ald w 14 i = if i < 0 ∨ 24 ≤ i.toNatClampNeg then none else some (w.1 14 i.toNatClampNeg) := rfl
theorem kc_15 : ex_cls 15 = 12 := rfl
theorem kl_15 : ex_len 15 = 24 := rfl
theorem ka_15 {w : PW} {i : Int32} : ex_ald w 15 i = if i < 0 ∨ 24 ≤ i.toNatClampNeg then none else some (w.1 15 i.toNatClampNeg) := rfl
theorem kc_16 : ex_cls 16 = 12 := rfl
theorem kl_16 : ex_len 16 = 24 := rfl
theorem ka_16 {w : PW} {i : Int32} : ex_ald w 16 i = if i < 0 ∨ 24 ≤ i.toNatClampNeg then none else some (w.1 16 i.toNatClampNeg) := rfl
theorem kc_17 : ex_cls 17 = 5 := rfl
theorem kf_17_320 {w : PW} : ex_fv w 17 320 = some (.ref 18) := rfl
theorem kc_18 : ex_cls 18 = 8 := rfl
theorem kf_18_512 {w : PW} : ex_fv w 18 512 = some (.ref 19) := rfl
theorem kf_18_513 {w : PW} : ex_fv w 18 513 = some (.int (w.1 18 1)) := rfl
theorem kk_18_513 : ex_fk 18 513 = some 0 := rfl
theorem kf_18_514 {w : PW} : ex_fv w 18 514 = some (.int (w.1 18 2)) := rfl
theorem kk_18_514 : ex_fk 18 514 = some 0 := rfl
theorem kc_19 : ex_cls 19 = 12 := rfl
theorem kl_19 : ex_len 19 = 60 := rfl
theorem ka_19 {w : PW} {i : Int32} : ex_ald w 19 i = if i < 0 ∨ 60 ≤ i.toNatClampNeg then none else some (w.1 19 i.toNatClampNeg) := rfl
theorem kc_20 : ex_cls 20 = 0 := rfl
theorem kf_20_0 {w : PW} : ex_fv w 20 0 = some (.ref 21) := rfl
theorem kf_20_1 {w : PW} : ex_fv w 20 1 = some (.ref 23) := rfl
theorem kf_20_2 {w : PW} : ex_fv w 20 2 = some (.ref 25) := rfl
theorem kf_20_3 {w : PW} : ex_fv w 20 3 = some (.ref 27) := rfl
theorem kc_21 : ex_cls 21 = 8 := rfl
theorem kf_21_512 {w : PW} : ex_fv w 21 512 = some (.ref 22) := rfl
theorem kf_21_513 {w : PW} : ex_fv w 21 513 = some (.int (w.1 21 1)) := rfl
theorem kk_21_513 : ex_fk 21 513 = some 0 := rfl
theorem kf_21_514 {w : PW} : ex_fv w 21 514 = some (.int (w.1 21 2)) := rfl
theorem kk_21_514 : ex_fk 21 514 = some 0 := rfl
theorem kc_22 : ex_cls 22 = 12 := rfl
theorem kl_22 : ex_len 22 = 60 := rfl
theorem ka_22 {w : PW} {i : Int32} : ex_ald w 22 i = if i < 0 ∨ 60 ≤ i.toNatClampNeg then none else some (w.1 22 i.toNatClampNeg) := rfl
theorem kc_23 : ex_cls 23 = 8 := rfl
theorem kf_23_512 {w : PW} : ex_fv w 23 512 = some (.ref 24) := rfl
theorem kf_23_513 {w : PW} : ex_fv w 23 513 = some (.int (w.1 23 1)) := rfl
theorem kk_23_513 : ex_fk 23 513 = some 0 := rfl
theorem kf_23_514 {w : PW} : ex_fv w 23 514 = some (.int (w.1 23 2)) := rfl
theorem kk_23_514 : ex_fk 23 514 = some 0 := rfl
theorem kc_24 : ex_cls 24 = 12 := rfl
theorem kl_24 : ex_len 24 = 60 := rfl
theorem ka_24 {w : PW} {i : Int32} : ex_ald w 24 i = if i < 0 ∨ 60 ≤ i.toNatClampNeg then none else some (w.1 24 i.toNatClampNeg) := rfl
theorem kc_25 : ex_cls 25 = 8 := rfl
theorem kf_25_512 {w : PW} : ex_fv w 25 512 = some (.ref 26) := rfl
theorem kf_25_513 {w : PW} : ex_fv w 25 513 = some (.int (w.1 25 1)) := rfl
theorem kk_25_513 : ex_fk 25 513 = some 0 := rfl
theorem kf_25_514 {w : PW} : ex_fv w 25 514 = some (.int (w.1 25 2)) := rfl
theorem kk_25_514 : ex_fk 25 514 = some 0 := rfl
theorem kc_26 : ex_cls 26 = 12 := rfl
theorem kl_26 : ex_len 26 = 60 := rfl
theorem ka_26 {w : PW} {i : Int32} : ex_ald w 26 i = if i < 0 ∨ 60 ≤ i.toNatClampNeg then none else some (w.1 26 i.toNatClampNeg) := rfl
theorem kc_27 : ex_cls 27 = 8 := rfl
theorem kf_27_512 {w : PW} : ex_fv w 27 512 = some (.ref 28) := rfl
theorem kf_27_513 {w : PW} : ex_fv w 27 513 = some (.int (w.1 27 1)) := rfl
theorem kk_27_513 : ex_fk 27 513 = some 0 := rfl
theorem kf_27_514 {w : PW} : ex_fv w 27 514 = some (.int (w.1 27 2)) := rfl
theorem kk_27_514 : ex_fk 27 514 = some 0 := rfl
theorem kc_28 : ex_cls 28 = 12 := rfl
theorem kl_28 : ex_len 28 = 60 := rfl
theorem ka_28 {w : PW} {i : Int32} : ex_ald w 28 i = if i < 0 ∨ 60 ≤ i.toNatClampNeg then none else some (w.1 28 i.toNatClampNeg) := rfl
theorem kc_29 : ex_cls 29 = 0 := rfl
theorem kf_29_0 {w : PW} : ex_fv w 29 0 = some (.ref 30) := rfl
theorem kf_29_1 {w : PW} : ex_fv w 29 1 = some (.ref 32) := rfl
theorem kf_29_2 {w : PW} : ex_fv w 29 2 = some (.ref 34) := rfl
theorem kf_29_3 {w : PW} : ex_fv w 29 3 = some (.ref 36) := rfl
theorem kc_30 : ex_cls 30 = 8 := rfl
theorem kf_30_512 {w : PW} : ex_fv w 30 512 = some (.ref 31) := rfl
theorem kf_30_513 {w : PW} : ex_fv w 30 513 = some (.int (w.1 30 1)) := rfl
theorem kk_30_513 : ex_fk 30 513 = some 0 := rfl
theorem kf_30_514 {w : PW} : ex_fv w 30 514 = some (.int (w.1 30 2)) := rfl
theorem kk_30_514 : ex_fk 30 514 = some 0 := rfl
theorem kc_31 : ex_cls 31 = 12 := rfl
theorem kl_31 : ex_len 31 = 60 := rfl
theorem ka_31 {w : PW} {i : Int32} : ex_ald w 31 i = if i < 0 ∨ 60 ≤ i.toNatClampNeg then none else some (w.1 31 i.toNatClampNeg) := rfl
theorem kc_32 : ex_cls 32 = 8 := rfl
theorem kf_32_512 {w : PW} : ex_fv w 32 512 = some (.ref 33) := rfl
theorem kf_32_513 {w : PW} : ex_fv w 32 513 = some (.int (w.1 32 1)) := rfl
theorem kk_32_513 : ex_fk 32 513 = some 0 := rfl
theorem kf_32_514 {w : PW} : ex_fv w 32 514 = some (.int (w.1 32 2)) := rfl
theorem kk_32_514 : ex_fk 32 514 = some 0 := rfl
theorem kc_33 : ex_cls 33 = 12 := rfl
theorem kl_33 : ex_len 33 = 60 := rfl
theorem ka_33 {w : PW} {i : Int32} : ex_ald w 33 i = if i < 0 ∨ 60 ≤ i.toNatClampNeg then none else some (w.1 33 i.toNatClampNeg) := rfl
theorem kc_34 : ex_cls 34 = 8 := rfl
theorem kf_34_512 {w : PW} : ex_fv w 34 512 = some (.ref 35) := rfl
theorem kf_34_513 {w : PW} : ex_fv w 34 513 = some (.int (w.1 34 1)) := rfl
theorem kk_34_513 : ex_fk 34 513 = some 0 := rfl
theorem kf_34_514 {w : PW} : ex_fv w 34 514 = some (.int (w.1 34 2)) := rfl
theorem kk_34_514 : ex_fk 34 514 = some 0 := rfl
theorem kc_35 : ex_cls 35 = 12 := rfl
theorem kl_35 : ex_len 35 = 60 := rfl
theorem ka_35 {w : PW} {i : Int32} : ex_ald w 35 i = if i < 0 ∨ 60 ≤ i.toNatClampNeg then none else some (w.1 35 i.toNatClampNeg) := rfl
theorem kc_36 : ex_cls 36 = 8 := rfl
theorem kf_36_512 {w : PW} : ex_fv w 36 512 = some (.ref 37) := rfl
theorem kf_36_513 {w : PW} : ex_fv w 36 513 = some (.int (w.1 36 1)) := rfl
theorem kk_36_513 : ex_fk 36 513 = some 0 := rfl
theorem kf_36_514 {w : PW} : ex_fv w 36 514 = some (.int (w.1 36 2)) := rfl
theorem kk_36_514 : ex_fk 36 514 = some 0 := rfl
theorem kc_37 : ex_cls 37 = 12 := rfl
theorem kl_37 : ex_len 37 = 60 := rfl
theorem ka_37 {w : PW} {i : Int32} : ex_ald w 37 i = if i < 0 ∨ 60 ≤ i.toNatClampNeg then none else some (w.1 37 i.toNatClampNeg) := rfl
theorem kc_38 : ex_cls 38 = 3 := rfl
theorem kf_38_192 {w : PW} : ex_fv w 38 192 = some (.ref 39) := rfl
theorem kf_38_193 {w : PW} : ex_fv w 38 193 = some (.ref 40) := rfl
theorem kf_38_194 {w : PW} : ex_fv w 38 194 = some (.int (w.1 38 2)) := rfl
theorem kk_38_194 : ex_fk 38 194 = some 0 := rfl
theorem kc_39 : ex_cls 39 = 12 := rfl
theorem kl_39 : ex_len 39 = 6 := rfl
theorem ka_39 {w : PW} {i : Int32} : ex_ald w 39 i = if i < 0 ∨ 6 ≤ i.toNatClampNeg then none else some (w.1 39 i.toNatClampNeg) := rfl
theorem kc_40 : ex_cls 40 = 12 := rfl
theorem kl_40 : ex_len 40 = 144 := rfl
theorem ka_40 {w : PW} {i : Int32} : ex_ald w 40 i = if i < 0 ∨ 144 ≤ i.toNatClampNeg then none else some (w.1 40 i.toNatClampNeg) := rfl
theorem kc_41 : ex_cls 41 = 6 := rfl
theorem kf_41_384 {w : PW} : ex_fv w 41 384 = some (.ref 42) := rfl
theorem kf_41_385 {w : PW} : ex_fv w 41 385 = some (.ref 43) := rfl
theorem kf_41_386 {w : PW} : ex_fv w 41 386 = some (.ref 44) := rfl
theorem kf_41_387 {w : PW} : ex_fv w 41 387 = some (.ref 45) := rfl
theorem kf_41_388 {w : PW} : ex_fv w 41 388 = some (.int (w.1 41 4)) := rfl
theorem kk_41_388 : ex_fk 41 388 = some 0 := rfl
theorem kf_41_389 {w : PW} : ex_fv w 41 389 = some (.int (w.1 41 5)) := rfl
theorem kk_41_389 : ex_fk 41 389 = some 0 := rfl
theorem kc_42 : ex_cls 42 = 12 := rfl
theorem kl_42 : ex_len 42 = 3 := rfl
theorem ka_42 {w : PW} {i : Int32} : ex_ald w 42 i = if i < 0 ∨ 3 ≤ i.toNatClampNeg then none else some (w.1 42 i.toNatClampNeg) := rfl
theorem kc_43 : ex_cls 43 = 12 := rfl
theorem kl_43 : ex_len 43 = 3 := rfl
theorem ka_43 {w : PW} {i : Int32} : ex_ald w 43 i = if i < 0 ∨ 3 ≤ i.toNatClampNeg then none else some (w.1 43 i.toNatClampNeg) := rfl
theorem kc_44 : ex_cls 44 = 12 := rfl
theorem kl_44 : ex_len 44 = 3 := rfl
theorem ka_44 {w : PW} {i : Int32} : ex_ald w 44 i = if i < 0 ∨ 3 ≤ i.toNatClampNeg then none else some (w.1 44 i.toNatClampNeg) := rfl
theorem kc_45 : ex_cls 45 = 12 := rfl
theorem kl_45 : ex_len 45 = 5 := rfl
theorem ka_45 {w : PW} {i : Int32} : ex_ald w 45 i = if i < 0 ∨ 5 ≤ i.toNatClampNeg then none else some (w.1 45 i.toNatClampNeg) := rfl
theorem kc_46 : ex_cls 46 = 11 := rfl
theorem kf_46_704 {w : PW} : ex_fv w 46 704 = some (.int (w.1 46 0)) := rfl
theorem kk_46_704 : ex_fk 46 704 = some 0 := rfl
theorem kf_46_705 {w : PW} : ex_fv w 46 705 = some (.int (w.1 46 1)) := rfl
theorem kk_46_705 : ex_fk 46 705 = some 0 := rfl
theorem kf_46_706 {w : PW} : ex_fv w 46 706 = some (.int (w.1 46 2)) := rfl
theorem kk_46_706 : ex_fk 46 706 = some 0 := rfl
theorem kf_46_707 {w : PW} : ex_fv w 46 707 = some (.ref 47) := rfl
theorem kf_46_708 {w : PW} : ex_fv w 46 708 = some (.ref 48) := rfl
theorem kf_46_709 {w : PW} : ex_fv w 46 709 = some (.int (w.1 46 5)) := rfl
theorem kk_46_709 : ex_fk 46 709 = some 0 := rfl
theorem kf_46_710 {w : PW} : ex_fv w 46 710 = some (.ref 49) := rfl
theorem kf_46_711 {w : PW} : ex_fv w 46 711 = some (.ref 50) := rfl
theorem kf_46_712 {w : PW} : ex_fv w 46 712 = some (.ref 51) := rfl
theorem kf_46_713 {w : PW} : ex_fv w 46 713 = some (.ref 52) := rfl
theorem kf_46_714 {w : PW} : ex_fv w 46 714 = some (.ref 53) := rfl
theorem kf_46_715 {w : PW} : ex_fv w 46 715 = some (.int (w.1 46 11)) := rfl
theorem kk_46_715 : ex_fk 46 715 = some 0 := rfl
theorem kf_46_716 {w : PW} : ex_fv w 46 716 = some (.ref 54) := rfl
theorem kf_46_717 {w : PW} : ex_fv w 46 717 = some (.int (w.1 46 13)) := rfl
theorem kk_46_717 : ex_fk 46 717 = some 0 := rfl
theorem kf_46_718 {w : PW} : ex_fv w 46 718 = some (.ref 55) := rfl
theorem kf_46_719 {w : PW} : ex_fv w 46 719 = some (.ref 56) := rfl
theorem kf_46_720 {w : PW} : ex_fv w 46 720 = some (.ref 57) := rfl
theorem kf_46_721 {w : PW} : ex_fv w 46 721 = some (.int (w.1 46 17)) := rfl
theorem kk_46_721 : ex_fk 46 721 = some 0 := rfl
theorem kf_46_722 {w : PW} : ex_fv w 46 722 = some (.ref 58) := rfl
theorem kf_46_723 {w : PW} : ex_fv w 46 723 = some (.ref 59) := rfl
theorem kf_46_724 {w : PW} : ex_fv w 46 724 = some (.int (w.1 46 20)) := rfl
theorem kk_46_724 : ex_fk 46 724 = some 0 := rfl
theorem kf_46_725 {w : PW} : ex_fv w 46 725 = some (.ref 60) := rfl
theorem kf_46_726 {w : PW} : ex_fv w 46 726 = some (.ref 61) := rfl
theorem kf_46_727 {w : PW} : ex_fv w 46 727 = some (.int (w.1 46 23)) := rfl
theorem kk_46_727 : ex_fk 46 727 = some 0 := rfl
theorem kf_46_728 {w : PW} : ex_fv w 46 728 = some (.int (w.1 46 24)) := rfl
theorem kk_46_728 : ex_fk 46 728 = some 0 := rfl
theorem kf_46_729 {w : PW} : ex_fv w 46 729 = some (.ref 62) := rfl
theorem kf_46_730 {w : PW} : ex_fv w 46 730 = some (.int (w.1 46 26)) := rfl
theorem kk_46_730 : ex_fk 46 730 = some 2 := rfl
theorem kf_46_731 {w : PW} : ex_fv w 46 731 = some (.int (w.1 46 27)) := rfl
theorem kk_46_731 : ex_fk 46 731 = some 0 := rfl
theorem kf_46_732 {w : PW} : ex_fv w 46 732 = some (.int (w.1 46 28)) := rfl
theorem kk_46_732 : ex_fk 46 732 = some 0 := rfl
theorem kf_46_733 {w : PW} : ex_fv w 46 733 = some (.int (w.1 46 29)) := rfl
theorem kk_46_733 : ex_fk 46 733 = some 0 := rfl
theorem kf_46_734 {w : PW} : ex_fv w 46 734 = some (.int (w.1 46 30)) := rfl
theorem kk_46_734 : ex_fk 46 734 = some 0 := rfl
theorem kf_46_735 {w : PW} : ex_fv w 46 735 = some (.int (w.1 46 31)) := rfl
theorem kk_46_735 : ex_fk 46 735 = some 0 := rfl
theorem kf_46_736 {w : PW} : ex_fv w 46 736 = some (.ref 63) := rfl
theorem kf_46_737 {w : PW} : ex_fv w 46 737 = some (.ref 64) := rfl
theorem kf_46_738 {w : PW} : ex_fv w 46 738 = some (.ref 65) := rfl
theorem kf_46_739 {w : PW} : ex_fv w 46 739 = some (.ref 66) := rfl
theorem kf_46_740 {w : PW} : ex_fv w 46 740 = some (.int (w.1 46 36)) := rfl
theorem kk_46_740 : ex_fk 46 740 = some 0 := rfl
theorem kf_46_741 {w : PW} : ex_fv w 46 741 = some (.int (w.1 46 37)) := rfl
theorem kk_46_741 : ex_fk 46 741 = some 2 := rfl
theorem kf_46_742 {w : PW} : ex_fv w 46 742 = some (.int (w.1 46 38)) := rfl
theorem kk_46_742 : ex_fk 46 742 = some 0 := rfl
theorem kf_46_743 {w : PW} : ex_fv w 46 743 = some (.int (w.1 46 39)) := rfl
theorem kk_46_743 : ex_fk 46 743 = some 0 := rfl
theorem kf_46_744 {w : PW} : ex_fv w 46 744 = some (.int (w.1 46 40)) := rfl
theorem kk_46_744 : ex_fk 46 744 = some 0 := rfl
theorem kf_46_745 {w : PW} : ex_fv w 46 745 = some (.int (w.1 46 41)) := rfl
theorem kk_46_745 : ex_fk 46 745 = some 2 := rfl
theorem kf_46_746 {w : PW} : ex_fv w 46 746 = some (.ref 67) := rfl
theorem kf_46_747 {w : PW} : ex_fv w 46 747 = some (.ref 68) := rfl
theorem kf_46_748 {w : PW} : ex_fv w 46 748 = some (.int (w.1 46 44)) := rfl
theorem kk_46_748 : ex_fk 46 748 = some 0 := rfl
theorem kf_46_749 {w : PW} : ex_fv w 46 749 = some (.int (w.1 46 45)) := rfl
theorem kk_46_749 : ex_fk 46 749 = some 0 := rfl
theorem kf_46_750 {w : PW} : ex_fv w 46 750 = some (.int (w.1 46 46)) := rfl
theorem kk_46_750 : ex_fk 46 750 = some 0 := rfl
theorem kf_46_751 {w : PW} : ex_fv w 46 751 = some (.int (w.1 46 47)) := rfl
theorem kk_46_751 : ex_fk 46 751 = some 0 := rfl
theorem kf_46_752 {w : PW} : ex_fv w 46 752 = some (.int (w.1 46 48)) := rfl
theorem kk_46_752 : ex_fk 46 752 = some 0 := rfl
theorem kf_46_753 {w : PW} : ex_fv w 46 753 = some (.int (w.1 46 49)) := rfl
theorem kk_46_753 : ex_fk 46 753 = some 0 := rfl
theorem kf_46_754 {w : PW} : ex_fv w 46 754 = some (.ref 69) := rfl
theorem kf_46_755 {w : PW} : ex_fv w 46 755 = some (.ref 70) := rfl
theorem kf_46_756 {w : PW} : ex_fv w 46 756 = some (.int (w.1 46 52)) := rfl
theorem kk_46_756 : ex_fk 46 756 = some 0 := rfl
theorem kf_46_757 {w : PW} : ex_fv w 46 757 = some (.int (w.1 46 53)) := rfl
theorem kk_46_757 : ex_fk 46 757 = some 0 := rfl
theorem kf_46_758 {w : PW} : ex_fv w 46 758 = some (.int (w.1 46 54)) := rfl
theorem kk_46_758 : ex_fk 46 758 = some 0 := rfl
theorem kf_46_759 {w : PW} : ex_fv w 46 759 = some (.int (w.1 46 55)) := rfl
theorem kk_46_759 : ex_fk 46 759 = some 0 := rfl
theorem kf_46_760 {w : PW} : ex_fv w 46 760 = some (.int (w.1 46 56)) := rfl
theorem kk_46_760 : ex_fk 46 760 = some 0 := rfl
theorem kf_46_761 {w : PW} : ex_fv w 46 761 = some (.long w.2) := rfl
theorem kk_46_761 : ex_fk 46 761 = some 1 := rfl
theorem kc_47 : ex_cls 47 = 12 := rfl
theorem kl_47 : ex_len 47 = 24 := rfl
theorem ka_47 {w : PW} {i : Int32} : ex_ald w 47 i = if i < 0 ∨ 24 ≤ i.toNatClampNeg then none else some (w.1 47 i.toNatClampNeg) := rfl
theorem kc_48 : ex_cls 48 = 12 := rfl
theorem kl_48 : ex_len 48 = 4 := rfl
theorem ka_48 {w : PW} {i : Int32} : ex_ald w 48 i = if i < 0 ∨ 4 ≤ i.toNatClampNeg then none else some (w.1 48 i.toNatClampNeg) := rfl
theorem kc_49 : ex_cls 49 = 12 := rfl
theorem kl_49 : ex_len 49 = 8 := rfl
theorem ka_49 {w : PW} {i : Int32} : ex_ald w 49 i = if i < 0 ∨ 8 ≤ i.toNatClampNeg then none else some (w.1 49 i.toNatClampNeg) := rfl
theorem kc_50 : ex_cls 50 = 12 := rfl
theorem kl_50 : ex_len 50 = 8 := rfl
theorem ka_50 {w : PW} {i : Int32} : ex_ald w 50 i = if i < 0 ∨ 8 ≤ i.toNatClampNeg then none else some (w.1 50 i.toNatClampNeg) := rfl
theorem kc_51 : ex_cls 51 = 12 := rfl
theorem kl_51 : ex_len 51 = 8 := rfl
theorem ka_51 {w : PW} {i : Int32} : ex_ald w 51 i = if i < 0 ∨ 8 ≤ i.toNatClampNeg then none else some (w.1 51 i.toNatClampNeg) := rfl
theorem kc_52 : ex_cls 52 = 12 := rfl
theorem kl_52 : ex_len 52 = 8 := rfl
theorem ka_52 {w : PW} {i : Int32} : ex_ald w 52 i = if i < 0 ∨ 8 ≤ i.toNatClampNeg then none else some (w.1 52 i.toNatClampNeg) := rfl
theorem kc_53 : ex_cls 53 = 12 := rfl
theorem kl_53 : ex_len 53 = 8 := rfl
theorem ka_53 {w : PW} {i : Int32} : ex_ald w 53 i = if i < 0 ∨ 8 ≤ i.toNatClampNeg then none else some (w.1 53 i.toNatClampNeg) := rfl
theorem kc_54 : ex_cls 54 = 12 := rfl
theorem kl_54 : ex_len 54 = 60 := rfl
theorem ka_54 {w : PW} {i : Int32} : ex_ald w 54 i = if i < 0 ∨ 60 ≤ i.toNatClampNeg then none else some (w.1 54 i.toNatClampNeg) := rfl
theorem kc_55 : ex_cls 55 = 12 := rfl
theorem kl_55 : ex_len 55 = 3 := rfl
theorem ka_55 {w : PW} {i : Int32} : ex_ald w 55 i = if i < 0 ∨ 3 ≤ i.toNatClampNeg then none else some (w.1 55 i.toNatClampNeg) := rfl
theorem kc_56 : ex_cls 56 = 12 := rfl
theorem kl_56 : ex_len 56 = 3 := rfl
theorem ka_56 {w : PW} {i : Int32} : ex_ald w 56 i = if i < 0 ∨ 3 ≤ i.toNatClampNeg then none else some (w.1 56 i.toNatClampNeg) := rfl
theorem kc_57 : ex_cls 57 = 12 := rfl
theorem kl_57 : ex_len 57 = 3 := rfl
theorem ka_57 {w : PW} {i : Int32} : ex_ald w 57 i = if i < 0 ∨ 3 ≤ i.toNatClampNeg then none else some (w.1 57 i.toNatClampNeg) := rfl
theorem kc_58 : ex_cls 58 = 12 := rfl
theorem kl_58 : ex_len 58 = 6 := rfl
theorem ka_58 {w : PW} {i : Int32} : ex_ald w 58 i = if i < 0 ∨ 6 ≤ i.toNatClampNeg then none else some (w.1 58 i.toNatClampNeg) := rfl
theorem kc_59 : ex_cls 59 = 12 := rfl
theorem kl_59 : ex_len 59 = 6 := rfl
theorem ka_59 {w : PW} {i : Int32} : ex_ald w 59 i = if i < 0 ∨ 6 ≤ i.toNatClampNeg then none else some (w.1 59 i.toNatClampNeg) := rfl
theorem kc_60 : ex_cls 60 = 12 := rfl
theorem kl_60 : ex_len 60 = 10 := rfl
theorem ka_60 {w : PW} {i : Int32} : ex_ald w 60 i = if i < 0 ∨ 10 ≤ i.toNatClampNeg then none else some (w.1 60 i.toNatClampNeg) := rfl
theorem kc_61 : ex_cls 61 = 12 := rfl
theorem kl_61 : ex_len 61 = 10 := rfl
theorem ka_61 {w : PW} {i : Int32} : ex_ald w 61 i = if i < 0 ∨ 10 ≤ i.toNatClampNeg then none else some (w.1 61 i.toNatClampNeg) := rfl
theorem kc_62 : ex_cls 62 = 13 := rfl
theorem kl_62 : ex_len 62 = 40 := rfl
theorem kc_63 : ex_cls 63 = 12 := rfl
theorem kl_63 : ex_len 63 = 9 := rfl
theorem ka_63 {w : PW} {i : Int32} : ex_ald w 63 i = if i < 0 ∨ 9 ≤ i.toNatClampNeg then none else some (w.1 63 i.toNatClampNeg) := rfl
theorem kc_64 : ex_cls 64 = 12 := rfl
theorem kl_64 : ex_len 64 = 60 := rfl
theorem ka_64 {w : PW} {i : Int32} : ex_ald w 64 i = if i < 0 ∨ 60 ≤ i.toNatClampNeg then none else some (w.1 64 i.toNatClampNeg) := rfl
theorem kc_65 : ex_cls 65 = 12 := rfl
theorem kl_65 : ex_len 65 = 12 := rfl
theorem ka_65 {w : PW} {i : Int32} : ex_ald w 65 i = if i < 0 ∨ 12 ≤ i.toNatClampNeg then none else some (w.1 65 i.toNatClampNeg) := rfl
theorem kc_66 : ex_cls 66 = 12 := rfl
theorem kl_66 : ex_len 66 = 20 := rfl
theorem ka_66 {w : PW} {i : Int32} : ex_ald w 66 i = if i < 0 ∨ 20 ≤ i.toNatClampNeg then none else some (w.1 66 i.toNatClampNeg) := rfl
theorem kc_67 : ex_cls 67 = 12 := rfl
theorem kl_67 : ex_len 67 = 24 := rfl
theorem ka_67 {w : PW} {i : Int32} : ex_ald w 67 i = if i < 0 ∨ 24 ≤ i.toNatClampNeg then none else some (w.1 67 i.toNatClampNeg) := rfl
theorem kc_68 : ex_cls 68 = 12 := rfl
theorem kl_68 : ex_len 68 = 4 := rfl
theorem ka_68 {w : PW} {i : Int32} : ex_ald w 68 i = if i < 0 ∨ 4 ≤ i.toNatClampNeg then none else some (w.1 68 i.toNatClampNeg) := rfl
theorem kc_69 : ex_cls 69 = 12 := rfl
theorem kl_69 : ex_len 69 = 24 := rfl
theorem ka_69 {w : PW} {i : Int32} : ex_ald w 69 i = if i < 0 ∨ 24 ≤ i.toNatClampNeg then none else some (w.1 69 i.toNatClampNeg) := rfl
theorem kc_70 : ex_cls 70 = 12 := rfl
theorem kl_70 : ex_len 70 = 24 := rfl
theorem ka_70 {w : PW} {i : Int32} : ex_ald w 70 i = if i < 0 ∨ 24 ≤ i.toNatClampNeg then none else some (w.1 70 i.toNatClampNeg) := rfl
theorem ka_1000 {w : PW} {i : Int32} : ex_ald w 1000 i = if i < 0 ∨ 4 ≤ i.toNatClampNeg then none else some (ex_down i.toNatClampNeg) := rfl
theorem ka_1001 {w : PW} {i : Int32} : ex_ald w 1001 i = if i < 0 ∨ 4 ≤ i.toNatClampNeg then none else some (ex_right i.toNatClampNeg) := rfl
theorem kd_0_2 : ex_dsp 0 2 = some 97 := rfl
theorem kd_1_2 : ex_dsp 1 2 = some 34 := rfl
theorem kd_1_4 : ex_dsp 1 4 = some 53 := rfl
theorem kd_2_2 : ex_dsp 2 2 = some 35 := rfl
theorem kd_2_4 : ex_dsp 2 4 = some 54 := rfl
theorem kd_3_4 : ex_dsp 3 4 = some 97 := rfl
theorem kd_4_2 : ex_dsp 4 2 = some 98 := rfl
theorem kd_5_2 : ex_dsp 5 2 = some 97 := rfl
theorem kd_5_4 : ex_dsp 5 4 = some 97 := rfl
theorem kd_6_2 : ex_dsp 6 2 = some 40 := rfl
theorem kd_6_4 : ex_dsp 6 4 = some 61 := rfl
theorem kd_7_4 : ex_dsp 7 4 = some 98 := rfl
end
section
/-! the blocks are the bytecode: one check, by the kernel, a method -/
def ex_lkp (t : List (List (Nat × Nat))) (c i : Nat) : Option Nat := (t.getD c []).lookup i
def ex_lkz (t : List (List (Nat × Int))) (c i : Nat) : Option Int := (t.getD c []).lookup i
def ex_okJ (pc : Nat) (L off : Int) (len n : Nat) : Bool := decide (L = (pc : Int) + off) && decide (0 ≤ L) && len == n
def ex_okZ (ps qs : List (Int × Int)) (pc : Nat) : Bool := decide (ps = qs.map fun q => (q.1, (pc : Int) + q.2)) && (ps.all fun q => decide (0 ≤ q.2)) && (qs.zip (qs.drop 1)).all (fun (a, next) => a.1 < next.1)
def ex_okI (y pc : Nat) (i j : Instr) (len : Nat) : Bool := match i with
  | .iload k => (decide (j = .iload k) && len == 2) || (if h : k < 4 then decide (j = .iload_n ⟨k, h⟩) && len == 1 else false)
  | .aload k => (decide (j = .aload k) && len == 2) || (if h : k < 4 then decide (j = .aload_n ⟨k, h⟩) && len == 1 else false)
  | .lload k => (decide (j = .lload k) && len == 2) || (if h : k < 4 then decide (j = .lload_n ⟨k, h⟩) && len == 1 else false)
  | .istore k => (decide (j = .istore k) && len == 2) || (if h : k < 4 then decide (j = .istore_n ⟨k, h⟩) && len == 1 else false)
  | .astore k => (decide (j = .astore k) && len == 2) || (if h : k < 4 then decide (j = .astore_n ⟨k, h⟩) && len == 1 else false)
  | .lstore k => (decide (j = .lstore k) && len == 2) || (if h : k < 4 then decide (j = .lstore_n ⟨k, h⟩) && len == 1 else false)
  | .iinc k n => decide (j = .iinc k n) && len == 3
  | .sipush n => (match j with
    | .iconst a => a == n && len == 1
    | .bipush a => a == n && len == 2 && (Int8.ofInt a).toInt32 == Int32.ofInt n
    | .sipush a => a == n && len == 3 && (Int16.ofInt a).toInt32 == Int32.ofInt n
    | .ldc a => ex_lkz ex_cK (ex_C y) a == some n && len == 2
    | _ => false)
  | .goto_w n => (match j with
    | .ldc2_w a => ex_lkz ex_cL (ex_C y) a == some n && len == 3
    | _ => false)
  | .goto L => (match j with
    | .goto off => ex_okJ pc L off len 3
    | _ => false)
  | .if_icmp cd L => (match j with
    | .if_icmp ce off => decide (cd = ce) && ex_okJ pc L off len 3
    | _ => false)
  | .ifCond cd L => (match j with
    | .ifCond ce off => decide (cd = ce) && ex_okJ pc L off len 3
    | _ => false)
  | .tableswitch df lo hi offs => (match j with
    | .tableswitch d2 l2 h2 o2 => decide (df = (pc : Int) + d2) && decide (0 ≤ df) && lo == l2 && hi == h2 && decide (offs.toList = o2.toList.map fun q => (pc : Int) + q) && (offs.toList.all fun q => decide (0 ≤ q)) && decide ((o2.size : Int) = h2 - l2 + 1)
    | _ => false)
  | .lookupswitch df ps => (match j with
    | .lookupswitch d2 p2 => decide (df = (pc : Int) + d2) && decide (0 ≤ df) && ex_okZ ps.toList p2.toList pc
    | _ => false)
  | .getfield e => (match j with
    | .getfield a => ex_lkp ex_cF (ex_C y) a == some e && len == 3
    | _ => false)
  | .putfield e => (match j with
    | .putfield a => ex_lkp ex_cF (ex_C y) a == some e && len == 3 && !(ex_T (e / 64) (e % 64)).2.2.2
    | _ => false)
  | .getstatic o => (match j with
    | .getstatic a => ex_lkp ex_cS (ex_C y) a == some o && len == 3
    | _ => false)
  | .invokestatic e => (match j with
    | .invokestatic a => ex_lkp ex_cT (ex_C y) a == some e && len == 3
    | _ => false)
  | .invokedynamic k => (match j with
    | .invokestatic a => ex_lkp ex_cJ (ex_C y) a == some k && len == 3
    | _ => false)
  | .invokevirtual e => (match j with
    | .invokevirtual a => ex_lkp ex_cV (ex_C y) a == some e && len == 3
    | _ => false)
  | .invokeinterface x n => (match j with
    | .invokevirtual a => (ex_cW.getD (ex_C y) []).lookup a == some (x, n) && len == 3
    | _ => false)
  | .areturn => decide (j = .ireturn) && len == 1
  | .iadd => decide (j = .iadd) && len == 1
  | .isub => decide (j = .isub) && len == 1
  | .imul => decide (j = .imul) && len == 1
  | .iand => decide (j = .iand) && len == 1
  | .ior => decide (j = .ior) && len == 1
  | .ixor => decide (j = .ixor) && len == 1
  | .ishl => decide (j = .ishl) && len == 1
  | .ishr => decide (j = .ishr) && len == 1
  | .idiv => decide (j = .idiv) && len == 1
  | .irem => decide (j = .irem) && len == 1
  | .ladd => decide (j = .ladd) && len == 1
  | .lmul => decide (j = .lmul) && len == 1
  | .land => decide (j = .land) && len == 1
  | .lshr => decide (j = .lshr) && len == 1
  | .lushr => decide (j = .lushr) && len == 1
  | .i2l => decide (j = .i2l) && len == 1
  | .l2i => decide (j = .l2i) && len == 1
  | .i2b => decide (j = .i2b) && len == 1
  | .dup => decide (j = .dup) && len == 1
  | .dup2 => decide (j = .dup2) && len == 1
  | .pop => decide (j = .pop) && len == 1
  | .iaload => decide (j = .iaload) && len == 1
  | .iastore => decide (j = .iastore) && len == 1
  | .baload => decide (j = .baload) && len == 1
  | .bastore => decide (j = .bastore) && len == 1
  | .arraylength => decide (j = .arraylength) && len == 1
  | .ireturn => decide (j = .ireturn) && len == 1
  | .lreturn => decide (j = .lreturn) && len == 1
  | .return_ => decide (j = .return_) && len == 1
  | _ => false
def ex_jsr (i : Instr) : Option Int := match i with
  | .jsr L => some L
  | _ => none
def ex_ok (y : Nat) : Nat → List Instr → Bool
  | _, [] => true
  | pc, i :: c => match ex_jsr i with
    | some L => decide (L = (pc : Int))
    | none => match decode (ex_B y) pc with
      | .ok (j, len) => ex_okI y pc i j len && ex_ok y (pc + len) c
      | .error _ => false
def ex_okM (y : Nat) : Bool := (ex_bs.getD y []).all fun q => ex_ok y q.1 q.2
-- checks
theorem km_0 : ex_okM 0 = true := by decide +kernel
theorem km_1 : ex_okM 1 = true := by decide +kernel
theorem km_2 : ex_okM 2 = true := by decide +kernel
theorem km_3 : ex_okM 3 = true := by decide +kernel
theorem km_4 : ex_okM 4 = true := by decide +kernel
theorem km_5 : ex_okM 5 = true := by decide +kernel
theorem km_6 : ex_okM 6 = true := by decide +kernel
theorem km_7 : ex_okM 7 = true := by decide +kernel
theorem km_8 : ex_okM 8 = true := by decide +kernel
theorem km_9 : ex_okM 9 = true := by decide +kernel
theorem km_10 : ex_okM 10 = true := by decide +kernel
theorem km_11 : ex_okM 11 = true := by decide +kernel
theorem km_12 : ex_okM 12 = true := by decide +kernel
theorem km_13 : ex_okM 13 = true := by decide +kernel
theorem km_14 : ex_okM 14 = true := by decide +kernel
theorem km_15 : ex_okM 15 = true := by decide +kernel
theorem km_16 : ex_okM 16 = true := by decide +kernel
theorem km_17 : ex_okM 17 = true := by decide +kernel
theorem km_18 : ex_okM 18 = true := by decide +kernel
theorem km_19 : ex_okM 19 = true := by decide +kernel
theorem km_20 : ex_okM 20 = true := by decide +kernel
theorem km_21 : ex_okM 21 = true := by decide +kernel
theorem km_22 : ex_okM 22 = true := by decide +kernel
theorem km_23 : ex_okM 23 = true := by decide +kernel
theorem km_24 : ex_okM 24 = true := by decide +kernel
theorem km_25 : ex_okM 25 = true := by decide +kernel
theorem km_26 : ex_okM 26 = true := by decide +kernel
theorem km_27 : ex_okM 27 = true := by decide +kernel
theorem km_28 : ex_okM 28 = true := by decide +kernel
theorem km_29 : ex_okM 29 = true := by decide +kernel
theorem km_30 : ex_okM 30 = true := by decide +kernel
theorem km_31 : ex_okM 31 = true := by decide +kernel
theorem km_32 : ex_okM 32 = true := by decide +kernel
theorem km_33 : ex_okM 33 = true := by decide +kernel
theorem km_34 : ex_okM 34 = true := by decide +kernel
theorem km_35 : ex_okM 35 = true := by decide +kernel
theorem km_36 : ex_okM 36 = true := by decide +kernel
theorem km_37 : ex_okM 37 = true := by decide +kernel
theorem km_38 : ex_okM 38 = true := by decide +kernel
theorem km_39 : ex_okM 39 = true := by decide +kernel
theorem km_40 : ex_okM 40 = true := by decide +kernel
theorem km_41 : ex_okM 41 = true := by decide +kernel
theorem km_42 : ex_okM 42 = true := by decide +kernel
theorem km_43 : ex_okM 43 = true := by decide +kernel
theorem km_44 : ex_okM 44 = true := by decide +kernel
theorem km_45 : ex_okM 45 = true := by decide +kernel
theorem km_46 : ex_okM 46 = true := by decide +kernel
theorem km_47 : ex_okM 47 = true := by decide +kernel
theorem km_48 : ex_okM 48 = true := by decide +kernel
theorem km_49 : ex_okM 49 = true := by decide +kernel
theorem km_50 : ex_okM 50 = true := by decide +kernel
theorem km_51 : ex_okM 51 = true := by decide +kernel
theorem km_52 : ex_okM 52 = true := by decide +kernel
theorem km_53 : ex_okM 53 = true := by decide +kernel
theorem km_54 : ex_okM 54 = true := by decide +kernel
theorem km_55 : ex_okM 55 = true := by decide +kernel
theorem km_56 : ex_okM 56 = true := by decide +kernel
theorem km_57 : ex_okM 57 = true := by decide +kernel
theorem km_58 : ex_okM 58 = true := by decide +kernel
theorem km_59 : ex_okM 59 = true := by decide +kernel
theorem km_60 : ex_okM 60 = true := by decide +kernel
theorem km_61 : ex_okM 61 = true := by decide +kernel
theorem km_62 : ex_okM 62 = true := by decide +kernel
theorem km_63 : ex_okM 63 = true := by decide +kernel
theorem km_64 : ex_okM 64 = true := by decide +kernel
theorem km_65 : ex_okM 65 = true := by decide +kernel
theorem km_66 : ex_okM 66 = true := by decide +kernel
theorem km_67 : ex_okM 67 = true := by decide +kernel
theorem km_68 : ex_okM 68 = true := by decide +kernel
theorem km_69 : ex_okM 69 = true := by decide +kernel
theorem km_70 : ex_okM 70 = true := by decide +kernel
theorem km_71 : ex_okM 71 = true := by decide +kernel
theorem km_72 : ex_okM 72 = true := by decide +kernel
theorem km_73 : ex_okM 73 = true := by decide +kernel
theorem km_74 : ex_okM 74 = true := by decide +kernel
theorem km_75 : ex_okM 75 = true := by decide +kernel
theorem km_76 : ex_okM 76 = true := by decide +kernel
theorem km_77 : ex_okM 77 = true := by decide +kernel
theorem km_78 : ex_okM 78 = true := by decide +kernel
theorem km_79 : ex_okM 79 = true := by decide +kernel
theorem km_80 : ex_okM 80 = true := by decide +kernel
theorem km_81 : ex_okM 81 = true := by decide +kernel
theorem km_82 : ex_okM 82 = true := by decide +kernel
theorem km_83 : ex_okM 83 = true := by decide +kernel
theorem km_84 : ex_okM 84 = true := by decide +kernel
theorem km_85 : ex_okM 85 = true := by decide +kernel
theorem km_86 : ex_okM 86 = true := by decide +kernel
theorem km_87 : ex_okM 87 = true := by decide +kernel
theorem km_88 : ex_okM 88 = true := by decide +kernel
theorem km_89 : ex_okM 89 = true := by decide +kernel
theorem km_90 : ex_okM 90 = true := by decide +kernel
theorem km_91 : ex_okM 91 = true := by decide +kernel
theorem km_92 : ex_okM 92 = true := by decide +kernel
theorem km_93 : ex_okM 93 = true := by decide +kernel
theorem km_94 : ex_okM 94 = true := by decide +kernel
theorem km_95 : ex_okM 95 = true := by decide +kernel
theorem km_96 : ex_okM 96 = true := by decide +kernel
theorem km_97 : ex_okM 97 = true := by decide +kernel
theorem km_98 : ex_okM 98 = true := by decide +kernel
theorem km_99 : ex_okM 99 = true := by decide +kernel
theorem km_100 : ex_okM 100 = true := by decide +kernel
theorem km_101 : ex_okM 101 = true := by decide +kernel
theorem km_102 : ex_okM 102 = true := by decide +kernel
theorem km_103 : ex_okM 103 = true := by decide +kernel
theorem km_104 : ex_okM 104 = true := by decide +kernel
theorem km_105 : ex_okM 105 = true := by decide +kernel
theorem km_106 : ex_okM 106 = true := by decide +kernel
theorem km_107 : ex_okM 107 = true := by decide +kernel
theorem km_108 : ex_okM 108 = true := by decide +kernel
theorem km_109 : ex_okM 109 = true := by decide +kernel
theorem km_110 : ex_okM 110 = true := by decide +kernel
theorem km_111 : ex_okM 111 = true := by decide +kernel
theorem km_112 : ex_okM 112 = true := by decide +kernel
theorem km_113 : ex_okM 113 = true := by decide +kernel
theorem km_114 : ex_okM 114 = true := by decide +kernel
theorem km_115 : ex_okM 115 = true := by decide +kernel
theorem km_116 : ex_okM 116 = true := by decide +kernel
theorem km_117 : ex_okM 117 = true := by decide +kernel
theorem km_118 : ex_okM 118 = true := by decide +kernel
theorem km_119 : ex_okM 119 = true := by decide +kernel
theorem km_120 : ex_okM 120 = true := by decide +kernel
theorem km_121 : ex_okM 121 = true := by decide +kernel
theorem km_122 : ex_okM 122 = true := by decide +kernel
theorem km_123 : ex_okM 123 = true := by decide +kernel
theorem km_124 : ex_okM 124 = true := by decide +kernel
theorem km_125 : ex_okM 125 = true := by decide +kernel
theorem km_126 : ex_okM 126 = true := by decide +kernel
theorem km_127 : ex_okM 127 = true := by decide +kernel
theorem km_128 : ex_okM 128 = true := by decide +kernel
theorem km_129 : ex_okM 129 = true := by decide +kernel
theorem km_130 : ex_okM 130 = true := by decide +kernel
theorem km_131 : ex_okM 131 = true := by decide +kernel
theorem km_132 : ex_okM 132 = true := by decide +kernel
theorem km_133 : ex_okM 133 = true := by decide +kernel
theorem km_134 : ex_okM 134 = true := by decide +kernel
theorem km_135 : ex_okM 135 = true := by decide +kernel
theorem km_136 : ex_okM 136 = true := by decide +kernel
theorem km_137 : ex_okM 137 = true := by decide +kernel
theorem km_138 : ex_okM 138 = true := by decide +kernel
theorem km_139 : ex_okM 139 = true := by decide +kernel
theorem km_140 : ex_okM 140 = true := by decide +kernel
theorem km_141 : ex_okM 141 = true := by decide +kernel
theorem km_142 : ex_okM 142 = true := by decide +kernel
theorem km_143 : ex_okM 143 = true := by decide +kernel
theorem km_144 : ex_okM 144 = true := by decide +kernel
theorem km_145 : ex_okM 145 = true := by decide +kernel
theorem km_146 : ex_okM 146 = true := by decide +kernel
theorem km_147 : ex_okM 147 = true := by decide +kernel
theorem km_148 : ex_okM 148 = true := by decide +kernel
theorem km_149 : ex_okM 149 = true := by decide +kernel
theorem km_150 : ex_okM 150 = true := by decide +kernel
theorem km_151 : ex_okM 151 = true := by decide +kernel
theorem km_152 : ex_okM 152 = true := by decide +kernel
theorem km_153 : ex_okM 153 = true := by decide +kernel
theorem km_154 : ex_okM 154 = true := by decide +kernel
theorem km_155 : ex_okM 155 = true := by decide +kernel
theorem km_156 : ex_okM 156 = true := by decide +kernel
theorem km_157 : ex_okM 157 = true := by decide +kernel
theorem km_158 : ex_okM 158 = true := by decide +kernel
theorem km_159 : ex_okM 159 = true := by decide +kernel
theorem km_160 : ex_okM 160 = true := by decide +kernel
theorem km_161 : ex_okM 161 = true := by decide +kernel
theorem km_162 : ex_okM 162 = true := by decide +kernel
theorem km_163 : ex_okM 163 = true := by decide +kernel
theorem km_164 : ex_okM 164 = true := by decide +kernel
theorem km_165 : ex_okM 165 = true := by decide +kernel
theorem km_166 : ex_okM 166 = true := by decide +kernel
theorem km_167 : ex_okM 167 = true := by decide +kernel
theorem km_168 : ex_okM 168 = true := by decide +kernel
theorem km_169 : ex_okM 169 = true := by decide +kernel
theorem km_170 : ex_okM 170 = true := by decide +kernel
theorem km_171 : ex_okM 171 = true := by decide +kernel
theorem km_172 : ex_okM 172 = true := by decide +kernel
theorem km_173 : ex_okM 173 = true := by decide +kernel
theorem km_174 : ex_okM 174 = true := by decide +kernel
theorem km_175 : ex_okM 175 = true := by decide +kernel
theorem km_176 : ex_okM 176 = true := by decide +kernel
theorem km_177 : ex_okM 177 = true := by decide +kernel
theorem km_178 : ex_okM 178 = true := by decide +kernel
theorem km_179 : ex_okM 179 = true := by decide +kernel
theorem km_180 : ex_okM 180 = true := by decide +kernel
theorem km_181 : ex_okM 181 = true := by decide +kernel
theorem km_182 : ex_okM 182 = true := by decide +kernel
theorem km_183 : ex_okM 183 = true := by decide +kernel
theorem km_184 : ex_okM 184 = true := by decide +kernel
theorem km_185 : ex_okM 185 = true := by decide +kernel
theorem km_186 : ex_okM 186 = true := by decide +kernel
theorem km_187 : ex_okM 187 = true := by decide +kernel
theorem km_188 : ex_okM 188 = true := by decide +kernel
theorem km_189 : ex_okM 189 = true := by decide +kernel
theorem km_190 : ex_okM 190 = true := by decide +kernel
theorem km_191 : ex_okM 191 = true := by decide +kernel
theorem km_192 : ex_okM 192 = true := by decide +kernel
theorem km_193 : ex_okM 193 = true := by decide +kernel
theorem km_194 : ex_okM 194 = true := by decide +kernel
theorem km_195 : ex_okM 195 = true := by decide +kernel
theorem km_196 : ex_okM 196 = true := by decide +kernel
theorem km_197 : ex_okM 197 = true := by decide +kernel
theorem km_198 : ex_okM 198 = true := by decide +kernel
theorem km_199 : ex_okM 199 = true := by decide +kernel
theorem km_200 : ex_okM 200 = true := by decide +kernel
theorem km_201 : ex_okM 201 = true := by decide +kernel
theorem km_202 : ex_okM 202 = true := by decide +kernel
theorem km_203 : ex_okM 203 = true := by decide +kernel
theorem km_204 : ex_okM 204 = true := by decide +kernel
theorem km_205 : ex_okM 205 = true := by decide +kernel
theorem km_206 : ex_okM 206 = true := by decide +kernel
theorem km_207 : ex_okM 207 = true := by decide +kernel
theorem km_208 : ex_okM 208 = true := by decide +kernel
theorem km_209 : ex_okM 209 = true := by decide +kernel
theorem km_210 : ex_okM 210 = true := by decide +kernel
theorem km_211 : ex_okM 211 = true := by decide +kernel
theorem km_212 : ex_okM 212 = true := by decide +kernel
theorem km_213 : ex_okM 213 = true := by decide +kernel
theorem km_214 : ex_okM 214 = true := by decide +kernel
theorem km_215 : ex_okM 215 = true := by decide +kernel
theorem km_216 : ex_okM 216 = true := by decide +kernel
theorem km_217 : ex_okM 217 = true := by decide +kernel
theorem km_218 : ex_okM 218 = true := by decide +kernel
theorem km_219 : ex_okM 219 = true := by decide +kernel
theorem km_220 : ex_okM 220 = true := by decide +kernel
theorem km_221 : ex_okM 221 = true := by decide +kernel
theorem km_222 : ex_okM 222 = true := by decide +kernel
theorem km_223 : ex_okM 223 = true := by decide +kernel
theorem km_224 : ex_okM 224 = true := by decide +kernel
theorem km_225 : ex_okM 225 = true := by decide +kernel
theorem km_226 : ex_okM 226 = true := by decide +kernel
theorem km_227 : ex_okM 227 = true := by decide +kernel
theorem km_228 : ex_okM 228 = true := by decide +kernel
theorem km_229 : ex_okM 229 = true := by decide +kernel
theorem km_230 : ex_okM 230 = true := by decide +kernel
theorem km_231 : ex_okM 231 = true := by decide +kernel
theorem km_232 : ex_okM 232 = true := by decide +kernel
theorem km_233 : ex_okM 233 = true := by decide +kernel
theorem km_234 : ex_okM 234 = true := by decide +kernel
theorem km_235 : ex_okM 235 = true := by decide +kernel
theorem ex_okM_all : ∀ y, ex_okM y = true := by
  intro y
  rcases Nat.eq_or_lt_of_le (show 0 ≤ y from Nat.zero_le y) with h | h0
  · subst h; exact km_0
  rcases Nat.eq_or_lt_of_le (show 1 ≤ y from h0) with h | h1
  · subst h; exact km_1
  rcases Nat.eq_or_lt_of_le (show 2 ≤ y from h1) with h | h2
  · subst h; exact km_2
  rcases Nat.eq_or_lt_of_le (show 3 ≤ y from h2) with h | h3
  · subst h; exact km_3
  rcases Nat.eq_or_lt_of_le (show 4 ≤ y from h3) with h | h4
  · subst h; exact km_4
  rcases Nat.eq_or_lt_of_le (show 5 ≤ y from h4) with h | h5
  · subst h; exact km_5
  rcases Nat.eq_or_lt_of_le (show 6 ≤ y from h5) with h | h6
  · subst h; exact km_6
  rcases Nat.eq_or_lt_of_le (show 7 ≤ y from h6) with h | h7
  · subst h; exact km_7
  rcases Nat.eq_or_lt_of_le (show 8 ≤ y from h7) with h | h8
  · subst h; exact km_8
  rcases Nat.eq_or_lt_of_le (show 9 ≤ y from h8) with h | h9
  · subst h; exact km_9
  rcases Nat.eq_or_lt_of_le (show 10 ≤ y from h9) with h | h10
  · subst h; exact km_10
  rcases Nat.eq_or_lt_of_le (show 11 ≤ y from h10) with h | h11
  · subst h; exact km_11
  rcases Nat.eq_or_lt_of_le (show 12 ≤ y from h11) with h | h12
  · subst h; exact km_12
  rcases Nat.eq_or_lt_of_le (show 13 ≤ y from h12) with h | h13
  · subst h; exact km_13
  rcases Nat.eq_or_lt_of_le (show 14 ≤ y from h13) with h | h14
  · subst h; exact km_14
  rcases Nat.eq_or_lt_of_le (show 15 ≤ y from h14) with h | h15
  · subst h; exact km_15
  rcases Nat.eq_or_lt_of_le (show 16 ≤ y from h15) with h | h16
  · subst h; exact km_16
  rcases Nat.eq_or_lt_of_le (show 17 ≤ y from h16) with h | h17
  · subst h; exact km_17
  rcases Nat.eq_or_lt_of_le (show 18 ≤ y from h17) with h | h18
  · subst h; exact km_18
  rcases Nat.eq_or_lt_of_le (show 19 ≤ y from h18) with h | h19
  · subst h; exact km_19
  rcases Nat.eq_or_lt_of_le (show 20 ≤ y from h19) with h | h20
  · subst h; exact km_20
  rcases Nat.eq_or_lt_of_le (show 21 ≤ y from h20) with h | h21
  · subst h; exact km_21
  rcases Nat.eq_or_lt_of_le (show 22 ≤ y from h21) with h | h22
  · subst h; exact km_22
  rcases Nat.eq_or_lt_of_le (show 23 ≤ y from h22) with h | h23
  · subst h; exact km_23
  rcases Nat.eq_or_lt_of_le (show 24 ≤ y from h23) with h | h24
  · subst h; exact km_24
  rcases Nat.eq_or_lt_of_le (show 25 ≤ y from h24) with h | h25
  · subst h; exact km_25
  rcases Nat.eq_or_lt_of_le (show 26 ≤ y from h25) with h | h26
  · subst h; exact km_26
  rcases Nat.eq_or_lt_of_le (show 27 ≤ y from h26) with h | h27
  · subst h; exact km_27
  rcases Nat.eq_or_lt_of_le (show 28 ≤ y from h27) with h | h28
  · subst h; exact km_28
  rcases Nat.eq_or_lt_of_le (show 29 ≤ y from h28) with h | h29
  · subst h; exact km_29
  rcases Nat.eq_or_lt_of_le (show 30 ≤ y from h29) with h | h30
  · subst h; exact km_30
  rcases Nat.eq_or_lt_of_le (show 31 ≤ y from h30) with h | h31
  · subst h; exact km_31
  rcases Nat.eq_or_lt_of_le (show 32 ≤ y from h31) with h | h32
  · subst h; exact km_32
  rcases Nat.eq_or_lt_of_le (show 33 ≤ y from h32) with h | h33
  · subst h; exact km_33
  rcases Nat.eq_or_lt_of_le (show 34 ≤ y from h33) with h | h34
  · subst h; exact km_34
  rcases Nat.eq_or_lt_of_le (show 35 ≤ y from h34) with h | h35
  · subst h; exact km_35
  rcases Nat.eq_or_lt_of_le (show 36 ≤ y from h35) with h | h36
  · subst h; exact km_36
  rcases Nat.eq_or_lt_of_le (show 37 ≤ y from h36) with h | h37
  · subst h; exact km_37
  rcases Nat.eq_or_lt_of_le (show 38 ≤ y from h37) with h | h38
  · subst h; exact km_38
  rcases Nat.eq_or_lt_of_le (show 39 ≤ y from h38) with h | h39
  · subst h; exact km_39
  rcases Nat.eq_or_lt_of_le (show 40 ≤ y from h39) with h | h40
  · subst h; exact km_40
  rcases Nat.eq_or_lt_of_le (show 41 ≤ y from h40) with h | h41
  · subst h; exact km_41
  rcases Nat.eq_or_lt_of_le (show 42 ≤ y from h41) with h | h42
  · subst h; exact km_42
  rcases Nat.eq_or_lt_of_le (show 43 ≤ y from h42) with h | h43
  · subst h; exact km_43
  rcases Nat.eq_or_lt_of_le (show 44 ≤ y from h43) with h | h44
  · subst h; exact km_44
  rcases Nat.eq_or_lt_of_le (show 45 ≤ y from h44) with h | h45
  · subst h; exact km_45
  rcases Nat.eq_or_lt_of_le (show 46 ≤ y from h45) with h | h46
  · subst h; exact km_46
  rcases Nat.eq_or_lt_of_le (show 47 ≤ y from h46) with h | h47
  · subst h; exact km_47
  rcases Nat.eq_or_lt_of_le (show 48 ≤ y from h47) with h | h48
  · subst h; exact km_48
  rcases Nat.eq_or_lt_of_le (show 49 ≤ y from h48) with h | h49
  · subst h; exact km_49
  rcases Nat.eq_or_lt_of_le (show 50 ≤ y from h49) with h | h50
  · subst h; exact km_50
  rcases Nat.eq_or_lt_of_le (show 51 ≤ y from h50) with h | h51
  · subst h; exact km_51
  rcases Nat.eq_or_lt_of_le (show 52 ≤ y from h51) with h | h52
  · subst h; exact km_52
  rcases Nat.eq_or_lt_of_le (show 53 ≤ y from h52) with h | h53
  · subst h; exact km_53
  rcases Nat.eq_or_lt_of_le (show 54 ≤ y from h53) with h | h54
  · subst h; exact km_54
  rcases Nat.eq_or_lt_of_le (show 55 ≤ y from h54) with h | h55
  · subst h; exact km_55
  rcases Nat.eq_or_lt_of_le (show 56 ≤ y from h55) with h | h56
  · subst h; exact km_56
  rcases Nat.eq_or_lt_of_le (show 57 ≤ y from h56) with h | h57
  · subst h; exact km_57
  rcases Nat.eq_or_lt_of_le (show 58 ≤ y from h57) with h | h58
  · subst h; exact km_58
  rcases Nat.eq_or_lt_of_le (show 59 ≤ y from h58) with h | h59
  · subst h; exact km_59
  rcases Nat.eq_or_lt_of_le (show 60 ≤ y from h59) with h | h60
  · subst h; exact km_60
  rcases Nat.eq_or_lt_of_le (show 61 ≤ y from h60) with h | h61
  · subst h; exact km_61
  rcases Nat.eq_or_lt_of_le (show 62 ≤ y from h61) with h | h62
  · subst h; exact km_62
  rcases Nat.eq_or_lt_of_le (show 63 ≤ y from h62) with h | h63
  · subst h; exact km_63
  rcases Nat.eq_or_lt_of_le (show 64 ≤ y from h63) with h | h64
  · subst h; exact km_64
  rcases Nat.eq_or_lt_of_le (show 65 ≤ y from h64) with h | h65
  · subst h; exact km_65
  rcases Nat.eq_or_lt_of_le (show 66 ≤ y from h65) with h | h66
  · subst h; exact km_66
  rcases Nat.eq_or_lt_of_le (show 67 ≤ y from h66) with h | h67
  · subst h; exact km_67
  rcases Nat.eq_or_lt_of_le (show 68 ≤ y from h67) with h | h68
  · subst h; exact km_68
  rcases Nat.eq_or_lt_of_le (show 69 ≤ y from h68) with h | h69
  · subst h; exact km_69
  rcases Nat.eq_or_lt_of_le (show 70 ≤ y from h69) with h | h70
  · subst h; exact km_70
  rcases Nat.eq_or_lt_of_le (show 71 ≤ y from h70) with h | h71
  · subst h; exact km_71
  rcases Nat.eq_or_lt_of_le (show 72 ≤ y from h71) with h | h72
  · subst h; exact km_72
  rcases Nat.eq_or_lt_of_le (show 73 ≤ y from h72) with h | h73
  · subst h; exact km_73
  rcases Nat.eq_or_lt_of_le (show 74 ≤ y from h73) with h | h74
  · subst h; exact km_74
  rcases Nat.eq_or_lt_of_le (show 75 ≤ y from h74) with h | h75
  · subst h; exact km_75
  rcases Nat.eq_or_lt_of_le (show 76 ≤ y from h75) with h | h76
  · subst h; exact km_76
  rcases Nat.eq_or_lt_of_le (show 77 ≤ y from h76) with h | h77
  · subst h; exact km_77
  rcases Nat.eq_or_lt_of_le (show 78 ≤ y from h77) with h | h78
  · subst h; exact km_78
  rcases Nat.eq_or_lt_of_le (show 79 ≤ y from h78) with h | h79
  · subst h; exact km_79
  rcases Nat.eq_or_lt_of_le (show 80 ≤ y from h79) with h | h80
  · subst h; exact km_80
  rcases Nat.eq_or_lt_of_le (show 81 ≤ y from h80) with h | h81
  · subst h; exact km_81
  rcases Nat.eq_or_lt_of_le (show 82 ≤ y from h81) with h | h82
  · subst h; exact km_82
  rcases Nat.eq_or_lt_of_le (show 83 ≤ y from h82) with h | h83
  · subst h; exact km_83
  rcases Nat.eq_or_lt_of_le (show 84 ≤ y from h83) with h | h84
  · subst h; exact km_84
  rcases Nat.eq_or_lt_of_le (show 85 ≤ y from h84) with h | h85
  · subst h; exact km_85
  rcases Nat.eq_or_lt_of_le (show 86 ≤ y from h85) with h | h86
  · subst h; exact km_86
  rcases Nat.eq_or_lt_of_le (show 87 ≤ y from h86) with h | h87
  · subst h; exact km_87
  rcases Nat.eq_or_lt_of_le (show 88 ≤ y from h87) with h | h88
  · subst h; exact km_88
  rcases Nat.eq_or_lt_of_le (show 89 ≤ y from h88) with h | h89
  · subst h; exact km_89
  rcases Nat.eq_or_lt_of_le (show 90 ≤ y from h89) with h | h90
  · subst h; exact km_90
  rcases Nat.eq_or_lt_of_le (show 91 ≤ y from h90) with h | h91
  · subst h; exact km_91
  rcases Nat.eq_or_lt_of_le (show 92 ≤ y from h91) with h | h92
  · subst h; exact km_92
  rcases Nat.eq_or_lt_of_le (show 93 ≤ y from h92) with h | h93
  · subst h; exact km_93
  rcases Nat.eq_or_lt_of_le (show 94 ≤ y from h93) with h | h94
  · subst h; exact km_94
  rcases Nat.eq_or_lt_of_le (show 95 ≤ y from h94) with h | h95
  · subst h; exact km_95
  rcases Nat.eq_or_lt_of_le (show 96 ≤ y from h95) with h | h96
  · subst h; exact km_96
  rcases Nat.eq_or_lt_of_le (show 97 ≤ y from h96) with h | h97
  · subst h; exact km_97
  rcases Nat.eq_or_lt_of_le (show 98 ≤ y from h97) with h | h98
  · subst h; exact km_98
  rcases Nat.eq_or_lt_of_le (show 99 ≤ y from h98) with h | h99
  · subst h; exact km_99
  rcases Nat.eq_or_lt_of_le (show 100 ≤ y from h99) with h | h100
  · subst h; exact km_100
  rcases Nat.eq_or_lt_of_le (show 101 ≤ y from h100) with h | h101
  · subst h; exact km_101
  rcases Nat.eq_or_lt_of_le (show 102 ≤ y from h101) with h | h102
  · subst h; exact km_102
  rcases Nat.eq_or_lt_of_le (show 103 ≤ y from h102) with h | h103
  · subst h; exact km_103
  rcases Nat.eq_or_lt_of_le (show 104 ≤ y from h103) with h | h104
  · subst h; exact km_104
  rcases Nat.eq_or_lt_of_le (show 105 ≤ y from h104) with h | h105
  · subst h; exact km_105
  rcases Nat.eq_or_lt_of_le (show 106 ≤ y from h105) with h | h106
  · subst h; exact km_106
  rcases Nat.eq_or_lt_of_le (show 107 ≤ y from h106) with h | h107
  · subst h; exact km_107
  rcases Nat.eq_or_lt_of_le (show 108 ≤ y from h107) with h | h108
  · subst h; exact km_108
  rcases Nat.eq_or_lt_of_le (show 109 ≤ y from h108) with h | h109
  · subst h; exact km_109
  rcases Nat.eq_or_lt_of_le (show 110 ≤ y from h109) with h | h110
  · subst h; exact km_110
  rcases Nat.eq_or_lt_of_le (show 111 ≤ y from h110) with h | h111
  · subst h; exact km_111
  rcases Nat.eq_or_lt_of_le (show 112 ≤ y from h111) with h | h112
  · subst h; exact km_112
  rcases Nat.eq_or_lt_of_le (show 113 ≤ y from h112) with h | h113
  · subst h; exact km_113
  rcases Nat.eq_or_lt_of_le (show 114 ≤ y from h113) with h | h114
  · subst h; exact km_114
  rcases Nat.eq_or_lt_of_le (show 115 ≤ y from h114) with h | h115
  · subst h; exact km_115
  rcases Nat.eq_or_lt_of_le (show 116 ≤ y from h115) with h | h116
  · subst h; exact km_116
  rcases Nat.eq_or_lt_of_le (show 117 ≤ y from h116) with h | h117
  · subst h; exact km_117
  rcases Nat.eq_or_lt_of_le (show 118 ≤ y from h117) with h | h118
  · subst h; exact km_118
  rcases Nat.eq_or_lt_of_le (show 119 ≤ y from h118) with h | h119
  · subst h; exact km_119
  rcases Nat.eq_or_lt_of_le (show 120 ≤ y from h119) with h | h120
  · subst h; exact km_120
  rcases Nat.eq_or_lt_of_le (show 121 ≤ y from h120) with h | h121
  · subst h; exact km_121
  rcases Nat.eq_or_lt_of_le (show 122 ≤ y from h121) with h | h122
  · subst h; exact km_122
  rcases Nat.eq_or_lt_of_le (show 123 ≤ y from h122) with h | h123
  · subst h; exact km_123
  rcases Nat.eq_or_lt_of_le (show 124 ≤ y from h123) with h | h124
  · subst h; exact km_124
  rcases Nat.eq_or_lt_of_le (show 125 ≤ y from h124) with h | h125
  · subst h; exact km_125
  rcases Nat.eq_or_lt_of_le (show 126 ≤ y from h125) with h | h126
  · subst h; exact km_126
  rcases Nat.eq_or_lt_of_le (show 127 ≤ y from h126) with h | h127
  · subst h; exact km_127
  rcases Nat.eq_or_lt_of_le (show 128 ≤ y from h127) with h | h128
  · subst h; exact km_128
  rcases Nat.eq_or_lt_of_le (show 129 ≤ y from h128) with h | h129
  · subst h; exact km_129
  rcases Nat.eq_or_lt_of_le (show 130 ≤ y from h129) with h | h130
  · subst h; exact km_130
  rcases Nat.eq_or_lt_of_le (show 131 ≤ y from h130) with h | h131
  · subst h; exact km_131
  rcases Nat.eq_or_lt_of_le (show 132 ≤ y from h131) with h | h132
  · subst h; exact km_132
  rcases Nat.eq_or_lt_of_le (show 133 ≤ y from h132) with h | h133
  · subst h; exact km_133
  rcases Nat.eq_or_lt_of_le (show 134 ≤ y from h133) with h | h134
  · subst h; exact km_134
  rcases Nat.eq_or_lt_of_le (show 135 ≤ y from h134) with h | h135
  · subst h; exact km_135
  rcases Nat.eq_or_lt_of_le (show 136 ≤ y from h135) with h | h136
  · subst h; exact km_136
  rcases Nat.eq_or_lt_of_le (show 137 ≤ y from h136) with h | h137
  · subst h; exact km_137
  rcases Nat.eq_or_lt_of_le (show 138 ≤ y from h137) with h | h138
  · subst h; exact km_138
  rcases Nat.eq_or_lt_of_le (show 139 ≤ y from h138) with h | h139
  · subst h; exact km_139
  rcases Nat.eq_or_lt_of_le (show 140 ≤ y from h139) with h | h140
  · subst h; exact km_140
  rcases Nat.eq_or_lt_of_le (show 141 ≤ y from h140) with h | h141
  · subst h; exact km_141
  rcases Nat.eq_or_lt_of_le (show 142 ≤ y from h141) with h | h142
  · subst h; exact km_142
  rcases Nat.eq_or_lt_of_le (show 143 ≤ y from h142) with h | h143
  · subst h; exact km_143
  rcases Nat.eq_or_lt_of_le (show 144 ≤ y from h143) with h | h144
  · subst h; exact km_144
  rcases Nat.eq_or_lt_of_le (show 145 ≤ y from h144) with h | h145
  · subst h; exact km_145
  rcases Nat.eq_or_lt_of_le (show 146 ≤ y from h145) with h | h146
  · subst h; exact km_146
  rcases Nat.eq_or_lt_of_le (show 147 ≤ y from h146) with h | h147
  · subst h; exact km_147
  rcases Nat.eq_or_lt_of_le (show 148 ≤ y from h147) with h | h148
  · subst h; exact km_148
  rcases Nat.eq_or_lt_of_le (show 149 ≤ y from h148) with h | h149
  · subst h; exact km_149
  rcases Nat.eq_or_lt_of_le (show 150 ≤ y from h149) with h | h150
  · subst h; exact km_150
  rcases Nat.eq_or_lt_of_le (show 151 ≤ y from h150) with h | h151
  · subst h; exact km_151
  rcases Nat.eq_or_lt_of_le (show 152 ≤ y from h151) with h | h152
  · subst h; exact km_152
  rcases Nat.eq_or_lt_of_le (show 153 ≤ y from h152) with h | h153
  · subst h; exact km_153
  rcases Nat.eq_or_lt_of_le (show 154 ≤ y from h153) with h | h154
  · subst h; exact km_154
  rcases Nat.eq_or_lt_of_le (show 155 ≤ y from h154) with h | h155
  · subst h; exact km_155
  rcases Nat.eq_or_lt_of_le (show 156 ≤ y from h155) with h | h156
  · subst h; exact km_156
  rcases Nat.eq_or_lt_of_le (show 157 ≤ y from h156) with h | h157
  · subst h; exact km_157
  rcases Nat.eq_or_lt_of_le (show 158 ≤ y from h157) with h | h158
  · subst h; exact km_158
  rcases Nat.eq_or_lt_of_le (show 159 ≤ y from h158) with h | h159
  · subst h; exact km_159
  rcases Nat.eq_or_lt_of_le (show 160 ≤ y from h159) with h | h160
  · subst h; exact km_160
  rcases Nat.eq_or_lt_of_le (show 161 ≤ y from h160) with h | h161
  · subst h; exact km_161
  rcases Nat.eq_or_lt_of_le (show 162 ≤ y from h161) with h | h162
  · subst h; exact km_162
  rcases Nat.eq_or_lt_of_le (show 163 ≤ y from h162) with h | h163
  · subst h; exact km_163
  rcases Nat.eq_or_lt_of_le (show 164 ≤ y from h163) with h | h164
  · subst h; exact km_164
  rcases Nat.eq_or_lt_of_le (show 165 ≤ y from h164) with h | h165
  · subst h; exact km_165
  rcases Nat.eq_or_lt_of_le (show 166 ≤ y from h165) with h | h166
  · subst h; exact km_166
  rcases Nat.eq_or_lt_of_le (show 167 ≤ y from h166) with h | h167
  · subst h; exact km_167
  rcases Nat.eq_or_lt_of_le (show 168 ≤ y from h167) with h | h168
  · subst h; exact km_168
  rcases Nat.eq_or_lt_of_le (show 169 ≤ y from h168) with h | h169
  · subst h; exact km_169
  rcases Nat.eq_or_lt_of_le (show 170 ≤ y from h169) with h | h170
  · subst h; exact km_170
  rcases Nat.eq_or_lt_of_le (show 171 ≤ y from h170) with h | h171
  · subst h; exact km_171
  rcases Nat.eq_or_lt_of_le (show 172 ≤ y from h171) with h | h172
  · subst h; exact km_172
  rcases Nat.eq_or_lt_of_le (show 173 ≤ y from h172) with h | h173
  · subst h; exact km_173
  rcases Nat.eq_or_lt_of_le (show 174 ≤ y from h173) with h | h174
  · subst h; exact km_174
  rcases Nat.eq_or_lt_of_le (show 175 ≤ y from h174) with h | h175
  · subst h; exact km_175
  rcases Nat.eq_or_lt_of_le (show 176 ≤ y from h175) with h | h176
  · subst h; exact km_176
  rcases Nat.eq_or_lt_of_le (show 177 ≤ y from h176) with h | h177
  · subst h; exact km_177
  rcases Nat.eq_or_lt_of_le (show 178 ≤ y from h177) with h | h178
  · subst h; exact km_178
  rcases Nat.eq_or_lt_of_le (show 179 ≤ y from h178) with h | h179
  · subst h; exact km_179
  rcases Nat.eq_or_lt_of_le (show 180 ≤ y from h179) with h | h180
  · subst h; exact km_180
  rcases Nat.eq_or_lt_of_le (show 181 ≤ y from h180) with h | h181
  · subst h; exact km_181
  rcases Nat.eq_or_lt_of_le (show 182 ≤ y from h181) with h | h182
  · subst h; exact km_182
  rcases Nat.eq_or_lt_of_le (show 183 ≤ y from h182) with h | h183
  · subst h; exact km_183
  rcases Nat.eq_or_lt_of_le (show 184 ≤ y from h183) with h | h184
  · subst h; exact km_184
  rcases Nat.eq_or_lt_of_le (show 185 ≤ y from h184) with h | h185
  · subst h; exact km_185
  rcases Nat.eq_or_lt_of_le (show 186 ≤ y from h185) with h | h186
  · subst h; exact km_186
  rcases Nat.eq_or_lt_of_le (show 187 ≤ y from h186) with h | h187
  · subst h; exact km_187
  rcases Nat.eq_or_lt_of_le (show 188 ≤ y from h187) with h | h188
  · subst h; exact km_188
  rcases Nat.eq_or_lt_of_le (show 189 ≤ y from h188) with h | h189
  · subst h; exact km_189
  rcases Nat.eq_or_lt_of_le (show 190 ≤ y from h189) with h | h190
  · subst h; exact km_190
  rcases Nat.eq_or_lt_of_le (show 191 ≤ y from h190) with h | h191
  · subst h; exact km_191
  rcases Nat.eq_or_lt_of_le (show 192 ≤ y from h191) with h | h192
  · subst h; exact km_192
  rcases Nat.eq_or_lt_of_le (show 193 ≤ y from h192) with h | h193
  · subst h; exact km_193
  rcases Nat.eq_or_lt_of_le (show 194 ≤ y from h193) with h | h194
  · subst h; exact km_194
  rcases Nat.eq_or_lt_of_le (show 195 ≤ y from h194) with h | h195
  · subst h; exact km_195
  rcases Nat.eq_or_lt_of_le (show 196 ≤ y from h195) with h | h196
  · subst h; exact km_196
  rcases Nat.eq_or_lt_of_le (show 197 ≤ y from h196) with h | h197
  · subst h; exact km_197
  rcases Nat.eq_or_lt_of_le (show 198 ≤ y from h197) with h | h198
  · subst h; exact km_198
  rcases Nat.eq_or_lt_of_le (show 199 ≤ y from h198) with h | h199
  · subst h; exact km_199
  rcases Nat.eq_or_lt_of_le (show 200 ≤ y from h199) with h | h200
  · subst h; exact km_200
  rcases Nat.eq_or_lt_of_le (show 201 ≤ y from h200) with h | h201
  · subst h; exact km_201
  rcases Nat.eq_or_lt_of_le (show 202 ≤ y from h201) with h | h202
  · subst h; exact km_202
  rcases Nat.eq_or_lt_of_le (show 203 ≤ y from h202) with h | h203
  · subst h; exact km_203
  rcases Nat.eq_or_lt_of_le (show 204 ≤ y from h203) with h | h204
  · subst h; exact km_204
  rcases Nat.eq_or_lt_of_le (show 205 ≤ y from h204) with h | h205
  · subst h; exact km_205
  rcases Nat.eq_or_lt_of_le (show 206 ≤ y from h205) with h | h206
  · subst h; exact km_206
  rcases Nat.eq_or_lt_of_le (show 207 ≤ y from h206) with h | h207
  · subst h; exact km_207
  rcases Nat.eq_or_lt_of_le (show 208 ≤ y from h207) with h | h208
  · subst h; exact km_208
  rcases Nat.eq_or_lt_of_le (show 209 ≤ y from h208) with h | h209
  · subst h; exact km_209
  rcases Nat.eq_or_lt_of_le (show 210 ≤ y from h209) with h | h210
  · subst h; exact km_210
  rcases Nat.eq_or_lt_of_le (show 211 ≤ y from h210) with h | h211
  · subst h; exact km_211
  rcases Nat.eq_or_lt_of_le (show 212 ≤ y from h211) with h | h212
  · subst h; exact km_212
  rcases Nat.eq_or_lt_of_le (show 213 ≤ y from h212) with h | h213
  · subst h; exact km_213
  rcases Nat.eq_or_lt_of_le (show 214 ≤ y from h213) with h | h214
  · subst h; exact km_214
  rcases Nat.eq_or_lt_of_le (show 215 ≤ y from h214) with h | h215
  · subst h; exact km_215
  rcases Nat.eq_or_lt_of_le (show 216 ≤ y from h215) with h | h216
  · subst h; exact km_216
  rcases Nat.eq_or_lt_of_le (show 217 ≤ y from h216) with h | h217
  · subst h; exact km_217
  rcases Nat.eq_or_lt_of_le (show 218 ≤ y from h217) with h | h218
  · subst h; exact km_218
  rcases Nat.eq_or_lt_of_le (show 219 ≤ y from h218) with h | h219
  · subst h; exact km_219
  rcases Nat.eq_or_lt_of_le (show 220 ≤ y from h219) with h | h220
  · subst h; exact km_220
  rcases Nat.eq_or_lt_of_le (show 221 ≤ y from h220) with h | h221
  · subst h; exact km_221
  rcases Nat.eq_or_lt_of_le (show 222 ≤ y from h221) with h | h222
  · subst h; exact km_222
  rcases Nat.eq_or_lt_of_le (show 223 ≤ y from h222) with h | h223
  · subst h; exact km_223
  rcases Nat.eq_or_lt_of_le (show 224 ≤ y from h223) with h | h224
  · subst h; exact km_224
  rcases Nat.eq_or_lt_of_le (show 225 ≤ y from h224) with h | h225
  · subst h; exact km_225
  rcases Nat.eq_or_lt_of_le (show 226 ≤ y from h225) with h | h226
  · subst h; exact km_226
  rcases Nat.eq_or_lt_of_le (show 227 ≤ y from h226) with h | h227
  · subst h; exact km_227
  rcases Nat.eq_or_lt_of_le (show 228 ≤ y from h227) with h | h228
  · subst h; exact km_228
  rcases Nat.eq_or_lt_of_le (show 229 ≤ y from h228) with h | h229
  · subst h; exact km_229
  rcases Nat.eq_or_lt_of_le (show 230 ≤ y from h229) with h | h230
  · subst h; exact km_230
  rcases Nat.eq_or_lt_of_le (show 231 ≤ y from h230) with h | h231
  · subst h; exact km_231
  rcases Nat.eq_or_lt_of_le (show 232 ≤ y from h231) with h | h232
  · subst h; exact km_232
  rcases Nat.eq_or_lt_of_le (show 233 ≤ y from h232) with h | h233
  · subst h; exact km_233
  rcases Nat.eq_or_lt_of_le (show 234 ≤ y from h233) with h | h234
  · subst h; exact km_234
  rcases Nat.eq_or_lt_of_le (show 235 ≤ y from h234) with h | h235
  · subst h; exact km_235
  have hn : ex_bs[y]? = none := List.getElem?_eq_none (show ex_bs.length ≤ y from h235)
  unfold ex_okM
  rw [List.getD_eq_getElem?_getD, hn]
  rfl
end
section
/-! the tables' words, by their places (printed by wip/whole/gen7.py) -/
def ex_tb : List Jvm.Cond := lw_tbl.filter goodWord
theorem ex_in {i : Nat} {w : Jvm.Cond} (h : lw_tbl[i]? = some w) (g : goodWord w = true) : w ∈ ex_tb := List.mem_filter.mpr ⟨List.mem_of_getElem? h, g⟩
theorem kt_1 : (Jvm.Cond.laysFinal "BorderThroughBed$Day" "BorderThroughBed$Day" "things" "LBorderThroughBed$Table;") ∈ ex_tb := ex_in (i := 273) (by decide +kernel) (by decide +kernel)
theorem kt_2 : (Jvm.Cond.laysFinal "BorderThroughBed$Day" "BorderThroughBed$Day" "events" "LBorderThroughBed$Table;") ∈ ex_tb := ex_in (i := 275) (by decide +kernel) (by decide +kernel)
theorem kt_3 : (Jvm.Cond.laysFinal "BorderThroughBed$Day" "BorderThroughBed$Day" "habits" "LBorderThroughBed$Table;") ∈ ex_tb := ex_in (i := 277) (by decide +kernel) (by decide +kernel)
theorem kt_4 : (Jvm.Cond.laysFinal "BorderThroughBed$Day" "BorderThroughBed$Day" "judgments" "LBorderThroughBed$Table;") ∈ ex_tb := ex_in (i := 279) (by decide +kernel) (by decide +kernel)
theorem ku_0 : ∀ w ∈ u_ws (ex_Rn 0) (ex_T 0) (ex_N 0), w ∈ ex_tb := List.forall_mem_cons.mpr ⟨kt_1, List.forall_mem_cons.mpr ⟨kt_2, List.forall_mem_cons.mpr ⟨kt_3, List.forall_mem_cons.mpr ⟨kt_4, fun _ h => absurd h List.not_mem_nil⟩⟩⟩⟩
theorem kn_0 : ∀ a, a < ex_N 0 → ∀ b, b < ex_N 0 → a ≠ b → (ex_T 0 a).2.1 ≠ (ex_T 0 b).2.1 := by decide +kernel
theorem kp_0 : ∀ k, k < ex_N 0 → parseFieldDescriptor (ex_T 0 k).2.2.1 = some (ex_ty 0 k) := by decide +kernel
theorem kt_5 : (Jvm.Cond.laysFinal "BorderThroughBed$House" "BorderThroughBed$House" "kinds" "[I") ∈ ex_tb := ex_in (i := 200) (by decide +kernel) (by decide +kernel)
theorem kt_6 : (Jvm.Cond.laysFinal "BorderThroughBed$House" "BorderThroughBed$House" "rowOf" "[I") ∈ ex_tb := ex_in (i := 202) (by decide +kernel) (by decide +kernel)
theorem kt_7 : (Jvm.Cond.laysFinal "BorderThroughBed$House" "BorderThroughBed$House" "columnOf" "[I") ∈ ex_tb := ex_in (i := 204) (by decide +kernel) (by decide +kernel)
theorem kt_8 : (Jvm.Cond.laysFinal "BorderThroughBed$House" "BorderThroughBed$House" "lines" "[I") ∈ ex_tb := ex_in (i := 206) (by decide +kernel) (by decide +kernel)
theorem kt_9 : (Jvm.Cond.laysFinal "BorderThroughBed$House" "BorderThroughBed$House" "beside" "[I") ∈ ex_tb := ex_in (i := 208) (by decide +kernel) (by decide +kernel)
theorem kt_10 : (Jvm.Cond.laysFinal "BorderThroughBed$House" "BorderThroughBed$House" "ahead" "[I") ∈ ex_tb := ex_in (i := 210) (by decide +kernel) (by decide +kernel)
theorem kt_11 : (Jvm.Cond.laysFinal "BorderThroughBed$House" "BorderThroughBed$House" "bedSpots" "[I") ∈ ex_tb := ex_in (i := 212) (by decide +kernel) (by decide +kernel)
theorem kt_12 : (Jvm.Cond.laysFinal "BorderThroughBed$House" "BorderThroughBed$House" "otherSpots" "[I") ∈ ex_tb := ex_in (i := 214) (by decide +kernel) (by decide +kernel)
theorem kt_13 : (Jvm.Cond.laysFinal "BorderThroughBed$House" "BorderThroughBed$House" "doors" "[I") ∈ ex_tb := ex_in (i := 216) (by decide +kernel) (by decide +kernel)
theorem kt_14 : (Jvm.Cond.laysFinal "BorderThroughBed$House" "BorderThroughBed$House" "doorSteps" "[I") ∈ ex_tb := ex_in (i := 218) (by decide +kernel) (by decide +kernel)
theorem kt_15 : (Jvm.Cond.laysFinal "BorderThroughBed$House" "BorderThroughBed$House" "costs" "[I") ∈ ex_tb := ex_in (i := 220) (by decide +kernel) (by decide +kernel)
theorem kt_16 : (Jvm.Cond.lays "BorderThroughBed$House" "BorderThroughBed$House" "cells" "I") ∈ ex_tb := ex_in (i := 222) (by decide +kernel) (by decide +kernel)
theorem kt_17 : (Jvm.Cond.lays "BorderThroughBed$House" "BorderThroughBed$House" "rows" "I") ∈ ex_tb := ex_in (i := 224) (by decide +kernel) (by decide +kernel)
theorem kt_18 : (Jvm.Cond.lays "BorderThroughBed$House" "BorderThroughBed$House" "width" "I") ∈ ex_tb := ex_in (i := 226) (by decide +kernel) (by decide +kernel)
theorem ku_1 : ∀ w ∈ u_ws (ex_Rn 1) (ex_T 1) (ex_N 1), w ∈ ex_tb := List.forall_mem_cons.mpr ⟨kt_5, List.forall_mem_cons.mpr ⟨kt_6, List.forall_mem_cons.mpr ⟨kt_7, List.forall_mem_cons.mpr ⟨kt_8, List.forall_mem_cons.mpr ⟨kt_9, List.forall_mem_cons.mpr ⟨kt_10, List.forall_mem_cons.mpr ⟨kt_11, List.forall_mem_cons.mpr ⟨kt_12, List.forall_mem_cons.mpr ⟨kt_13, List.forall_mem_cons.mpr ⟨kt_14, List.forall_mem_cons.mpr ⟨kt_15, List.forall_mem_cons.mpr ⟨kt_16, List.forall_mem_cons.mpr ⟨kt_17, List.forall_mem_cons.mpr ⟨kt_18, fun _ h => absurd h List.not_mem_nil⟩⟩⟩⟩⟩⟩⟩⟩⟩⟩⟩⟩⟩⟩
theorem kn_1 : ∀ a, a < ex_N 1 → ∀ b, b < ex_N 1 → a ≠ b → (ex_T 1 a).2.1 ≠ (ex_T 1 b).2.1 := by decide +kernel
theorem kp_1 : ∀ k, k < ex_N 1 → parseFieldDescriptor (ex_T 1 k).2.2.1 = some (ex_ty 1 k) := by decide +kernel
theorem kt_19 : (Jvm.Cond.lays "BorderThroughBed$HouseText" "BorderThroughBed$HouseText" "row" "I") ∈ ex_tb := ex_in (i := 143) (by decide +kernel) (by decide +kernel)
theorem kt_20 : (Jvm.Cond.lays "BorderThroughBed$HouseText" "BorderThroughBed$HouseText" "width" "I") ∈ ex_tb := ex_in (i := 145) (by decide +kernel) (by decide +kernel)
theorem kt_21 : (Jvm.Cond.lays "BorderThroughBed$HouseText" "BorderThroughBed$HouseText" "column" "I") ∈ ex_tb := ex_in (i := 147) (by decide +kernel) (by decide +kernel)
theorem kt_22 : (Jvm.Cond.lays "BorderThroughBed$HouseText" "BorderThroughBed$HouseText" "hasLine" "Z") ∈ ex_tb := ex_in (i := 149) (by decide +kernel) (by decide +kernel)
theorem ku_2 : ∀ w ∈ u_ws (ex_Rn 2) (ex_T 2) (ex_N 2), w ∈ ex_tb := List.forall_mem_cons.mpr ⟨kt_19, List.forall_mem_cons.mpr ⟨kt_20, List.forall_mem_cons.mpr ⟨kt_21, List.forall_mem_cons.mpr ⟨kt_22, fun _ h => absurd h List.not_mem_nil⟩⟩⟩⟩
theorem kn_2 : ∀ a, a < ex_N 2 → ∀ b, b < ex_N 2 → a ≠ b → (ex_T 2 a).2.1 ≠ (ex_T 2 b).2.1 := by decide +kernel
theorem kp_2 : ∀ k, k < ex_N 2 → parseFieldDescriptor (ex_T 2 k).2.2.1 = some (ex_ty 2 k) := by decide +kernel
theorem kt_23 : (Jvm.Cond.laysFinal "BorderThroughBed$Keeping" "BorderThroughBed$Keeping" "acts" "[I") ∈ ex_tb := ex_in (i := 291) (by decide +kernel) (by decide +kernel)
theorem kt_24 : (Jvm.Cond.laysFinal "BorderThroughBed$Keeping" "BorderThroughBed$Keeping" "good" "[I") ∈ ex_tb := ex_in (i := 293) (by decide +kernel) (by decide +kernel)
theorem kt_25 : (Jvm.Cond.lays "BorderThroughBed$Keeping" "BorderThroughBed$Keeping" "size" "I") ∈ ex_tb := ex_in (i := 295) (by decide +kernel) (by decide +kernel)
theorem ku_3 : ∀ w ∈ u_ws (ex_Rn 3) (ex_T 3) (ex_N 3), w ∈ ex_tb := List.forall_mem_cons.mpr ⟨kt_23, List.forall_mem_cons.mpr ⟨kt_24, List.forall_mem_cons.mpr ⟨kt_25, fun _ h => absurd h List.not_mem_nil⟩⟩⟩
theorem kn_3 : ∀ a, a < ex_N 3 → ∀ b, b < ex_N 3 → a ≠ b → (ex_T 3 a).2.1 ≠ (ex_T 3 b).2.1 := by decide +kernel
theorem kp_3 : ∀ k, k < ex_N 3 → parseFieldDescriptor (ex_T 3 k).2.2.1 = some (ex_ty 3 k) := by decide +kernel
theorem kt_26 : (Jvm.Cond.lays "BorderThroughBed$LawText" "BorderThroughBed$LawText" "side" "I") ∈ ex_tb := ex_in (i := 165) (by decide +kernel) (by decide +kernel)
theorem kt_27 : (Jvm.Cond.lays "BorderThroughBed$LawText" "BorderThroughBed$LawText" "act" "I") ∈ ex_tb := ex_in (i := 167) (by decide +kernel) (by decide +kernel)
theorem kt_28 : (Jvm.Cond.lays "BorderThroughBed$LawText" "BorderThroughBed$LawText" "from" "I") ∈ ex_tb := ex_in (i := 169) (by decide +kernel) (by decide +kernel)
theorem kt_29 : (Jvm.Cond.lays "BorderThroughBed$LawText" "BorderThroughBed$LawText" "to" "I") ∈ ex_tb := ex_in (i := 171) (by decide +kernel) (by decide +kernel)
theorem kt_30 : (Jvm.Cond.lays "BorderThroughBed$LawText" "BorderThroughBed$LawText" "kind" "I") ∈ ex_tb := ex_in (i := 173) (by decide +kernel) (by decide +kernel)
theorem kt_31 : (Jvm.Cond.lays "BorderThroughBed$LawText" "BorderThroughBed$LawText" "stage" "I") ∈ ex_tb := ex_in (i := 175) (by decide +kernel) (by decide +kernel)
theorem kt_32 : (Jvm.Cond.lays "BorderThroughBed$LawText" "BorderThroughBed$LawText" "digits" "I") ∈ ex_tb := ex_in (i := 177) (by decide +kernel) (by decide +kernel)
theorem ku_4 : ∀ w ∈ u_ws (ex_Rn 4) (ex_T 4) (ex_N 4), w ∈ ex_tb := List.forall_mem_cons.mpr ⟨kt_26, List.forall_mem_cons.mpr ⟨kt_27, List.forall_mem_cons.mpr ⟨kt_28, List.forall_mem_cons.mpr ⟨kt_29, List.forall_mem_cons.mpr ⟨kt_30, List.forall_mem_cons.mpr ⟨kt_31, List.forall_mem_cons.mpr ⟨kt_32, fun _ h => absurd h List.not_mem_nil⟩⟩⟩⟩⟩⟩⟩
theorem kn_4 : ∀ a, a < ex_N 4 → ∀ b, b < ex_N 4 → a ≠ b → (ex_T 4 a).2.1 ≠ (ex_T 4 b).2.1 := by decide +kernel
theorem kp_4 : ∀ k, k < ex_N 4 → parseFieldDescriptor (ex_T 4 k).2.2.1 = some (ex_ty 4 k) := by decide +kernel
theorem kt_33 : (Jvm.Cond.laysFinal "BorderThroughBed$Laws" "BorderThroughBed$Laws" "laws" "LBorderThroughBed$Table;") ∈ ex_tb := ex_in (i := 252) (by decide +kernel) (by decide +kernel)
theorem ku_5 : ∀ w ∈ u_ws (ex_Rn 5) (ex_T 5) (ex_N 5), w ∈ ex_tb := List.forall_mem_cons.mpr ⟨kt_33, fun _ h => absurd h List.not_mem_nil⟩
theorem kn_5 : ∀ a, a < ex_N 5 → ∀ b, b < ex_N 5 → a ≠ b → (ex_T 5 a).2.1 ≠ (ex_T 5 b).2.1 := by decide +kernel
theorem kp_5 : ∀ k, k < ex_N 5 → parseFieldDescriptor (ex_T 5 k).2.2.1 = some (ex_ty 5 k) := by decide +kernel
theorem kt_34 : (Jvm.Cond.laysFinal "BorderThroughBed$Mover" "BorderThroughBed$Mover" "kinds" "[I") ∈ ex_tb := ex_in (i := 310) (by decide +kernel) (by decide +kernel)
theorem kt_35 : (Jvm.Cond.laysFinal "BorderThroughBed$Mover" "BorderThroughBed$Mover" "places" "[I") ∈ ex_tb := ex_in (i := 312) (by decide +kernel) (by decide +kernel)
theorem kt_36 : (Jvm.Cond.laysFinal "BorderThroughBed$Mover" "BorderThroughBed$Mover" "spots" "[I") ∈ ex_tb := ex_in (i := 314) (by decide +kernel) (by decide +kernel)
theorem kt_37 : (Jvm.Cond.laysFinal "BorderThroughBed$Mover" "BorderThroughBed$Mover" "answer" "[I") ∈ ex_tb := ex_in (i := 316) (by decide +kernel) (by decide +kernel)
theorem kt_38 : (Jvm.Cond.lays "BorderThroughBed$Mover" "BorderThroughBed$Mover" "size" "I") ∈ ex_tb := ex_in (i := 318) (by decide +kernel) (by decide +kernel)
theorem kt_39 : (Jvm.Cond.lays "BorderThroughBed$Mover" "BorderThroughBed$Mover" "hardest" "I") ∈ ex_tb := ex_in (i := 320) (by decide +kernel) (by decide +kernel)
theorem ku_6 : ∀ w ∈ u_ws (ex_Rn 6) (ex_T 6) (ex_N 6), w ∈ ex_tb := List.forall_mem_cons.mpr ⟨kt_34, List.forall_mem_cons.mpr ⟨kt_35, List.forall_mem_cons.mpr ⟨kt_36, List.forall_mem_cons.mpr ⟨kt_37, List.forall_mem_cons.mpr ⟨kt_38, List.forall_mem_cons.mpr ⟨kt_39, fun _ h => absurd h List.not_mem_nil⟩⟩⟩⟩⟩⟩
theorem kn_6 : ∀ a, a < ex_N 6 → ∀ b, b < ex_N 6 → a ≠ b → (ex_T 6 a).2.1 ≠ (ex_T 6 b).2.1 := by decide +kernel
theorem kp_6 : ∀ k, k < ex_N 6 → parseFieldDescriptor (ex_T 6 k).2.2.1 = some (ex_ty 6 k) := by decide +kernel
theorem kt_40 : (Jvm.Cond.laysFinal "BorderThroughBed$Page" "BorderThroughBed$Page" "codes" "[I") ∈ ex_tb := ex_in (i := 124) (by decide +kernel) (by decide +kernel)
theorem kt_41 : (Jvm.Cond.lays "BorderThroughBed$Page" "BorderThroughBed$Page" "size" "I") ∈ ex_tb := ex_in (i := 126) (by decide +kernel) (by decide +kernel)
theorem ku_7 : ∀ w ∈ u_ws (ex_Rn 7) (ex_T 7) (ex_N 7), w ∈ ex_tb := List.forall_mem_cons.mpr ⟨kt_40, List.forall_mem_cons.mpr ⟨kt_41, fun _ h => absurd h List.not_mem_nil⟩⟩
theorem kn_7 : ∀ a, a < ex_N 7 → ∀ b, b < ex_N 7 → a ≠ b → (ex_T 7 a).2.1 ≠ (ex_T 7 b).2.1 := by decide +kernel
theorem kp_7 : ∀ k, k < ex_N 7 → parseFieldDescriptor (ex_T 7 k).2.2.1 = some (ex_ty 7 k) := by decide +kernel
theorem kt_42 : (Jvm.Cond.laysFinal "BorderThroughBed$Table" "BorderThroughBed$Table" "numbers" "[I") ∈ ex_tb := ex_in (i := 244) (by decide +kernel) (by decide +kernel)
theorem kt_43 : (Jvm.Cond.laysFinal "BorderThroughBed$Table" "BorderThroughBed$Table" "most" "I") ∈ ex_tb := ex_in (i := 246) (by decide +kernel) (by decide +kernel)
theorem kt_44 : (Jvm.Cond.lays "BorderThroughBed$Table" "BorderThroughBed$Table" "size" "I") ∈ ex_tb := ex_in (i := 248) (by decide +kernel) (by decide +kernel)
theorem ku_8 : ∀ w ∈ u_ws (ex_Rn 8) (ex_T 8) (ex_N 8), w ∈ ex_tb := List.forall_mem_cons.mpr ⟨kt_42, List.forall_mem_cons.mpr ⟨kt_43, List.forall_mem_cons.mpr ⟨kt_44, fun _ h => absurd h List.not_mem_nil⟩⟩⟩
theorem kn_8 : ∀ a, a < ex_N 8 → ∀ b, b < ex_N 8 → a ≠ b → (ex_T 8 a).2.1 ≠ (ex_T 8 b).2.1 := by decide +kernel
theorem kp_8 : ∀ k, k < ex_N 8 → parseFieldDescriptor (ex_T 8 k).2.2.1 = some (ex_ty 8 k) := by decide +kernel
theorem ku_9 : ∀ w ∈ u_ws (ex_Rn 9) (ex_T 9) (ex_N 9), w ∈ ex_tb := fun _ h => absurd h List.not_mem_nil
theorem kn_9 : ∀ a, a < ex_N 9 → ∀ b, b < ex_N 9 → a ≠ b → (ex_T 9 a).2.1 ≠ (ex_T 9 b).2.1 := by decide +kernel
theorem kp_9 : ∀ k, k < ex_N 9 → parseFieldDescriptor (ex_T 9 k).2.2.1 = some (ex_ty 9 k) := by decide +kernel
theorem kt_45 : (Jvm.Cond.laysFinal "BorderThroughBed" "BorderThroughBed" "page" "LBorderThroughBed$Page;") ∈ ex_tb := ex_in (i := 335) (by decide +kernel) (by decide +kernel)
theorem kt_46 : (Jvm.Cond.laysFinal "BorderThroughBed" "BorderThroughBed" "houseText" "LBorderThroughBed$HouseText;") ∈ ex_tb := ex_in (i := 337) (by decide +kernel) (by decide +kernel)
theorem kt_47 : (Jvm.Cond.laysFinal "BorderThroughBed" "BorderThroughBed" "lawText" "LBorderThroughBed$LawText;") ∈ ex_tb := ex_in (i := 339) (by decide +kernel) (by decide +kernel)
theorem kt_48 : (Jvm.Cond.laysFinal "BorderThroughBed" "BorderThroughBed" "house" "LBorderThroughBed$House;") ∈ ex_tb := ex_in (i := 341) (by decide +kernel) (by decide +kernel)
theorem kt_49 : (Jvm.Cond.laysFinal "BorderThroughBed" "BorderThroughBed" "laws" "LBorderThroughBed$Laws;") ∈ ex_tb := ex_in (i := 343) (by decide +kernel) (by decide +kernel)
theorem kt_50 : (Jvm.Cond.laysFinal "BorderThroughBed" "BorderThroughBed" "now" "LBorderThroughBed$Day;") ∈ ex_tb := ex_in (i := 345) (by decide +kernel) (by decide +kernel)
theorem kt_51 : (Jvm.Cond.laysFinal "BorderThroughBed" "BorderThroughBed" "imageDay" "LBorderThroughBed$Day;") ∈ ex_tb := ex_in (i := 347) (by decide +kernel) (by decide +kernel)
theorem kt_52 : (Jvm.Cond.laysFinal "BorderThroughBed" "BorderThroughBed" "keeping" "LBorderThroughBed$Keeping;") ∈ ex_tb := ex_in (i := 349) (by decide +kernel) (by decide +kernel)
theorem kt_53 : (Jvm.Cond.laysFinal "BorderThroughBed" "BorderThroughBed" "mover" "LBorderThroughBed$Mover;") ∈ ex_tb := ex_in (i := 351) (by decide +kernel) (by decide +kernel)
theorem kt_54 : (Jvm.Cond.lays "BorderThroughBed" "BorderThroughBed" "imageIsKept" "Z") ∈ ex_tb := ex_in (i := 353) (by decide +kernel) (by decide +kernel)
theorem kt_55 : (Jvm.Cond.lays "BorderThroughBed" "BorderThroughBed" "housesRead" "I") ∈ ex_tb := ex_in (i := 355) (by decide +kernel) (by decide +kernel)
theorem kt_56 : (Jvm.Cond.lays "BorderThroughBed" "BorderThroughBed" "movesDone" "I") ∈ ex_tb := ex_in (i := 357) (by decide +kernel) (by decide +kernel)
theorem ku_10 : ∀ w ∈ u_ws (ex_Rn 10) (ex_T 10) (ex_N 10), w ∈ ex_tb := List.forall_mem_cons.mpr ⟨kt_45, List.forall_mem_cons.mpr ⟨kt_46, List.forall_mem_cons.mpr ⟨kt_47, List.forall_mem_cons.mpr ⟨kt_48, List.forall_mem_cons.mpr ⟨kt_49, List.forall_mem_cons.mpr ⟨kt_50, List.forall_mem_cons.mpr ⟨kt_51, List.forall_mem_cons.mpr ⟨kt_52, List.forall_mem_cons.mpr ⟨kt_53, List.forall_mem_cons.mpr ⟨kt_54, List.forall_mem_cons.mpr ⟨kt_55, List.forall_mem_cons.mpr ⟨kt_56, fun _ h => absurd h List.not_mem_nil⟩⟩⟩⟩⟩⟩⟩⟩⟩⟩⟩⟩
theorem kn_10 : ∀ a, a < ex_N 10 → ∀ b, b < ex_N 10 → a ≠ b → (ex_T 10 a).2.1 ≠ (ex_T 10 b).2.1 := by decide +kernel
theorem kp_10 : ∀ k, k < ex_N 10 → parseFieldDescriptor (ex_T 10 k).2.2.1 = some (ex_ty 10 k) := by decide +kernel
theorem kt_57 : (Jvm.Cond.lays "BorderThroughBedModel" "BorderThroughBedModel" "rows" "I") ∈ ex_tb := ex_in (i := 1080) (by decide +kernel) (by decide +kernel)
theorem kt_58 : (Jvm.Cond.lays "BorderThroughBedModel" "BorderThroughBedModel" "columns" "I") ∈ ex_tb := ex_in (i := 1082) (by decide +kernel) (by decide +kernel)
theorem kt_59 : (Jvm.Cond.lays "BorderThroughBedModel" "BorderThroughBedModel" "houses" "I") ∈ ex_tb := ex_in (i := 1084) (by decide +kernel) (by decide +kernel)
theorem kt_60 : (Jvm.Cond.laysFinal "BorderThroughBedModel" "BorderThroughBedModel" "sort" "[I") ∈ ex_tb := ex_in (i := 1086) (by decide +kernel) (by decide +kernel)
theorem kt_61 : (Jvm.Cond.laysFinal "BorderThroughBedModel" "BorderThroughBedModel" "line" "[I") ∈ ex_tb := ex_in (i := 1088) (by decide +kernel) (by decide +kernel)
theorem kt_62 : (Jvm.Cond.lays "BorderThroughBedModel" "BorderThroughBedModel" "laws" "I") ∈ ex_tb := ex_in (i := 1090) (by decide +kernel) (by decide +kernel)
theorem kt_63 : (Jvm.Cond.laysFinal "BorderThroughBedModel" "BorderThroughBedModel" "lawSide" "[I") ∈ ex_tb := ex_in (i := 1092) (by decide +kernel) (by decide +kernel)
theorem kt_64 : (Jvm.Cond.laysFinal "BorderThroughBedModel" "BorderThroughBedModel" "lawAct" "[I") ∈ ex_tb := ex_in (i := 1094) (by decide +kernel) (by decide +kernel)
theorem kt_65 : (Jvm.Cond.laysFinal "BorderThroughBedModel" "BorderThroughBedModel" "lawFrom" "[I") ∈ ex_tb := ex_in (i := 1096) (by decide +kernel) (by decide +kernel)
theorem kt_66 : (Jvm.Cond.laysFinal "BorderThroughBedModel" "BorderThroughBedModel" "lawTo" "[I") ∈ ex_tb := ex_in (i := 1098) (by decide +kernel) (by decide +kernel)
theorem kt_67 : (Jvm.Cond.laysFinal "BorderThroughBedModel" "BorderThroughBedModel" "lawKind" "[I") ∈ ex_tb := ex_in (i := 1100) (by decide +kernel) (by decide +kernel)
theorem kt_68 : (Jvm.Cond.lays "BorderThroughBedModel" "BorderThroughBedModel" "events" "I") ∈ ex_tb := ex_in (i := 1102) (by decide +kernel) (by decide +kernel)
theorem kt_69 : (Jvm.Cond.laysFinal "BorderThroughBedModel" "BorderThroughBedModel" "eventOf" "[I") ∈ ex_tb := ex_in (i := 1104) (by decide +kernel) (by decide +kernel)
theorem kt_70 : (Jvm.Cond.lays "BorderThroughBedModel" "BorderThroughBedModel" "things" "I") ∈ ex_tb := ex_in (i := 1106) (by decide +kernel) (by decide +kernel)
theorem kt_71 : (Jvm.Cond.laysFinal "BorderThroughBedModel" "BorderThroughBedModel" "thingKind" "[I") ∈ ex_tb := ex_in (i := 1108) (by decide +kernel) (by decide +kernel)
theorem kt_72 : (Jvm.Cond.laysFinal "BorderThroughBedModel" "BorderThroughBedModel" "thingCell" "[I") ∈ ex_tb := ex_in (i := 1110) (by decide +kernel) (by decide +kernel)
theorem kt_73 : (Jvm.Cond.laysFinal "BorderThroughBedModel" "BorderThroughBedModel" "thingWay" "[I") ∈ ex_tb := ex_in (i := 1112) (by decide +kernel) (by decide +kernel)
theorem kt_74 : (Jvm.Cond.lays "BorderThroughBedModel" "BorderThroughBedModel" "habits" "I") ∈ ex_tb := ex_in (i := 1114) (by decide +kernel) (by decide +kernel)
theorem kt_75 : (Jvm.Cond.laysFinal "BorderThroughBedModel" "BorderThroughBedModel" "habitAct" "[I") ∈ ex_tb := ex_in (i := 1116) (by decide +kernel) (by decide +kernel)
theorem kt_76 : (Jvm.Cond.laysFinal "BorderThroughBedModel" "BorderThroughBedModel" "habitHour" "[I") ∈ ex_tb := ex_in (i := 1118) (by decide +kernel) (by decide +kernel)
theorem kt_77 : (Jvm.Cond.lays "BorderThroughBedModel" "BorderThroughBedModel" "judgments" "I") ∈ ex_tb := ex_in (i := 1120) (by decide +kernel) (by decide +kernel)
theorem kt_78 : (Jvm.Cond.laysFinal "BorderThroughBedModel" "BorderThroughBedModel" "judgedCell" "[I") ∈ ex_tb := ex_in (i := 1122) (by decide +kernel) (by decide +kernel)
theorem kt_79 : (Jvm.Cond.laysFinal "BorderThroughBedModel" "BorderThroughBedModel" "judgedSide" "[I") ∈ ex_tb := ex_in (i := 1124) (by decide +kernel) (by decide +kernel)
theorem kt_80 : (Jvm.Cond.lays "BorderThroughBedModel" "BorderThroughBedModel" "asks" "I") ∈ ex_tb := ex_in (i := 1126) (by decide +kernel) (by decide +kernel)
theorem kt_81 : (Jvm.Cond.lays "BorderThroughBedModel" "BorderThroughBedModel" "pageLength" "I") ∈ ex_tb := ex_in (i := 1128) (by decide +kernel) (by decide +kernel)
theorem kt_82 : (Jvm.Cond.laysFinal "BorderThroughBedModel" "BorderThroughBedModel" "page" "[B") ∈ ex_tb := ex_in (i := 1130) (by decide +kernel) (by decide +kernel)
theorem kt_83 : (Jvm.Cond.lays "BorderThroughBedModel" "BorderThroughBedModel" "isKept" "Z") ∈ ex_tb := ex_in (i := 1132) (by decide +kernel) (by decide +kernel)
theorem kt_84 : (Jvm.Cond.lays "BorderThroughBedModel" "BorderThroughBedModel" "keptHouse" "I") ∈ ex_tb := ex_in (i := 1134) (by decide +kernel) (by decide +kernel)
theorem kt_85 : (Jvm.Cond.lays "BorderThroughBedModel" "BorderThroughBedModel" "keptThings" "I") ∈ ex_tb := ex_in (i := 1136) (by decide +kernel) (by decide +kernel)
theorem kt_86 : (Jvm.Cond.lays "BorderThroughBedModel" "BorderThroughBedModel" "keptEvents" "I") ∈ ex_tb := ex_in (i := 1138) (by decide +kernel) (by decide +kernel)
theorem kt_87 : (Jvm.Cond.lays "BorderThroughBedModel" "BorderThroughBedModel" "keptHabits" "I") ∈ ex_tb := ex_in (i := 1140) (by decide +kernel) (by decide +kernel)
theorem kt_88 : (Jvm.Cond.lays "BorderThroughBedModel" "BorderThroughBedModel" "keptJudgments" "I") ∈ ex_tb := ex_in (i := 1142) (by decide +kernel) (by decide +kernel)
theorem kt_89 : (Jvm.Cond.laysFinal "BorderThroughBedModel" "BorderThroughBedModel" "keptThing" "[I") ∈ ex_tb := ex_in (i := 1144) (by decide +kernel) (by decide +kernel)
theorem kt_90 : (Jvm.Cond.laysFinal "BorderThroughBedModel" "BorderThroughBedModel" "keptEvent" "[I") ∈ ex_tb := ex_in (i := 1146) (by decide +kernel) (by decide +kernel)
theorem kt_91 : (Jvm.Cond.laysFinal "BorderThroughBedModel" "BorderThroughBedModel" "keptHabit" "[I") ∈ ex_tb := ex_in (i := 1148) (by decide +kernel) (by decide +kernel)
theorem kt_92 : (Jvm.Cond.laysFinal "BorderThroughBedModel" "BorderThroughBedModel" "keptJudged" "[I") ∈ ex_tb := ex_in (i := 1150) (by decide +kernel) (by decide +kernel)
theorem kt_93 : (Jvm.Cond.lays "BorderThroughBedModel" "BorderThroughBedModel" "faultAt" "I") ∈ ex_tb := ex_in (i := 1152) (by decide +kernel) (by decide +kernel)
theorem kt_94 : (Jvm.Cond.lays "BorderThroughBedModel" "BorderThroughBedModel" "isWhole" "Z") ∈ ex_tb := ex_in (i := 1154) (by decide +kernel) (by decide +kernel)
theorem kt_95 : (Jvm.Cond.lays "BorderThroughBedModel" "BorderThroughBedModel" "newRows" "I") ∈ ex_tb := ex_in (i := 1156) (by decide +kernel) (by decide +kernel)
theorem kt_96 : (Jvm.Cond.lays "BorderThroughBedModel" "BorderThroughBedModel" "newColumns" "I") ∈ ex_tb := ex_in (i := 1158) (by decide +kernel) (by decide +kernel)
theorem kt_97 : (Jvm.Cond.lays "BorderThroughBedModel" "BorderThroughBedModel" "newHere" "I") ∈ ex_tb := ex_in (i := 1160) (by decide +kernel) (by decide +kernel)
theorem kt_98 : (Jvm.Cond.lays "BorderThroughBedModel" "BorderThroughBedModel" "hasLine" "Z") ∈ ex_tb := ex_in (i := 1162) (by decide +kernel) (by decide +kernel)
theorem kt_99 : (Jvm.Cond.laysFinal "BorderThroughBedModel" "BorderThroughBedModel" "newSort" "[I") ∈ ex_tb := ex_in (i := 1164) (by decide +kernel) (by decide +kernel)
theorem kt_100 : (Jvm.Cond.laysFinal "BorderThroughBedModel" "BorderThroughBedModel" "newLine" "[I") ∈ ex_tb := ex_in (i := 1166) (by decide +kernel) (by decide +kernel)
theorem kt_101 : (Jvm.Cond.lays "BorderThroughBedModel" "BorderThroughBedModel" "newSide" "I") ∈ ex_tb := ex_in (i := 1168) (by decide +kernel) (by decide +kernel)
theorem kt_102 : (Jvm.Cond.lays "BorderThroughBedModel" "BorderThroughBedModel" "newAct" "I") ∈ ex_tb := ex_in (i := 1170) (by decide +kernel) (by decide +kernel)
theorem kt_103 : (Jvm.Cond.lays "BorderThroughBedModel" "BorderThroughBedModel" "newFrom" "I") ∈ ex_tb := ex_in (i := 1172) (by decide +kernel) (by decide +kernel)
theorem kt_104 : (Jvm.Cond.lays "BorderThroughBedModel" "BorderThroughBedModel" "newTo" "I") ∈ ex_tb := ex_in (i := 1174) (by decide +kernel) (by decide +kernel)
theorem kt_105 : (Jvm.Cond.lays "BorderThroughBedModel" "BorderThroughBedModel" "newKind" "I") ∈ ex_tb := ex_in (i := 1176) (by decide +kernel) (by decide +kernel)
theorem kt_106 : (Jvm.Cond.lays "BorderThroughBedModel" "BorderThroughBedModel" "shift" "I") ∈ ex_tb := ex_in (i := 1178) (by decide +kernel) (by decide +kernel)
theorem kt_107 : (Jvm.Cond.laysFinal "BorderThroughBedModel" "BorderThroughBedModel" "far" "[I") ∈ ex_tb := ex_in (i := 1180) (by decide +kernel) (by decide +kernel)
theorem kt_108 : (Jvm.Cond.laysFinal "BorderThroughBedModel" "BorderThroughBedModel" "queue" "[I") ∈ ex_tb := ex_in (i := 1182) (by decide +kernel) (by decide +kernel)
theorem kt_109 : (Jvm.Cond.lays "BorderThroughBedModel" "BorderThroughBedModel" "movedMany" "I") ∈ ex_tb := ex_in (i := 1184) (by decide +kernel) (by decide +kernel)
theorem kt_110 : (Jvm.Cond.lays "BorderThroughBedModel" "BorderThroughBedModel" "movedFirst" "I") ∈ ex_tb := ex_in (i := 1186) (by decide +kernel) (by decide +kernel)
theorem kt_111 : (Jvm.Cond.lays "BorderThroughBedModel" "BorderThroughBedModel" "placeFirst" "I") ∈ ex_tb := ex_in (i := 1188) (by decide +kernel) (by decide +kernel)
theorem kt_112 : (Jvm.Cond.lays "BorderThroughBedModel" "BorderThroughBedModel" "movedSecond" "I") ∈ ex_tb := ex_in (i := 1190) (by decide +kernel) (by decide +kernel)
theorem kt_113 : (Jvm.Cond.lays "BorderThroughBedModel" "BorderThroughBedModel" "placeSecond" "I") ∈ ex_tb := ex_in (i := 1192) (by decide +kernel) (by decide +kernel)
theorem kt_114 : (Jvm.Cond.lays "BorderThroughBedModel" "BorderThroughBedModel" "h" "J") ∈ ex_tb := ex_in (i := 1194) (by decide +kernel) (by decide +kernel)
theorem ku_11 : ∀ w ∈ u_ws (ex_Rn 11) (ex_T 11) (ex_N 11), w ∈ ex_tb := List.forall_mem_cons.mpr ⟨kt_57, List.forall_mem_cons.mpr ⟨kt_58, List.forall_mem_cons.mpr ⟨kt_59, List.forall_mem_cons.mpr ⟨kt_60, List.forall_mem_cons.mpr ⟨kt_61, List.forall_mem_cons.mpr ⟨kt_62, List.forall_mem_cons.mpr ⟨kt_63, List.forall_mem_cons.mpr ⟨kt_64, List.forall_mem_cons.mpr ⟨kt_65, List.forall_mem_cons.mpr ⟨kt_66, List.forall_mem_cons.mpr ⟨kt_67, List.forall_mem_cons.mpr ⟨kt_68, List.forall_mem_cons.mpr ⟨kt_69, List.forall_mem_cons.mpr ⟨kt_70, List.forall_mem_cons.mpr ⟨kt_71, List.forall_mem_cons.mpr ⟨kt_72, List.forall_mem_cons.mpr ⟨kt_73, List.forall_mem_cons.mpr ⟨kt_74, List.forall_mem_cons.mpr ⟨kt_75, List.forall_mem_cons.mpr ⟨kt_76, List.forall_mem_cons.mpr ⟨kt_77, List.forall_mem_cons.mpr ⟨kt_78, List.forall_mem_cons.mpr ⟨kt_79, List.forall_mem_cons.mpr ⟨kt_80, List.forall_mem_cons.mpr ⟨kt_81, List.forall_mem_cons.mpr ⟨kt_82, List.forall_mem_cons.mpr ⟨kt_83, List.forall_mem_cons.mpr ⟨kt_84, List.forall_mem_cons.mpr ⟨kt_85, List.forall_mem_cons.mpr ⟨kt_86, List.forall_mem_cons.mpr ⟨kt_87, List.forall_mem_cons.mpr ⟨kt_88, List.forall_mem_cons.mpr ⟨kt_89, List.forall_mem_cons.mpr ⟨kt_90, List.forall_mem_cons.mpr ⟨kt_91, List.forall_mem_cons.mpr ⟨kt_92, List.forall_mem_cons.mpr ⟨kt_93, List.forall_mem_cons.mpr ⟨kt_94, List.forall_mem_cons.mpr ⟨kt_95, List.forall_mem_cons.mpr ⟨kt_96, List.forall_mem_cons.mpr ⟨kt_97, List.forall_mem_cons.mpr ⟨kt_98, List.forall_mem_cons.mpr ⟨kt_99, List.forall_mem_cons.mpr ⟨kt_100, List.forall_mem_cons.mpr ⟨kt_101, List.forall_mem_cons.mpr ⟨kt_102, List.forall_mem_cons.mpr ⟨kt_103, List.forall_mem_cons.mpr ⟨kt_104, List.forall_mem_cons.mpr ⟨kt_105, List.forall_mem_cons.mpr ⟨kt_106, List.forall_mem_cons.mpr ⟨kt_107, List.forall_mem_cons.mpr ⟨kt_108, List.forall_mem_cons.mpr ⟨kt_109, List.forall_mem_cons.mpr ⟨kt_110, List.forall_mem_cons.mpr ⟨kt_111, List.forall_mem_cons.mpr ⟨kt_112, List.forall_mem_cons.mpr ⟨kt_113, List.forall_mem_cons.mpr ⟨kt_114, fun _ h => absurd h List.not_mem_nil⟩⟩⟩⟩⟩⟩⟩⟩⟩⟩⟩⟩⟩⟩⟩⟩⟩⟩⟩⟩⟩⟩⟩⟩⟩⟩⟩⟩⟩⟩⟩⟩⟩⟩⟩⟩⟩⟩⟩⟩⟩⟩⟩⟩⟩⟩⟩⟩⟩⟩⟩⟩⟩⟩⟩⟩⟩⟩
theorem kn_11 : ∀ a, a < ex_N 11 → ∀ b, b < ex_N 11 → a ≠ b → (ex_T 11 a).2.1 ≠ (ex_T 11 b).2.1 := by decide +kernel
theorem kp_11 : ∀ k, k < ex_N 11 → parseFieldDescriptor (ex_T 11 k).2.2.1 = some (ex_ty 11 k) := by decide +kernel
theorem ku_all {c : Nat} (hc : c < 12) : ∀ w ∈ u_ws (ex_Rn c) (ex_T c) (ex_N c), w ∈ ex_tb := by
  match c, hc with
  | 0, _ => exact ku_0
  | 1, _ => exact ku_1
  | 2, _ => exact ku_2
  | 3, _ => exact ku_3
  | 4, _ => exact ku_4
  | 5, _ => exact ku_5
  | 6, _ => exact ku_6
  | 7, _ => exact ku_7
  | 8, _ => exact ku_8
  | 9, _ => exact ku_9
  | 10, _ => exact ku_10
  | 11, _ => exact ku_11
theorem kn_all {c : Nat} (hc : c < 12) : ∀ a, a < ex_N c → ∀ b, b < ex_N c → a ≠ b → (ex_T c a).2.1 ≠ (ex_T c b).2.1 := by
  match c, hc with
  | 0, _ => exact kn_0
  | 1, _ => exact kn_1
  | 2, _ => exact kn_2
  | 3, _ => exact kn_3
  | 4, _ => exact kn_4
  | 5, _ => exact kn_5
  | 6, _ => exact kn_6
  | 7, _ => exact kn_7
  | 8, _ => exact kn_8
  | 9, _ => exact kn_9
  | 10, _ => exact kn_10
  | 11, _ => exact kn_11
theorem kp_all {c : Nat} (hc : c < 12) : ∀ k, k < ex_N c → parseFieldDescriptor (ex_T c k).2.2.1 = some (ex_ty c k) := by
  match c, hc with
  | 0, _ => exact kp_0
  | 1, _ => exact kp_1
  | 2, _ => exact kp_2
  | 3, _ => exact kp_3
  | 4, _ => exact kp_4
  | 5, _ => exact kp_5
  | 6, _ => exact kp_6
  | 7, _ => exact kp_7
  | 8, _ => exact kp_8
  | 9, _ => exact kp_9
  | 10, _ => exact kp_10
  | 11, _ => exact kp_11
def ex_PF (c a e : Nat) : Prop := Jvm.Cond.fieldLink (ex_Rn c) a (ex_Rn (e / 64)) (ex_T (e / 64) (e % 64)).2.1 (ex_T (e / 64) (e % 64)).2.2.1 ∈ ex_tb ∧ e / 64 < 12 ∧ e % 64 < ex_N (e / 64)
theorem kt_115 : (Jvm.Cond.fieldLink "BorderThroughBed$Day" 14 "BorderThroughBed$Day" "things" "LBorderThroughBed$Table;") ∈ ex_tb := ex_in (i := 263) (by decide +kernel) (by decide +kernel)
theorem kt_116 : (Jvm.Cond.fieldLink "BorderThroughBed$Day" 20 "BorderThroughBed$Day" "events" "LBorderThroughBed$Table;") ∈ ex_tb := ex_in (i := 266) (by decide +kernel) (by decide +kernel)
theorem kt_117 : (Jvm.Cond.fieldLink "BorderThroughBed$Day" 23 "BorderThroughBed$Day" "habits" "LBorderThroughBed$Table;") ∈ ex_tb := ex_in (i := 268) (by decide +kernel) (by decide +kernel)
theorem kt_118 : (Jvm.Cond.fieldLink "BorderThroughBed$Day" 26 "BorderThroughBed$Day" "judgments" "LBorderThroughBed$Table;") ∈ ex_tb := ex_in (i := 271) (by decide +kernel) (by decide +kernel)
theorem kq_F_0 : ∀ q ∈ ex_cF.getD 0 [], ex_PF 0 q.1 q.2 := List.forall_mem_cons.mpr ⟨⟨kt_115, by decide, by decide +kernel⟩, List.forall_mem_cons.mpr ⟨⟨kt_116, by decide, by decide +kernel⟩, List.forall_mem_cons.mpr ⟨⟨kt_117, by decide, by decide +kernel⟩, List.forall_mem_cons.mpr ⟨⟨kt_118, by decide, by decide +kernel⟩, fun _ h => absurd h List.not_mem_nil⟩⟩⟩⟩
theorem kt_119 : (Jvm.Cond.fieldLink "BorderThroughBed$House" 9 "BorderThroughBed$House" "kinds" "[I") ∈ ex_tb := ex_in (i := 186) (by decide +kernel) (by decide +kernel)
theorem kt_120 : (Jvm.Cond.fieldLink "BorderThroughBed$House" 15 "BorderThroughBed$House" "rowOf" "[I") ∈ ex_tb := ex_in (i := 187) (by decide +kernel) (by decide +kernel)
theorem kt_121 : (Jvm.Cond.fieldLink "BorderThroughBed$House" 18 "BorderThroughBed$House" "columnOf" "[I") ∈ ex_tb := ex_in (i := 188) (by decide +kernel) (by decide +kernel)
theorem kt_122 : (Jvm.Cond.fieldLink "BorderThroughBed$House" 21 "BorderThroughBed$House" "lines" "[I") ∈ ex_tb := ex_in (i := 189) (by decide +kernel) (by decide +kernel)
theorem kt_123 : (Jvm.Cond.fieldLink "BorderThroughBed$House" 24 "BorderThroughBed$House" "beside" "[I") ∈ ex_tb := ex_in (i := 190) (by decide +kernel) (by decide +kernel)
theorem kt_124 : (Jvm.Cond.fieldLink "BorderThroughBed$House" 27 "BorderThroughBed$House" "ahead" "[I") ∈ ex_tb := ex_in (i := 191) (by decide +kernel) (by decide +kernel)
theorem kt_125 : (Jvm.Cond.fieldLink "BorderThroughBed$House" 30 "BorderThroughBed$House" "bedSpots" "[I") ∈ ex_tb := ex_in (i := 192) (by decide +kernel) (by decide +kernel)
theorem kt_126 : (Jvm.Cond.fieldLink "BorderThroughBed$House" 33 "BorderThroughBed$House" "otherSpots" "[I") ∈ ex_tb := ex_in (i := 193) (by decide +kernel) (by decide +kernel)
theorem kt_127 : (Jvm.Cond.fieldLink "BorderThroughBed$House" 36 "BorderThroughBed$House" "doors" "[I") ∈ ex_tb := ex_in (i := 194) (by decide +kernel) (by decide +kernel)
theorem kt_128 : (Jvm.Cond.fieldLink "BorderThroughBed$House" 39 "BorderThroughBed$House" "doorSteps" "[I") ∈ ex_tb := ex_in (i := 195) (by decide +kernel) (by decide +kernel)
theorem kt_129 : (Jvm.Cond.fieldLink "BorderThroughBed$House" 42 "BorderThroughBed$House" "costs" "[I") ∈ ex_tb := ex_in (i := 196) (by decide +kernel) (by decide +kernel)
theorem kt_130 : (Jvm.Cond.fieldLink "BorderThroughBed$House" 45 "BorderThroughBed$House" "cells" "I") ∈ ex_tb := ex_in (i := 197) (by decide +kernel) (by decide +kernel)
theorem kt_131 : (Jvm.Cond.fieldLink "BorderThroughBed$House" 67 "BorderThroughBed$House" "rows" "I") ∈ ex_tb := ex_in (i := 198) (by decide +kernel) (by decide +kernel)
theorem kt_132 : (Jvm.Cond.fieldLink "BorderThroughBed$House" 70 "BorderThroughBed$House" "width" "I") ∈ ex_tb := ex_in (i := 199) (by decide +kernel) (by decide +kernel)
theorem kq_F_1 : ∀ q ∈ ex_cF.getD 1 [], ex_PF 1 q.1 q.2 := List.forall_mem_cons.mpr ⟨⟨kt_119, by decide, by decide +kernel⟩, List.forall_mem_cons.mpr ⟨⟨kt_120, by decide, by decide +kernel⟩, List.forall_mem_cons.mpr ⟨⟨kt_121, by decide, by decide +kernel⟩, List.forall_mem_cons.mpr ⟨⟨kt_122, by decide, by decide +kernel⟩, List.forall_mem_cons.mpr ⟨⟨kt_123, by decide, by decide +kernel⟩, List.forall_mem_cons.mpr ⟨⟨kt_124, by decide, by decide +kernel⟩, List.forall_mem_cons.mpr ⟨⟨kt_125, by decide, by decide +kernel⟩, List.forall_mem_cons.mpr ⟨⟨kt_126, by decide, by decide +kernel⟩, List.forall_mem_cons.mpr ⟨⟨kt_127, by decide, by decide +kernel⟩, List.forall_mem_cons.mpr ⟨⟨kt_128, by decide, by decide +kernel⟩, List.forall_mem_cons.mpr ⟨⟨kt_129, by decide, by decide +kernel⟩, List.forall_mem_cons.mpr ⟨⟨kt_130, by decide, by decide +kernel⟩, List.forall_mem_cons.mpr ⟨⟨kt_131, by decide, by decide +kernel⟩, List.forall_mem_cons.mpr ⟨⟨kt_132, by decide, by decide +kernel⟩, fun _ h => absurd h List.not_mem_nil⟩⟩⟩⟩⟩⟩⟩⟩⟩⟩⟩⟩⟩⟩
theorem kt_133 : (Jvm.Cond.fieldLink "BorderThroughBed$HouseText" 9 "BorderThroughBed$HouseText" "row" "I") ∈ ex_tb := ex_in (i := 139) (by decide +kernel) (by decide +kernel)
theorem kt_134 : (Jvm.Cond.fieldLink "BorderThroughBed$HouseText" 15 "BorderThroughBed$HouseText" "width" "I") ∈ ex_tb := ex_in (i := 140) (by decide +kernel) (by decide +kernel)
theorem kt_135 : (Jvm.Cond.fieldLink "BorderThroughBed$HouseText" 18 "BorderThroughBed$HouseText" "column" "I") ∈ ex_tb := ex_in (i := 141) (by decide +kernel) (by decide +kernel)
theorem kt_136 : (Jvm.Cond.fieldLink "BorderThroughBed$HouseText" 21 "BorderThroughBed$HouseText" "hasLine" "Z") ∈ ex_tb := ex_in (i := 142) (by decide +kernel) (by decide +kernel)
theorem kq_F_2 : ∀ q ∈ ex_cF.getD 2 [], ex_PF 2 q.1 q.2 := List.forall_mem_cons.mpr ⟨⟨kt_133, by decide, by decide +kernel⟩, List.forall_mem_cons.mpr ⟨⟨kt_134, by decide, by decide +kernel⟩, List.forall_mem_cons.mpr ⟨⟨kt_135, by decide, by decide +kernel⟩, List.forall_mem_cons.mpr ⟨⟨kt_136, by decide, by decide +kernel⟩, fun _ h => absurd h List.not_mem_nil⟩⟩⟩⟩
theorem kt_137 : (Jvm.Cond.fieldLink "BorderThroughBed$Keeping" 9 "BorderThroughBed$Keeping" "acts" "[I") ∈ ex_tb := ex_in (i := 288) (by decide +kernel) (by decide +kernel)
theorem kt_138 : (Jvm.Cond.fieldLink "BorderThroughBed$Keeping" 15 "BorderThroughBed$Keeping" "good" "[I") ∈ ex_tb := ex_in (i := 289) (by decide +kernel) (by decide +kernel)
theorem kt_139 : (Jvm.Cond.fieldLink "BorderThroughBed$Keeping" 18 "BorderThroughBed$Day" "habits" "LBorderThroughBed$Table;") ∈ ex_tb := ex_in (i := 269) (by decide +kernel) (by decide +kernel)
theorem kt_140 : (Jvm.Cond.fieldLink "BorderThroughBed$Keeping" 36 "BorderThroughBed$Keeping" "size" "I") ∈ ex_tb := ex_in (i := 290) (by decide +kernel) (by decide +kernel)
theorem kq_F_3 : ∀ q ∈ ex_cF.getD 3 [], ex_PF 3 q.1 q.2 := List.forall_mem_cons.mpr ⟨⟨kt_137, by decide, by decide +kernel⟩, List.forall_mem_cons.mpr ⟨⟨kt_138, by decide, by decide +kernel⟩, List.forall_mem_cons.mpr ⟨⟨kt_139, by decide, by decide +kernel⟩, List.forall_mem_cons.mpr ⟨⟨kt_140, by decide, by decide +kernel⟩, fun _ h => absurd h List.not_mem_nil⟩⟩⟩⟩
theorem kt_141 : (Jvm.Cond.fieldLink "BorderThroughBed$LawText" 9 "BorderThroughBed$LawText" "side" "I") ∈ ex_tb := ex_in (i := 158) (by decide +kernel) (by decide +kernel)
theorem kt_142 : (Jvm.Cond.fieldLink "BorderThroughBed$LawText" 15 "BorderThroughBed$LawText" "act" "I") ∈ ex_tb := ex_in (i := 159) (by decide +kernel) (by decide +kernel)
theorem kt_143 : (Jvm.Cond.fieldLink "BorderThroughBed$LawText" 18 "BorderThroughBed$LawText" "from" "I") ∈ ex_tb := ex_in (i := 160) (by decide +kernel) (by decide +kernel)
theorem kt_144 : (Jvm.Cond.fieldLink "BorderThroughBed$LawText" 21 "BorderThroughBed$LawText" "to" "I") ∈ ex_tb := ex_in (i := 161) (by decide +kernel) (by decide +kernel)
theorem kt_145 : (Jvm.Cond.fieldLink "BorderThroughBed$LawText" 24 "BorderThroughBed$LawText" "kind" "I") ∈ ex_tb := ex_in (i := 162) (by decide +kernel) (by decide +kernel)
theorem kt_146 : (Jvm.Cond.fieldLink "BorderThroughBed$LawText" 27 "BorderThroughBed$LawText" "stage" "I") ∈ ex_tb := ex_in (i := 163) (by decide +kernel) (by decide +kernel)
theorem kt_147 : (Jvm.Cond.fieldLink "BorderThroughBed$LawText" 30 "BorderThroughBed$LawText" "digits" "I") ∈ ex_tb := ex_in (i := 164) (by decide +kernel) (by decide +kernel)
theorem kq_F_4 : ∀ q ∈ ex_cF.getD 4 [], ex_PF 4 q.1 q.2 := List.forall_mem_cons.mpr ⟨⟨kt_141, by decide, by decide +kernel⟩, List.forall_mem_cons.mpr ⟨⟨kt_142, by decide, by decide +kernel⟩, List.forall_mem_cons.mpr ⟨⟨kt_143, by decide, by decide +kernel⟩, List.forall_mem_cons.mpr ⟨⟨kt_144, by decide, by decide +kernel⟩, List.forall_mem_cons.mpr ⟨⟨kt_145, by decide, by decide +kernel⟩, List.forall_mem_cons.mpr ⟨⟨kt_146, by decide, by decide +kernel⟩, List.forall_mem_cons.mpr ⟨⟨kt_147, by decide, by decide +kernel⟩, fun _ h => absurd h List.not_mem_nil⟩⟩⟩⟩⟩⟩⟩
theorem kt_148 : (Jvm.Cond.fieldLink "BorderThroughBed$Laws" 14 "BorderThroughBed$Laws" "laws" "LBorderThroughBed$Table;") ∈ ex_tb := ex_in (i := 251) (by decide +kernel) (by decide +kernel)
theorem kq_F_5 : ∀ q ∈ ex_cF.getD 5 [], ex_PF 5 q.1 q.2 := List.forall_mem_cons.mpr ⟨⟨kt_148, by decide, by decide +kernel⟩, fun _ h => absurd h List.not_mem_nil⟩
theorem kt_149 : (Jvm.Cond.fieldLink "BorderThroughBed$Mover" 9 "BorderThroughBed$Mover" "kinds" "[I") ∈ ex_tb := ex_in (i := 304) (by decide +kernel) (by decide +kernel)
theorem kt_150 : (Jvm.Cond.fieldLink "BorderThroughBed$Mover" 15 "BorderThroughBed$Mover" "places" "[I") ∈ ex_tb := ex_in (i := 305) (by decide +kernel) (by decide +kernel)
theorem kt_151 : (Jvm.Cond.fieldLink "BorderThroughBed$Mover" 18 "BorderThroughBed$Mover" "spots" "[I") ∈ ex_tb := ex_in (i := 306) (by decide +kernel) (by decide +kernel)
theorem kt_152 : (Jvm.Cond.fieldLink "BorderThroughBed$Mover" 21 "BorderThroughBed$Mover" "answer" "[I") ∈ ex_tb := ex_in (i := 307) (by decide +kernel) (by decide +kernel)
theorem kt_153 : (Jvm.Cond.fieldLink "BorderThroughBed$Mover" 24 "BorderThroughBed$Day" "things" "LBorderThroughBed$Table;") ∈ ex_tb := ex_in (i := 264) (by decide +kernel) (by decide +kernel)
theorem kt_154 : (Jvm.Cond.fieldLink "BorderThroughBed$Mover" 42 "BorderThroughBed$Mover" "size" "I") ∈ ex_tb := ex_in (i := 308) (by decide +kernel) (by decide +kernel)
theorem kt_155 : (Jvm.Cond.fieldLink "BorderThroughBed$Mover" 45 "BorderThroughBed$Mover" "hardest" "I") ∈ ex_tb := ex_in (i := 309) (by decide +kernel) (by decide +kernel)
theorem kq_F_6 : ∀ q ∈ ex_cF.getD 6 [], ex_PF 6 q.1 q.2 := List.forall_mem_cons.mpr ⟨⟨kt_149, by decide, by decide +kernel⟩, List.forall_mem_cons.mpr ⟨⟨kt_150, by decide, by decide +kernel⟩, List.forall_mem_cons.mpr ⟨⟨kt_151, by decide, by decide +kernel⟩, List.forall_mem_cons.mpr ⟨⟨kt_152, by decide, by decide +kernel⟩, List.forall_mem_cons.mpr ⟨⟨kt_153, by decide, by decide +kernel⟩, List.forall_mem_cons.mpr ⟨⟨kt_154, by decide, by decide +kernel⟩, List.forall_mem_cons.mpr ⟨⟨kt_155, by decide, by decide +kernel⟩, fun _ h => absurd h List.not_mem_nil⟩⟩⟩⟩⟩⟩⟩
theorem kt_156 : (Jvm.Cond.fieldLink "BorderThroughBed$Page" 11 "BorderThroughBed$Page" "codes" "[I") ∈ ex_tb := ex_in (i := 122) (by decide +kernel) (by decide +kernel)
theorem kt_157 : (Jvm.Cond.fieldLink "BorderThroughBed$Page" 19 "BorderThroughBed$Page" "size" "I") ∈ ex_tb := ex_in (i := 123) (by decide +kernel) (by decide +kernel)
theorem kq_F_7 : ∀ q ∈ ex_cF.getD 7 [], ex_PF 7 q.1 q.2 := List.forall_mem_cons.mpr ⟨⟨kt_156, by decide, by decide +kernel⟩, List.forall_mem_cons.mpr ⟨⟨kt_157, by decide, by decide +kernel⟩, fun _ h => absurd h List.not_mem_nil⟩⟩
theorem kt_158 : (Jvm.Cond.fieldLink "BorderThroughBed$Table" 11 "BorderThroughBed$Table" "numbers" "[I") ∈ ex_tb := ex_in (i := 241) (by decide +kernel) (by decide +kernel)
theorem kt_159 : (Jvm.Cond.fieldLink "BorderThroughBed$Table" 15 "BorderThroughBed$Table" "most" "I") ∈ ex_tb := ex_in (i := 242) (by decide +kernel) (by decide +kernel)
theorem kt_160 : (Jvm.Cond.fieldLink "BorderThroughBed$Table" 19 "BorderThroughBed$Table" "size" "I") ∈ ex_tb := ex_in (i := 243) (by decide +kernel) (by decide +kernel)
theorem kq_F_8 : ∀ q ∈ ex_cF.getD 8 [], ex_PF 8 q.1 q.2 := List.forall_mem_cons.mpr ⟨⟨kt_158, by decide, by decide +kernel⟩, List.forall_mem_cons.mpr ⟨⟨kt_159, by decide, by decide +kernel⟩, List.forall_mem_cons.mpr ⟨⟨kt_160, by decide, by decide +kernel⟩, fun _ h => absurd h List.not_mem_nil⟩⟩⟩
theorem kq_F_9 : ∀ q ∈ ex_cF.getD 9 [], ex_PF 9 q.1 q.2 := fun _ h => absurd h List.not_mem_nil
theorem kt_161 : (Jvm.Cond.fieldLink "BorderThroughBed" 10 "BorderThroughBed" "page" "LBorderThroughBed$Page;") ∈ ex_tb := ex_in (i := 323) (by decide +kernel) (by decide +kernel)
theorem kt_162 : (Jvm.Cond.fieldLink "BorderThroughBed" 19 "BorderThroughBed" "houseText" "LBorderThroughBed$HouseText;") ∈ ex_tb := ex_in (i := 324) (by decide +kernel) (by decide +kernel)
theorem kt_163 : (Jvm.Cond.fieldLink "BorderThroughBed" 26 "BorderThroughBed" "lawText" "LBorderThroughBed$LawText;") ∈ ex_tb := ex_in (i := 325) (by decide +kernel) (by decide +kernel)
theorem kt_164 : (Jvm.Cond.fieldLink "BorderThroughBed" 33 "BorderThroughBed" "house" "LBorderThroughBed$House;") ∈ ex_tb := ex_in (i := 326) (by decide +kernel) (by decide +kernel)
theorem kt_165 : (Jvm.Cond.fieldLink "BorderThroughBed" 40 "BorderThroughBed" "laws" "LBorderThroughBed$Laws;") ∈ ex_tb := ex_in (i := 327) (by decide +kernel) (by decide +kernel)
theorem kt_166 : (Jvm.Cond.fieldLink "BorderThroughBed" 47 "BorderThroughBed" "now" "LBorderThroughBed$Day;") ∈ ex_tb := ex_in (i := 328) (by decide +kernel) (by decide +kernel)
theorem kt_167 : (Jvm.Cond.fieldLink "BorderThroughBed" 51 "BorderThroughBed" "imageDay" "LBorderThroughBed$Day;") ∈ ex_tb := ex_in (i := 329) (by decide +kernel) (by decide +kernel)
theorem kt_168 : (Jvm.Cond.fieldLink "BorderThroughBed" 57 "BorderThroughBed" "keeping" "LBorderThroughBed$Keeping;") ∈ ex_tb := ex_in (i := 330) (by decide +kernel) (by decide +kernel)
theorem kt_169 : (Jvm.Cond.fieldLink "BorderThroughBed" 64 "BorderThroughBed" "mover" "LBorderThroughBed$Mover;") ∈ ex_tb := ex_in (i := 331) (by decide +kernel) (by decide +kernel)
theorem kt_170 : (Jvm.Cond.fieldLink "BorderThroughBed" 101 "BorderThroughBed" "imageIsKept" "Z") ∈ ex_tb := ex_in (i := 332) (by decide +kernel) (by decide +kernel)
theorem kt_171 : (Jvm.Cond.fieldLink "BorderThroughBed" 105 "BorderThroughBed" "housesRead" "I") ∈ ex_tb := ex_in (i := 333) (by decide +kernel) (by decide +kernel)
theorem kt_172 : (Jvm.Cond.fieldLink "BorderThroughBed" 151 "BorderThroughBed$Day" "events" "LBorderThroughBed$Table;") ∈ ex_tb := ex_in (i := 267) (by decide +kernel) (by decide +kernel)
theorem kt_173 : (Jvm.Cond.fieldLink "BorderThroughBed" 187 "BorderThroughBed$Day" "things" "LBorderThroughBed$Table;") ∈ ex_tb := ex_in (i := 265) (by decide +kernel) (by decide +kernel)
theorem kt_174 : (Jvm.Cond.fieldLink "BorderThroughBed" 205 "BorderThroughBed$Day" "habits" "LBorderThroughBed$Table;") ∈ ex_tb := ex_in (i := 270) (by decide +kernel) (by decide +kernel)
theorem kt_175 : (Jvm.Cond.fieldLink "BorderThroughBed" 220 "BorderThroughBed" "movesDone" "I") ∈ ex_tb := ex_in (i := 334) (by decide +kernel) (by decide +kernel)
theorem kt_176 : (Jvm.Cond.fieldLink "BorderThroughBed" 262 "BorderThroughBed$Day" "judgments" "LBorderThroughBed$Table;") ∈ ex_tb := ex_in (i := 272) (by decide +kernel) (by decide +kernel)
theorem kq_F_10 : ∀ q ∈ ex_cF.getD 10 [], ex_PF 10 q.1 q.2 := List.forall_mem_cons.mpr ⟨⟨kt_161, by decide, by decide +kernel⟩, List.forall_mem_cons.mpr ⟨⟨kt_162, by decide, by decide +kernel⟩, List.forall_mem_cons.mpr ⟨⟨kt_163, by decide, by decide +kernel⟩, List.forall_mem_cons.mpr ⟨⟨kt_164, by decide, by decide +kernel⟩, List.forall_mem_cons.mpr ⟨⟨kt_165, by decide, by decide +kernel⟩, List.forall_mem_cons.mpr ⟨⟨kt_166, by decide, by decide +kernel⟩, List.forall_mem_cons.mpr ⟨⟨kt_167, by decide, by decide +kernel⟩, List.forall_mem_cons.mpr ⟨⟨kt_168, by decide, by decide +kernel⟩, List.forall_mem_cons.mpr ⟨⟨kt_169, by decide, by decide +kernel⟩, List.forall_mem_cons.mpr ⟨⟨kt_170, by decide, by decide +kernel⟩, List.forall_mem_cons.mpr ⟨⟨kt_171, by decide, by decide +kernel⟩, List.forall_mem_cons.mpr ⟨⟨kt_172, by decide, by decide +kernel⟩, List.forall_mem_cons.mpr ⟨⟨kt_173, by decide, by decide +kernel⟩, List.forall_mem_cons.mpr ⟨⟨kt_174, by decide, by decide +kernel⟩, List.forall_mem_cons.mpr ⟨⟨kt_175, by decide, by decide +kernel⟩, List.forall_mem_cons.mpr ⟨⟨kt_176, by decide, by decide +kernel⟩, fun _ h => absurd h List.not_mem_nil⟩⟩⟩⟩⟩⟩⟩⟩⟩⟩⟩⟩⟩⟩⟩⟩
theorem kt_177 : (Jvm.Cond.fieldLink "BorderThroughBedModel" 7 "BorderThroughBedModel" "sort" "[I") ∈ ex_tb := ex_in (i := 1025) (by decide +kernel) (by decide +kernel)
theorem kt_178 : (Jvm.Cond.fieldLink "BorderThroughBedModel" 13 "BorderThroughBedModel" "line" "[I") ∈ ex_tb := ex_in (i := 1026) (by decide +kernel) (by decide +kernel)
theorem kt_179 : (Jvm.Cond.fieldLink "BorderThroughBedModel" 16 "BorderThroughBedModel" "lawSide" "[I") ∈ ex_tb := ex_in (i := 1028) (by decide +kernel) (by decide +kernel)
theorem kt_180 : (Jvm.Cond.fieldLink "BorderThroughBedModel" 19 "BorderThroughBedModel" "lawAct" "[I") ∈ ex_tb := ex_in (i := 1029) (by decide +kernel) (by decide +kernel)
theorem kt_181 : (Jvm.Cond.fieldLink "BorderThroughBedModel" 22 "BorderThroughBedModel" "lawFrom" "[I") ∈ ex_tb := ex_in (i := 1030) (by decide +kernel) (by decide +kernel)
theorem kt_182 : (Jvm.Cond.fieldLink "BorderThroughBedModel" 25 "BorderThroughBedModel" "lawTo" "[I") ∈ ex_tb := ex_in (i := 1031) (by decide +kernel) (by decide +kernel)
theorem kt_183 : (Jvm.Cond.fieldLink "BorderThroughBedModel" 28 "BorderThroughBedModel" "lawKind" "[I") ∈ ex_tb := ex_in (i := 1032) (by decide +kernel) (by decide +kernel)
theorem kt_184 : (Jvm.Cond.fieldLink "BorderThroughBedModel" 31 "BorderThroughBedModel" "eventOf" "[I") ∈ ex_tb := ex_in (i := 1034) (by decide +kernel) (by decide +kernel)
theorem kt_185 : (Jvm.Cond.fieldLink "BorderThroughBedModel" 34 "BorderThroughBedModel" "thingKind" "[I") ∈ ex_tb := ex_in (i := 1036) (by decide +kernel) (by decide +kernel)
theorem kt_186 : (Jvm.Cond.fieldLink "BorderThroughBedModel" 37 "BorderThroughBedModel" "thingCell" "[I") ∈ ex_tb := ex_in (i := 1037) (by decide +kernel) (by decide +kernel)
theorem kt_187 : (Jvm.Cond.fieldLink "BorderThroughBedModel" 40 "BorderThroughBedModel" "thingWay" "[I") ∈ ex_tb := ex_in (i := 1038) (by decide +kernel) (by decide +kernel)
theorem kt_188 : (Jvm.Cond.fieldLink "BorderThroughBedModel" 43 "BorderThroughBedModel" "habitAct" "[I") ∈ ex_tb := ex_in (i := 1040) (by decide +kernel) (by decide +kernel)
theorem kt_189 : (Jvm.Cond.fieldLink "BorderThroughBedModel" 46 "BorderThroughBedModel" "habitHour" "[I") ∈ ex_tb := ex_in (i := 1041) (by decide +kernel) (by decide +kernel)
theorem kt_190 : (Jvm.Cond.fieldLink "BorderThroughBedModel" 49 "BorderThroughBedModel" "judgedCell" "[I") ∈ ex_tb := ex_in (i := 1043) (by decide +kernel) (by decide +kernel)
theorem kt_191 : (Jvm.Cond.fieldLink "BorderThroughBedModel" 52 "BorderThroughBedModel" "judgedSide" "[I") ∈ ex_tb := ex_in (i := 1044) (by decide +kernel) (by decide +kernel)
theorem kt_192 : (Jvm.Cond.fieldLink "BorderThroughBedModel" 55 "BorderThroughBedModel" "page" "[B") ∈ ex_tb := ex_in (i := 1047) (by decide +kernel) (by decide +kernel)
theorem kt_193 : (Jvm.Cond.fieldLink "BorderThroughBedModel" 59 "BorderThroughBedModel" "keptThing" "[I") ∈ ex_tb := ex_in (i := 1054) (by decide +kernel) (by decide +kernel)
theorem kt_194 : (Jvm.Cond.fieldLink "BorderThroughBedModel" 62 "BorderThroughBedModel" "keptEvent" "[I") ∈ ex_tb := ex_in (i := 1055) (by decide +kernel) (by decide +kernel)
theorem kt_195 : (Jvm.Cond.fieldLink "BorderThroughBedModel" 65 "BorderThroughBedModel" "keptHabit" "[I") ∈ ex_tb := ex_in (i := 1056) (by decide +kernel) (by decide +kernel)
theorem kt_196 : (Jvm.Cond.fieldLink "BorderThroughBedModel" 68 "BorderThroughBedModel" "keptJudged" "[I") ∈ ex_tb := ex_in (i := 1057) (by decide +kernel) (by decide +kernel)
theorem kt_197 : (Jvm.Cond.fieldLink "BorderThroughBedModel" 71 "BorderThroughBedModel" "newSort" "[I") ∈ ex_tb := ex_in (i := 1064) (by decide +kernel) (by decide +kernel)
theorem kt_198 : (Jvm.Cond.fieldLink "BorderThroughBedModel" 74 "BorderThroughBedModel" "newLine" "[I") ∈ ex_tb := ex_in (i := 1065) (by decide +kernel) (by decide +kernel)
theorem kt_199 : (Jvm.Cond.fieldLink "BorderThroughBedModel" 77 "BorderThroughBedModel" "far" "[I") ∈ ex_tb := ex_in (i := 1072) (by decide +kernel) (by decide +kernel)
theorem kt_200 : (Jvm.Cond.fieldLink "BorderThroughBedModel" 80 "BorderThroughBedModel" "queue" "[I") ∈ ex_tb := ex_in (i := 1073) (by decide +kernel) (by decide +kernel)
theorem kt_201 : (Jvm.Cond.fieldLink "BorderThroughBedModel" 85 "BorderThroughBedModel" "pageLength" "I") ∈ ex_tb := ex_in (i := 1046) (by decide +kernel) (by decide +kernel)
theorem kt_202 : (Jvm.Cond.fieldLink "BorderThroughBedModel" 97 "BorderThroughBedModel" "newHere" "I") ∈ ex_tb := ex_in (i := 1062) (by decide +kernel) (by decide +kernel)
theorem kt_203 : (Jvm.Cond.fieldLink "BorderThroughBedModel" 100 "BorderThroughBedModel" "newRows" "I") ∈ ex_tb := ex_in (i := 1060) (by decide +kernel) (by decide +kernel)
theorem kt_204 : (Jvm.Cond.fieldLink "BorderThroughBedModel" 103 "BorderThroughBedModel" "newColumns" "I") ∈ ex_tb := ex_in (i := 1061) (by decide +kernel) (by decide +kernel)
theorem kt_205 : (Jvm.Cond.fieldLink "BorderThroughBedModel" 106 "BorderThroughBedModel" "hasLine" "Z") ∈ ex_tb := ex_in (i := 1063) (by decide +kernel) (by decide +kernel)
theorem kt_206 : (Jvm.Cond.fieldLink "BorderThroughBedModel" 114 "BorderThroughBedModel" "faultAt" "I") ∈ ex_tb := ex_in (i := 1058) (by decide +kernel) (by decide +kernel)
theorem kt_207 : (Jvm.Cond.fieldLink "BorderThroughBedModel" 117 "BorderThroughBedModel" "isWhole" "Z") ∈ ex_tb := ex_in (i := 1059) (by decide +kernel) (by decide +kernel)
theorem kt_208 : (Jvm.Cond.fieldLink "BorderThroughBedModel" 120 "BorderThroughBedModel" "newFrom" "I") ∈ ex_tb := ex_in (i := 1068) (by decide +kernel) (by decide +kernel)
theorem kt_209 : (Jvm.Cond.fieldLink "BorderThroughBedModel" 123 "BorderThroughBedModel" "newTo" "I") ∈ ex_tb := ex_in (i := 1069) (by decide +kernel) (by decide +kernel)
theorem kt_210 : (Jvm.Cond.fieldLink "BorderThroughBedModel" 139 "BorderThroughBedModel" "newKind" "I") ∈ ex_tb := ex_in (i := 1070) (by decide +kernel) (by decide +kernel)
theorem kt_211 : (Jvm.Cond.fieldLink "BorderThroughBedModel" 142 "BorderThroughBedModel" "newSide" "I") ∈ ex_tb := ex_in (i := 1066) (by decide +kernel) (by decide +kernel)
theorem kt_212 : (Jvm.Cond.fieldLink "BorderThroughBedModel" 145 "BorderThroughBedModel" "newAct" "I") ∈ ex_tb := ex_in (i := 1067) (by decide +kernel) (by decide +kernel)
theorem kt_213 : (Jvm.Cond.fieldLink "BorderThroughBedModel" 165 "BorderThroughBedModel" "rows" "I") ∈ ex_tb := ex_in (i := 1022) (by decide +kernel) (by decide +kernel)
theorem kt_214 : (Jvm.Cond.fieldLink "BorderThroughBedModel" 168 "BorderThroughBedModel" "columns" "I") ∈ ex_tb := ex_in (i := 1023) (by decide +kernel) (by decide +kernel)
theorem kt_215 : (Jvm.Cond.fieldLink "BorderThroughBedModel" 171 "BorderThroughBedModel" "houses" "I") ∈ ex_tb := ex_in (i := 1024) (by decide +kernel) (by decide +kernel)
theorem kt_216 : (Jvm.Cond.fieldLink "BorderThroughBedModel" 174 "BorderThroughBedModel" "things" "I") ∈ ex_tb := ex_in (i := 1035) (by decide +kernel) (by decide +kernel)
theorem kt_217 : (Jvm.Cond.fieldLink "BorderThroughBedModel" 177 "BorderThroughBedModel" "events" "I") ∈ ex_tb := ex_in (i := 1033) (by decide +kernel) (by decide +kernel)
theorem kt_218 : (Jvm.Cond.fieldLink "BorderThroughBedModel" 180 "BorderThroughBedModel" "habits" "I") ∈ ex_tb := ex_in (i := 1039) (by decide +kernel) (by decide +kernel)
theorem kt_219 : (Jvm.Cond.fieldLink "BorderThroughBedModel" 183 "BorderThroughBedModel" "judgments" "I") ∈ ex_tb := ex_in (i := 1042) (by decide +kernel) (by decide +kernel)
theorem kt_220 : (Jvm.Cond.fieldLink "BorderThroughBedModel" 186 "BorderThroughBedModel" "shift" "I") ∈ ex_tb := ex_in (i := 1071) (by decide +kernel) (by decide +kernel)
theorem kt_221 : (Jvm.Cond.fieldLink "BorderThroughBedModel" 189 "BorderThroughBedModel" "laws" "I") ∈ ex_tb := ex_in (i := 1027) (by decide +kernel) (by decide +kernel)
theorem kt_222 : (Jvm.Cond.fieldLink "BorderThroughBedModel" 311 "BorderThroughBedModel" "movedMany" "I") ∈ ex_tb := ex_in (i := 1074) (by decide +kernel) (by decide +kernel)
theorem kt_223 : (Jvm.Cond.fieldLink "BorderThroughBedModel" 314 "BorderThroughBedModel" "movedFirst" "I") ∈ ex_tb := ex_in (i := 1075) (by decide +kernel) (by decide +kernel)
theorem kt_224 : (Jvm.Cond.fieldLink "BorderThroughBedModel" 317 "BorderThroughBedModel" "placeFirst" "I") ∈ ex_tb := ex_in (i := 1076) (by decide +kernel) (by decide +kernel)
theorem kt_225 : (Jvm.Cond.fieldLink "BorderThroughBedModel" 320 "BorderThroughBedModel" "movedSecond" "I") ∈ ex_tb := ex_in (i := 1077) (by decide +kernel) (by decide +kernel)
theorem kt_226 : (Jvm.Cond.fieldLink "BorderThroughBedModel" 323 "BorderThroughBedModel" "placeSecond" "I") ∈ ex_tb := ex_in (i := 1078) (by decide +kernel) (by decide +kernel)
theorem kt_227 : (Jvm.Cond.fieldLink "BorderThroughBedModel" 335 "BorderThroughBedModel" "asks" "I") ∈ ex_tb := ex_in (i := 1045) (by decide +kernel) (by decide +kernel)
theorem kt_228 : (Jvm.Cond.fieldLink "BorderThroughBedModel" 344 "BorderThroughBedModel" "isKept" "Z") ∈ ex_tb := ex_in (i := 1048) (by decide +kernel) (by decide +kernel)
theorem kt_229 : (Jvm.Cond.fieldLink "BorderThroughBedModel" 347 "BorderThroughBedModel" "keptHouse" "I") ∈ ex_tb := ex_in (i := 1049) (by decide +kernel) (by decide +kernel)
theorem kt_230 : (Jvm.Cond.fieldLink "BorderThroughBedModel" 350 "BorderThroughBedModel" "keptThings" "I") ∈ ex_tb := ex_in (i := 1050) (by decide +kernel) (by decide +kernel)
theorem kt_231 : (Jvm.Cond.fieldLink "BorderThroughBedModel" 353 "BorderThroughBedModel" "keptEvents" "I") ∈ ex_tb := ex_in (i := 1051) (by decide +kernel) (by decide +kernel)
theorem kt_232 : (Jvm.Cond.fieldLink "BorderThroughBedModel" 356 "BorderThroughBedModel" "keptHabits" "I") ∈ ex_tb := ex_in (i := 1052) (by decide +kernel) (by decide +kernel)
theorem kt_233 : (Jvm.Cond.fieldLink "BorderThroughBedModel" 359 "BorderThroughBedModel" "keptJudgments" "I") ∈ ex_tb := ex_in (i := 1053) (by decide +kernel) (by decide +kernel)
theorem kt_234 : (Jvm.Cond.fieldLink "BorderThroughBedModel" 367 "BorderThroughBedModel" "h" "J") ∈ ex_tb := ex_in (i := 1079) (by decide +kernel) (by decide +kernel)
theorem kq_F_11 : ∀ q ∈ ex_cF.getD 11 [], ex_PF 11 q.1 q.2 := List.forall_mem_cons.mpr ⟨⟨kt_177, by decide, by decide +kernel⟩, List.forall_mem_cons.mpr ⟨⟨kt_178, by decide, by decide +kernel⟩, List.forall_mem_cons.mpr ⟨⟨kt_179, by decide, by decide +kernel⟩, List.forall_mem_cons.mpr ⟨⟨kt_180, by decide, by decide +kernel⟩, List.forall_mem_cons.mpr ⟨⟨kt_181, by decide, by decide +kernel⟩, List.forall_mem_cons.mpr ⟨⟨kt_182, by decide, by decide +kernel⟩, List.forall_mem_cons.mpr ⟨⟨kt_183, by decide, by decide +kernel⟩, List.forall_mem_cons.mpr ⟨⟨kt_184, by decide, by decide +kernel⟩, List.forall_mem_cons.mpr ⟨⟨kt_185, by decide, by decide +kernel⟩, List.forall_mem_cons.mpr ⟨⟨kt_186, by decide, by decide +kernel⟩, List.forall_mem_cons.mpr ⟨⟨kt_187, by decide, by decide +kernel⟩, List.forall_mem_cons.mpr ⟨⟨kt_188, by decide, by decide +kernel⟩, List.forall_mem_cons.mpr ⟨⟨kt_189, by decide, by decide +kernel⟩, List.forall_mem_cons.mpr ⟨⟨kt_190, by decide, by decide +kernel⟩, List.forall_mem_cons.mpr ⟨⟨kt_191, by decide, by decide +kernel⟩, List.forall_mem_cons.mpr ⟨⟨kt_192, by decide, by decide +kernel⟩, List.forall_mem_cons.mpr ⟨⟨kt_193, by decide, by decide +kernel⟩, List.forall_mem_cons.mpr ⟨⟨kt_194, by decide, by decide +kernel⟩, List.forall_mem_cons.mpr ⟨⟨kt_195, by decide, by decide +kernel⟩, List.forall_mem_cons.mpr ⟨⟨kt_196, by decide, by decide +kernel⟩, List.forall_mem_cons.mpr ⟨⟨kt_197, by decide, by decide +kernel⟩, List.forall_mem_cons.mpr ⟨⟨kt_198, by decide, by decide +kernel⟩, List.forall_mem_cons.mpr ⟨⟨kt_199, by decide, by decide +kernel⟩, List.forall_mem_cons.mpr ⟨⟨kt_200, by decide, by decide +kernel⟩, List.forall_mem_cons.mpr ⟨⟨kt_201, by decide, by decide +kernel⟩, List.forall_mem_cons.mpr ⟨⟨kt_202, by decide, by decide +kernel⟩, List.forall_mem_cons.mpr ⟨⟨kt_203, by decide, by decide +kernel⟩, List.forall_mem_cons.mpr ⟨⟨kt_204, by decide, by decide +kernel⟩, List.forall_mem_cons.mpr ⟨⟨kt_205, by decide, by decide +kernel⟩, List.forall_mem_cons.mpr ⟨⟨kt_206, by decide, by decide +kernel⟩, List.forall_mem_cons.mpr ⟨⟨kt_207, by decide, by decide +kernel⟩, List.forall_mem_cons.mpr ⟨⟨kt_208, by decide, by decide +kernel⟩, List.forall_mem_cons.mpr ⟨⟨kt_209, by decide, by decide +kernel⟩, List.forall_mem_cons.mpr ⟨⟨kt_210, by decide, by decide +kernel⟩, List.forall_mem_cons.mpr ⟨⟨kt_211, by decide, by decide +kernel⟩, List.forall_mem_cons.mpr ⟨⟨kt_212, by decide, by decide +kernel⟩, List.forall_mem_cons.mpr ⟨⟨kt_213, by decide, by decide +kernel⟩, List.forall_mem_cons.mpr ⟨⟨kt_214, by decide, by decide +kernel⟩, List.forall_mem_cons.mpr ⟨⟨kt_215, by decide, by decide +kernel⟩, List.forall_mem_cons.mpr ⟨⟨kt_216, by decide, by decide +kernel⟩, List.forall_mem_cons.mpr ⟨⟨kt_217, by decide, by decide +kernel⟩, List.forall_mem_cons.mpr ⟨⟨kt_218, by decide, by decide +kernel⟩, List.forall_mem_cons.mpr ⟨⟨kt_219, by decide, by decide +kernel⟩, List.forall_mem_cons.mpr ⟨⟨kt_220, by decide, by decide +kernel⟩, List.forall_mem_cons.mpr ⟨⟨kt_221, by decide, by decide +kernel⟩, List.forall_mem_cons.mpr ⟨⟨kt_222, by decide, by decide +kernel⟩, List.forall_mem_cons.mpr ⟨⟨kt_223, by decide, by decide +kernel⟩, List.forall_mem_cons.mpr ⟨⟨kt_224, by decide, by decide +kernel⟩, List.forall_mem_cons.mpr ⟨⟨kt_225, by decide, by decide +kernel⟩, List.forall_mem_cons.mpr ⟨⟨kt_226, by decide, by decide +kernel⟩, List.forall_mem_cons.mpr ⟨⟨kt_227, by decide, by decide +kernel⟩, List.forall_mem_cons.mpr ⟨⟨kt_228, by decide, by decide +kernel⟩, List.forall_mem_cons.mpr ⟨⟨kt_229, by decide, by decide +kernel⟩, List.forall_mem_cons.mpr ⟨⟨kt_230, by decide, by decide +kernel⟩, List.forall_mem_cons.mpr ⟨⟨kt_231, by decide, by decide +kernel⟩, List.forall_mem_cons.mpr ⟨⟨kt_232, by decide, by decide +kernel⟩, List.forall_mem_cons.mpr ⟨⟨kt_233, by decide, by decide +kernel⟩, List.forall_mem_cons.mpr ⟨⟨kt_234, by decide, by decide +kernel⟩, fun _ h => absurd h List.not_mem_nil⟩⟩⟩⟩⟩⟩⟩⟩⟩⟩⟩⟩⟩⟩⟩⟩⟩⟩⟩⟩⟩⟩⟩⟩⟩⟩⟩⟩⟩⟩⟩⟩⟩⟩⟩⟩⟩⟩⟩⟩⟩⟩⟩⟩⟩⟩⟩⟩⟩⟩⟩⟩⟩⟩⟩⟩⟩⟩
theorem kq_F {c : Nat} (hc : c < 12) : ∀ q ∈ ex_cF.getD c [], ex_PF c q.1 q.2 := by
  match c, hc with
  | 0, _ => exact kq_F_0
  | 1, _ => exact kq_F_1
  | 2, _ => exact kq_F_2
  | 3, _ => exact kq_F_3
  | 4, _ => exact kq_F_4
  | 5, _ => exact kq_F_5
  | 6, _ => exact kq_F_6
  | 7, _ => exact kq_F_7
  | 8, _ => exact kq_F_8
  | 9, _ => exact kq_F_9
  | 10, _ => exact kq_F_10
  | 11, _ => exact kq_F_11
def ex_PS (c a e : Nat) : Prop := (e = 1000 ∧ Jvm.Cond.fieldLink (ex_Rn c) a "BorderThroughBed$House" "DOWN" "[I" ∈ ex_tb) ∨ (e = 1001 ∧ Jvm.Cond.fieldLink (ex_Rn c) a "BorderThroughBed$House" "RIGHT" "[I" ∈ ex_tb)
theorem kq_S_0 : ∀ q ∈ ex_cS.getD 0 [], ex_PS 0 q.1 q.2 := fun _ h => absurd h List.not_mem_nil
theorem kt_235 : (Jvm.Cond.fieldLink "BorderThroughBed$House" 86 "BorderThroughBed$House" "DOWN" "[I") ∈ ex_tb := ex_in (i := 508) (by decide +kernel) (by decide +kernel)
theorem kt_236 : (Jvm.Cond.fieldLink "BorderThroughBed$House" 89 "BorderThroughBed$House" "RIGHT" "[I") ∈ ex_tb := ex_in (i := 510) (by decide +kernel) (by decide +kernel)
theorem kq_S_1 : ∀ q ∈ ex_cS.getD 1 [], ex_PS 1 q.1 q.2 := List.forall_mem_cons.mpr ⟨Or.inl ⟨rfl, kt_235⟩, List.forall_mem_cons.mpr ⟨Or.inr ⟨rfl, kt_236⟩, fun _ h => absurd h List.not_mem_nil⟩⟩
theorem kq_S_2 : ∀ q ∈ ex_cS.getD 2 [], ex_PS 2 q.1 q.2 := fun _ h => absurd h List.not_mem_nil
theorem kq_S_3 : ∀ q ∈ ex_cS.getD 3 [], ex_PS 3 q.1 q.2 := fun _ h => absurd h List.not_mem_nil
theorem kq_S_4 : ∀ q ∈ ex_cS.getD 4 [], ex_PS 4 q.1 q.2 := fun _ h => absurd h List.not_mem_nil
theorem kq_S_5 : ∀ q ∈ ex_cS.getD 5 [], ex_PS 5 q.1 q.2 := fun _ h => absurd h List.not_mem_nil
theorem kq_S_6 : ∀ q ∈ ex_cS.getD 6 [], ex_PS 6 q.1 q.2 := fun _ h => absurd h List.not_mem_nil
theorem kq_S_7 : ∀ q ∈ ex_cS.getD 7 [], ex_PS 7 q.1 q.2 := fun _ h => absurd h List.not_mem_nil
theorem kq_S_8 : ∀ q ∈ ex_cS.getD 8 [], ex_PS 8 q.1 q.2 := fun _ h => absurd h List.not_mem_nil
theorem kq_S_9 : ∀ q ∈ ex_cS.getD 9 [], ex_PS 9 q.1 q.2 := fun _ h => absurd h List.not_mem_nil
theorem kq_S_10 : ∀ q ∈ ex_cS.getD 10 [], ex_PS 10 q.1 q.2 := fun _ h => absurd h List.not_mem_nil
theorem kq_S_11 : ∀ q ∈ ex_cS.getD 11 [], ex_PS 11 q.1 q.2 := fun _ h => absurd h List.not_mem_nil
theorem kq_S {c : Nat} (hc : c < 12) : ∀ q ∈ ex_cS.getD c [], ex_PS c q.1 q.2 := by
  match c, hc with
  | 0, _ => exact kq_S_0
  | 1, _ => exact kq_S_1
  | 2, _ => exact kq_S_2
  | 3, _ => exact kq_S_3
  | 4, _ => exact kq_S_4
  | 5, _ => exact kq_S_5
  | 6, _ => exact kq_S_6
  | 7, _ => exact kq_S_7
  | 8, _ => exact kq_S_8
  | 9, _ => exact kq_S_9
  | 10, _ => exact kq_S_10
  | 11, _ => exact kq_S_11
def ex_PK (c a : Nat) (v : Int) : Prop := Jvm.Cond.constant (ex_Rn c) a (Int32.ofInt v) ∈ ex_tb
def ex_PL (c a : Nat) (v : Int) : Prop := Jvm.Cond.constantLong (ex_Rn c) a (Int64.ofInt v) ∈ ex_tb
theorem kq_K_0 : ∀ q ∈ ex_cK.getD 0 [], ex_PK 0 q.1 q.2 := fun _ h => absurd h List.not_mem_nil
theorem kt_237 : (Jvm.Cond.constant (ex_Rn 1) 103 (Int32.ofInt 1000000)) ∈ ex_tb := ex_in (i := 532) (by decide +kernel) (by decide +kernel)
theorem kq_K_1 : ∀ q ∈ ex_cK.getD 1 [], ex_PK 1 q.1 q.2 := List.forall_mem_cons.mpr ⟨kt_237, fun _ h => absurd h List.not_mem_nil⟩
theorem kq_K_2 : ∀ q ∈ ex_cK.getD 2 [], ex_PK 2 q.1 q.2 := fun _ h => absurd h List.not_mem_nil
theorem kq_K_3 : ∀ q ∈ ex_cK.getD 3 [], ex_PK 3 q.1 q.2 := fun _ h => absurd h List.not_mem_nil
theorem kq_K_4 : ∀ q ∈ ex_cK.getD 4 [], ex_PK 4 q.1 q.2 := fun _ h => absurd h List.not_mem_nil
theorem kq_K_5 : ∀ q ∈ ex_cK.getD 5 [], ex_PK 5 q.1 q.2 := fun _ h => absurd h List.not_mem_nil
theorem kq_K_6 : ∀ q ∈ ex_cK.getD 6 [], ex_PK 6 q.1 q.2 := fun _ h => absurd h List.not_mem_nil
theorem kq_K_7 : ∀ q ∈ ex_cK.getD 7 [], ex_PK 7 q.1 q.2 := fun _ h => absurd h List.not_mem_nil
theorem kq_K_8 : ∀ q ∈ ex_cK.getD 8 [], ex_PK 8 q.1 q.2 := fun _ h => absurd h List.not_mem_nil
theorem kq_K_9 : ∀ q ∈ ex_cK.getD 9 [], ex_PK 9 q.1 q.2 := fun _ h => absurd h List.not_mem_nil
theorem kq_K_10 : ∀ q ∈ ex_cK.getD 10 [], ex_PK 10 q.1 q.2 := fun _ h => absurd h List.not_mem_nil
theorem kt_238 : (Jvm.Cond.constant (ex_Rn 11) 214 (Int32.ofInt 268435456)) ∈ ex_tb := ex_in (i := 1324) (by decide +kernel) (by decide +kernel)
theorem kq_K_11 : ∀ q ∈ ex_cK.getD 11 [], ex_PK 11 q.1 q.2 := List.forall_mem_cons.mpr ⟨kt_238, fun _ h => absurd h List.not_mem_nil⟩
theorem kq_K {c : Nat} (hc : c < 12) : ∀ q ∈ ex_cK.getD c [], ex_PK c q.1 q.2 := by
  match c, hc with
  | 0, _ => exact kq_K_0
  | 1, _ => exact kq_K_1
  | 2, _ => exact kq_K_2
  | 3, _ => exact kq_K_3
  | 4, _ => exact kq_K_4
  | 5, _ => exact kq_K_5
  | 6, _ => exact kq_K_6
  | 7, _ => exact kq_K_7
  | 8, _ => exact kq_K_8
  | 9, _ => exact kq_K_9
  | 10, _ => exact kq_K_10
  | 11, _ => exact kq_K_11
theorem kq_L_0 : ∀ q ∈ ex_cL.getD 0 [], ex_PL 0 q.1 q.2 := fun _ h => absurd h List.not_mem_nil
theorem kq_L_1 : ∀ q ∈ ex_cL.getD 1 [], ex_PL 1 q.1 q.2 := fun _ h => absurd h List.not_mem_nil
theorem kq_L_2 : ∀ q ∈ ex_cL.getD 2 [], ex_PL 2 q.1 q.2 := fun _ h => absurd h List.not_mem_nil
theorem kq_L_3 : ∀ q ∈ ex_cL.getD 3 [], ex_PL 3 q.1 q.2 := fun _ h => absurd h List.not_mem_nil
theorem kq_L_4 : ∀ q ∈ ex_cL.getD 4 [], ex_PL 4 q.1 q.2 := fun _ h => absurd h List.not_mem_nil
theorem kq_L_5 : ∀ q ∈ ex_cL.getD 5 [], ex_PL 5 q.1 q.2 := fun _ h => absurd h List.not_mem_nil
theorem kq_L_6 : ∀ q ∈ ex_cL.getD 6 [], ex_PL 6 q.1 q.2 := fun _ h => absurd h List.not_mem_nil
theorem kq_L_7 : ∀ q ∈ ex_cL.getD 7 [], ex_PL 7 q.1 q.2 := fun _ h => absurd h List.not_mem_nil
theorem kq_L_8 : ∀ q ∈ ex_cL.getD 8 [], ex_PL 8 q.1 q.2 := fun _ h => absurd h List.not_mem_nil
theorem kq_L_9 : ∀ q ∈ ex_cL.getD 9 [], ex_PL 9 q.1 q.2 := fun _ h => absurd h List.not_mem_nil
theorem kt_239 : (Jvm.Cond.constantLong (ex_Rn 10) 272 (Int64.ofInt 521)) ∈ ex_tb := ex_in (i := 992) (by decide +kernel) (by decide +kernel)
theorem kt_240 : (Jvm.Cond.constantLong (ex_Rn 10) 291 (Int64.ofInt 31)) ∈ ex_tb := ex_in (i := 997) (by decide +kernel) (by decide +kernel)
theorem kq_L_10 : ∀ q ∈ ex_cL.getD 10 [], ex_PL 10 q.1 q.2 := List.forall_mem_cons.mpr ⟨kt_239, List.forall_mem_cons.mpr ⟨kt_240, fun _ h => absurd h List.not_mem_nil⟩⟩
theorem kt_241 : (Jvm.Cond.constantLong (ex_Rn 11) 83 (Int64.ofInt 255)) ∈ ex_tb := ex_in (i := 1202) (by decide +kernel) (by decide +kernel)
theorem kt_242 : (Jvm.Cond.constantLong (ex_Rn 11) 365 (Int64.ofInt 31)) ∈ ex_tb := ex_in (i := 1546) (by decide +kernel) (by decide +kernel)
theorem kt_243 : (Jvm.Cond.constantLong (ex_Rn 11) 375 (Int64.ofInt 521)) ∈ ex_tb := ex_in (i := 1537) (by decide +kernel) (by decide +kernel)
theorem kq_L_11 : ∀ q ∈ ex_cL.getD 11 [], ex_PL 11 q.1 q.2 := List.forall_mem_cons.mpr ⟨kt_241, List.forall_mem_cons.mpr ⟨kt_242, List.forall_mem_cons.mpr ⟨kt_243, fun _ h => absurd h List.not_mem_nil⟩⟩⟩
theorem kq_L {c : Nat} (hc : c < 12) : ∀ q ∈ ex_cL.getD c [], ex_PL c q.1 q.2 := by
  match c, hc with
  | 0, _ => exact kq_L_0
  | 1, _ => exact kq_L_1
  | 2, _ => exact kq_L_2
  | 3, _ => exact kq_L_3
  | 4, _ => exact kq_L_4
  | 5, _ => exact kq_L_5
  | 6, _ => exact kq_L_6
  | 7, _ => exact kq_L_7
  | 8, _ => exact kq_L_8
  | 9, _ => exact kq_L_9
  | 10, _ => exact kq_L_10
  | 11, _ => exact kq_L_11
def ex_Pm (y : Nat) : Prop := Jvm.Cond.code (ex_Y y) (ex_B y) (ex_L y) (ex_ret y) ∈ ex_tb ∧ Jvm.Cond.initialized (ex_Y y).cls ∈ ex_tb ∧ (ex_Y y).cls = ex_Rn (ex_C y) ∧ ex_C y < 12 ∧ plainName (ex_Y y).cls = true ∧ ((ex_Y y).cls ≠ "java/lang/invoke/MethodHandle" ∧ (ex_Y y).cls ≠ "java/lang/invoke/VarHandle") ∧ ex_L y ≤ 23
theorem kt_244 : (Jvm.Cond.initialized "BorderThroughBed$Day") ∈ ex_tb := ex_in (i := 102) (by decide +kernel) (by decide +kernel)
theorem kt_245 : (Jvm.Cond.initialized "BorderThroughBed$House") ∈ ex_tb := ex_in (i := 99) (by decide +kernel) (by decide +kernel)
theorem kt_246 : (Jvm.Cond.initialized "BorderThroughBed$HouseText") ∈ ex_tb := ex_in (i := 97) (by decide +kernel) (by decide +kernel)
theorem kt_247 : (Jvm.Cond.initialized "BorderThroughBed$Keeping") ∈ ex_tb := ex_in (i := 103) (by decide +kernel) (by decide +kernel)
theorem kt_248 : (Jvm.Cond.initialized "BorderThroughBed$LawText") ∈ ex_tb := ex_in (i := 98) (by decide +kernel) (by decide +kernel)
theorem kt_249 : (Jvm.Cond.initialized "BorderThroughBed$Laws") ∈ ex_tb := ex_in (i := 100) (by decide +kernel) (by decide +kernel)
theorem kt_250 : (Jvm.Cond.initialized "BorderThroughBed$Mover") ∈ ex_tb := ex_in (i := 104) (by decide +kernel) (by decide +kernel)
theorem kt_251 : (Jvm.Cond.initialized "BorderThroughBed$Page") ∈ ex_tb := ex_in (i := 95) (by decide +kernel) (by decide +kernel)
theorem kt_252 : (Jvm.Cond.initialized "BorderThroughBed$Table") ∈ ex_tb := ex_in (i := 101) (by decide +kernel) (by decide +kernel)
theorem kt_253 : (Jvm.Cond.initialized "BorderThroughBed$Text") ∈ ex_tb := ex_in (i := 96) (by decide +kernel) (by decide +kernel)
theorem kt_254 : (Jvm.Cond.initialized "BorderThroughBed") ∈ ex_tb := ex_in (i := 94) (by decide +kernel) (by decide +kernel)
theorem kt_255 : (Jvm.Cond.initialized "BorderThroughBedModel") ∈ ex_tb := ex_in (i := 105) (by decide +kernel) (by decide +kernel)
theorem kt_256 : (Jvm.Cond.code (ex_Y 0) (ex_B 0) (ex_L 0) (ex_ret 0)) ∈ ex_tb := ex_in (i := 556) (by decide +kernel) (by decide +kernel)
theorem kw_0 : ex_Pm 0 := ⟨kt_256, kt_244, by decide +kernel, by decide +kernel, by decide +kernel, by decide +kernel, by decide +kernel⟩
theorem kt_257 : (Jvm.Cond.code (ex_Y 1) (ex_B 1) (ex_L 1) (ex_ret 1)) ∈ ex_tb := ex_in (i := 972) (by decide +kernel) (by decide +kernel)
theorem kw_1 : ex_Pm 1 := ⟨kt_257, kt_244, by decide +kernel, by decide +kernel, by decide +kernel, by decide +kernel, by decide +kernel⟩
theorem kt_258 : (Jvm.Cond.code (ex_Y 2) (ex_B 2) (ex_L 2) (ex_ret 2)) ∈ ex_tb := ex_in (i := 763) (by decide +kernel) (by decide +kernel)
theorem kw_2 : ex_Pm 2 := ⟨kt_258, kt_244, by decide +kernel, by decide +kernel, by decide +kernel, by decide +kernel, by decide +kernel⟩
theorem kt_259 : (Jvm.Cond.code (ex_Y 3) (ex_B 3) (ex_L 3) (ex_ret 3)) ∈ ex_tb := ex_in (i := 647) (by decide +kernel) (by decide +kernel)
theorem kw_3 : ex_Pm 3 := ⟨kt_259, kt_244, by decide +kernel, by decide +kernel, by decide +kernel, by decide +kernel, by decide +kernel⟩
theorem kt_260 : (Jvm.Cond.code (ex_Y 4) (ex_B 4) (ex_L 4) (ex_ret 4)) ∈ ex_tb := ex_in (i := 656) (by decide +kernel) (by decide +kernel)
theorem kw_4 : ex_Pm 4 := ⟨kt_260, kt_244, by decide +kernel, by decide +kernel, by decide +kernel, by decide +kernel, by decide +kernel⟩
theorem kt_261 : (Jvm.Cond.code (ex_Y 5) (ex_B 5) (ex_L 5) (ex_ret 5)) ∈ ex_tb := ex_in (i := 660) (by decide +kernel) (by decide +kernel)
theorem kw_5 : ex_Pm 5 := ⟨kt_261, kt_244, by decide +kernel, by decide +kernel, by decide +kernel, by decide +kernel, by decide +kernel⟩
theorem kt_262 : (Jvm.Cond.code (ex_Y 6) (ex_B 6) (ex_L 6) (ex_ret 6)) ∈ ex_tb := ex_in (i := 652) (by decide +kernel) (by decide +kernel)
theorem kw_6 : ex_Pm 6 := ⟨kt_262, kt_244, by decide +kernel, by decide +kernel, by decide +kernel, by decide +kernel, by decide +kernel⟩
theorem kt_263 : (Jvm.Cond.code (ex_Y 7) (ex_B 7) (ex_L 7) (ex_ret 7)) ∈ ex_tb := ex_in (i := 787) (by decide +kernel) (by decide +kernel)
theorem kw_7 : ex_Pm 7 := ⟨kt_263, kt_244, by decide +kernel, by decide +kernel, by decide +kernel, by decide +kernel, by decide +kernel⟩
theorem kt_264 : (Jvm.Cond.code (ex_Y 8) (ex_B 8) (ex_L 8) (ex_ret 8)) ∈ ex_tb := ex_in (i := 777) (by decide +kernel) (by decide +kernel)
theorem kw_8 : ex_Pm 8 := ⟨kt_264, kt_244, by decide +kernel, by decide +kernel, by decide +kernel, by decide +kernel, by decide +kernel⟩
theorem kt_265 : (Jvm.Cond.code (ex_Y 9) (ex_B 9) (ex_L 9) (ex_ret 9)) ∈ ex_tb := ex_in (i := 755) (by decide +kernel) (by decide +kernel)
theorem kw_9 : ex_Pm 9 := ⟨kt_265, kt_244, by decide +kernel, by decide +kernel, by decide +kernel, by decide +kernel, by decide +kernel⟩
theorem kt_266 : (Jvm.Cond.code (ex_Y 10) (ex_B 10) (ex_L 10) (ex_ret 10)) ∈ ex_tb := ex_in (i := 642) (by decide +kernel) (by decide +kernel)
theorem kw_10 : ex_Pm 10 := ⟨kt_266, kt_244, by decide +kernel, by decide +kernel, by decide +kernel, by decide +kernel, by decide +kernel⟩
theorem kt_267 : (Jvm.Cond.code (ex_Y 11) (ex_B 11) (ex_L 11) (ex_ret 11)) ∈ ex_tb := ex_in (i := 488) (by decide +kernel) (by decide +kernel)
theorem kw_11 : ex_Pm 11 := ⟨kt_267, kt_245, by decide +kernel, by decide +kernel, by decide +kernel, by decide +kernel, by decide +kernel⟩
theorem kt_268 : (Jvm.Cond.code (ex_Y 12) (ex_B 12) (ex_L 12) (ex_ret 12)) ∈ ex_tb := ex_in (i := 494) (by decide +kernel) (by decide +kernel)
theorem kw_12 : ex_Pm 12 := ⟨kt_268, kt_245, by decide +kernel, by decide +kernel, by decide +kernel, by decide +kernel, by decide +kernel⟩
theorem kt_269 : (Jvm.Cond.code (ex_Y 13) (ex_B 13) (ex_L 13) (ex_ret 13)) ∈ ex_tb := ex_in (i := 499) (by decide +kernel) (by decide +kernel)
theorem kw_13 : ex_Pm 13 := ⟨kt_269, kt_245, by decide +kernel, by decide +kernel, by decide +kernel, by decide +kernel, by decide +kernel⟩
theorem kt_270 : (Jvm.Cond.code (ex_Y 14) (ex_B 14) (ex_L 14) (ex_ret 14)) ∈ ex_tb := ex_in (i := 503) (by decide +kernel) (by decide +kernel)
theorem kw_14 : ex_Pm 14 := ⟨kt_270, kt_245, by decide +kernel, by decide +kernel, by decide +kernel, by decide +kernel, by decide +kernel⟩
theorem kt_271 : (Jvm.Cond.code (ex_Y 15) (ex_B 15) (ex_L 15) (ex_ret 15)) ∈ ex_tb := ex_in (i := 507) (by decide +kernel) (by decide +kernel)
theorem kw_15 : ex_Pm 15 := ⟨kt_271, kt_245, by decide +kernel, by decide +kernel, by decide +kernel, by decide +kernel, by decide +kernel⟩
theorem kt_272 : (Jvm.Cond.code (ex_Y 16) (ex_B 16) (ex_L 16) (ex_ret 16)) ∈ ex_tb := ex_in (i := 515) (by decide +kernel) (by decide +kernel)
theorem kw_16 : ex_Pm 16 := ⟨kt_272, kt_245, by decide +kernel, by decide +kernel, by decide +kernel, by decide +kernel, by decide +kernel⟩
theorem kt_273 : (Jvm.Cond.code (ex_Y 17) (ex_B 17) (ex_L 17) (ex_ret 17)) ∈ ex_tb := ex_in (i := 531) (by decide +kernel) (by decide +kernel)
theorem kw_17 : ex_Pm 17 := ⟨kt_273, kt_245, by decide +kernel, by decide +kernel, by decide +kernel, by decide +kernel, by decide +kernel⟩
theorem kt_274 : (Jvm.Cond.code (ex_Y 18) (ex_B 18) (ex_L 18) (ex_ret 18)) ∈ ex_tb := ex_in (i := 536) (by decide +kernel) (by decide +kernel)
theorem kw_18 : ex_Pm 18 := ⟨kt_274, kt_245, by decide +kernel, by decide +kernel, by decide +kernel, by decide +kernel, by decide +kernel⟩
theorem kt_275 : (Jvm.Cond.code (ex_Y 19) (ex_B 19) (ex_L 19) (ex_ret 19)) ∈ ex_tb := ex_in (i := 734) (by decide +kernel) (by decide +kernel)
theorem kw_19 : ex_Pm 19 := ⟨kt_275, kt_245, by decide +kernel, by decide +kernel, by decide +kernel, by decide +kernel, by decide +kernel⟩
theorem kt_276 : (Jvm.Cond.code (ex_Y 20) (ex_B 20) (ex_L 20) (ex_ret 20)) ∈ ex_tb := ex_in (i := 564) (by decide +kernel) (by decide +kernel)
theorem kw_20 : ex_Pm 20 := ⟨kt_276, kt_245, by decide +kernel, by decide +kernel, by decide +kernel, by decide +kernel, by decide +kernel⟩
theorem kt_277 : (Jvm.Cond.code (ex_Y 21) (ex_B 21) (ex_L 21) (ex_ret 21)) ∈ ex_tb := ex_in (i := 632) (by decide +kernel) (by decide +kernel)
theorem kw_21 : ex_Pm 21 := ⟨kt_277, kt_245, by decide +kernel, by decide +kernel, by decide +kernel, by decide +kernel, by decide +kernel⟩
theorem kt_278 : (Jvm.Cond.code (ex_Y 22) (ex_B 22) (ex_L 22) (ex_ret 22)) ∈ ex_tb := ex_in (i := 523) (by decide +kernel) (by decide +kernel)
theorem kw_22 : ex_Pm 22 := ⟨kt_278, kt_245, by decide +kernel, by decide +kernel, by decide +kernel, by decide +kernel, by decide +kernel⟩
theorem kt_279 : (Jvm.Cond.code (ex_Y 23) (ex_B 23) (ex_L 23) (ex_ret 23)) ∈ ex_tb := ex_in (i := 519) (by decide +kernel) (by decide +kernel)
theorem kw_23 : ex_Pm 23 := ⟨kt_279, kt_245, by decide +kernel, by decide +kernel, by decide +kernel, by decide +kernel, by decide +kernel⟩
theorem kt_280 : (Jvm.Cond.code (ex_Y 24) (ex_B 24) (ex_L 24) (ex_ret 24)) ∈ ex_tb := ex_in (i := 527) (by decide +kernel) (by decide +kernel)
theorem kw_24 : ex_Pm 24 := ⟨kt_280, kt_245, by decide +kernel, by decide +kernel, by decide +kernel, by decide +kernel, by decide +kernel⟩
theorem kt_281 : (Jvm.Cond.code (ex_Y 25) (ex_B 25) (ex_L 25) (ex_ret 25)) ∈ ex_tb := ex_in (i := 552) (by decide +kernel) (by decide +kernel)
theorem kw_25 : ex_Pm 25 := ⟨kt_281, kt_245, by decide +kernel, by decide +kernel, by decide +kernel, by decide +kernel, by decide +kernel⟩
theorem kt_282 : (Jvm.Cond.code (ex_Y 26) (ex_B 26) (ex_L 26) (ex_ret 26)) ∈ ex_tb := ex_in (i := 548) (by decide +kernel) (by decide +kernel)
theorem kw_26 : ex_Pm 26 := ⟨kt_282, kt_245, by decide +kernel, by decide +kernel, by decide +kernel, by decide +kernel, by decide +kernel⟩
theorem kt_283 : (Jvm.Cond.code (ex_Y 27) (ex_B 27) (ex_L 27) (ex_ret 27)) ∈ ex_tb := ex_in (i := 677) (by decide +kernel) (by decide +kernel)
theorem kw_27 : ex_Pm 27 := ⟨kt_283, kt_245, by decide +kernel, by decide +kernel, by decide +kernel, by decide +kernel, by decide +kernel⟩
theorem kt_284 : (Jvm.Cond.code (ex_Y 28) (ex_B 28) (ex_L 28) (ex_ret 28)) ∈ ex_tb := ex_in (i := 668) (by decide +kernel) (by decide +kernel)
theorem kw_28 : ex_Pm 28 := ⟨kt_284, kt_245, by decide +kernel, by decide +kernel, by decide +kernel, by decide +kernel, by decide +kernel⟩
theorem kt_285 : (Jvm.Cond.code (ex_Y 29) (ex_B 29) (ex_L 29) (ex_ret 29)) ∈ ex_tb := ex_in (i := 702) (by decide +kernel) (by decide +kernel)
theorem kw_29 : ex_Pm 29 := ⟨kt_285, kt_245, by decide +kernel, by decide +kernel, by decide +kernel, by decide +kernel, by decide +kernel⟩
theorem kt_286 : (Jvm.Cond.code (ex_Y 30) (ex_B 30) (ex_L 30) (ex_ret 30)) ∈ ex_tb := ex_in (i := 664) (by decide +kernel) (by decide +kernel)
theorem kw_30 : ex_Pm 30 := ⟨kt_286, kt_245, by decide +kernel, by decide +kernel, by decide +kernel, by decide +kernel, by decide +kernel⟩
theorem kt_287 : (Jvm.Cond.code (ex_Y 31) (ex_B 31) (ex_L 31) (ex_ret 31)) ∈ ex_tb := ex_in (i := 925) (by decide +kernel) (by decide +kernel)
theorem kw_31 : ex_Pm 31 := ⟨kt_287, kt_245, by decide +kernel, by decide +kernel, by decide +kernel, by decide +kernel, by decide +kernel⟩
theorem kt_288 : (Jvm.Cond.code (ex_Y 32) (ex_B 32) (ex_L 32) (ex_ret 32)) ∈ ex_tb := ex_in (i := 540) (by decide +kernel) (by decide +kernel)
theorem kw_32 : ex_Pm 32 := ⟨kt_288, kt_245, by decide +kernel, by decide +kernel, by decide +kernel, by decide +kernel, by decide +kernel⟩
theorem kt_289 : (Jvm.Cond.code (ex_Y 33) (ex_B 33) (ex_L 33) (ex_ret 33)) ∈ ex_tb := ex_in (i := 544) (by decide +kernel) (by decide +kernel)
theorem kw_33 : ex_Pm 33 := ⟨kt_289, kt_245, by decide +kernel, by decide +kernel, by decide +kernel, by decide +kernel, by decide +kernel⟩
theorem kt_290 : (Jvm.Cond.code (ex_Y 34) (ex_B 34) (ex_L 34) (ex_ret 34)) ∈ ex_tb := ex_in (i := 404) (by decide +kernel) (by decide +kernel)
theorem kw_34 : ex_Pm 34 := ⟨kt_290, kt_246, by decide +kernel, by decide +kernel, by decide +kernel, by decide +kernel, by decide +kernel⟩
theorem kt_291 : (Jvm.Cond.code (ex_Y 35) (ex_B 35) (ex_L 35) (ex_ret 35)) ∈ ex_tb := ex_in (i := 419) (by decide +kernel) (by decide +kernel)
theorem kw_35 : ex_Pm 35 := ⟨kt_291, kt_246, by decide +kernel, by decide +kernel, by decide +kernel, by decide +kernel, by decide +kernel⟩
theorem kt_292 : (Jvm.Cond.code (ex_Y 36) (ex_B 36) (ex_L 36) (ex_ret 36)) ∈ ex_tb := ex_in (i := 423) (by decide +kernel) (by decide +kernel)
theorem kw_36 : ex_Pm 36 := ⟨kt_292, kt_246, by decide +kernel, by decide +kernel, by decide +kernel, by decide +kernel, by decide +kernel⟩
theorem kt_293 : (Jvm.Cond.code (ex_Y 37) (ex_B 37) (ex_L 37) (ex_ret 37)) ∈ ex_tb := ex_in (i := 427) (by decide +kernel) (by decide +kernel)
theorem kw_37 : ex_Pm 37 := ⟨kt_293, kt_246, by decide +kernel, by decide +kernel, by decide +kernel, by decide +kernel, by decide +kernel⟩
theorem kt_294 : (Jvm.Cond.code (ex_Y 38) (ex_B 38) (ex_L 38) (ex_ret 38)) ∈ ex_tb := ex_in (i := 435) (by decide +kernel) (by decide +kernel)
theorem kw_38 : ex_Pm 38 := ⟨kt_294, kt_246, by decide +kernel, by decide +kernel, by decide +kernel, by decide +kernel, by decide +kernel⟩
theorem kt_295 : (Jvm.Cond.code (ex_Y 39) (ex_B 39) (ex_L 39) (ex_ret 39)) ∈ ex_tb := ex_in (i := 431) (by decide +kernel) (by decide +kernel)
theorem kw_39 : ex_Pm 39 := ⟨kt_295, kt_246, by decide +kernel, by decide +kernel, by decide +kernel, by decide +kernel, by decide +kernel⟩
theorem kt_296 : (Jvm.Cond.code (ex_Y 40) (ex_B 40) (ex_L 40) (ex_ret 40)) ∈ ex_tb := ex_in (i := 481) (by decide +kernel) (by decide +kernel)
theorem kw_40 : ex_Pm 40 := ⟨kt_296, kt_246, by decide +kernel, by decide +kernel, by decide +kernel, by decide +kernel, by decide +kernel⟩
theorem kt_297 : (Jvm.Cond.code (ex_Y 41) (ex_B 41) (ex_L 41) (ex_ret 41)) ∈ ex_tb := ex_in (i := 800) (by decide +kernel) (by decide +kernel)
theorem kw_41 : ex_Pm 41 := ⟨kt_297, kt_247, by decide +kernel, by decide +kernel, by decide +kernel, by decide +kernel, by decide +kernel⟩
theorem kt_298 : (Jvm.Cond.code (ex_Y 42) (ex_B 42) (ex_L 42) (ex_ret 42)) ∈ ex_tb := ex_in (i := 809) (by decide +kernel) (by decide +kernel)
theorem kw_42 : ex_Pm 42 := ⟨kt_298, kt_247, by decide +kernel, by decide +kernel, by decide +kernel, by decide +kernel, by decide +kernel⟩
theorem kt_299 : (Jvm.Cond.code (ex_Y 43) (ex_B 43) (ex_L 43) (ex_ret 43)) ∈ ex_tb := ex_in (i := 816) (by decide +kernel) (by decide +kernel)
theorem kw_43 : ex_Pm 43 := ⟨kt_299, kt_247, by decide +kernel, by decide +kernel, by decide +kernel, by decide +kernel, by decide +kernel⟩
theorem kt_300 : (Jvm.Cond.code (ex_Y 44) (ex_B 44) (ex_L 44) (ex_ret 44)) ∈ ex_tb := ex_in (i := 823) (by decide +kernel) (by decide +kernel)
theorem kw_44 : ex_Pm 44 := ⟨kt_300, kt_247, by decide +kernel, by decide +kernel, by decide +kernel, by decide +kernel, by decide +kernel⟩
theorem kt_301 : (Jvm.Cond.code (ex_Y 45) (ex_B 45) (ex_L 45) (ex_ret 45)) ∈ ex_tb := ex_in (i := 827) (by decide +kernel) (by decide +kernel)
theorem kw_45 : ex_Pm 45 := ⟨kt_301, kt_247, by decide +kernel, by decide +kernel, by decide +kernel, by decide +kernel, by decide +kernel⟩
theorem kt_302 : (Jvm.Cond.code (ex_Y 46) (ex_B 46) (ex_L 46) (ex_ret 46)) ∈ ex_tb := ex_in (i := 884) (by decide +kernel) (by decide +kernel)
theorem kw_46 : ex_Pm 46 := ⟨kt_302, kt_247, by decide +kernel, by decide +kernel, by decide +kernel, by decide +kernel, by decide +kernel⟩
theorem kt_303 : (Jvm.Cond.code (ex_Y 47) (ex_B 47) (ex_L 47) (ex_ret 47)) ∈ ex_tb := ex_in (i := 813) (by decide +kernel) (by decide +kernel)
theorem kw_47 : ex_Pm 47 := ⟨kt_303, kt_247, by decide +kernel, by decide +kernel, by decide +kernel, by decide +kernel, by decide +kernel⟩
theorem kt_304 : (Jvm.Cond.code (ex_Y 48) (ex_B 48) (ex_L 48) (ex_ret 48)) ∈ ex_tb := ex_in (i := 855) (by decide +kernel) (by decide +kernel)
theorem kw_48 : ex_Pm 48 := ⟨kt_304, kt_247, by decide +kernel, by decide +kernel, by decide +kernel, by decide +kernel, by decide +kernel⟩
theorem kt_305 : (Jvm.Cond.code (ex_Y 49) (ex_B 49) (ex_L 49) (ex_ret 49)) ∈ ex_tb := ex_in (i := 867) (by decide +kernel) (by decide +kernel)
theorem kw_49 : ex_Pm 49 := ⟨kt_305, kt_247, by decide +kernel, by decide +kernel, by decide +kernel, by decide +kernel, by decide +kernel⟩
theorem kt_306 : (Jvm.Cond.code (ex_Y 50) (ex_B 50) (ex_L 50) (ex_ret 50)) ∈ ex_tb := ex_in (i := 859) (by decide +kernel) (by decide +kernel)
theorem kw_50 : ex_Pm 50 := ⟨kt_306, kt_247, by decide +kernel, by decide +kernel, by decide +kernel, by decide +kernel, by decide +kernel⟩
theorem kt_307 : (Jvm.Cond.code (ex_Y 51) (ex_B 51) (ex_L 51) (ex_ret 51)) ∈ ex_tb := ex_in (i := 863) (by decide +kernel) (by decide +kernel)
theorem kw_51 : ex_Pm 51 := ⟨kt_307, kt_247, by decide +kernel, by decide +kernel, by decide +kernel, by decide +kernel, by decide +kernel⟩
theorem kt_308 : (Jvm.Cond.code (ex_Y 52) (ex_B 52) (ex_L 52) (ex_ret 52)) ∈ ex_tb := ex_in (i := 897) (by decide +kernel) (by decide +kernel)
theorem kw_52 : ex_Pm 52 := ⟨kt_308, kt_247, by decide +kernel, by decide +kernel, by decide +kernel, by decide +kernel, by decide +kernel⟩
theorem kt_309 : (Jvm.Cond.code (ex_Y 53) (ex_B 53) (ex_L 53) (ex_ret 53)) ∈ ex_tb := ex_in (i := 407) (by decide +kernel) (by decide +kernel)
theorem kw_53 : ex_Pm 53 := ⟨kt_309, kt_248, by decide +kernel, by decide +kernel, by decide +kernel, by decide +kernel, by decide +kernel⟩
theorem kt_310 : (Jvm.Cond.code (ex_Y 54) (ex_B 54) (ex_L 54) (ex_ret 54)) ∈ ex_tb := ex_in (i := 438) (by decide +kernel) (by decide +kernel)
theorem kw_54 : ex_Pm 54 := ⟨kt_310, kt_248, by decide +kernel, by decide +kernel, by decide +kernel, by decide +kernel, by decide +kernel⟩
theorem kt_311 : (Jvm.Cond.code (ex_Y 55) (ex_B 55) (ex_L 55) (ex_ret 55)) ∈ ex_tb := ex_in (i := 442) (by decide +kernel) (by decide +kernel)
theorem kw_55 : ex_Pm 55 := ⟨kt_311, kt_248, by decide +kernel, by decide +kernel, by decide +kernel, by decide +kernel, by decide +kernel⟩
theorem kt_312 : (Jvm.Cond.code (ex_Y 56) (ex_B 56) (ex_L 56) (ex_ret 56)) ∈ ex_tb := ex_in (i := 446) (by decide +kernel) (by decide +kernel)
theorem kw_56 : ex_Pm 56 := ⟨kt_312, kt_248, by decide +kernel, by decide +kernel, by decide +kernel, by decide +kernel, by decide +kernel⟩
theorem kt_313 : (Jvm.Cond.code (ex_Y 57) (ex_B 57) (ex_L 57) (ex_ret 57)) ∈ ex_tb := ex_in (i := 450) (by decide +kernel) (by decide +kernel)
theorem kw_57 : ex_Pm 57 := ⟨kt_313, kt_248, by decide +kernel, by decide +kernel, by decide +kernel, by decide +kernel, by decide +kernel⟩
theorem kt_314 : (Jvm.Cond.code (ex_Y 58) (ex_B 58) (ex_L 58) (ex_ret 58)) ∈ ex_tb := ex_in (i := 458) (by decide +kernel) (by decide +kernel)
theorem kw_58 : ex_Pm 58 := ⟨kt_314, kt_248, by decide +kernel, by decide +kernel, by decide +kernel, by decide +kernel, by decide +kernel⟩
theorem kt_315 : (Jvm.Cond.code (ex_Y 59) (ex_B 59) (ex_L 59) (ex_ret 59)) ∈ ex_tb := ex_in (i := 454) (by decide +kernel) (by decide +kernel)
theorem kw_59 : ex_Pm 59 := ⟨kt_315, kt_248, by decide +kernel, by decide +kernel, by decide +kernel, by decide +kernel, by decide +kernel⟩
theorem kt_316 : (Jvm.Cond.code (ex_Y 60) (ex_B 60) (ex_L 60) (ex_ret 60)) ∈ ex_tb := ex_in (i := 461) (by decide +kernel) (by decide +kernel)
theorem kw_60 : ex_Pm 60 := ⟨kt_316, kt_248, by decide +kernel, by decide +kernel, by decide +kernel, by decide +kernel, by decide +kernel⟩
theorem kt_317 : (Jvm.Cond.code (ex_Y 61) (ex_B 61) (ex_L 61) (ex_ret 61)) ∈ ex_tb := ex_in (i := 484) (by decide +kernel) (by decide +kernel)
theorem kw_61 : ex_Pm 61 := ⟨kt_317, kt_248, by decide +kernel, by decide +kernel, by decide +kernel, by decide +kernel, by decide +kernel⟩
theorem kt_318 : (Jvm.Cond.code (ex_Y 62) (ex_B 62) (ex_L 62) (ex_ret 62)) ∈ ex_tb := ex_in (i := 587) (by decide +kernel) (by decide +kernel)
theorem kw_62 : ex_Pm 62 := ⟨kt_318, kt_248, by decide +kernel, by decide +kernel, by decide +kernel, by decide +kernel, by decide +kernel⟩
theorem kt_319 : (Jvm.Cond.code (ex_Y 63) (ex_B 63) (ex_L 63) (ex_ret 63)) ∈ ex_tb := ex_in (i := 624) (by decide +kernel) (by decide +kernel)
theorem kw_63 : ex_Pm 63 := ⟨kt_319, kt_249, by decide +kernel, by decide +kernel, by decide +kernel, by decide +kernel, by decide +kernel⟩
theorem kt_320 : (Jvm.Cond.code (ex_Y 64) (ex_B 64) (ex_L 64) (ex_ret 64)) ∈ ex_tb := ex_in (i := 605) (by decide +kernel) (by decide +kernel)
theorem kw_64 : ex_Pm 64 := ⟨kt_320, kt_249, by decide +kernel, by decide +kernel, by decide +kernel, by decide +kernel, by decide +kernel⟩
theorem kt_321 : (Jvm.Cond.code (ex_Y 65) (ex_B 65) (ex_L 65) (ex_ret 65)) ∈ ex_tb := ex_in (i := 575) (by decide +kernel) (by decide +kernel)
theorem kw_65 : ex_Pm 65 := ⟨kt_321, kt_249, by decide +kernel, by decide +kernel, by decide +kernel, by decide +kernel, by decide +kernel⟩
theorem kt_322 : (Jvm.Cond.code (ex_Y 66) (ex_B 66) (ex_L 66) (ex_ret 66)) ∈ ex_tb := ex_in (i := 583) (by decide +kernel) (by decide +kernel)
theorem kw_66 : ex_Pm 66 := ⟨kt_322, kt_249, by decide +kernel, by decide +kernel, by decide +kernel, by decide +kernel, by decide +kernel⟩
theorem kt_323 : (Jvm.Cond.code (ex_Y 67) (ex_B 67) (ex_L 67) (ex_ret 67)) ∈ ex_tb := ex_in (i := 613) (by decide +kernel) (by decide +kernel)
theorem kw_67 : ex_Pm 67 := ⟨kt_323, kt_249, by decide +kernel, by decide +kernel, by decide +kernel, by decide +kernel, by decide +kernel⟩
theorem kt_324 : (Jvm.Cond.code (ex_Y 68) (ex_B 68) (ex_L 68) (ex_ret 68)) ∈ ex_tb := ex_in (i := 688) (by decide +kernel) (by decide +kernel)
theorem kw_68 : ex_Pm 68 := ⟨kt_324, kt_249, by decide +kernel, by decide +kernel, by decide +kernel, by decide +kernel, by decide +kernel⟩
theorem kt_325 : (Jvm.Cond.code (ex_Y 69) (ex_B 69) (ex_L 69) (ex_ret 69)) ∈ ex_tb := ex_in (i := 692) (by decide +kernel) (by decide +kernel)
theorem kw_69 : ex_Pm 69 := ⟨kt_325, kt_249, by decide +kernel, by decide +kernel, by decide +kernel, by decide +kernel, by decide +kernel⟩
theorem kt_326 : (Jvm.Cond.code (ex_Y 70) (ex_B 70) (ex_L 70) (ex_ret 70)) ∈ ex_tb := ex_in (i := 696) (by decide +kernel) (by decide +kernel)
theorem kw_70 : ex_Pm 70 := ⟨kt_326, kt_249, by decide +kernel, by decide +kernel, by decide +kernel, by decide +kernel, by decide +kernel⟩
theorem kt_327 : (Jvm.Cond.code (ex_Y 71) (ex_B 71) (ex_L 71) (ex_ret 71)) ∈ ex_tb := ex_in (i := 834) (by decide +kernel) (by decide +kernel)
theorem kw_71 : ex_Pm 71 := ⟨kt_327, kt_250, by decide +kernel, by decide +kernel, by decide +kernel, by decide +kernel, by decide +kernel⟩
theorem kt_328 : (Jvm.Cond.code (ex_Y 72) (ex_B 72) (ex_L 72) (ex_ret 72)) ∈ ex_tb := ex_in (i := 917) (by decide +kernel) (by decide +kernel)
theorem kw_72 : ex_Pm 72 := ⟨kt_328, kt_250, by decide +kernel, by decide +kernel, by decide +kernel, by decide +kernel, by decide +kernel⟩
theorem kt_329 : (Jvm.Cond.code (ex_Y 73) (ex_B 73) (ex_L 73) (ex_ret 73)) ∈ ex_tb := ex_in (i := 876) (by decide +kernel) (by decide +kernel)
theorem kw_73 : ex_Pm 73 := ⟨kt_329, kt_250, by decide +kernel, by decide +kernel, by decide +kernel, by decide +kernel, by decide +kernel⟩
theorem kt_330 : (Jvm.Cond.code (ex_Y 74) (ex_B 74) (ex_L 74) (ex_ret 74)) ∈ ex_tb := ex_in (i := 888) (by decide +kernel) (by decide +kernel)
theorem kw_74 : ex_Pm 74 := ⟨kt_330, kt_250, by decide +kernel, by decide +kernel, by decide +kernel, by decide +kernel, by decide +kernel⟩
theorem kt_331 : (Jvm.Cond.code (ex_Y 75) (ex_B 75) (ex_L 75) (ex_ret 75)) ∈ ex_tb := ex_in (i := 892) (by decide +kernel) (by decide +kernel)
theorem kw_75 : ex_Pm 75 := ⟨kt_331, kt_250, by decide +kernel, by decide +kernel, by decide +kernel, by decide +kernel, by decide +kernel⟩
theorem kt_332 : (Jvm.Cond.code (ex_Y 76) (ex_B 76) (ex_L 76) (ex_ret 76)) ∈ ex_tb := ex_in (i := 901) (by decide +kernel) (by decide +kernel)
theorem kw_76 : ex_Pm 76 := ⟨kt_332, kt_250, by decide +kernel, by decide +kernel, by decide +kernel, by decide +kernel, by decide +kernel⟩
theorem kt_333 : (Jvm.Cond.code (ex_Y 77) (ex_B 77) (ex_L 77) (ex_ret 77)) ∈ ex_tb := ex_in (i := 905) (by decide +kernel) (by decide +kernel)
theorem kw_77 : ex_Pm 77 := ⟨kt_333, kt_250, by decide +kernel, by decide +kernel, by decide +kernel, by decide +kernel, by decide +kernel⟩
theorem kt_334 : (Jvm.Cond.code (ex_Y 78) (ex_B 78) (ex_L 78) (ex_ret 78)) ∈ ex_tb := ex_in (i := 909) (by decide +kernel) (by decide +kernel)
theorem kw_78 : ex_Pm 78 := ⟨kt_334, kt_250, by decide +kernel, by decide +kernel, by decide +kernel, by decide +kernel, by decide +kernel⟩
theorem kt_335 : (Jvm.Cond.code (ex_Y 79) (ex_B 79) (ex_L 79) (ex_ret 79)) ∈ ex_tb := ex_in (i := 913) (by decide +kernel) (by decide +kernel)
theorem kw_79 : ex_Pm 79 := ⟨kt_335, kt_250, by decide +kernel, by decide +kernel, by decide +kernel, by decide +kernel, by decide +kernel⟩
theorem kt_336 : (Jvm.Cond.code (ex_Y 80) (ex_B 80) (ex_L 80) (ex_ret 80)) ∈ ex_tb := ex_in (i := 847) (by decide +kernel) (by decide +kernel)
theorem kw_80 : ex_Pm 80 := ⟨kt_336, kt_250, by decide +kernel, by decide +kernel, by decide +kernel, by decide +kernel, by decide +kernel⟩
theorem kt_337 : (Jvm.Cond.code (ex_Y 81) (ex_B 81) (ex_L 81) (ex_ret 81)) ∈ ex_tb := ex_in (i := 880) (by decide +kernel) (by decide +kernel)
theorem kw_81 : ex_Pm 81 := ⟨kt_337, kt_250, by decide +kernel, by decide +kernel, by decide +kernel, by decide +kernel, by decide +kernel⟩
theorem kt_338 : (Jvm.Cond.code (ex_Y 82) (ex_B 82) (ex_L 82) (ex_ret 82)) ∈ ex_tb := ex_in (i := 843) (by decide +kernel) (by decide +kernel)
theorem kw_82 : ex_Pm 82 := ⟨kt_338, kt_250, by decide +kernel, by decide +kernel, by decide +kernel, by decide +kernel, by decide +kernel⟩
theorem kt_339 : (Jvm.Cond.code (ex_Y 83) (ex_B 83) (ex_L 83) (ex_ret 83)) ∈ ex_tb := ex_in (i := 851) (by decide +kernel) (by decide +kernel)
theorem kw_83 : ex_Pm 83 := ⟨kt_339, kt_250, by decide +kernel, by decide +kernel, by decide +kernel, by decide +kernel, by decide +kernel⟩
theorem kt_340 : (Jvm.Cond.code (ex_Y 84) (ex_B 84) (ex_L 84) (ex_ret 84)) ∈ ex_tb := ex_in (i := 366) (by decide +kernel) (by decide +kernel)
theorem kw_84 : ex_Pm 84 := ⟨kt_340, kt_251, by decide +kernel, by decide +kernel, by decide +kernel, by decide +kernel, by decide +kernel⟩
theorem kt_341 : (Jvm.Cond.code (ex_Y 85) (ex_B 85) (ex_L 85) (ex_ret 85)) ∈ ex_tb := ex_in (i := 369) (by decide +kernel) (by decide +kernel)
theorem kw_85 : ex_Pm 85 := ⟨kt_341, kt_251, by decide +kernel, by decide +kernel, by decide +kernel, by decide +kernel, by decide +kernel⟩
theorem kt_342 : (Jvm.Cond.code (ex_Y 86) (ex_B 86) (ex_L 86) (ex_ret 86)) ∈ ex_tb := ex_in (i := 377) (by decide +kernel) (by decide +kernel)
theorem kw_86 : ex_Pm 86 := ⟨kt_342, kt_251, by decide +kernel, by decide +kernel, by decide +kernel, by decide +kernel, by decide +kernel⟩
theorem kt_343 : (Jvm.Cond.code (ex_Y 87) (ex_B 87) (ex_L 87) (ex_ret 87)) ∈ ex_tb := ex_in (i := 373) (by decide +kernel) (by decide +kernel)
theorem kw_87 : ex_Pm 87 := ⟨kt_343, kt_251, by decide +kernel, by decide +kernel, by decide +kernel, by decide +kernel, by decide +kernel⟩
theorem kt_344 : (Jvm.Cond.code (ex_Y 88) (ex_B 88) (ex_L 88) (ex_ret 88)) ∈ ex_tb := ex_in (i := 412) (by decide +kernel) (by decide +kernel)
theorem kw_88 : ex_Pm 88 := ⟨kt_344, kt_251, by decide +kernel, by decide +kernel, by decide +kernel, by decide +kernel, by decide +kernel⟩
theorem kt_345 : (Jvm.Cond.code (ex_Y 89) (ex_B 89) (ex_L 89) (ex_ret 89)) ∈ ex_tb := ex_in (i := 385) (by decide +kernel) (by decide +kernel)
theorem kw_89 : ex_Pm 89 := ⟨kt_345, kt_251, by decide +kernel, by decide +kernel, by decide +kernel, by decide +kernel, by decide +kernel⟩
theorem kt_346 : (Jvm.Cond.code (ex_Y 90) (ex_B 90) (ex_L 90) (ex_ret 90)) ∈ ex_tb := ex_in (i := 609) (by decide +kernel) (by decide +kernel)
theorem kw_90 : ex_Pm 90 := ⟨kt_346, kt_252, by decide +kernel, by decide +kernel, by decide +kernel, by decide +kernel, by decide +kernel⟩
theorem kt_347 : (Jvm.Cond.code (ex_Y 91) (ex_B 91) (ex_L 91) (ex_ret 91)) ∈ ex_tb := ex_in (i := 579) (by decide +kernel) (by decide +kernel)
theorem kw_91 : ex_Pm 91 := ⟨kt_347, kt_252, by decide +kernel, by decide +kernel, by decide +kernel, by decide +kernel, by decide +kernel⟩
theorem kt_348 : (Jvm.Cond.code (ex_Y 92) (ex_B 92) (ex_L 92) (ex_ret 92)) ∈ ex_tb := ex_in (i := 591) (by decide +kernel) (by decide +kernel)
theorem kw_92 : ex_Pm 92 := ⟨kt_348, kt_252, by decide +kernel, by decide +kernel, by decide +kernel, by decide +kernel, by decide +kernel⟩
theorem kt_349 : (Jvm.Cond.code (ex_Y 93) (ex_B 93) (ex_L 93) (ex_ret 93)) ∈ ex_tb := ex_in (i := 617) (by decide +kernel) (by decide +kernel)
theorem kw_93 : ex_Pm 93 := ⟨kt_349, kt_252, by decide +kernel, by decide +kernel, by decide +kernel, by decide +kernel, by decide +kernel⟩
theorem kt_350 : (Jvm.Cond.code (ex_Y 94) (ex_B 94) (ex_L 94) (ex_ret 94)) ∈ ex_tb := ex_in (i := 596) (by decide +kernel) (by decide +kernel)
theorem kw_94 : ex_Pm 94 := ⟨kt_350, kt_252, by decide +kernel, by decide +kernel, by decide +kernel, by decide +kernel, by decide +kernel⟩
theorem kt_351 : (Jvm.Cond.code (ex_Y 95) (ex_B 95) (ex_L 95) (ex_ret 95)) ∈ ex_tb := ex_in (i := 560) (by decide +kernel) (by decide +kernel)
theorem kw_95 : ex_Pm 95 := ⟨kt_351, kt_252, by decide +kernel, by decide +kernel, by decide +kernel, by decide +kernel, by decide +kernel⟩
theorem kt_352 : (Jvm.Cond.code (ex_Y 96) (ex_B 96) (ex_L 96) (ex_ret 96)) ∈ ex_tb := ex_in (i := 976) (by decide +kernel) (by decide +kernel)
theorem kw_96 : ex_Pm 96 := ⟨kt_352, kt_252, by decide +kernel, by decide +kernel, by decide +kernel, by decide +kernel, by decide +kernel⟩
theorem kt_353 : (Jvm.Cond.code (ex_Y 97) (ex_B 97) (ex_L 97) (ex_ret 97)) ∈ ex_tb := ex_in (i := 398) (by decide +kernel) (by decide +kernel)
theorem kw_97 : ex_Pm 97 := ⟨kt_353, kt_253, by decide +kernel, by decide +kernel, by decide +kernel, by decide +kernel, by decide +kernel⟩
theorem kt_354 : (Jvm.Cond.code (ex_Y 98) (ex_B 98) (ex_L 98) (ex_ret 98)) ∈ ex_tb := ex_in (i := 474) (by decide +kernel) (by decide +kernel)
theorem kw_98 : ex_Pm 98 := ⟨kt_354, kt_253, by decide +kernel, by decide +kernel, by decide +kernel, by decide +kernel, by decide +kernel⟩
theorem kt_355 : (Jvm.Cond.code (ex_Y 99) (ex_B 99) (ex_L 99) (ex_ret 99)) ∈ ex_tb := ex_in (i := 363) (by decide +kernel) (by decide +kernel)
theorem kw_99 : ex_Pm 99 := ⟨kt_355, kt_254, by decide +kernel, by decide +kernel, by decide +kernel, by decide +kernel, by decide +kernel⟩
theorem kt_356 : (Jvm.Cond.code (ex_Y 100) (ex_B 100) (ex_L 100) (ex_ret 100)) ∈ ex_tb := ex_in (i := 381) (by decide +kernel) (by decide +kernel)
theorem kw_100 : ex_Pm 100 := ⟨kt_356, kt_254, by decide +kernel, by decide +kernel, by decide +kernel, by decide +kernel, by decide +kernel⟩
theorem kt_357 : (Jvm.Cond.code (ex_Y 101) (ex_B 101) (ex_L 101) (ex_ret 101)) ∈ ex_tb := ex_in (i := 389) (by decide +kernel) (by decide +kernel)
theorem kw_101 : ex_Pm 101 := ⟨kt_357, kt_254, by decide +kernel, by decide +kernel, by decide +kernel, by decide +kernel, by decide +kernel⟩
theorem kt_358 : (Jvm.Cond.code (ex_Y 102) (ex_B 102) (ex_L 102) (ex_ret 102)) ∈ ex_tb := ex_in (i := 468) (by decide +kernel) (by decide +kernel)
theorem kw_102 : ex_Pm 102 := ⟨kt_358, kt_254, by decide +kernel, by decide +kernel, by decide +kernel, by decide +kernel, by decide +kernel⟩
theorem kt_359 : (Jvm.Cond.code (ex_Y 103) (ex_B 103) (ex_L 103) (ex_ret 103)) ∈ ex_tb := ex_in (i := 568) (by decide +kernel) (by decide +kernel)
theorem kw_103 : ex_Pm 103 := ⟨kt_359, kt_254, by decide +kernel, by decide +kernel, by decide +kernel, by decide +kernel, by decide +kernel⟩
theorem kt_360 : (Jvm.Cond.code (ex_Y 104) (ex_B 104) (ex_L 104) (ex_ret 104)) ∈ ex_tb := ex_in (i := 601) (by decide +kernel) (by decide +kernel)
theorem kw_104 : ex_Pm 104 := ⟨kt_360, kt_254, by decide +kernel, by decide +kernel, by decide +kernel, by decide +kernel, by decide +kernel⟩
theorem kt_361 : (Jvm.Cond.code (ex_Y 105) (ex_B 105) (ex_L 105) (ex_ret 105)) ∈ ex_tb := ex_in (i := 621) (by decide +kernel) (by decide +kernel)
theorem kw_105 : ex_Pm 105 := ⟨kt_361, kt_254, by decide +kernel, by decide +kernel, by decide +kernel, by decide +kernel, by decide +kernel⟩
theorem kt_362 : (Jvm.Cond.code (ex_Y 106) (ex_B 106) (ex_L 106) (ex_ret 106)) ∈ ex_tb := ex_in (i := 628) (by decide +kernel) (by decide +kernel)
theorem kw_106 : ex_Pm 106 := ⟨kt_362, kt_254, by decide +kernel, by decide +kernel, by decide +kernel, by decide +kernel, by decide +kernel⟩
theorem kt_363 : (Jvm.Cond.code (ex_Y 107) (ex_B 107) (ex_L 107) (ex_ret 107)) ∈ ex_tb := ex_in (i := 672) (by decide +kernel) (by decide +kernel)
theorem kw_107 : ex_Pm 107 := ⟨kt_363, kt_254, by decide +kernel, by decide +kernel, by decide +kernel, by decide +kernel, by decide +kernel⟩
theorem kt_364 : (Jvm.Cond.code (ex_Y 108) (ex_B 108) (ex_L 108) (ex_ret 108)) ∈ ex_tb := ex_in (i := 681) (by decide +kernel) (by decide +kernel)
theorem kw_108 : ex_Pm 108 := ⟨kt_364, kt_254, by decide +kernel, by decide +kernel, by decide +kernel, by decide +kernel, by decide +kernel⟩
theorem kt_365 : (Jvm.Cond.code (ex_Y 109) (ex_B 109) (ex_L 109) (ex_ret 109)) ∈ ex_tb := ex_in (i := 707) (by decide +kernel) (by decide +kernel)
theorem kw_109 : ex_Pm 109 := ⟨kt_365, kt_254, by decide +kernel, by decide +kernel, by decide +kernel, by decide +kernel, by decide +kernel⟩
theorem kt_366 : (Jvm.Cond.code (ex_Y 110) (ex_B 110) (ex_L 110) (ex_ret 110)) ∈ ex_tb := ex_in (i := 713) (by decide +kernel) (by decide +kernel)
theorem kw_110 : ex_Pm 110 := ⟨kt_366, kt_254, by decide +kernel, by decide +kernel, by decide +kernel, by decide +kernel, by decide +kernel⟩
theorem kt_367 : (Jvm.Cond.code (ex_Y 111) (ex_B 111) (ex_L 111) (ex_ret 111)) ∈ ex_tb := ex_in (i := 730) (by decide +kernel) (by decide +kernel)
theorem kw_111 : ex_Pm 111 := ⟨kt_367, kt_254, by decide +kernel, by decide +kernel, by decide +kernel, by decide +kernel, by decide +kernel⟩
theorem kt_368 : (Jvm.Cond.code (ex_Y 112) (ex_B 112) (ex_L 112) (ex_ret 112)) ∈ ex_tb := ex_in (i := 742) (by decide +kernel) (by decide +kernel)
theorem kw_112 : ex_Pm 112 := ⟨kt_368, kt_254, by decide +kernel, by decide +kernel, by decide +kernel, by decide +kernel, by decide +kernel⟩
theorem kt_369 : (Jvm.Cond.code (ex_Y 113) (ex_B 113) (ex_L 113) (ex_ret 113)) ∈ ex_tb := ex_in (i := 759) (by decide +kernel) (by decide +kernel)
theorem kw_113 : ex_Pm 113 := ⟨kt_369, kt_254, by decide +kernel, by decide +kernel, by decide +kernel, by decide +kernel, by decide +kernel⟩
theorem kt_370 : (Jvm.Cond.code (ex_Y 114) (ex_B 114) (ex_L 114) (ex_ret 114)) ∈ ex_tb := ex_in (i := 767) (by decide +kernel) (by decide +kernel)
theorem kw_114 : ex_Pm 114 := ⟨kt_370, kt_254, by decide +kernel, by decide +kernel, by decide +kernel, by decide +kernel, by decide +kernel⟩
theorem kt_371 : (Jvm.Cond.code (ex_Y 115) (ex_B 115) (ex_L 115) (ex_ret 115)) ∈ ex_tb := ex_in (i := 782) (by decide +kernel) (by decide +kernel)
theorem kw_115 : ex_Pm 115 := ⟨kt_371, kt_254, by decide +kernel, by decide +kernel, by decide +kernel, by decide +kernel, by decide +kernel⟩
theorem kt_372 : (Jvm.Cond.code (ex_Y 116) (ex_B 116) (ex_L 116) (ex_ret 116)) ∈ ex_tb := ex_in (i := 792) (by decide +kernel) (by decide +kernel)
theorem kw_116 : ex_Pm 116 := ⟨kt_372, kt_254, by decide +kernel, by decide +kernel, by decide +kernel, by decide +kernel, by decide +kernel⟩
theorem kt_373 : (Jvm.Cond.code (ex_Y 117) (ex_B 117) (ex_L 117) (ex_ret 117)) ∈ ex_tb := ex_in (i := 796) (by decide +kernel) (by decide +kernel)
theorem kw_117 : ex_Pm 117 := ⟨kt_373, kt_254, by decide +kernel, by decide +kernel, by decide +kernel, by decide +kernel, by decide +kernel⟩
theorem kt_374 : (Jvm.Cond.code (ex_Y 118) (ex_B 118) (ex_L 118) (ex_ret 118)) ∈ ex_tb := ex_in (i := 872) (by decide +kernel) (by decide +kernel)
theorem kw_118 : ex_Pm 118 := ⟨kt_374, kt_254, by decide +kernel, by decide +kernel, by decide +kernel, by decide +kernel, by decide +kernel⟩
theorem kt_375 : (Jvm.Cond.code (ex_Y 119) (ex_B 119) (ex_L 119) (ex_ret 119)) ∈ ex_tb := ex_in (i := 921) (by decide +kernel) (by decide +kernel)
theorem kw_119 : ex_Pm 119 := ⟨kt_375, kt_254, by decide +kernel, by decide +kernel, by decide +kernel, by decide +kernel, by decide +kernel⟩
theorem kt_376 : (Jvm.Cond.code (ex_Y 120) (ex_B 120) (ex_L 120) (ex_ret 120)) ∈ ex_tb := ex_in (i := 929) (by decide +kernel) (by decide +kernel)
theorem kw_120 : ex_Pm 120 := ⟨kt_376, kt_254, by decide +kernel, by decide +kernel, by decide +kernel, by decide +kernel, by decide +kernel⟩
theorem kt_377 : (Jvm.Cond.code (ex_Y 121) (ex_B 121) (ex_L 121) (ex_ret 121)) ∈ ex_tb := ex_in (i := 933) (by decide +kernel) (by decide +kernel)
theorem kw_121 : ex_Pm 121 := ⟨kt_377, kt_254, by decide +kernel, by decide +kernel, by decide +kernel, by decide +kernel, by decide +kernel⟩
theorem kt_378 : (Jvm.Cond.code (ex_Y 122) (ex_B 122) (ex_L 122) (ex_ret 122)) ∈ ex_tb := ex_in (i := 938) (by decide +kernel) (by decide +kernel)
theorem kw_122 : ex_Pm 122 := ⟨kt_378, kt_254, by decide +kernel, by decide +kernel, by decide +kernel, by decide +kernel, by decide +kernel⟩
theorem kt_379 : (Jvm.Cond.code (ex_Y 123) (ex_B 123) (ex_L 123) (ex_ret 123)) ∈ ex_tb := ex_in (i := 948) (by decide +kernel) (by decide +kernel)
theorem kw_123 : ex_Pm 123 := ⟨kt_379, kt_254, by decide +kernel, by decide +kernel, by decide +kernel, by decide +kernel, by decide +kernel⟩
theorem kt_380 : (Jvm.Cond.code (ex_Y 124) (ex_B 124) (ex_L 124) (ex_ret 124)) ∈ ex_tb := ex_in (i := 952) (by decide +kernel) (by decide +kernel)
theorem kw_124 : ex_Pm 124 := ⟨kt_380, kt_254, by decide +kernel, by decide +kernel, by decide +kernel, by decide +kernel, by decide +kernel⟩
theorem kt_381 : (Jvm.Cond.code (ex_Y 125) (ex_B 125) (ex_L 125) (ex_ret 125)) ∈ ex_tb := ex_in (i := 956) (by decide +kernel) (by decide +kernel)
theorem kw_125 : ex_Pm 125 := ⟨kt_381, kt_254, by decide +kernel, by decide +kernel, by decide +kernel, by decide +kernel, by decide +kernel⟩
theorem kt_382 : (Jvm.Cond.code (ex_Y 126) (ex_B 126) (ex_L 126) (ex_ret 126)) ∈ ex_tb := ex_in (i := 968) (by decide +kernel) (by decide +kernel)
theorem kw_126 : ex_Pm 126 := ⟨kt_382, kt_254, by decide +kernel, by decide +kernel, by decide +kernel, by decide +kernel, by decide +kernel⟩
theorem kt_383 : (Jvm.Cond.code (ex_Y 127) (ex_B 127) (ex_L 127) (ex_ret 127)) ∈ ex_tb := ex_in (i := 983) (by decide +kernel) (by decide +kernel)
theorem kw_127 : ex_Pm 127 := ⟨kt_383, kt_254, by decide +kernel, by decide +kernel, by decide +kernel, by decide +kernel, by decide +kernel⟩
theorem kt_384 : (Jvm.Cond.code (ex_Y 128) (ex_B 128) (ex_L 128) (ex_ret 128)) ∈ ex_tb := ex_in (i := 987) (by decide +kernel) (by decide +kernel)
theorem kw_128 : ex_Pm 128 := ⟨kt_384, kt_254, by decide +kernel, by decide +kernel, by decide +kernel, by decide +kernel, by decide +kernel⟩
theorem kt_385 : (Jvm.Cond.code (ex_Y 129) (ex_B 129) (ex_L 129) (ex_ret 129)) ∈ ex_tb := ex_in (i := 991) (by decide +kernel) (by decide +kernel)
theorem kw_129 : ex_Pm 129 := ⟨kt_385, kt_254, by decide +kernel, by decide +kernel, by decide +kernel, by decide +kernel, by decide +kernel⟩
theorem kt_386 : (Jvm.Cond.code (ex_Y 130) (ex_B 130) (ex_L 130) (ex_ret 130)) ∈ ex_tb := ex_in (i := 392) (by decide +kernel) (by decide +kernel)
theorem kw_130 : ex_Pm 130 := ⟨kt_386, kt_254, by decide +kernel, by decide +kernel, by decide +kernel, by decide +kernel, by decide +kernel⟩
theorem kt_387 : (Jvm.Cond.code (ex_Y 131) (ex_B 131) (ex_L 131) (ex_ret 131)) ∈ ex_tb := ex_in (i := 684) (by decide +kernel) (by decide +kernel)
theorem kw_131 : ex_Pm 131 := ⟨kt_387, kt_254, by decide +kernel, by decide +kernel, by decide +kernel, by decide +kernel, by decide +kernel⟩
theorem kt_388 : (Jvm.Cond.code (ex_Y 132) (ex_B 132) (ex_L 132) (ex_ret 132)) ∈ ex_tb := ex_in (i := 726) (by decide +kernel) (by decide +kernel)
theorem kw_132 : ex_Pm 132 := ⟨kt_388, kt_254, by decide +kernel, by decide +kernel, by decide +kernel, by decide +kernel, by decide +kernel⟩
theorem kt_389 : (Jvm.Cond.code (ex_Y 133) (ex_B 133) (ex_L 133) (ex_ret 133)) ∈ ex_tb := ex_in (i := 746) (by decide +kernel) (by decide +kernel)
theorem kw_133 : ex_Pm 133 := ⟨kt_389, kt_254, by decide +kernel, by decide +kernel, by decide +kernel, by decide +kernel, by decide +kernel⟩
theorem kt_390 : (Jvm.Cond.code (ex_Y 134) (ex_B 134) (ex_L 134) (ex_ret 134)) ∈ ex_tb := ex_in (i := 941) (by decide +kernel) (by decide +kernel)
theorem kw_134 : ex_Pm 134 := ⟨kt_390, kt_254, by decide +kernel, by decide +kernel, by decide +kernel, by decide +kernel, by decide +kernel⟩
theorem kt_391 : (Jvm.Cond.code (ex_Y 135) (ex_B 135) (ex_L 135) (ex_ret 135)) ∈ ex_tb := ex_in (i := 636) (by decide +kernel) (by decide +kernel)
theorem kw_135 : ex_Pm 135 := ⟨kt_391, kt_254, by decide +kernel, by decide +kernel, by decide +kernel, by decide +kernel, by decide +kernel⟩
theorem kt_392 : (Jvm.Cond.code (ex_Y 136) (ex_B 136) (ex_L 136) (ex_ret 136)) ∈ ex_tb := ex_in (i := 771) (by decide +kernel) (by decide +kernel)
theorem kw_136 : ex_Pm 136 := ⟨kt_392, kt_254, by decide +kernel, by decide +kernel, by decide +kernel, by decide +kernel, by decide +kernel⟩
theorem kt_393 : (Jvm.Cond.code (ex_Y 137) (ex_B 137) (ex_L 137) (ex_ret 137)) ∈ ex_tb := ex_in (i := 750) (by decide +kernel) (by decide +kernel)
theorem kw_137 : ex_Pm 137 := ⟨kt_393, kt_254, by decide +kernel, by decide +kernel, by decide +kernel, by decide +kernel, by decide +kernel⟩
theorem kt_394 : (Jvm.Cond.code (ex_Y 138) (ex_B 138) (ex_L 138) (ex_ret 138)) ∈ ex_tb := ex_in (i := 723) (by decide +kernel) (by decide +kernel)
theorem kw_138 : ex_Pm 138 := ⟨kt_394, kt_254, by decide +kernel, by decide +kernel, by decide +kernel, by decide +kernel, by decide +kernel⟩
theorem kt_395 : (Jvm.Cond.code (ex_Y 139) (ex_B 139) (ex_L 139) (ex_ret 139)) ∈ ex_tb := ex_in (i := 717) (by decide +kernel) (by decide +kernel)
theorem kw_139 : ex_Pm 139 := ⟨kt_395, kt_254, by decide +kernel, by decide +kernel, by decide +kernel, by decide +kernel, by decide +kernel⟩
theorem kt_396 : (Jvm.Cond.code (ex_Y 140) (ex_B 140) (ex_L 140) (ex_ret 140)) ∈ ex_tb := ex_in (i := 738) (by decide +kernel) (by decide +kernel)
theorem kw_140 : ex_Pm 140 := ⟨kt_396, kt_254, by decide +kernel, by decide +kernel, by decide +kernel, by decide +kernel, by decide +kernel⟩
theorem kt_397 : (Jvm.Cond.code (ex_Y 141) (ex_B 141) (ex_L 141) (ex_ret 141)) ∈ ex_tb := ex_in (i := 960) (by decide +kernel) (by decide +kernel)
theorem kw_141 : ex_Pm 141 := ⟨kt_397, kt_254, by decide +kernel, by decide +kernel, by decide +kernel, by decide +kernel, by decide +kernel⟩
theorem kt_398 : (Jvm.Cond.code (ex_Y 142) (ex_B 142) (ex_L 142) (ex_ret 142)) ∈ ex_tb := ex_in (i := 964) (by decide +kernel) (by decide +kernel)
theorem kw_142 : ex_Pm 142 := ⟨kt_398, kt_254, by decide +kernel, by decide +kernel, by decide +kernel, by decide +kernel, by decide +kernel⟩
theorem kt_399 : (Jvm.Cond.code (ex_Y 143) (ex_B 143) (ex_L 143) (ex_ret 143)) ∈ ex_tb := ex_in (i := 996) (by decide +kernel) (by decide +kernel)
theorem kw_143 : ex_Pm 143 := ⟨kt_399, kt_254, by decide +kernel, by decide +kernel, by decide +kernel, by decide +kernel, by decide +kernel⟩
theorem kt_400 : (Jvm.Cond.code (ex_Y 144) (ex_B 144) (ex_L 144) (ex_ret 144)) ∈ ex_tb := ex_in (i := 1001) (by decide +kernel) (by decide +kernel)
theorem kw_144 : ex_Pm 144 := ⟨kt_400, kt_254, by decide +kernel, by decide +kernel, by decide +kernel, by decide +kernel, by decide +kernel⟩
theorem kt_401 : (Jvm.Cond.code (ex_Y 145) (ex_B 145) (ex_L 145) (ex_ret 145)) ∈ ex_tb := ex_in (i := 1005) (by decide +kernel) (by decide +kernel)
theorem kw_145 : ex_Pm 145 := ⟨kt_401, kt_254, by decide +kernel, by decide +kernel, by decide +kernel, by decide +kernel, by decide +kernel⟩
theorem kt_402 : (Jvm.Cond.code (ex_Y 146) (ex_B 146) (ex_L 146) (ex_ret 146)) ∈ ex_tb := ex_in (i := 1009) (by decide +kernel) (by decide +kernel)
theorem kw_146 : ex_Pm 146 := ⟨kt_402, kt_254, by decide +kernel, by decide +kernel, by decide +kernel, by decide +kernel, by decide +kernel⟩
theorem kt_403 : (Jvm.Cond.code (ex_Y 147) (ex_B 147) (ex_L 147) (ex_ret 147)) ∈ ex_tb := ex_in (i := 1012) (by decide +kernel) (by decide +kernel)
theorem kw_147 : ex_Pm 147 := ⟨kt_403, kt_254, by decide +kernel, by decide +kernel, by decide +kernel, by decide +kernel, by decide +kernel⟩
theorem kt_404 : (Jvm.Cond.code (ex_Y 148) (ex_B 148) (ex_L 148) (ex_ret 148)) ∈ ex_tb := ex_in (i := 1213) (by decide +kernel) (by decide +kernel)
theorem kw_148 : ex_Pm 148 := ⟨kt_404, kt_255, by decide +kernel, by decide +kernel, by decide +kernel, by decide +kernel, by decide +kernel⟩
theorem kt_405 : (Jvm.Cond.code (ex_Y 149) (ex_B 149) (ex_L 149) (ex_ret 149)) ∈ ex_tb := ex_in (i := 1201) (by decide +kernel) (by decide +kernel)
theorem kw_149 : ex_Pm 149 := ⟨kt_405, kt_255, by decide +kernel, by decide +kernel, by decide +kernel, by decide +kernel, by decide +kernel⟩
theorem kt_406 : (Jvm.Cond.code (ex_Y 150) (ex_B 150) (ex_L 150) (ex_ret 150)) ∈ ex_tb := ex_in (i := 1206) (by decide +kernel) (by decide +kernel)
theorem kw_150 : ex_Pm 150 := ⟨kt_406, kt_255, by decide +kernel, by decide +kernel, by decide +kernel, by decide +kernel, by decide +kernel⟩
theorem kt_407 : (Jvm.Cond.code (ex_Y 151) (ex_B 151) (ex_L 151) (ex_ret 151)) ∈ ex_tb := ex_in (i := 1235) (by decide +kernel) (by decide +kernel)
theorem kw_151 : ex_Pm 151 := ⟨kt_407, kt_255, by decide +kernel, by decide +kernel, by decide +kernel, by decide +kernel, by decide +kernel⟩
theorem kt_408 : (Jvm.Cond.code (ex_Y 152) (ex_B 152) (ex_L 152) (ex_ret 152)) ∈ ex_tb := ex_in (i := 1224) (by decide +kernel) (by decide +kernel)
theorem kw_152 : ex_Pm 152 := ⟨kt_408, kt_255, by decide +kernel, by decide +kernel, by decide +kernel, by decide +kernel, by decide +kernel⟩
theorem kt_409 : (Jvm.Cond.code (ex_Y 153) (ex_B 153) (ex_L 153) (ex_ret 153)) ∈ ex_tb := ex_in (i := 1221) (by decide +kernel) (by decide +kernel)
theorem kw_153 : ex_Pm 153 := ⟨kt_409, kt_255, by decide +kernel, by decide +kernel, by decide +kernel, by decide +kernel, by decide +kernel⟩
theorem kt_410 : (Jvm.Cond.code (ex_Y 154) (ex_B 154) (ex_L 154) (ex_ret 154)) ∈ ex_tb := ex_in (i := 1217) (by decide +kernel) (by decide +kernel)
theorem kw_154 : ex_Pm 154 := ⟨kt_410, kt_255, by decide +kernel, by decide +kernel, by decide +kernel, by decide +kernel, by decide +kernel⟩
theorem kt_411 : (Jvm.Cond.code (ex_Y 155) (ex_B 155) (ex_L 155) (ex_ret 155)) ∈ ex_tb := ex_in (i := 1243) (by decide +kernel) (by decide +kernel)
theorem kw_155 : ex_Pm 155 := ⟨kt_411, kt_255, by decide +kernel, by decide +kernel, by decide +kernel, by decide +kernel, by decide +kernel⟩
theorem kt_412 : (Jvm.Cond.code (ex_Y 156) (ex_B 156) (ex_L 156) (ex_ret 156)) ∈ ex_tb := ex_in (i := 1247) (by decide +kernel) (by decide +kernel)
theorem kw_156 : ex_Pm 156 := ⟨kt_412, kt_255, by decide +kernel, by decide +kernel, by decide +kernel, by decide +kernel, by decide +kernel⟩
theorem kt_413 : (Jvm.Cond.code (ex_Y 157) (ex_B 157) (ex_L 157) (ex_ret 157)) ∈ ex_tb := ex_in (i := 1239) (by decide +kernel) (by decide +kernel)
theorem kw_157 : ex_Pm 157 := ⟨kt_413, kt_255, by decide +kernel, by decide +kernel, by decide +kernel, by decide +kernel, by decide +kernel⟩
theorem kt_414 : (Jvm.Cond.code (ex_Y 158) (ex_B 158) (ex_L 158) (ex_ret 158)) ∈ ex_tb := ex_in (i := 1255) (by decide +kernel) (by decide +kernel)
theorem kw_158 : ex_Pm 158 := ⟨kt_414, kt_255, by decide +kernel, by decide +kernel, by decide +kernel, by decide +kernel, by decide +kernel⟩
theorem kt_415 : (Jvm.Cond.code (ex_Y 159) (ex_B 159) (ex_L 159) (ex_ret 159)) ∈ ex_tb := ex_in (i := 1251) (by decide +kernel) (by decide +kernel)
theorem kw_159 : ex_Pm 159 := ⟨kt_415, kt_255, by decide +kernel, by decide +kernel, by decide +kernel, by decide +kernel, by decide +kernel⟩
theorem kt_416 : (Jvm.Cond.code (ex_Y 160) (ex_B 160) (ex_L 160) (ex_ret 160)) ∈ ex_tb := ex_in (i := 1232) (by decide +kernel) (by decide +kernel)
theorem kw_160 : ex_Pm 160 := ⟨kt_416, kt_255, by decide +kernel, by decide +kernel, by decide +kernel, by decide +kernel, by decide +kernel⟩
theorem kt_417 : (Jvm.Cond.code (ex_Y 161) (ex_B 161) (ex_L 161) (ex_ret 161)) ∈ ex_tb := ex_in (i := 1228) (by decide +kernel) (by decide +kernel)
theorem kw_161 : ex_Pm 161 := ⟨kt_417, kt_255, by decide +kernel, by decide +kernel, by decide +kernel, by decide +kernel, by decide +kernel⟩
theorem kt_418 : (Jvm.Cond.code (ex_Y 162) (ex_B 162) (ex_L 162) (ex_ret 162)) ∈ ex_tb := ex_in (i := 1210) (by decide +kernel) (by decide +kernel)
theorem kw_162 : ex_Pm 162 := ⟨kt_418, kt_255, by decide +kernel, by decide +kernel, by decide +kernel, by decide +kernel, by decide +kernel⟩
theorem kt_419 : (Jvm.Cond.code (ex_Y 163) (ex_B 163) (ex_L 163) (ex_ret 163)) ∈ ex_tb := ex_in (i := 1259) (by decide +kernel) (by decide +kernel)
theorem kw_163 : ex_Pm 163 := ⟨kt_419, kt_255, by decide +kernel, by decide +kernel, by decide +kernel, by decide +kernel, by decide +kernel⟩
theorem kt_420 : (Jvm.Cond.code (ex_Y 164) (ex_B 164) (ex_L 164) (ex_ret 164)) ∈ ex_tb := ex_in (i := 1263) (by decide +kernel) (by decide +kernel)
theorem kw_164 : ex_Pm 164 := ⟨kt_420, kt_255, by decide +kernel, by decide +kernel, by decide +kernel, by decide +kernel, by decide +kernel⟩
theorem kt_421 : (Jvm.Cond.code (ex_Y 165) (ex_B 165) (ex_L 165) (ex_ret 165)) ∈ ex_tb := ex_in (i := 1275) (by decide +kernel) (by decide +kernel)
theorem kw_165 : ex_Pm 165 := ⟨kt_421, kt_255, by decide +kernel, by decide +kernel, by decide +kernel, by decide +kernel, by decide +kernel⟩
theorem kt_422 : (Jvm.Cond.code (ex_Y 166) (ex_B 166) (ex_L 166) (ex_ret 166)) ∈ ex_tb := ex_in (i := 1271) (by decide +kernel) (by decide +kernel)
theorem kw_166 : ex_Pm 166 := ⟨kt_422, kt_255, by decide +kernel, by decide +kernel, by decide +kernel, by decide +kernel, by decide +kernel⟩
theorem kt_423 : (Jvm.Cond.code (ex_Y 167) (ex_B 167) (ex_L 167) (ex_ret 167)) ∈ ex_tb := ex_in (i := 1267) (by decide +kernel) (by decide +kernel)
theorem kw_167 : ex_Pm 167 := ⟨kt_423, kt_255, by decide +kernel, by decide +kernel, by decide +kernel, by decide +kernel, by decide +kernel⟩
theorem kt_424 : (Jvm.Cond.code (ex_Y 168) (ex_B 168) (ex_L 168) (ex_ret 168)) ∈ ex_tb := ex_in (i := 1279) (by decide +kernel) (by decide +kernel)
theorem kw_168 : ex_Pm 168 := ⟨kt_424, kt_255, by decide +kernel, by decide +kernel, by decide +kernel, by decide +kernel, by decide +kernel⟩
theorem kt_425 : (Jvm.Cond.code (ex_Y 169) (ex_B 169) (ex_L 169) (ex_ret 169)) ∈ ex_tb := ex_in (i := 1291) (by decide +kernel) (by decide +kernel)
theorem kw_169 : ex_Pm 169 := ⟨kt_425, kt_255, by decide +kernel, by decide +kernel, by decide +kernel, by decide +kernel, by decide +kernel⟩
theorem kt_426 : (Jvm.Cond.code (ex_Y 170) (ex_B 170) (ex_L 170) (ex_ret 170)) ∈ ex_tb := ex_in (i := 1287) (by decide +kernel) (by decide +kernel)
theorem kw_170 : ex_Pm 170 := ⟨kt_426, kt_255, by decide +kernel, by decide +kernel, by decide +kernel, by decide +kernel, by decide +kernel⟩
theorem kt_427 : (Jvm.Cond.code (ex_Y 171) (ex_B 171) (ex_L 171) (ex_ret 171)) ∈ ex_tb := ex_in (i := 1332) (by decide +kernel) (by decide +kernel)
theorem kw_171 : ex_Pm 171 := ⟨kt_427, kt_255, by decide +kernel, by decide +kernel, by decide +kernel, by decide +kernel, by decide +kernel⟩
theorem kt_428 : (Jvm.Cond.code (ex_Y 172) (ex_B 172) (ex_L 172) (ex_ret 172)) ∈ ex_tb := ex_in (i := 1299) (by decide +kernel) (by decide +kernel)
theorem kw_172 : ex_Pm 172 := ⟨kt_428, kt_255, by decide +kernel, by decide +kernel, by decide +kernel, by decide +kernel, by decide +kernel⟩
theorem kt_429 : (Jvm.Cond.code (ex_Y 173) (ex_B 173) (ex_L 173) (ex_ret 173)) ∈ ex_tb := ex_in (i := 1315) (by decide +kernel) (by decide +kernel)
theorem kw_173 : ex_Pm 173 := ⟨kt_429, kt_255, by decide +kernel, by decide +kernel, by decide +kernel, by decide +kernel, by decide +kernel⟩
theorem kt_430 : (Jvm.Cond.code (ex_Y 174) (ex_B 174) (ex_L 174) (ex_ret 174)) ∈ ex_tb := ex_in (i := 1311) (by decide +kernel) (by decide +kernel)
theorem kw_174 : ex_Pm 174 := ⟨kt_430, kt_255, by decide +kernel, by decide +kernel, by decide +kernel, by decide +kernel, by decide +kernel⟩
theorem kt_431 : (Jvm.Cond.code (ex_Y 175) (ex_B 175) (ex_L 175) (ex_ret 175)) ∈ ex_tb := ex_in (i := 1307) (by decide +kernel) (by decide +kernel)
theorem kw_175 : ex_Pm 175 := ⟨kt_431, kt_255, by decide +kernel, by decide +kernel, by decide +kernel, by decide +kernel, by decide +kernel⟩
theorem kt_432 : (Jvm.Cond.code (ex_Y 176) (ex_B 176) (ex_L 176) (ex_ret 176)) ∈ ex_tb := ex_in (i := 1303) (by decide +kernel) (by decide +kernel)
theorem kw_176 : ex_Pm 176 := ⟨kt_432, kt_255, by decide +kernel, by decide +kernel, by decide +kernel, by decide +kernel, by decide +kernel⟩
theorem kt_433 : (Jvm.Cond.code (ex_Y 177) (ex_B 177) (ex_L 177) (ex_ret 177)) ∈ ex_tb := ex_in (i := 1323) (by decide +kernel) (by decide +kernel)
theorem kw_177 : ex_Pm 177 := ⟨kt_433, kt_255, by decide +kernel, by decide +kernel, by decide +kernel, by decide +kernel, by decide +kernel⟩
theorem kt_434 : (Jvm.Cond.code (ex_Y 178) (ex_B 178) (ex_L 178) (ex_ret 178)) ∈ ex_tb := ex_in (i := 1319) (by decide +kernel) (by decide +kernel)
theorem kw_178 : ex_Pm 178 := ⟨kt_434, kt_255, by decide +kernel, by decide +kernel, by decide +kernel, by decide +kernel, by decide +kernel⟩
theorem kt_435 : (Jvm.Cond.code (ex_Y 179) (ex_B 179) (ex_L 179) (ex_ret 179)) ∈ ex_tb := ex_in (i := 1295) (by decide +kernel) (by decide +kernel)
theorem kw_179 : ex_Pm 179 := ⟨kt_435, kt_255, by decide +kernel, by decide +kernel, by decide +kernel, by decide +kernel, by decide +kernel⟩
theorem kt_436 : (Jvm.Cond.code (ex_Y 180) (ex_B 180) (ex_L 180) (ex_ret 180)) ∈ ex_tb := ex_in (i := 1283) (by decide +kernel) (by decide +kernel)
theorem kw_180 : ex_Pm 180 := ⟨kt_436, kt_255, by decide +kernel, by decide +kernel, by decide +kernel, by decide +kernel, by decide +kernel⟩
theorem kt_437 : (Jvm.Cond.code (ex_Y 181) (ex_B 181) (ex_L 181) (ex_ret 181)) ∈ ex_tb := ex_in (i := 1339) (by decide +kernel) (by decide +kernel)
theorem kw_181 : ex_Pm 181 := ⟨kt_437, kt_255, by decide +kernel, by decide +kernel, by decide +kernel, by decide +kernel, by decide +kernel⟩
theorem kt_438 : (Jvm.Cond.code (ex_Y 182) (ex_B 182) (ex_L 182) (ex_ret 182)) ∈ ex_tb := ex_in (i := 1335) (by decide +kernel) (by decide +kernel)
theorem kw_182 : ex_Pm 182 := ⟨kt_438, kt_255, by decide +kernel, by decide +kernel, by decide +kernel, by decide +kernel, by decide +kernel⟩
theorem kt_439 : (Jvm.Cond.code (ex_Y 183) (ex_B 183) (ex_L 183) (ex_ret 183)) ∈ ex_tb := ex_in (i := 1328) (by decide +kernel) (by decide +kernel)
theorem kw_183 : ex_Pm 183 := ⟨kt_439, kt_255, by decide +kernel, by decide +kernel, by decide +kernel, by decide +kernel, by decide +kernel⟩
theorem kt_440 : (Jvm.Cond.code (ex_Y 184) (ex_B 184) (ex_L 184) (ex_ret 184)) ∈ ex_tb := ex_in (i := 1354) (by decide +kernel) (by decide +kernel)
theorem kw_184 : ex_Pm 184 := ⟨kt_440, kt_255, by decide +kernel, by decide +kernel, by decide +kernel, by decide +kernel, by decide +kernel⟩
theorem kt_441 : (Jvm.Cond.code (ex_Y 185) (ex_B 185) (ex_L 185) (ex_ret 185)) ∈ ex_tb := ex_in (i := 1358) (by decide +kernel) (by decide +kernel)
theorem kw_185 : ex_Pm 185 := ⟨kt_441, kt_255, by decide +kernel, by decide +kernel, by decide +kernel, by decide +kernel, by decide +kernel⟩
theorem kt_442 : (Jvm.Cond.code (ex_Y 186) (ex_B 186) (ex_L 186) (ex_ret 186)) ∈ ex_tb := ex_in (i := 1350) (by decide +kernel) (by decide +kernel)
theorem kw_186 : ex_Pm 186 := ⟨kt_442, kt_255, by decide +kernel, by decide +kernel, by decide +kernel, by decide +kernel, by decide +kernel⟩
theorem kt_443 : (Jvm.Cond.code (ex_Y 187) (ex_B 187) (ex_L 187) (ex_ret 187)) ∈ ex_tb := ex_in (i := 1346) (by decide +kernel) (by decide +kernel)
theorem kw_187 : ex_Pm 187 := ⟨kt_443, kt_255, by decide +kernel, by decide +kernel, by decide +kernel, by decide +kernel, by decide +kernel⟩
theorem kt_444 : (Jvm.Cond.code (ex_Y 188) (ex_B 188) (ex_L 188) (ex_ret 188)) ∈ ex_tb := ex_in (i := 1343) (by decide +kernel) (by decide +kernel)
theorem kw_188 : ex_Pm 188 := ⟨kt_444, kt_255, by decide +kernel, by decide +kernel, by decide +kernel, by decide +kernel, by decide +kernel⟩
theorem kt_445 : (Jvm.Cond.code (ex_Y 189) (ex_B 189) (ex_L 189) (ex_ret 189)) ∈ ex_tb := ex_in (i := 1362) (by decide +kernel) (by decide +kernel)
theorem kw_189 : ex_Pm 189 := ⟨kt_445, kt_255, by decide +kernel, by decide +kernel, by decide +kernel, by decide +kernel, by decide +kernel⟩
theorem kt_446 : (Jvm.Cond.code (ex_Y 190) (ex_B 190) (ex_L 190) (ex_ret 190)) ∈ ex_tb := ex_in (i := 1370) (by decide +kernel) (by decide +kernel)
theorem kw_190 : ex_Pm 190 := ⟨kt_446, kt_255, by decide +kernel, by decide +kernel, by decide +kernel, by decide +kernel, by decide +kernel⟩
theorem kt_447 : (Jvm.Cond.code (ex_Y 191) (ex_B 191) (ex_L 191) (ex_ret 191)) ∈ ex_tb := ex_in (i := 1373) (by decide +kernel) (by decide +kernel)
theorem kw_191 : ex_Pm 191 := ⟨kt_447, kt_255, by decide +kernel, by decide +kernel, by decide +kernel, by decide +kernel, by decide +kernel⟩
theorem kt_448 : (Jvm.Cond.code (ex_Y 192) (ex_B 192) (ex_L 192) (ex_ret 192)) ∈ ex_tb := ex_in (i := 1366) (by decide +kernel) (by decide +kernel)
theorem kw_192 : ex_Pm 192 := ⟨kt_448, kt_255, by decide +kernel, by decide +kernel, by decide +kernel, by decide +kernel, by decide +kernel⟩
theorem kt_449 : (Jvm.Cond.code (ex_Y 193) (ex_B 193) (ex_L 193) (ex_ret 193)) ∈ ex_tb := ex_in (i := 1377) (by decide +kernel) (by decide +kernel)
theorem kw_193 : ex_Pm 193 := ⟨kt_449, kt_255, by decide +kernel, by decide +kernel, by decide +kernel, by decide +kernel, by decide +kernel⟩
theorem kt_450 : (Jvm.Cond.code (ex_Y 194) (ex_B 194) (ex_L 194) (ex_ret 194)) ∈ ex_tb := ex_in (i := 1385) (by decide +kernel) (by decide +kernel)
theorem kw_194 : ex_Pm 194 := ⟨kt_450, kt_255, by decide +kernel, by decide +kernel, by decide +kernel, by decide +kernel, by decide +kernel⟩
theorem kt_451 : (Jvm.Cond.code (ex_Y 195) (ex_B 195) (ex_L 195) (ex_ret 195)) ∈ ex_tb := ex_in (i := 1396) (by decide +kernel) (by decide +kernel)
theorem kw_195 : ex_Pm 195 := ⟨kt_451, kt_255, by decide +kernel, by decide +kernel, by decide +kernel, by decide +kernel, by decide +kernel⟩
theorem kt_452 : (Jvm.Cond.code (ex_Y 196) (ex_B 196) (ex_L 196) (ex_ret 196)) ∈ ex_tb := ex_in (i := 1408) (by decide +kernel) (by decide +kernel)
theorem kw_196 : ex_Pm 196 := ⟨kt_452, kt_255, by decide +kernel, by decide +kernel, by decide +kernel, by decide +kernel, by decide +kernel⟩
theorem kt_453 : (Jvm.Cond.code (ex_Y 197) (ex_B 197) (ex_L 197) (ex_ret 197)) ∈ ex_tb := ex_in (i := 1404) (by decide +kernel) (by decide +kernel)
theorem kw_197 : ex_Pm 197 := ⟨kt_453, kt_255, by decide +kernel, by decide +kernel, by decide +kernel, by decide +kernel, by decide +kernel⟩
theorem kt_454 : (Jvm.Cond.code (ex_Y 198) (ex_B 198) (ex_L 198) (ex_ret 198)) ∈ ex_tb := ex_in (i := 1400) (by decide +kernel) (by decide +kernel)
theorem kw_198 : ex_Pm 198 := ⟨kt_454, kt_255, by decide +kernel, by decide +kernel, by decide +kernel, by decide +kernel, by decide +kernel⟩
theorem kt_455 : (Jvm.Cond.code (ex_Y 199) (ex_B 199) (ex_L 199) (ex_ret 199)) ∈ ex_tb := ex_in (i := 1388) (by decide +kernel) (by decide +kernel)
theorem kw_199 : ex_Pm 199 := ⟨kt_455, kt_255, by decide +kernel, by decide +kernel, by decide +kernel, by decide +kernel, by decide +kernel⟩
theorem kt_456 : (Jvm.Cond.code (ex_Y 200) (ex_B 200) (ex_L 200) (ex_ret 200)) ∈ ex_tb := ex_in (i := 1381) (by decide +kernel) (by decide +kernel)
theorem kw_200 : ex_Pm 200 := ⟨kt_456, kt_255, by decide +kernel, by decide +kernel, by decide +kernel, by decide +kernel, by decide +kernel⟩
theorem kt_457 : (Jvm.Cond.code (ex_Y 201) (ex_B 201) (ex_L 201) (ex_ret 201)) ∈ ex_tb := ex_in (i := 1392) (by decide +kernel) (by decide +kernel)
theorem kw_201 : ex_Pm 201 := ⟨kt_457, kt_255, by decide +kernel, by decide +kernel, by decide +kernel, by decide +kernel, by decide +kernel⟩
theorem kt_458 : (Jvm.Cond.code (ex_Y 202) (ex_B 202) (ex_L 202) (ex_ret 202)) ∈ ex_tb := ex_in (i := 1416) (by decide +kernel) (by decide +kernel)
theorem kw_202 : ex_Pm 202 := ⟨kt_458, kt_255, by decide +kernel, by decide +kernel, by decide +kernel, by decide +kernel, by decide +kernel⟩
theorem kt_459 : (Jvm.Cond.code (ex_Y 203) (ex_B 203) (ex_L 203) (ex_ret 203)) ∈ ex_tb := ex_in (i := 1412) (by decide +kernel) (by decide +kernel)
theorem kw_203 : ex_Pm 203 := ⟨kt_459, kt_255, by decide +kernel, by decide +kernel, by decide +kernel, by decide +kernel, by decide +kernel⟩
theorem kt_460 : (Jvm.Cond.code (ex_Y 204) (ex_B 204) (ex_L 204) (ex_ret 204)) ∈ ex_tb := ex_in (i := 1424) (by decide +kernel) (by decide +kernel)
theorem kw_204 : ex_Pm 204 := ⟨kt_460, kt_255, by decide +kernel, by decide +kernel, by decide +kernel, by decide +kernel, by decide +kernel⟩
theorem kt_461 : (Jvm.Cond.code (ex_Y 205) (ex_B 205) (ex_L 205) (ex_ret 205)) ∈ ex_tb := ex_in (i := 1420) (by decide +kernel) (by decide +kernel)
theorem kw_205 : ex_Pm 205 := ⟨kt_461, kt_255, by decide +kernel, by decide +kernel, by decide +kernel, by decide +kernel, by decide +kernel⟩
theorem kt_462 : (Jvm.Cond.code (ex_Y 206) (ex_B 206) (ex_L 206) (ex_ret 206)) ∈ ex_tb := ex_in (i := 1428) (by decide +kernel) (by decide +kernel)
theorem kw_206 : ex_Pm 206 := ⟨kt_462, kt_255, by decide +kernel, by decide +kernel, by decide +kernel, by decide +kernel, by decide +kernel⟩
theorem kt_463 : (Jvm.Cond.code (ex_Y 207) (ex_B 207) (ex_L 207) (ex_ret 207)) ∈ ex_tb := ex_in (i := 1432) (by decide +kernel) (by decide +kernel)
theorem kw_207 : ex_Pm 207 := ⟨kt_463, kt_255, by decide +kernel, by decide +kernel, by decide +kernel, by decide +kernel, by decide +kernel⟩
theorem kt_464 : (Jvm.Cond.code (ex_Y 208) (ex_B 208) (ex_L 208) (ex_ret 208)) ∈ ex_tb := ex_in (i := 1448) (by decide +kernel) (by decide +kernel)
theorem kw_208 : ex_Pm 208 := ⟨kt_464, kt_255, by decide +kernel, by decide +kernel, by decide +kernel, by decide +kernel, by decide +kernel⟩
theorem kt_465 : (Jvm.Cond.code (ex_Y 209) (ex_B 209) (ex_L 209) (ex_ret 209)) ∈ ex_tb := ex_in (i := 1452) (by decide +kernel) (by decide +kernel)
theorem kw_209 : ex_Pm 209 := ⟨kt_465, kt_255, by decide +kernel, by decide +kernel, by decide +kernel, by decide +kernel, by decide +kernel⟩
theorem kt_466 : (Jvm.Cond.code (ex_Y 210) (ex_B 210) (ex_L 210) (ex_ret 210)) ∈ ex_tb := ex_in (i := 1456) (by decide +kernel) (by decide +kernel)
theorem kw_210 : ex_Pm 210 := ⟨kt_466, kt_255, by decide +kernel, by decide +kernel, by decide +kernel, by decide +kernel, by decide +kernel⟩
theorem kt_467 : (Jvm.Cond.code (ex_Y 211) (ex_B 211) (ex_L 211) (ex_ret 211)) ∈ ex_tb := ex_in (i := 1444) (by decide +kernel) (by decide +kernel)
theorem kw_211 : ex_Pm 211 := ⟨kt_467, kt_255, by decide +kernel, by decide +kernel, by decide +kernel, by decide +kernel, by decide +kernel⟩
theorem kt_468 : (Jvm.Cond.code (ex_Y 212) (ex_B 212) (ex_L 212) (ex_ret 212)) ∈ ex_tb := ex_in (i := 1440) (by decide +kernel) (by decide +kernel)
theorem kw_212 : ex_Pm 212 := ⟨kt_468, kt_255, by decide +kernel, by decide +kernel, by decide +kernel, by decide +kernel, by decide +kernel⟩
theorem kt_469 : (Jvm.Cond.code (ex_Y 213) (ex_B 213) (ex_L 213) (ex_ret 213)) ∈ ex_tb := ex_in (i := 1436) (by decide +kernel) (by decide +kernel)
theorem kw_213 : ex_Pm 213 := ⟨kt_469, kt_255, by decide +kernel, by decide +kernel, by decide +kernel, by decide +kernel, by decide +kernel⟩
theorem kt_470 : (Jvm.Cond.code (ex_Y 214) (ex_B 214) (ex_L 214) (ex_ret 214)) ∈ ex_tb := ex_in (i := 1468) (by decide +kernel) (by decide +kernel)
theorem kw_214 : ex_Pm 214 := ⟨kt_470, kt_255, by decide +kernel, by decide +kernel, by decide +kernel, by decide +kernel, by decide +kernel⟩
theorem kt_471 : (Jvm.Cond.code (ex_Y 215) (ex_B 215) (ex_L 215) (ex_ret 215)) ∈ ex_tb := ex_in (i := 1476) (by decide +kernel) (by decide +kernel)
theorem kw_215 : ex_Pm 215 := ⟨kt_471, kt_255, by decide +kernel, by decide +kernel, by decide +kernel, by decide +kernel, by decide +kernel⟩
theorem kt_472 : (Jvm.Cond.code (ex_Y 216) (ex_B 216) (ex_L 216) (ex_ret 216)) ∈ ex_tb := ex_in (i := 1472) (by decide +kernel) (by decide +kernel)
theorem kw_216 : ex_Pm 216 := ⟨kt_472, kt_255, by decide +kernel, by decide +kernel, by decide +kernel, by decide +kernel, by decide +kernel⟩
theorem kt_473 : (Jvm.Cond.code (ex_Y 217) (ex_B 217) (ex_L 217) (ex_ret 217)) ∈ ex_tb := ex_in (i := 1484) (by decide +kernel) (by decide +kernel)
theorem kw_217 : ex_Pm 217 := ⟨kt_473, kt_255, by decide +kernel, by decide +kernel, by decide +kernel, by decide +kernel, by decide +kernel⟩
theorem kt_474 : (Jvm.Cond.code (ex_Y 218) (ex_B 218) (ex_L 218) (ex_ret 218)) ∈ ex_tb := ex_in (i := 1480) (by decide +kernel) (by decide +kernel)
theorem kw_218 : ex_Pm 218 := ⟨kt_474, kt_255, by decide +kernel, by decide +kernel, by decide +kernel, by decide +kernel, by decide +kernel⟩
theorem kt_475 : (Jvm.Cond.code (ex_Y 219) (ex_B 219) (ex_L 219) (ex_ret 219)) ∈ ex_tb := ex_in (i := 1464) (by decide +kernel) (by decide +kernel)
theorem kw_219 : ex_Pm 219 := ⟨kt_475, kt_255, by decide +kernel, by decide +kernel, by decide +kernel, by decide +kernel, by decide +kernel⟩
theorem kt_476 : (Jvm.Cond.code (ex_Y 220) (ex_B 220) (ex_L 220) (ex_ret 220)) ∈ ex_tb := ex_in (i := 1460) (by decide +kernel) (by decide +kernel)
theorem kw_220 : ex_Pm 220 := ⟨kt_476, kt_255, by decide +kernel, by decide +kernel, by decide +kernel, by decide +kernel, by decide +kernel⟩
theorem kt_477 : (Jvm.Cond.code (ex_Y 221) (ex_B 221) (ex_L 221) (ex_ret 221)) ∈ ex_tb := ex_in (i := 1488) (by decide +kernel) (by decide +kernel)
theorem kw_221 : ex_Pm 221 := ⟨kt_477, kt_255, by decide +kernel, by decide +kernel, by decide +kernel, by decide +kernel, by decide +kernel⟩
theorem kt_478 : (Jvm.Cond.code (ex_Y 222) (ex_B 222) (ex_L 222) (ex_ret 222)) ∈ ex_tb := ex_in (i := 1492) (by decide +kernel) (by decide +kernel)
theorem kw_222 : ex_Pm 222 := ⟨kt_478, kt_255, by decide +kernel, by decide +kernel, by decide +kernel, by decide +kernel, by decide +kernel⟩
theorem kt_479 : (Jvm.Cond.code (ex_Y 223) (ex_B 223) (ex_L 223) (ex_ret 223)) ∈ ex_tb := ex_in (i := 1496) (by decide +kernel) (by decide +kernel)
theorem kw_223 : ex_Pm 223 := ⟨kt_479, kt_255, by decide +kernel, by decide +kernel, by decide +kernel, by decide +kernel, by decide +kernel⟩
theorem kt_480 : (Jvm.Cond.code (ex_Y 224) (ex_B 224) (ex_L 224) (ex_ret 224)) ∈ ex_tb := ex_in (i := 1500) (by decide +kernel) (by decide +kernel)
theorem kw_224 : ex_Pm 224 := ⟨kt_480, kt_255, by decide +kernel, by decide +kernel, by decide +kernel, by decide +kernel, by decide +kernel⟩
theorem kt_481 : (Jvm.Cond.code (ex_Y 225) (ex_B 225) (ex_L 225) (ex_ret 225)) ∈ ex_tb := ex_in (i := 1504) (by decide +kernel) (by decide +kernel)
theorem kw_225 : ex_Pm 225 := ⟨kt_481, kt_255, by decide +kernel, by decide +kernel, by decide +kernel, by decide +kernel, by decide +kernel⟩
theorem kt_482 : (Jvm.Cond.code (ex_Y 226) (ex_B 226) (ex_L 226) (ex_ret 226)) ∈ ex_tb := ex_in (i := 1508) (by decide +kernel) (by decide +kernel)
theorem kw_226 : ex_Pm 226 := ⟨kt_482, kt_255, by decide +kernel, by decide +kernel, by decide +kernel, by decide +kernel, by decide +kernel⟩
theorem kt_483 : (Jvm.Cond.code (ex_Y 227) (ex_B 227) (ex_L 227) (ex_ret 227)) ∈ ex_tb := ex_in (i := 1516) (by decide +kernel) (by decide +kernel)
theorem kw_227 : ex_Pm 227 := ⟨kt_483, kt_255, by decide +kernel, by decide +kernel, by decide +kernel, by decide +kernel, by decide +kernel⟩
theorem kt_484 : (Jvm.Cond.code (ex_Y 228) (ex_B 228) (ex_L 228) (ex_ret 228)) ∈ ex_tb := ex_in (i := 1512) (by decide +kernel) (by decide +kernel)
theorem kw_228 : ex_Pm 228 := ⟨kt_484, kt_255, by decide +kernel, by decide +kernel, by decide +kernel, by decide +kernel, by decide +kernel⟩
theorem kt_485 : (Jvm.Cond.code (ex_Y 229) (ex_B 229) (ex_L 229) (ex_ret 229)) ∈ ex_tb := ex_in (i := 1520) (by decide +kernel) (by decide +kernel)
theorem kw_229 : ex_Pm 229 := ⟨kt_485, kt_255, by decide +kernel, by decide +kernel, by decide +kernel, by decide +kernel, by decide +kernel⟩
theorem kt_486 : (Jvm.Cond.code (ex_Y 230) (ex_B 230) (ex_L 230) (ex_ret 230)) ∈ ex_tb := ex_in (i := 1524) (by decide +kernel) (by decide +kernel)
theorem kw_230 : ex_Pm 230 := ⟨kt_486, kt_255, by decide +kernel, by decide +kernel, by decide +kernel, by decide +kernel, by decide +kernel⟩
theorem kt_487 : (Jvm.Cond.code (ex_Y 231) (ex_B 231) (ex_L 231) (ex_ret 231)) ∈ ex_tb := ex_in (i := 1532) (by decide +kernel) (by decide +kernel)
theorem kw_231 : ex_Pm 231 := ⟨kt_487, kt_255, by decide +kernel, by decide +kernel, by decide +kernel, by decide +kernel, by decide +kernel⟩
theorem kt_488 : (Jvm.Cond.code (ex_Y 232) (ex_B 232) (ex_L 232) (ex_ret 232)) ∈ ex_tb := ex_in (i := 1528) (by decide +kernel) (by decide +kernel)
theorem kw_232 : ex_Pm 232 := ⟨kt_488, kt_255, by decide +kernel, by decide +kernel, by decide +kernel, by decide +kernel, by decide +kernel⟩
theorem kt_489 : (Jvm.Cond.code (ex_Y 233) (ex_B 233) (ex_L 233) (ex_ret 233)) ∈ ex_tb := ex_in (i := 1545) (by decide +kernel) (by decide +kernel)
theorem kw_233 : ex_Pm 233 := ⟨kt_489, kt_255, by decide +kernel, by decide +kernel, by decide +kernel, by decide +kernel, by decide +kernel⟩
theorem kt_490 : (Jvm.Cond.code (ex_Y 234) (ex_B 234) (ex_L 234) (ex_ret 234)) ∈ ex_tb := ex_in (i := 1541) (by decide +kernel) (by decide +kernel)
theorem kw_234 : ex_Pm 234 := ⟨kt_490, kt_255, by decide +kernel, by decide +kernel, by decide +kernel, by decide +kernel, by decide +kernel⟩
theorem kt_491 : (Jvm.Cond.code (ex_Y 235) (ex_B 235) (ex_L 235) (ex_ret 235)) ∈ ex_tb := ex_in (i := 1536) (by decide +kernel) (by decide +kernel)
theorem kw_235 : ex_Pm 235 := ⟨kt_491, kt_255, by decide +kernel, by decide +kernel, by decide +kernel, by decide +kernel, by decide +kernel⟩
theorem kw_all {y : Nat} (hy : y < 236) : ex_Pm y := by
  rcases Nat.eq_or_lt_of_le (show 0 ≤ y from Nat.zero_le y) with h | h0
  · subst h; exact kw_0
  rcases Nat.eq_or_lt_of_le (show 1 ≤ y from h0) with h | h1
  · subst h; exact kw_1
  rcases Nat.eq_or_lt_of_le (show 2 ≤ y from h1) with h | h2
  · subst h; exact kw_2
  rcases Nat.eq_or_lt_of_le (show 3 ≤ y from h2) with h | h3
  · subst h; exact kw_3
  rcases Nat.eq_or_lt_of_le (show 4 ≤ y from h3) with h | h4
  · subst h; exact kw_4
  rcases Nat.eq_or_lt_of_le (show 5 ≤ y from h4) with h | h5
  · subst h; exact kw_5
  rcases Nat.eq_or_lt_of_le (show 6 ≤ y from h5) with h | h6
  · subst h; exact kw_6
  rcases Nat.eq_or_lt_of_le (show 7 ≤ y from h6) with h | h7
  · subst h; exact kw_7
  rcases Nat.eq_or_lt_of_le (show 8 ≤ y from h7) with h | h8
  · subst h; exact kw_8
  rcases Nat.eq_or_lt_of_le (show 9 ≤ y from h8) with h | h9
  · subst h; exact kw_9
  rcases Nat.eq_or_lt_of_le (show 10 ≤ y from h9) with h | h10
  · subst h; exact kw_10
  rcases Nat.eq_or_lt_of_le (show 11 ≤ y from h10) with h | h11
  · subst h; exact kw_11
  rcases Nat.eq_or_lt_of_le (show 12 ≤ y from h11) with h | h12
  · subst h; exact kw_12
  rcases Nat.eq_or_lt_of_le (show 13 ≤ y from h12) with h | h13
  · subst h; exact kw_13
  rcases Nat.eq_or_lt_of_le (show 14 ≤ y from h13) with h | h14
  · subst h; exact kw_14
  rcases Nat.eq_or_lt_of_le (show 15 ≤ y from h14) with h | h15
  · subst h; exact kw_15
  rcases Nat.eq_or_lt_of_le (show 16 ≤ y from h15) with h | h16
  · subst h; exact kw_16
  rcases Nat.eq_or_lt_of_le (show 17 ≤ y from h16) with h | h17
  · subst h; exact kw_17
  rcases Nat.eq_or_lt_of_le (show 18 ≤ y from h17) with h | h18
  · subst h; exact kw_18
  rcases Nat.eq_or_lt_of_le (show 19 ≤ y from h18) with h | h19
  · subst h; exact kw_19
  rcases Nat.eq_or_lt_of_le (show 20 ≤ y from h19) with h | h20
  · subst h; exact kw_20
  rcases Nat.eq_or_lt_of_le (show 21 ≤ y from h20) with h | h21
  · subst h; exact kw_21
  rcases Nat.eq_or_lt_of_le (show 22 ≤ y from h21) with h | h22
  · subst h; exact kw_22
  rcases Nat.eq_or_lt_of_le (show 23 ≤ y from h22) with h | h23
  · subst h; exact kw_23
  rcases Nat.eq_or_lt_of_le (show 24 ≤ y from h23) with h | h24
  · subst h; exact kw_24
  rcases Nat.eq_or_lt_of_le (show 25 ≤ y from h24) with h | h25
  · subst h; exact kw_25
  rcases Nat.eq_or_lt_of_le (show 26 ≤ y from h25) with h | h26
  · subst h; exact kw_26
  rcases Nat.eq_or_lt_of_le (show 27 ≤ y from h26) with h | h27
  · subst h; exact kw_27
  rcases Nat.eq_or_lt_of_le (show 28 ≤ y from h27) with h | h28
  · subst h; exact kw_28
  rcases Nat.eq_or_lt_of_le (show 29 ≤ y from h28) with h | h29
  · subst h; exact kw_29
  rcases Nat.eq_or_lt_of_le (show 30 ≤ y from h29) with h | h30
  · subst h; exact kw_30
  rcases Nat.eq_or_lt_of_le (show 31 ≤ y from h30) with h | h31
  · subst h; exact kw_31
  rcases Nat.eq_or_lt_of_le (show 32 ≤ y from h31) with h | h32
  · subst h; exact kw_32
  rcases Nat.eq_or_lt_of_le (show 33 ≤ y from h32) with h | h33
  · subst h; exact kw_33
  rcases Nat.eq_or_lt_of_le (show 34 ≤ y from h33) with h | h34
  · subst h; exact kw_34
  rcases Nat.eq_or_lt_of_le (show 35 ≤ y from h34) with h | h35
  · subst h; exact kw_35
  rcases Nat.eq_or_lt_of_le (show 36 ≤ y from h35) with h | h36
  · subst h; exact kw_36
  rcases Nat.eq_or_lt_of_le (show 37 ≤ y from h36) with h | h37
  · subst h; exact kw_37
  rcases Nat.eq_or_lt_of_le (show 38 ≤ y from h37) with h | h38
  · subst h; exact kw_38
  rcases Nat.eq_or_lt_of_le (show 39 ≤ y from h38) with h | h39
  · subst h; exact kw_39
  rcases Nat.eq_or_lt_of_le (show 40 ≤ y from h39) with h | h40
  · subst h; exact kw_40
  rcases Nat.eq_or_lt_of_le (show 41 ≤ y from h40) with h | h41
  · subst h; exact kw_41
  rcases Nat.eq_or_lt_of_le (show 42 ≤ y from h41) with h | h42
  · subst h; exact kw_42
  rcases Nat.eq_or_lt_of_le (show 43 ≤ y from h42) with h | h43
  · subst h; exact kw_43
  rcases Nat.eq_or_lt_of_le (show 44 ≤ y from h43) with h | h44
  · subst h; exact kw_44
  rcases Nat.eq_or_lt_of_le (show 45 ≤ y from h44) with h | h45
  · subst h; exact kw_45
  rcases Nat.eq_or_lt_of_le (show 46 ≤ y from h45) with h | h46
  · subst h; exact kw_46
  rcases Nat.eq_or_lt_of_le (show 47 ≤ y from h46) with h | h47
  · subst h; exact kw_47
  rcases Nat.eq_or_lt_of_le (show 48 ≤ y from h47) with h | h48
  · subst h; exact kw_48
  rcases Nat.eq_or_lt_of_le (show 49 ≤ y from h48) with h | h49
  · subst h; exact kw_49
  rcases Nat.eq_or_lt_of_le (show 50 ≤ y from h49) with h | h50
  · subst h; exact kw_50
  rcases Nat.eq_or_lt_of_le (show 51 ≤ y from h50) with h | h51
  · subst h; exact kw_51
  rcases Nat.eq_or_lt_of_le (show 52 ≤ y from h51) with h | h52
  · subst h; exact kw_52
  rcases Nat.eq_or_lt_of_le (show 53 ≤ y from h52) with h | h53
  · subst h; exact kw_53
  rcases Nat.eq_or_lt_of_le (show 54 ≤ y from h53) with h | h54
  · subst h; exact kw_54
  rcases Nat.eq_or_lt_of_le (show 55 ≤ y from h54) with h | h55
  · subst h; exact kw_55
  rcases Nat.eq_or_lt_of_le (show 56 ≤ y from h55) with h | h56
  · subst h; exact kw_56
  rcases Nat.eq_or_lt_of_le (show 57 ≤ y from h56) with h | h57
  · subst h; exact kw_57
  rcases Nat.eq_or_lt_of_le (show 58 ≤ y from h57) with h | h58
  · subst h; exact kw_58
  rcases Nat.eq_or_lt_of_le (show 59 ≤ y from h58) with h | h59
  · subst h; exact kw_59
  rcases Nat.eq_or_lt_of_le (show 60 ≤ y from h59) with h | h60
  · subst h; exact kw_60
  rcases Nat.eq_or_lt_of_le (show 61 ≤ y from h60) with h | h61
  · subst h; exact kw_61
  rcases Nat.eq_or_lt_of_le (show 62 ≤ y from h61) with h | h62
  · subst h; exact kw_62
  rcases Nat.eq_or_lt_of_le (show 63 ≤ y from h62) with h | h63
  · subst h; exact kw_63
  rcases Nat.eq_or_lt_of_le (show 64 ≤ y from h63) with h | h64
  · subst h; exact kw_64
  rcases Nat.eq_or_lt_of_le (show 65 ≤ y from h64) with h | h65
  · subst h; exact kw_65
  rcases Nat.eq_or_lt_of_le (show 66 ≤ y from h65) with h | h66
  · subst h; exact kw_66
  rcases Nat.eq_or_lt_of_le (show 67 ≤ y from h66) with h | h67
  · subst h; exact kw_67
  rcases Nat.eq_or_lt_of_le (show 68 ≤ y from h67) with h | h68
  · subst h; exact kw_68
  rcases Nat.eq_or_lt_of_le (show 69 ≤ y from h68) with h | h69
  · subst h; exact kw_69
  rcases Nat.eq_or_lt_of_le (show 70 ≤ y from h69) with h | h70
  · subst h; exact kw_70
  rcases Nat.eq_or_lt_of_le (show 71 ≤ y from h70) with h | h71
  · subst h; exact kw_71
  rcases Nat.eq_or_lt_of_le (show 72 ≤ y from h71) with h | h72
  · subst h; exact kw_72
  rcases Nat.eq_or_lt_of_le (show 73 ≤ y from h72) with h | h73
  · subst h; exact kw_73
  rcases Nat.eq_or_lt_of_le (show 74 ≤ y from h73) with h | h74
  · subst h; exact kw_74
  rcases Nat.eq_or_lt_of_le (show 75 ≤ y from h74) with h | h75
  · subst h; exact kw_75
  rcases Nat.eq_or_lt_of_le (show 76 ≤ y from h75) with h | h76
  · subst h; exact kw_76
  rcases Nat.eq_or_lt_of_le (show 77 ≤ y from h76) with h | h77
  · subst h; exact kw_77
  rcases Nat.eq_or_lt_of_le (show 78 ≤ y from h77) with h | h78
  · subst h; exact kw_78
  rcases Nat.eq_or_lt_of_le (show 79 ≤ y from h78) with h | h79
  · subst h; exact kw_79
  rcases Nat.eq_or_lt_of_le (show 80 ≤ y from h79) with h | h80
  · subst h; exact kw_80
  rcases Nat.eq_or_lt_of_le (show 81 ≤ y from h80) with h | h81
  · subst h; exact kw_81
  rcases Nat.eq_or_lt_of_le (show 82 ≤ y from h81) with h | h82
  · subst h; exact kw_82
  rcases Nat.eq_or_lt_of_le (show 83 ≤ y from h82) with h | h83
  · subst h; exact kw_83
  rcases Nat.eq_or_lt_of_le (show 84 ≤ y from h83) with h | h84
  · subst h; exact kw_84
  rcases Nat.eq_or_lt_of_le (show 85 ≤ y from h84) with h | h85
  · subst h; exact kw_85
  rcases Nat.eq_or_lt_of_le (show 86 ≤ y from h85) with h | h86
  · subst h; exact kw_86
  rcases Nat.eq_or_lt_of_le (show 87 ≤ y from h86) with h | h87
  · subst h; exact kw_87
  rcases Nat.eq_or_lt_of_le (show 88 ≤ y from h87) with h | h88
  · subst h; exact kw_88
  rcases Nat.eq_or_lt_of_le (show 89 ≤ y from h88) with h | h89
  · subst h; exact kw_89
  rcases Nat.eq_or_lt_of_le (show 90 ≤ y from h89) with h | h90
  · subst h; exact kw_90
  rcases Nat.eq_or_lt_of_le (show 91 ≤ y from h90) with h | h91
  · subst h; exact kw_91
  rcases Nat.eq_or_lt_of_le (show 92 ≤ y from h91) with h | h92
  · subst h; exact kw_92
  rcases Nat.eq_or_lt_of_le (show 93 ≤ y from h92) with h | h93
  · subst h; exact kw_93
  rcases Nat.eq_or_lt_of_le (show 94 ≤ y from h93) with h | h94
  · subst h; exact kw_94
  rcases Nat.eq_or_lt_of_le (show 95 ≤ y from h94) with h | h95
  · subst h; exact kw_95
  rcases Nat.eq_or_lt_of_le (show 96 ≤ y from h95) with h | h96
  · subst h; exact kw_96
  rcases Nat.eq_or_lt_of_le (show 97 ≤ y from h96) with h | h97
  · subst h; exact kw_97
  rcases Nat.eq_or_lt_of_le (show 98 ≤ y from h97) with h | h98
  · subst h; exact kw_98
  rcases Nat.eq_or_lt_of_le (show 99 ≤ y from h98) with h | h99
  · subst h; exact kw_99
  rcases Nat.eq_or_lt_of_le (show 100 ≤ y from h99) with h | h100
  · subst h; exact kw_100
  rcases Nat.eq_or_lt_of_le (show 101 ≤ y from h100) with h | h101
  · subst h; exact kw_101
  rcases Nat.eq_or_lt_of_le (show 102 ≤ y from h101) with h | h102
  · subst h; exact kw_102
  rcases Nat.eq_or_lt_of_le (show 103 ≤ y from h102) with h | h103
  · subst h; exact kw_103
  rcases Nat.eq_or_lt_of_le (show 104 ≤ y from h103) with h | h104
  · subst h; exact kw_104
  rcases Nat.eq_or_lt_of_le (show 105 ≤ y from h104) with h | h105
  · subst h; exact kw_105
  rcases Nat.eq_or_lt_of_le (show 106 ≤ y from h105) with h | h106
  · subst h; exact kw_106
  rcases Nat.eq_or_lt_of_le (show 107 ≤ y from h106) with h | h107
  · subst h; exact kw_107
  rcases Nat.eq_or_lt_of_le (show 108 ≤ y from h107) with h | h108
  · subst h; exact kw_108
  rcases Nat.eq_or_lt_of_le (show 109 ≤ y from h108) with h | h109
  · subst h; exact kw_109
  rcases Nat.eq_or_lt_of_le (show 110 ≤ y from h109) with h | h110
  · subst h; exact kw_110
  rcases Nat.eq_or_lt_of_le (show 111 ≤ y from h110) with h | h111
  · subst h; exact kw_111
  rcases Nat.eq_or_lt_of_le (show 112 ≤ y from h111) with h | h112
  · subst h; exact kw_112
  rcases Nat.eq_or_lt_of_le (show 113 ≤ y from h112) with h | h113
  · subst h; exact kw_113
  rcases Nat.eq_or_lt_of_le (show 114 ≤ y from h113) with h | h114
  · subst h; exact kw_114
  rcases Nat.eq_or_lt_of_le (show 115 ≤ y from h114) with h | h115
  · subst h; exact kw_115
  rcases Nat.eq_or_lt_of_le (show 116 ≤ y from h115) with h | h116
  · subst h; exact kw_116
  rcases Nat.eq_or_lt_of_le (show 117 ≤ y from h116) with h | h117
  · subst h; exact kw_117
  rcases Nat.eq_or_lt_of_le (show 118 ≤ y from h117) with h | h118
  · subst h; exact kw_118
  rcases Nat.eq_or_lt_of_le (show 119 ≤ y from h118) with h | h119
  · subst h; exact kw_119
  rcases Nat.eq_or_lt_of_le (show 120 ≤ y from h119) with h | h120
  · subst h; exact kw_120
  rcases Nat.eq_or_lt_of_le (show 121 ≤ y from h120) with h | h121
  · subst h; exact kw_121
  rcases Nat.eq_or_lt_of_le (show 122 ≤ y from h121) with h | h122
  · subst h; exact kw_122
  rcases Nat.eq_or_lt_of_le (show 123 ≤ y from h122) with h | h123
  · subst h; exact kw_123
  rcases Nat.eq_or_lt_of_le (show 124 ≤ y from h123) with h | h124
  · subst h; exact kw_124
  rcases Nat.eq_or_lt_of_le (show 125 ≤ y from h124) with h | h125
  · subst h; exact kw_125
  rcases Nat.eq_or_lt_of_le (show 126 ≤ y from h125) with h | h126
  · subst h; exact kw_126
  rcases Nat.eq_or_lt_of_le (show 127 ≤ y from h126) with h | h127
  · subst h; exact kw_127
  rcases Nat.eq_or_lt_of_le (show 128 ≤ y from h127) with h | h128
  · subst h; exact kw_128
  rcases Nat.eq_or_lt_of_le (show 129 ≤ y from h128) with h | h129
  · subst h; exact kw_129
  rcases Nat.eq_or_lt_of_le (show 130 ≤ y from h129) with h | h130
  · subst h; exact kw_130
  rcases Nat.eq_or_lt_of_le (show 131 ≤ y from h130) with h | h131
  · subst h; exact kw_131
  rcases Nat.eq_or_lt_of_le (show 132 ≤ y from h131) with h | h132
  · subst h; exact kw_132
  rcases Nat.eq_or_lt_of_le (show 133 ≤ y from h132) with h | h133
  · subst h; exact kw_133
  rcases Nat.eq_or_lt_of_le (show 134 ≤ y from h133) with h | h134
  · subst h; exact kw_134
  rcases Nat.eq_or_lt_of_le (show 135 ≤ y from h134) with h | h135
  · subst h; exact kw_135
  rcases Nat.eq_or_lt_of_le (show 136 ≤ y from h135) with h | h136
  · subst h; exact kw_136
  rcases Nat.eq_or_lt_of_le (show 137 ≤ y from h136) with h | h137
  · subst h; exact kw_137
  rcases Nat.eq_or_lt_of_le (show 138 ≤ y from h137) with h | h138
  · subst h; exact kw_138
  rcases Nat.eq_or_lt_of_le (show 139 ≤ y from h138) with h | h139
  · subst h; exact kw_139
  rcases Nat.eq_or_lt_of_le (show 140 ≤ y from h139) with h | h140
  · subst h; exact kw_140
  rcases Nat.eq_or_lt_of_le (show 141 ≤ y from h140) with h | h141
  · subst h; exact kw_141
  rcases Nat.eq_or_lt_of_le (show 142 ≤ y from h141) with h | h142
  · subst h; exact kw_142
  rcases Nat.eq_or_lt_of_le (show 143 ≤ y from h142) with h | h143
  · subst h; exact kw_143
  rcases Nat.eq_or_lt_of_le (show 144 ≤ y from h143) with h | h144
  · subst h; exact kw_144
  rcases Nat.eq_or_lt_of_le (show 145 ≤ y from h144) with h | h145
  · subst h; exact kw_145
  rcases Nat.eq_or_lt_of_le (show 146 ≤ y from h145) with h | h146
  · subst h; exact kw_146
  rcases Nat.eq_or_lt_of_le (show 147 ≤ y from h146) with h | h147
  · subst h; exact kw_147
  rcases Nat.eq_or_lt_of_le (show 148 ≤ y from h147) with h | h148
  · subst h; exact kw_148
  rcases Nat.eq_or_lt_of_le (show 149 ≤ y from h148) with h | h149
  · subst h; exact kw_149
  rcases Nat.eq_or_lt_of_le (show 150 ≤ y from h149) with h | h150
  · subst h; exact kw_150
  rcases Nat.eq_or_lt_of_le (show 151 ≤ y from h150) with h | h151
  · subst h; exact kw_151
  rcases Nat.eq_or_lt_of_le (show 152 ≤ y from h151) with h | h152
  · subst h; exact kw_152
  rcases Nat.eq_or_lt_of_le (show 153 ≤ y from h152) with h | h153
  · subst h; exact kw_153
  rcases Nat.eq_or_lt_of_le (show 154 ≤ y from h153) with h | h154
  · subst h; exact kw_154
  rcases Nat.eq_or_lt_of_le (show 155 ≤ y from h154) with h | h155
  · subst h; exact kw_155
  rcases Nat.eq_or_lt_of_le (show 156 ≤ y from h155) with h | h156
  · subst h; exact kw_156
  rcases Nat.eq_or_lt_of_le (show 157 ≤ y from h156) with h | h157
  · subst h; exact kw_157
  rcases Nat.eq_or_lt_of_le (show 158 ≤ y from h157) with h | h158
  · subst h; exact kw_158
  rcases Nat.eq_or_lt_of_le (show 159 ≤ y from h158) with h | h159
  · subst h; exact kw_159
  rcases Nat.eq_or_lt_of_le (show 160 ≤ y from h159) with h | h160
  · subst h; exact kw_160
  rcases Nat.eq_or_lt_of_le (show 161 ≤ y from h160) with h | h161
  · subst h; exact kw_161
  rcases Nat.eq_or_lt_of_le (show 162 ≤ y from h161) with h | h162
  · subst h; exact kw_162
  rcases Nat.eq_or_lt_of_le (show 163 ≤ y from h162) with h | h163
  · subst h; exact kw_163
  rcases Nat.eq_or_lt_of_le (show 164 ≤ y from h163) with h | h164
  · subst h; exact kw_164
  rcases Nat.eq_or_lt_of_le (show 165 ≤ y from h164) with h | h165
  · subst h; exact kw_165
  rcases Nat.eq_or_lt_of_le (show 166 ≤ y from h165) with h | h166
  · subst h; exact kw_166
  rcases Nat.eq_or_lt_of_le (show 167 ≤ y from h166) with h | h167
  · subst h; exact kw_167
  rcases Nat.eq_or_lt_of_le (show 168 ≤ y from h167) with h | h168
  · subst h; exact kw_168
  rcases Nat.eq_or_lt_of_le (show 169 ≤ y from h168) with h | h169
  · subst h; exact kw_169
  rcases Nat.eq_or_lt_of_le (show 170 ≤ y from h169) with h | h170
  · subst h; exact kw_170
  rcases Nat.eq_or_lt_of_le (show 171 ≤ y from h170) with h | h171
  · subst h; exact kw_171
  rcases Nat.eq_or_lt_of_le (show 172 ≤ y from h171) with h | h172
  · subst h; exact kw_172
  rcases Nat.eq_or_lt_of_le (show 173 ≤ y from h172) with h | h173
  · subst h; exact kw_173
  rcases Nat.eq_or_lt_of_le (show 174 ≤ y from h173) with h | h174
  · subst h; exact kw_174
  rcases Nat.eq_or_lt_of_le (show 175 ≤ y from h174) with h | h175
  · subst h; exact kw_175
  rcases Nat.eq_or_lt_of_le (show 176 ≤ y from h175) with h | h176
  · subst h; exact kw_176
  rcases Nat.eq_or_lt_of_le (show 177 ≤ y from h176) with h | h177
  · subst h; exact kw_177
  rcases Nat.eq_or_lt_of_le (show 178 ≤ y from h177) with h | h178
  · subst h; exact kw_178
  rcases Nat.eq_or_lt_of_le (show 179 ≤ y from h178) with h | h179
  · subst h; exact kw_179
  rcases Nat.eq_or_lt_of_le (show 180 ≤ y from h179) with h | h180
  · subst h; exact kw_180
  rcases Nat.eq_or_lt_of_le (show 181 ≤ y from h180) with h | h181
  · subst h; exact kw_181
  rcases Nat.eq_or_lt_of_le (show 182 ≤ y from h181) with h | h182
  · subst h; exact kw_182
  rcases Nat.eq_or_lt_of_le (show 183 ≤ y from h182) with h | h183
  · subst h; exact kw_183
  rcases Nat.eq_or_lt_of_le (show 184 ≤ y from h183) with h | h184
  · subst h; exact kw_184
  rcases Nat.eq_or_lt_of_le (show 185 ≤ y from h184) with h | h185
  · subst h; exact kw_185
  rcases Nat.eq_or_lt_of_le (show 186 ≤ y from h185) with h | h186
  · subst h; exact kw_186
  rcases Nat.eq_or_lt_of_le (show 187 ≤ y from h186) with h | h187
  · subst h; exact kw_187
  rcases Nat.eq_or_lt_of_le (show 188 ≤ y from h187) with h | h188
  · subst h; exact kw_188
  rcases Nat.eq_or_lt_of_le (show 189 ≤ y from h188) with h | h189
  · subst h; exact kw_189
  rcases Nat.eq_or_lt_of_le (show 190 ≤ y from h189) with h | h190
  · subst h; exact kw_190
  rcases Nat.eq_or_lt_of_le (show 191 ≤ y from h190) with h | h191
  · subst h; exact kw_191
  rcases Nat.eq_or_lt_of_le (show 192 ≤ y from h191) with h | h192
  · subst h; exact kw_192
  rcases Nat.eq_or_lt_of_le (show 193 ≤ y from h192) with h | h193
  · subst h; exact kw_193
  rcases Nat.eq_or_lt_of_le (show 194 ≤ y from h193) with h | h194
  · subst h; exact kw_194
  rcases Nat.eq_or_lt_of_le (show 195 ≤ y from h194) with h | h195
  · subst h; exact kw_195
  rcases Nat.eq_or_lt_of_le (show 196 ≤ y from h195) with h | h196
  · subst h; exact kw_196
  rcases Nat.eq_or_lt_of_le (show 197 ≤ y from h196) with h | h197
  · subst h; exact kw_197
  rcases Nat.eq_or_lt_of_le (show 198 ≤ y from h197) with h | h198
  · subst h; exact kw_198
  rcases Nat.eq_or_lt_of_le (show 199 ≤ y from h198) with h | h199
  · subst h; exact kw_199
  rcases Nat.eq_or_lt_of_le (show 200 ≤ y from h199) with h | h200
  · subst h; exact kw_200
  rcases Nat.eq_or_lt_of_le (show 201 ≤ y from h200) with h | h201
  · subst h; exact kw_201
  rcases Nat.eq_or_lt_of_le (show 202 ≤ y from h201) with h | h202
  · subst h; exact kw_202
  rcases Nat.eq_or_lt_of_le (show 203 ≤ y from h202) with h | h203
  · subst h; exact kw_203
  rcases Nat.eq_or_lt_of_le (show 204 ≤ y from h203) with h | h204
  · subst h; exact kw_204
  rcases Nat.eq_or_lt_of_le (show 205 ≤ y from h204) with h | h205
  · subst h; exact kw_205
  rcases Nat.eq_or_lt_of_le (show 206 ≤ y from h205) with h | h206
  · subst h; exact kw_206
  rcases Nat.eq_or_lt_of_le (show 207 ≤ y from h206) with h | h207
  · subst h; exact kw_207
  rcases Nat.eq_or_lt_of_le (show 208 ≤ y from h207) with h | h208
  · subst h; exact kw_208
  rcases Nat.eq_or_lt_of_le (show 209 ≤ y from h208) with h | h209
  · subst h; exact kw_209
  rcases Nat.eq_or_lt_of_le (show 210 ≤ y from h209) with h | h210
  · subst h; exact kw_210
  rcases Nat.eq_or_lt_of_le (show 211 ≤ y from h210) with h | h211
  · subst h; exact kw_211
  rcases Nat.eq_or_lt_of_le (show 212 ≤ y from h211) with h | h212
  · subst h; exact kw_212
  rcases Nat.eq_or_lt_of_le (show 213 ≤ y from h212) with h | h213
  · subst h; exact kw_213
  rcases Nat.eq_or_lt_of_le (show 214 ≤ y from h213) with h | h214
  · subst h; exact kw_214
  rcases Nat.eq_or_lt_of_le (show 215 ≤ y from h214) with h | h215
  · subst h; exact kw_215
  rcases Nat.eq_or_lt_of_le (show 216 ≤ y from h215) with h | h216
  · subst h; exact kw_216
  rcases Nat.eq_or_lt_of_le (show 217 ≤ y from h216) with h | h217
  · subst h; exact kw_217
  rcases Nat.eq_or_lt_of_le (show 218 ≤ y from h217) with h | h218
  · subst h; exact kw_218
  rcases Nat.eq_or_lt_of_le (show 219 ≤ y from h218) with h | h219
  · subst h; exact kw_219
  rcases Nat.eq_or_lt_of_le (show 220 ≤ y from h219) with h | h220
  · subst h; exact kw_220
  rcases Nat.eq_or_lt_of_le (show 221 ≤ y from h220) with h | h221
  · subst h; exact kw_221
  rcases Nat.eq_or_lt_of_le (show 222 ≤ y from h221) with h | h222
  · subst h; exact kw_222
  rcases Nat.eq_or_lt_of_le (show 223 ≤ y from h222) with h | h223
  · subst h; exact kw_223
  rcases Nat.eq_or_lt_of_le (show 224 ≤ y from h223) with h | h224
  · subst h; exact kw_224
  rcases Nat.eq_or_lt_of_le (show 225 ≤ y from h224) with h | h225
  · subst h; exact kw_225
  rcases Nat.eq_or_lt_of_le (show 226 ≤ y from h225) with h | h226
  · subst h; exact kw_226
  rcases Nat.eq_or_lt_of_le (show 227 ≤ y from h226) with h | h227
  · subst h; exact kw_227
  rcases Nat.eq_or_lt_of_le (show 228 ≤ y from h227) with h | h228
  · subst h; exact kw_228
  rcases Nat.eq_or_lt_of_le (show 229 ≤ y from h228) with h | h229
  · subst h; exact kw_229
  rcases Nat.eq_or_lt_of_le (show 230 ≤ y from h229) with h | h230
  · subst h; exact kw_230
  rcases Nat.eq_or_lt_of_le (show 231 ≤ y from h230) with h | h231
  · subst h; exact kw_231
  rcases Nat.eq_or_lt_of_le (show 232 ≤ y from h231) with h | h232
  · subst h; exact kw_232
  rcases Nat.eq_or_lt_of_le (show 233 ≤ y from h232) with h | h233
  · subst h; exact kw_233
  rcases Nat.eq_or_lt_of_le (show 234 ≤ y from h233) with h | h234
  · subst h; exact kw_234
  obtain rfl : y = 235 := Nat.le_antisymm (Nat.le_of_lt_succ hy) h234
  exact kw_235
def ex_nw : List Jvm.Cond := [Jvm.Cond.methodLinkNest "BorderThroughBed" 9 ⟨"BorderThroughBed$Page", "<init>", "()V"⟩ "BorderThroughBed", Jvm.Cond.methodLinkNest "BorderThroughBed" 18 ⟨"BorderThroughBed$HouseText", "<init>", "()V"⟩ "BorderThroughBed", Jvm.Cond.methodLinkNest "BorderThroughBed$HouseText" 3 ⟨"BorderThroughBed$Text", "<init>", "()V"⟩ "BorderThroughBed", Jvm.Cond.methodLinkNest "BorderThroughBed" 25 ⟨"BorderThroughBed$LawText", "<init>", "()V"⟩ "BorderThroughBed", Jvm.Cond.methodLinkNest "BorderThroughBed$LawText" 3 ⟨"BorderThroughBed$Text", "<init>", "()V"⟩ "BorderThroughBed", Jvm.Cond.methodLinkNest "BorderThroughBed" 32 ⟨"BorderThroughBed$House", "<init>", "()V"⟩ "BorderThroughBed", Jvm.Cond.methodLinkNest "BorderThroughBed" 39 ⟨"BorderThroughBed$Laws", "<init>", "()V"⟩ "BorderThroughBed", Jvm.Cond.methodLinkNest "BorderThroughBed" 46 ⟨"BorderThroughBed$Day", "<init>", "()V"⟩ "BorderThroughBed", Jvm.Cond.methodLinkNest "BorderThroughBed" 56 ⟨"BorderThroughBed$Keeping", "<init>", "()V"⟩ "BorderThroughBed", Jvm.Cond.methodLinkNest "BorderThroughBed" 63 ⟨"BorderThroughBed$Mover", "<init>", "()V"⟩ "BorderThroughBed", Jvm.Cond.methodLinkNest "BorderThroughBed$Page" 23 ⟨"BorderThroughBed", "below", "(II)Z"⟩ "BorderThroughBed", Jvm.Cond.methodLinkNest "BorderThroughBed$House" 79 ⟨"BorderThroughBed", "below", "(II)Z"⟩ "BorderThroughBed", Jvm.Cond.methodLinkNest "BorderThroughBed$Table" 30 ⟨"BorderThroughBed", "below", "(II)Z"⟩ "BorderThroughBed", Jvm.Cond.methodLinkNest "BorderThroughBed$Keeping" 82 ⟨"BorderThroughBed", "below", "(II)Z"⟩ "BorderThroughBed", Jvm.Cond.methodLinkNest "BorderThroughBed$Mover" 60 ⟨"BorderThroughBed", "below", "(II)Z"⟩ "BorderThroughBed", Jvm.Cond.declares ⟨"BorderThroughBed$Text", "taken", "(LBorderThroughBed$Page;)I"⟩, Jvm.Cond.declares ⟨"BorderThroughBed$Text", "begin", "()V"⟩, Jvm.Cond.declares ⟨"BorderThroughBed$Text", "takes", "(I)Z"⟩, Jvm.Cond.declares ⟨"BorderThroughBed$Text", "isOn", "(LBorderThroughBed$Page;)Z"⟩, Jvm.Cond.declares ⟨"BorderThroughBed$Text", "isWhole", "()Z"⟩]
theorem ex_nw_in : ∀ w ∈ ex_nw, w ∈ tables_1 := by
  exact List.forall_mem_cons.mpr ⟨List.mem_of_getElem? (i := 25) (by decide +kernel), List.forall_mem_cons.mpr ⟨List.mem_of_getElem? (i := 39) (by decide +kernel), List.forall_mem_cons.mpr ⟨List.mem_of_getElem? (i := 42) (by decide +kernel), List.forall_mem_cons.mpr ⟨List.mem_of_getElem? (i := 61) (by decide +kernel), List.forall_mem_cons.mpr ⟨List.mem_of_getElem? (i := 64) (by decide +kernel), List.forall_mem_cons.mpr ⟨List.mem_of_getElem? (i := 89) (by decide +kernel), List.forall_mem_cons.mpr ⟨List.mem_of_getElem? (i := 138) (by decide +kernel), List.forall_mem_cons.mpr ⟨List.mem_of_getElem? (i := 164) (by decide +kernel), List.forall_mem_cons.mpr ⟨List.mem_of_getElem? (i := 191) (by decide +kernel), List.forall_mem_cons.mpr ⟨List.mem_of_getElem? (i := 207) (by decide +kernel), List.forall_mem_cons.mpr ⟨List.mem_of_getElem? (i := 320) (by decide +kernel), List.forall_mem_cons.mpr ⟨List.mem_of_getElem? (i := 402) (by decide +kernel), List.forall_mem_cons.mpr ⟨List.mem_of_getElem? (i := 504) (by decide +kernel), List.forall_mem_cons.mpr ⟨List.mem_of_getElem? (i := 735) (by decide +kernel), List.forall_mem_cons.mpr ⟨List.mem_of_getElem? (i := 800) (by decide +kernel), List.forall_mem_cons.mpr ⟨List.mem_of_getElem? (i := 302) (by decide +kernel), List.forall_mem_cons.mpr ⟨List.mem_of_getElem? (i := 307) (by decide +kernel), List.forall_mem_cons.mpr ⟨List.mem_of_getElem? (i := 322) (by decide +kernel), List.forall_mem_cons.mpr ⟨List.mem_of_getElem? (i := 378) (by decide +kernel), List.forall_mem_cons.mpr ⟨List.mem_of_getElem? (i := 384) (by decide +kernel), fun _ h => absurd h List.not_mem_nil⟩⟩⟩⟩⟩⟩⟩⟩⟩⟩⟩⟩⟩⟩⟩⟩⟩⟩⟩⟩
def ex_ar (y n : Nat) : Prop := (parseMethodDescriptor (ex_Y y).desc).map (fun d => d.parameters.length) = some n
def ex_PT (c a e : Nat) : Prop := e / 8 < 236 ∧ ex_ar (e / 8) (e % 8) ∧ Jvm.Cond.static (ex_Y (e / 8)) ∈ ex_tb ∧ (Jvm.Cond.methodLink (ex_Rn c) a (ex_Y (e / 8)) ∈ ex_tb ∨ Jvm.Cond.methodLinkNest (ex_Rn c) a (ex_Y (e / 8)) "BorderThroughBed" ∈ ex_nw)
theorem kq_T_0 : ∀ q ∈ ex_cT.getD 0 [], ex_PT 0 q.1 q.2 := fun _ h => absurd h List.not_mem_nil
theorem kt_492 : (Jvm.Cond.static (ex_Y 130)) ∈ ex_tb := ex_in (i := 391) (by decide +kernel) (by decide +kernel)
theorem kq_T_1 : ∀ q ∈ ex_cT.getD 1 [], ex_PT 1 q.1 q.2 := List.forall_mem_cons.mpr ⟨⟨by decide, by unfold ex_ar; decide +kernel, kt_492, Or.inr (List.mem_of_getElem? (i := 11) (by decide +kernel))⟩, fun _ h => absurd h List.not_mem_nil⟩
theorem kq_T_2 : ∀ q ∈ ex_cT.getD 2 [], ex_PT 2 q.1 q.2 := fun _ h => absurd h List.not_mem_nil
theorem kt_493 : (Jvm.Cond.static (ex_Y 43)) ∈ ex_tb := ex_in (i := 815) (by decide +kernel) (by decide +kernel)
theorem kt_494 : (Jvm.Cond.methodLink (ex_Rn 3) 50 (ex_Y 43)) ∈ ex_tb := ex_in (i := 814) (by decide +kernel) (by decide +kernel)
theorem kt_495 : (Jvm.Cond.static (ex_Y 2)) ∈ ex_tb := ex_in (i := 762) (by decide +kernel) (by decide +kernel)
theorem kt_496 : (Jvm.Cond.methodLink (ex_Rn 3) 86 (ex_Y 2)) ∈ ex_tb := ex_in (i := 868) (by decide +kernel) (by decide +kernel)
theorem kq_T_3 : ∀ q ∈ ex_cT.getD 3 [], ex_PT 3 q.1 q.2 := List.forall_mem_cons.mpr ⟨⟨by decide, by unfold ex_ar; decide +kernel, kt_493, Or.inl kt_494⟩, List.forall_mem_cons.mpr ⟨⟨by decide, by unfold ex_ar; decide +kernel, kt_492, Or.inr (List.mem_of_getElem? (i := 13) (by decide +kernel))⟩, List.forall_mem_cons.mpr ⟨⟨by decide, by unfold ex_ar; decide +kernel, kt_495, Or.inl kt_496⟩, fun _ h => absurd h List.not_mem_nil⟩⟩⟩
theorem kt_497 : (Jvm.Cond.static (ex_Y 60)) ∈ ex_tb := ex_in (i := 460) (by decide +kernel) (by decide +kernel)
theorem kt_498 : (Jvm.Cond.methodLink (ex_Rn 4) 50 (ex_Y 60)) ∈ ex_tb := ex_in (i := 459) (by decide +kernel) (by decide +kernel)
theorem kq_T_4 : ∀ q ∈ ex_cT.getD 4 [], ex_PT 4 q.1 q.2 := List.forall_mem_cons.mpr ⟨⟨by decide, by unfold ex_ar; decide +kernel, kt_497, Or.inl kt_498⟩, fun _ h => absurd h List.not_mem_nil⟩
theorem kq_T_5 : ∀ q ∈ ex_cT.getD 5 [], ex_PT 5 q.1 q.2 := fun _ h => absurd h List.not_mem_nil
theorem kq_T_6 : ∀ q ∈ ex_cT.getD 6 [], ex_PT 6 q.1 q.2 := List.forall_mem_cons.mpr ⟨⟨by decide, by unfold ex_ar; decide +kernel, kt_492, Or.inr (List.mem_of_getElem? (i := 14) (by decide +kernel))⟩, fun _ h => absurd h List.not_mem_nil⟩
theorem kt_499 : (Jvm.Cond.static (ex_Y 85)) ∈ ex_tb := ex_in (i := 368) (by decide +kernel) (by decide +kernel)
theorem kt_500 : (Jvm.Cond.methodLink (ex_Rn 7) 15 (ex_Y 85)) ∈ ex_tb := ex_in (i := 367) (by decide +kernel) (by decide +kernel)
theorem kq_T_7 : ∀ q ∈ ex_cT.getD 7 [], ex_PT 7 q.1 q.2 := List.forall_mem_cons.mpr ⟨⟨by decide, by unfold ex_ar; decide +kernel, kt_499, Or.inl kt_500⟩, List.forall_mem_cons.mpr ⟨⟨by decide, by unfold ex_ar; decide +kernel, kt_492, Or.inr (List.mem_of_getElem? (i := 10) (by decide +kernel))⟩, fun _ h => absurd h List.not_mem_nil⟩⟩
theorem kq_T_8 : ∀ q ∈ ex_cT.getD 8 [], ex_PT 8 q.1 q.2 := List.forall_mem_cons.mpr ⟨⟨by decide, by unfold ex_ar; decide +kernel, kt_492, Or.inr (List.mem_of_getElem? (i := 12) (by decide +kernel))⟩, fun _ h => absurd h List.not_mem_nil⟩
theorem kq_T_9 : ∀ q ∈ ex_cT.getD 9 [], ex_PT 9 q.1 q.2 := fun _ h => absurd h List.not_mem_nil
theorem kt_501 : (Jvm.Cond.static (ex_Y 84)) ∈ ex_tb := ex_in (i := 365) (by decide +kernel) (by decide +kernel)
theorem kt_502 : (Jvm.Cond.methodLink (ex_Rn 10) 68 (ex_Y 84)) ∈ ex_tb := ex_in (i := 364) (by decide +kernel) (by decide +kernel)
theorem kt_503 : (Jvm.Cond.methodLink (ex_Rn 10) 83 (ex_Y 130)) ∈ ex_tb := ex_in (i := 390) (by decide +kernel) (by decide +kernel)
theorem kt_504 : (Jvm.Cond.static (ex_Y 63)) ∈ ex_tb := ex_in (i := 623) (by decide +kernel) (by decide +kernel)
theorem kt_505 : (Jvm.Cond.methodLink (ex_Rn 10) 126 (ex_Y 63)) ∈ ex_tb := ex_in (i := 622) (by decide +kernel) (by decide +kernel)
theorem kt_506 : (Jvm.Cond.static (ex_Y 131)) ∈ ex_tb := ex_in (i := 683) (by decide +kernel) (by decide +kernel)
theorem kt_507 : (Jvm.Cond.methodLink (ex_Rn 10) 143 (ex_Y 131)) ∈ ex_tb := ex_in (i := 682) (by decide +kernel) (by decide +kernel)
theorem kt_508 : (Jvm.Cond.static (ex_Y 132)) ∈ ex_tb := ex_in (i := 725) (by decide +kernel) (by decide +kernel)
theorem kt_509 : (Jvm.Cond.methodLink (ex_Rn 10) 167 (ex_Y 132)) ∈ ex_tb := ex_in (i := 724) (by decide +kernel) (by decide +kernel)
theorem kt_510 : (Jvm.Cond.static (ex_Y 133)) ∈ ex_tb := ex_in (i := 745) (by decide +kernel) (by decide +kernel)
theorem kt_511 : (Jvm.Cond.methodLink (ex_Rn 10) 181 (ex_Y 133)) ∈ ex_tb := ex_in (i := 744) (by decide +kernel) (by decide +kernel)
theorem kt_512 : (Jvm.Cond.methodLink (ex_Rn 10) 194 (ex_Y 2)) ∈ ex_tb := ex_in (i := 761) (by decide +kernel) (by decide +kernel)
theorem kt_513 : (Jvm.Cond.static (ex_Y 134)) ∈ ex_tb := ex_in (i := 940) (by decide +kernel) (by decide +kernel)
theorem kt_514 : (Jvm.Cond.methodLink (ex_Rn 10) 259 (ex_Y 134)) ∈ ex_tb := ex_in (i := 939) (by decide +kernel) (by decide +kernel)
theorem kt_515 : (Jvm.Cond.static (ex_Y 147)) ∈ ex_tb := ex_in (i := 1011) (by decide +kernel) (by decide +kernel)
theorem kt_516 : (Jvm.Cond.methodLink (ex_Rn 10) 287 (ex_Y 147)) ∈ ex_tb := ex_in (i := 1010) (by decide +kernel) (by decide +kernel)
theorem kq_T_10 : ∀ q ∈ ex_cT.getD 10 [], ex_PT 10 q.1 q.2 := List.forall_mem_cons.mpr ⟨⟨by decide, by unfold ex_ar; decide +kernel, kt_501, Or.inl kt_502⟩, List.forall_mem_cons.mpr ⟨⟨by decide, by unfold ex_ar; decide +kernel, kt_492, Or.inl kt_503⟩, List.forall_mem_cons.mpr ⟨⟨by decide, by unfold ex_ar; decide +kernel, kt_504, Or.inl kt_505⟩, List.forall_mem_cons.mpr ⟨⟨by decide, by unfold ex_ar; decide +kernel, kt_506, Or.inl kt_507⟩, List.forall_mem_cons.mpr ⟨⟨by decide, by unfold ex_ar; decide +kernel, kt_508, Or.inl kt_509⟩, List.forall_mem_cons.mpr ⟨⟨by decide, by unfold ex_ar; decide +kernel, kt_510, Or.inl kt_511⟩, List.forall_mem_cons.mpr ⟨⟨by decide, by unfold ex_ar; decide +kernel, kt_495, Or.inl kt_512⟩, List.forall_mem_cons.mpr ⟨⟨by decide, by unfold ex_ar; decide +kernel, kt_513, Or.inl kt_514⟩, List.forall_mem_cons.mpr ⟨⟨by decide, by unfold ex_ar; decide +kernel, kt_515, Or.inl kt_516⟩, fun _ h => absurd h List.not_mem_nil⟩⟩⟩⟩⟩⟩⟩⟩⟩
theorem kt_517 : (Jvm.Cond.static (ex_Y 148)) ∈ ex_tb := ex_in (i := 1212) (by decide +kernel) (by decide +kernel)
theorem kt_518 : (Jvm.Cond.methodLink (ex_Rn 11) 89 (ex_Y 148)) ∈ ex_tb := ex_in (i := 1211) (by decide +kernel) (by decide +kernel)
theorem kt_519 : (Jvm.Cond.static (ex_Y 152)) ∈ ex_tb := ex_in (i := 1223) (by decide +kernel) (by decide +kernel)
theorem kt_520 : (Jvm.Cond.methodLink (ex_Rn 11) 93 (ex_Y 152)) ∈ ex_tb := ex_in (i := 1222) (by decide +kernel) (by decide +kernel)
theorem kt_521 : (Jvm.Cond.static (ex_Y 151)) ∈ ex_tb := ex_in (i := 1234) (by decide +kernel) (by decide +kernel)
theorem kt_522 : (Jvm.Cond.methodLink (ex_Rn 11) 126 (ex_Y 151)) ∈ ex_tb := ex_in (i := 1233) (by decide +kernel) (by decide +kernel)
theorem kt_523 : (Jvm.Cond.static (ex_Y 182)) ∈ ex_tb := ex_in (i := 1334) (by decide +kernel) (by decide +kernel)
theorem kt_524 : (Jvm.Cond.methodLink (ex_Rn 11) 234 (ex_Y 182)) ∈ ex_tb := ex_in (i := 1333) (by decide +kernel) (by decide +kernel)
theorem kt_525 : (Jvm.Cond.static (ex_Y 187)) ∈ ex_tb := ex_in (i := 1345) (by decide +kernel) (by decide +kernel)
theorem kt_526 : (Jvm.Cond.methodLink (ex_Rn 11) 248 (ex_Y 187)) ∈ ex_tb := ex_in (i := 1344) (by decide +kernel) (by decide +kernel)
theorem kt_527 : (Jvm.Cond.static (ex_Y 191)) ∈ ex_tb := ex_in (i := 1372) (by decide +kernel) (by decide +kernel)
theorem kt_528 : (Jvm.Cond.methodLink (ex_Rn 11) 258 (ex_Y 191)) ∈ ex_tb := ex_in (i := 1371) (by decide +kernel) (by decide +kernel)
theorem kt_529 : (Jvm.Cond.static (ex_Y 199)) ∈ ex_tb := ex_in (i := 1387) (by decide +kernel) (by decide +kernel)
theorem kt_530 : (Jvm.Cond.methodLink (ex_Rn 11) 270 (ex_Y 199)) ∈ ex_tb := ex_in (i := 1386) (by decide +kernel) (by decide +kernel)
theorem kq_T_11 : ∀ q ∈ ex_cT.getD 11 [], ex_PT 11 q.1 q.2 := List.forall_mem_cons.mpr ⟨⟨by decide, by unfold ex_ar; decide +kernel, kt_517, Or.inl kt_518⟩, List.forall_mem_cons.mpr ⟨⟨by decide, by unfold ex_ar; decide +kernel, kt_519, Or.inl kt_520⟩, List.forall_mem_cons.mpr ⟨⟨by decide, by unfold ex_ar; decide +kernel, kt_521, Or.inl kt_522⟩, List.forall_mem_cons.mpr ⟨⟨by decide, by unfold ex_ar; decide +kernel, kt_523, Or.inl kt_524⟩, List.forall_mem_cons.mpr ⟨⟨by decide, by unfold ex_ar; decide +kernel, kt_525, Or.inl kt_526⟩, List.forall_mem_cons.mpr ⟨⟨by decide, by unfold ex_ar; decide +kernel, kt_527, Or.inl kt_528⟩, List.forall_mem_cons.mpr ⟨⟨by decide, by unfold ex_ar; decide +kernel, kt_529, Or.inl kt_530⟩, fun _ h => absurd h List.not_mem_nil⟩⟩⟩⟩⟩⟩⟩
theorem kq_T {c : Nat} (hc : c < 12) : ∀ q ∈ ex_cT.getD c [], ex_PT c q.1 q.2 := by
  match c, hc with
  | 0, _ => exact kq_T_0
  | 1, _ => exact kq_T_1
  | 2, _ => exact kq_T_2
  | 3, _ => exact kq_T_3
  | 4, _ => exact kq_T_4
  | 5, _ => exact kq_T_5
  | 6, _ => exact kq_T_6
  | 7, _ => exact kq_T_7
  | 8, _ => exact kq_T_8
  | 9, _ => exact kq_T_9
  | 10, _ => exact kq_T_10
  | 11, _ => exact kq_T_11
def ex_PV (c a e : Nat) : Prop := e / 8 < 236 ∧ ex_ar (e / 8) (e % 8) ∧ Jvm.Cond.instanceMethod (ex_Y (e / 8)) ∈ ex_tb ∧ Jvm.Cond.selects (ex_Y (e / 8)).cls (ex_Y (e / 8)) (ex_Y (e / 8)) ∈ ex_tb ∧ Jvm.Cond.methodLink (ex_Rn c) a (ex_Y (e / 8)) ∈ ex_tb ∧ ex_C (e / 8) ≠ 9
theorem kt_531 : (Jvm.Cond.instanceMethod (ex_Y 95)) ∈ ex_tb := ex_in (i := 558) (by decide +kernel) (by decide +kernel)
theorem kt_532 : (Jvm.Cond.selects (ex_Y 95).cls (ex_Y 95) (ex_Y 95)) ∈ ex_tb := ex_in (i := 559) (by decide +kernel) (by decide +kernel)
theorem kt_533 : (Jvm.Cond.methodLink (ex_Rn 0) 29 (ex_Y 95)) ∈ ex_tb := ex_in (i := 557) (by decide +kernel) (by decide +kernel)
theorem kt_534 : (Jvm.Cond.instanceMethod (ex_Y 96)) ∈ ex_tb := ex_in (i := 974) (by decide +kernel) (by decide +kernel)
theorem kt_535 : (Jvm.Cond.selects (ex_Y 96).cls (ex_Y 96) (ex_Y 96)) ∈ ex_tb := ex_in (i := 975) (by decide +kernel) (by decide +kernel)
theorem kt_536 : (Jvm.Cond.methodLink (ex_Rn 0) 32 (ex_Y 96)) ∈ ex_tb := ex_in (i := 973) (by decide +kernel) (by decide +kernel)
theorem kt_537 : (Jvm.Cond.instanceMethod (ex_Y 93)) ∈ ex_tb := ex_in (i := 615) (by decide +kernel) (by decide +kernel)
theorem kt_538 : (Jvm.Cond.selects (ex_Y 93).cls (ex_Y 93) (ex_Y 93)) ∈ ex_tb := ex_in (i := 616) (by decide +kernel) (by decide +kernel)
theorem kt_539 : (Jvm.Cond.methodLink (ex_Rn 0) 36 (ex_Y 93)) ∈ ex_tb := ex_in (i := 648) (by decide +kernel) (by decide +kernel)
theorem kt_540 : (Jvm.Cond.instanceMethod (ex_Y 4)) ∈ ex_tb := ex_in (i := 654) (by decide +kernel) (by decide +kernel)
theorem kt_541 : (Jvm.Cond.selects (ex_Y 4).cls (ex_Y 4) (ex_Y 4)) ∈ ex_tb := ex_in (i := 655) (by decide +kernel) (by decide +kernel)
theorem kt_542 : (Jvm.Cond.methodLink (ex_Rn 0) 40 (ex_Y 4)) ∈ ex_tb := ex_in (i := 653) (by decide +kernel) (by decide +kernel)
theorem kt_543 : (Jvm.Cond.instanceMethod (ex_Y 5)) ∈ ex_tb := ex_in (i := 658) (by decide +kernel) (by decide +kernel)
theorem kt_544 : (Jvm.Cond.selects (ex_Y 5).cls (ex_Y 5) (ex_Y 5)) ∈ ex_tb := ex_in (i := 659) (by decide +kernel) (by decide +kernel)
theorem kt_545 : (Jvm.Cond.methodLink (ex_Rn 0) 44 (ex_Y 5)) ∈ ex_tb := ex_in (i := 657) (by decide +kernel) (by decide +kernel)
theorem kt_546 : (Jvm.Cond.instanceMethod (ex_Y 94)) ∈ ex_tb := ex_in (i := 594) (by decide +kernel) (by decide +kernel)
theorem kt_547 : (Jvm.Cond.selects (ex_Y 94).cls (ex_Y 94) (ex_Y 94)) ∈ ex_tb := ex_in (i := 595) (by decide +kernel) (by decide +kernel)
theorem kt_548 : (Jvm.Cond.methodLink (ex_Rn 0) 47 (ex_Y 94)) ∈ ex_tb := ex_in (i := 788) (by decide +kernel) (by decide +kernel)
theorem kt_549 : (Jvm.Cond.instanceMethod (ex_Y 3)) ∈ ex_tb := ex_in (i := 645) (by decide +kernel) (by decide +kernel)
theorem kt_550 : (Jvm.Cond.selects (ex_Y 3).cls (ex_Y 3) (ex_Y 3)) ∈ ex_tb := ex_in (i := 646) (by decide +kernel) (by decide +kernel)
theorem kt_551 : (Jvm.Cond.methodLink (ex_Rn 0) 51 (ex_Y 3)) ∈ ex_tb := ex_in (i := 644) (by decide +kernel) (by decide +kernel)
theorem kt_552 : (Jvm.Cond.instanceMethod (ex_Y 26)) ∈ ex_tb := ex_in (i := 546) (by decide +kernel) (by decide +kernel)
theorem kt_553 : (Jvm.Cond.selects (ex_Y 26).cls (ex_Y 26) (ex_Y 26)) ∈ ex_tb := ex_in (i := 547) (by decide +kernel) (by decide +kernel)
theorem kt_554 : (Jvm.Cond.methodLink (ex_Rn 0) 54 (ex_Y 26)) ∈ ex_tb := ex_in (i := 778) (by decide +kernel) (by decide +kernel)
theorem kt_555 : (Jvm.Cond.instanceMethod (ex_Y 90)) ∈ ex_tb := ex_in (i := 607) (by decide +kernel) (by decide +kernel)
theorem kt_556 : (Jvm.Cond.selects (ex_Y 90).cls (ex_Y 90) (ex_Y 90)) ∈ ex_tb := ex_in (i := 608) (by decide +kernel) (by decide +kernel)
theorem kt_557 : (Jvm.Cond.methodLink (ex_Rn 0) 59 (ex_Y 90)) ∈ ex_tb := ex_in (i := 643) (by decide +kernel) (by decide +kernel)
theorem kt_558 : (Jvm.Cond.instanceMethod (ex_Y 6)) ∈ ex_tb := ex_in (i := 650) (by decide +kernel) (by decide +kernel)
theorem kt_559 : (Jvm.Cond.selects (ex_Y 6).cls (ex_Y 6) (ex_Y 6)) ∈ ex_tb := ex_in (i := 651) (by decide +kernel) (by decide +kernel)
theorem kt_560 : (Jvm.Cond.methodLink (ex_Rn 0) 63 (ex_Y 6)) ∈ ex_tb := ex_in (i := 649) (by decide +kernel) (by decide +kernel)
theorem kt_561 : (Jvm.Cond.instanceMethod (ex_Y 30)) ∈ ex_tb := ex_in (i := 662) (by decide +kernel) (by decide +kernel)
theorem kt_562 : (Jvm.Cond.selects (ex_Y 30).cls (ex_Y 30) (ex_Y 30)) ∈ ex_tb := ex_in (i := 663) (by decide +kernel) (by decide +kernel)
theorem kt_563 : (Jvm.Cond.methodLink (ex_Rn 0) 66 (ex_Y 30)) ∈ ex_tb := ex_in (i := 661) (by decide +kernel) (by decide +kernel)
theorem kq_V_0 : ∀ q ∈ ex_cV.getD 0 [], ex_PV 0 q.1 q.2 := List.forall_mem_cons.mpr ⟨⟨by decide, by unfold ex_ar; decide +kernel, kt_531, kt_532, kt_533, by decide +kernel⟩, List.forall_mem_cons.mpr ⟨⟨by decide, by unfold ex_ar; decide +kernel, kt_534, kt_535, kt_536, by decide +kernel⟩, List.forall_mem_cons.mpr ⟨⟨by decide, by unfold ex_ar; decide +kernel, kt_537, kt_538, kt_539, by decide +kernel⟩, List.forall_mem_cons.mpr ⟨⟨by decide, by unfold ex_ar; decide +kernel, kt_540, kt_541, kt_542, by decide +kernel⟩, List.forall_mem_cons.mpr ⟨⟨by decide, by unfold ex_ar; decide +kernel, kt_543, kt_544, kt_545, by decide +kernel⟩, List.forall_mem_cons.mpr ⟨⟨by decide, by unfold ex_ar; decide +kernel, kt_546, kt_547, kt_548, by decide +kernel⟩, List.forall_mem_cons.mpr ⟨⟨by decide, by unfold ex_ar; decide +kernel, kt_549, kt_550, kt_551, by decide +kernel⟩, List.forall_mem_cons.mpr ⟨⟨by decide, by unfold ex_ar; decide +kernel, kt_552, kt_553, kt_554, by decide +kernel⟩, List.forall_mem_cons.mpr ⟨⟨by decide, by unfold ex_ar; decide +kernel, kt_555, kt_556, kt_557, by decide +kernel⟩, List.forall_mem_cons.mpr ⟨⟨by decide, by unfold ex_ar; decide +kernel, kt_558, kt_559, kt_560, by decide +kernel⟩, List.forall_mem_cons.mpr ⟨⟨by decide, by unfold ex_ar; decide +kernel, kt_561, kt_562, kt_563, by decide +kernel⟩, fun _ h => absurd h List.not_mem_nil⟩⟩⟩⟩⟩⟩⟩⟩⟩⟩⟩
theorem kt_564 : (Jvm.Cond.instanceMethod (ex_Y 87)) ∈ ex_tb := ex_in (i := 371) (by decide +kernel) (by decide +kernel)
theorem kt_565 : (Jvm.Cond.selects (ex_Y 87).cls (ex_Y 87) (ex_Y 87)) ∈ ex_tb := ex_in (i := 372) (by decide +kernel) (by decide +kernel)
theorem kt_566 : (Jvm.Cond.methodLink (ex_Rn 1) 49 (ex_Y 87)) ∈ ex_tb := ex_in (i := 489) (by decide +kernel) (by decide +kernel)
theorem kt_567 : (Jvm.Cond.instanceMethod (ex_Y 88)) ∈ ex_tb := ex_in (i := 410) (by decide +kernel) (by decide +kernel)
theorem kt_568 : (Jvm.Cond.selects (ex_Y 88).cls (ex_Y 88) (ex_Y 88)) ∈ ex_tb := ex_in (i := 411) (by decide +kernel) (by decide +kernel)
theorem kt_569 : (Jvm.Cond.methodLink (ex_Rn 1) 55 (ex_Y 88)) ∈ ex_tb := ex_in (i := 490) (by decide +kernel) (by decide +kernel)
theorem kt_570 : (Jvm.Cond.instanceMethod (ex_Y 12)) ∈ ex_tb := ex_in (i := 493) (by decide +kernel) (by decide +kernel)
theorem kt_571 : (Jvm.Cond.selects (ex_Y 12).cls (ex_Y 12) (ex_Y 12)) ∈ ex_tb := ex_in (i := 9) (by decide +kernel) (by decide +kernel)
theorem kt_572 : (Jvm.Cond.methodLink (ex_Rn 1) 59 (ex_Y 12)) ∈ ex_tb := ex_in (i := 491) (by decide +kernel) (by decide +kernel)
theorem kt_573 : (Jvm.Cond.instanceMethod (ex_Y 13)) ∈ ex_tb := ex_in (i := 498) (by decide +kernel) (by decide +kernel)
theorem kt_574 : (Jvm.Cond.selects (ex_Y 13).cls (ex_Y 13) (ex_Y 13)) ∈ ex_tb := ex_in (i := 10) (by decide +kernel) (by decide +kernel)
theorem kt_575 : (Jvm.Cond.methodLink (ex_Rn 1) 63 (ex_Y 13)) ∈ ex_tb := ex_in (i := 496) (by decide +kernel) (by decide +kernel)
theorem kt_576 : (Jvm.Cond.instanceMethod (ex_Y 14)) ∈ ex_tb := ex_in (i := 502) (by decide +kernel) (by decide +kernel)
theorem kt_577 : (Jvm.Cond.selects (ex_Y 14).cls (ex_Y 14) (ex_Y 14)) ∈ ex_tb := ex_in (i := 11) (by decide +kernel) (by decide +kernel)
theorem kt_578 : (Jvm.Cond.methodLink (ex_Rn 1) 73 (ex_Y 14)) ∈ ex_tb := ex_in (i := 500) (by decide +kernel) (by decide +kernel)
theorem kt_579 : (Jvm.Cond.instanceMethod (ex_Y 17)) ∈ ex_tb := ex_in (i := 530) (by decide +kernel) (by decide +kernel)
theorem kt_580 : (Jvm.Cond.selects (ex_Y 17).cls (ex_Y 17) (ex_Y 17)) ∈ ex_tb := ex_in (i := 14) (by decide +kernel) (by decide +kernel)
theorem kt_581 : (Jvm.Cond.methodLink (ex_Rn 1) 76 (ex_Y 17)) ∈ ex_tb := ex_in (i := 528) (by decide +kernel) (by decide +kernel)
theorem kt_582 : (Jvm.Cond.instanceMethod (ex_Y 15)) ∈ ex_tb := ex_in (i := 506) (by decide +kernel) (by decide +kernel)
theorem kt_583 : (Jvm.Cond.selects (ex_Y 15).cls (ex_Y 15) (ex_Y 15)) ∈ ex_tb := ex_in (i := 12) (by decide +kernel) (by decide +kernel)
theorem kt_584 : (Jvm.Cond.methodLink (ex_Rn 1) 83 (ex_Y 15)) ∈ ex_tb := ex_in (i := 504) (by decide +kernel) (by decide +kernel)
theorem kt_585 : (Jvm.Cond.instanceMethod (ex_Y 16)) ∈ ex_tb := ex_in (i := 514) (by decide +kernel) (by decide +kernel)
theorem kt_586 : (Jvm.Cond.selects (ex_Y 16).cls (ex_Y 16) (ex_Y 16)) ∈ ex_tb := ex_in (i := 13) (by decide +kernel) (by decide +kernel)
theorem kt_587 : (Jvm.Cond.methodLink (ex_Rn 1) 92 (ex_Y 16)) ∈ ex_tb := ex_in (i := 512) (by decide +kernel) (by decide +kernel)
theorem kt_588 : (Jvm.Cond.instanceMethod (ex_Y 23)) ∈ ex_tb := ex_in (i := 517) (by decide +kernel) (by decide +kernel)
theorem kt_589 : (Jvm.Cond.selects (ex_Y 23).cls (ex_Y 23) (ex_Y 23)) ∈ ex_tb := ex_in (i := 518) (by decide +kernel) (by decide +kernel)
theorem kt_590 : (Jvm.Cond.methodLink (ex_Rn 1) 96 (ex_Y 23)) ∈ ex_tb := ex_in (i := 516) (by decide +kernel) (by decide +kernel)
theorem kt_591 : (Jvm.Cond.instanceMethod (ex_Y 24)) ∈ ex_tb := ex_in (i := 525) (by decide +kernel) (by decide +kernel)
theorem kt_592 : (Jvm.Cond.selects (ex_Y 24).cls (ex_Y 24) (ex_Y 24)) ∈ ex_tb := ex_in (i := 526) (by decide +kernel) (by decide +kernel)
theorem kt_593 : (Jvm.Cond.methodLink (ex_Rn 1) 100 (ex_Y 24)) ∈ ex_tb := ex_in (i := 524) (by decide +kernel) (by decide +kernel)
theorem kt_594 : (Jvm.Cond.instanceMethod (ex_Y 18)) ∈ ex_tb := ex_in (i := 535) (by decide +kernel) (by decide +kernel)
theorem kt_595 : (Jvm.Cond.selects (ex_Y 18).cls (ex_Y 18) (ex_Y 18)) ∈ ex_tb := ex_in (i := 15) (by decide +kernel) (by decide +kernel)
theorem kt_596 : (Jvm.Cond.methodLink (ex_Rn 1) 104 (ex_Y 18)) ∈ ex_tb := ex_in (i := 533) (by decide +kernel) (by decide +kernel)
theorem kt_597 : (Jvm.Cond.instanceMethod (ex_Y 32)) ∈ ex_tb := ex_in (i := 539) (by decide +kernel) (by decide +kernel)
theorem kt_598 : (Jvm.Cond.selects (ex_Y 32).cls (ex_Y 32) (ex_Y 32)) ∈ ex_tb := ex_in (i := 16) (by decide +kernel) (by decide +kernel)
theorem kt_599 : (Jvm.Cond.methodLink (ex_Rn 1) 108 (ex_Y 32)) ∈ ex_tb := ex_in (i := 537) (by decide +kernel) (by decide +kernel)
theorem kt_600 : (Jvm.Cond.instanceMethod (ex_Y 22)) ∈ ex_tb := ex_in (i := 521) (by decide +kernel) (by decide +kernel)
theorem kt_601 : (Jvm.Cond.selects (ex_Y 22).cls (ex_Y 22) (ex_Y 22)) ∈ ex_tb := ex_in (i := 522) (by decide +kernel) (by decide +kernel)
theorem kt_602 : (Jvm.Cond.methodLink (ex_Rn 1) 111 (ex_Y 22)) ∈ ex_tb := ex_in (i := 520) (by decide +kernel) (by decide +kernel)
theorem kt_603 : (Jvm.Cond.instanceMethod (ex_Y 28)) ∈ ex_tb := ex_in (i := 666) (by decide +kernel) (by decide +kernel)
theorem kt_604 : (Jvm.Cond.selects (ex_Y 28).cls (ex_Y 28) (ex_Y 28)) ∈ ex_tb := ex_in (i := 667) (by decide +kernel) (by decide +kernel)
theorem kt_605 : (Jvm.Cond.methodLink (ex_Rn 1) 114 (ex_Y 28)) ∈ ex_tb := ex_in (i := 703) (by decide +kernel) (by decide +kernel)
theorem kt_606 : (Jvm.Cond.instanceMethod (ex_Y 33)) ∈ ex_tb := ex_in (i := 543) (by decide +kernel) (by decide +kernel)
theorem kt_607 : (Jvm.Cond.selects (ex_Y 33).cls (ex_Y 33) (ex_Y 33)) ∈ ex_tb := ex_in (i := 17) (by decide +kernel) (by decide +kernel)
theorem kt_608 : (Jvm.Cond.methodLink (ex_Rn 1) 117 (ex_Y 33)) ∈ ex_tb := ex_in (i := 541) (by decide +kernel) (by decide +kernel)
theorem kt_609 : (Jvm.Cond.methodLink (ex_Rn 1) 120 (ex_Y 26)) ∈ ex_tb := ex_in (i := 545) (by decide +kernel) (by decide +kernel)
theorem kt_610 : (Jvm.Cond.instanceMethod (ex_Y 25)) ∈ ex_tb := ex_in (i := 550) (by decide +kernel) (by decide +kernel)
theorem kt_611 : (Jvm.Cond.selects (ex_Y 25).cls (ex_Y 25) (ex_Y 25)) ∈ ex_tb := ex_in (i := 551) (by decide +kernel) (by decide +kernel)
theorem kt_612 : (Jvm.Cond.methodLink (ex_Rn 1) 123 (ex_Y 25)) ∈ ex_tb := ex_in (i := 549) (by decide +kernel) (by decide +kernel)
theorem kq_V_1 : ∀ q ∈ ex_cV.getD 1 [], ex_PV 1 q.1 q.2 := List.forall_mem_cons.mpr ⟨⟨by decide, by unfold ex_ar; decide +kernel, kt_564, kt_565, kt_566, by decide +kernel⟩, List.forall_mem_cons.mpr ⟨⟨by decide, by unfold ex_ar; decide +kernel, kt_567, kt_568, kt_569, by decide +kernel⟩, List.forall_mem_cons.mpr ⟨⟨by decide, by unfold ex_ar; decide +kernel, kt_570, kt_571, kt_572, by decide +kernel⟩, List.forall_mem_cons.mpr ⟨⟨by decide, by unfold ex_ar; decide +kernel, kt_573, kt_574, kt_575, by decide +kernel⟩, List.forall_mem_cons.mpr ⟨⟨by decide, by unfold ex_ar; decide +kernel, kt_576, kt_577, kt_578, by decide +kernel⟩, List.forall_mem_cons.mpr ⟨⟨by decide, by unfold ex_ar; decide +kernel, kt_579, kt_580, kt_581, by decide +kernel⟩, List.forall_mem_cons.mpr ⟨⟨by decide, by unfold ex_ar; decide +kernel, kt_582, kt_583, kt_584, by decide +kernel⟩, List.forall_mem_cons.mpr ⟨⟨by decide, by unfold ex_ar; decide +kernel, kt_585, kt_586, kt_587, by decide +kernel⟩, List.forall_mem_cons.mpr ⟨⟨by decide, by unfold ex_ar; decide +kernel, kt_588, kt_589, kt_590, by decide +kernel⟩, List.forall_mem_cons.mpr ⟨⟨by decide, by unfold ex_ar; decide +kernel, kt_591, kt_592, kt_593, by decide +kernel⟩, List.forall_mem_cons.mpr ⟨⟨by decide, by unfold ex_ar; decide +kernel, kt_594, kt_595, kt_596, by decide +kernel⟩, List.forall_mem_cons.mpr ⟨⟨by decide, by unfold ex_ar; decide +kernel, kt_597, kt_598, kt_599, by decide +kernel⟩, List.forall_mem_cons.mpr ⟨⟨by decide, by unfold ex_ar; decide +kernel, kt_600, kt_601, kt_602, by decide +kernel⟩, List.forall_mem_cons.mpr ⟨⟨by decide, by unfold ex_ar; decide +kernel, kt_603, kt_604, kt_605, by decide +kernel⟩, List.forall_mem_cons.mpr ⟨⟨by decide, by unfold ex_ar; decide +kernel, kt_606, kt_607, kt_608, by decide +kernel⟩, List.forall_mem_cons.mpr ⟨⟨by decide, by unfold ex_ar; decide +kernel, kt_552, kt_553, kt_609, by decide +kernel⟩, List.forall_mem_cons.mpr ⟨⟨by decide, by unfold ex_ar; decide +kernel, kt_610, kt_611, kt_612, by decide +kernel⟩, fun _ h => absurd h List.not_mem_nil⟩⟩⟩⟩⟩⟩⟩⟩⟩⟩⟩⟩⟩⟩⟩⟩⟩
theorem kt_613 : (Jvm.Cond.instanceMethod (ex_Y 36)) ∈ ex_tb := ex_in (i := 422) (by decide +kernel) (by decide +kernel)
theorem kt_614 : (Jvm.Cond.selects (ex_Y 36).cls (ex_Y 36) (ex_Y 36)) ∈ ex_tb := ex_in (i := 0) (by decide +kernel) (by decide +kernel)
theorem kt_615 : (Jvm.Cond.methodLink (ex_Rn 2) 25 (ex_Y 36)) ∈ ex_tb := ex_in (i := 420) (by decide +kernel) (by decide +kernel)
theorem kt_616 : (Jvm.Cond.instanceMethod (ex_Y 37)) ∈ ex_tb := ex_in (i := 426) (by decide +kernel) (by decide +kernel)
theorem kt_617 : (Jvm.Cond.selects (ex_Y 37).cls (ex_Y 37) (ex_Y 37)) ∈ ex_tb := ex_in (i := 1) (by decide +kernel) (by decide +kernel)
theorem kt_618 : (Jvm.Cond.methodLink (ex_Rn 2) 29 (ex_Y 37)) ∈ ex_tb := ex_in (i := 424) (by decide +kernel) (by decide +kernel)
theorem kt_619 : (Jvm.Cond.instanceMethod (ex_Y 38)) ∈ ex_tb := ex_in (i := 434) (by decide +kernel) (by decide +kernel)
theorem kt_620 : (Jvm.Cond.selects (ex_Y 38).cls (ex_Y 38) (ex_Y 38)) ∈ ex_tb := ex_in (i := 3) (by decide +kernel) (by decide +kernel)
theorem kt_621 : (Jvm.Cond.methodLink (ex_Rn 2) 32 (ex_Y 38)) ∈ ex_tb := ex_in (i := 432) (by decide +kernel) (by decide +kernel)
theorem kt_622 : (Jvm.Cond.instanceMethod (ex_Y 39)) ∈ ex_tb := ex_in (i := 430) (by decide +kernel) (by decide +kernel)
theorem kt_623 : (Jvm.Cond.selects (ex_Y 39).cls (ex_Y 39) (ex_Y 39)) ∈ ex_tb := ex_in (i := 2) (by decide +kernel) (by decide +kernel)
theorem kt_624 : (Jvm.Cond.methodLink (ex_Rn 2) 35 (ex_Y 39)) ∈ ex_tb := ex_in (i := 428) (by decide +kernel) (by decide +kernel)
theorem kq_V_2 : ∀ q ∈ ex_cV.getD 2 [], ex_PV 2 q.1 q.2 := List.forall_mem_cons.mpr ⟨⟨by decide, by unfold ex_ar; decide +kernel, kt_613, kt_614, kt_615, by decide +kernel⟩, List.forall_mem_cons.mpr ⟨⟨by decide, by unfold ex_ar; decide +kernel, kt_616, kt_617, kt_618, by decide +kernel⟩, List.forall_mem_cons.mpr ⟨⟨by decide, by unfold ex_ar; decide +kernel, kt_619, kt_620, kt_621, by decide +kernel⟩, List.forall_mem_cons.mpr ⟨⟨by decide, by unfold ex_ar; decide +kernel, kt_622, kt_623, kt_624, by decide +kernel⟩, fun _ h => absurd h List.not_mem_nil⟩⟩⟩⟩
theorem kt_625 : (Jvm.Cond.methodLink (ex_Rn 3) 24 (ex_Y 90)) ∈ ex_tb := ex_in (i := 801) (by decide +kernel) (by decide +kernel)
theorem kt_626 : (Jvm.Cond.methodLink (ex_Rn 3) 39 (ex_Y 93)) ∈ ex_tb := ex_in (i := 805) (by decide +kernel) (by decide +kernel)
theorem kt_627 : (Jvm.Cond.instanceMethod (ex_Y 42)) ∈ ex_tb := ex_in (i := 808) (by decide +kernel) (by decide +kernel)
theorem kt_628 : (Jvm.Cond.selects (ex_Y 42).cls (ex_Y 42) (ex_Y 42)) ∈ ex_tb := ex_in (i := 26) (by decide +kernel) (by decide +kernel)
theorem kt_629 : (Jvm.Cond.methodLink (ex_Rn 3) 42 (ex_Y 42)) ∈ ex_tb := ex_in (i := 806) (by decide +kernel) (by decide +kernel)
theorem kt_630 : (Jvm.Cond.instanceMethod (ex_Y 47)) ∈ ex_tb := ex_in (i := 811) (by decide +kernel) (by decide +kernel)
theorem kt_631 : (Jvm.Cond.selects (ex_Y 47).cls (ex_Y 47) (ex_Y 47)) ∈ ex_tb := ex_in (i := 812) (by decide +kernel) (by decide +kernel)
theorem kt_632 : (Jvm.Cond.methodLink (ex_Rn 3) 46 (ex_Y 47)) ∈ ex_tb := ex_in (i := 810) (by decide +kernel) (by decide +kernel)
theorem kt_633 : (Jvm.Cond.instanceMethod (ex_Y 20)) ∈ ex_tb := ex_in (i := 562) (by decide +kernel) (by decide +kernel)
theorem kt_634 : (Jvm.Cond.selects (ex_Y 20).cls (ex_Y 20) (ex_Y 20)) ∈ ex_tb := ex_in (i := 563) (by decide +kernel) (by decide +kernel)
theorem kt_635 : (Jvm.Cond.methodLink (ex_Rn 3) 53 (ex_Y 20)) ∈ ex_tb := ex_in (i := 817) (by decide +kernel) (by decide +kernel)
theorem kt_636 : (Jvm.Cond.methodLink (ex_Rn 3) 58 (ex_Y 23)) ∈ ex_tb := ex_in (i := 818) (by decide +kernel) (by decide +kernel)
theorem kt_637 : (Jvm.Cond.instanceMethod (ex_Y 68)) ∈ ex_tb := ex_in (i := 686) (by decide +kernel) (by decide +kernel)
theorem kt_638 : (Jvm.Cond.selects (ex_Y 68).cls (ex_Y 68) (ex_Y 68)) ∈ ex_tb := ex_in (i := 687) (by decide +kernel) (by decide +kernel)
theorem kt_639 : (Jvm.Cond.methodLink (ex_Rn 3) 62 (ex_Y 68)) ∈ ex_tb := ex_in (i := 819) (by decide +kernel) (by decide +kernel)
theorem kt_640 : (Jvm.Cond.instanceMethod (ex_Y 44)) ∈ ex_tb := ex_in (i := 822) (by decide +kernel) (by decide +kernel)
theorem kt_641 : (Jvm.Cond.selects (ex_Y 44).cls (ex_Y 44) (ex_Y 44)) ∈ ex_tb := ex_in (i := 27) (by decide +kernel) (by decide +kernel)
theorem kt_642 : (Jvm.Cond.methodLink (ex_Rn 3) 68 (ex_Y 44)) ∈ ex_tb := ex_in (i := 820) (by decide +kernel) (by decide +kernel)
theorem kt_643 : (Jvm.Cond.instanceMethod (ex_Y 45)) ∈ ex_tb := ex_in (i := 826) (by decide +kernel) (by decide +kernel)
theorem kt_644 : (Jvm.Cond.selects (ex_Y 45).cls (ex_Y 45) (ex_Y 45)) ∈ ex_tb := ex_in (i := 28) (by decide +kernel) (by decide +kernel)
theorem kt_645 : (Jvm.Cond.methodLink (ex_Rn 3) 72 (ex_Y 45)) ∈ ex_tb := ex_in (i := 824) (by decide +kernel) (by decide +kernel)
theorem kt_646 : (Jvm.Cond.methodLink (ex_Rn 3) 76 (ex_Y 26)) ∈ ex_tb := ex_in (i := 829) (by decide +kernel) (by decide +kernel)
theorem kt_647 : (Jvm.Cond.methodLink (ex_Rn 3) 79 (ex_Y 30)) ∈ ex_tb := ex_in (i := 830) (by decide +kernel) (by decide +kernel)
theorem kt_648 : (Jvm.Cond.instanceMethod (ex_Y 51)) ∈ ex_tb := ex_in (i := 862) (by decide +kernel) (by decide +kernel)
theorem kt_649 : (Jvm.Cond.selects (ex_Y 51).cls (ex_Y 51) (ex_Y 51)) ∈ ex_tb := ex_in (i := 31) (by decide +kernel) (by decide +kernel)
theorem kt_650 : (Jvm.Cond.methodLink (ex_Rn 3) 89 (ex_Y 51)) ∈ ex_tb := ex_in (i := 860) (by decide +kernel) (by decide +kernel)
theorem kq_V_3 : ∀ q ∈ ex_cV.getD 3 [], ex_PV 3 q.1 q.2 := List.forall_mem_cons.mpr ⟨⟨by decide, by unfold ex_ar; decide +kernel, kt_555, kt_556, kt_625, by decide +kernel⟩, List.forall_mem_cons.mpr ⟨⟨by decide, by unfold ex_ar; decide +kernel, kt_537, kt_538, kt_626, by decide +kernel⟩, List.forall_mem_cons.mpr ⟨⟨by decide, by unfold ex_ar; decide +kernel, kt_627, kt_628, kt_629, by decide +kernel⟩, List.forall_mem_cons.mpr ⟨⟨by decide, by unfold ex_ar; decide +kernel, kt_630, kt_631, kt_632, by decide +kernel⟩, List.forall_mem_cons.mpr ⟨⟨by decide, by unfold ex_ar; decide +kernel, kt_633, kt_634, kt_635, by decide +kernel⟩, List.forall_mem_cons.mpr ⟨⟨by decide, by unfold ex_ar; decide +kernel, kt_588, kt_589, kt_636, by decide +kernel⟩, List.forall_mem_cons.mpr ⟨⟨by decide, by unfold ex_ar; decide +kernel, kt_637, kt_638, kt_639, by decide +kernel⟩, List.forall_mem_cons.mpr ⟨⟨by decide, by unfold ex_ar; decide +kernel, kt_640, kt_641, kt_642, by decide +kernel⟩, List.forall_mem_cons.mpr ⟨⟨by decide, by unfold ex_ar; decide +kernel, kt_643, kt_644, kt_645, by decide +kernel⟩, List.forall_mem_cons.mpr ⟨⟨by decide, by unfold ex_ar; decide +kernel, kt_552, kt_553, kt_646, by decide +kernel⟩, List.forall_mem_cons.mpr ⟨⟨by decide, by unfold ex_ar; decide +kernel, kt_561, kt_562, kt_647, by decide +kernel⟩, List.forall_mem_cons.mpr ⟨⟨by decide, by unfold ex_ar; decide +kernel, kt_648, kt_649, kt_650, by decide +kernel⟩, fun _ h => absurd h List.not_mem_nil⟩⟩⟩⟩⟩⟩⟩⟩⟩⟩⟩⟩
theorem kt_651 : (Jvm.Cond.instanceMethod (ex_Y 55)) ∈ ex_tb := ex_in (i := 441) (by decide +kernel) (by decide +kernel)
theorem kt_652 : (Jvm.Cond.selects (ex_Y 55).cls (ex_Y 55) (ex_Y 55)) ∈ ex_tb := ex_in (i := 4) (by decide +kernel) (by decide +kernel)
theorem kt_653 : (Jvm.Cond.methodLink (ex_Rn 4) 33 (ex_Y 55)) ∈ ex_tb := ex_in (i := 439) (by decide +kernel) (by decide +kernel)
theorem kt_654 : (Jvm.Cond.instanceMethod (ex_Y 56)) ∈ ex_tb := ex_in (i := 445) (by decide +kernel) (by decide +kernel)
theorem kt_655 : (Jvm.Cond.selects (ex_Y 56).cls (ex_Y 56) (ex_Y 56)) ∈ ex_tb := ex_in (i := 5) (by decide +kernel) (by decide +kernel)
theorem kt_656 : (Jvm.Cond.methodLink (ex_Rn 4) 37 (ex_Y 56)) ∈ ex_tb := ex_in (i := 443) (by decide +kernel) (by decide +kernel)
theorem kt_657 : (Jvm.Cond.instanceMethod (ex_Y 57)) ∈ ex_tb := ex_in (i := 449) (by decide +kernel) (by decide +kernel)
theorem kt_658 : (Jvm.Cond.selects (ex_Y 57).cls (ex_Y 57) (ex_Y 57)) ∈ ex_tb := ex_in (i := 6) (by decide +kernel) (by decide +kernel)
theorem kt_659 : (Jvm.Cond.methodLink (ex_Rn 4) 40 (ex_Y 57)) ∈ ex_tb := ex_in (i := 447) (by decide +kernel) (by decide +kernel)
theorem kt_660 : (Jvm.Cond.instanceMethod (ex_Y 58)) ∈ ex_tb := ex_in (i := 457) (by decide +kernel) (by decide +kernel)
theorem kt_661 : (Jvm.Cond.selects (ex_Y 58).cls (ex_Y 58) (ex_Y 58)) ∈ ex_tb := ex_in (i := 8) (by decide +kernel) (by decide +kernel)
theorem kt_662 : (Jvm.Cond.methodLink (ex_Rn 4) 43 (ex_Y 58)) ∈ ex_tb := ex_in (i := 455) (by decide +kernel) (by decide +kernel)
theorem kt_663 : (Jvm.Cond.instanceMethod (ex_Y 59)) ∈ ex_tb := ex_in (i := 453) (by decide +kernel) (by decide +kernel)
theorem kt_664 : (Jvm.Cond.selects (ex_Y 59).cls (ex_Y 59) (ex_Y 59)) ∈ ex_tb := ex_in (i := 7) (by decide +kernel) (by decide +kernel)
theorem kt_665 : (Jvm.Cond.methodLink (ex_Rn 4) 46 (ex_Y 59)) ∈ ex_tb := ex_in (i := 451) (by decide +kernel) (by decide +kernel)
theorem kq_V_4 : ∀ q ∈ ex_cV.getD 4 [], ex_PV 4 q.1 q.2 := List.forall_mem_cons.mpr ⟨⟨by decide, by unfold ex_ar; decide +kernel, kt_651, kt_652, kt_653, by decide +kernel⟩, List.forall_mem_cons.mpr ⟨⟨by decide, by unfold ex_ar; decide +kernel, kt_654, kt_655, kt_656, by decide +kernel⟩, List.forall_mem_cons.mpr ⟨⟨by decide, by unfold ex_ar; decide +kernel, kt_657, kt_658, kt_659, by decide +kernel⟩, List.forall_mem_cons.mpr ⟨⟨by decide, by unfold ex_ar; decide +kernel, kt_660, kt_661, kt_662, by decide +kernel⟩, List.forall_mem_cons.mpr ⟨⟨by decide, by unfold ex_ar; decide +kernel, kt_663, kt_664, kt_665, by decide +kernel⟩, fun _ h => absurd h List.not_mem_nil⟩⟩⟩⟩⟩
theorem kt_666 : (Jvm.Cond.methodLink (ex_Rn 5) 20 (ex_Y 90)) ∈ ex_tb := ex_in (i := 606) (by decide +kernel) (by decide +kernel)
theorem kt_667 : (Jvm.Cond.instanceMethod (ex_Y 91)) ∈ ex_tb := ex_in (i := 577) (by decide +kernel) (by decide +kernel)
theorem kt_668 : (Jvm.Cond.selects (ex_Y 91).cls (ex_Y 91) (ex_Y 91)) ∈ ex_tb := ex_in (i := 578) (by decide +kernel) (by decide +kernel)
theorem kt_669 : (Jvm.Cond.methodLink (ex_Rn 5) 24 (ex_Y 91)) ∈ ex_tb := ex_in (i := 576) (by decide +kernel) (by decide +kernel)
theorem kt_670 : (Jvm.Cond.instanceMethod (ex_Y 62)) ∈ ex_tb := ex_in (i := 585) (by decide +kernel) (by decide +kernel)
theorem kt_671 : (Jvm.Cond.selects (ex_Y 62).cls (ex_Y 62) (ex_Y 62)) ∈ ex_tb := ex_in (i := 586) (by decide +kernel) (by decide +kernel)
theorem kt_672 : (Jvm.Cond.methodLink (ex_Rn 5) 28 (ex_Y 62)) ∈ ex_tb := ex_in (i := 584) (by decide +kernel) (by decide +kernel)
theorem kt_673 : (Jvm.Cond.instanceMethod (ex_Y 92)) ∈ ex_tb := ex_in (i := 589) (by decide +kernel) (by decide +kernel)
theorem kt_674 : (Jvm.Cond.selects (ex_Y 92).cls (ex_Y 92) (ex_Y 92)) ∈ ex_tb := ex_in (i := 590) (by decide +kernel) (by decide +kernel)
theorem kt_675 : (Jvm.Cond.methodLink (ex_Rn 5) 34 (ex_Y 92)) ∈ ex_tb := ex_in (i := 588) (by decide +kernel) (by decide +kernel)
theorem kt_676 : (Jvm.Cond.methodLink (ex_Rn 5) 38 (ex_Y 93)) ∈ ex_tb := ex_in (i := 614) (by decide +kernel) (by decide +kernel)
theorem kt_677 : (Jvm.Cond.instanceMethod (ex_Y 69)) ∈ ex_tb := ex_in (i := 691) (by decide +kernel) (by decide +kernel)
theorem kt_678 : (Jvm.Cond.selects (ex_Y 69).cls (ex_Y 69) (ex_Y 69)) ∈ ex_tb := ex_in (i := 19) (by decide +kernel) (by decide +kernel)
theorem kt_679 : (Jvm.Cond.methodLink (ex_Rn 5) 42 (ex_Y 69)) ∈ ex_tb := ex_in (i := 689) (by decide +kernel) (by decide +kernel)
theorem kt_680 : (Jvm.Cond.instanceMethod (ex_Y 70)) ∈ ex_tb := ex_in (i := 695) (by decide +kernel) (by decide +kernel)
theorem kt_681 : (Jvm.Cond.selects (ex_Y 70).cls (ex_Y 70) (ex_Y 70)) ∈ ex_tb := ex_in (i := 20) (by decide +kernel) (by decide +kernel)
theorem kt_682 : (Jvm.Cond.methodLink (ex_Rn 5) 46 (ex_Y 70)) ∈ ex_tb := ex_in (i := 693) (by decide +kernel) (by decide +kernel)
theorem kt_683 : (Jvm.Cond.methodLink (ex_Rn 5) 50 (ex_Y 25)) ∈ ex_tb := ex_in (i := 697) (by decide +kernel) (by decide +kernel)
theorem kt_684 : (Jvm.Cond.instanceMethod (ex_Y 27)) ∈ ex_tb := ex_in (i := 675) (by decide +kernel) (by decide +kernel)
theorem kt_685 : (Jvm.Cond.selects (ex_Y 27).cls (ex_Y 27) (ex_Y 27)) ∈ ex_tb := ex_in (i := 676) (by decide +kernel) (by decide +kernel)
theorem kt_686 : (Jvm.Cond.methodLink (ex_Rn 5) 55 (ex_Y 27)) ∈ ex_tb := ex_in (i := 698) (by decide +kernel) (by decide +kernel)
theorem kt_687 : (Jvm.Cond.instanceMethod (ex_Y 29)) ∈ ex_tb := ex_in (i := 700) (by decide +kernel) (by decide +kernel)
theorem kt_688 : (Jvm.Cond.selects (ex_Y 29).cls (ex_Y 29) (ex_Y 29)) ∈ ex_tb := ex_in (i := 701) (by decide +kernel) (by decide +kernel)
theorem kt_689 : (Jvm.Cond.methodLink (ex_Rn 5) 59 (ex_Y 29)) ∈ ex_tb := ex_in (i := 699) (by decide +kernel) (by decide +kernel)
theorem kq_V_5 : ∀ q ∈ ex_cV.getD 5 [], ex_PV 5 q.1 q.2 := List.forall_mem_cons.mpr ⟨⟨by decide, by unfold ex_ar; decide +kernel, kt_555, kt_556, kt_666, by decide +kernel⟩, List.forall_mem_cons.mpr ⟨⟨by decide, by unfold ex_ar; decide +kernel, kt_667, kt_668, kt_669, by decide +kernel⟩, List.forall_mem_cons.mpr ⟨⟨by decide, by unfold ex_ar; decide +kernel, kt_670, kt_671, kt_672, by decide +kernel⟩, List.forall_mem_cons.mpr ⟨⟨by decide, by unfold ex_ar; decide +kernel, kt_673, kt_674, kt_675, by decide +kernel⟩, List.forall_mem_cons.mpr ⟨⟨by decide, by unfold ex_ar; decide +kernel, kt_537, kt_538, kt_676, by decide +kernel⟩, List.forall_mem_cons.mpr ⟨⟨by decide, by unfold ex_ar; decide +kernel, kt_677, kt_678, kt_679, by decide +kernel⟩, List.forall_mem_cons.mpr ⟨⟨by decide, by unfold ex_ar; decide +kernel, kt_680, kt_681, kt_682, by decide +kernel⟩, List.forall_mem_cons.mpr ⟨⟨by decide, by unfold ex_ar; decide +kernel, kt_610, kt_611, kt_683, by decide +kernel⟩, List.forall_mem_cons.mpr ⟨⟨by decide, by unfold ex_ar; decide +kernel, kt_684, kt_685, kt_686, by decide +kernel⟩, List.forall_mem_cons.mpr ⟨⟨by decide, by unfold ex_ar; decide +kernel, kt_687, kt_688, kt_689, by decide +kernel⟩, fun _ h => absurd h List.not_mem_nil⟩⟩⟩⟩⟩⟩⟩⟩⟩⟩
theorem kt_690 : (Jvm.Cond.methodLink (ex_Rn 6) 30 (ex_Y 90)) ∈ ex_tb := ex_in (i := 835) (by decide +kernel) (by decide +kernel)
theorem kt_691 : (Jvm.Cond.methodLink (ex_Rn 6) 48 (ex_Y 3)) ∈ ex_tb := ex_in (i := 837) (by decide +kernel) (by decide +kernel)
theorem kt_692 : (Jvm.Cond.methodLink (ex_Rn 6) 52 (ex_Y 6)) ∈ ex_tb := ex_in (i := 838) (by decide +kernel) (by decide +kernel)
theorem kt_693 : (Jvm.Cond.methodLink (ex_Rn 6) 55 (ex_Y 30)) ∈ ex_tb := ex_in (i := 839) (by decide +kernel) (by decide +kernel)
theorem kt_694 : (Jvm.Cond.instanceMethod (ex_Y 80)) ∈ ex_tb := ex_in (i := 846) (by decide +kernel) (by decide +kernel)
theorem kt_695 : (Jvm.Cond.selects (ex_Y 80).cls (ex_Y 80) (ex_Y 80)) ∈ ex_tb := ex_in (i := 29) (by decide +kernel) (by decide +kernel)
theorem kt_696 : (Jvm.Cond.methodLink (ex_Rn 6) 64 (ex_Y 80)) ∈ ex_tb := ex_in (i := 844) (by decide +kernel) (by decide +kernel)
theorem kt_697 : (Jvm.Cond.instanceMethod (ex_Y 81)) ∈ ex_tb := ex_in (i := 879) (by decide +kernel) (by decide +kernel)
theorem kt_698 : (Jvm.Cond.selects (ex_Y 81).cls (ex_Y 81) (ex_Y 81)) ∈ ex_tb := ex_in (i := 32) (by decide +kernel) (by decide +kernel)
theorem kt_699 : (Jvm.Cond.methodLink (ex_Rn 6) 67 (ex_Y 81)) ∈ ex_tb := ex_in (i := 877) (by decide +kernel) (by decide +kernel)
theorem kt_700 : (Jvm.Cond.instanceMethod (ex_Y 74)) ∈ ex_tb := ex_in (i := 887) (by decide +kernel) (by decide +kernel)
theorem kt_701 : (Jvm.Cond.selects (ex_Y 74).cls (ex_Y 74) (ex_Y 74)) ∈ ex_tb := ex_in (i := 33) (by decide +kernel) (by decide +kernel)
theorem kt_702 : (Jvm.Cond.methodLink (ex_Rn 6) 71 (ex_Y 74)) ∈ ex_tb := ex_in (i := 885) (by decide +kernel) (by decide +kernel)
theorem kt_703 : (Jvm.Cond.instanceMethod (ex_Y 75)) ∈ ex_tb := ex_in (i := 891) (by decide +kernel) (by decide +kernel)
theorem kt_704 : (Jvm.Cond.selects (ex_Y 75).cls (ex_Y 75) (ex_Y 75)) ∈ ex_tb := ex_in (i := 34) (by decide +kernel) (by decide +kernel)
theorem kt_705 : (Jvm.Cond.methodLink (ex_Rn 6) 75 (ex_Y 75)) ∈ ex_tb := ex_in (i := 889) (by decide +kernel) (by decide +kernel)
theorem kt_706 : (Jvm.Cond.instanceMethod (ex_Y 77)) ∈ ex_tb := ex_in (i := 904) (by decide +kernel) (by decide +kernel)
theorem kt_707 : (Jvm.Cond.selects (ex_Y 77).cls (ex_Y 77) (ex_Y 77)) ∈ ex_tb := ex_in (i := 35) (by decide +kernel) (by decide +kernel)
theorem kt_708 : (Jvm.Cond.methodLink (ex_Rn 6) 76 (ex_Y 77)) ∈ ex_tb := ex_in (i := 902) (by decide +kernel) (by decide +kernel)
theorem kt_709 : (Jvm.Cond.instanceMethod (ex_Y 79)) ∈ ex_tb := ex_in (i := 912) (by decide +kernel) (by decide +kernel)
theorem kt_710 : (Jvm.Cond.selects (ex_Y 79).cls (ex_Y 79) (ex_Y 79)) ∈ ex_tb := ex_in (i := 36) (by decide +kernel) (by decide +kernel)
theorem kt_711 : (Jvm.Cond.methodLink (ex_Rn 6) 80 (ex_Y 79)) ∈ ex_tb := ex_in (i := 910) (by decide +kernel) (by decide +kernel)
theorem kt_712 : (Jvm.Cond.instanceMethod (ex_Y 46)) ∈ ex_tb := ex_in (i := 882) (by decide +kernel) (by decide +kernel)
theorem kt_713 : (Jvm.Cond.selects (ex_Y 46).cls (ex_Y 46) (ex_Y 46)) ∈ ex_tb := ex_in (i := 883) (by decide +kernel) (by decide +kernel)
theorem kt_714 : (Jvm.Cond.methodLink (ex_Rn 6) 83 (ex_Y 46)) ∈ ex_tb := ex_in (i := 881) (by decide +kernel) (by decide +kernel)
theorem kt_715 : (Jvm.Cond.instanceMethod (ex_Y 83)) ∈ ex_tb := ex_in (i := 850) (by decide +kernel) (by decide +kernel)
theorem kt_716 : (Jvm.Cond.selects (ex_Y 83).cls (ex_Y 83) (ex_Y 83)) ∈ ex_tb := ex_in (i := 30) (by decide +kernel) (by decide +kernel)
theorem kt_717 : (Jvm.Cond.methodLink (ex_Rn 6) 86 (ex_Y 83)) ∈ ex_tb := ex_in (i := 848) (by decide +kernel) (by decide +kernel)
theorem kt_718 : (Jvm.Cond.instanceMethod (ex_Y 48)) ∈ ex_tb := ex_in (i := 853) (by decide +kernel) (by decide +kernel)
theorem kt_719 : (Jvm.Cond.selects (ex_Y 48).cls (ex_Y 48) (ex_Y 48)) ∈ ex_tb := ex_in (i := 854) (by decide +kernel) (by decide +kernel)
theorem kt_720 : (Jvm.Cond.methodLink (ex_Rn 6) 90 (ex_Y 48)) ∈ ex_tb := ex_in (i := 852) (by decide +kernel) (by decide +kernel)
theorem kt_721 : (Jvm.Cond.instanceMethod (ex_Y 50)) ∈ ex_tb := ex_in (i := 857) (by decide +kernel) (by decide +kernel)
theorem kt_722 : (Jvm.Cond.selects (ex_Y 50).cls (ex_Y 50) (ex_Y 50)) ∈ ex_tb := ex_in (i := 858) (by decide +kernel) (by decide +kernel)
theorem kt_723 : (Jvm.Cond.methodLink (ex_Rn 6) 94 (ex_Y 50)) ∈ ex_tb := ex_in (i := 856) (by decide +kernel) (by decide +kernel)
theorem kt_724 : (Jvm.Cond.instanceMethod (ex_Y 49)) ∈ ex_tb := ex_in (i := 865) (by decide +kernel) (by decide +kernel)
theorem kt_725 : (Jvm.Cond.selects (ex_Y 49).cls (ex_Y 49) (ex_Y 49)) ∈ ex_tb := ex_in (i := 866) (by decide +kernel) (by decide +kernel)
theorem kt_726 : (Jvm.Cond.methodLink (ex_Rn 6) 97 (ex_Y 49)) ∈ ex_tb := ex_in (i := 864) (by decide +kernel) (by decide +kernel)
theorem kq_V_6 : ∀ q ∈ ex_cV.getD 6 [], ex_PV 6 q.1 q.2 := List.forall_mem_cons.mpr ⟨⟨by decide, by unfold ex_ar; decide +kernel, kt_555, kt_556, kt_690, by decide +kernel⟩, List.forall_mem_cons.mpr ⟨⟨by decide, by unfold ex_ar; decide +kernel, kt_549, kt_550, kt_691, by decide +kernel⟩, List.forall_mem_cons.mpr ⟨⟨by decide, by unfold ex_ar; decide +kernel, kt_558, kt_559, kt_692, by decide +kernel⟩, List.forall_mem_cons.mpr ⟨⟨by decide, by unfold ex_ar; decide +kernel, kt_561, kt_562, kt_693, by decide +kernel⟩, List.forall_mem_cons.mpr ⟨⟨by decide, by unfold ex_ar; decide +kernel, kt_694, kt_695, kt_696, by decide +kernel⟩, List.forall_mem_cons.mpr ⟨⟨by decide, by unfold ex_ar; decide +kernel, kt_697, kt_698, kt_699, by decide +kernel⟩, List.forall_mem_cons.mpr ⟨⟨by decide, by unfold ex_ar; decide +kernel, kt_700, kt_701, kt_702, by decide +kernel⟩, List.forall_mem_cons.mpr ⟨⟨by decide, by unfold ex_ar; decide +kernel, kt_703, kt_704, kt_705, by decide +kernel⟩, List.forall_mem_cons.mpr ⟨⟨by decide, by unfold ex_ar; decide +kernel, kt_706, kt_707, kt_708, by decide +kernel⟩, List.forall_mem_cons.mpr ⟨⟨by decide, by unfold ex_ar; decide +kernel, kt_709, kt_710, kt_711, by decide +kernel⟩, List.forall_mem_cons.mpr ⟨⟨by decide, by unfold ex_ar; decide +kernel, kt_712, kt_713, kt_714, by decide +kernel⟩, List.forall_mem_cons.mpr ⟨⟨by decide, by unfold ex_ar; decide +kernel, kt_715, kt_716, kt_717, by decide +kernel⟩, List.forall_mem_cons.mpr ⟨⟨by decide, by unfold ex_ar; decide +kernel, kt_718, kt_719, kt_720, by decide +kernel⟩, List.forall_mem_cons.mpr ⟨⟨by decide, by unfold ex_ar; decide +kernel, kt_721, kt_722, kt_723, by decide +kernel⟩, List.forall_mem_cons.mpr ⟨⟨by decide, by unfold ex_ar; decide +kernel, kt_724, kt_725, kt_726, by decide +kernel⟩, fun _ h => absurd h List.not_mem_nil⟩⟩⟩⟩⟩⟩⟩⟩⟩⟩⟩⟩⟩⟩⟩
theorem kq_V_7 : ∀ q ∈ ex_cV.getD 7 [], ex_PV 7 q.1 q.2 := fun _ h => absurd h List.not_mem_nil
theorem kt_727 : (Jvm.Cond.methodLink (ex_Rn 8) 22 (ex_Y 91)) ∈ ex_tb := ex_in (i := 592) (by decide +kernel) (by decide +kernel)
theorem kt_728 : (Jvm.Cond.methodLink (ex_Rn 8) 26 (ex_Y 94)) ∈ ex_tb := ex_in (i := 593) (by decide +kernel) (by decide +kernel)
theorem kq_V_8 : ∀ q ∈ ex_cV.getD 8 [], ex_PV 8 q.1 q.2 := List.forall_mem_cons.mpr ⟨⟨by decide, by unfold ex_ar; decide +kernel, kt_667, kt_668, kt_727, by decide +kernel⟩, List.forall_mem_cons.mpr ⟨⟨by decide, by unfold ex_ar; decide +kernel, kt_546, kt_547, kt_728, by decide +kernel⟩, fun _ h => absurd h List.not_mem_nil⟩⟩
theorem kt_729 : (Jvm.Cond.methodLink (ex_Rn 9) 12 (ex_Y 87)) ∈ ex_tb := ex_in (i := 408) (by decide +kernel) (by decide +kernel)
theorem kt_730 : (Jvm.Cond.methodLink (ex_Rn 9) 18 (ex_Y 88)) ∈ ex_tb := ex_in (i := 409) (by decide +kernel) (by decide +kernel)
theorem kq_V_9 : ∀ q ∈ ex_cV.getD 9 [], ex_PV 9 q.1 q.2 := List.forall_mem_cons.mpr ⟨⟨by decide, by unfold ex_ar; decide +kernel, kt_564, kt_565, kt_729, by decide +kernel⟩, List.forall_mem_cons.mpr ⟨⟨by decide, by unfold ex_ar; decide +kernel, kt_567, kt_568, kt_730, by decide +kernel⟩, fun _ h => absurd h List.not_mem_nil⟩⟩
theorem kt_731 : (Jvm.Cond.methodLink (ex_Rn 10) 72 (ex_Y 87)) ∈ ex_tb := ex_in (i := 370) (by decide +kernel) (by decide +kernel)
theorem kt_732 : (Jvm.Cond.instanceMethod (ex_Y 86)) ∈ ex_tb := ex_in (i := 375) (by decide +kernel) (by decide +kernel)
theorem kt_733 : (Jvm.Cond.selects (ex_Y 86).cls (ex_Y 86) (ex_Y 86)) ∈ ex_tb := ex_in (i := 376) (by decide +kernel) (by decide +kernel)
theorem kt_734 : (Jvm.Cond.methodLink (ex_Rn 10) 76 (ex_Y 86)) ∈ ex_tb := ex_in (i := 374) (by decide +kernel) (by decide +kernel)
theorem kt_735 : (Jvm.Cond.instanceMethod (ex_Y 89)) ∈ ex_tb := ex_in (i := 383) (by decide +kernel) (by decide +kernel)
theorem kt_736 : (Jvm.Cond.selects (ex_Y 89).cls (ex_Y 89) (ex_Y 89)) ∈ ex_tb := ex_in (i := 384) (by decide +kernel) (by decide +kernel)
theorem kt_737 : (Jvm.Cond.methodLink (ex_Rn 10) 80 (ex_Y 89)) ∈ ex_tb := ex_in (i := 382) (by decide +kernel) (by decide +kernel)
theorem kt_738 : (Jvm.Cond.instanceMethod (ex_Y 11)) ∈ ex_tb := ex_in (i := 486) (by decide +kernel) (by decide +kernel)
theorem kt_739 : (Jvm.Cond.selects (ex_Y 11).cls (ex_Y 11) (ex_Y 11)) ∈ ex_tb := ex_in (i := 487) (by decide +kernel) (by decide +kernel)
theorem kt_740 : (Jvm.Cond.methodLink (ex_Rn 10) 96 (ex_Y 11)) ∈ ex_tb := ex_in (i := 485) (by decide +kernel) (by decide +kernel)
theorem kt_741 : (Jvm.Cond.instanceMethod (ex_Y 0)) ∈ ex_tb := ex_in (i := 554) (by decide +kernel) (by decide +kernel)
theorem kt_742 : (Jvm.Cond.selects (ex_Y 0).cls (ex_Y 0) (ex_Y 0)) ∈ ex_tb := ex_in (i := 555) (by decide +kernel) (by decide +kernel)
theorem kt_743 : (Jvm.Cond.methodLink (ex_Rn 10) 100 (ex_Y 0)) ∈ ex_tb := ex_in (i := 553) (by decide +kernel) (by decide +kernel)
theorem kt_744 : (Jvm.Cond.methodLink (ex_Rn 10) 109 (ex_Y 20)) ∈ ex_tb := ex_in (i := 561) (by decide +kernel) (by decide +kernel)
theorem kt_745 : (Jvm.Cond.instanceMethod (ex_Y 65)) ∈ ex_tb := ex_in (i := 573) (by decide +kernel) (by decide +kernel)
theorem kt_746 : (Jvm.Cond.selects (ex_Y 65).cls (ex_Y 65) (ex_Y 65)) ∈ ex_tb := ex_in (i := 574) (by decide +kernel) (by decide +kernel)
theorem kt_747 : (Jvm.Cond.methodLink (ex_Rn 10) 113 (ex_Y 65)) ∈ ex_tb := ex_in (i := 572) (by decide +kernel) (by decide +kernel)
theorem kt_748 : (Jvm.Cond.instanceMethod (ex_Y 66)) ∈ ex_tb := ex_in (i := 581) (by decide +kernel) (by decide +kernel)
theorem kt_749 : (Jvm.Cond.selects (ex_Y 66).cls (ex_Y 66) (ex_Y 66)) ∈ ex_tb := ex_in (i := 582) (by decide +kernel) (by decide +kernel)
theorem kt_750 : (Jvm.Cond.methodLink (ex_Rn 10) 117 (ex_Y 66)) ∈ ex_tb := ex_in (i := 580) (by decide +kernel) (by decide +kernel)
theorem kt_751 : (Jvm.Cond.instanceMethod (ex_Y 64)) ∈ ex_tb := ex_in (i := 603) (by decide +kernel) (by decide +kernel)
theorem kt_752 : (Jvm.Cond.selects (ex_Y 64).cls (ex_Y 64) (ex_Y 64)) ∈ ex_tb := ex_in (i := 604) (by decide +kernel) (by decide +kernel)
theorem kt_753 : (Jvm.Cond.methodLink (ex_Rn 10) 121 (ex_Y 64)) ∈ ex_tb := ex_in (i := 602) (by decide +kernel) (by decide +kernel)
theorem kt_754 : (Jvm.Cond.instanceMethod (ex_Y 67)) ∈ ex_tb := ex_in (i := 611) (by decide +kernel) (by decide +kernel)
theorem kt_755 : (Jvm.Cond.selects (ex_Y 67).cls (ex_Y 67) (ex_Y 67)) ∈ ex_tb := ex_in (i := 612) (by decide +kernel) (by decide +kernel)
theorem kt_756 : (Jvm.Cond.methodLink (ex_Rn 10) 122 (ex_Y 67)) ∈ ex_tb := ex_in (i := 610) (by decide +kernel) (by decide +kernel)
theorem kt_757 : (Jvm.Cond.instanceMethod (ex_Y 21)) ∈ ex_tb := ex_in (i := 630) (by decide +kernel) (by decide +kernel)
theorem kt_758 : (Jvm.Cond.selects (ex_Y 21).cls (ex_Y 21) (ex_Y 21)) ∈ ex_tb := ex_in (i := 631) (by decide +kernel) (by decide +kernel)
theorem kt_759 : (Jvm.Cond.methodLink (ex_Rn 10) 129 (ex_Y 21)) ∈ ex_tb := ex_in (i := 629) (by decide +kernel) (by decide +kernel)
theorem kt_760 : (Jvm.Cond.instanceMethod (ex_Y 135)) ∈ ex_tb := ex_in (i := 635) (by decide +kernel) (by decide +kernel)
theorem kt_761 : (Jvm.Cond.selects (ex_Y 135).cls (ex_Y 135) (ex_Y 135)) ∈ ex_tb := ex_in (i := 18) (by decide +kernel) (by decide +kernel)
theorem kt_762 : (Jvm.Cond.methodLink (ex_Rn 10) 133 (ex_Y 135)) ∈ ex_tb := ex_in (i := 633) (by decide +kernel) (by decide +kernel)
theorem kt_763 : (Jvm.Cond.methodLink (ex_Rn 10) 136 (ex_Y 23)) ∈ ex_tb := ex_in (i := 673) (by decide +kernel) (by decide +kernel)
theorem kt_764 : (Jvm.Cond.methodLink (ex_Rn 10) 139 (ex_Y 27)) ∈ ex_tb := ex_in (i := 674) (by decide +kernel) (by decide +kernel)
theorem kt_765 : (Jvm.Cond.methodLink (ex_Rn 10) 147 (ex_Y 68)) ∈ ex_tb := ex_in (i := 685) (by decide +kernel) (by decide +kernel)
theorem kt_766 : (Jvm.Cond.methodLink (ex_Rn 10) 155 (ex_Y 91)) ∈ ex_tb := ex_in (i := 708) (by decide +kernel) (by decide +kernel)
theorem kt_767 : (Jvm.Cond.methodLink (ex_Rn 10) 158 (ex_Y 92)) ∈ ex_tb := ex_in (i := 709) (by decide +kernel) (by decide +kernel)
theorem kt_768 : (Jvm.Cond.instanceMethod (ex_Y 139)) ∈ ex_tb := ex_in (i := 716) (by decide +kernel) (by decide +kernel)
theorem kt_769 : (Jvm.Cond.selects (ex_Y 139).cls (ex_Y 139) (ex_Y 139)) ∈ ex_tb := ex_in (i := 21) (by decide +kernel) (by decide +kernel)
theorem kt_770 : (Jvm.Cond.methodLink (ex_Rn 10) 161 (ex_Y 139)) ∈ ex_tb := ex_in (i := 714) (by decide +kernel) (by decide +kernel)
theorem kt_771 : (Jvm.Cond.instanceMethod (ex_Y 138)) ∈ ex_tb := ex_in (i := 722) (by decide +kernel) (by decide +kernel)
theorem kt_772 : (Jvm.Cond.selects (ex_Y 138).cls (ex_Y 138) (ex_Y 138)) ∈ ex_tb := ex_in (i := 22) (by decide +kernel) (by decide +kernel)
theorem kt_773 : (Jvm.Cond.methodLink (ex_Rn 10) 164 (ex_Y 138)) ∈ ex_tb := ex_in (i := 720) (by decide +kernel) (by decide +kernel)
theorem kt_774 : (Jvm.Cond.instanceMethod (ex_Y 19)) ∈ ex_tb := ex_in (i := 732) (by decide +kernel) (by decide +kernel)
theorem kt_775 : (Jvm.Cond.selects (ex_Y 19).cls (ex_Y 19) (ex_Y 19)) ∈ ex_tb := ex_in (i := 733) (by decide +kernel) (by decide +kernel)
theorem kt_776 : (Jvm.Cond.methodLink (ex_Rn 10) 171 (ex_Y 19)) ∈ ex_tb := ex_in (i := 731) (by decide +kernel) (by decide +kernel)
theorem kt_777 : (Jvm.Cond.instanceMethod (ex_Y 140)) ∈ ex_tb := ex_in (i := 737) (by decide +kernel) (by decide +kernel)
theorem kt_778 : (Jvm.Cond.selects (ex_Y 140).cls (ex_Y 140) (ex_Y 140)) ∈ ex_tb := ex_in (i := 23) (by decide +kernel) (by decide +kernel)
theorem kt_779 : (Jvm.Cond.methodLink (ex_Rn 10) 174 (ex_Y 140)) ∈ ex_tb := ex_in (i := 735) (by decide +kernel) (by decide +kernel)
theorem kt_780 : (Jvm.Cond.methodLink (ex_Rn 10) 178 (ex_Y 24)) ∈ ex_tb := ex_in (i := 743) (by decide +kernel) (by decide +kernel)
theorem kt_781 : (Jvm.Cond.instanceMethod (ex_Y 137)) ∈ ex_tb := ex_in (i := 749) (by decide +kernel) (by decide +kernel)
theorem kt_782 : (Jvm.Cond.selects (ex_Y 137).cls (ex_Y 137) (ex_Y 137)) ∈ ex_tb := ex_in (i := 24) (by decide +kernel) (by decide +kernel)
theorem kt_783 : (Jvm.Cond.methodLink (ex_Rn 10) 184 (ex_Y 137)) ∈ ex_tb := ex_in (i := 747) (by decide +kernel) (by decide +kernel)
theorem kt_784 : (Jvm.Cond.methodLink (ex_Rn 10) 190 (ex_Y 90)) ∈ ex_tb := ex_in (i := 718) (by decide +kernel) (by decide +kernel)
theorem kt_785 : (Jvm.Cond.methodLink (ex_Rn 10) 191 (ex_Y 3)) ∈ ex_tb := ex_in (i := 760) (by decide +kernel) (by decide +kernel)
theorem kt_786 : (Jvm.Cond.instanceMethod (ex_Y 136)) ∈ ex_tb := ex_in (i := 770) (by decide +kernel) (by decide +kernel)
theorem kt_787 : (Jvm.Cond.selects (ex_Y 136).cls (ex_Y 136) (ex_Y 136)) ∈ ex_tb := ex_in (i := 25) (by decide +kernel) (by decide +kernel)
theorem kt_788 : (Jvm.Cond.methodLink (ex_Rn 10) 195 (ex_Y 136)) ∈ ex_tb := ex_in (i := 768) (by decide +kernel) (by decide +kernel)
theorem kt_789 : (Jvm.Cond.methodLink (ex_Rn 10) 198 (ex_Y 6)) ∈ ex_tb := ex_in (i := 783) (by decide +kernel) (by decide +kernel)
theorem kt_790 : (Jvm.Cond.instanceMethod (ex_Y 7)) ∈ ex_tb := ex_in (i := 785) (by decide +kernel) (by decide +kernel)
theorem kt_791 : (Jvm.Cond.selects (ex_Y 7).cls (ex_Y 7) (ex_Y 7)) ∈ ex_tb := ex_in (i := 786) (by decide +kernel) (by decide +kernel)
theorem kt_792 : (Jvm.Cond.methodLink (ex_Rn 10) 201 (ex_Y 7)) ∈ ex_tb := ex_in (i := 784) (by decide +kernel) (by decide +kernel)
theorem kt_793 : (Jvm.Cond.instanceMethod (ex_Y 41)) ∈ ex_tb := ex_in (i := 798) (by decide +kernel) (by decide +kernel)
theorem kt_794 : (Jvm.Cond.selects (ex_Y 41).cls (ex_Y 41) (ex_Y 41)) ∈ ex_tb := ex_in (i := 799) (by decide +kernel) (by decide +kernel)
theorem kt_795 : (Jvm.Cond.methodLink (ex_Rn 10) 208 (ex_Y 41)) ∈ ex_tb := ex_in (i := 797) (by decide +kernel) (by decide +kernel)
theorem kt_796 : (Jvm.Cond.instanceMethod (ex_Y 71)) ∈ ex_tb := ex_in (i := 832) (by decide +kernel) (by decide +kernel)
theorem kt_797 : (Jvm.Cond.selects (ex_Y 71).cls (ex_Y 71) (ex_Y 71)) ∈ ex_tb := ex_in (i := 833) (by decide +kernel) (by decide +kernel)
theorem kt_798 : (Jvm.Cond.methodLink (ex_Rn 10) 212 (ex_Y 71)) ∈ ex_tb := ex_in (i := 831) (by decide +kernel) (by decide +kernel)
theorem kt_799 : (Jvm.Cond.instanceMethod (ex_Y 82)) ∈ ex_tb := ex_in (i := 841) (by decide +kernel) (by decide +kernel)
theorem kt_800 : (Jvm.Cond.selects (ex_Y 82).cls (ex_Y 82) (ex_Y 82)) ∈ ex_tb := ex_in (i := 842) (by decide +kernel) (by decide +kernel)
theorem kt_801 : (Jvm.Cond.methodLink (ex_Rn 10) 216 (ex_Y 82)) ∈ ex_tb := ex_in (i := 840) (by decide +kernel) (by decide +kernel)
theorem kt_802 : (Jvm.Cond.instanceMethod (ex_Y 73)) ∈ ex_tb := ex_in (i := 874) (by decide +kernel) (by decide +kernel)
theorem kt_803 : (Jvm.Cond.selects (ex_Y 73).cls (ex_Y 73) (ex_Y 73)) ∈ ex_tb := ex_in (i := 875) (by decide +kernel) (by decide +kernel)
theorem kt_804 : (Jvm.Cond.methodLink (ex_Rn 10) 223 (ex_Y 73)) ∈ ex_tb := ex_in (i := 873) (by decide +kernel) (by decide +kernel)
theorem kt_805 : (Jvm.Cond.instanceMethod (ex_Y 52)) ∈ ex_tb := ex_in (i := 895) (by decide +kernel) (by decide +kernel)
theorem kt_806 : (Jvm.Cond.selects (ex_Y 52).cls (ex_Y 52) (ex_Y 52)) ∈ ex_tb := ex_in (i := 896) (by decide +kernel) (by decide +kernel)
theorem kt_807 : (Jvm.Cond.methodLink (ex_Rn 10) 227 (ex_Y 52)) ∈ ex_tb := ex_in (i := 894) (by decide +kernel) (by decide +kernel)
theorem kt_808 : (Jvm.Cond.instanceMethod (ex_Y 76)) ∈ ex_tb := ex_in (i := 899) (by decide +kernel) (by decide +kernel)
theorem kt_809 : (Jvm.Cond.selects (ex_Y 76).cls (ex_Y 76) (ex_Y 76)) ∈ ex_tb := ex_in (i := 900) (by decide +kernel) (by decide +kernel)
theorem kt_810 : (Jvm.Cond.methodLink (ex_Rn 10) 230 (ex_Y 76)) ∈ ex_tb := ex_in (i := 898) (by decide +kernel) (by decide +kernel)
theorem kt_811 : (Jvm.Cond.instanceMethod (ex_Y 78)) ∈ ex_tb := ex_in (i := 907) (by decide +kernel) (by decide +kernel)
theorem kt_812 : (Jvm.Cond.selects (ex_Y 78).cls (ex_Y 78) (ex_Y 78)) ∈ ex_tb := ex_in (i := 908) (by decide +kernel) (by decide +kernel)
theorem kt_813 : (Jvm.Cond.methodLink (ex_Rn 10) 234 (ex_Y 78)) ∈ ex_tb := ex_in (i := 906) (by decide +kernel) (by decide +kernel)
theorem kt_814 : (Jvm.Cond.instanceMethod (ex_Y 72)) ∈ ex_tb := ex_in (i := 915) (by decide +kernel) (by decide +kernel)
theorem kt_815 : (Jvm.Cond.selects (ex_Y 72).cls (ex_Y 72) (ex_Y 72)) ∈ ex_tb := ex_in (i := 916) (by decide +kernel) (by decide +kernel)
theorem kt_816 : (Jvm.Cond.methodLink (ex_Rn 10) 238 (ex_Y 72)) ∈ ex_tb := ex_in (i := 914) (by decide +kernel) (by decide +kernel)
theorem kt_817 : (Jvm.Cond.instanceMethod (ex_Y 9)) ∈ ex_tb := ex_in (i := 753) (by decide +kernel) (by decide +kernel)
theorem kt_818 : (Jvm.Cond.selects (ex_Y 9).cls (ex_Y 9) (ex_Y 9)) ∈ ex_tb := ex_in (i := 754) (by decide +kernel) (by decide +kernel)
theorem kt_819 : (Jvm.Cond.methodLink (ex_Rn 10) 240 (ex_Y 9)) ∈ ex_tb := ex_in (i := 752) (by decide +kernel) (by decide +kernel)
theorem kt_820 : (Jvm.Cond.instanceMethod (ex_Y 31)) ∈ ex_tb := ex_in (i := 923) (by decide +kernel) (by decide +kernel)
theorem kt_821 : (Jvm.Cond.selects (ex_Y 31).cls (ex_Y 31) (ex_Y 31)) ∈ ex_tb := ex_in (i := 924) (by decide +kernel) (by decide +kernel)
theorem kt_822 : (Jvm.Cond.methodLink (ex_Rn 10) 244 (ex_Y 31)) ∈ ex_tb := ex_in (i := 922) (by decide +kernel) (by decide +kernel)
theorem kt_823 : (Jvm.Cond.methodLink (ex_Rn 10) 247 (ex_Y 4)) ∈ ex_tb := ex_in (i := 772) (by decide +kernel) (by decide +kernel)
theorem kt_824 : (Jvm.Cond.methodLink (ex_Rn 10) 250 (ex_Y 25)) ∈ ex_tb := ex_in (i := 638) (by decide +kernel) (by decide +kernel)
theorem kt_825 : (Jvm.Cond.instanceMethod (ex_Y 8)) ∈ ex_tb := ex_in (i := 775) (by decide +kernel) (by decide +kernel)
theorem kt_826 : (Jvm.Cond.selects (ex_Y 8).cls (ex_Y 8) (ex_Y 8)) ∈ ex_tb := ex_in (i := 776) (by decide +kernel) (by decide +kernel)
theorem kt_827 : (Jvm.Cond.methodLink (ex_Rn 10) 253 (ex_Y 8)) ∈ ex_tb := ex_in (i := 774) (by decide +kernel) (by decide +kernel)
theorem kt_828 : (Jvm.Cond.methodLink (ex_Rn 10) 256 (ex_Y 29)) ∈ ex_tb := ex_in (i := 934) (by decide +kernel) (by decide +kernel)
theorem kt_829 : (Jvm.Cond.instanceMethod (ex_Y 141)) ∈ ex_tb := ex_in (i := 959) (by decide +kernel) (by decide +kernel)
theorem kt_830 : (Jvm.Cond.selects (ex_Y 141).cls (ex_Y 141) (ex_Y 141)) ∈ ex_tb := ex_in (i := 37) (by decide +kernel) (by decide +kernel)
theorem kt_831 : (Jvm.Cond.methodLink (ex_Rn 10) 265 (ex_Y 141)) ∈ ex_tb := ex_in (i := 957) (by decide +kernel) (by decide +kernel)
theorem kt_832 : (Jvm.Cond.instanceMethod (ex_Y 1)) ∈ ex_tb := ex_in (i := 970) (by decide +kernel) (by decide +kernel)
theorem kt_833 : (Jvm.Cond.selects (ex_Y 1).cls (ex_Y 1) (ex_Y 1)) ∈ ex_tb := ex_in (i := 971) (by decide +kernel) (by decide +kernel)
theorem kt_834 : (Jvm.Cond.methodLink (ex_Rn 10) 268 (ex_Y 1)) ∈ ex_tb := ex_in (i := 969) (by decide +kernel) (by decide +kernel)
theorem kt_835 : (Jvm.Cond.instanceMethod (ex_Y 143)) ∈ ex_tb := ex_in (i := 995) (by decide +kernel) (by decide +kernel)
theorem kt_836 : (Jvm.Cond.selects (ex_Y 143).cls (ex_Y 143) (ex_Y 143)) ∈ ex_tb := ex_in (i := 39) (by decide +kernel) (by decide +kernel)
theorem kt_837 : (Jvm.Cond.methodLink (ex_Rn 10) 274 (ex_Y 143)) ∈ ex_tb := ex_in (i := 993) (by decide +kernel) (by decide +kernel)
theorem kt_838 : (Jvm.Cond.instanceMethod (ex_Y 144)) ∈ ex_tb := ex_in (i := 1000) (by decide +kernel) (by decide +kernel)
theorem kt_839 : (Jvm.Cond.selects (ex_Y 144).cls (ex_Y 144) (ex_Y 144)) ∈ ex_tb := ex_in (i := 40) (by decide +kernel) (by decide +kernel)
theorem kt_840 : (Jvm.Cond.methodLink (ex_Rn 10) 278 (ex_Y 144)) ∈ ex_tb := ex_in (i := 998) (by decide +kernel) (by decide +kernel)
theorem kt_841 : (Jvm.Cond.instanceMethod (ex_Y 145)) ∈ ex_tb := ex_in (i := 1004) (by decide +kernel) (by decide +kernel)
theorem kt_842 : (Jvm.Cond.selects (ex_Y 145).cls (ex_Y 145) (ex_Y 145)) ∈ ex_tb := ex_in (i := 41) (by decide +kernel) (by decide +kernel)
theorem kt_843 : (Jvm.Cond.methodLink (ex_Rn 10) 281 (ex_Y 145)) ∈ ex_tb := ex_in (i := 1002) (by decide +kernel) (by decide +kernel)
theorem kt_844 : (Jvm.Cond.instanceMethod (ex_Y 146)) ∈ ex_tb := ex_in (i := 1008) (by decide +kernel) (by decide +kernel)
theorem kt_845 : (Jvm.Cond.selects (ex_Y 146).cls (ex_Y 146) (ex_Y 146)) ∈ ex_tb := ex_in (i := 42) (by decide +kernel) (by decide +kernel)
theorem kt_846 : (Jvm.Cond.methodLink (ex_Rn 10) 284 (ex_Y 146)) ∈ ex_tb := ex_in (i := 1006) (by decide +kernel) (by decide +kernel)
theorem kt_847 : (Jvm.Cond.instanceMethod (ex_Y 117)) ∈ ex_tb := ex_in (i := 794) (by decide +kernel) (by decide +kernel)
theorem kt_848 : (Jvm.Cond.selects (ex_Y 117).cls (ex_Y 117) (ex_Y 117)) ∈ ex_tb := ex_in (i := 795) (by decide +kernel) (by decide +kernel)
theorem kt_849 : (Jvm.Cond.methodLink (ex_Rn 10) 293 (ex_Y 117)) ∈ ex_tb := ex_in (i := 1013) (by decide +kernel) (by decide +kernel)
theorem kt_850 : (Jvm.Cond.methodLink (ex_Rn 10) 296 (ex_Y 88)) ∈ ex_tb := ex_in (i := 1014) (by decide +kernel) (by decide +kernel)
theorem kt_851 : (Jvm.Cond.instanceMethod (ex_Y 128)) ∈ ex_tb := ex_in (i := 985) (by decide +kernel) (by decide +kernel)
theorem kt_852 : (Jvm.Cond.selects (ex_Y 128).cls (ex_Y 128) (ex_Y 128)) ∈ ex_tb := ex_in (i := 986) (by decide +kernel) (by decide +kernel)
theorem kt_853 : (Jvm.Cond.methodLink (ex_Rn 10) 299 (ex_Y 128)) ∈ ex_tb := ex_in (i := 1015) (by decide +kernel) (by decide +kernel)
theorem kt_854 : (Jvm.Cond.methodLink (ex_Rn 10) 307 (ex_Y 22)) ∈ ex_tb := ex_in (i := 637) (by decide +kernel) (by decide +kernel)
theorem kt_855 : (Jvm.Cond.instanceMethod (ex_Y 10)) ∈ ex_tb := ex_in (i := 640) (by decide +kernel) (by decide +kernel)
theorem kt_856 : (Jvm.Cond.selects (ex_Y 10).cls (ex_Y 10) (ex_Y 10)) ∈ ex_tb := ex_in (i := 641) (by decide +kernel) (by decide +kernel)
theorem kt_857 : (Jvm.Cond.methodLink (ex_Rn 10) 308 (ex_Y 10)) ∈ ex_tb := ex_in (i := 639) (by decide +kernel) (by decide +kernel)
theorem kt_858 : (Jvm.Cond.methodLink (ex_Rn 10) 311 (ex_Y 28)) ∈ ex_tb := ex_in (i := 665) (by decide +kernel) (by decide +kernel)
theorem kt_859 : (Jvm.Cond.methodLink (ex_Rn 10) 314 (ex_Y 5)) ∈ ex_tb := ex_in (i := 773) (by decide +kernel) (by decide +kernel)
theorem kt_860 : (Jvm.Cond.methodLink (ex_Rn 10) 317 (ex_Y 30)) ∈ ex_tb := ex_in (i := 751) (by decide +kernel) (by decide +kernel)
theorem kt_861 : (Jvm.Cond.methodLink (ex_Rn 10) 320 (ex_Y 93)) ∈ ex_tb := ex_in (i := 719) (by decide +kernel) (by decide +kernel)
theorem kt_862 : (Jvm.Cond.instanceMethod (ex_Y 142)) ∈ ex_tb := ex_in (i := 963) (by decide +kernel) (by decide +kernel)
theorem kt_863 : (Jvm.Cond.selects (ex_Y 142).cls (ex_Y 142) (ex_Y 142)) ∈ ex_tb := ex_in (i := 38) (by decide +kernel) (by decide +kernel)
theorem kt_864 : (Jvm.Cond.methodLink (ex_Rn 10) 323 (ex_Y 142)) ∈ ex_tb := ex_in (i := 961) (by decide +kernel) (by decide +kernel)
theorem kq_V_10 : ∀ q ∈ ex_cV.getD 10 [], ex_PV 10 q.1 q.2 := List.forall_mem_cons.mpr ⟨⟨by decide, by unfold ex_ar; decide +kernel, kt_564, kt_565, kt_731, by decide +kernel⟩, List.forall_mem_cons.mpr ⟨⟨by decide, by unfold ex_ar; decide +kernel, kt_732, kt_733, kt_734, by decide +kernel⟩, List.forall_mem_cons.mpr ⟨⟨by decide, by unfold ex_ar; decide +kernel, kt_735, kt_736, kt_737, by decide +kernel⟩, List.forall_mem_cons.mpr ⟨⟨by decide, by unfold ex_ar; decide +kernel, kt_738, kt_739, kt_740, by decide +kernel⟩, List.forall_mem_cons.mpr ⟨⟨by decide, by unfold ex_ar; decide +kernel, kt_741, kt_742, kt_743, by decide +kernel⟩, List.forall_mem_cons.mpr ⟨⟨by decide, by unfold ex_ar; decide +kernel, kt_633, kt_634, kt_744, by decide +kernel⟩, List.forall_mem_cons.mpr ⟨⟨by decide, by unfold ex_ar; decide +kernel, kt_745, kt_746, kt_747, by decide +kernel⟩, List.forall_mem_cons.mpr ⟨⟨by decide, by unfold ex_ar; decide +kernel, kt_748, kt_749, kt_750, by decide +kernel⟩, List.forall_mem_cons.mpr ⟨⟨by decide, by unfold ex_ar; decide +kernel, kt_751, kt_752, kt_753, by decide +kernel⟩, List.forall_mem_cons.mpr ⟨⟨by decide, by unfold ex_ar; decide +kernel, kt_754, kt_755, kt_756, by decide +kernel⟩, List.forall_mem_cons.mpr ⟨⟨by decide, by unfold ex_ar; decide +kernel, kt_757, kt_758, kt_759, by decide +kernel⟩, List.forall_mem_cons.mpr ⟨⟨by decide, by unfold ex_ar; decide +kernel, kt_760, kt_761, kt_762, by decide +kernel⟩, List.forall_mem_cons.mpr ⟨⟨by decide, by unfold ex_ar; decide +kernel, kt_588, kt_589, kt_763, by decide +kernel⟩, List.forall_mem_cons.mpr ⟨⟨by decide, by unfold ex_ar; decide +kernel, kt_684, kt_685, kt_764, by decide +kernel⟩, List.forall_mem_cons.mpr ⟨⟨by decide, by unfold ex_ar; decide +kernel, kt_637, kt_638, kt_765, by decide +kernel⟩, List.forall_mem_cons.mpr ⟨⟨by decide, by unfold ex_ar; decide +kernel, kt_667, kt_668, kt_766, by decide +kernel⟩, List.forall_mem_cons.mpr ⟨⟨by decide, by unfold ex_ar; decide +kernel, kt_673, kt_674, kt_767, by decide +kernel⟩, List.forall_mem_cons.mpr ⟨⟨by decide, by unfold ex_ar; decide +kernel, kt_768, kt_769, kt_770, by decide +kernel⟩, List.forall_mem_cons.mpr ⟨⟨by decide, by unfold ex_ar; decide +kernel, kt_771, kt_772, kt_773, by decide +kernel⟩, List.forall_mem_cons.mpr ⟨⟨by decide, by unfold ex_ar; decide +kernel, kt_774, kt_775, kt_776, by decide +kernel⟩, List.forall_mem_cons.mpr ⟨⟨by decide, by unfold ex_ar; decide +kernel, kt_777, kt_778, kt_779, by decide +kernel⟩, List.forall_mem_cons.mpr ⟨⟨by decide, by unfold ex_ar; decide +kernel, kt_591, kt_592, kt_780, by decide +kernel⟩, List.forall_mem_cons.mpr ⟨⟨by decide, by unfold ex_ar; decide +kernel, kt_781, kt_782, kt_783, by decide +kernel⟩, List.forall_mem_cons.mpr ⟨⟨by decide, by unfold ex_ar; decide +kernel, kt_555, kt_556, kt_784, by decide +kernel⟩, List.forall_mem_cons.mpr ⟨⟨by decide, by unfold ex_ar; decide +kernel, kt_549, kt_550, kt_785, by decide +kernel⟩, List.forall_mem_cons.mpr ⟨⟨by decide, by unfold ex_ar; decide +kernel, kt_786, kt_787, kt_788, by decide +kernel⟩, List.forall_mem_cons.mpr ⟨⟨by decide, by unfold ex_ar; decide +kernel, kt_558, kt_559, kt_789, by decide +kernel⟩, List.forall_mem_cons.mpr ⟨⟨by decide, by unfold ex_ar; decide +kernel, kt_790, kt_791, kt_792, by decide +kernel⟩, List.forall_mem_cons.mpr ⟨⟨by decide, by unfold ex_ar; decide +kernel, kt_793, kt_794, kt_795, by decide +kernel⟩, List.forall_mem_cons.mpr ⟨⟨by decide, by unfold ex_ar; decide +kernel, kt_796, kt_797, kt_798, by decide +kernel⟩, List.forall_mem_cons.mpr ⟨⟨by decide, by unfold ex_ar; decide +kernel, kt_799, kt_800, kt_801, by decide +kernel⟩, List.forall_mem_cons.mpr ⟨⟨by decide, by unfold ex_ar; decide +kernel, kt_802, kt_803, kt_804, by decide +kernel⟩, List.forall_mem_cons.mpr ⟨⟨by decide, by unfold ex_ar; decide +kernel, kt_805, kt_806, kt_807, by decide +kernel⟩, List.forall_mem_cons.mpr ⟨⟨by decide, by unfold ex_ar; decide +kernel, kt_808, kt_809, kt_810, by decide +kernel⟩, List.forall_mem_cons.mpr ⟨⟨by decide, by unfold ex_ar; decide +kernel, kt_811, kt_812, kt_813, by decide +kernel⟩, List.forall_mem_cons.mpr ⟨⟨by decide, by unfold ex_ar; decide +kernel, kt_814, kt_815, kt_816, by decide +kernel⟩, List.forall_mem_cons.mpr ⟨⟨by decide, by unfold ex_ar; decide +kernel, kt_817, kt_818, kt_819, by decide +kernel⟩, List.forall_mem_cons.mpr ⟨⟨by decide, by unfold ex_ar; decide +kernel, kt_820, kt_821, kt_822, by decide +kernel⟩, List.forall_mem_cons.mpr ⟨⟨by decide, by unfold ex_ar; decide +kernel, kt_540, kt_541, kt_823, by decide +kernel⟩, List.forall_mem_cons.mpr ⟨⟨by decide, by unfold ex_ar; decide +kernel, kt_610, kt_611, kt_824, by decide +kernel⟩, List.forall_mem_cons.mpr ⟨⟨by decide, by unfold ex_ar; decide +kernel, kt_825, kt_826, kt_827, by decide +kernel⟩, List.forall_mem_cons.mpr ⟨⟨by decide, by unfold ex_ar; decide +kernel, kt_687, kt_688, kt_828, by decide +kernel⟩, List.forall_mem_cons.mpr ⟨⟨by decide, by unfold ex_ar; decide +kernel, kt_829, kt_830, kt_831, by decide +kernel⟩, List.forall_mem_cons.mpr ⟨⟨by decide, by unfold ex_ar; decide +kernel, kt_832, kt_833, kt_834, by decide +kernel⟩, List.forall_mem_cons.mpr ⟨⟨by decide, by unfold ex_ar; decide +kernel, kt_835, kt_836, kt_837, by decide +kernel⟩, List.forall_mem_cons.mpr ⟨⟨by decide, by unfold ex_ar; decide +kernel, kt_838, kt_839, kt_840, by decide +kernel⟩, List.forall_mem_cons.mpr ⟨⟨by decide, by unfold ex_ar; decide +kernel, kt_841, kt_842, kt_843, by decide +kernel⟩, List.forall_mem_cons.mpr ⟨⟨by decide, by unfold ex_ar; decide +kernel, kt_844, kt_845, kt_846, by decide +kernel⟩, List.forall_mem_cons.mpr ⟨⟨by decide, by unfold ex_ar; decide +kernel, kt_847, kt_848, kt_849, by decide +kernel⟩, List.forall_mem_cons.mpr ⟨⟨by decide, by unfold ex_ar; decide +kernel, kt_567, kt_568, kt_850, by decide +kernel⟩, List.forall_mem_cons.mpr ⟨⟨by decide, by unfold ex_ar; decide +kernel, kt_851, kt_852, kt_853, by decide +kernel⟩, List.forall_mem_cons.mpr ⟨⟨by decide, by unfold ex_ar; decide +kernel, kt_600, kt_601, kt_854, by decide +kernel⟩, List.forall_mem_cons.mpr ⟨⟨by decide, by unfold ex_ar; decide +kernel, kt_855, kt_856, kt_857, by decide +kernel⟩, List.forall_mem_cons.mpr ⟨⟨by decide, by unfold ex_ar; decide +kernel, kt_603, kt_604, kt_858, by decide +kernel⟩, List.forall_mem_cons.mpr ⟨⟨by decide, by unfold ex_ar; decide +kernel, kt_543, kt_544, kt_859, by decide +kernel⟩, List.forall_mem_cons.mpr ⟨⟨by decide, by unfold ex_ar; decide +kernel, kt_561, kt_562, kt_860, by decide +kernel⟩, List.forall_mem_cons.mpr ⟨⟨by decide, by unfold ex_ar; decide +kernel, kt_537, kt_538, kt_861, by decide +kernel⟩, List.forall_mem_cons.mpr ⟨⟨by decide, by unfold ex_ar; decide +kernel, kt_862, kt_863, kt_864, by decide +kernel⟩, fun _ h => absurd h List.not_mem_nil⟩⟩⟩⟩⟩⟩⟩⟩⟩⟩⟩⟩⟩⟩⟩⟩⟩⟩⟩⟩⟩⟩⟩⟩⟩⟩⟩⟩⟩⟩⟩⟩⟩⟩⟩⟩⟩⟩⟩⟩⟩⟩⟩⟩⟩⟩⟩⟩⟩⟩⟩⟩⟩⟩⟩⟩⟩⟩
theorem kt_865 : (Jvm.Cond.instanceMethod (ex_Y 153)) ∈ ex_tb := ex_in (i := 1220) (by decide +kernel) (by decide +kernel)
theorem kt_866 : (Jvm.Cond.selects (ex_Y 153).cls (ex_Y 153) (ex_Y 153)) ∈ ex_tb := ex_in (i := 44) (by decide +kernel) (by decide +kernel)
theorem kt_867 : (Jvm.Cond.methodLink (ex_Rn 11) 110 (ex_Y 153)) ∈ ex_tb := ex_in (i := 1218) (by decide +kernel) (by decide +kernel)
theorem kt_868 : (Jvm.Cond.instanceMethod (ex_Y 155)) ∈ ex_tb := ex_in (i := 1242) (by decide +kernel) (by decide +kernel)
theorem kt_869 : (Jvm.Cond.selects (ex_Y 155).cls (ex_Y 155) (ex_Y 155)) ∈ ex_tb := ex_in (i := 48) (by decide +kernel) (by decide +kernel)
theorem kt_870 : (Jvm.Cond.methodLink (ex_Rn 11) 129 (ex_Y 155)) ∈ ex_tb := ex_in (i := 1240) (by decide +kernel) (by decide +kernel)
theorem kt_871 : (Jvm.Cond.instanceMethod (ex_Y 156)) ∈ ex_tb := ex_in (i := 1246) (by decide +kernel) (by decide +kernel)
theorem kt_872 : (Jvm.Cond.selects (ex_Y 156).cls (ex_Y 156) (ex_Y 156)) ∈ ex_tb := ex_in (i := 49) (by decide +kernel) (by decide +kernel)
theorem kt_873 : (Jvm.Cond.methodLink (ex_Rn 11) 132 (ex_Y 156)) ∈ ex_tb := ex_in (i := 1244) (by decide +kernel) (by decide +kernel)
theorem kt_874 : (Jvm.Cond.instanceMethod (ex_Y 158)) ∈ ex_tb := ex_in (i := 1254) (by decide +kernel) (by decide +kernel)
theorem kt_875 : (Jvm.Cond.selects (ex_Y 158).cls (ex_Y 158) (ex_Y 158)) ∈ ex_tb := ex_in (i := 51) (by decide +kernel) (by decide +kernel)
theorem kt_876 : (Jvm.Cond.methodLink (ex_Rn 11) 136 (ex_Y 158)) ∈ ex_tb := ex_in (i := 1252) (by decide +kernel) (by decide +kernel)
theorem kt_877 : (Jvm.Cond.instanceMethod (ex_Y 157)) ∈ ex_tb := ex_in (i := 1238) (by decide +kernel) (by decide +kernel)
theorem kt_878 : (Jvm.Cond.selects (ex_Y 157).cls (ex_Y 157) (ex_Y 157)) ∈ ex_tb := ex_in (i := 47) (by decide +kernel) (by decide +kernel)
theorem kt_879 : (Jvm.Cond.methodLink (ex_Rn 11) 148 (ex_Y 157)) ∈ ex_tb := ex_in (i := 1236) (by decide +kernel) (by decide +kernel)
theorem kt_880 : (Jvm.Cond.instanceMethod (ex_Y 159)) ∈ ex_tb := ex_in (i := 1250) (by decide +kernel) (by decide +kernel)
theorem kt_881 : (Jvm.Cond.selects (ex_Y 159).cls (ex_Y 159) (ex_Y 159)) ∈ ex_tb := ex_in (i := 50) (by decide +kernel) (by decide +kernel)
theorem kt_882 : (Jvm.Cond.methodLink (ex_Rn 11) 152 (ex_Y 159)) ∈ ex_tb := ex_in (i := 1248) (by decide +kernel) (by decide +kernel)
theorem kt_883 : (Jvm.Cond.instanceMethod (ex_Y 160)) ∈ ex_tb := ex_in (i := 1231) (by decide +kernel) (by decide +kernel)
theorem kt_884 : (Jvm.Cond.selects (ex_Y 160).cls (ex_Y 160) (ex_Y 160)) ∈ ex_tb := ex_in (i := 46) (by decide +kernel) (by decide +kernel)
theorem kt_885 : (Jvm.Cond.methodLink (ex_Rn 11) 155 (ex_Y 160)) ∈ ex_tb := ex_in (i := 1229) (by decide +kernel) (by decide +kernel)
theorem kt_886 : (Jvm.Cond.instanceMethod (ex_Y 154)) ∈ ex_tb := ex_in (i := 1216) (by decide +kernel) (by decide +kernel)
theorem kt_887 : (Jvm.Cond.selects (ex_Y 154).cls (ex_Y 154) (ex_Y 154)) ∈ ex_tb := ex_in (i := 43) (by decide +kernel) (by decide +kernel)
theorem kt_888 : (Jvm.Cond.methodLink (ex_Rn 11) 159 (ex_Y 154)) ∈ ex_tb := ex_in (i := 1214) (by decide +kernel) (by decide +kernel)
theorem kt_889 : (Jvm.Cond.instanceMethod (ex_Y 161)) ∈ ex_tb := ex_in (i := 1227) (by decide +kernel) (by decide +kernel)
theorem kt_890 : (Jvm.Cond.selects (ex_Y 161).cls (ex_Y 161) (ex_Y 161)) ∈ ex_tb := ex_in (i := 45) (by decide +kernel) (by decide +kernel)
theorem kt_891 : (Jvm.Cond.methodLink (ex_Rn 11) 162 (ex_Y 161)) ∈ ex_tb := ex_in (i := 1225) (by decide +kernel) (by decide +kernel)
theorem kt_892 : (Jvm.Cond.instanceMethod (ex_Y 166)) ∈ ex_tb := ex_in (i := 1270) (by decide +kernel) (by decide +kernel)
theorem kt_893 : (Jvm.Cond.selects (ex_Y 166).cls (ex_Y 166) (ex_Y 166)) ∈ ex_tb := ex_in (i := 52) (by decide +kernel) (by decide +kernel)
theorem kt_894 : (Jvm.Cond.methodLink (ex_Rn 11) 192 (ex_Y 166)) ∈ ex_tb := ex_in (i := 1268) (by decide +kernel) (by decide +kernel)
theorem kt_895 : (Jvm.Cond.instanceMethod (ex_Y 165)) ∈ ex_tb := ex_in (i := 1274) (by decide +kernel) (by decide +kernel)
theorem kt_896 : (Jvm.Cond.selects (ex_Y 165).cls (ex_Y 165) (ex_Y 165)) ∈ ex_tb := ex_in (i := 53) (by decide +kernel) (by decide +kernel)
theorem kt_897 : (Jvm.Cond.methodLink (ex_Rn 11) 195 (ex_Y 165)) ∈ ex_tb := ex_in (i := 1272) (by decide +kernel) (by decide +kernel)
theorem kt_898 : (Jvm.Cond.instanceMethod (ex_Y 169)) ∈ ex_tb := ex_in (i := 1290) (by decide +kernel) (by decide +kernel)
theorem kt_899 : (Jvm.Cond.selects (ex_Y 169).cls (ex_Y 169) (ex_Y 169)) ∈ ex_tb := ex_in (i := 55) (by decide +kernel) (by decide +kernel)
theorem kt_900 : (Jvm.Cond.methodLink (ex_Rn 11) 198 (ex_Y 169)) ∈ ex_tb := ex_in (i := 1288) (by decide +kernel) (by decide +kernel)
theorem kt_901 : (Jvm.Cond.instanceMethod (ex_Y 170)) ∈ ex_tb := ex_in (i := 1286) (by decide +kernel) (by decide +kernel)
theorem kt_902 : (Jvm.Cond.selects (ex_Y 170).cls (ex_Y 170) (ex_Y 170)) ∈ ex_tb := ex_in (i := 54) (by decide +kernel) (by decide +kernel)
theorem kt_903 : (Jvm.Cond.methodLink (ex_Rn 11) 202 (ex_Y 170)) ∈ ex_tb := ex_in (i := 1284) (by decide +kernel) (by decide +kernel)
theorem kt_904 : (Jvm.Cond.instanceMethod (ex_Y 173)) ∈ ex_tb := ex_in (i := 1314) (by decide +kernel) (by decide +kernel)
theorem kt_905 : (Jvm.Cond.selects (ex_Y 173).cls (ex_Y 173) (ex_Y 173)) ∈ ex_tb := ex_in (i := 61) (by decide +kernel) (by decide +kernel)
theorem kt_906 : (Jvm.Cond.methodLink (ex_Rn 11) 205 (ex_Y 173)) ∈ ex_tb := ex_in (i := 1312) (by decide +kernel) (by decide +kernel)
theorem kt_907 : (Jvm.Cond.instanceMethod (ex_Y 174)) ∈ ex_tb := ex_in (i := 1310) (by decide +kernel) (by decide +kernel)
theorem kt_908 : (Jvm.Cond.selects (ex_Y 174).cls (ex_Y 174) (ex_Y 174)) ∈ ex_tb := ex_in (i := 60) (by decide +kernel) (by decide +kernel)
theorem kt_909 : (Jvm.Cond.methodLink (ex_Rn 11) 208 (ex_Y 174)) ∈ ex_tb := ex_in (i := 1308) (by decide +kernel) (by decide +kernel)
theorem kt_910 : (Jvm.Cond.instanceMethod (ex_Y 175)) ∈ ex_tb := ex_in (i := 1306) (by decide +kernel) (by decide +kernel)
theorem kt_911 : (Jvm.Cond.selects (ex_Y 175).cls (ex_Y 175) (ex_Y 175)) ∈ ex_tb := ex_in (i := 59) (by decide +kernel) (by decide +kernel)
theorem kt_912 : (Jvm.Cond.methodLink (ex_Rn 11) 211 (ex_Y 175)) ∈ ex_tb := ex_in (i := 1304) (by decide +kernel) (by decide +kernel)
theorem kt_913 : (Jvm.Cond.instanceMethod (ex_Y 176)) ∈ ex_tb := ex_in (i := 1302) (by decide +kernel) (by decide +kernel)
theorem kt_914 : (Jvm.Cond.selects (ex_Y 176).cls (ex_Y 176) (ex_Y 176)) ∈ ex_tb := ex_in (i := 58) (by decide +kernel) (by decide +kernel)
theorem kt_915 : (Jvm.Cond.methodLink (ex_Rn 11) 215 (ex_Y 176)) ∈ ex_tb := ex_in (i := 1300) (by decide +kernel) (by decide +kernel)
theorem kt_916 : (Jvm.Cond.instanceMethod (ex_Y 177)) ∈ ex_tb := ex_in (i := 1322) (by decide +kernel) (by decide +kernel)
theorem kt_917 : (Jvm.Cond.selects (ex_Y 177).cls (ex_Y 177) (ex_Y 177)) ∈ ex_tb := ex_in (i := 63) (by decide +kernel) (by decide +kernel)
theorem kt_918 : (Jvm.Cond.methodLink (ex_Rn 11) 218 (ex_Y 177)) ∈ ex_tb := ex_in (i := 1320) (by decide +kernel) (by decide +kernel)
theorem kt_919 : (Jvm.Cond.instanceMethod (ex_Y 172)) ∈ ex_tb := ex_in (i := 1298) (by decide +kernel) (by decide +kernel)
theorem kt_920 : (Jvm.Cond.selects (ex_Y 172).cls (ex_Y 172) (ex_Y 172)) ∈ ex_tb := ex_in (i := 57) (by decide +kernel) (by decide +kernel)
theorem kt_921 : (Jvm.Cond.methodLink (ex_Rn 11) 222 (ex_Y 172)) ∈ ex_tb := ex_in (i := 1296) (by decide +kernel) (by decide +kernel)
theorem kt_922 : (Jvm.Cond.instanceMethod (ex_Y 178)) ∈ ex_tb := ex_in (i := 1318) (by decide +kernel) (by decide +kernel)
theorem kt_923 : (Jvm.Cond.selects (ex_Y 178).cls (ex_Y 178) (ex_Y 178)) ∈ ex_tb := ex_in (i := 62) (by decide +kernel) (by decide +kernel)
theorem kt_924 : (Jvm.Cond.methodLink (ex_Rn 11) 225 (ex_Y 178)) ∈ ex_tb := ex_in (i := 1316) (by decide +kernel) (by decide +kernel)
theorem kt_925 : (Jvm.Cond.instanceMethod (ex_Y 179)) ∈ ex_tb := ex_in (i := 1294) (by decide +kernel) (by decide +kernel)
theorem kt_926 : (Jvm.Cond.selects (ex_Y 179).cls (ex_Y 179) (ex_Y 179)) ∈ ex_tb := ex_in (i := 56) (by decide +kernel) (by decide +kernel)
theorem kt_927 : (Jvm.Cond.methodLink (ex_Rn 11) 228 (ex_Y 179)) ∈ ex_tb := ex_in (i := 1292) (by decide +kernel) (by decide +kernel)
theorem kt_928 : (Jvm.Cond.instanceMethod (ex_Y 171)) ∈ ex_tb := ex_in (i := 1331) (by decide +kernel) (by decide +kernel)
theorem kt_929 : (Jvm.Cond.selects (ex_Y 171).cls (ex_Y 171) (ex_Y 171)) ∈ ex_tb := ex_in (i := 64) (by decide +kernel) (by decide +kernel)
theorem kt_930 : (Jvm.Cond.methodLink (ex_Rn 11) 231 (ex_Y 171)) ∈ ex_tb := ex_in (i := 1329) (by decide +kernel) (by decide +kernel)
theorem kt_931 : (Jvm.Cond.instanceMethod (ex_Y 181)) ∈ ex_tb := ex_in (i := 1338) (by decide +kernel) (by decide +kernel)
theorem kt_932 : (Jvm.Cond.selects (ex_Y 181).cls (ex_Y 181) (ex_Y 181)) ∈ ex_tb := ex_in (i := 65) (by decide +kernel) (by decide +kernel)
theorem kt_933 : (Jvm.Cond.methodLink (ex_Rn 11) 237 (ex_Y 181)) ∈ ex_tb := ex_in (i := 1336) (by decide +kernel) (by decide +kernel)
theorem kt_934 : (Jvm.Cond.instanceMethod (ex_Y 184)) ∈ ex_tb := ex_in (i := 1353) (by decide +kernel) (by decide +kernel)
theorem kt_935 : (Jvm.Cond.selects (ex_Y 184).cls (ex_Y 184) (ex_Y 184)) ∈ ex_tb := ex_in (i := 67) (by decide +kernel) (by decide +kernel)
theorem kt_936 : (Jvm.Cond.methodLink (ex_Rn 11) 241 (ex_Y 184)) ∈ ex_tb := ex_in (i := 1351) (by decide +kernel) (by decide +kernel)
theorem kt_937 : (Jvm.Cond.instanceMethod (ex_Y 185)) ∈ ex_tb := ex_in (i := 1357) (by decide +kernel) (by decide +kernel)
theorem kt_938 : (Jvm.Cond.selects (ex_Y 185).cls (ex_Y 185) (ex_Y 185)) ∈ ex_tb := ex_in (i := 68) (by decide +kernel) (by decide +kernel)
theorem kt_939 : (Jvm.Cond.methodLink (ex_Rn 11) 244 (ex_Y 185)) ∈ ex_tb := ex_in (i := 1355) (by decide +kernel) (by decide +kernel)
theorem kt_940 : (Jvm.Cond.instanceMethod (ex_Y 186)) ∈ ex_tb := ex_in (i := 1349) (by decide +kernel) (by decide +kernel)
theorem kt_941 : (Jvm.Cond.selects (ex_Y 186).cls (ex_Y 186) (ex_Y 186)) ∈ ex_tb := ex_in (i := 66) (by decide +kernel) (by decide +kernel)
theorem kt_942 : (Jvm.Cond.methodLink (ex_Rn 11) 251 (ex_Y 186)) ∈ ex_tb := ex_in (i := 1347) (by decide +kernel) (by decide +kernel)
theorem kt_943 : (Jvm.Cond.instanceMethod (ex_Y 190)) ∈ ex_tb := ex_in (i := 1369) (by decide +kernel) (by decide +kernel)
theorem kt_944 : (Jvm.Cond.selects (ex_Y 190).cls (ex_Y 190) (ex_Y 190)) ∈ ex_tb := ex_in (i := 69) (by decide +kernel) (by decide +kernel)
theorem kt_945 : (Jvm.Cond.methodLink (ex_Rn 11) 255 (ex_Y 190)) ∈ ex_tb := ex_in (i := 1367) (by decide +kernel) (by decide +kernel)
theorem kt_946 : (Jvm.Cond.instanceMethod (ex_Y 195)) ∈ ex_tb := ex_in (i := 1395) (by decide +kernel) (by decide +kernel)
theorem kt_947 : (Jvm.Cond.selects (ex_Y 195).cls (ex_Y 195) (ex_Y 195)) ∈ ex_tb := ex_in (i := 72) (by decide +kernel) (by decide +kernel)
theorem kt_948 : (Jvm.Cond.methodLink (ex_Rn 11) 261 (ex_Y 195)) ∈ ex_tb := ex_in (i := 1393) (by decide +kernel) (by decide +kernel)
theorem kt_949 : (Jvm.Cond.instanceMethod (ex_Y 196)) ∈ ex_tb := ex_in (i := 1407) (by decide +kernel) (by decide +kernel)
theorem kt_950 : (Jvm.Cond.selects (ex_Y 196).cls (ex_Y 196) (ex_Y 196)) ∈ ex_tb := ex_in (i := 75) (by decide +kernel) (by decide +kernel)
theorem kt_951 : (Jvm.Cond.methodLink (ex_Rn 11) 264 (ex_Y 196)) ∈ ex_tb := ex_in (i := 1405) (by decide +kernel) (by decide +kernel)
theorem kt_952 : (Jvm.Cond.instanceMethod (ex_Y 194)) ∈ ex_tb := ex_in (i := 1384) (by decide +kernel) (by decide +kernel)
theorem kt_953 : (Jvm.Cond.selects (ex_Y 194).cls (ex_Y 194) (ex_Y 194)) ∈ ex_tb := ex_in (i := 70) (by decide +kernel) (by decide +kernel)
theorem kt_954 : (Jvm.Cond.methodLink (ex_Rn 11) 267 (ex_Y 194)) ∈ ex_tb := ex_in (i := 1382) (by decide +kernel) (by decide +kernel)
theorem kt_955 : (Jvm.Cond.instanceMethod (ex_Y 201)) ∈ ex_tb := ex_in (i := 1391) (by decide +kernel) (by decide +kernel)
theorem kt_956 : (Jvm.Cond.selects (ex_Y 201).cls (ex_Y 201) (ex_Y 201)) ∈ ex_tb := ex_in (i := 71) (by decide +kernel) (by decide +kernel)
theorem kt_957 : (Jvm.Cond.methodLink (ex_Rn 11) 273 (ex_Y 201)) ∈ ex_tb := ex_in (i := 1389) (by decide +kernel) (by decide +kernel)
theorem kt_958 : (Jvm.Cond.instanceMethod (ex_Y 198)) ∈ ex_tb := ex_in (i := 1399) (by decide +kernel) (by decide +kernel)
theorem kt_959 : (Jvm.Cond.selects (ex_Y 198).cls (ex_Y 198) (ex_Y 198)) ∈ ex_tb := ex_in (i := 73) (by decide +kernel) (by decide +kernel)
theorem kt_960 : (Jvm.Cond.methodLink (ex_Rn 11) 276 (ex_Y 198)) ∈ ex_tb := ex_in (i := 1397) (by decide +kernel) (by decide +kernel)
theorem kt_961 : (Jvm.Cond.instanceMethod (ex_Y 197)) ∈ ex_tb := ex_in (i := 1403) (by decide +kernel) (by decide +kernel)
theorem kt_962 : (Jvm.Cond.selects (ex_Y 197).cls (ex_Y 197) (ex_Y 197)) ∈ ex_tb := ex_in (i := 74) (by decide +kernel) (by decide +kernel)
theorem kt_963 : (Jvm.Cond.methodLink (ex_Rn 11) 280 (ex_Y 197)) ∈ ex_tb := ex_in (i := 1401) (by decide +kernel) (by decide +kernel)
theorem kt_964 : (Jvm.Cond.instanceMethod (ex_Y 202)) ∈ ex_tb := ex_in (i := 1415) (by decide +kernel) (by decide +kernel)
theorem kt_965 : (Jvm.Cond.selects (ex_Y 202).cls (ex_Y 202) (ex_Y 202)) ∈ ex_tb := ex_in (i := 76) (by decide +kernel) (by decide +kernel)
theorem kt_966 : (Jvm.Cond.methodLink (ex_Rn 11) 284 (ex_Y 202)) ∈ ex_tb := ex_in (i := 1413) (by decide +kernel) (by decide +kernel)
theorem kt_967 : (Jvm.Cond.instanceMethod (ex_Y 204)) ∈ ex_tb := ex_in (i := 1423) (by decide +kernel) (by decide +kernel)
theorem kt_968 : (Jvm.Cond.selects (ex_Y 204).cls (ex_Y 204) (ex_Y 204)) ∈ ex_tb := ex_in (i := 77) (by decide +kernel) (by decide +kernel)
theorem kt_969 : (Jvm.Cond.methodLink (ex_Rn 11) 287 (ex_Y 204)) ∈ ex_tb := ex_in (i := 1421) (by decide +kernel) (by decide +kernel)
theorem kt_970 : (Jvm.Cond.instanceMethod (ex_Y 208)) ∈ ex_tb := ex_in (i := 1447) (by decide +kernel) (by decide +kernel)
theorem kt_971 : (Jvm.Cond.selects (ex_Y 208).cls (ex_Y 208) (ex_Y 208)) ∈ ex_tb := ex_in (i := 80) (by decide +kernel) (by decide +kernel)
theorem kt_972 : (Jvm.Cond.methodLink (ex_Rn 11) 290 (ex_Y 208)) ∈ ex_tb := ex_in (i := 1445) (by decide +kernel) (by decide +kernel)
theorem kt_973 : (Jvm.Cond.instanceMethod (ex_Y 209)) ∈ ex_tb := ex_in (i := 1451) (by decide +kernel) (by decide +kernel)
theorem kt_974 : (Jvm.Cond.selects (ex_Y 209).cls (ex_Y 209) (ex_Y 209)) ∈ ex_tb := ex_in (i := 81) (by decide +kernel) (by decide +kernel)
theorem kt_975 : (Jvm.Cond.methodLink (ex_Rn 11) 293 (ex_Y 209)) ∈ ex_tb := ex_in (i := 1449) (by decide +kernel) (by decide +kernel)
theorem kt_976 : (Jvm.Cond.instanceMethod (ex_Y 210)) ∈ ex_tb := ex_in (i := 1455) (by decide +kernel) (by decide +kernel)
theorem kt_977 : (Jvm.Cond.selects (ex_Y 210).cls (ex_Y 210) (ex_Y 210)) ∈ ex_tb := ex_in (i := 82) (by decide +kernel) (by decide +kernel)
theorem kt_978 : (Jvm.Cond.methodLink (ex_Rn 11) 296 (ex_Y 210)) ∈ ex_tb := ex_in (i := 1453) (by decide +kernel) (by decide +kernel)
theorem kt_979 : (Jvm.Cond.instanceMethod (ex_Y 211)) ∈ ex_tb := ex_in (i := 1443) (by decide +kernel) (by decide +kernel)
theorem kt_980 : (Jvm.Cond.selects (ex_Y 211).cls (ex_Y 211) (ex_Y 211)) ∈ ex_tb := ex_in (i := 79) (by decide +kernel) (by decide +kernel)
theorem kt_981 : (Jvm.Cond.methodLink (ex_Rn 11) 299 (ex_Y 211)) ∈ ex_tb := ex_in (i := 1441) (by decide +kernel) (by decide +kernel)
theorem kt_982 : (Jvm.Cond.instanceMethod (ex_Y 212)) ∈ ex_tb := ex_in (i := 1439) (by decide +kernel) (by decide +kernel)
theorem kt_983 : (Jvm.Cond.selects (ex_Y 212).cls (ex_Y 212) (ex_Y 212)) ∈ ex_tb := ex_in (i := 78) (by decide +kernel) (by decide +kernel)
theorem kt_984 : (Jvm.Cond.methodLink (ex_Rn 11) 302 (ex_Y 212)) ∈ ex_tb := ex_in (i := 1437) (by decide +kernel) (by decide +kernel)
theorem kt_985 : (Jvm.Cond.instanceMethod (ex_Y 215)) ∈ ex_tb := ex_in (i := 1475) (by decide +kernel) (by decide +kernel)
theorem kt_986 : (Jvm.Cond.selects (ex_Y 215).cls (ex_Y 215) (ex_Y 215)) ∈ ex_tb := ex_in (i := 86) (by decide +kernel) (by decide +kernel)
theorem kt_987 : (Jvm.Cond.methodLink (ex_Rn 11) 305 (ex_Y 215)) ∈ ex_tb := ex_in (i := 1473) (by decide +kernel) (by decide +kernel)
theorem kt_988 : (Jvm.Cond.instanceMethod (ex_Y 214)) ∈ ex_tb := ex_in (i := 1467) (by decide +kernel) (by decide +kernel)
theorem kt_989 : (Jvm.Cond.selects (ex_Y 214).cls (ex_Y 214) (ex_Y 214)) ∈ ex_tb := ex_in (i := 84) (by decide +kernel) (by decide +kernel)
theorem kt_990 : (Jvm.Cond.methodLink (ex_Rn 11) 308 (ex_Y 214)) ∈ ex_tb := ex_in (i := 1465) (by decide +kernel) (by decide +kernel)
theorem kt_991 : (Jvm.Cond.instanceMethod (ex_Y 217)) ∈ ex_tb := ex_in (i := 1483) (by decide +kernel) (by decide +kernel)
theorem kt_992 : (Jvm.Cond.selects (ex_Y 217).cls (ex_Y 217) (ex_Y 217)) ∈ ex_tb := ex_in (i := 88) (by decide +kernel) (by decide +kernel)
theorem kt_993 : (Jvm.Cond.methodLink (ex_Rn 11) 326 (ex_Y 217)) ∈ ex_tb := ex_in (i := 1481) (by decide +kernel) (by decide +kernel)
theorem kt_994 : (Jvm.Cond.instanceMethod (ex_Y 216)) ∈ ex_tb := ex_in (i := 1471) (by decide +kernel) (by decide +kernel)
theorem kt_995 : (Jvm.Cond.selects (ex_Y 216).cls (ex_Y 216) (ex_Y 216)) ∈ ex_tb := ex_in (i := 85) (by decide +kernel) (by decide +kernel)
theorem kt_996 : (Jvm.Cond.methodLink (ex_Rn 11) 329 (ex_Y 216)) ∈ ex_tb := ex_in (i := 1469) (by decide +kernel) (by decide +kernel)
theorem kt_997 : (Jvm.Cond.instanceMethod (ex_Y 218)) ∈ ex_tb := ex_in (i := 1479) (by decide +kernel) (by decide +kernel)
theorem kt_998 : (Jvm.Cond.selects (ex_Y 218).cls (ex_Y 218) (ex_Y 218)) ∈ ex_tb := ex_in (i := 87) (by decide +kernel) (by decide +kernel)
theorem kt_999 : (Jvm.Cond.methodLink (ex_Rn 11) 332 (ex_Y 218)) ∈ ex_tb := ex_in (i := 1477) (by decide +kernel) (by decide +kernel)
theorem kt_1000 : (Jvm.Cond.instanceMethod (ex_Y 219)) ∈ ex_tb := ex_in (i := 1463) (by decide +kernel) (by decide +kernel)
theorem kt_1001 : (Jvm.Cond.selects (ex_Y 219).cls (ex_Y 219) (ex_Y 219)) ∈ ex_tb := ex_in (i := 83) (by decide +kernel) (by decide +kernel)
theorem kt_1002 : (Jvm.Cond.methodLink (ex_Rn 11) 338 (ex_Y 219)) ∈ ex_tb := ex_in (i := 1461) (by decide +kernel) (by decide +kernel)
theorem kt_1003 : (Jvm.Cond.instanceMethod (ex_Y 227)) ∈ ex_tb := ex_in (i := 1515) (by decide +kernel) (by decide +kernel)
theorem kt_1004 : (Jvm.Cond.selects (ex_Y 227).cls (ex_Y 227) (ex_Y 227)) ∈ ex_tb := ex_in (i := 89) (by decide +kernel) (by decide +kernel)
theorem kt_1005 : (Jvm.Cond.methodLink (ex_Rn 11) 341 (ex_Y 227)) ∈ ex_tb := ex_in (i := 1513) (by decide +kernel) (by decide +kernel)
theorem kt_1006 : (Jvm.Cond.instanceMethod (ex_Y 231)) ∈ ex_tb := ex_in (i := 1531) (by decide +kernel) (by decide +kernel)
theorem kt_1007 : (Jvm.Cond.selects (ex_Y 231).cls (ex_Y 231) (ex_Y 231)) ∈ ex_tb := ex_in (i := 90) (by decide +kernel) (by decide +kernel)
theorem kt_1008 : (Jvm.Cond.methodLink (ex_Rn 11) 362 (ex_Y 231)) ∈ ex_tb := ex_in (i := 1529) (by decide +kernel) (by decide +kernel)
theorem kt_1009 : (Jvm.Cond.instanceMethod (ex_Y 233)) ∈ ex_tb := ex_in (i := 1544) (by decide +kernel) (by decide +kernel)
theorem kt_1010 : (Jvm.Cond.selects (ex_Y 233).cls (ex_Y 233) (ex_Y 233)) ∈ ex_tb := ex_in (i := 92) (by decide +kernel) (by decide +kernel)
theorem kt_1011 : (Jvm.Cond.methodLink (ex_Rn 11) 371 (ex_Y 233)) ∈ ex_tb := ex_in (i := 1542) (by decide +kernel) (by decide +kernel)
theorem kt_1012 : (Jvm.Cond.instanceMethod (ex_Y 234)) ∈ ex_tb := ex_in (i := 1540) (by decide +kernel) (by decide +kernel)
theorem kt_1013 : (Jvm.Cond.selects (ex_Y 234).cls (ex_Y 234) (ex_Y 234)) ∈ ex_tb := ex_in (i := 91) (by decide +kernel) (by decide +kernel)
theorem kt_1014 : (Jvm.Cond.methodLink (ex_Rn 11) 377 (ex_Y 234)) ∈ ex_tb := ex_in (i := 1538) (by decide +kernel) (by decide +kernel)
theorem kq_V_11 : ∀ q ∈ ex_cV.getD 11 [], ex_PV 11 q.1 q.2 := List.forall_mem_cons.mpr ⟨⟨by decide, by unfold ex_ar; decide +kernel, kt_865, kt_866, kt_867, by decide +kernel⟩, List.forall_mem_cons.mpr ⟨⟨by decide, by unfold ex_ar; decide +kernel, kt_868, kt_869, kt_870, by decide +kernel⟩, List.forall_mem_cons.mpr ⟨⟨by decide, by unfold ex_ar; decide +kernel, kt_871, kt_872, kt_873, by decide +kernel⟩, List.forall_mem_cons.mpr ⟨⟨by decide, by unfold ex_ar; decide +kernel, kt_874, kt_875, kt_876, by decide +kernel⟩, List.forall_mem_cons.mpr ⟨⟨by decide, by unfold ex_ar; decide +kernel, kt_877, kt_878, kt_879, by decide +kernel⟩, List.forall_mem_cons.mpr ⟨⟨by decide, by unfold ex_ar; decide +kernel, kt_880, kt_881, kt_882, by decide +kernel⟩, List.forall_mem_cons.mpr ⟨⟨by decide, by unfold ex_ar; decide +kernel, kt_883, kt_884, kt_885, by decide +kernel⟩, List.forall_mem_cons.mpr ⟨⟨by decide, by unfold ex_ar; decide +kernel, kt_886, kt_887, kt_888, by decide +kernel⟩, List.forall_mem_cons.mpr ⟨⟨by decide, by unfold ex_ar; decide +kernel, kt_889, kt_890, kt_891, by decide +kernel⟩, List.forall_mem_cons.mpr ⟨⟨by decide, by unfold ex_ar; decide +kernel, kt_892, kt_893, kt_894, by decide +kernel⟩, List.forall_mem_cons.mpr ⟨⟨by decide, by unfold ex_ar; decide +kernel, kt_895, kt_896, kt_897, by decide +kernel⟩, List.forall_mem_cons.mpr ⟨⟨by decide, by unfold ex_ar; decide +kernel, kt_898, kt_899, kt_900, by decide +kernel⟩, List.forall_mem_cons.mpr ⟨⟨by decide, by unfold ex_ar; decide +kernel, kt_901, kt_902, kt_903, by decide +kernel⟩, List.forall_mem_cons.mpr ⟨⟨by decide, by unfold ex_ar; decide +kernel, kt_904, kt_905, kt_906, by decide +kernel⟩, List.forall_mem_cons.mpr ⟨⟨by decide, by unfold ex_ar; decide +kernel, kt_907, kt_908, kt_909, by decide +kernel⟩, List.forall_mem_cons.mpr ⟨⟨by decide, by unfold ex_ar; decide +kernel, kt_910, kt_911, kt_912, by decide +kernel⟩, List.forall_mem_cons.mpr ⟨⟨by decide, by unfold ex_ar; decide +kernel, kt_913, kt_914, kt_915, by decide +kernel⟩, List.forall_mem_cons.mpr ⟨⟨by decide, by unfold ex_ar; decide +kernel, kt_916, kt_917, kt_918, by decide +kernel⟩, List.forall_mem_cons.mpr ⟨⟨by decide, by unfold ex_ar; decide +kernel, kt_919, kt_920, kt_921, by decide +kernel⟩, List.forall_mem_cons.mpr ⟨⟨by decide, by unfold ex_ar; decide +kernel, kt_922, kt_923, kt_924, by decide +kernel⟩, List.forall_mem_cons.mpr ⟨⟨by decide, by unfold ex_ar; decide +kernel, kt_925, kt_926, kt_927, by decide +kernel⟩, List.forall_mem_cons.mpr ⟨⟨by decide, by unfold ex_ar; decide +kernel, kt_928, kt_929, kt_930, by decide +kernel⟩, List.forall_mem_cons.mpr ⟨⟨by decide, by unfold ex_ar; decide +kernel, kt_931, kt_932, kt_933, by decide +kernel⟩, List.forall_mem_cons.mpr ⟨⟨by decide, by unfold ex_ar; decide +kernel, kt_934, kt_935, kt_936, by decide +kernel⟩, List.forall_mem_cons.mpr ⟨⟨by decide, by unfold ex_ar; decide +kernel, kt_937, kt_938, kt_939, by decide +kernel⟩, List.forall_mem_cons.mpr ⟨⟨by decide, by unfold ex_ar; decide +kernel, kt_940, kt_941, kt_942, by decide +kernel⟩, List.forall_mem_cons.mpr ⟨⟨by decide, by unfold ex_ar; decide +kernel, kt_943, kt_944, kt_945, by decide +kernel⟩, List.forall_mem_cons.mpr ⟨⟨by decide, by unfold ex_ar; decide +kernel, kt_946, kt_947, kt_948, by decide +kernel⟩, List.forall_mem_cons.mpr ⟨⟨by decide, by unfold ex_ar; decide +kernel, kt_949, kt_950, kt_951, by decide +kernel⟩, List.forall_mem_cons.mpr ⟨⟨by decide, by unfold ex_ar; decide +kernel, kt_952, kt_953, kt_954, by decide +kernel⟩, List.forall_mem_cons.mpr ⟨⟨by decide, by unfold ex_ar; decide +kernel, kt_955, kt_956, kt_957, by decide +kernel⟩, List.forall_mem_cons.mpr ⟨⟨by decide, by unfold ex_ar; decide +kernel, kt_958, kt_959, kt_960, by decide +kernel⟩, List.forall_mem_cons.mpr ⟨⟨by decide, by unfold ex_ar; decide +kernel, kt_961, kt_962, kt_963, by decide +kernel⟩, List.forall_mem_cons.mpr ⟨⟨by decide, by unfold ex_ar; decide +kernel, kt_964, kt_965, kt_966, by decide +kernel⟩, List.forall_mem_cons.mpr ⟨⟨by decide, by unfold ex_ar; decide +kernel, kt_967, kt_968, kt_969, by decide +kernel⟩, List.forall_mem_cons.mpr ⟨⟨by decide, by unfold ex_ar; decide +kernel, kt_970, kt_971, kt_972, by decide +kernel⟩, List.forall_mem_cons.mpr ⟨⟨by decide, by unfold ex_ar; decide +kernel, kt_973, kt_974, kt_975, by decide +kernel⟩, List.forall_mem_cons.mpr ⟨⟨by decide, by unfold ex_ar; decide +kernel, kt_976, kt_977, kt_978, by decide +kernel⟩, List.forall_mem_cons.mpr ⟨⟨by decide, by unfold ex_ar; decide +kernel, kt_979, kt_980, kt_981, by decide +kernel⟩, List.forall_mem_cons.mpr ⟨⟨by decide, by unfold ex_ar; decide +kernel, kt_982, kt_983, kt_984, by decide +kernel⟩, List.forall_mem_cons.mpr ⟨⟨by decide, by unfold ex_ar; decide +kernel, kt_985, kt_986, kt_987, by decide +kernel⟩, List.forall_mem_cons.mpr ⟨⟨by decide, by unfold ex_ar; decide +kernel, kt_988, kt_989, kt_990, by decide +kernel⟩, List.forall_mem_cons.mpr ⟨⟨by decide, by unfold ex_ar; decide +kernel, kt_991, kt_992, kt_993, by decide +kernel⟩, List.forall_mem_cons.mpr ⟨⟨by decide, by unfold ex_ar; decide +kernel, kt_994, kt_995, kt_996, by decide +kernel⟩, List.forall_mem_cons.mpr ⟨⟨by decide, by unfold ex_ar; decide +kernel, kt_997, kt_998, kt_999, by decide +kernel⟩, List.forall_mem_cons.mpr ⟨⟨by decide, by unfold ex_ar; decide +kernel, kt_1000, kt_1001, kt_1002, by decide +kernel⟩, List.forall_mem_cons.mpr ⟨⟨by decide, by unfold ex_ar; decide +kernel, kt_1003, kt_1004, kt_1005, by decide +kernel⟩, List.forall_mem_cons.mpr ⟨⟨by decide, by unfold ex_ar; decide +kernel, kt_1006, kt_1007, kt_1008, by decide +kernel⟩, List.forall_mem_cons.mpr ⟨⟨by decide, by unfold ex_ar; decide +kernel, kt_1009, kt_1010, kt_1011, by decide +kernel⟩, List.forall_mem_cons.mpr ⟨⟨by decide, by unfold ex_ar; decide +kernel, kt_1012, kt_1013, kt_1014, by decide +kernel⟩, fun _ h => absurd h List.not_mem_nil⟩⟩⟩⟩⟩⟩⟩⟩⟩⟩⟩⟩⟩⟩⟩⟩⟩⟩⟩⟩⟩⟩⟩⟩⟩⟩⟩⟩⟩⟩⟩⟩⟩⟩⟩⟩⟩⟩⟩⟩⟩⟩⟩⟩⟩⟩⟩⟩⟩⟩
theorem kq_V {c : Nat} (hc : c < 12) : ∀ q ∈ ex_cV.getD c [], ex_PV c q.1 q.2 := by
  match c, hc with
  | 0, _ => exact kq_V_0
  | 1, _ => exact kq_V_1
  | 2, _ => exact kq_V_2
  | 3, _ => exact kq_V_3
  | 4, _ => exact kq_V_4
  | 5, _ => exact kq_V_5
  | 6, _ => exact kq_V_6
  | 7, _ => exact kq_V_7
  | 8, _ => exact kq_V_8
  | 9, _ => exact kq_V_9
  | 10, _ => exact kq_V_10
  | 11, _ => exact kq_V_11
def ex_PJ (c a e : Nat) : Prop := (e = 0 ∧ Jvm.Cond.methodLink (ex_Rn c) a Lib.Math.max.name ∈ ex_tb) ∨ (e = 1 ∧ Jvm.Cond.methodLink (ex_Rn c) a Lib.Math.min.name ∈ ex_tb) ∨ (e = 2 ∧ Jvm.Cond.methodLink (ex_Rn c) a arraycopyName ∈ ex_tb)
theorem kq_J_0 : ∀ q ∈ ex_cJ.getD 0 [], ex_PJ 0 q.1 q.2 := fun _ h => absurd h List.not_mem_nil
theorem kq_J_1 : ∀ q ∈ ex_cJ.getD 1 [], ex_PJ 1 q.1 q.2 := fun _ h => absurd h List.not_mem_nil
theorem kq_J_2 : ∀ q ∈ ex_cJ.getD 2 [], ex_PJ 2 q.1 q.2 := fun _ h => absurd h List.not_mem_nil
theorem kt_1015 : (Jvm.Cond.methodLink (ex_Rn 3) 30 Lib.Math.min.name) ∈ ex_tb := ex_in (i := 802) (by decide +kernel) (by decide +kernel)
theorem kq_J_3 : ∀ q ∈ ex_cJ.getD 3 [], ex_PJ 3 q.1 q.2 := List.forall_mem_cons.mpr ⟨Or.inr (Or.inl ⟨rfl, kt_1015⟩), fun _ h => absurd h List.not_mem_nil⟩
theorem kq_J_4 : ∀ q ∈ ex_cJ.getD 4 [], ex_PJ 4 q.1 q.2 := fun _ h => absurd h List.not_mem_nil
theorem kq_J_5 : ∀ q ∈ ex_cJ.getD 5 [], ex_PJ 5 q.1 q.2 := fun _ h => absurd h List.not_mem_nil
theorem kt_1016 : (Jvm.Cond.methodLink (ex_Rn 6) 36 Lib.Math.min.name) ∈ ex_tb := ex_in (i := 836) (by decide +kernel) (by decide +kernel)
theorem kq_J_6 : ∀ q ∈ ex_cJ.getD 6 [], ex_PJ 6 q.1 q.2 := List.forall_mem_cons.mpr ⟨Or.inr (Or.inl ⟨rfl, kt_1016⟩), fun _ h => absurd h List.not_mem_nil⟩
theorem kq_J_7 : ∀ q ∈ ex_cJ.getD 7 [], ex_PJ 7 q.1 q.2 := fun _ h => absurd h List.not_mem_nil
theorem kt_1017 : (Jvm.Cond.methodLink (ex_Rn 8) 34 arraycopyName) ∈ ex_tb := ex_in (i := 977) (by decide +kernel) (by decide +kernel)
theorem kq_J_8 : ∀ q ∈ ex_cJ.getD 8 [], ex_PJ 8 q.1 q.2 := List.forall_mem_cons.mpr ⟨Or.inr (Or.inr ⟨rfl, kt_1017⟩), fun _ h => absurd h List.not_mem_nil⟩
theorem kq_J_9 : ∀ q ∈ ex_cJ.getD 9 [], ex_PJ 9 q.1 q.2 := fun _ h => absurd h List.not_mem_nil
theorem kt_1018 : (Jvm.Cond.methodLink (ex_Rn 10) 302 Lib.Math.max.name) ∈ ex_tb := ex_in (i := 942) (by decide +kernel) (by decide +kernel)
theorem kq_J_10 : ∀ q ∈ ex_cJ.getD 10 [], ex_PJ 10 q.1 q.2 := List.forall_mem_cons.mpr ⟨Or.inl ⟨rfl, kt_1018⟩, fun _ h => absurd h List.not_mem_nil⟩
theorem kq_J_11 : ∀ q ∈ ex_cJ.getD 11 [], ex_PJ 11 q.1 q.2 := fun _ h => absurd h List.not_mem_nil
theorem kq_J {c : Nat} (hc : c < 12) : ∀ q ∈ ex_cJ.getD c [], ex_PJ c q.1 q.2 := by
  match c, hc with
  | 0, _ => exact kq_J_0
  | 1, _ => exact kq_J_1
  | 2, _ => exact kq_J_2
  | 3, _ => exact kq_J_3
  | 4, _ => exact kq_J_4
  | 5, _ => exact kq_J_5
  | 6, _ => exact kq_J_6
  | 7, _ => exact kq_J_7
  | 8, _ => exact kq_J_8
  | 9, _ => exact kq_J_9
  | 10, _ => exact kq_J_10
  | 11, _ => exact kq_J_11
theorem kt_1019 : (Jvm.Cond.static Lib.Math.max.name) ∈ ex_tb := ex_in (i := 943) (by decide +kernel) (by decide +kernel)
theorem kt_1020 : (Jvm.Cond.code Lib.Math.max.name Lib.Math.max.code 2 (some .int)) ∈ ex_tb := ex_in (i := 944) (by decide +kernel) (by decide +kernel)
theorem ks_max : Jvm.Cond.static Lib.Math.max.name ∈ ex_tb ∧ Jvm.Cond.code Lib.Math.max.name Lib.Math.max.code 2 (some .int) ∈ ex_tb := ⟨kt_1019, kt_1020⟩
theorem kt_1021 : (Jvm.Cond.static Lib.Math.min.name) ∈ ex_tb := ex_in (i := 803) (by decide +kernel) (by decide +kernel)
theorem kt_1022 : (Jvm.Cond.code Lib.Math.min.name Lib.Math.min.code 2 (some .int)) ∈ ex_tb := ex_in (i := 804) (by decide +kernel) (by decide +kernel)
theorem ks_min : Jvm.Cond.static Lib.Math.min.name ∈ ex_tb ∧ Jvm.Cond.code Lib.Math.min.name Lib.Math.min.code 2 (some .int) ∈ ex_tb := ⟨kt_1021, kt_1022⟩
theorem kt_1023 : (Jvm.Cond.initialized "java/lang/Math") ∈ ex_tb := ex_in (i := 106) (by decide +kernel) (by decide +kernel)
theorem ks_math : Jvm.Cond.initialized "java/lang/Math" ∈ ex_tb := kt_1023
theorem kt_1024 : (Jvm.Cond.native arraycopyName) ∈ ex_tb := ex_in (i := 979) (by decide +kernel) (by decide +kernel)
theorem kt_1025 : (Jvm.Cond.static arraycopyName) ∈ ex_tb := ex_in (i := 978) (by decide +kernel) (by decide +kernel)
theorem kt_1026 : (Jvm.Cond.initialized "java/lang/System") ∈ ex_tb := ex_in (i := 107) (by decide +kernel) (by decide +kernel)
theorem ks_copy : Jvm.Cond.native arraycopyName ∈ ex_tb ∧ Jvm.Cond.static arraycopyName ∈ ex_tb ∧ Jvm.Cond.initialized "java/lang/System" ∈ ex_tb := ⟨kt_1024, kt_1025, kt_1026⟩
def ex_X : List (MethodName × String) := [(⟨"BorderThroughBed$HouseText", "taken", "(LBorderThroughBed$Page;)I"⟩, "BorderThroughBed$Text"), (⟨"BorderThroughBed$Text", "begin", "()V"⟩, "BorderThroughBed$Text"), (⟨"BorderThroughBed$Text", "takes", "(I)Z"⟩, "BorderThroughBed$Text"), (⟨"BorderThroughBed$LawText", "taken", "(LBorderThroughBed$Page;)I"⟩, "BorderThroughBed$Text"), (⟨"BorderThroughBed$HouseText", "isOn", "(LBorderThroughBed$Page;)Z"⟩, "BorderThroughBed$Text"), (⟨"BorderThroughBed$Text", "taken", "(LBorderThroughBed$Page;)I"⟩, "BorderThroughBed$Text"), (⟨"BorderThroughBed$Text", "isWhole", "()Z"⟩, "BorderThroughBed$Text"), (⟨"BorderThroughBed$LawText", "isOn", "(LBorderThroughBed$Page;)Z"⟩, "BorderThroughBed$Text")]
def ex_Xm (x : Nat) : MethodName := (ex_X.getD x (⟨"", "", ""⟩, "")).1
/-- a site of dispatch: the class of the receiver C, the method y: what stands in the tables -/
def ex_PD (c a x n C y : Nat) : Prop := y < 236 ∧ C < 9 ∧ (parseMethodDescriptor (ex_Xm x).desc).map (fun d => d.parameters.length) = some n ∧ Jvm.Cond.methodLink (ex_Rn c) a (ex_Xm x) ∈ ex_tb ∧ Jvm.Cond.sameMethod (ex_Xm x).cls "BorderThroughBed$Text" (ex_Xm x).name (ex_Xm x).desc ∈ ex_tb ∧ Jvm.Cond.declares ⟨"BorderThroughBed$Text", (ex_Xm x).name, (ex_Xm x).desc⟩ ∈ ex_nw ∧ Jvm.Cond.selects (ex_Rn C) (ex_Xm x) (ex_Y y) ∈ ex_tb ∧ Jvm.Cond.instanceMethod (ex_Y y) ∈ ex_tb ∧ (C = ex_C y ∨ (ex_C y = 9 ∧ (C = 2 ∨ C = 4)))
theorem kt_1027 : (Jvm.Cond.methodLink (ex_Rn 10) 87 (ex_Xm 0)) ∈ ex_tb := ex_in (i := 393) (by decide +kernel) (by decide +kernel)
theorem kt_1028 : (Jvm.Cond.sameMethod (ex_Xm 0).cls "BorderThroughBed$Text" (ex_Xm 0).name (ex_Xm 0).desc) ∈ ex_tb := ex_in (i := 394) (by decide +kernel) (by decide +kernel)
theorem kt_1029 : (Jvm.Cond.instanceMethod (ex_Y 97)) ∈ ex_tb := ex_in (i := 397) (by decide +kernel) (by decide +kernel)
theorem kt_1030 : (Jvm.Cond.selects (ex_Rn 2) (ex_Xm 0) (ex_Y 97)) ∈ ex_tb := ex_in (i := 396) (by decide +kernel) (by decide +kernel)
theorem kx_0_2 : ex_PD 10 87 0 1 2 97 := ⟨by decide, by decide, by decide +kernel, kt_1027, kt_1028, List.mem_of_getElem? (i := 15) (by decide +kernel), kt_1030, kt_1029, by decide +kernel⟩
theorem kt_1031 : (Jvm.Cond.methodLink (ex_Rn 9) 7 (ex_Xm 1)) ∈ ex_tb := ex_in (i := 399) (by decide +kernel) (by decide +kernel)
theorem kt_1032 : (Jvm.Cond.sameMethod (ex_Xm 1).cls "BorderThroughBed$Text" (ex_Xm 1).name (ex_Xm 1).desc) ∈ ex_tb := ex_in (i := 401) (by decide +kernel) (by decide +kernel)
theorem kt_1033 : (Jvm.Cond.instanceMethod (ex_Y 34)) ∈ ex_tb := ex_in (i := 403) (by decide +kernel) (by decide +kernel)
theorem kt_1034 : (Jvm.Cond.selects (ex_Rn 2) (ex_Xm 1) (ex_Y 34)) ∈ ex_tb := ex_in (i := 402) (by decide +kernel) (by decide +kernel)
theorem kt_1035 : (Jvm.Cond.instanceMethod (ex_Y 53)) ∈ ex_tb := ex_in (i := 406) (by decide +kernel) (by decide +kernel)
theorem kt_1036 : (Jvm.Cond.selects (ex_Rn 4) (ex_Xm 1) (ex_Y 53)) ∈ ex_tb := ex_in (i := 405) (by decide +kernel) (by decide +kernel)
theorem kx_1_2 : ex_PD 9 7 1 0 2 34 := ⟨by decide, by decide, by decide +kernel, kt_1031, kt_1032, List.mem_of_getElem? (i := 16) (by decide +kernel), kt_1034, kt_1033, by decide +kernel⟩
theorem kx_1_4 : ex_PD 9 7 1 0 4 53 := ⟨by decide, by decide, by decide +kernel, kt_1031, kt_1032, List.mem_of_getElem? (i := 16) (by decide +kernel), kt_1036, kt_1035, by decide +kernel⟩
theorem kt_1037 : (Jvm.Cond.methodLink (ex_Rn 9) 22 (ex_Xm 2)) ∈ ex_tb := ex_in (i := 414) (by decide +kernel) (by decide +kernel)
theorem kt_1038 : (Jvm.Cond.sameMethod (ex_Xm 2).cls "BorderThroughBed$Text" (ex_Xm 2).name (ex_Xm 2).desc) ∈ ex_tb := ex_in (i := 416) (by decide +kernel) (by decide +kernel)
theorem kt_1039 : (Jvm.Cond.instanceMethod (ex_Y 35)) ∈ ex_tb := ex_in (i := 418) (by decide +kernel) (by decide +kernel)
theorem kt_1040 : (Jvm.Cond.selects (ex_Rn 2) (ex_Xm 2) (ex_Y 35)) ∈ ex_tb := ex_in (i := 417) (by decide +kernel) (by decide +kernel)
theorem kt_1041 : (Jvm.Cond.instanceMethod (ex_Y 54)) ∈ ex_tb := ex_in (i := 437) (by decide +kernel) (by decide +kernel)
theorem kt_1042 : (Jvm.Cond.selects (ex_Rn 4) (ex_Xm 2) (ex_Y 54)) ∈ ex_tb := ex_in (i := 436) (by decide +kernel) (by decide +kernel)
theorem kx_2_2 : ex_PD 9 22 2 1 2 35 := ⟨by decide, by decide, by decide +kernel, kt_1037, kt_1038, List.mem_of_getElem? (i := 17) (by decide +kernel), kt_1040, kt_1039, by decide +kernel⟩
theorem kx_2_4 : ex_PD 9 22 2 1 4 54 := ⟨by decide, by decide, by decide +kernel, kt_1037, kt_1038, List.mem_of_getElem? (i := 17) (by decide +kernel), kt_1042, kt_1041, by decide +kernel⟩
theorem kt_1043 : (Jvm.Cond.methodLink (ex_Rn 10) 91 (ex_Xm 3)) ∈ ex_tb := ex_in (i := 462) (by decide +kernel) (by decide +kernel)
theorem kt_1044 : (Jvm.Cond.sameMethod (ex_Xm 3).cls "BorderThroughBed$Text" (ex_Xm 3).name (ex_Xm 3).desc) ∈ ex_tb := ex_in (i := 463) (by decide +kernel) (by decide +kernel)
theorem kt_1045 : (Jvm.Cond.selects (ex_Rn 4) (ex_Xm 3) (ex_Y 97)) ∈ ex_tb := ex_in (i := 464) (by decide +kernel) (by decide +kernel)
theorem kx_3_4 : ex_PD 10 91 3 1 4 97 := ⟨by decide, by decide, by decide +kernel, kt_1043, kt_1044, List.mem_of_getElem? (i := 15) (by decide +kernel), kt_1045, kt_1029, by decide +kernel⟩
theorem kt_1046 : (Jvm.Cond.methodLink (ex_Rn 10) 92 (ex_Xm 4)) ∈ ex_tb := ex_in (i := 469) (by decide +kernel) (by decide +kernel)
theorem kt_1047 : (Jvm.Cond.sameMethod (ex_Xm 4).cls "BorderThroughBed$Text" (ex_Xm 4).name (ex_Xm 4).desc) ∈ ex_tb := ex_in (i := 470) (by decide +kernel) (by decide +kernel)
theorem kt_1048 : (Jvm.Cond.instanceMethod (ex_Y 98)) ∈ ex_tb := ex_in (i := 473) (by decide +kernel) (by decide +kernel)
theorem kt_1049 : (Jvm.Cond.selects (ex_Rn 2) (ex_Xm 4) (ex_Y 98)) ∈ ex_tb := ex_in (i := 472) (by decide +kernel) (by decide +kernel)
theorem kx_4_2 : ex_PD 10 92 4 1 2 98 := ⟨by decide, by decide, by decide +kernel, kt_1046, kt_1047, List.mem_of_getElem? (i := 18) (by decide +kernel), kt_1049, kt_1048, by decide +kernel⟩
theorem kt_1050 : (Jvm.Cond.methodLink (ex_Rn 9) 26 (ex_Xm 5)) ∈ ex_tb := ex_in (i := 475) (by decide +kernel) (by decide +kernel)
theorem kt_1051 : (Jvm.Cond.sameMethod (ex_Xm 5).cls "BorderThroughBed$Text" (ex_Xm 5).name (ex_Xm 5).desc) ∈ ex_tb := ex_in (i := 1548) (by decide +kernel) (by decide +kernel)
theorem kt_1052 : (Jvm.Cond.selects (ex_Rn 2) (ex_Xm 5) (ex_Y 97)) ∈ ex_tb := ex_in (i := 1549) (by decide +kernel) (by decide +kernel)
theorem kt_1053 : (Jvm.Cond.selects (ex_Rn 4) (ex_Xm 5) (ex_Y 97)) ∈ ex_tb := ex_in (i := 1550) (by decide +kernel) (by decide +kernel)
theorem kx_5_2 : ex_PD 9 26 5 1 2 97 := ⟨by decide, by decide, by decide +kernel, kt_1050, kt_1051, List.mem_of_getElem? (i := 15) (by decide +kernel), kt_1052, kt_1029, by decide +kernel⟩
theorem kx_5_4 : ex_PD 9 26 5 1 4 97 := ⟨by decide, by decide, by decide +kernel, kt_1050, kt_1051, List.mem_of_getElem? (i := 15) (by decide +kernel), kt_1053, kt_1029, by decide +kernel⟩
theorem kt_1054 : (Jvm.Cond.methodLink (ex_Rn 9) 30 (ex_Xm 6)) ∈ ex_tb := ex_in (i := 476) (by decide +kernel) (by decide +kernel)
theorem kt_1055 : (Jvm.Cond.sameMethod (ex_Xm 6).cls "BorderThroughBed$Text" (ex_Xm 6).name (ex_Xm 6).desc) ∈ ex_tb := ex_in (i := 478) (by decide +kernel) (by decide +kernel)
theorem kt_1056 : (Jvm.Cond.instanceMethod (ex_Y 40)) ∈ ex_tb := ex_in (i := 480) (by decide +kernel) (by decide +kernel)
theorem kt_1057 : (Jvm.Cond.selects (ex_Rn 2) (ex_Xm 6) (ex_Y 40)) ∈ ex_tb := ex_in (i := 479) (by decide +kernel) (by decide +kernel)
theorem kt_1058 : (Jvm.Cond.instanceMethod (ex_Y 61)) ∈ ex_tb := ex_in (i := 483) (by decide +kernel) (by decide +kernel)
theorem kt_1059 : (Jvm.Cond.selects (ex_Rn 4) (ex_Xm 6) (ex_Y 61)) ∈ ex_tb := ex_in (i := 482) (by decide +kernel) (by decide +kernel)
theorem kx_6_2 : ex_PD 9 30 6 0 2 40 := ⟨by decide, by decide, by decide +kernel, kt_1054, kt_1055, List.mem_of_getElem? (i := 19) (by decide +kernel), kt_1057, kt_1056, by decide +kernel⟩
theorem kx_6_4 : ex_PD 9 30 6 0 4 61 := ⟨by decide, by decide, by decide +kernel, kt_1054, kt_1055, List.mem_of_getElem? (i := 19) (by decide +kernel), kt_1059, kt_1058, by decide +kernel⟩
theorem kt_1060 : (Jvm.Cond.methodLink (ex_Rn 10) 112 (ex_Xm 7)) ∈ ex_tb := ex_in (i := 569) (by decide +kernel) (by decide +kernel)
theorem kt_1061 : (Jvm.Cond.sameMethod (ex_Xm 7).cls "BorderThroughBed$Text" (ex_Xm 7).name (ex_Xm 7).desc) ∈ ex_tb := ex_in (i := 570) (by decide +kernel) (by decide +kernel)
theorem kt_1062 : (Jvm.Cond.selects (ex_Rn 4) (ex_Xm 7) (ex_Y 98)) ∈ ex_tb := ex_in (i := 571) (by decide +kernel) (by decide +kernel)
theorem kx_7_4 : ex_PD 10 112 7 1 4 98 := ⟨by decide, by decide, by decide +kernel, kt_1060, kt_1061, List.mem_of_getElem? (i := 18) (by decide +kernel), kt_1062, kt_1048, by decide +kernel⟩
theorem ex_lk {α : Type} {l : List (Nat × α)} {a : Nat} {v : α} (h : l.lookup a = some v) : (a, v) ∈ l := by
  induction l with
  | nil => cases h
  | cons q r ih =>
    obtain ⟨k, u⟩ := q
    rw [List.lookup_cons] at h
    by_cases hk : a = k
    · subst hk
      simp at h
      subst h
      exact List.mem_cons_self
    · have : (a == k) = false := by simpa using hk
      rw [this] at h
      exact List.mem_cons_of_mem _ (ih h)
def ex_cWall : List (Nat × Nat × Nat × Nat) := (List.range 12).flatMap fun c => (ex_cW.getD c []).map fun q => (c, q.1, q.2.1, q.2.2)
def ex_Dall : List (Nat × Nat × Nat) := (List.range 8).flatMap fun x => (ex_D.getD x []).map fun q => (x, q.1, q.2)
theorem ex_cWall_in {c a x n : Nat} (h : (ex_cW.getD c []).lookup a = some (x, n)) : (c, a, x, n) ∈ ex_cWall := by
  have hm := ex_lk h
  have hc : c < 12 := by
    rcases Nat.lt_or_ge c 12 with q | q
    · exact q
    · have e : ex_cW[c]? = none := List.getElem?_eq_none (show ex_cW.length ≤ c from q)
      rw [List.getD_eq_getElem?_getD, e] at hm
      cases hm
  exact List.mem_flatMap.mpr ⟨c, List.mem_range.mpr hc, List.mem_map.mpr ⟨_, hm, rfl⟩⟩
theorem ex_Dall_in {x C y : Nat} (h : ex_dsp x C = some y) : (x, C, y) ∈ ex_Dall := by
  have hm := ex_lk h
  have hc : x < 8 := by
    rcases Nat.lt_or_ge x 8 with q | q
    · exact q
    · have e : ex_D[x]? = none := List.getElem?_eq_none (show ex_D.length ≤ x from q)
      rw [List.getD_eq_getElem?_getD, e] at hm
      cases hm
  exact List.mem_flatMap.mpr ⟨x, List.mem_range.mpr hc, List.mem_map.mpr ⟨_, hm, rfl⟩⟩
theorem kx_pairs (c a x n C y : Nat) (hm : (c, a, x, n) ∈ ex_cWall) (hd : (x, C, y) ∈ ex_Dall) : ex_PD c a x n C y := by
  have e1 : ex_cWall = [(9, 7, 1, 0), (9, 22, 2, 1), (9, 26, 5, 1), (9, 30, 6, 0), (10, 87, 0, 1), (10, 91, 3, 1), (10, 92, 4, 1), (10, 112, 7, 1)] := by decide +kernel
  have e2 : ex_Dall = [(0, 2, 97), (1, 2, 34), (1, 4, 53), (2, 2, 35), (2, 4, 54), (3, 4, 97), (4, 2, 98), (5, 2, 97), (5, 4, 97), (6, 2, 40), (6, 4, 61), (7, 4, 98)] := by decide +kernel
  rw [e1] at hm
  rw [e2] at hd
  simp only [List.mem_cons, Prod.mk.injEq, List.not_mem_nil, or_false] at hm hd
  rcases hm with ⟨rfl, rfl, rfl, rfl⟩ | ⟨rfl, rfl, rfl, rfl⟩ | ⟨rfl, rfl, rfl, rfl⟩ | ⟨rfl, rfl, rfl, rfl⟩ | ⟨rfl, rfl, rfl, rfl⟩ | ⟨rfl, rfl, rfl, rfl⟩ | ⟨rfl, rfl, rfl, rfl⟩ | ⟨rfl, rfl, rfl, rfl⟩ <;> rcases hd with ⟨h, rfl, rfl⟩ | ⟨h, rfl, rfl⟩ | ⟨h, rfl, rfl⟩ | ⟨h, rfl, rfl⟩ | ⟨h, rfl, rfl⟩ | ⟨h, rfl, rfl⟩ | ⟨h, rfl, rfl⟩ | ⟨h, rfl, rfl⟩ | ⟨h, rfl, rfl⟩ | ⟨h, rfl, rfl⟩ | ⟨h, rfl, rfl⟩ | ⟨h, rfl, rfl⟩ <;> first | (exfalso; revert h; decide) | skip
  · exact kx_1_2
  · exact kx_1_4
  · exact kx_2_2
  · exact kx_2_4
  · exact kx_5_2
  · exact kx_5_4
  · exact kx_6_2
  · exact kx_6_4
  · exact kx_0_2
  · exact kx_3_4
  · exact kx_4_2
  · exact kx_7_4
theorem kx_all {c a x n C y : Nat} (h : (ex_cW.getD c []).lookup a = some (x, n)) (h2 : ex_dsp x C = some y) : ex_PD c a x n C y := by
  have hm : (c, a, x, n) ∈ ex_cWall := ex_cWall_in h
  have hd : (x, C, y) ∈ ex_Dall := ex_Dall_in h2
  exact kx_pairs c a x n C y hm hd
end
section
/-! the world of the pure machine in a heap -/
def ex_tv (ad : Nat → Nat) (v : Value) : Value := match v with
  | .ref o => .ref (ad o)
  | v => v
def ex_fval (ad : Nat → Nat) (w : PW) (o k kd : Nat) : Value := match kd with
  | 0 => .int (w.1 o k)
  | 1 => .long w.2
  | 2 => .int (w.1 o k)
  | n + 3 => .ref (ad n)
def ex_fs (ad : Nat → Nat) (w : PW) (o : Nat) (ks : List Nat) : List Value := (List.range ks.length).map fun k => ex_fval ad w o k (ks.getD k 0)
def ex_en (ad : Nat → Nat) (cI cB : ClassId) (w : PW) (o : Nat) : va_E := match ex_Sh[o]? with
  | some q => if q.1 = 12 then .inl (cI, q.2.headD 0, .inl (w.1 o)) else if q.1 = 13 then .inl (cB, q.2.headD 0, .inl (w.1 o)) else .inr (q.1, ex_fs ad w o q.2)
  | none => .inr (0, [])
def ex_cel (ad : Nat → Nat) (cI cB : ClassId) (w : PW) : va_W := (List.range ex_NO).map fun o => (ad o, ex_en ad cI cB w o)
theorem ex_lt {o : Nat} {q : Nat × List Nat} (h : ex_Sh[o]? = some q) : o < ex_NO := (List.getElem?_eq_some_iff.mp h).1
theorem ex_cel_at {ad : Nat → Nat} {cI cB : ClassId} {w : PW} {o : Nat} (h : o < ex_NO) : (ex_cel ad cI cB w)[o]? = some (ad o, ex_en ad cI cB w o) := by
  unfold ex_cel
  rw [List.getElem?_map, List.getElem?_range h]
  rfl
theorem ex_cel_none {ad : Nat → Nat} {cI cB : ClassId} {w : PW} {o : Nat} (h : ex_NO ≤ o) : (ex_cel ad cI cB w)[o]? = none := List.getElem?_eq_none (by unfold ex_cel; rw [List.length_map, List.length_range]; exact h)
theorem ex_en_obj {ad : Nat → Nat} {cI cB : ClassId} {w : PW} {o c : Nat} {ks : List Nat} (h : ex_Sh[o]? = some (c, ks)) (h1 : c < 12) : ex_en ad cI cB w o = .inr (c, ex_fs ad w o ks) := by
  unfold ex_en
  rw [h]
  dsimp only
  rw [if_neg (by omega), if_neg (by omega)]
theorem ex_en_ia {ad : Nat → Nat} {cI cB : ClassId} {w : PW} {o : Nat} (h : ex_cls o = 12) : ex_en ad cI cB w o = .inl (cI, ex_len o, .inl (w.1 o)) := by
  unfold ex_cls at h
  unfold ex_en ex_len
  cases h2 : ex_Sh[o]? with
  | none => rw [h2] at h; cases h
  | some q =>
    rw [h2] at h
    dsimp only at h ⊢
    rw [if_pos h]
theorem ex_en_ba {ad : Nat → Nat} {cI cB : ClassId} {w : PW} {o : Nat} (h : ex_cls o = 13) : ex_en ad cI cB w o = .inl (cB, ex_len o, .inl (w.1 o)) := by
  unfold ex_cls at h
  unfold ex_en ex_len
  cases h2 : ex_Sh[o]? with
  | none => rw [h2] at h; cases h
  | some q =>
    rw [h2] at h
    dsimp only at h ⊢
    rw [if_neg (by omega), if_pos h]
theorem ex_cls_lt {o : Nat} (h : ex_cls o < 99) : o < ex_NO := by
  unfold ex_cls at h
  cases h2 : ex_Sh[o]? with
  | none => rw [h2] at h; exact absurd h (by decide)
  | some q => exact ex_lt h2
/-- what a field's kind says -/
theorem ex_fk_spec {o e kd : Nat} (h : ex_fk o e = some kd) : ∃ ks, ex_Sh[o]? = some (e / 64, ks) ∧ ks[e % 64]? = some kd := by
  unfold ex_fk at h
  cases h2 : ex_Sh[o]? with
  | none => rw [h2] at h; cases h
  | some q =>
    obtain ⟨c, ks⟩ := q
    rw [h2] at h
    dsimp only at h
    by_cases hc : c = e / 64
    · rw [if_pos hc] at h
      exact ⟨ks, by rw [hc], h⟩
    · rw [if_neg hc] at h
      cases h
theorem ex_fs_at {ad : Nat → Nat} {w : PW} {o k kd : Nat} {ks : List Nat} (h : ks[k]? = some kd) : (ex_fs ad w o ks)[k]? = some (ex_fval ad w o k kd) := by
  have hl := (List.getElem?_eq_some_iff.mp h).1
  unfold ex_fs
  rw [List.getElem?_map, List.getElem?_range hl]
  show some (ex_fval ad w o k (ks.getD k 0)) = _
  rw [List.getD_eq_getElem?_getD, h]
  rfl
theorem ex_fs_len {ad : Nat → Nat} {w : PW} {o : Nat} {ks : List Nat} : (ex_fs ad w o ks).length = ks.length := by
  unfold ex_fs
  rw [List.length_map, List.length_range]
theorem ex_up_1 {w : PW} {o k : Nat} {x : Int32} : (ex_up w o k x).1 o = upd (w.1 o) k x := by
  funext j
  show (if o = o ∧ j = k then x else w.1 o j) = _
  unfold upd
  by_cases h : j = k
  · simp [h]
  · simp [h]
theorem ex_up_2 {w : PW} {o o' k : Nat} {x : Int32} (h : o' ≠ o) : (ex_up w o k x).1 o' = w.1 o' := by
  funext j
  show (if o' = o ∧ j = k then x else w.1 o' j) = _
  rw [if_neg (fun q => h q.1)]
theorem ex_up_h {w : PW} {o k : Nat} {x : Int32} : (ex_up w o k x).2 = w.2 := rfl
theorem ex_fval_same {ad : Nat → Nat} {w w' : PW} {o k kd : Nat} (h1 : w'.1 o k = w.1 o k) (h2 : w'.2 = w.2) : ex_fval ad w' o k kd = ex_fval ad w o k kd := by
  match kd with
  | 0 => show Value.int _ = Value.int _; rw [h1]
  | 1 => show Value.long _ = Value.long _; rw [h2]
  | 2 => show Value.int _ = Value.int _; rw [h1]
  | n + 3 => rfl
theorem ex_en_same {ad : Nat → Nat} {cI cB : ClassId} {w w' : PW} {o : Nat} (h1 : w'.1 o = w.1 o) (h2 : w'.2 = w.2) : ex_en ad cI cB w' o = ex_en ad cI cB w o := by
  have : ∀ ks, ex_fs ad w' o ks = ex_fs ad w o ks := fun ks => by
    unfold ex_fs
    exact List.map_congr_left fun k _ => ex_fval_same (by rw [h1]) h2
  unfold ex_en
  rw [h1]
  cases ex_Sh[o]? with
  | none => rfl
  | some q => dsimp only; rw [this]
theorem ex_cel_set {ad : Nat → Nat} {cI cB : ClassId} {w w' : PW} {o : Nat} (ho : o < ex_NO) (h : ∀ o', o' ≠ o → ex_en ad cI cB w' o' = ex_en ad cI cB w o') : ex_cel ad cI cB w' = (ex_cel ad cI cB w).set o (ad o, ex_en ad cI cB w' o) := by
  apply List.ext_getElem?
  intro i
  rcases Nat.lt_or_ge i ex_NO with hi | hi
  · rw [ex_cel_at hi, List.getElem?_set]
    by_cases e : o = i
    · subst e
      rw [if_pos rfl, if_pos (by unfold ex_cel; rw [List.length_map, List.length_range]; exact ho)]
    · rw [if_neg e, ex_cel_at hi, h i (fun q => e q.symm)]
  · rw [ex_cel_none hi, List.getElem?_set, if_neg (by omega), ex_cel_none hi]
theorem ex_cel_up {ad : Nat → Nat} {cI cB : ClassId} {w : PW} {o k : Nat} {x : Int32} (ho : o < ex_NO) : ex_cel ad cI cB (ex_up w o k x) = (ex_cel ad cI cB w).set o (ad o, ex_en ad cI cB (ex_up w o k x) o) :=
  ex_cel_set ho fun _ h => ex_en_same (ex_up_2 h) ex_up_h
theorem ex_fs_set {ad : Nat → Nat} {w : PW} {o k kd : Nat} {ks : List Nat} {x : Int32} (h : ks[k]? = some kd) (hk : kd = 0 ∨ kd = 2) : ex_fs ad (ex_up w o k x) o ks = (ex_fs ad w o ks).set k (.int x) := by
  apply List.ext_getElem?
  intro i
  rw [List.getElem?_set]
  rcases Nat.lt_or_ge i ks.length with hi | hi
  · have hk2 : ks[i]? = some ks[i] := List.getElem?_eq_getElem hi
    rw [ex_fs_at hk2, ex_fs_at hk2, ex_fs_len]
    by_cases e : k = i
    · subst e
      rw [if_pos rfl, if_pos hi]
      rw [hk2] at h
      have h3 := Option.some.inj h
      rw [h3]
      rcases hk with rfl | rfl
      · show some (Value.int ((ex_up w o k x).1 o k)) = _
        rw [ex_up_1]; unfold upd; simp
      · show some (Value.int ((ex_up w o k x).1 o k)) = _
        rw [ex_up_1]; unfold upd; simp
    · rw [if_neg e]
      exact congrArg some (ex_fval_same (by rw [ex_up_1]; unfold upd; rw [if_neg (fun q => e q.symm)]) ex_up_h)
  · rw [List.getElem?_eq_none (by rw [ex_fs_len]; exact hi), List.getElem?_eq_none (by rw [ex_fs_len]; exact hi)]
    by_cases e : k = i
    · subst e
      rw [List.getElem?_eq_none hi] at h
      cases h
    · rw [if_neg e]
/-- the one long field -/
def ex_nolong (o : Nat) : Bool := match ex_Sh[o]? with
  | some q => if q.1 = 12 ∨ q.1 = 13 then true else !(q.2.contains 1)
  | none => true
theorem ex_nolong_all : ∀ o, o ≠ 46 → ex_nolong o = true := by
  intro o ho
  rcases Nat.lt_or_ge o ex_NO with h | h
  · have : ∀ o, o < ex_NO → o ≠ 46 → ex_nolong o = true := by decide +kernel
    exact this o h ho
  · unfold ex_nolong
    rw [List.getElem?_eq_none h]
theorem ex_en_long {ad : Nat → Nat} {cI cB : ClassId} {w : PW} {x : Int64} {o : Nat} (ho : o ≠ 46) : ex_en ad cI cB (w.1, x) o = ex_en ad cI cB w o := by
  have hn := ex_nolong_all o ho
  unfold ex_nolong at hn
  unfold ex_en
  cases h : ex_Sh[o]? with
  | none => rfl
  | some q =>
    rw [h] at hn
    dsimp only at hn ⊢
    by_cases h1 : q.1 = 12
    · rw [if_pos h1, if_pos h1]
    · by_cases h2 : q.1 = 13
      · rw [if_neg h1, if_neg h1, if_pos h2, if_pos h2]
      · rw [if_neg h1, if_neg h1, if_neg h2, if_neg h2]
        rw [if_neg (by rintro (h | h); exact h1 h; exact h2 h)] at hn
        have : ex_fs ad (w.1, x) o q.2 = ex_fs ad w o q.2 := by
          unfold ex_fs
          apply List.map_congr_left
          intro k hk
          have hl : k < q.2.length := List.mem_range.mp hk
          have hg : q.2.getD k 0 ≠ 1 := by
            intro he
            rw [List.getD_eq_getElem?_getD, List.getElem?_eq_getElem hl] at he
            have : (1 : Nat) ∈ q.2 := by rw [← show q.2[k] = 1 from he]; exact List.getElem_mem hl
            simp [this] at hn
          match h5 : q.2.getD k 0 with
          | 0 => rfl
          | 1 => exact absurd h5 hg
          | 2 => rfl
          | n + 3 => rfl
        rw [this]
theorem ex_fk_long {o e : Nat} (h : ex_fk o e = some 1) : o = 46 := by
  obtain ⟨ks, h1, h2⟩ := ex_fk_spec h
  rcases Nat.decEq o 46 with hn | hy
  · exfalso
    have hq := ex_nolong_all o hn
    unfold ex_nolong at hq
    rw [h1] at hq
    dsimp only at hq
    have h3 : (1 : Nat) ∈ ks := List.mem_of_getElem? h2
    have hc : ∀ o, o < ex_NO → ((ex_Sh.getD o (0, [])).1 = 12 ∨ (ex_Sh.getD o (0, [])).1 = 13) → (ex_Sh.getD o (0, [])).2.contains 1 = false := by decide +kernel
    have hg : ex_Sh.getD o (0, []) = (e / 64, ks) := by rw [List.getD_eq_getElem?_getD, h1]; rfl
    have hc2 := hc o (ex_lt h1)
    rw [hg] at hc2
    by_cases h4 : e / 64 = 12 ∨ e / 64 = 13
    · have := hc2 h4
      simp [h3] at this
    · rw [if_neg h4] at hq
      simp [h3] at hq
  · exact hy
theorem ex_fs_setL {ad : Nat → Nat} {w : PW} {o k : Nat} {ks : List Nat} {x : Int64} (h : ks[k]? = some 1) (hu : ∀ i, ks[i]? = some 1 → i = k) : ex_fs ad (w.1, x) o ks = (ex_fs ad w o ks).set k (.long x) := by
  apply List.ext_getElem?
  intro i
  rw [List.getElem?_set]
  rcases Nat.lt_or_ge i ks.length with hi | hi
  · have hk2 : ks[i]? = some ks[i] := List.getElem?_eq_getElem hi
    rw [ex_fs_at hk2, ex_fs_at hk2, ex_fs_len]
    by_cases e : k = i
    · subst e
      rw [if_pos rfl, if_pos hi]
      rw [hk2] at h
      rw [Option.some.inj h]
      rfl
    · rw [if_neg e]
      have hg : ks[i] ≠ 1 := fun q => e (hu i (by rw [hk2, q])).symm
      match h5 : ks[i] with
      | 0 => rfl
      | 1 => exact absurd h5 hg
      | 2 => rfl
      | n + 3 => rfl
  · rw [List.getElem?_eq_none (by rw [ex_fs_len]; exact hi), List.getElem?_eq_none (by rw [ex_fs_len]; exact hi)]
    by_cases e : k = i
    · subst e
      rw [List.getElem?_eq_none hi] at h
      cases h
    · rw [if_neg e]
theorem ex_cl_at {c : Nat} (h : c < 12) : ex_cl[c]? = some (ex_Rn c, ex_T c, ex_N c) := by
  match c, h with
  | 0, _ => rfl
  | 1, _ => rfl
  | 2, _ => rfl
  | 3, _ => rfl
  | 4, _ => rfl
  | 5, _ => rfl
  | 6, _ => rfl
  | 7, _ => rfl
  | 8, _ => rfl
  | 9, _ => rfl
  | 10, _ => rfl
  | 11, _ => rfl
/-- kinds and types agree -/
def ex_kty (kd : Nat) (t : FieldType) : Bool := match kd with
  | 0 => decide (t = .int)
  | 1 => decide (t = .long)
  | 2 => decide (t = .boolean)
  | _ => true
def ex_ktys (o : Nat) : Bool := match ex_Sh[o]? with
  | some q => if q.1 < 12 then q.2.length == ex_N q.1 && (List.range q.2.length).all (fun k => ex_kty (q.2.getD k 0) (ex_ty q.1 k)) else true
  | none => true
theorem ex_ktys_all : ∀ o, o < ex_NO → ex_ktys o = true := by decide +kernel
theorem ex_kind {o c k kd : Nat} {ks : List Nat} (h : ex_Sh[o]? = some (c, ks)) (hc : c < 12) (hk : ks[k]? = some kd) : k < ex_N c ∧ k < ks.length ∧ ex_kty kd (ex_ty c k) = true := by
  have h1 := ex_ktys_all o (ex_lt h)
  unfold ex_ktys at h1
  rw [h] at h1
  dsimp only at h1
  rw [if_pos hc, Bool.and_eq_true] at h1
  have hl := (List.getElem?_eq_some_iff.mp hk).1
  have h2 := List.all_eq_true.mp h1.2 k (List.mem_range.mpr hl)
  rw [List.getD_eq_getElem?_getD, hk] at h2
  exact ⟨by rw [← eq_of_beq h1.1]; exact hl, hl, h2⟩
/-- locals -/
def ex_asc (ad : Nat → Nat) : Nat → List Value → List (Nat × Value)
  | _, [] => []
  | i, v :: r => if ex_isv v then (i, ex_tv ad v) :: ex_asc ad (i + 1) r else ex_asc ad (i + 1) r
theorem ex_asc_mem {ad : Nat → Nat} {pl : List Value} {i j : Nat} {u : Value} : (j, u) ∈ ex_asc ad i pl ↔ ∃ k v, pl[k]? = some v ∧ ex_isv v = true ∧ j = i + k ∧ u = ex_tv ad v := by
  induction pl generalizing i with
  | nil =>
    constructor
    · intro h; cases h
    · rintro ⟨k, v, h, -⟩
      simp at h
  | cons a r ih =>
    have hr : ∀ {P : Prop}, ((j, u) ∈ ex_asc ad (i + 1) r → P) → ((∃ k v, r[k]? = some v ∧ ex_isv v = true ∧ j = i + 1 + k ∧ u = ex_tv ad v) → P) := fun h q => h (ih.mpr q)
    unfold ex_asc
    by_cases ha : ex_isv a = true
    · rw [if_pos ha, List.mem_cons, Prod.mk.injEq]
      constructor
      · rintro (⟨rfl, rfl⟩ | h)
        · exact ⟨0, a, rfl, ha, rfl, rfl⟩
        · obtain ⟨k, v, h1, h2, h3, h4⟩ := ih.mp h
          exact ⟨k + 1, v, h1, h2, by omega, h4⟩
      · rintro ⟨k, v, h1, h2, h3, h4⟩
        cases k with
        | zero =>
          have : v = a := (Option.some.inj h1).symm
          subst this
          exact Or.inl ⟨by omega, h4⟩
        | succ k => exact Or.inr (ih.mpr ⟨k, v, h1, h2, by omega, h4⟩)
    · rw [if_neg ha]
      constructor
      · intro h
        obtain ⟨k, v, h1, h2, h3, h4⟩ := ih.mp h
        exact ⟨k + 1, v, h1, h2, by omega, h4⟩
      · rintro ⟨k, v, h1, h2, h3, h4⟩
        cases k with
        | zero =>
          have : v = a := (Option.some.inj h1).symm
          subst this
          exact absurd h2 ha
        | succ k => exact ih.mpr ⟨k, v, h1, h2, by omega, h4⟩
def ex_LR (ad : Nat → Nat) (nL : Nat) (ls : Array Slot) (pl : List Value) : Prop :=
  pl.length = nL ∧ lv_has ls nL (ex_asc ad 0 pl) ∧ ∀ (j : Nat) (x : Int64), pl[j]? = some (.long x) → pl[j + 1]? = some (.retAddr 0)
theorem ex_LR.get {ad : Nat → Nat} {nL k : Nat} {ls : Array Slot} {pl : List Value} {v : Value} (h : ex_LR ad nL ls pl) (hk : pl[k]? = some v) (hv : ex_isv v = true) : ls[k]? = some (.val (ex_tv ad v)) :=
  h.2.1.2.2 (k, ex_tv ad v) (ex_asc_mem.mpr ⟨k, v, hk, hv, by omega, rfl⟩)
theorem ex_getD {pl : List Value} {k : Nat} {d v : Value} (h : pl.getD k d = v) (hd : v ≠ d) : pl[k]? = some v := by
  rw [List.getD_eq_getElem?_getD] at h
  cases h2 : pl[k]? with
  | none => rw [h2] at h; exact absurd h.symm hd
  | some u => rw [h2] at h; rw [← h]; rfl
theorem lv_has.less {ls : Array Slot} {nL : Nat} {l l' : List (Nat × Value)} (h : lv_has ls nL l) (hs : ∀ q ∈ l', q ∈ l) : lv_has ls nL l' := ⟨h.1, h.2.1, fun q hq => h.2.2 q (hs q hq)⟩
theorem ex_tv_cat {ad : Nat → Nat} {v : Value} : (ex_tv ad v).category = v.category := by cases v <;> rfl
/-- storing a value of category 1 -/
theorem ex_LR.set1 {ad : Nat → Nat} {nL k : Nat} {ls ls' : Array Slot} {pl : List Value} {v a : Value} (h : ex_LR ad nL ls pl) (ha : pl[k]? = some a) (hra : ∀ n, a ≠ .retAddr n) (hc : v.category = 1) (hv : ex_isv v = true)
    (h' : lv_has ls' nL ((k, ex_tv ad v) :: (ex_asc ad 0 pl).filter (fun q => !(q.1 == k) && !(q.1 + 1 == k && q.2.category == 2)))) : ex_LR ad nL ls' (pl.set k v) := by
  have hl := (List.getElem?_eq_some_iff.mp ha).1
  refine ⟨by rw [List.length_set]; exact h.1, lv_has.less h' ?_, ?_⟩
  · rintro ⟨j, u⟩ hq
    obtain ⟨i, x, h1, h2, h3, h4⟩ := ex_asc_mem.mp hq
    have hji : j = i := by omega
    subst hji
    rw [List.getElem?_set] at h1
    by_cases e : k = j
    · subst e
      rw [if_pos rfl, if_pos hl] at h1
      rw [← Option.some.inj h1] at h4
      rw [h4]
      exact List.mem_cons_self
    · rw [if_neg e] at h1
      refine List.mem_cons_of_mem _ (List.mem_filter.mpr ⟨ex_asc_mem.mpr ⟨j, x, h1, h2, by omega, h4⟩, ?_⟩)
      have e1 : (j == k) = false := by simpa using fun q : j = k => e q.symm
      dsimp only
      rw [e1]
      by_cases e2 : j + 1 = k
      · have : u.category ≠ 2 := by
          rw [h4, ex_tv_cat]
          intro h5
          cases x with
          | long z =>
            have := h.2.2 j z h1
            rw [e2, ha] at this
            exact hra 0 (Option.some.inj this)
          | double z => cases h2
          | _ => cases h5
        simp [this]
      · simp [e2]
  · intro j x h1
    rw [List.getElem?_set] at h1 ⊢
    by_cases e : k = j
    · subst e
      rw [if_pos rfl, if_pos hl] at h1
      rw [Option.some.inj h1] at hc
      cases hc
    · rw [if_neg e] at h1
      have h2 := h.2.2 j x h1
      by_cases e2 : k = j + 1
      · subst e2
        rw [ha] at h2
        exact absurd (Option.some.inj h2) (hra 0)
      · rw [if_neg e2]
        exact h2
theorem ex_LR.set2 {ad : Nat → Nat} {nL k : Nat} {ls ls' : Array Slot} {pl : List Value} {x : Int64} {a : Value} (h : ex_LR ad nL ls pl) (ha : pl[k]? = some a) (hra : ∀ n, a ≠ .retAddr n) (hk : k + 1 < pl.length)
    (h' : lv_has ls' nL ((k, Value.long x) :: (ex_asc ad 0 pl).filter (fun q => !(q.1 == k) && (!(q.1 == k + 1) && !(q.1 + 1 == k && q.2.category == 2))))) : ex_LR ad nL ls' ((pl.set (k + 1) (.retAddr 0)).set k (.long x)) := by
  have hl := (List.getElem?_eq_some_iff.mp ha).1
  have hget : ∀ j, ((pl.set (k + 1) (.retAddr 0)).set k (.long x))[j]? = if j = k then some (.long x) else if j = k + 1 then some (.retAddr 0) else pl[j]? := by
    intro j
    rw [List.getElem?_set, List.getElem?_set, List.length_set]
    by_cases e : j = k
    · subst e; simp [hl]
    · rw [if_neg (fun q => e q.symm), if_neg e]
      by_cases e2 : j = k + 1
      · subst e2; simp [hk]
      · rw [if_neg (fun q => e2 q.symm), if_neg e2]
  refine ⟨by rw [List.length_set, List.length_set]; exact h.1, lv_has.less h' ?_, ?_⟩
  · rintro ⟨j, u⟩ hq
    obtain ⟨i, v, h1, h2, h3, h4⟩ := ex_asc_mem.mp hq
    have hji : j = i := by omega
    subst hji
    rw [hget] at h1
    by_cases e : j = k
    · subst e
      rw [if_pos rfl] at h1
      rw [← Option.some.inj h1] at h4
      rw [h4]
      exact List.mem_cons_self
    · rw [if_neg e] at h1
      by_cases e2 : j = k + 1
      · rw [if_pos e2] at h1
        rw [← Option.some.inj h1] at h2
        cases h2
      · rw [if_neg e2] at h1
        refine List.mem_cons_of_mem _ (List.mem_filter.mpr ⟨ex_asc_mem.mpr ⟨j, v, h1, h2, by omega, h4⟩, ?_⟩)
        have e1 : (j == k) = false := by simpa using e
        have e3 : (j == k + 1) = false := by simpa using e2
        dsimp only
        rw [e1, e3]
        by_cases e4 : j + 1 = k
        · have : u.category ≠ 2 := by
            rw [h4, ex_tv_cat]
            intro h5
            cases v with
            | long z =>
              have := h.2.2 j z h1
              rw [e4, ha] at this
              exact hra 0 (Option.some.inj this)
            | double z => cases h2
            | _ => cases h5
          simp [this]
        · simp [e4]
  · intro j z h1
    rw [hget] at h1 ⊢
    by_cases e : j = k
    · subst e
      rw [if_neg (by omega), if_pos rfl]
    · rw [if_neg e] at h1
      by_cases e2 : j = k + 1
      · rw [if_pos e2] at h1; cases h1
      · rw [if_neg e2] at h1
        have h2 := h.2.2 j z h1
        by_cases e3 : j + 1 = k
        · rw [e3, ha] at h2
          exact absurd (Option.some.inj h2) (hra 0)
        · rw [if_neg e3]
          by_cases e4 : j + 1 = k + 1
          · omega
          · rw [if_neg e4]
            exact h2
end
section
/-! every instruction of the pure machine is the real one's: step by step -/
def ex_Cx (dC : Nat → ClassId) (dI : Nat → Nat → Nat) (ad : Nat → Nat) (cI cB : ClassId) (A : Nat → Prop) (U : State) (H : Heap) : Prop :=
  va_K (dC, dI) ex_cl [(cI, .int), (cB, .byte)] U ∧ (∀ x ∈ ex_nw, va_Nw x U) ∧ va_Z "BorderThroughBed$House" "DOWN" "[I" (.ref (ad 1000)) A U H ∧ va_T .int (ad 1000) 4 (fun j => .int (ex_down j)) A U H ∧ va_Z "BorderThroughBed$House" "RIGHT" "[I" (.ref (ad 1001)) A U H ∧ va_T .int (ad 1001) 4 (fun j => .int (ex_right j)) A U H
def ex_AA (ad : Nat → Nat) (sz : Nat) : Nat → Prop := fun q => (∃ o, o < ex_NO ∧ q = ad o) ∨ sz ≤ q
def ex_In (ad : Nat → Nat) : Prop := ∀ i j, i < ex_NO → j < ex_NO → ad i = ad j → i = j
def ex_Rm (d : Nat) : Room := { frames := d, cells := 0, slots := 0, locals := 42 * d }
def ex_Fix (p : Program) (l : Launch) (e : Env) (R : Room) (s : State) (m : MethodId) (args : Array Value) (c : Code) (dC : Nat → ClassId) (dI : Nat → Nat → Nat) (ad : Nat → Nat) (cI cB : ClassId) (y d : Nat) : Prop :=
  p.tables.exec = Jvm.exec ∧ c.code = ex_B y ∧ c.maxLocals = ex_L y ∧ s.vm.findClass (ex_Rn (ex_C y)) = some m.cls ∧ (∀ w ∈ ex_tb, w.before args s = true) ∧ ex_Cx dC dI ad cI cB (ex_AA ad s.heap.size) s s.heap ∧ ex_In ad ∧ R = ex_Rm d ∧ ex_C y < 12
def ex_G (p : Program) (l : Launch) (e : Env) (R : Room) (s : State) (m : MethodId) (args : Array Value) (below : List Frame) (meth : Method) (c : Code) (Q : State → Prop) (dC : Nat → ClassId) (dI : Nat → Nat → Nat) (ad : Nat → Nat) (cI cB : ClassId) (y : Nat) (code : List Instr) (pl st : List Value) (w : PW) : Prop :=
  ∀ (pc : Nat) (H : Heap) (locs : List Loc) (ls : Array Slot), ex_ok y pc code = true → va_P (dC, dI) ex_cl (ex_cel ad cI cB w) H → va_S (ex_AA ad s.heap.size) s.heap H locs → ex_LR ad (ex_L y) ls pl → W p l e R s m args below meth c H locs 0 0 Q (F0 m pc ls (st.map (ex_tv ad)))
theorem ex_vD {ad : Nat → Nat} {cI cB : ClassId} {w : PW} {sz : Nat} (h : ex_In ad) : va_D (ex_AA ad sz) (ex_cel ad cI cB w) := by
  constructor
  · intro i j p q hi hj he
    rcases Nat.lt_or_ge i ex_NO with h1 | h1
    · rcases Nat.lt_or_ge j ex_NO with h2 | h2
      · rw [ex_cel_at h1] at hi
        rw [ex_cel_at h2] at hj
        rw [← Option.some.inj hi, ← Option.some.inj hj] at he
        exact h i j h1 h2 he
      · rw [ex_cel_none h2] at hj; cases hj
    · rw [ex_cel_none h1] at hi; cases hi
  · intro k q hk
    rcases Nat.lt_or_ge k ex_NO with h1 | h1
    · rw [ex_cel_at h1] at hk
      rw [← Option.some.inj hk]
      exact Or.inl ⟨k, h1, rfl⟩
    · rw [ex_cel_none h1] at hk; cases hk
theorem ex_ok_cons {y pc : Nat} {i : Instr} {c : List Instr} (hj : ex_jsr i = none) (h : ex_ok y pc (i :: c) = true) : ∃ j len, decode (ex_B y) pc = .ok (j, len) ∧ ex_okI y pc i j len = true ∧ ex_ok y (pc + len) c = true := by
  unfold ex_ok at h
  rw [hj] at h
  dsimp only at h
  cases hd : decode (ex_B y) pc with
  | error x => rw [hd] at h; cases h
  | ok q =>
    obtain ⟨j, len⟩ := q
    rw [hd] at h
    dsimp only at h
    rw [Bool.and_eq_true] at h
    exact ⟨j, len, rfl, h.1, h.2⟩
theorem ex_ok_jsr {y pc : Nat} {L : Int} {c : List Instr} (h : ex_ok y pc (.jsr L :: c) = true) : L = (pc : Int) := by
  have h2 : (decide (L = (pc : Int))) = true := h
  exact of_decide_eq_true h2
theorem ex_ok_blk (y L : Nat) : ex_ok y L (ex_blk y L) = true := by
  unfold ex_blk
  cases h : (ex_bs.getD y []).lookup L with
  | none => rfl
  | some b =>
    have hm := ex_lk h
    have := List.all_eq_true.mp (show (ex_bs.getD y []).all (fun q => ex_ok y q.1 q.2) = true from ex_okM_all y) _ hm
    exact this
theorem ex_okJ_spec {pc : Nat} {L off : Int} {len n : Nat} (h : ex_okJ pc L off len n = true) : (pc : Int) + off = ((L.toNat : Nat) : Int) ∧ len = n := by
  unfold ex_okJ at h
  simp only [Bool.and_eq_true, decide_eq_true_eq, beq_iff_eq] at h
  obtain ⟨⟨h1, h2⟩, h3⟩ := h
  exact ⟨by omega, h3⟩
section ES
variable {p : Program} {l : Launch} {e : Env} {R : Room} {s : State} {m : MethodId} {args : Array Value} {below : List Frame} {meth : Method} {c : Code} {Q : State → Prop} {dC : Nat → ClassId} {dI : Nat → Nat → Nat} {ad : Nat → Nat} {cI cB : ClassId} {y d : Nat} {code : List Instr} {pl st : List Value} {w : PW}
theorem es_iadd (C : ex_Fix p l e R s m args c dC dI ad cI cB y d) {a b : Int32} (k : ex_G p l e R s m args below meth c Q dC dI ad cI cB y (code) (pl) (.int (a + b) :: st) (w)) : ex_G p l e R s m args below meth c Q dC dI ad cI cB y (.iadd :: code) (pl) (.int b :: .int a :: st) (w) := by
  intro pc H locs ls hok hP hS hL
  obtain ⟨hx, hb, hml, hown, hts, hC, hIn, hR, hcl⟩ := C
  obtain ⟨j, len, hd, hi, ho⟩ := ex_ok_cons rfl hok
  have hi : (decide (j = .iadd) && len == 1) = true := hi
  simp only [Bool.and_eq_true, decide_eq_true_eq, beq_iff_eq] at hi
  obtain ⟨rfl, rfl⟩ := hi
  exact lv_iadd hx hb hd (k _ H locs ls ho hP hS hL)
theorem es_isub (C : ex_Fix p l e R s m args c dC dI ad cI cB y d) {a b : Int32} (k : ex_G p l e R s m args below meth c Q dC dI ad cI cB y (code) (pl) (.int (a - b) :: st) (w)) : ex_G p l e R s m args below meth c Q dC dI ad cI cB y (.isub :: code) (pl) (.int b :: .int a :: st) (w) := by
  intro pc H locs ls hok hP hS hL
  obtain ⟨hx, hb, hml, hown, hts, hC, hIn, hR, hcl⟩ := C
  obtain ⟨j, len, hd, hi, ho⟩ := ex_ok_cons rfl hok
  have hi : (decide (j = .isub) && len == 1) = true := hi
  simp only [Bool.and_eq_true, decide_eq_true_eq, beq_iff_eq] at hi
  obtain ⟨rfl, rfl⟩ := hi
  exact lv_isub hx hb hd (k _ H locs ls ho hP hS hL)
theorem es_imul (C : ex_Fix p l e R s m args c dC dI ad cI cB y d) {a b : Int32} (k : ex_G p l e R s m args below meth c Q dC dI ad cI cB y (code) (pl) (.int (a * b) :: st) (w)) : ex_G p l e R s m args below meth c Q dC dI ad cI cB y (.imul :: code) (pl) (.int b :: .int a :: st) (w) := by
  intro pc H locs ls hok hP hS hL
  obtain ⟨hx, hb, hml, hown, hts, hC, hIn, hR, hcl⟩ := C
  obtain ⟨j, len, hd, hi, ho⟩ := ex_ok_cons rfl hok
  have hi : (decide (j = .imul) && len == 1) = true := hi
  simp only [Bool.and_eq_true, decide_eq_true_eq, beq_iff_eq] at hi
  obtain ⟨rfl, rfl⟩ := hi
  exact lv_imul hx hb hd (k _ H locs ls ho hP hS hL)
theorem es_iand (C : ex_Fix p l e R s m args c dC dI ad cI cB y d) {a b : Int32} (k : ex_G p l e R s m args below meth c Q dC dI ad cI cB y (code) (pl) (.int (a &&& b) :: st) (w)) : ex_G p l e R s m args below meth c Q dC dI ad cI cB y (.iand :: code) (pl) (.int b :: .int a :: st) (w) := by
  intro pc H locs ls hok hP hS hL
  obtain ⟨hx, hb, hml, hown, hts, hC, hIn, hR, hcl⟩ := C
  obtain ⟨j, len, hd, hi, ho⟩ := ex_ok_cons rfl hok
  have hi : (decide (j = .iand) && len == 1) = true := hi
  simp only [Bool.and_eq_true, decide_eq_true_eq, beq_iff_eq] at hi
  obtain ⟨rfl, rfl⟩ := hi
  exact lv_iand hx hb hd (k _ H locs ls ho hP hS hL)
theorem es_ior (C : ex_Fix p l e R s m args c dC dI ad cI cB y d) {a b : Int32} (k : ex_G p l e R s m args below meth c Q dC dI ad cI cB y (code) (pl) (.int (a ||| b) :: st) (w)) : ex_G p l e R s m args below meth c Q dC dI ad cI cB y (.ior :: code) (pl) (.int b :: .int a :: st) (w) := by
  intro pc H locs ls hok hP hS hL
  obtain ⟨hx, hb, hml, hown, hts, hC, hIn, hR, hcl⟩ := C
  obtain ⟨j, len, hd, hi, ho⟩ := ex_ok_cons rfl hok
  have hi : (decide (j = .ior) && len == 1) = true := hi
  simp only [Bool.and_eq_true, decide_eq_true_eq, beq_iff_eq] at hi
  obtain ⟨rfl, rfl⟩ := hi
  exact lv_ior hx hb hd (k _ H locs ls ho hP hS hL)
theorem es_ixor (C : ex_Fix p l e R s m args c dC dI ad cI cB y d) {a b : Int32} (k : ex_G p l e R s m args below meth c Q dC dI ad cI cB y (code) (pl) (.int (a ^^^ b) :: st) (w)) : ex_G p l e R s m args below meth c Q dC dI ad cI cB y (.ixor :: code) (pl) (.int b :: .int a :: st) (w) := by
  intro pc H locs ls hok hP hS hL
  obtain ⟨hx, hb, hml, hown, hts, hC, hIn, hR, hcl⟩ := C
  obtain ⟨j, len, hd, hi, ho⟩ := ex_ok_cons rfl hok
  have hi : (decide (j = .ixor) && len == 1) = true := hi
  simp only [Bool.and_eq_true, decide_eq_true_eq, beq_iff_eq] at hi
  obtain ⟨rfl, rfl⟩ := hi
  exact lv_ixor hx hb hd (k _ H locs ls ho hP hS hL)
theorem es_ishl (C : ex_Fix p l e R s m args c dC dI ad cI cB y d) {a b : Int32} (k : ex_G p l e R s m args below meth c Q dC dI ad cI cB y (code) (pl) (.int (a <<< (b &&& 31)) :: st) (w)) : ex_G p l e R s m args below meth c Q dC dI ad cI cB y (.ishl :: code) (pl) (.int b :: .int a :: st) (w) := by
  intro pc H locs ls hok hP hS hL
  obtain ⟨hx, hb, hml, hown, hts, hC, hIn, hR, hcl⟩ := C
  obtain ⟨j, len, hd, hi, ho⟩ := ex_ok_cons rfl hok
  have hi : (decide (j = .ishl) && len == 1) = true := hi
  simp only [Bool.and_eq_true, decide_eq_true_eq, beq_iff_eq] at hi
  obtain ⟨rfl, rfl⟩ := hi
  exact lv_ishl hx hb hd (k _ H locs ls ho hP hS hL)
theorem es_ishr (C : ex_Fix p l e R s m args c dC dI ad cI cB y d) {a b : Int32} (k : ex_G p l e R s m args below meth c Q dC dI ad cI cB y (code) (pl) (.int (a >>> (b &&& 31)) :: st) (w)) : ex_G p l e R s m args below meth c Q dC dI ad cI cB y (.ishr :: code) (pl) (.int b :: .int a :: st) (w) := by
  intro pc H locs ls hok hP hS hL
  obtain ⟨hx, hb, hml, hown, hts, hC, hIn, hR, hcl⟩ := C
  obtain ⟨j, len, hd, hi, ho⟩ := ex_ok_cons rfl hok
  have hi : (decide (j = .ishr) && len == 1) = true := hi
  simp only [Bool.and_eq_true, decide_eq_true_eq, beq_iff_eq] at hi
  obtain ⟨rfl, rfl⟩ := hi
  exact lv_ishr hx hb hd (k _ H locs ls ho hP hS hL)
theorem es_idiv (C : ex_Fix p l e R s m args c dC dI ad cI cB y d) {a b : Int32} (hz : ¬ b = 0) (k : ex_G p l e R s m args below meth c Q dC dI ad cI cB y (code) (pl) (.int (a / b) :: st) (w)) : ex_G p l e R s m args below meth c Q dC dI ad cI cB y (.idiv :: code) (pl) (.int b :: .int a :: st) (w) := by
  intro pc H locs ls hok hP hS hL
  obtain ⟨hx, hb, hml, hown, hts, hC, hIn, hR, hcl⟩ := C
  obtain ⟨j, len, hd, hi, ho⟩ := ex_ok_cons rfl hok
  have hi : (decide (j = .idiv) && len == 1) = true := hi
  simp only [Bool.and_eq_true, decide_eq_true_eq, beq_iff_eq] at hi
  obtain ⟨rfl, rfl⟩ := hi
  exact lv_idiv hx hb hd hz (k _ H locs ls ho hP hS hL)
theorem es_irem (C : ex_Fix p l e R s m args c dC dI ad cI cB y d) {a b : Int32} (hz : ¬ b = 0) (k : ex_G p l e R s m args below meth c Q dC dI ad cI cB y (code) (pl) (.int (a - a / b * b) :: st) (w)) : ex_G p l e R s m args below meth c Q dC dI ad cI cB y (.irem :: code) (pl) (.int b :: .int a :: st) (w) := by
  intro pc H locs ls hok hP hS hL
  obtain ⟨hx, hb, hml, hown, hts, hC, hIn, hR, hcl⟩ := C
  obtain ⟨j, len, hd, hi, ho⟩ := ex_ok_cons rfl hok
  have hi : (decide (j = .irem) && len == 1) = true := hi
  simp only [Bool.and_eq_true, decide_eq_true_eq, beq_iff_eq] at hi
  obtain ⟨rfl, rfl⟩ := hi
  exact lv_irem hx hb hd hz (k _ H locs ls ho hP hS hL)
theorem es_ladd (C : ex_Fix p l e R s m args c dC dI ad cI cB y d) {a b : Int64} (k : ex_G p l e R s m args below meth c Q dC dI ad cI cB y (code) (pl) (.long (a + b) :: st) (w)) : ex_G p l e R s m args below meth c Q dC dI ad cI cB y (.ladd :: code) (pl) (.long b :: .long a :: st) (w) := by
  intro pc H locs ls hok hP hS hL
  obtain ⟨hx, hb, hml, hown, hts, hC, hIn, hR, hcl⟩ := C
  obtain ⟨j, len, hd, hi, ho⟩ := ex_ok_cons rfl hok
  have hi : (decide (j = .ladd) && len == 1) = true := hi
  simp only [Bool.and_eq_true, decide_eq_true_eq, beq_iff_eq] at hi
  obtain ⟨rfl, rfl⟩ := hi
  exact lv_ladd hx hb hd (k _ H locs ls ho hP hS hL)
theorem es_lmul (C : ex_Fix p l e R s m args c dC dI ad cI cB y d) {a b : Int64} (k : ex_G p l e R s m args below meth c Q dC dI ad cI cB y (code) (pl) (.long (a * b) :: st) (w)) : ex_G p l e R s m args below meth c Q dC dI ad cI cB y (.lmul :: code) (pl) (.long b :: .long a :: st) (w) := by
  intro pc H locs ls hok hP hS hL
  obtain ⟨hx, hb, hml, hown, hts, hC, hIn, hR, hcl⟩ := C
  obtain ⟨j, len, hd, hi, ho⟩ := ex_ok_cons rfl hok
  have hi : (decide (j = .lmul) && len == 1) = true := hi
  simp only [Bool.and_eq_true, decide_eq_true_eq, beq_iff_eq] at hi
  obtain ⟨rfl, rfl⟩ := hi
  exact lv_lmul hx hb hd (k _ H locs ls ho hP hS hL)
theorem es_land (C : ex_Fix p l e R s m args c dC dI ad cI cB y d) {a b : Int64} (k : ex_G p l e R s m args below meth c Q dC dI ad cI cB y (code) (pl) (.long (a &&& b) :: st) (w)) : ex_G p l e R s m args below meth c Q dC dI ad cI cB y (.land :: code) (pl) (.long b :: .long a :: st) (w) := by
  intro pc H locs ls hok hP hS hL
  obtain ⟨hx, hb, hml, hown, hts, hC, hIn, hR, hcl⟩ := C
  obtain ⟨j, len, hd, hi, ho⟩ := ex_ok_cons rfl hok
  have hi : (decide (j = .land) && len == 1) = true := hi
  simp only [Bool.and_eq_true, decide_eq_true_eq, beq_iff_eq] at hi
  obtain ⟨rfl, rfl⟩ := hi
  exact lv_land hx hb hd (k _ H locs ls ho hP hS hL)
theorem es_lshr (C : ex_Fix p l e R s m args c dC dI ad cI cB y d) {a : Int64} {b : Int32} (k : ex_G p l e R s m args below meth c Q dC dI ad cI cB y (code) (pl) (.long (a >>> (b.toInt64 &&& 63)) :: st) (w)) : ex_G p l e R s m args below meth c Q dC dI ad cI cB y (.lshr :: code) (pl) (.int b :: .long a :: st) (w) := by
  intro pc H locs ls hok hP hS hL
  obtain ⟨hx, hb, hml, hown, hts, hC, hIn, hR, hcl⟩ := C
  obtain ⟨j, len, hd, hi, ho⟩ := ex_ok_cons rfl hok
  have hi : (decide (j = .lshr) && len == 1) = true := hi
  simp only [Bool.and_eq_true, decide_eq_true_eq, beq_iff_eq] at hi
  obtain ⟨rfl, rfl⟩ := hi
  exact lv_lshr hx hb hd rfl (k _ H locs ls ho hP hS hL)
theorem es_lushr (C : ex_Fix p l e R s m args c dC dI ad cI cB y d) {a : Int64} {b : Int32} (k : ex_G p l e R s m args below meth c Q dC dI ad cI cB y (code) (pl) (.long (a.toUInt64 >>> (b.toInt64.toUInt64 &&& Int64.toUInt64 63)).toInt64 :: st) (w)) : ex_G p l e R s m args below meth c Q dC dI ad cI cB y (.lushr :: code) (pl) (.int b :: .long a :: st) (w) := by
  intro pc H locs ls hok hP hS hL
  obtain ⟨hx, hb, hml, hown, hts, hC, hIn, hR, hcl⟩ := C
  obtain ⟨j, len, hd, hi, ho⟩ := ex_ok_cons rfl hok
  have hi : (decide (j = .lushr) && len == 1) = true := hi
  simp only [Bool.and_eq_true, decide_eq_true_eq, beq_iff_eq] at hi
  obtain ⟨rfl, rfl⟩ := hi
  exact lv_lushr hx hb hd rfl (k _ H locs ls ho hP hS hL)
theorem es_i2l (C : ex_Fix p l e R s m args c dC dI ad cI cB y d) {a : Int32} (k : ex_G p l e R s m args below meth c Q dC dI ad cI cB y (code) (pl) (.long a.toInt64 :: st) (w)) : ex_G p l e R s m args below meth c Q dC dI ad cI cB y (.i2l :: code) (pl) (.int a :: st) (w) := by
  intro pc H locs ls hok hP hS hL
  obtain ⟨hx, hb, hml, hown, hts, hC, hIn, hR, hcl⟩ := C
  obtain ⟨j, len, hd, hi, ho⟩ := ex_ok_cons rfl hok
  have hi : (decide (j = .i2l) && len == 1) = true := hi
  simp only [Bool.and_eq_true, decide_eq_true_eq, beq_iff_eq] at hi
  obtain ⟨rfl, rfl⟩ := hi
  exact lv_i2l hx hb hd rfl (k _ H locs ls ho hP hS hL)
theorem es_l2i (C : ex_Fix p l e R s m args c dC dI ad cI cB y d) {a : Int64} (k : ex_G p l e R s m args below meth c Q dC dI ad cI cB y (code) (pl) (.int a.toInt32 :: st) (w)) : ex_G p l e R s m args below meth c Q dC dI ad cI cB y (.l2i :: code) (pl) (.long a :: st) (w) := by
  intro pc H locs ls hok hP hS hL
  obtain ⟨hx, hb, hml, hown, hts, hC, hIn, hR, hcl⟩ := C
  obtain ⟨j, len, hd, hi, ho⟩ := ex_ok_cons rfl hok
  have hi : (decide (j = .l2i) && len == 1) = true := hi
  simp only [Bool.and_eq_true, decide_eq_true_eq, beq_iff_eq] at hi
  obtain ⟨rfl, rfl⟩ := hi
  exact lv_l2i hx hb hd rfl (k _ H locs ls ho hP hS hL)
theorem es_i2b (C : ex_Fix p l e R s m args c dC dI ad cI cB y d) {a : Int32} (k : ex_G p l e R s m args below meth c Q dC dI ad cI cB y (code) (pl) (.int a.toInt8.toInt32 :: st) (w)) : ex_G p l e R s m args below meth c Q dC dI ad cI cB y (.i2b :: code) (pl) (.int a :: st) (w) := by
  intro pc H locs ls hok hP hS hL
  obtain ⟨hx, hb, hml, hown, hts, hC, hIn, hR, hcl⟩ := C
  obtain ⟨j, len, hd, hi, ho⟩ := ex_ok_cons rfl hok
  have hi : (decide (j = .i2b) && len == 1) = true := hi
  simp only [Bool.and_eq_true, decide_eq_true_eq, beq_iff_eq] at hi
  obtain ⟨rfl, rfl⟩ := hi
  exact lv_i2b hx hb hd rfl (k _ H locs ls ho hP hS hL)
theorem es_dup_r (C : ex_Fix p l e R s m args c dC dI ad cI cB y d) {a : Nat} (k : ex_G p l e R s m args below meth c Q dC dI ad cI cB y (code) (pl) (.ref a :: .ref a :: st) (w)) : ex_G p l e R s m args below meth c Q dC dI ad cI cB y (.dup :: code) (pl) (.ref a :: st) (w) := by
  intro pc H locs ls hok hP hS hL
  obtain ⟨hx, hb, hml, hown, hts, hC, hIn, hR, hcl⟩ := C
  obtain ⟨j, len, hd, hi, ho⟩ := ex_ok_cons rfl hok
  have hi : (decide (j = .dup) && len == 1) = true := hi
  simp only [Bool.and_eq_true, decide_eq_true_eq, beq_iff_eq] at hi
  obtain ⟨rfl, rfl⟩ := hi
  exact lv_dup (va := .ref (ad a)) hx hb hd rfl (k _ H locs ls ho hP hS hL)
theorem es_dup_i (C : ex_Fix p l e R s m args c dC dI ad cI cB y d) {a : Int32} (k : ex_G p l e R s m args below meth c Q dC dI ad cI cB y (code) (pl) (.int a :: .int a :: st) (w)) : ex_G p l e R s m args below meth c Q dC dI ad cI cB y (.dup :: code) (pl) (.int a :: st) (w) := by
  intro pc H locs ls hok hP hS hL
  obtain ⟨hx, hb, hml, hown, hts, hC, hIn, hR, hcl⟩ := C
  obtain ⟨j, len, hd, hi, ho⟩ := ex_ok_cons rfl hok
  have hi : (decide (j = .dup) && len == 1) = true := hi
  simp only [Bool.and_eq_true, decide_eq_true_eq, beq_iff_eq] at hi
  obtain ⟨rfl, rfl⟩ := hi
  exact lv_dup (va := .int a) hx hb hd rfl (k _ H locs ls ho hP hS hL)
theorem es_dup2 (C : ex_Fix p l e R s m args c dC dI ad cI cB y d) {a : Int32} {b : Nat} (k : ex_G p l e R s m args below meth c Q dC dI ad cI cB y (code) (pl) (.int a :: .ref b :: .int a :: .ref b :: st) (w)) : ex_G p l e R s m args below meth c Q dC dI ad cI cB y (.dup2 :: code) (pl) (.int a :: .ref b :: st) (w) := by
  intro pc H locs ls hok hP hS hL
  obtain ⟨hx, hb, hml, hown, hts, hC, hIn, hR, hcl⟩ := C
  obtain ⟨j, len, hd, hi, ho⟩ := ex_ok_cons rfl hok
  have hi : (decide (j = .dup2) && len == 1) = true := hi
  simp only [Bool.and_eq_true, decide_eq_true_eq, beq_iff_eq] at hi
  obtain ⟨rfl, rfl⟩ := hi
  exact lv_dup2_11 (va := .int a) (vb := .ref (ad b)) hx hb hd rfl rfl (k _ H locs ls ho hP hS hL)
theorem es_pop (C : ex_Fix p l e R s m args c dC dI ad cI cB y d) {a : Int32} (k : ex_G p l e R s m args below meth c Q dC dI ad cI cB y (code) (pl) (st) (w)) : ex_G p l e R s m args below meth c Q dC dI ad cI cB y (.pop :: code) (pl) (.int a :: st) (w) := by
  intro pc H locs ls hok hP hS hL
  obtain ⟨hx, hb, hml, hown, hts, hC, hIn, hR, hcl⟩ := C
  obtain ⟨j, len, hd, hi, ho⟩ := ex_ok_cons rfl hok
  have hi : (decide (j = .pop) && len == 1) = true := hi
  simp only [Bool.and_eq_true, decide_eq_true_eq, beq_iff_eq] at hi
  obtain ⟨rfl, rfl⟩ := hi
  exact lv_pop (va := .int a) hx hb hd rfl (k _ H locs ls ho hP hS hL)
theorem es_iload (C : ex_Fix p l e R s m args c dC dI ad cI cB y d) {i : Nat} {x : Int32} (hg : pl.getD i .null = .int x) (k : ex_G p l e R s m args below meth c Q dC dI ad cI cB y (code) (pl) (.int x :: st) (w)) : ex_G p l e R s m args below meth c Q dC dI ad cI cB y (.iload i :: code) (pl) (st) (w) := by
  intro pc H locs ls hok hP hS hL
  obtain ⟨hx, hb, hml, hown, hts, hC, hIn, hR, hcl⟩ := C
  obtain ⟨j, len, hd, hi, ho⟩ := ex_ok_cons rfl hok
  have hi : ((decide (j = .iload i) && len == 2) || (if h : i < 4 then decide (j = .iload_n ⟨i, h⟩) && len == 1 else false)) = true := hi
  have hl := hL.get (ex_getD hg (by intro q; cases q)) rfl
  rcases Bool.or_eq_true _ _ ▸ hi with hi | hi
  · simp only [Bool.and_eq_true, decide_eq_true_eq, beq_iff_eq] at hi
    obtain ⟨rfl, rfl⟩ := hi
    exact lv_iload hx hb hd hl (k _ H locs ls ho hP hS hL)
  · by_cases h4 : i < 4
    · rw [dif_pos h4] at hi
      simp only [Bool.and_eq_true, decide_eq_true_eq, beq_iff_eq] at hi
      obtain ⟨rfl, rfl⟩ := hi
      exact lv_iload_n hx hb hd rfl hl (k _ H locs ls ho hP hS hL)
    · rw [dif_neg h4] at hi
      cases hi
theorem es_aload (C : ex_Fix p l e R s m args c dC dI ad cI cB y d) {i : Nat} {x : Nat} (hg : pl.getD i .null = .ref x) (k : ex_G p l e R s m args below meth c Q dC dI ad cI cB y (code) (pl) (.ref x :: st) (w)) : ex_G p l e R s m args below meth c Q dC dI ad cI cB y (.aload i :: code) (pl) (st) (w) := by
  intro pc H locs ls hok hP hS hL
  obtain ⟨hx, hb, hml, hown, hts, hC, hIn, hR, hcl⟩ := C
  obtain ⟨j, len, hd, hi, ho⟩ := ex_ok_cons rfl hok
  have hi : ((decide (j = .aload i) && len == 2) || (if h : i < 4 then decide (j = .aload_n ⟨i, h⟩) && len == 1 else false)) = true := hi
  have hl := hL.get (ex_getD hg (by intro q; cases q)) rfl
  rcases Bool.or_eq_true _ _ ▸ hi with hi | hi
  · simp only [Bool.and_eq_true, decide_eq_true_eq, beq_iff_eq] at hi
    obtain ⟨rfl, rfl⟩ := hi
    exact lv_aload hx hb hd hl (k _ H locs ls ho hP hS hL)
  · by_cases h4 : i < 4
    · rw [dif_pos h4] at hi
      simp only [Bool.and_eq_true, decide_eq_true_eq, beq_iff_eq] at hi
      obtain ⟨rfl, rfl⟩ := hi
      exact lv_aload_n hx hb hd rfl hl (k _ H locs ls ho hP hS hL)
    · rw [dif_neg h4] at hi
      cases hi
theorem es_lload (C : ex_Fix p l e R s m args c dC dI ad cI cB y d) {i : Nat} {x : Int64} (hg : pl.getD i .null = .long x) (k : ex_G p l e R s m args below meth c Q dC dI ad cI cB y (code) (pl) (.long x :: st) (w)) : ex_G p l e R s m args below meth c Q dC dI ad cI cB y (.lload i :: code) (pl) (st) (w) := by
  intro pc H locs ls hok hP hS hL
  obtain ⟨hx, hb, hml, hown, hts, hC, hIn, hR, hcl⟩ := C
  obtain ⟨j, len, hd, hi, ho⟩ := ex_ok_cons rfl hok
  have hi : ((decide (j = .lload i) && len == 2) || (if h : i < 4 then decide (j = .lload_n ⟨i, h⟩) && len == 1 else false)) = true := hi
  have hl := hL.get (ex_getD hg (by intro q; cases q)) rfl
  rcases Bool.or_eq_true _ _ ▸ hi with hi | hi
  · simp only [Bool.and_eq_true, decide_eq_true_eq, beq_iff_eq] at hi
    obtain ⟨rfl, rfl⟩ := hi
    exact lv_lload hx hb hd hl (k _ H locs ls ho hP hS hL)
  · by_cases h4 : i < 4
    · rw [dif_pos h4] at hi
      simp only [Bool.and_eq_true, decide_eq_true_eq, beq_iff_eq] at hi
      obtain ⟨rfl, rfl⟩ := hi
      exact lv_lload_n hx hb hd rfl hl (k _ H locs ls ho hP hS hL)
    · rw [dif_neg h4] at hi
      cases hi
theorem es_istore (C : ex_Fix p l e R s m args c dC dI ad cI cB y d) {i : Nat} {x : Int32} {a : Value} (hg : pl[i]? = some a) (hr : ∀ n, a ≠ .retAddr n) (k : ex_G p l e R s m args below meth c Q dC dI ad cI cB y (code) (pl.set i (.int x)) (st) (w)) : ex_G p l e R s m args below meth c Q dC dI ad cI cB y (.istore i :: code) (pl) (.int x :: st) (w) := by
  intro pc H locs ls hok hP hS hL
  obtain ⟨hx, hb, hml, hown, hts, hC, hIn, hR, hcl⟩ := C
  obtain ⟨j, len, hd, hi, ho⟩ := ex_ok_cons rfl hok
  have hi : ((decide (j = .istore i) && len == 2) || (if h : i < 4 then decide (j = .istore_n ⟨i, h⟩) && len == 1 else false)) = true := hi
  have hn : i < ex_L y := by rw [← hL.1]; exact (List.getElem?_eq_some_iff.mp hg).1
  rcases Bool.or_eq_true _ _ ▸ hi with hi | hi
  · simp only [Bool.and_eq_true, decide_eq_true_eq, beq_iff_eq] at hi
    obtain ⟨rfl, rfl⟩ := hi
    exact lv_istore hx hb hd hL.2.1 hn rfl (fun ls' h' => k _ H locs ls' ho hP hS (hL.set1 hg hr rfl rfl h'))
  · by_cases h4 : i < 4
    · rw [dif_pos h4] at hi
      simp only [Bool.and_eq_true, decide_eq_true_eq, beq_iff_eq] at hi
      obtain ⟨rfl, rfl⟩ := hi
      exact lv_istore_n hx hb hd rfl hL.2.1 hn rfl (fun ls' h' => k _ H locs ls' ho hP hS (hL.set1 hg hr rfl rfl h'))
    · rw [dif_neg h4] at hi
      cases hi
theorem es_astore (C : ex_Fix p l e R s m args c dC dI ad cI cB y d) {i : Nat} {x : Nat} {a : Value} (hg : pl[i]? = some a) (hr : ∀ n, a ≠ .retAddr n) (k : ex_G p l e R s m args below meth c Q dC dI ad cI cB y (code) (pl.set i (.ref x)) (st) (w)) : ex_G p l e R s m args below meth c Q dC dI ad cI cB y (.astore i :: code) (pl) (.ref x :: st) (w) := by
  intro pc H locs ls hok hP hS hL
  obtain ⟨hx, hb, hml, hown, hts, hC, hIn, hR, hcl⟩ := C
  obtain ⟨j, len, hd, hi, ho⟩ := ex_ok_cons rfl hok
  have hi : ((decide (j = .astore i) && len == 2) || (if h : i < 4 then decide (j = .astore_n ⟨i, h⟩) && len == 1 else false)) = true := hi
  have hn : i < ex_L y := by rw [← hL.1]; exact (List.getElem?_eq_some_iff.mp hg).1
  rcases Bool.or_eq_true _ _ ▸ hi with hi | hi
  · simp only [Bool.and_eq_true, decide_eq_true_eq, beq_iff_eq] at hi
    obtain ⟨rfl, rfl⟩ := hi
    exact lv_astore hx hb hd hL.2.1 hn rfl (fun ls' h' => k _ H locs ls' ho hP hS (hL.set1 hg hr rfl rfl h'))
  · by_cases h4 : i < 4
    · rw [dif_pos h4] at hi
      simp only [Bool.and_eq_true, decide_eq_true_eq, beq_iff_eq] at hi
      obtain ⟨rfl, rfl⟩ := hi
      exact lv_astore_n hx hb hd rfl hL.2.1 hn rfl (fun ls' h' => k _ H locs ls' ho hP hS (hL.set1 hg hr rfl rfl h'))
    · rw [dif_neg h4] at hi
      cases hi
theorem es_lstore (C : ex_Fix p l e R s m args c dC dI ad cI cB y d) {i : Nat} {x : Int64} {a : Value} (hg : pl[i]? = some a) (hr : ∀ n, a ≠ .retAddr n) (hk : i + 1 < pl.length) (k : ex_G p l e R s m args below meth c Q dC dI ad cI cB y (code) ((pl.set (i + 1) (.retAddr 0)).set i (.long x)) (st) (w)) : ex_G p l e R s m args below meth c Q dC dI ad cI cB y (.lstore i :: code) (pl) (.long x :: st) (w) := by
  intro pc H locs ls hok hP hS hL
  obtain ⟨hx, hb, hml, hown, hts, hC, hIn, hR, hcl⟩ := C
  obtain ⟨j, len, hd, hi, ho⟩ := ex_ok_cons rfl hok
  have hi : ((decide (j = .lstore i) && len == 2) || (if h : i < 4 then decide (j = .lstore_n ⟨i, h⟩) && len == 1 else false)) = true := hi
  have hn : i + 1 < ex_L y := by rw [← hL.1]; exact hk
  rcases Bool.or_eq_true _ _ ▸ hi with hi | hi
  · simp only [Bool.and_eq_true, decide_eq_true_eq, beq_iff_eq] at hi
    obtain ⟨rfl, rfl⟩ := hi
    exact lv_lstore hx hb hd hL.2.1 hn rfl (fun ls' h' => k _ H locs ls' ho hP hS (hL.set2 hg hr hk h'))
  · by_cases h4 : i < 4
    · rw [dif_pos h4] at hi
      simp only [Bool.and_eq_true, decide_eq_true_eq, beq_iff_eq] at hi
      obtain ⟨rfl, rfl⟩ := hi
      exact lv_lstore_n hx hb hd rfl hL.2.1 hn rfl (fun ls' h' => k _ H locs ls' ho hP hS (hL.set2 hg hr hk h'))
    · rw [dif_neg h4] at hi
      cases hi
theorem es_iinc (C : ex_Fix p l e R s m args c dC dI ad cI cB y d) {i : Nat} {n : Int} {x : Int32} (hg : pl.getD i .null = .int x) (k : ex_G p l e R s m args below meth c Q dC dI ad cI cB y (code) (pl.set i (.int (x + Int32.ofInt n))) (st) (w)) : ex_G p l e R s m args below meth c Q dC dI ad cI cB y (.iinc i n :: code) (pl) (st) (w) := by
  intro pc H locs ls hok hP hS hL
  obtain ⟨hx, hb, hml, hown, hts, hC, hIn, hR, hcl⟩ := C
  obtain ⟨j, len, hd, hi, ho⟩ := ex_ok_cons rfl hok
  have hi : (decide (j = .iinc i n) && len == 3) = true := hi
  simp only [Bool.and_eq_true, decide_eq_true_eq, beq_iff_eq] at hi
  obtain ⟨rfl, rfl⟩ := hi
  have hg2 := ex_getD hg (by intro q; cases q)
  have hn : i < ex_L y := by rw [← hL.1]; exact (List.getElem?_eq_some_iff.mp hg2).1
  have hm : (i, Value.int x) ∈ ex_asc ad 0 pl := ex_asc_mem.mpr ⟨i, .int x, hg2, rfl, by omega, rfl⟩
  obtain ⟨q, hq⟩ := List.getElem?_of_mem hm
  exact lv_iinc hx hb hd hL.2.1 hq rfl hn rfl (fun ls' h' => k _ H locs ls' ho hP hS (hL.set1 hg2 (by intro n q; cases q) rfl rfl h'))
theorem es_push (C : ex_Fix p l e R s m args c dC dI ad cI cB y d) {n : Int} (k : ex_G p l e R s m args below meth c Q dC dI ad cI cB y (code) (pl) (.int (Int32.ofInt n) :: st) (w)) : ex_G p l e R s m args below meth c Q dC dI ad cI cB y (.sipush n :: code) (pl) (st) (w) := by
  intro pc H locs ls hok hP hS hL
  obtain ⟨hx, hb, hml, hown, hts, hC, hIn, hR, hcl⟩ := C
  obtain ⟨j, len, hd, hi, ho⟩ := ex_ok_cons rfl hok
  unfold ex_okI at hi
  dsimp only at hi
  cases j with
  | iconst a =>
    simp only [Bool.and_eq_true, beq_iff_eq] at hi
    obtain ⟨rfl, rfl⟩ := hi
    exact lv_iconst hx hb hd rfl (k _ H locs ls ho hP hS hL)
  | bipush a =>
    simp only [Bool.and_eq_true, beq_iff_eq] at hi
    obtain ⟨⟨rfl, rfl⟩, h3⟩ := hi
    exact lv_bipush hx hb hd h3 (k _ H locs ls ho hP hS hL)
  | sipush a =>
    simp only [Bool.and_eq_true, beq_iff_eq] at hi
    obtain ⟨⟨rfl, rfl⟩, h3⟩ := hi
    exact lv_sipush hx hb hd h3 (k _ H locs ls ho hP hS hL)
  | ldc a =>
    simp only [Bool.and_eq_true, beq_iff_eq] at hi
    obtain ⟨h3, rfl⟩ := hi
    have hq := kq_K hcl _ (ex_lk h3)
    exact lv_ldc hx hb hown (hts _ hq) hd (k _ H locs ls ho hP hS hL)
  | _ => cases hi
theorem es_lpush (C : ex_Fix p l e R s m args c dC dI ad cI cB y d) {n : Int} (k : ex_G p l e R s m args below meth c Q dC dI ad cI cB y (code) (pl) (.long (Int64.ofInt n) :: st) (w)) : ex_G p l e R s m args below meth c Q dC dI ad cI cB y (.goto_w n :: code) (pl) (st) (w) := by
  intro pc H locs ls hok hP hS hL
  obtain ⟨hx, hb, hml, hown, hts, hC, hIn, hR, hcl⟩ := C
  obtain ⟨j, len, hd, hi, ho⟩ := ex_ok_cons rfl hok
  unfold ex_okI at hi
  dsimp only at hi
  cases j with
  | ldc2_w a =>
    simp only [Bool.and_eq_true, beq_iff_eq] at hi
    obtain ⟨h3, rfl⟩ := hi
    have hq := kq_L hcl _ (ex_lk h3)
    exact lv_ldc2 hx hb hown (hts _ hq) hd (k _ H locs ls ho hP hS hL)
  | _ => cases hi
theorem es_jsr (C : ex_Fix p l e R s m args c dC dI ad cI cB y d) {L : Int} (k : ex_G p l e R s m args below meth c Q dC dI ad cI cB y (ex_blk y L.toNat) (pl) (st) (w)) : ex_G p l e R s m args below meth c Q dC dI ad cI cB y (.jsr L :: code) (pl) (st) (w) := by
  intro pc H locs ls hok hP hS hL
  obtain ⟨hx, hb, hml, hown, hts, hC, hIn, hR, hcl⟩ := C
  have hL2 := ex_ok_jsr hok
  have : L.toNat = pc := by omega
  exact k pc H locs ls (by rw [this]; exact ex_ok_blk y pc) hP hS hL
theorem es_goto (C : ex_Fix p l e R s m args c dC dI ad cI cB y d) {L : Int} (k : ex_G p l e R s m args below meth c Q dC dI ad cI cB y (ex_blk y L.toNat) (pl) (st) (w)) : ex_G p l e R s m args below meth c Q dC dI ad cI cB y (.goto L :: code) (pl) (st) (w) := by
  intro pc H locs ls hok hP hS hL
  obtain ⟨hx, hb, hml, hown, hts, hC, hIn, hR, hcl⟩ := C
  obtain ⟨j, len, hd, hi, ho⟩ := ex_ok_cons rfl hok
  unfold ex_okI at hi
  dsimp only at hi
  cases j with
  | goto off =>
    obtain ⟨h1, rfl⟩ := ex_okJ_spec hi
    exact lv_goto hx hb hd h1 (k _ H locs ls (ex_ok_blk y _) hP hS hL)
  | _ => cases hi
theorem es_icmp_eq (C : ex_Fix p l e R s m args c dC dI ad cI cB y d) {a b : Int32} {L : Int} (kt : a = b → ex_G p l e R s m args below meth c Q dC dI ad cI cB y (ex_blk y L.toNat) (pl) (st) (w)) (kf : ¬ a = b → ex_G p l e R s m args below meth c Q dC dI ad cI cB y (code) (pl) (st) (w)) : ex_G p l e R s m args below meth c Q dC dI ad cI cB y (.if_icmp .eq L :: code) (pl) (.int b :: .int a :: st) (w) := by
  intro pc H locs ls hok hP hS hL
  obtain ⟨hx, hb, hml, hown, hts, hC, hIn, hR, hcl⟩ := C
  obtain ⟨j, len, hd, hi, ho⟩ := ex_ok_cons rfl hok
  unfold ex_okI at hi
  dsimp only at hi
  cases j with
  | if_icmp ce off =>
    simp only [Bool.and_eq_true, decide_eq_true_eq] at hi
    obtain ⟨rfl, h3⟩ := hi
    obtain ⟨h1, rfl⟩ := ex_okJ_spec h3
    exact lv_icmp_eq hx hb hd h1 (fun q => kt q _ H locs ls (ex_ok_blk y _) hP hS hL) (fun q => kf q _ H locs ls ho hP hS hL)
  | _ => cases hi
theorem es_if_eq (C : ex_Fix p l e R s m args c dC dI ad cI cB y d) {a : Int32} {L : Int} (kt : a = 0 → ex_G p l e R s m args below meth c Q dC dI ad cI cB y (ex_blk y L.toNat) (pl) (st) (w)) (kf : ¬ a = 0 → ex_G p l e R s m args below meth c Q dC dI ad cI cB y (code) (pl) (st) (w)) : ex_G p l e R s m args below meth c Q dC dI ad cI cB y (.ifCond .eq L :: code) (pl) (.int a :: st) (w) := by
  intro pc H locs ls hok hP hS hL
  obtain ⟨hx, hb, hml, hown, hts, hC, hIn, hR, hcl⟩ := C
  obtain ⟨j, len, hd, hi, ho⟩ := ex_ok_cons rfl hok
  unfold ex_okI at hi
  dsimp only at hi
  cases j with
  | ifCond ce off =>
    simp only [Bool.and_eq_true, decide_eq_true_eq] at hi
    obtain ⟨rfl, h3⟩ := hi
    obtain ⟨h1, rfl⟩ := ex_okJ_spec h3
    exact lv_if_eq hx hb hd h1 (fun q => kt q _ H locs ls (ex_ok_blk y _) hP hS hL) (fun q => kf q _ H locs ls ho hP hS hL)
  | _ => cases hi
theorem es_icmp_ne (C : ex_Fix p l e R s m args c dC dI ad cI cB y d) {a b : Int32} {L : Int} (kt : ¬ a = b → ex_G p l e R s m args below meth c Q dC dI ad cI cB y (ex_blk y L.toNat) (pl) (st) (w)) (kf : a = b → ex_G p l e R s m args below meth c Q dC dI ad cI cB y (code) (pl) (st) (w)) : ex_G p l e R s m args below meth c Q dC dI ad cI cB y (.if_icmp .ne L :: code) (pl) (.int b :: .int a :: st) (w) := by
  intro pc H locs ls hok hP hS hL
  obtain ⟨hx, hb, hml, hown, hts, hC, hIn, hR, hcl⟩ := C
  obtain ⟨j, len, hd, hi, ho⟩ := ex_ok_cons rfl hok
  unfold ex_okI at hi
  dsimp only at hi
  cases j with
  | if_icmp ce off =>
    simp only [Bool.and_eq_true, decide_eq_true_eq] at hi
    obtain ⟨rfl, h3⟩ := hi
    obtain ⟨h1, rfl⟩ := ex_okJ_spec h3
    exact lv_icmp_ne hx hb hd h1 (fun q => kt q _ H locs ls (ex_ok_blk y _) hP hS hL) (fun q => kf q _ H locs ls ho hP hS hL)
  | _ => cases hi
theorem es_if_ne (C : ex_Fix p l e R s m args c dC dI ad cI cB y d) {a : Int32} {L : Int} (kt : ¬ a = 0 → ex_G p l e R s m args below meth c Q dC dI ad cI cB y (ex_blk y L.toNat) (pl) (st) (w)) (kf : a = 0 → ex_G p l e R s m args below meth c Q dC dI ad cI cB y (code) (pl) (st) (w)) : ex_G p l e R s m args below meth c Q dC dI ad cI cB y (.ifCond .ne L :: code) (pl) (.int a :: st) (w) := by
  intro pc H locs ls hok hP hS hL
  obtain ⟨hx, hb, hml, hown, hts, hC, hIn, hR, hcl⟩ := C
  obtain ⟨j, len, hd, hi, ho⟩ := ex_ok_cons rfl hok
  unfold ex_okI at hi
  dsimp only at hi
  cases j with
  | ifCond ce off =>
    simp only [Bool.and_eq_true, decide_eq_true_eq] at hi
    obtain ⟨rfl, h3⟩ := hi
    obtain ⟨h1, rfl⟩ := ex_okJ_spec h3
    exact lv_if_ne hx hb hd h1 (fun q => kt q _ H locs ls (ex_ok_blk y _) hP hS hL) (fun q => kf q _ H locs ls ho hP hS hL)
  | _ => cases hi
theorem es_icmp_lt (C : ex_Fix p l e R s m args c dC dI ad cI cB y d) {a b : Int32} {L : Int} (kt : a < b → ex_G p l e R s m args below meth c Q dC dI ad cI cB y (ex_blk y L.toNat) (pl) (st) (w)) (kf : ¬ a < b → ex_G p l e R s m args below meth c Q dC dI ad cI cB y (code) (pl) (st) (w)) : ex_G p l e R s m args below meth c Q dC dI ad cI cB y (.if_icmp .lt L :: code) (pl) (.int b :: .int a :: st) (w) := by
  intro pc H locs ls hok hP hS hL
  obtain ⟨hx, hb, hml, hown, hts, hC, hIn, hR, hcl⟩ := C
  obtain ⟨j, len, hd, hi, ho⟩ := ex_ok_cons rfl hok
  unfold ex_okI at hi
  dsimp only at hi
  cases j with
  | if_icmp ce off =>
    simp only [Bool.and_eq_true, decide_eq_true_eq] at hi
    obtain ⟨rfl, h3⟩ := hi
    obtain ⟨h1, rfl⟩ := ex_okJ_spec h3
    exact lv_icmp_lt hx hb hd h1 (fun q => kt q _ H locs ls (ex_ok_blk y _) hP hS hL) (fun q => kf q _ H locs ls ho hP hS hL)
  | _ => cases hi
theorem es_if_lt (C : ex_Fix p l e R s m args c dC dI ad cI cB y d) {a : Int32} {L : Int} (kt : a < 0 → ex_G p l e R s m args below meth c Q dC dI ad cI cB y (ex_blk y L.toNat) (pl) (st) (w)) (kf : ¬ a < 0 → ex_G p l e R s m args below meth c Q dC dI ad cI cB y (code) (pl) (st) (w)) : ex_G p l e R s m args below meth c Q dC dI ad cI cB y (.ifCond .lt L :: code) (pl) (.int a :: st) (w) := by
  intro pc H locs ls hok hP hS hL
  obtain ⟨hx, hb, hml, hown, hts, hC, hIn, hR, hcl⟩ := C
  obtain ⟨j, len, hd, hi, ho⟩ := ex_ok_cons rfl hok
  unfold ex_okI at hi
  dsimp only at hi
  cases j with
  | ifCond ce off =>
    simp only [Bool.and_eq_true, decide_eq_true_eq] at hi
    obtain ⟨rfl, h3⟩ := hi
    obtain ⟨h1, rfl⟩ := ex_okJ_spec h3
    exact lv_if_lt hx hb hd h1 (fun q => kt q _ H locs ls (ex_ok_blk y _) hP hS hL) (fun q => kf q _ H locs ls ho hP hS hL)
  | _ => cases hi
theorem es_icmp_ge (C : ex_Fix p l e R s m args c dC dI ad cI cB y d) {a b : Int32} {L : Int} (kt : b ≤ a → ex_G p l e R s m args below meth c Q dC dI ad cI cB y (ex_blk y L.toNat) (pl) (st) (w)) (kf : ¬ b ≤ a → ex_G p l e R s m args below meth c Q dC dI ad cI cB y (code) (pl) (st) (w)) : ex_G p l e R s m args below meth c Q dC dI ad cI cB y (.if_icmp .ge L :: code) (pl) (.int b :: .int a :: st) (w) := by
  intro pc H locs ls hok hP hS hL
  obtain ⟨hx, hb, hml, hown, hts, hC, hIn, hR, hcl⟩ := C
  obtain ⟨j, len, hd, hi, ho⟩ := ex_ok_cons rfl hok
  unfold ex_okI at hi
  dsimp only at hi
  cases j with
  | if_icmp ce off =>
    simp only [Bool.and_eq_true, decide_eq_true_eq] at hi
    obtain ⟨rfl, h3⟩ := hi
    obtain ⟨h1, rfl⟩ := ex_okJ_spec h3
    exact lv_icmp_ge hx hb hd h1 (fun q => kt q _ H locs ls (ex_ok_blk y _) hP hS hL) (fun q => kf q _ H locs ls ho hP hS hL)
  | _ => cases hi
theorem es_if_ge (C : ex_Fix p l e R s m args c dC dI ad cI cB y d) {a : Int32} {L : Int} (kt : 0 ≤ a → ex_G p l e R s m args below meth c Q dC dI ad cI cB y (ex_blk y L.toNat) (pl) (st) (w)) (kf : ¬ 0 ≤ a → ex_G p l e R s m args below meth c Q dC dI ad cI cB y (code) (pl) (st) (w)) : ex_G p l e R s m args below meth c Q dC dI ad cI cB y (.ifCond .ge L :: code) (pl) (.int a :: st) (w) := by
  intro pc H locs ls hok hP hS hL
  obtain ⟨hx, hb, hml, hown, hts, hC, hIn, hR, hcl⟩ := C
  obtain ⟨j, len, hd, hi, ho⟩ := ex_ok_cons rfl hok
  unfold ex_okI at hi
  dsimp only at hi
  cases j with
  | ifCond ce off =>
    simp only [Bool.and_eq_true, decide_eq_true_eq] at hi
    obtain ⟨rfl, h3⟩ := hi
    obtain ⟨h1, rfl⟩ := ex_okJ_spec h3
    exact lv_if_ge hx hb hd h1 (fun q => kt q _ H locs ls (ex_ok_blk y _) hP hS hL) (fun q => kf q _ H locs ls ho hP hS hL)
  | _ => cases hi
theorem es_icmp_gt (C : ex_Fix p l e R s m args c dC dI ad cI cB y d) {a b : Int32} {L : Int} (kt : b < a → ex_G p l e R s m args below meth c Q dC dI ad cI cB y (ex_blk y L.toNat) (pl) (st) (w)) (kf : ¬ b < a → ex_G p l e R s m args below meth c Q dC dI ad cI cB y (code) (pl) (st) (w)) : ex_G p l e R s m args below meth c Q dC dI ad cI cB y (.if_icmp .gt L :: code) (pl) (.int b :: .int a :: st) (w) := by
  intro pc H locs ls hok hP hS hL
  obtain ⟨hx, hb, hml, hown, hts, hC, hIn, hR, hcl⟩ := C
  obtain ⟨j, len, hd, hi, ho⟩ := ex_ok_cons rfl hok
  unfold ex_okI at hi
  dsimp only at hi
  cases j with
  | if_icmp ce off =>
    simp only [Bool.and_eq_true, decide_eq_true_eq] at hi
    obtain ⟨rfl, h3⟩ := hi
    obtain ⟨h1, rfl⟩ := ex_okJ_spec h3
    exact lv_icmp_gt hx hb hd h1 (fun q => kt q _ H locs ls (ex_ok_blk y _) hP hS hL) (fun q => kf q _ H locs ls ho hP hS hL)
  | _ => cases hi
theorem es_if_gt (C : ex_Fix p l e R s m args c dC dI ad cI cB y d) {a : Int32} {L : Int} (kt : 0 < a → ex_G p l e R s m args below meth c Q dC dI ad cI cB y (ex_blk y L.toNat) (pl) (st) (w)) (kf : ¬ 0 < a → ex_G p l e R s m args below meth c Q dC dI ad cI cB y (code) (pl) (st) (w)) : ex_G p l e R s m args below meth c Q dC dI ad cI cB y (.ifCond .gt L :: code) (pl) (.int a :: st) (w) := by
  intro pc H locs ls hok hP hS hL
  obtain ⟨hx, hb, hml, hown, hts, hC, hIn, hR, hcl⟩ := C
  obtain ⟨j, len, hd, hi, ho⟩ := ex_ok_cons rfl hok
  unfold ex_okI at hi
  dsimp only at hi
  cases j with
  | ifCond ce off =>
    simp only [Bool.and_eq_true, decide_eq_true_eq] at hi
    obtain ⟨rfl, h3⟩ := hi
    obtain ⟨h1, rfl⟩ := ex_okJ_spec h3
    exact lv_if_gt hx hb hd h1 (fun q => kt q _ H locs ls (ex_ok_blk y _) hP hS hL) (fun q => kf q _ H locs ls ho hP hS hL)
  | _ => cases hi
theorem es_icmp_le (C : ex_Fix p l e R s m args c dC dI ad cI cB y d) {a b : Int32} {L : Int} (kt : a ≤ b → ex_G p l e R s m args below meth c Q dC dI ad cI cB y (ex_blk y L.toNat) (pl) (st) (w)) (kf : ¬ a ≤ b → ex_G p l e R s m args below meth c Q dC dI ad cI cB y (code) (pl) (st) (w)) : ex_G p l e R s m args below meth c Q dC dI ad cI cB y (.if_icmp .le L :: code) (pl) (.int b :: .int a :: st) (w) := by
  intro pc H locs ls hok hP hS hL
  obtain ⟨hx, hb, hml, hown, hts, hC, hIn, hR, hcl⟩ := C
  obtain ⟨j, len, hd, hi, ho⟩ := ex_ok_cons rfl hok
  unfold ex_okI at hi
  dsimp only at hi
  cases j with
  | if_icmp ce off =>
    simp only [Bool.and_eq_true, decide_eq_true_eq] at hi
    obtain ⟨rfl, h3⟩ := hi
    obtain ⟨h1, rfl⟩ := ex_okJ_spec h3
    exact lv_icmp_le hx hb hd h1 (fun q => kt q _ H locs ls (ex_ok_blk y _) hP hS hL) (fun q => kf q _ H locs ls ho hP hS hL)
  | _ => cases hi
theorem es_if_le (C : ex_Fix p l e R s m args c dC dI ad cI cB y d) {a : Int32} {L : Int} (kt : a ≤ 0 → ex_G p l e R s m args below meth c Q dC dI ad cI cB y (ex_blk y L.toNat) (pl) (st) (w)) (kf : ¬ a ≤ 0 → ex_G p l e R s m args below meth c Q dC dI ad cI cB y (code) (pl) (st) (w)) : ex_G p l e R s m args below meth c Q dC dI ad cI cB y (.ifCond .le L :: code) (pl) (.int a :: st) (w) := by
  intro pc H locs ls hok hP hS hL
  obtain ⟨hx, hb, hml, hown, hts, hC, hIn, hR, hcl⟩ := C
  obtain ⟨j, len, hd, hi, ho⟩ := ex_ok_cons rfl hok
  unfold ex_okI at hi
  dsimp only at hi
  cases j with
  | ifCond ce off =>
    simp only [Bool.and_eq_true, decide_eq_true_eq] at hi
    obtain ⟨rfl, h3⟩ := hi
    obtain ⟨h1, rfl⟩ := ex_okJ_spec h3
    exact lv_if_le hx hb hd h1 (fun q => kt q _ H locs ls (ex_ok_blk y _) hP hS hL) (fun q => kf q _ H locs ls ho hP hS hL)
  | _ => cases hi
end ES
end
section
/-! steps, second half: fields, arrays, switches, calls -/
theorem ex_decl : ∀ c, c < 12 → ∀ k, k < ex_N c → (ex_T c k).1 = ex_Rn c := by decide +kernel
theorem ex_cat2 {v : Value} : v.category ≤ 2 := by cases v <;> first | exact Nat.le_refl 2 | exact Nat.le_succ 1
theorem ex_low_cat {ad : Nat → Nat} {st : List Value} (h : ex_low st = true) : ((st.map (ex_tv ad)).map fun v => v.category).sum ≤ 8 := by
  match st, h with
  | [], _ => exact Nat.zero_le 8
  | [a], _ => have h1 := @ex_cat2 (ex_tv ad a); simp only [List.map, List.sum_cons, List.sum_nil]; omega
  | [a, b], _ => have h1 := @ex_cat2 (ex_tv ad a); have h2 := @ex_cat2 (ex_tv ad b); simp only [List.map, List.sum_cons, List.sum_nil]; omega
  | [a, b, c], _ => have h1 := @ex_cat2 (ex_tv ad a); have h2 := @ex_cat2 (ex_tv ad b); have h3 := @ex_cat2 (ex_tv ad c); simp only [List.map, List.sum_cons, List.sum_nil]; omega
  | [a, b, c, f], _ => have h1 := @ex_cat2 (ex_tv ad a); have h2 := @ex_cat2 (ex_tv ad b); have h3 := @ex_cat2 (ex_tv ad c); have h4 := @ex_cat2 (ex_tv ad f); simp only [List.map, List.sum_cons, List.sum_nil]; omega
theorem ex_spl_spec {n : Nat} {acc st as rest : List Value} (h : ex_spl n acc st = some (as, rest)) : ∃ pre, st = pre ++ rest ∧ as = pre.reverse ++ acc ∧ pre.length = n := by
  induction n generalizing acc st with
  | zero =>
    have h2 : some (acc, st) = some (as, rest) := h
    cases h2
    exact ⟨[], rfl, rfl, rfl⟩
  | succ n ih =>
    cases st with
    | nil => cases h
    | cons v st =>
      obtain ⟨pre, h1, h2, h3⟩ := ih (show ex_spl n (v :: acc) st = some (as, rest) from h)
      exact ⟨v :: pre, by rw [h1]; rfl, by rw [h2]; simp, by rw [List.length_cons, h3]⟩
theorem ex_nw_warm {s U : State} (hW : s.WarmedH U.vm) : ∀ x ∈ ex_nw, va_Nw x s → va_Nw x U := by
  unfold ex_nw
  repeat' first
    | exact fun _ h => absurd h List.not_mem_nil
    | refine List.forall_mem_cons.mpr ⟨?_, ?_⟩
    | exact fun h => va_Nw.warmM hW h
    | exact fun h => va_Nw.warmD hW h
theorem ex_nw_same {u U : State} (h : u.vm = U.vm) : ∀ x ∈ ex_nw, va_Nw x u → va_Nw x U := by
  intro x hx
  have : x.onTables = true := List.all_eq_true.mp (show ex_nw.all (fun x => x.onTables) = true from rfl) x hx
  exact va_Nw.same this h
theorem ex_Cx.to {dC : Nat → ClassId} {dI : Nat → Nat → Nat} {ad : Nat → Nat} {cI cB : ClassId} {A B : Nat → Prop} {u U : State} {H H1 : Heap} (h : ex_Cx dC dI ad cI cB A u H) (h1 : u.vm.Alike U.vm) (h2 : ∀ x ∈ ex_nw, va_Nw x u → va_Nw x U) (h3 : ∀ a : Nat, a < H.size → ¬ A a → H1[a]? = H[a]?) (h4 : ∀ q, B q → A q) : ex_Cx dC dI ad cI cB B U H1 := by
  obtain ⟨a1, a2, a3, a4, a5, a6⟩ := h
  exact ⟨a1.moved h1, fun x hx => h2 x hx (a2 x hx), ((a3.moved h1).kept h3).narrow h4, ((a4.moved h1).kept h3).narrow h4, ((a5.moved h1).kept h3).narrow h4, ((a6.moved h1).kept h3).narrow h4⟩
def ex_ws (y : Nat) : List Jvm.Cond := Jvm.Cond.code (ex_Y y) (ex_B y) (ex_L y) (ex_ret y) :: ex_tb
def ex_Pre (dC : Nat → ClassId) (dI : Nat → Nat → Nat) (ad : Nat → Nat) (cI cB : ClassId) (sz : Nat) (w : PW) (U : State) : Prop :=
  U.heap.size = sz ∧ va_P (dC, dI) ex_cl (ex_cel ad cI cB w) U.heap ∧ ex_Cx dC dI ad cI cB (ex_AA ad sz) U U.heap ∧ ex_In ad
def ex_Post (dC : Nat → ClassId) (dI : Nat → Nat → Nat) (ad : Nat → Nat) (cI cB : ClassId) (sz : Nat) (r : Option Value) (w : PW) : Array Value → State → Outcome → State → Prop := fun _ st oc t =>
  oc = .returned (r.map (ex_tv ad)) ∧ va_P (dC, dI) ex_cl (ex_cel ad cI cB w) t.heap ∧ va_F (ex_AA ad sz) st t
/-- THE CONTRACT of a method: what the pure machine answers, the real one does -/
def ex_Con (l : Launch) (d y : Nat) (as : List Value) (w : PW) (r : Option Value) (w1 : PW) : Prop :=
  ∀ (dC : Nat → ClassId) (dI : Nat → Nat → Nat) (ad : Nat → Nat) (cI cB : ClassId) (sz : Nat), Met l (ex_Y y) (ex_ws y) (ex_Rm d) (va_Pc (as.map (ex_tv ad)) (ex_Pre dC dI ad cI cB sz w)) (ex_Post dC dI ad cI cB sz r w1) 0 0 (ex_AA ad sz)
theorem ex_blind {dC : Nat → ClassId} {dI : Nat → Nat → Nat} {ad : Nat → Nat} {cI cB : ClassId} {sz : Nat} {w : PW} {vs : List Value} : FrameBlind (va_Pc vs (ex_Pre dC dI ad cI cB sz w)) := by
  intro a U g mk h
  obtain ⟨h0, h1, h2, h3, h4⟩ := h
  exact ⟨h0, h1, h2, h3.to (U := U.calling g mk a) (Vm.Alike.refl U.vm) (ex_nw_same rfl) (fun _ _ _ => rfl) (fun _ q => q), h4⟩
theorem ex_AA_le {ad : Nat → Nat} {a b : Nat} (h : a ≤ b) : ∀ q, ex_AA ad b q → ex_AA ad a q := by
  rintro q (q1 | q2)
  · exact Or.inl q1
  · exact Or.inr (Nat.le_trans h q2)
theorem ex_tb_good : ∀ w ∈ ex_tb, goodWord w = true := fun _ h => (List.mem_filter.mp h).2
theorem ex_ws_tb {y : Nat} (hy : ex_Pm y) : ∀ w ∈ ex_ws y, w ∈ ex_tb := by
  intro w h
  rcases List.mem_cons.mp h with rfl | h
  · exact hy.1
  · exact h
theorem ex_pay {args : Array Value} {s : State} {y : Nat} (hts : ∀ w ∈ ex_tb, w.before args s = true) (hy : ex_Pm y) : ∀ w ∈ ex_ws y, ∀ (a' : Array Value) (U : State), s.WarmedH U.vm → w.before a' U = true :=
  fun w hw _ _ hW => word_at hW (good_of_word (ex_tb_good w (ex_ws_tb hy w hw))) (hts w (ex_ws_tb hy w hw))
theorem ex_Rm_fit {d mL : Nat} (h : mL ≤ 23) : (ex_Rm d).frames + 1 ≤ (ex_Rm (d + 1)).frames ∧ 8 + (mL + 11) + (ex_Rm d).locals ≤ (ex_Rm (d + 1)).locals := by
  constructor
  · exact Nat.le_refl _
  · show 8 + (mL + 11) + 42 * d ≤ 42 * (d + 1)
    omega
section ET
variable {p : Program} {l : Launch} {e : Env} {R : Room} {s : State} {m : MethodId} {args : Array Value} {below : List Frame} {meth : Method} {c : Code} {Q : State → Prop} {dC : Nat → ClassId} {dI : Nat → Nat → Nat} {ad : Nat → Nat} {cI cB : ClassId} {y d : Nat} {code : List Instr} {pl st : List Value} {w : PW}
theorem es_tswitch (C : ex_Fix p l e R s m args c dC dI ad cI cB y d) {df lo hi : Int} {offs : Array Int} {a : Int32} (k1 : a.toInt < lo ∨ hi < a.toInt → ex_G p l e R s m args below meth c Q dC dI ad cI cB y (ex_blk y df.toNat) (pl) (st) (w)) (k2 : ¬ (a.toInt < lo ∨ hi < a.toInt) → ex_G p l e R s m args below meth c Q dC dI ad cI cB y (ex_blk y ((offs.toList.getD (a.toInt - lo).toNat 0).toNat)) (pl) (st) (w)) : ex_G p l e R s m args below meth c Q dC dI ad cI cB y (.tableswitch df lo hi offs :: code) (pl) (.int a :: st) (w) := by
  intro pc H locs ls hok hP hS hL
  obtain ⟨hx, hb, hml, hown, hts, hC, hIn, hR, hcl⟩ := C
  obtain ⟨j, len, hd, hq, ho⟩ := ex_ok_cons rfl hok
  unfold ex_okI at hq
  dsimp only at hq
  cases j with
  | tableswitch d2 l2 h2 o2 =>
    simp only [Bool.and_eq_true, decide_eq_true_eq, beq_iff_eq] at hq
    obtain ⟨⟨⟨⟨⟨⟨e1, e2⟩, rfl⟩, rfl⟩, e3⟩, e4⟩, e5⟩ := hq
    by_cases hin : a.toInt < lo ∨ hi < a.toInt
    · exact lv_tableOut hx hb hd hin (tgt := df.toNat) (by omega) (k1 hin _ H locs ls (ex_ok_blk y _) hP hS hL)
    · have hk : (a.toInt - lo).toNat < o2.toList.length := by
        rw [Array.length_toList]; omega
      have hoff : o2[(a.toInt - lo).toNat]? = some (o2.toList[(a.toInt - lo).toNat]) := by
        rw [← Array.getElem?_toList]
        exact List.getElem?_eq_getElem hk
      have hg : offs.toList.getD (a.toInt - lo).toNat 0 = (pc : Int) + o2.toList[(a.toInt - lo).toNat] := by
        rw [List.getD_eq_getElem?_getD, e3, List.getElem?_map, List.getElem?_eq_getElem hk]
        rfl
      have hn : 0 ≤ offs.toList.getD (a.toInt - lo).toNat 0 := by
        have hm : offs.toList.getD (a.toInt - lo).toNat 0 ∈ offs.toList := by
          rw [hg, e3]
          exact List.mem_map.mpr ⟨_, List.getElem_mem hk, rfl⟩
        have := List.all_eq_true.mp e4 _ hm
        exact of_decide_eq_true this
      exact lv_tableIn hx hb hd (by omega) (by omega) hoff (tgt := (offs.toList.getD (a.toInt - lo).toNat 0).toNat) (by rw [← hg]; omega) (k2 hin _ H locs ls (ex_ok_blk y _) hP hS hL)
  | _ => cases hq
theorem ex_lks_off {qs : List (Int × Int)} {d2 x pc : Int} : ex_lks (qs.map fun q => (q.1, pc + q.2)) (pc + d2) x = pc + Op.lookupswitch.offset qs d2 x := by
  induction qs with
  | nil => rfl
  | cons q r ih =>
    obtain ⟨a, b⟩ := q
    show (if x = a then pc + b else ex_lks (r.map fun q => (q.1, pc + q.2)) (pc + d2) x) = pc + (if a = x then b else Op.lookupswitch.offset r d2 x)
    by_cases h : x = a
    · rw [if_pos h, if_pos h.symm]
    · rw [if_neg h, if_neg (fun q => h q.symm), ih]
theorem ex_lks_nn {ps : List (Int × Int)} {df x : Int} (h : (ps.all fun q => decide (0 ≤ q.2)) = true) (hd : 0 ≤ df) : 0 ≤ ex_lks ps df x := by
  induction ps with
  | nil => exact hd
  | cons q r ih =>
    rw [List.all_cons, Bool.and_eq_true] at h
    show 0 ≤ (if x = q.1 then q.2 else ex_lks r df x)
    split
    · exact of_decide_eq_true h.1
    · exact ih h.2
theorem es_lswitch (C : ex_Fix p l e R s m args c dC dI ad cI cB y d) {df : Int} {ps : Array (Int × Int)} {a : Int32} (k : ex_G p l e R s m args below meth c Q dC dI ad cI cB y (ex_blk y (ex_lks ps.toList df a.toInt).toNat) (pl) (st) (w)) : ex_G p l e R s m args below meth c Q dC dI ad cI cB y (.lookupswitch df ps :: code) (pl) (.int a :: st) (w) := by
  intro pc H locs ls hok hP hS hL
  obtain ⟨hx, hb, hml, hown, hts, hC, hIn, hR, hcl⟩ := C
  obtain ⟨j, len, hd, hi, ho⟩ := ex_ok_cons rfl hok
  unfold ex_okI at hi
  dsimp only at hi
  cases j with
  | lookupswitch d2 p2 =>
    simp only [Bool.and_eq_true, decide_eq_true_eq] at hi
    obtain ⟨⟨e1, e2⟩, e3⟩ := hi
    unfold ex_okZ at e3
    rw [Bool.and_eq_true, Bool.and_eq_true] at e3
    obtain ⟨⟨e4, e5⟩, e6⟩ := e3
    have e4 := of_decide_eq_true e4
    have e7 : ex_lks ps.toList df a.toInt = (pc : Int) + Op.lookupswitch.offset p2.toList d2 a.toInt := by rw [e4, e1]; exact ex_lks_off
    have e8 : 0 ≤ ex_lks ps.toList df a.toInt := ex_lks_nn e5 e2
    exact lv_lookup hx hb hd e6 rfl (tgt := (ex_lks ps.toList df a.toInt).toNat) (by omega) (k _ H locs ls (ex_ok_blk y _) hP hS hL)
  | _ => cases hi
theorem es_getf (C : ex_Fix p l e R s m args c dC dI ad cI cB y d) {o f : Nat} {v : Value} (hf : ex_fv w o f = some v) (k : ex_G p l e R s m args below meth c Q dC dI ad cI cB y (code) (pl) (v :: st) (w)) : ex_G p l e R s m args below meth c Q dC dI ad cI cB y (.getfield f :: code) (pl) (.ref o :: st) (w) := by
  intro pc H locs ls hok hP hS hL
  obtain ⟨hx, hb, hml, hown, hts, hC, hIn, hR, hcl⟩ := C
  obtain ⟨j, len, hd, hi, ho⟩ := ex_ok_cons rfl hok
  unfold ex_okI at hi
  dsimp only at hi
  cases j with
  | getfield a =>
    simp only [Bool.and_eq_true, beq_iff_eq] at hi
    obtain ⟨h3, rfl⟩ := hi
    obtain ⟨hlink, hc, hk⟩ := kq_F hcl _ (ex_lk h3)
    unfold ex_fv at hf
    cases hkd : ex_fk o f with
    | none => rw [hkd] at hf; cases hf
    | some kd =>
      obtain ⟨ks, h1, h2⟩ := ex_fk_spec hkd
      have he : (ex_cel ad cI cB w)[o]? = some (ad o, .inr (f / 64, ex_fs ad w o ks)) := by rw [ex_cel_at (ex_lt h1), ex_en_obj h1 hc]
      have hv : (ex_fs ad w o ks)[f % 64]? = some (ex_tv ad v) := by
        rw [ex_fs_at h2]
        rw [hkd] at hf
        match kd, hf with
        | 0, hf => cases hf; rfl
        | 1, hf => cases hf; rfl
        | 2, hf => cases hf; rfl
        | n + 3, hf => cases hf; rfl
      exact va_get (D := (dC, dI)) (own := ex_Rn (ex_C y)) (ref := ex_Rn (f / 64)) (C := ex_Rn (f / 64)) (T := ex_T (f / 64)) (N := ex_N (f / 64)) (Ts := ex_tb) hx hb hts (ku_all hc) hown hC.1 hP o he (ex_cl_at hc) (f % 64) hk (hts _ hlink) (by rw [ex_decl _ hc _ hk]; exact fun _ h9 => h9) hv hd (k _ H locs ls ho hP hS hL)
  | _ => cases hi
theorem es_putf (C : ex_Fix p l e R s m args c dC dI ad cI cB y d) {o f kd : Nat} {x : Int32} (hf : ex_fk o f = some kd) (hkd : kd = 0 ∨ (kd = 2 ∧ (x = 0 ∨ x = 1))) (k : ex_G p l e R s m args below meth c Q dC dI ad cI cB y (code) (pl) (st) (ex_up w o (f % 64) x)) : ex_G p l e R s m args below meth c Q dC dI ad cI cB y (.putfield f :: code) (pl) (.int x :: .ref o :: st) (w) := by
  intro pc H locs ls hok hP hS hL
  obtain ⟨hx, hb, hml, hown, hts, hC, hIn, hR, hcl⟩ := C
  obtain ⟨j, len, hd, hi, ho⟩ := ex_ok_cons rfl hok
  unfold ex_okI at hi
  dsimp only at hi
  cases j with
  | putfield a =>
    simp only [Bool.and_eq_true, beq_iff_eq, Bool.not_eq_true'] at hi
    obtain ⟨⟨h3, rfl⟩, hfin⟩ := hi
    obtain ⟨hlink, hc, hk⟩ := kq_F hcl _ (ex_lk h3)
    obtain ⟨ks, h1, h2⟩ := ex_fk_spec hf
    have he : (ex_cel ad cI cB w)[o]? = some (ad o, .inr (f / 64, ex_fs ad w o ks)) := by rw [ex_cel_at (ex_lt h1), ex_en_obj h1 hc]
    obtain ⟨-, hkl, hty⟩ := ex_kind h1 hc h2
    have hn : narrow (ex_ty (f / 64) (f % 64)) (.int x) = .int x ∧ fits (ex_ty (f / 64) (f % 64)) (.int x) = true := by
      rcases hkd with rfl | ⟨rfl, hx01⟩
      · rw [show ex_ty (f / 64) (f % 64) = .int from of_decide_eq_true hty]
        exact ⟨rfl, rfl⟩
      · rw [show ex_ty (f / 64) (f % 64) = .boolean from of_decide_eq_true hty]
        rcases hx01 with rfl | rfl
        · exact ⟨by decide, by decide⟩
        · exact ⟨by decide, by decide⟩
    have hset : ex_cel ad cI cB (ex_up w o (f % 64) x) = (ex_cel ad cI cB w).set o (ad o, .inr (f / 64, (ex_fs ad w o ks).set (f % 64) (.int x))) := by
      rw [ex_cel_up (ex_lt h1), ex_en_obj h1 hc, ex_fs_set h2 (by rcases hkd with h | h; exact Or.inl h; exact Or.inr h.1)]
    exact va_put (D := (dC, dI)) (own := ex_Rn (ex_C y)) (ref := ex_Rn (f / 64)) (C := ex_Rn (f / 64)) (T := ex_T (f / 64)) (N := ex_N (f / 64)) (Ts := ex_tb) hx hb hts (ku_all hc) (ex_ty (f / 64)) (kp_all hc) (kn_all hc) hown hC.1 hP (ex_vD hIn) hS o he (ex_cl_at hc) (f % 64) hk (hts _ hlink) (by rw [ex_decl _ hc _ hk]; exact fun _ h9 => h9) hfin (kp_all hc _ hk) hn.1 hn.2 (by rw [ex_fs_len]; exact hkl) hd
      (fun H1 locs1 hP1 hD1 hS1 => k _ H1 locs1 ls ho (by rw [hset]; exact hP1) hS1 hL)
  | _ => cases hi
theorem es_putl (C : ex_Fix p l e R s m args c dC dI ad cI cB y d) {o f : Nat} {x : Int64} (hf : ex_fk o f = some 1) (k : ex_G p l e R s m args below meth c Q dC dI ad cI cB y (code) (pl) (st) ((w.1, x))) : ex_G p l e R s m args below meth c Q dC dI ad cI cB y (.putfield f :: code) (pl) (.long x :: .ref o :: st) (w) := by
  intro pc H locs ls hok hP hS hL
  obtain ⟨hx, hb, hml, hown, hts, hC, hIn, hR, hcl⟩ := C
  obtain ⟨j, len, hd, hi, ho⟩ := ex_ok_cons rfl hok
  unfold ex_okI at hi
  dsimp only at hi
  cases j with
  | putfield a =>
    simp only [Bool.and_eq_true, beq_iff_eq, Bool.not_eq_true'] at hi
    obtain ⟨⟨h3, rfl⟩, hfin⟩ := hi
    obtain ⟨hlink, hc, hk⟩ := kq_F hcl _ (ex_lk h3)
    obtain ⟨ks, h1, h2⟩ := ex_fk_spec hf
    have he : (ex_cel ad cI cB w)[o]? = some (ad o, .inr (f / 64, ex_fs ad w o ks)) := by rw [ex_cel_at (ex_lt h1), ex_en_obj h1 hc]
    obtain ⟨-, hkl, hty⟩ := ex_kind h1 hc h2
    have ht : ex_ty (f / 64) (f % 64) = .long := of_decide_eq_true hty
    have ho46 := ex_fk_long hf
    have hu : ∀ i, ks[i]? = some 1 → i = f % 64 := by
      subst ho46
      have h46 : ex_Sh[46]? = some (ex_Sh.getD 46 (0, [])) := rfl
      rw [h46] at h1
      have h5 : ks = (ex_Sh.getD 46 (0, [])).2 := by rw [Option.some.inj h1]
      subst h5
      have hall : ∀ i, i < (ex_Sh.getD 46 (0, [])).2.length → ∀ j, j < (ex_Sh.getD 46 (0, [])).2.length → (ex_Sh.getD 46 (0, [])).2.getD i 0 = 1 → (ex_Sh.getD 46 (0, [])).2.getD j 0 = 1 → i = j := by decide +kernel
      intro i hi1
      have hl1 := (List.getElem?_eq_some_iff.mp hi1).1
      have hl2 := (List.getElem?_eq_some_iff.mp h2).1
      exact hall i hl1 _ hl2 (by rw [List.getD_eq_getElem?_getD, hi1]; rfl) (by rw [List.getD_eq_getElem?_getD, h2]; rfl)
    have hset : ex_cel ad cI cB (w.1, x) = (ex_cel ad cI cB w).set o (ad o, .inr (f / 64, (ex_fs ad w o ks).set (f % 64) (.long x))) := by
      rw [ex_cel_set (w' := (w.1, x)) (ex_lt h1) (fun o' hne => ex_en_long (by rw [ho46] at hne; exact hne)), ex_en_obj h1 hc, ex_fs_setL h2 hu]
    exact va_put (D := (dC, dI)) (own := ex_Rn (ex_C y)) (ref := ex_Rn (f / 64)) (C := ex_Rn (f / 64)) (T := ex_T (f / 64)) (N := ex_N (f / 64)) (Ts := ex_tb) hx hb hts (ku_all hc) (ex_ty (f / 64)) (kp_all hc) (kn_all hc) hown hC.1 hP (ex_vD hIn) hS o he (ex_cl_at hc) (f % 64) hk (hts _ hlink) (by rw [ex_decl _ hc _ hk]; exact fun _ h9 => h9) hfin (kp_all hc _ hk) (by rw [ht]; rfl) (by rw [ht]; rfl) (by rw [ex_fs_len]; exact hkl) hd
      (fun H1 locs1 hP1 hD1 hS1 => k _ H1 locs1 ls ho (by rw [hset]; exact hP1) hS1 hL)
  | _ => cases hi
theorem es_gets (C : ex_Fix p l e R s m args c dC dI ad cI cB y d) {o : Nat} (hf : o = 1000 ∨ o = 1001) (k : ex_G p l e R s m args below meth c Q dC dI ad cI cB y (code) (pl) (.ref o :: st) (w)) : ex_G p l e R s m args below meth c Q dC dI ad cI cB y (.getstatic o :: code) (pl) (st) (w) := by
  intro pc H locs ls hok hP hS hL
  obtain ⟨hx, hb, hml, hown, hts, hC, hIn, hR, hcl⟩ := C
  obtain ⟨j, len, hd, hi, ho⟩ := ex_ok_cons rfl hok
  unfold ex_okI at hi
  dsimp only at hi
  cases j with
  | getstatic a =>
    simp only [Bool.and_eq_true, beq_iff_eq] at hi
    obtain ⟨h3, rfl⟩ := hi
    rcases kq_S hcl _ (ex_lk h3) with ⟨h4, h5⟩ | ⟨h4, h5⟩
    · have h4 : o = 1000 := h4
      subst h4
      exact va_gets hx hb (C := "BorderThroughBed$House") (ref := "BorderThroughBed$House") hC.2.2.1 hS hown (hts _ h5) (fun _ h => h) hd (k _ H locs ls ho hP hS hL)
    · have h4 : o = 1001 := h4
      subst h4
      exact va_gets hx hb (C := "BorderThroughBed$House") (ref := "BorderThroughBed$House") hC.2.2.2.2.1 hS hown (hts _ h5) (fun _ h => h) hd (k _ H locs ls ho hP hS hL)
  | _ => cases hi
theorem es_iald (C : ex_Fix p l e R s m args c dC dI ad cI cB y d) {o : Nat} {i x : Int32} (hf : ex_ald w o i = some x) (k : ex_G p l e R s m args below meth c Q dC dI ad cI cB y (code) (pl) (.int x :: st) (w)) : ex_G p l e R s m args below meth c Q dC dI ad cI cB y (.iaload :: code) (pl) (.int i :: .ref o :: st) (w) := by
  intro pc H locs ls hok hP hS hL
  obtain ⟨hx, hb, hml, hown, hts, hC, hIn, hR, hcl⟩ := C
  obtain ⟨j, len, hd, hi, ho⟩ := ex_ok_cons rfl hok
  have hi : (decide (j = .iaload) && len == 1) = true := hi
  simp only [Bool.and_eq_true, decide_eq_true_eq, beq_iff_eq] at hi
  obtain ⟨rfl, rfl⟩ := hi
  unfold ex_ald at hf
  by_cases h0 : o = 1000
  · subst h0
    rw [if_pos rfl] at hf
    by_cases hin : i < 0 ∨ 4 ≤ i.toNatClampNeg
    · rw [if_pos hin] at hf; cases hf
    · rw [if_neg hin] at hf
      exact va_ti hx hb hC.2.2.2.1 hS (i := i) hin (congrArg Value.int (Option.some.inj hf)) hd (k _ H locs ls ho hP hS hL)
  · rw [if_neg h0] at hf
    by_cases h1 : o = 1001
    · subst h1
      rw [if_pos rfl] at hf
      by_cases hin : i < 0 ∨ 4 ≤ i.toNatClampNeg
      · rw [if_pos hin] at hf; cases hf
      · rw [if_neg hin] at hf
        exact va_ti hx hb hC.2.2.2.2.2 hS (i := i) hin (congrArg Value.int (Option.some.inj hf)) hd (k _ H locs ls ho hP hS hL)
    · rw [if_neg h1] at hf
      by_cases h2 : ex_cls o = 12
      · rw [if_pos h2] at hf
        by_cases hin : i < 0 ∨ ex_len o ≤ i.toNatClampNeg
        · rw [if_pos hin] at hf; cases hf
        · rw [if_neg hin] at hf
          have he : (ex_cel ad cI cB w)[o]? = some (ad o, .inl (cI, ex_len o, .inl (w.1 o))) := by rw [ex_cel_at (ex_cls_lt (by omega)), ex_en_ia h2]
          have hx2 := Option.some.inj hf
          subst hx2
          exact va_iald hx hb hC.1 hP o 0 he rfl hin hd (k _ H locs ls ho hP hS hL)
      · rw [if_neg h2] at hf; cases hf
theorem es_bald (C : ex_Fix p l e R s m args c dC dI ad cI cB y d) {o : Nat} {i : Int32} (h2 : ex_cls o = 13) (hin : ¬ (i < 0 ∨ ex_len o ≤ i.toNatClampNeg)) (k : ex_G p l e R s m args below meth c Q dC dI ad cI cB y (code) (pl) (.int (w.1 o i.toNatClampNeg) :: st) (w)) : ex_G p l e R s m args below meth c Q dC dI ad cI cB y (.baload :: code) (pl) (.int i :: .ref o :: st) (w) := by
  intro pc H locs ls hok hP hS hL
  obtain ⟨hx, hb, hml, hown, hts, hC, hIn, hR, hcl⟩ := C
  obtain ⟨j, len, hd, hi, ho⟩ := ex_ok_cons rfl hok
  have hi : (decide (j = .baload) && len == 1) = true := hi
  simp only [Bool.and_eq_true, decide_eq_true_eq, beq_iff_eq] at hi
  obtain ⟨rfl, rfl⟩ := hi
  have he : (ex_cel ad cI cB w)[o]? = some (ad o, .inl (cB, ex_len o, .inl (w.1 o))) := by rw [ex_cel_at (ex_cls_lt (by omega)), ex_en_ba h2]
  exact va_bald hx hb hC.1 hP o 1 he rfl hin hd (k _ H locs ls ho hP hS hL)
theorem es_iast (C : ex_Fix p l e R s m args c dC dI ad cI cB y d) {o : Nat} {i x : Int32} (h2 : ex_cls o = 12) (hin : ¬ (i < 0 ∨ ex_len o ≤ i.toNatClampNeg)) (k : ex_G p l e R s m args below meth c Q dC dI ad cI cB y (code) (pl) (st) (ex_up w o i.toNatClampNeg (x))) : ex_G p l e R s m args below meth c Q dC dI ad cI cB y (.iastore :: code) (pl) (.int x :: .int i :: .ref o :: st) (w) := by
  intro pc H locs ls hok hP hS hL
  obtain ⟨hx, hb, hml, hown, hts, hC, hIn, hR, hcl⟩ := C
  obtain ⟨j, len, hd, hi, ho⟩ := ex_ok_cons rfl hok
  have hi : (decide (j = .iastore) && len == 1) = true := hi
  simp only [Bool.and_eq_true, decide_eq_true_eq, beq_iff_eq] at hi
  obtain ⟨rfl, rfl⟩ := hi
  have he : (ex_cel ad cI cB w)[o]? = some (ad o, .inl (cI, ex_len o, .inl (w.1 o))) := by rw [ex_cel_at (ex_cls_lt (by omega)), ex_en_ia h2]
  have hset : ex_cel ad cI cB (ex_up w o i.toNatClampNeg (x)) = (ex_cel ad cI cB w).set o (ad o, .inl (cI, ex_len o, .inl (upd (w.1 o) i.toNatClampNeg (x)))) := by
    rw [ex_cel_up (ex_cls_lt (by omega)), ex_en_ia h2, ex_up_1]
  exact va_iast hx hb hC.1 hP (ex_vD hIn) hS o 0 he rfl hin hd (fun H1 locs1 hP1 hD1 hS1 => k _ H1 locs1 ls ho (by rw [hset]; exact hP1) hS1 hL)
theorem es_bast (C : ex_Fix p l e R s m args c dC dI ad cI cB y d) {o : Nat} {i x : Int32} (h2 : ex_cls o = 13) (hin : ¬ (i < 0 ∨ ex_len o ≤ i.toNatClampNeg)) (k : ex_G p l e R s m args below meth c Q dC dI ad cI cB y (code) (pl) (st) (ex_up w o i.toNatClampNeg (x.toInt8.toInt32))) : ex_G p l e R s m args below meth c Q dC dI ad cI cB y (.bastore :: code) (pl) (.int x :: .int i :: .ref o :: st) (w) := by
  intro pc H locs ls hok hP hS hL
  obtain ⟨hx, hb, hml, hown, hts, hC, hIn, hR, hcl⟩ := C
  obtain ⟨j, len, hd, hi, ho⟩ := ex_ok_cons rfl hok
  have hi : (decide (j = .bastore) && len == 1) = true := hi
  simp only [Bool.and_eq_true, decide_eq_true_eq, beq_iff_eq] at hi
  obtain ⟨rfl, rfl⟩ := hi
  have he : (ex_cel ad cI cB w)[o]? = some (ad o, .inl (cB, ex_len o, .inl (w.1 o))) := by rw [ex_cel_at (ex_cls_lt (by omega)), ex_en_ba h2]
  have hset : ex_cel ad cI cB (ex_up w o i.toNatClampNeg (x.toInt8.toInt32)) = (ex_cel ad cI cB w).set o (ad o, .inl (cB, ex_len o, .inl (upd (w.1 o) i.toNatClampNeg (x.toInt8.toInt32)))) := by
    rw [ex_cel_up (ex_cls_lt (by omega)), ex_en_ba h2, ex_up_1]
  exact va_bast hx hb hC.1 hP (ex_vD hIn) hS o 1 he rfl hin hd (fun H1 locs1 hP1 hD1 hS1 => k _ H1 locs1 ls ho (by rw [hset]; exact vp_nar_byte x ▸ hP1) hS1 hL)
theorem es_alen (C : ex_Fix p l e R s m args c dC dI ad cI cB y d) {o : Nat} (h2 : ex_cls o = 12) (k : ex_G p l e R s m args below meth c Q dC dI ad cI cB y (code) (pl) (.int (Int32.ofNat (ex_len o)) :: st) (w)) : ex_G p l e R s m args below meth c Q dC dI ad cI cB y (.arraylength :: code) (pl) (.ref o :: st) (w) := by
  intro pc H locs ls hok hP hS hL
  obtain ⟨hx, hb, hml, hown, hts, hC, hIn, hR, hcl⟩ := C
  obtain ⟨j, len, hd, hi, ho⟩ := ex_ok_cons rfl hok
  have hi : (decide (j = .arraylength) && len == 1) = true := hi
  simp only [Bool.and_eq_true, decide_eq_true_eq, beq_iff_eq] at hi
  obtain ⟨rfl, rfl⟩ := hi
  have he : (ex_cel ad cI cB w)[o]? = some (ad o, .inl (cI, ex_len o, .inl (w.1 o))) := by rw [ex_cel_at (ex_cls_lt (by omega)), ex_en_ia h2]
  exact va_alen hx hb hC.1 hP o 0 he (ty := .int) rfl rfl hd (k _ H locs ls ho hP hS hL)
/-- behind a call -/
theorem es_back {pc : Nat} {H : Heap} {locs : List Loc} {ls : Array Slot} {st0 rest : List Value} {a : Array Value} {r : Option Value} {w1 : PW}
    (hr : va_Run p l e R s m args below meth c H locs 0 0 0 0 (F0 m pc ls st0) (rest.map (ex_tv ad)) (ex_Post dC dI ad cI cB H.size r w1 a) (ex_AA ad H.size)) (hS : va_S (ex_AA ad s.heap.size) s.heap H locs)
    (kk : ∀ (H1 : Heap) (locs1 : List Loc), va_P (dC, dI) ex_cl (ex_cel ad cI cB w1) H1 → va_S (ex_AA ad s.heap.size) s.heap H1 locs1 → W p l e R s m args below meth c H1 locs1 0 0 Q (F0 m (pc + 3) ls ((r.toList ++ rest).map (ex_tv ad)))) : W p l e R s m args below meth c H locs 0 0 Q (F0 m pc ls st0) := by
  intro T hT X
  obtain ⟨v, st₀, t, T', L, h0, X', hL, e1, e2, ⟨hv, hp, hz, hk⟩, st⟩ := hr T hT X
  rw [h0] at hz hk
  have hA := ex_AA_le (ad := ad) hS.1
  have hv2 : v = r.map (ex_tv ad) := by cases hv; rfl
  subst hv2
  have hS1 : va_S (ex_AA ad s.heap.size) s.heap T'.heap (locs ++ L) :=
    ⟨Nat.le_trans hS.1 (by rw [e1]; exact hz), fun q h1 h2 => by rw [e1, hk q (Nat.lt_of_lt_of_le h1 hS.1) (fun z => h2 (hA q z))]; exact hS.2.1 q h1 h2, fun q hq => by
      rcases List.mem_append.mp hq with h | h
      · exact hS.2.2 q h
      · exact hA _ (hL q h)⟩
  obtain ⟨t2, a1, b1⟩ := kk T'.heap (locs ++ L) (by rw [e1]; exact hp) hS1 T' rfl X'
  refine ⟨t2, st t2 ?_, b1⟩
  have e3 : ((r.toList ++ rest).map (ex_tv ad)) = (r.map (ex_tv ad)).toList ++ rest.map (ex_tv ad) := by cases r <;> rfl
  rw [e3] at a1
  exact a1
theorem ex_pre_at {H : Heap} {locs : List Loc} {U : State} (hC : ex_Cx dC dI ad cI cB (ex_AA ad s.heap.size) s s.heap) (hIn : ex_In ad) (hP : va_P (dC, dI) ex_cl (ex_cel ad cI cB w) H) (hS : va_S (ex_AA ad s.heap.size) s.heap H locs) (hU : U.heap = H) (hW : s.WarmedH U.vm) : ex_Pre dC dI ad cI cB H.size w U :=
  ⟨by rw [hU], by rw [hU]; exact hP, by rw [hU]; exact hC.to hW.alike (ex_nw_warm hW) (fun a h1 h2 => hS.2.1 a h1 h2) (ex_AA_le hS.1), hIn⟩
theorem es_call (C : ex_Fix p l e R s m args c dC dI ad cI cB y (d + 1)) {f : Nat} {as rest : List Value} {r : Option Value} {w1 : PW} (hcon : ex_Con l d (f / 8) as w r w1) (hs : ex_spl (f % 8) [] st = some (as, rest)) (hlow : ex_low rest = true) (k : ex_G p l e R s m args below meth c Q dC dI ad cI cB y (code) (pl) (r.toList ++ rest) (w1)) : ex_G p l e R s m args below meth c Q dC dI ad cI cB y (.invokestatic f :: code) (pl) (st) (w) := by
  intro pc H locs ls hok hP hS hL
  obtain ⟨hx, hb, hml, hown, hts, hC, hIn, hR, hcl⟩ := C
  obtain ⟨j, len, hd, hi, ho⟩ := ex_ok_cons rfl hok
  unfold ex_okI at hi
  dsimp only at hi
  cases j with
  | invokestatic a =>
    simp only [Bool.and_eq_true, beq_iff_eq] at hi
    obtain ⟨h3, rfl⟩ := hi
    obtain ⟨hy, har, hst, hlk⟩ := kq_T hcl _ (ex_lk h3)
    have hm := kw_all hy
    obtain ⟨pre, e1, e2, e3⟩ := ex_spl_spec hs
    rw [List.append_nil] at e2
    have hst0 : st.map (ex_tv ad) = (as.map (ex_tv ad)).reverse ++ rest.map (ex_tv ad) := by
      rw [e1, e2, List.map_append, List.map_reverse, List.reverse_reverse]
    have hlen : (as.map (ex_tv ad)).length = f % 8 := by rw [List.length_map, e2, List.length_reverse, e3]
    have hfit := ex_Rm_fit (d := d) hm.2.2.2.2.2.2
    rw [← hR] at hfit
    have hari : ∀ sig, parseMethodDescriptor (ex_Y (f / 8)).desc = some sig → f % 8 = sig.parameters.length := by
      intro sig hsig
      have h2 : (parseMethodDescriptor (ex_Y (f / 8)).desc).map (fun d => d.parameters.length) = some (f % 8) := har
      rw [hsig] at h2
      exact (Option.some.inj h2).symm
    have hp : PreS s H (va_Pc (as.map (ex_tv ad)) (ex_Pre dC dI ad cI cB H.size w)) (as.map (ex_tv ad)) := ⟨ex_blind, fun U hU hW => ⟨rfl, ex_pre_at hC hIn hP hS hU hW⟩⟩
    have hgo : ∀ (H1 : Heap) (locs1 : List Loc), va_P (dC, dI) ex_cl (ex_cel ad cI cB w1) H1 → va_S (ex_AA ad s.heap.size) s.heap H1 locs1 → W p l e R s m args below meth c H1 locs1 0 0 Q (F0 m (pc + 3) ls ((r.toList ++ rest).map (ex_tv ad))) := fun H1 locs1 hP1 hS1 => k _ H1 locs1 ls ho hP1 hS1 hL
    rw [hst0]
    have hfr0 : 0 + 0 ≤ R.cells ∧ 0 + 0 ≤ R.slots := ⟨Nat.zero_le _, Nat.zero_le _⟩
    rcases hlk with hlk | hlk
    · exact es_back (va_runS (Ts := ex_tb) (own := ex_Rn (ex_C y)) ⟨hx, hb, hml, hown, hts⟩ (hcon dC dI ad cI cB H.size) ⟨⟨rfl, rfl, hfit.1, hfit.2, ex_pay hts hm, List.mem_cons_self, hts _ hm.1, hts _ hm.2.1, hm.2.2.2.2.2.1, hari, hts _ hlk⟩, hts _ hst⟩ hp rfl hlen hL.2.1.1 rfl (lv_room (ex_low_cat hlow)) hd hfr0) hS hgo
    · have hnw := hC.2.1 _ hlk
      exact es_back (va_runSN (Ts := ex_tb) (own := ex_Rn (ex_C y)) ⟨hx, hb, hml, hown, hts⟩ (hcon dC dI ad cI cB H.size) ⟨⟨⟨rfl, rfl, hfit.1, hfit.2, ex_pay hts hm, List.mem_cons_self⟩, hts _ hm.1, hts _ hm.2.1, hm.2.2.2.2.2.1, hari, va_Nw.use rfl hnw⟩, hts _ hst, trivial⟩ hp rfl hlen hL.2.1.1 rfl (lv_room (ex_low_cat hlow)) hd hfr0) hS hgo
  | _ => cases hi
theorem ex_recv {H : Heap} {o ci : Nat} (hC : va_K (dC, dI) ex_cl [(cI, .int), (cB, .byte)] s) (hP : va_P (dC, dI) ex_cl (ex_cel ad cI cB w) H) (ho : ex_cls o = ci) (h12 : ci < 12) : ∃ cell : Cell, H[ad o]? = some cell ∧ cell.vm.isStatics = false ∧ s.vm.findClass (ex_Rn ci) = some cell.cls := by
  have hlt : o < ex_NO := ex_cls_lt (by omega)
  have : ex_Sh[o]? = some (ci, (ex_Sh[o]).2) := by
    have h1 : ex_Sh[o]? = some ex_Sh[o] := List.getElem?_eq_getElem hlt
    unfold ex_cls at ho
    rw [h1] at ho ⊢
    dsimp only at ho
    rw [← ho]
  exact va_recv hC hP (ex_cl_at h12) (q0 := o) (by rw [ex_cel_at hlt, ex_en_obj this h12])
theorem es_callv (C : ex_Fix p l e R s m args c dC dI ad cI cB y (d + 1)) {f o : Nat} {as rest : List Value} {r : Option Value} {w1 : PW} (hcon : ex_Con l d (f / 8) (.ref o :: as) w r w1) (hcls : ex_okR (f / 8) (.ref o :: as) = true) (hs : ex_spl (f % 8 + 1) [] st = some (.ref o :: as, rest)) (hlow : ex_low rest = true) (k : ex_G p l e R s m args below meth c Q dC dI ad cI cB y (code) (pl) (r.toList ++ rest) (w1)) : ex_G p l e R s m args below meth c Q dC dI ad cI cB y (.invokevirtual f :: code) (pl) (st) (w) := by
  intro pc H locs ls hok hP hS hL
  obtain ⟨hx, hb, hml, hown, hts, hC, hIn, hR, hcl⟩ := C
  obtain ⟨j, len, hd, hi, ho⟩ := ex_ok_cons rfl hok
  unfold ex_okI at hi
  dsimp only at hi
  cases j with
  | invokevirtual a =>
    simp only [Bool.and_eq_true, beq_iff_eq] at hi
    obtain ⟨h3, rfl⟩ := hi
    obtain ⟨hy, har, hin, hse, hlk, h9⟩ := kq_V hcl _ (ex_lk h3)
    have hm := kw_all hy
    have hC9 : ex_cls o = ex_C (f / 8) := by
      have h5 : (ex_cls o == ex_C (f / 8) || (ex_C (f / 8) == 9 && (ex_cls o == 2 || ex_cls o == 4))) = true := by
        have h6 : ((.ref o :: as : List Value).all ex_isv && (decide ((ex_lay (.ref o :: as)).length ≤ ex_L (f / 8)) && (ex_cls o == ex_C (f / 8) || (ex_C (f / 8) == 9 && (ex_cls o == 2 || ex_cls o == 4))))) = true := hcls
        rw [Bool.and_eq_true, Bool.and_eq_true] at h6
        exact h6.2.2
      rcases Bool.or_eq_true _ _ ▸ h5 with h6 | h6
      · exact eq_of_beq h6
      · rw [Bool.and_eq_true] at h6
        exact absurd (eq_of_beq h6.1) h9
    obtain ⟨pre, e1, e2, e3⟩ := ex_spl_spec hs
    rw [List.append_nil] at e2
    have hst0 : st.map (ex_tv ad) = (as.map (ex_tv ad)).reverse ++ .ref (ad o) :: rest.map (ex_tv ad) := by
      have e4 : pre = as.reverse ++ [.ref o] := by rw [← List.reverse_reverse (as := pre), ← e2]; simp
      rw [e1, e4]
      simp only [List.map_append, List.map_reverse, List.map_cons, List.map_nil, List.append_assoc]
      rfl
    have hlen : (as.map (ex_tv ad)).length = f % 8 := by
      have : (.ref o :: as : List Value).length = f % 8 + 1 := by rw [e2, List.length_reverse, e3]
      rw [List.length_map]
      simpa using this
    have hfit := ex_Rm_fit (d := d) hm.2.2.2.2.2.2
    rw [← hR] at hfit
    have hari : ∀ sig, parseMethodDescriptor (ex_Y (f / 8)).desc = some sig → f % 8 = sig.parameters.length := by
      intro sig hsig
      have h2 : (parseMethodDescriptor (ex_Y (f / 8)).desc).map (fun d => d.parameters.length) = some (f % 8) := har
      rw [hsig] at h2
      exact (Option.some.inj h2).symm
    have hp : PreV s H (ex_Y (f / 8)).cls (ad o) (va_Pc ((.ref o :: as : List Value).map (ex_tv ad)) (ex_Pre dC dI ad cI cB H.size w)) (as.map (ex_tv ad)) :=
      ⟨ex_blind, by rw [hm.2.2.1]; exact ex_recv hC.1 hP hC9 hm.2.2.2.1, fun U hU hW => ⟨rfl, ex_pre_at hC hIn hP hS hU hW⟩⟩
    rw [hst0]
    exact es_back (va_runV (Ts := ex_tb) (own := ex_Rn (ex_C y)) ⟨hx, hb, hml, hown, hts⟩ (hcon dC dI ad cI cB H.size) ⟨⟨rfl, rfl, hfit.1, hfit.2, ex_pay hts hm, List.mem_cons_self, hts _ hm.1, hts _ hm.2.1, hm.2.2.2.2.2.1, hari, hts _ hlk⟩, hts _ hin, hts _ hse⟩ hp rfl hlen hL.2.1.1 rfl (lv_room (ex_low_cat hlow)) hd ⟨Nat.zero_le _, Nat.zero_le _⟩) hS
      (fun H1 locs1 hP1 hS1 => k _ H1 locs1 ls ho hP1 hS1 hL)
  | _ => cases hi
theorem es_calli (C : ex_Fix p l e R s m args c dC dI ad cI cB y (d + 1)) {x n o yy : Nat} {as rest : List Value} {r : Option Value} {w1 : PW} (hcon : ex_Con l d yy (.ref o :: as) w r w1) (hdp : ex_dsp x (ex_cls o) = some yy) (hs : ex_spl (n + 1) [] st = some (.ref o :: as, rest)) (hlow : ex_low rest = true) (k : ex_G p l e R s m args below meth c Q dC dI ad cI cB y (code) (pl) (r.toList ++ rest) (w1)) : ex_G p l e R s m args below meth c Q dC dI ad cI cB y (.invokeinterface x n :: code) (pl) (st) (w) := by
  intro pc H locs ls hok hP hS hL
  obtain ⟨hx, hb, hml, hown, hts, hC, hIn, hR, hcl⟩ := C
  obtain ⟨j, len, hd, hi, ho⟩ := ex_ok_cons rfl hok
  unfold ex_okI at hi
  dsimp only at hi
  cases j with
  | invokevirtual a =>
    simp only [Bool.and_eq_true, beq_iff_eq] at hi
    obtain ⟨h3, rfl⟩ := hi
    obtain ⟨hy, hc9, har, hlk, hsm, hdc, hse, hin, -⟩ := kx_all h3 hdp
    have hm := kw_all hy
    obtain ⟨pre, e1, e2, e3⟩ := ex_spl_spec hs
    rw [List.append_nil] at e2
    have hst0 : st.map (ex_tv ad) = (as.map (ex_tv ad)).reverse ++ .ref (ad o) :: rest.map (ex_tv ad) := by
      have e4 : pre = as.reverse ++ [.ref o] := by rw [← List.reverse_reverse (as := pre), ← e2]; simp
      rw [e1, e4]
      simp only [List.map_append, List.map_reverse, List.map_cons, List.map_nil, List.append_assoc]
      rfl
    have hlen : (as.map (ex_tv ad)).length = n := by
      have : (.ref o :: as : List Value).length = n + 1 := by rw [e2, List.length_reverse, e3]
      rw [List.length_map]
      simpa using this
    have hfit := ex_Rm_fit (d := d) hm.2.2.2.2.2.2
    rw [← hR] at hfit
    have hari : ∀ sig, parseMethodDescriptor (ex_Xm x).desc = some sig → n = sig.parameters.length := by
      intro sig hsig
      have h2 : (parseMethodDescriptor (ex_Xm x).desc).map (fun d => d.parameters.length) = some n := har
      rw [hsig] at h2
      exact (Option.some.inj h2).symm
    have hp : PreV s H (ex_Rn (ex_cls o)) (ad o) (va_Pc ((.ref o :: as : List Value).map (ex_tv ad)) (ex_Pre dC dI ad cI cB H.size w)) (as.map (ex_tv ad)) :=
      ⟨ex_blind, ex_recv hC.1 hP rfl (by omega), fun U hU hW => ⟨rfl, ex_pre_at hC hIn hP hS hU hW⟩⟩
    have hdc2 := va_Decl.abs (hC.2.1 _ hdc)
    rw [hst0]
    exact es_back (va_runU (Ts := ex_tb) (own := ex_Rn (ex_C y)) (C := ex_Rn (ex_cls o)) (owner := "BorderThroughBed$Text") ⟨hx, hb, hml, hown, hts⟩ (hcon dC dI ad cI cB H.size) ⟨⟨rfl, rfl, hfit.1, hfit.2, ex_pay hts hm, List.mem_cons_self⟩, hts _ hm.1, hts _ hm.2.1, ⟨by decide, by decide⟩, hari, hts _ hlk, hts _ hsm, hdc2, hts _ hse, hts _ hin⟩ hp rfl hlen hL.2.1.1 rfl (lv_room (ex_low_cat hlow)) hd ⟨Nat.zero_le _, Nat.zero_le _⟩) hS
      (fun H1 locs1 hP1 hS1 => k _ H1 locs1 ls ho hP1 hS1 hL)
  | _ => cases hi
end ET
end
section
/-! natives, returns, and THE SOUNDNESS of the pure machine -/
theorem ex_nfw : nativeFrameWords "java/lang/System" "arraycopy" 5 + 11 ≤ 84 := by decide +kernel
theorem ex_cpy_1 {w : PW} {a b n : Nat} : (ex_cpy w a b n).1 b = va_cpy (w.1 a) (w.1 b) 0 0 n := by
  funext k
  show (if b = b ∧ k < n then w.1 a k else w.1 b k) = (if 0 ≤ k ∧ k < 0 + n then w.1 a (0 + (k - 0)) else w.1 b k)
  simp
theorem ex_cpy_2 {w : PW} {a b n o : Nat} (h : o ≠ b) : (ex_cpy w a b n).1 o = w.1 o := by
  funext k
  show (if o = b ∧ k < n then w.1 a k else w.1 o k) = _
  rw [if_neg (fun q => h q.1)]
section EU
variable {p : Program} {l : Launch} {e : Env} {R : Room} {s : State} {m : MethodId} {args : Array Value} {below : List Frame} {meth : Method} {c : Code} {Q : State → Prop} {dC : Nat → ClassId} {dI : Nat → Nat → Nat} {ad : Nat → Nat} {cI cB : ClassId} {y d : Nat} {code : List Instr} {pl st : List Value} {w : PW}
theorem es_max (C : ex_Fix p l e R s m args c dC dI ad cI cB y d) (h2d : 2 ≤ d) {a b : Int32} (hlow : ex_low st = true) (k : ex_G p l e R s m args below meth c Q dC dI ad cI cB y (code) (pl) (.int (if a < b then b else a) :: st) (w)) : ex_G p l e R s m args below meth c Q dC dI ad cI cB y (.invokedynamic 0 :: code) (pl) (.int b :: .int a :: st) (w) := by
  intro pc H locs ls hok hP hS hL
  obtain ⟨hx, hb, hml, hown, hts, hC, hIn, hR, hcl⟩ := C
  obtain ⟨j, len, hd, hi, ho⟩ := ex_ok_cons rfl hok
  unfold ex_okI at hi
  dsimp only at hi
  cases j with
  | invokestatic ix =>
    simp only [Bool.and_eq_true, beq_iff_eq] at hi
    obtain ⟨h3, rfl⟩ := hi
    have hq := kq_J hcl _ (ex_lk h3)
    have hml2 : c.maxLocals = ls.size := by rw [hml, hL.2.1.1]
    have hfr : 1 ≤ R.frames := by rw [hR]; exact Nat.le_trans (by decide : 1 ≤ 2) h2d
    have hlo : 84 ≤ R.locals := by rw [hR]; show 84 ≤ 42 * d; omega
    have hlink : Jvm.Cond.methodLink (ex_Rn (ex_C y)) ix Lib.Math.max.name ∈ ex_tb := by
      rcases hq with ⟨h, q⟩ | ⟨h, q⟩ | ⟨h, q⟩ <;> first | exact q | cases h
    have hcat := ex_low_cat (ad := ad) hlow
    exact va_mmax hx hb hml2 hown (hts _ hlink) (hts _ ks_max.1) (hts _ ks_math) (hts _ ks_max.2) hfr (by omega) (Nat.zero_le _) (Nat.zero_le _) hd (k _ H locs ls ho hP hS hL)
  | _ => cases hi
theorem es_min (C : ex_Fix p l e R s m args c dC dI ad cI cB y d) (h2d : 2 ≤ d) {a b : Int32} (hlow : ex_low st = true) (k : ex_G p l e R s m args below meth c Q dC dI ad cI cB y (code) (pl) (.int (if b < a then b else a) :: st) (w)) : ex_G p l e R s m args below meth c Q dC dI ad cI cB y (.invokedynamic 1 :: code) (pl) (.int b :: .int a :: st) (w) := by
  intro pc H locs ls hok hP hS hL
  obtain ⟨hx, hb, hml, hown, hts, hC, hIn, hR, hcl⟩ := C
  obtain ⟨j, len, hd, hi, ho⟩ := ex_ok_cons rfl hok
  unfold ex_okI at hi
  dsimp only at hi
  cases j with
  | invokestatic ix =>
    simp only [Bool.and_eq_true, beq_iff_eq] at hi
    obtain ⟨h3, rfl⟩ := hi
    have hq := kq_J hcl _ (ex_lk h3)
    have hml2 : c.maxLocals = ls.size := by rw [hml, hL.2.1.1]
    have hfr : 1 ≤ R.frames := by rw [hR]; exact Nat.le_trans (by decide : 1 ≤ 2) h2d
    have hlo : 84 ≤ R.locals := by rw [hR]; show 84 ≤ 42 * d; omega
    have hlink : Jvm.Cond.methodLink (ex_Rn (ex_C y)) ix Lib.Math.min.name ∈ ex_tb := by
      rcases hq with ⟨h, q⟩ | ⟨h, q⟩ | ⟨h, q⟩ <;> first | exact q | cases h
    have hcat := ex_low_cat (ad := ad) hlow
    exact va_mmin hx hb hml2 hown (hts _ hlink) (hts _ ks_min.1) (hts _ ks_math) (hts _ ks_min.2) hfr (by omega) (Nat.zero_le _) (Nat.zero_le _) hd (k _ H locs ls ho hP hS hL)
  | _ => cases hi
theorem es_copy (C : ex_Fix p l e R s m args c dC dI ad cI cB y d) (h2d : 2 ≤ d) {n : Int32} {a b : Nat} (ha : ex_cls a = 12) (hb12 : ex_cls b = 12) (hn : ¬ n < 0) (hla : n.toNatClampNeg ≤ ex_len a) (hlb : n.toNatClampNeg ≤ ex_len b) (k : ex_G p l e R s m args below meth c Q dC dI ad cI cB y (code) (pl) ([]) (ex_cpy w a b n.toNatClampNeg)) : ex_G p l e R s m args below meth c Q dC dI ad cI cB y (.invokedynamic 2 :: code) (pl) ([.int n, .int 0, .ref b, .int 0, .ref a]) (w) := by
  intro pc H locs ls hok hP hS hL
  obtain ⟨hx, hb, hml, hown, hts, hC, hIn, hR, hcl⟩ := C
  obtain ⟨j, len, hd, hi, ho⟩ := ex_ok_cons rfl hok
  unfold ex_okI at hi
  dsimp only at hi
  cases j with
  | invokestatic ix =>
    simp only [Bool.and_eq_true, beq_iff_eq] at hi
    obtain ⟨h3, rfl⟩ := hi
    have hq := kq_J hcl _ (ex_lk h3)
    have hml2 : c.maxLocals = ls.size := by rw [hml, hL.2.1.1]
    have hfr : 1 ≤ R.frames := by rw [hR]; exact Nat.le_trans (by decide : 1 ≤ 2) h2d
    have hlo : 84 ≤ R.locals := by rw [hR]; show 84 ≤ 42 * d; omega
    have hlink : Jvm.Cond.methodLink (ex_Rn (ex_C y)) ix arraycopyName ∈ ex_tb := by
      rcases hq with ⟨h, q⟩ | ⟨h, q⟩ | ⟨h, q⟩ <;> first | exact q | cases h
    have he1 : (ex_cel ad cI cB w)[a]? = some (ad a, .inl (cI, ex_len a, .inl (w.1 a))) := by rw [ex_cel_at (ex_cls_lt (by omega)), ex_en_ia ha]
    have he2 : (ex_cel ad cI cB w)[b]? = some (ad b, .inl (cI, ex_len b, .inl (w.1 b))) := by rw [ex_cel_at (ex_cls_lt (by omega)), ex_en_ia hb12]
    have hset : ex_cel ad cI cB (ex_cpy w a b n.toNatClampNeg) = (ex_cel ad cI cB w).set b (ad b, .inl (cI, ex_len b, .inl (va_cpy (w.1 a) (w.1 b) 0 0 n.toNatClampNeg))) := by
      rw [ex_cel_set (w' := ex_cpy w a b n.toNatClampNeg) (ex_cls_lt (by omega : ex_cls b < 99)) (fun o' hne => ex_en_same (ex_cpy_2 hne) rfl), ex_en_ia hb12, ex_cpy_1]
    exact va_copyi hx hb hml2 hown (hts _ hlink) (hts _ ks_copy.1) (hts _ ks_copy.2.1) (hts _ ks_copy.2.2) hC.1 hP (ex_vD hIn) hS a b 0 0 (ty := .int) he1 he2 rfl rfl rfl (sp := 0) (dp := 0) (by decide) (by decide) hn (by show 0 + n.toNatClampNeg ≤ _; omega) (by show 0 + n.toNatClampNeg ≤ _; omega) (fun _ _ => rfl) hfr (by have := ex_nfw; show 0 + _ ≤ _; omega) hd
      (fun H1 locs1 hP1 hD1 hS1 => k _ H1 locs1 ls ho (by rw [hset]; exact hP1) hS1 hL)
  | _ => cases hi
theorem es_iret (C : ex_Fix p l e R s m args c dC dI ad cI cB y d) (hlk : meth.locks = false) (hr : meth.sig.returnType = some .int) {x : Int32} : ex_G p l e R s m args below meth c (MQ below (ex_Post dC dI ad cI cB s.heap.size (some (.int x)) w) args s 0 0 (ex_AA ad s.heap.size)) dC dI ad cI cB y (.ireturn :: code) (pl) ([.int x]) (w) := by
  intro pc H locs ls hok hP hS hL
  obtain ⟨hx, hb, hml, hown, hts, hC, hIn, hR, hcl⟩ := C
  obtain ⟨j, len, hd, hi, ho⟩ := ex_ok_cons rfl hok
  have hi : (decide (j = .ireturn) && len == 1) = true := hi
  simp only [Bool.and_eq_true, decide_eq_true_eq, beq_iff_eq] at hi
  obtain ⟨rfl, rfl⟩ := hi
  exact W.iret hx hb hr (fun t ht hW => ⟨rfl, by rw [ht]; exact hP, hS.F ht⟩) hS.2.2 hd hlk
theorem es_lret (C : ex_Fix p l e R s m args c dC dI ad cI cB y d) (hlk : meth.locks = false) (hr : meth.sig.returnType = some .long) {x : Int64} : ex_G p l e R s m args below meth c (MQ below (ex_Post dC dI ad cI cB s.heap.size (some (.long x)) w) args s 0 0 (ex_AA ad s.heap.size)) dC dI ad cI cB y (.lreturn :: code) (pl) ([.long x]) (w) := by
  intro pc H locs ls hok hP hS hL
  obtain ⟨hx, hb, hml, hown, hts, hC, hIn, hR, hcl⟩ := C
  obtain ⟨j, len, hd, hi, ho⟩ := ex_ok_cons rfl hok
  have hi : (decide (j = .lreturn) && len == 1) = true := hi
  simp only [Bool.and_eq_true, decide_eq_true_eq, beq_iff_eq] at hi
  obtain ⟨rfl, rfl⟩ := hi
  exact W.lret hx hb hr (fun t ht hW => ⟨rfl, by rw [ht]; exact hP, hS.F ht⟩) hS.2.2 hd hlk
theorem es_zret (C : ex_Fix p l e R s m args c dC dI ad cI cB y d) (hlk : meth.locks = false) (hr : meth.sig.returnType = some .boolean) {x : Int32} (h01 : x = 0 ∨ x = 1) : ex_G p l e R s m args below meth c (MQ below (ex_Post dC dI ad cI cB s.heap.size (some (.int x)) w) args s 0 0 (ex_AA ad s.heap.size)) dC dI ad cI cB y (.areturn :: code) (pl) ([.int x]) (w) := by
  intro pc H locs ls hok hP hS hL
  obtain ⟨hx, hb, hml, hown, hts, hC, hIn, hR, hcl⟩ := C
  obtain ⟨j, len, hd, hi, ho⟩ := ex_ok_cons rfl hok
  have hi : (decide (j = .ireturn) && len == 1) = true := hi
  simp only [Bool.and_eq_true, decide_eq_true_eq, beq_iff_eq] at hi
  obtain ⟨rfl, rfl⟩ := hi
  exact W.zret hx hb hr (by rcases h01 with rfl | rfl <;> decide) (fun t ht hW => ⟨rfl, by rw [ht]; exact hP, hS.F ht⟩) hS.2.2 hd hlk
theorem es_vret (C : ex_Fix p l e R s m args c dC dI ad cI cB y d) (hlk : meth.locks = false) (hr : meth.sig.returnType = none) : ex_G p l e R s m args below meth c (MQ below (ex_Post dC dI ad cI cB s.heap.size (none) w) args s 0 0 (ex_AA ad s.heap.size)) dC dI ad cI cB y (.return_ :: code) (pl) ([]) (w) := by
  intro pc H locs ls hok hP hS hL
  obtain ⟨hx, hb, hml, hown, hts, hC, hIn, hR, hcl⟩ := C
  obtain ⟨j, len, hd, hi, ho⟩ := ex_ok_cons rfl hok
  have hi : (decide (j = .return_) && len == 1) = true := hi
  simp only [Bool.and_eq_true, decide_eq_true_eq, beq_iff_eq] at hi
  obtain ⟨rfl, rfl⟩ := hi
  exact W.vret hx hb hr (fun t ht hW => ⟨rfl, by rw [ht]; exact hP, hS.F ht⟩) hS.2.2 hd hlk
theorem es_all (C : ex_Fix p l e R s m args c dC dI ad cI cB y (d + 1)) (hlk : meth.locks = false) (hrt : meth.sig.returnType = ex_ret y) (hcal : ∀ (yy : Nat) (as : List Value) (w : PW) (r : Option Value) (w1 : PW), ex_cal d yy as w = some (r, w1) → d ≠ 0 ∧ ex_okR yy as = true ∧ ex_Con l d yy as w r w1) {q : ER ⊕ ES} (h : ex_nx d (ex_cal d) y (code, pl, st, w) = some q) (hin : ∀ c1 pl1 st1 w1, q = .inr (c1, pl1, st1, w1) → ex_G p l e R s m args below meth c Q dC dI ad cI cB y (c1) (pl1) (st1) (w1)) (hout : ∀ r w1, q = .inl (r, w1) → Q = (MQ below (ex_Post dC dI ad cI cB s.heap.size r w1) args s 0 0 (ex_AA ad s.heap.size))) : ex_G p l e R s m args below meth c Q dC dI ad cI cB y (code) (pl) (st) (w) := by
  cases code with
  | nil => cases h
  | cons i c =>
    cases i with
    | iload k =>
      have h : (match pl.getD k .null with | .int x => ex_go c pl (.int x :: st) w | _ => none) = some q := h
      cases hg : pl.getD k .null with
      | int x =>
        rw [hg] at h
        cases h
        exact es_iload C hg (hin _ _ _ _ rfl)
      | _ => rw [hg] at h; cases h
    | aload k =>
      have h : (match pl.getD k .null with | .ref x => ex_go c pl (.ref x :: st) w | _ => none) = some q := h
      cases hg : pl.getD k .null with
      | ref x =>
        rw [hg] at h
        cases h
        exact es_aload C hg (hin _ _ _ _ rfl)
      | _ => rw [hg] at h; cases h
    | lload k =>
      have h : (match pl.getD k .null with | .long x => ex_go c pl (.long x :: st) w | _ => none) = some q := h
      cases hg : pl.getD k .null with
      | long x =>
        rw [hg] at h
        cases h
        exact es_lload C hg (hin _ _ _ _ rfl)
      | _ => rw [hg] at h; cases h
    | istore k =>
      cases st with
      | nil => cases h
      | cons v st =>
        cases v with
        | int x =>
          have h : ex_store k (.int x) c pl st w = some q := h
          unfold ex_store at h
          cases hg : pl[k]? with
          | none => rw [List.getD_eq_getElem?_getD, hg] at h; cases h
          | some a =>
            have hg2 : pl.getD k (.retAddr 0) = a := by rw [List.getD_eq_getElem?_getD, hg]; rfl
            rw [hg2] at h
            cases a with
            | retAddr n => cases h
            | _ => cases h; exact es_istore C hg (by intro n q; cases q) (hin _ _ _ _ rfl)
        | _ => cases h
    | astore k =>
      cases st with
      | nil => cases h
      | cons v st =>
        cases v with
        | ref x =>
          have h : ex_store k (.ref x) c pl st w = some q := h
          unfold ex_store at h
          cases hg : pl[k]? with
          | none => rw [List.getD_eq_getElem?_getD, hg] at h; cases h
          | some a =>
            have hg2 : pl.getD k (.retAddr 0) = a := by rw [List.getD_eq_getElem?_getD, hg]; rfl
            rw [hg2] at h
            cases a with
            | retAddr n => cases h
            | _ => cases h; exact es_astore C hg (by intro n q; cases q) (hin _ _ _ _ rfl)
        | _ => cases h
    | lstore k =>
      cases st with
      | nil => cases h
      | cons v st =>
        cases v with
        | long x =>
          have h : (if k + 1 < pl.length then ex_store k (.long x) c (pl.set (k + 1) (.retAddr 0)) st w else none) = some q := h
          by_cases hk : k + 1 < pl.length
          · rw [if_pos hk] at h
            unfold ex_store at h
            have hkl : k < pl.length := by omega
            have hg : pl[k]? = some pl[k] := List.getElem?_eq_getElem hkl
            have hg2 : (pl.set (k + 1) (.retAddr 0)).getD k (.retAddr 0) = pl[k] := by rw [List.getD_eq_getElem?_getD, List.getElem?_set, if_neg (by omega), hg]; rfl
            rw [hg2] at h
            generalize pl[k] = a at h hg
            cases a with
            | retAddr n => cases h
            | _ => cases h; exact es_lstore C hg (by intro n q; cases q) hk (hin _ _ _ _ rfl)
          · rw [if_neg hk] at h; cases h
        | _ => cases h
    | iinc k n =>
      have h : (match pl.getD k .null with | .int x => ex_go c (pl.set k (.int (x + Int32.ofInt n))) st w | _ => none) = some q := h
      cases hg : pl.getD k .null with
      | int x =>
        rw [hg] at h
        cases h
        exact es_iinc C hg (hin _ _ _ _ rfl)
      | _ => rw [hg] at h; cases h
    | sipush n =>
      cases h
      exact es_push C (hin _ _ _ _ rfl)
    | goto_w n =>
      cases h
      exact es_lpush C (hin _ _ _ _ rfl)
    | iadd =>
      match st, h with
      | .int b :: .int a :: st, h =>
        cases h
        exact es_iadd C (hin _ _ _ _ rfl)
    | isub =>
      match st, h with
      | .int b :: .int a :: st, h =>
        cases h
        exact es_isub C (hin _ _ _ _ rfl)
    | imul =>
      match st, h with
      | .int b :: .int a :: st, h =>
        cases h
        exact es_imul C (hin _ _ _ _ rfl)
    | iand =>
      match st, h with
      | .int b :: .int a :: st, h =>
        cases h
        exact es_iand C (hin _ _ _ _ rfl)
    | ior =>
      match st, h with
      | .int b :: .int a :: st, h =>
        cases h
        exact es_ior C (hin _ _ _ _ rfl)
    | ixor =>
      match st, h with
      | .int b :: .int a :: st, h =>
        cases h
        exact es_ixor C (hin _ _ _ _ rfl)
    | ishl =>
      match st, h with
      | .int b :: .int a :: st, h =>
        cases h
        exact es_ishl C (hin _ _ _ _ rfl)
    | ishr =>
      match st, h with
      | .int b :: .int a :: st, h =>
        cases h
        exact es_ishr C (hin _ _ _ _ rfl)
    | ladd =>
      match st, h with
      | .long b :: .long a :: st, h =>
        cases h
        exact es_ladd C (hin _ _ _ _ rfl)
    | lmul =>
      match st, h with
      | .long b :: .long a :: st, h =>
        cases h
        exact es_lmul C (hin _ _ _ _ rfl)
    | land =>
      match st, h with
      | .long b :: .long a :: st, h =>
        cases h
        exact es_land C (hin _ _ _ _ rfl)
    | lshr =>
      match st, h with
      | .int b :: .long a :: st, h =>
        cases h
        exact es_lshr C (hin _ _ _ _ rfl)
    | lushr =>
      match st, h with
      | .int b :: .long a :: st, h =>
        cases h
        exact es_lushr C (hin _ _ _ _ rfl)
    | idiv =>
      match st, h with
      | .int b :: .int a :: st, h =>
        have h : (if b = 0 then none else ex_go c pl (.int (a / b) :: st) w) = some q := h
        by_cases hz : b = 0
        · rw [if_pos hz] at h; cases h
        · rw [if_neg hz] at h
          cases h
          exact es_idiv C hz (hin _ _ _ _ rfl)
    | irem =>
      match st, h with
      | .int b :: .int a :: st, h =>
        have h : (if b = 0 then none else ex_go c pl (.int (a - a / b * b) :: st) w) = some q := h
        by_cases hz : b = 0
        · rw [if_pos hz] at h; cases h
        · rw [if_neg hz] at h
          cases h
          exact es_irem C hz (hin _ _ _ _ rfl)
    | i2l =>
      match st, h with
      | .int a :: st, h =>
        cases h
        exact es_i2l C (hin _ _ _ _ rfl)
    | l2i =>
      match st, h with
      | .long a :: st, h =>
        cases h
        exact es_l2i C (hin _ _ _ _ rfl)
    | i2b =>
      match st, h with
      | .int a :: st, h =>
        cases h
        exact es_i2b C (hin _ _ _ _ rfl)
    | pop =>
      match st, h with
      | .int a :: st, h =>
        cases h
        exact es_pop C (hin _ _ _ _ rfl)
    | dup =>
      match st, h with
      | .ref a :: st, h => cases h; exact es_dup_r C (hin _ _ _ _ rfl)
      | .int a :: st, h => cases h; exact es_dup_i C (hin _ _ _ _ rfl)
    | dup2 =>
      match st, h with
      | .int a :: .ref b :: st, h =>
        cases h
        exact es_dup2 C (hin _ _ _ _ rfl)
    | goto L =>
      cases h
      exact es_goto C (hin _ _ _ _ rfl)
    | jsr L =>
      cases h
      exact es_jsr C (hin _ _ _ _ rfl)
    | if_icmp cd L =>
      match st, h with
      | .int b :: .int a :: st, h =>
        cases cd with
          | eq =>
            have h : (if decide (a = b) = true then ex_go (ex_blk y L.toNat) pl st w else ex_go c pl st w) = some q := h
            exact es_icmp_eq C (fun hy => hin _ _ _ _ (by rw [if_pos (decide_eq_true hy)] at h; exact (Option.some.inj h).symm)) (fun hy => hin _ _ _ _ (by rw [if_neg (by simpa using hy)] at h; exact (Option.some.inj h).symm))
          | ne =>
            have h : (if decide (¬ a = b) = true then ex_go (ex_blk y L.toNat) pl st w else ex_go c pl st w) = some q := h
            exact es_icmp_ne C (fun hy => hin _ _ _ _ (by rw [if_pos (decide_eq_true hy)] at h; exact (Option.some.inj h).symm)) (fun hy => hin _ _ _ _ (by rw [if_neg (by simpa using hy)] at h; exact (Option.some.inj h).symm))
          | lt =>
            have h : (if decide (a < b) = true then ex_go (ex_blk y L.toNat) pl st w else ex_go c pl st w) = some q := h
            exact es_icmp_lt C (fun hy => hin _ _ _ _ (by rw [if_pos (decide_eq_true hy)] at h; exact (Option.some.inj h).symm)) (fun hy => hin _ _ _ _ (by rw [if_neg (by simpa using hy)] at h; exact (Option.some.inj h).symm))
          | ge =>
            have h : (if decide (b ≤ a) = true then ex_go (ex_blk y L.toNat) pl st w else ex_go c pl st w) = some q := h
            exact es_icmp_ge C (fun hy => hin _ _ _ _ (by rw [if_pos (decide_eq_true hy)] at h; exact (Option.some.inj h).symm)) (fun hy => hin _ _ _ _ (by rw [if_neg (by simpa using hy)] at h; exact (Option.some.inj h).symm))
          | gt =>
            have h : (if decide (b < a) = true then ex_go (ex_blk y L.toNat) pl st w else ex_go c pl st w) = some q := h
            exact es_icmp_gt C (fun hy => hin _ _ _ _ (by rw [if_pos (decide_eq_true hy)] at h; exact (Option.some.inj h).symm)) (fun hy => hin _ _ _ _ (by rw [if_neg (by simpa using hy)] at h; exact (Option.some.inj h).symm))
          | le =>
            have h : (if decide (a ≤ b) = true then ex_go (ex_blk y L.toNat) pl st w else ex_go c pl st w) = some q := h
            exact es_icmp_le C (fun hy => hin _ _ _ _ (by rw [if_pos (decide_eq_true hy)] at h; exact (Option.some.inj h).symm)) (fun hy => hin _ _ _ _ (by rw [if_neg (by simpa using hy)] at h; exact (Option.some.inj h).symm))
    | ifCond cd L =>
      match st, h with
      | .int a :: st, h =>
        cases cd with
          | eq =>
            have h : (if decide (a = 0) = true then ex_go (ex_blk y L.toNat) pl st w else ex_go c pl st w) = some q := h
            exact es_if_eq C (fun hy => hin _ _ _ _ (by rw [if_pos (decide_eq_true hy)] at h; exact (Option.some.inj h).symm)) (fun hy => hin _ _ _ _ (by rw [if_neg (by simpa using hy)] at h; exact (Option.some.inj h).symm))
          | ne =>
            have h : (if decide (¬ a = 0) = true then ex_go (ex_blk y L.toNat) pl st w else ex_go c pl st w) = some q := h
            exact es_if_ne C (fun hy => hin _ _ _ _ (by rw [if_pos (decide_eq_true hy)] at h; exact (Option.some.inj h).symm)) (fun hy => hin _ _ _ _ (by rw [if_neg (by simpa using hy)] at h; exact (Option.some.inj h).symm))
          | lt =>
            have h : (if decide (a < 0) = true then ex_go (ex_blk y L.toNat) pl st w else ex_go c pl st w) = some q := h
            exact es_if_lt C (fun hy => hin _ _ _ _ (by rw [if_pos (decide_eq_true hy)] at h; exact (Option.some.inj h).symm)) (fun hy => hin _ _ _ _ (by rw [if_neg (by simpa using hy)] at h; exact (Option.some.inj h).symm))
          | ge =>
            have h : (if decide (0 ≤ a) = true then ex_go (ex_blk y L.toNat) pl st w else ex_go c pl st w) = some q := h
            exact es_if_ge C (fun hy => hin _ _ _ _ (by rw [if_pos (decide_eq_true hy)] at h; exact (Option.some.inj h).symm)) (fun hy => hin _ _ _ _ (by rw [if_neg (by simpa using hy)] at h; exact (Option.some.inj h).symm))
          | gt =>
            have h : (if decide (0 < a) = true then ex_go (ex_blk y L.toNat) pl st w else ex_go c pl st w) = some q := h
            exact es_if_gt C (fun hy => hin _ _ _ _ (by rw [if_pos (decide_eq_true hy)] at h; exact (Option.some.inj h).symm)) (fun hy => hin _ _ _ _ (by rw [if_neg (by simpa using hy)] at h; exact (Option.some.inj h).symm))
          | le =>
            have h : (if decide (a ≤ 0) = true then ex_go (ex_blk y L.toNat) pl st w else ex_go c pl st w) = some q := h
            exact es_if_le C (fun hy => hin _ _ _ _ (by rw [if_pos (decide_eq_true hy)] at h; exact (Option.some.inj h).symm)) (fun hy => hin _ _ _ _ (by rw [if_neg (by simpa using hy)] at h; exact (Option.some.inj h).symm))
    | tableswitch df lo hi offs =>
      match st, h with
      | .int a :: st, h =>
        have h : (if a.toInt < lo ∨ hi < a.toInt then ex_go (ex_blk y df.toNat) pl st w else ex_go (ex_blk y ((offs.toList.getD (a.toInt - lo).toNat 0).toNat)) pl st w) = some q := h
        exact es_tswitch C (fun hy => hin _ _ _ _ (by rw [if_pos hy] at h; exact (Option.some.inj h).symm)) (fun hy => hin _ _ _ _ (by rw [if_neg hy] at h; exact (Option.some.inj h).symm))
    | lookupswitch df ps =>
      match st, h with
      | .int a :: st, h =>
        cases h
        exact es_lswitch C (hin _ _ _ _ rfl)
    | getfield f =>
      match st, h with
      | .ref a :: st, h =>
        have h : ex_gf f c pl (.ref a :: st) w = some q := h
        unfold ex_gf at h
        dsimp only at h
        cases hk : ex_fk a f with
        | none => rw [hk] at h; cases h
        | some kd =>
          rw [hk] at h
          match kd, hk, h with
          | 0, hk, h => cases h; exact es_getf C (by unfold ex_fv; rw [hk]) (hin _ _ _ _ rfl)
          | 1, hk, h => cases h; exact es_getf C (by unfold ex_fv; rw [hk]) (hin _ _ _ _ rfl)
          | 2, hk, h => cases h; exact es_getf C (by unfold ex_fv; rw [hk]) (hin _ _ _ _ rfl)
          | n + 3, hk, h => cases h; exact es_getf C (by unfold ex_fv; rw [hk]) (hin _ _ _ _ rfl)
    | putfield f =>
      have h : ex_pf f c pl st w = some q := h
      unfold ex_pf at h
      match st, h with
      | .int x :: .ref a :: st, h =>
        dsimp only at h
        cases hk : ex_fk a f with
        | none => rw [hk] at h; cases h
        | some kd =>
          rw [hk] at h
          match kd, hk, h with
          | 0, hk, h => cases h; exact es_putf C hk (Or.inl rfl) (hin _ _ _ _ rfl)
          | 1, hk, h => cases h
          | 2, hk, h =>
            by_cases hx : x = 0 ∨ x = 1
            · simp only [if_pos hx] at h
              cases h; exact es_putf C hk (Or.inr ⟨rfl, hx⟩) (hin _ _ _ _ rfl)
            · simp only [if_neg hx] at h
              cases h
          | n + 3, hk, h => cases h
      | .long x :: .ref a :: st, h =>
        dsimp only at h
        cases hk : ex_fk a f with
        | none => rw [hk] at h; cases h
        | some kd =>
          rw [hk] at h
          match kd, hk, h with
          | 0, hk, h => cases h
          | 1, hk, h => cases h; exact es_putl C hk (hin _ _ _ _ rfl)
          | n + 2, hk, h => cases h
    | getstatic f =>
      have h : (if f = 1000 ∨ f = 1001 then ex_go c pl (.ref f :: st) w else none) = some q := h
      by_cases hf : f = 1000 ∨ f = 1001
      · rw [if_pos hf] at h; cases h
        exact es_gets C hf (hin _ _ _ _ rfl)
      · rw [if_neg hf] at h; cases h
    | iaload =>
      match st, h with
      | .int i :: .ref a :: st, h =>
        have h : (match ex_ald w a i with | some x => ex_go c pl (.int x :: st) w | none => none) = some q := h
        cases ha : ex_ald w a i with
        | none => rw [ha] at h; cases h
        | some x => rw [ha] at h; cases h; exact es_iald C ha (hin _ _ _ _ rfl)
    | baload =>
      match st, h with
      | .int i :: .ref a :: st, h =>
        have h : (if ex_cls a = 13 ∧ ¬ (i < 0 ∨ ex_len a ≤ i.toNatClampNeg) then ex_go c pl (.int (w.1 a i.toNatClampNeg) :: st) w else none) = some q := h
        by_cases ha : ex_cls a = 13 ∧ ¬ (i < 0 ∨ ex_len a ≤ i.toNatClampNeg)
        · rw [if_pos ha] at h; cases h; exact es_bald C ha.1 ha.2 (hin _ _ _ _ rfl)
        · rw [if_neg ha] at h; cases h
    | iastore =>
      match st, h with
      | .int x :: .int i :: .ref a :: st, h =>
        have h : (if ex_cls a = 12 ∧ ¬ (i < 0 ∨ ex_len a ≤ i.toNatClampNeg) then ex_go c pl st (ex_up w a i.toNatClampNeg (x)) else none) = some q := h
        by_cases ha : ex_cls a = 12 ∧ ¬ (i < 0 ∨ ex_len a ≤ i.toNatClampNeg)
        · rw [if_pos ha] at h; cases h; exact es_iast C ha.1 ha.2 (hin _ _ _ _ rfl)
        · rw [if_neg ha] at h; cases h
    | bastore =>
      match st, h with
      | .int x :: .int i :: .ref a :: st, h =>
        have h : (if ex_cls a = 13 ∧ ¬ (i < 0 ∨ ex_len a ≤ i.toNatClampNeg) then ex_go c pl st (ex_up w a i.toNatClampNeg (x.toInt8.toInt32)) else none) = some q := h
        by_cases ha : ex_cls a = 13 ∧ ¬ (i < 0 ∨ ex_len a ≤ i.toNatClampNeg)
        · rw [if_pos ha] at h; cases h; exact es_bast C ha.1 ha.2 (hin _ _ _ _ rfl)
        · rw [if_neg ha] at h; cases h
    | arraylength =>
      match st, h with
      | .ref a :: st, h =>
        have h : (if ex_cls a = 12 then ex_go c pl (.int (Int32.ofNat (ex_len a)) :: st) w else none) = some q := h
        by_cases ha : ex_cls a = 12
        · rw [if_pos ha] at h; cases h; exact es_alen C ha (hin _ _ _ _ rfl)
        · rw [if_neg ha] at h; cases h
    | invokestatic f =>
      have h : ex_call (ex_cal d) (f / 8) (f % 8) c pl st w = some q := h
      unfold ex_call at h
      cases hs : ex_spl (f % 8) [] st with
      | none => rw [hs] at h; cases h
      | some z =>
        obtain ⟨as, rest⟩ := z
        rw [hs] at h
        dsimp only at h
        by_cases hlow : ex_low rest = true
        · rw [if_pos hlow] at h
          unfold ex_back at h
          cases hc : ex_cal d (f / 8) as w with
          | none => rw [hc] at h; cases h
          | some z =>
            obtain ⟨r, w1⟩ := z
            rw [hc] at h
            cases h
            exact es_call C (hcal _ _ _ _ _ hc).2.2 hs hlow (hin _ _ _ _ rfl)
        · rw [if_neg hlow] at h; cases h
    | invokevirtual f =>
      have h : ex_callv (ex_cal d) (f / 8) (f % 8 + 1) c pl st w = some q := h
      unfold ex_callv at h
      cases hs : ex_spl (f % 8 + 1) [] st with
      | none => rw [hs] at h; cases h
      | some z =>
        obtain ⟨as, rest⟩ := z
        rw [hs] at h
        dsimp only at h
        cases as with
        | nil => cases h
        | cons v as =>
          cases v with
          | ref ob =>
            dsimp only at h
            by_cases hlow : ex_low rest = true
            · rw [if_pos hlow] at h
              unfold ex_back at h
              cases hc : ex_cal d (f / 8) (.ref ob :: as) w with
              | none => rw [hc] at h; cases h
              | some z =>
                obtain ⟨r, w1⟩ := z
                rw [hc] at h
                cases h
                have hc3 := hcal _ _ _ _ _ hc
                exact es_callv C hc3.2.2 hc3.2.1 hs hlow (hin _ _ _ _ rfl)
            · rw [if_neg hlow] at h; cases h
          | _ => cases h
    | invokeinterface x n =>
      have h : ex_vcall (ex_cal d) x n c pl st w = some q := h
      unfold ex_vcall at h
      cases hs : ex_spl (n + 1) [] st with
      | none => rw [hs] at h; cases h
      | some z =>
        obtain ⟨as, rest⟩ := z
        rw [hs] at h
        dsimp only at h
        cases as with
        | nil => cases h
        | cons v as =>
          cases v with
          | ref ob =>
            dsimp only at h
            cases hdp : ex_dsp x (ex_cls ob) with
            | none => rw [hdp] at h; cases h
            | some yy =>
              rw [hdp] at h
              dsimp only at h
              by_cases hlow : ex_low rest = true
              · rw [if_pos hlow] at h
                unfold ex_back at h
                cases hc : ex_cal d yy (.ref ob :: as) w with
                | none => rw [hc] at h; cases h
                | some z =>
                  obtain ⟨r, w1⟩ := z
                  rw [hc] at h
                  cases h
                  exact es_calli C (hcal _ _ _ _ _ hc).2.2 hdp hs hlow (hin _ _ _ _ rfl)
              · rw [if_neg hlow] at h; cases h
          | _ => cases h
    | invokedynamic k =>
      have h : ex_nat d k c pl st w = some q := h
      unfold ex_nat at h
      by_cases h2d : d < 2
      · rw [if_pos h2d] at h; cases h
      · rw [if_neg h2d] at h
        have h2d : 2 ≤ d + 1 := Nat.le_succ_of_le (Nat.le_of_not_lt h2d)
        split at h
        · rename_i yb xa r hh
          by_cases hlow : ex_low r = true
          · rw [if_pos hlow] at h; cases h; exact es_max C h2d hlow (hin _ _ _ _ rfl)
          · rw [if_neg hlow] at h; cases h
        · rename_i yb xa r hh
          by_cases hlow : ex_low r = true
          · rw [if_pos hlow] at h; cases h; exact es_min C h2d hlow (hin _ _ _ _ rfl)
          · rw [if_neg hlow] at h; cases h
        · rename_i n dp b sp a hh
          by_cases hc : sp = 0 ∧ dp = 0 ∧ ex_cls a = 12 ∧ ex_cls b = 12 ∧ ¬ n < 0 ∧ n.toNatClampNeg ≤ ex_len a ∧ n.toNatClampNeg ≤ ex_len b
          · rw [if_pos hc] at h
            obtain ⟨rfl, rfl, h5, h6, h7, h8, h9⟩ := hc
            cases h
            exact es_copy C h2d h5 h6 h7 h8 h9 (hin _ _ _ _ rfl)
          · rw [if_neg hc] at h; cases h
        · cases h
    | ireturn =>
      match st, h with
      | [.int a], h =>
        have h : (if ex_ret y = some .int then some (.inl (some (.int a), w)) else none) = some q := h
        by_cases hr : ex_ret y = some .int
        · rw [if_pos hr] at h
          cases h
          rw [hout _ _ rfl]
          exact es_iret C hlk (hrt.trans hr)
        · rw [if_neg hr] at h; cases h
    | lreturn =>
      match st, h with
      | [.long a], h =>
        have h : (if ex_ret y = some .long then some (.inl (some (.long a), w)) else none) = some q := h
        by_cases hr : ex_ret y = some .long
        · rw [if_pos hr] at h
          cases h
          rw [hout _ _ rfl]
          exact es_lret C hlk (hrt.trans hr)
        · rw [if_neg hr] at h; cases h
    | areturn =>
      match st, h with
      | [.int a], h =>
        have h : (if a = 0 ∨ a = 1 then (if ex_ret y = some .boolean then some (.inl (some (.int a), w)) else none) else none) = some q := h
        by_cases h01 : a = 0 ∨ a = 1
        · rw [if_pos h01] at h
          by_cases hr : ex_ret y = some .boolean
          · rw [if_pos hr] at h
            cases h
            rw [hout _ _ rfl]
            exact es_zret C hlk (hrt.trans hr) h01
          · rw [if_neg hr] at h; cases h
        · rw [if_neg h01] at h; cases h
    | return_ =>
      match st, h with
      | [], h =>
        have h : (if ex_ret y = none then some (.inl (none, w)) else none) = some q := h
        by_cases hr : ex_ret y = none
        · rw [if_pos hr] at h
          cases h
          rw [hout _ _ rfl]
          exact es_vret C hlk (hrt.trans hr)
        · rw [if_neg hr] at h; cases h
    | _ => cases h
theorem es_run {y d : Nat} (hy : y < 236) (l : Launch) (hcal : ∀ (yy : Nat) (as : List Value) (w : PW) (r : Option Value) (w1 : PW), ex_cal d yy as w = some (r, w1) → d ≠ 0 ∧ ex_okR yy as = true ∧ ex_Con l d yy as w r w1)
    {C0 : ex_Fix p l e R s m args c dC dI ad cI cB y (d + 1)} (hlk : meth.locks = false) (hrt : meth.sig.returnType = ex_ret y) {r : Option Value} {w1 : PW} : ∀ (n : Nat) (code : List Instr) (pl st : List Value) (w : PW), ex_run d (ex_cal d) y n (code, pl, st, w) = some (r, w1) →
    ex_G p l e R s m args below meth c (MQ below (ex_Post dC dI ad cI cB s.heap.size r w1) args s 0 0 (ex_AA ad s.heap.size)) dC dI ad cI cB y code pl st w := by
  intro n
  induction n with
  | zero => intro code pl st w h; cases h
  | succ n ih =>
    intro code pl st w h
    cases hq : ex_nx d (ex_cal d) y (code, pl, st, w) with
    | none => rw [ex_run, hq] at h; cases h
    | some q =>
      refine es_all C0 hlk hrt hcal hq ?_ ?_
      · intro c1 pl1 st1 w2 he
        subst he
        rw [ex_run, hq] at h
        exact ih c1 pl1 st1 w2 h
      · intro r2 w2 he
        subst he
        rw [ex_run, hq] at h
        cases h
        rfl
end EU
theorem ex_lay_args (ad : Nat → Nat) (as : List Value) (h : ∀ v ∈ as, ex_isv v = true) (i : Nat) : ∀ q ∈ ex_asc ad i (ex_lay as), q ∈ lv_args i (as.map (ex_tv ad)) := by
  induction as generalizing i with
  | nil => intro q hq; cases hq
  | cons v r ih =>
    have hr := fun u hu => h u (List.mem_cons_of_mem _ hu)
    have hv := h v List.mem_cons_self
    intro q hq
    cases v with
    | int x =>
      have hq : q ∈ (i, Value.int x) :: ex_asc ad (i + 1) (ex_lay r) := hq
      rcases List.mem_cons.mp hq with rfl | hq
      · exact List.mem_cons_self
      · exact List.mem_cons_of_mem _ (ih hr (i + 1) q hq)
    | long x =>
      have hq : q ∈ (i, Value.long x) :: ex_asc ad (i + 1 + 1) (ex_lay r) := hq
      rcases List.mem_cons.mp hq with rfl | hq
      · exact List.mem_cons_self
      · exact List.mem_cons_of_mem _ (ih hr (i + 2) q hq)
    | ref x =>
      have hq : q ∈ (i, Value.ref (ad x)) :: ex_asc ad (i + 1) (ex_lay r) := hq
      rcases List.mem_cons.mp hq with rfl | hq
      · exact List.mem_cons_self
      · exact List.mem_cons_of_mem _ (ih hr (i + 1) q hq)
    | _ => cases hv
theorem ex_asc_pad (ad : Nat → Nat) (l : List Value) (n i : Nat) : ex_asc ad i (l ++ List.replicate n .null) = ex_asc ad i l := by
  induction l generalizing i with
  | nil =>
    induction n generalizing i with
    | zero => rfl
    | succ n ih => exact ih (i + 1)
  | cons v r ih =>
    show (if ex_isv v then (i, ex_tv ad v) :: ex_asc ad (i + 1) (r ++ _) else ex_asc ad (i + 1) (r ++ _)) = (if ex_isv v then _ else _)
    rw [ih]
theorem ex_lay_len (ad : Nat → Nat) (as : List Value) (h : ∀ v ∈ as, ex_isv v = true) : (ex_lay as).length = (lg_sl (as.map (ex_tv ad))).length := by
  induction as with
  | nil => rfl
  | cons v r ih =>
    have hr := ih fun u hu => h u (List.mem_cons_of_mem _ hu)
    have hv := h v List.mem_cons_self
    cases v with
    | int x => show (ex_lay r).length + 1 = ([Slot.val (Value.int x)] ++ lg_sl (r.map (ex_tv ad))).length; rw [List.length_append, ← hr]; simp; omega
    | long x => show (ex_lay r).length + 1 + 1 = ([Slot.val (Value.long x), Slot.second] ++ lg_sl (r.map (ex_tv ad))).length; rw [List.length_append, ← hr]; simp; omega
    | ref x => show (ex_lay r).length + 1 = ([Slot.val (Value.ref (ad x))] ++ lg_sl (r.map (ex_tv ad))).length; rw [List.length_append, ← hr]; simp; omega
    | _ => cases hv
theorem ex_lay_mark (as : List Value) (n : Nat) : ∀ (j : Nat) (x : Int64), (ex_lay as ++ List.replicate n .null)[j]? = some (.long x) → (ex_lay as ++ List.replicate n .null)[j + 1]? = some (.retAddr 0) := by
  induction as with
  | nil =>
    intro j x h
    rw [show ex_lay [] = [] from rfl, List.nil_append, List.getElem?_replicate] at h
    split at h <;> cases h
  | cons v r ih =>
    intro j x h
    cases v with
    | long z =>
      cases j with
      | zero => rfl
      | succ j =>
        cases j with
        | zero => cases h
        | succ j => exact ih j x h
    | _ =>
      cases j with
      | zero => cases h
      | succ j => exact ih j x h
/-- THE SOUNDNESS: what the pure machine answers at depth d is the method's contract in the room of d frames -/
theorem ex_sound (l : Launch) : ∀ (d y : Nat) (as : List Value) (w : PW) (r : Option Value) (w1 : PW), ex_cal d y as w = some (r, w1) → d ≠ 0 ∧ ex_okR y as = true ∧ ex_Con l d y as w r w1 := by
  intro d
  induction d with
  | zero => intro y as w r w1 h; cases h
  | succ d ih =>
    intro y as w r w1 h
    have h : (if ex_okR y as = true then ex_ev d (ex_cal d) y (ex_blk y 0, ex_ent y as, [], w) else none) = some (r, w1) := h
    by_cases hR : ex_okR y as = true
    · rw [if_pos hR] at h
      refine ⟨Nat.succ_ne_zero d, hR, ?_⟩
      have hall : ∀ v ∈ as, ex_isv v = true := by
        unfold ex_okR at hR
        rw [Bool.and_eq_true] at hR
        exact List.all_eq_true.mp hR.1
      obtain ⟨n, hn⟩ := ex_ev_run h
      have hy : y < 236 := by
        rcases Nat.lt_or_ge y 236 with hy | hy
        · exact hy
        · have hb : ex_blk y 0 = [] := by
            unfold ex_blk
            rw [List.getD_eq_getElem?_getD, List.getElem?_eq_none (Nat.le_trans (show ex_bs.length ≤ 236 by decide +kernel) hy)]
            rfl
          rw [hb] at hn
          cases n with
          | zero => cases hn
          | succ n =>
            rw [ex_run, show ex_nx d (ex_cal d) y ([], ex_ent y as, [], w) = none from rfl] at hn
            cases hn
      have hm := kw_all hy
      intro dC dI ad cI cB sz
      refine Met.ofW (cc := ex_B y) (maxL := ex_L y) (ret := ex_ret y) hm.2.2.2.2.1 rfl ?_
      intro p e s m args below meth c s₁ B hml hv
      obtain ⟨rfl, h0, hP, hCx, hIn⟩ := hv
      subst h0
      have hts := atoms_spec (ws := ex_ws y) B.pre
      have hown : s.vm.findClass (ex_Rn (ex_C y)) = some m.cls := by rw [← hm.2.2.1]; exact findClass_of_methodNamed B.named
      have C0 : ex_Fix p l e (headSpec (ex_ws y) (ex_Rm (d + 1))).room s m (as.map (ex_tv ad)).toArray c dC dI ad cI cB y (d + 1) :=
        ⟨B.exec, B.bytes, hml, hown, fun w h => hts w (List.mem_cons_of_mem _ h), hCx, hIn, rfl, hm.2.2.2.1⟩
      have hG := es_run (below := below) hy l ih (C0 := C0) B.notSynchronized B.returns n _ _ _ _ hn
      rw [lg_entry_eq]
      have hfit : (lg_sl (as.map (ex_tv ad))).length ≤ ex_L y := by
        unfold ex_okR at hR
        rw [Bool.and_eq_true, Bool.and_eq_true] at hR
        rw [← ex_lay_len ad as hall]
        exact of_decide_eq_true hR.2.1
      have hent := lv_entry (as.map (ex_tv ad)) (n := ex_L y) hfit
      refine hG 0 s.heap [] _ (ex_ok_blk y 0) hP va_S.rf ⟨?_, ?_, ?_⟩
      · unfold ex_ent
        rw [List.length_append, List.length_replicate, ex_lay_len ad as hall]
        omega
      · refine lv_has.less hent ?_
        unfold ex_ent
        rw [ex_asc_pad]
        exact ex_lay_args ad as hall 0
      · exact ex_lay_mark as _
    · rw [if_neg hR] at h; cases h
end
section
/-! integers as Int32.ofInt of a whole number -/
abbrev zI (z : Int) : Int32 := Int32.ofInt z
theorem z_0 : (0 : Int32) = Int32.ofInt 0 := rfl
theorem z_1 : (1 : Int32) = Int32.ofInt 1 := rfl
theorem z_n (n : Nat) : nI n = Int32.ofInt (n : Int) := rfl
theorem z_add (a b : Int) : Int32.ofInt a + Int32.ofInt b = Int32.ofInt (a + b) := (Int32.ofInt_add a b).symm
theorem z_sub (a b : Int) : Int32.ofInt a - Int32.ofInt b = Int32.ofInt (a - b) := (Int32.ofInt_sub a b).symm
theorem z_mul (a b : Int) : Int32.ofInt a * Int32.ofInt b = Int32.ofInt (a * b) := (Int32.ofInt_mul a b).symm
theorem z_toInt {a : Int} (h1 : -2147483648 ≤ a) (h2 : a < 2147483648) : (Int32.ofInt a).toInt = a := by
  rw [Int32.toInt_ofInt]
  have hs : (Int32.size : Int) = 4294967296 := rfl
  exact Int.bmod_eq_of_le (by omega) (by omega)
theorem z_lt {a b : Int} (h1 : -2147483648 ≤ a) (h2 : a < 2147483648) (h3 : -2147483648 ≤ b) (h4 : b < 2147483648) : (Int32.ofInt a < Int32.ofInt b) ↔ a < b := by
  rw [Int32.lt_iff_toInt_lt, z_toInt h1 h2, z_toInt h3 h4]
theorem z_le {a b : Int} (h1 : -2147483648 ≤ a) (h2 : a < 2147483648) (h3 : -2147483648 ≤ b) (h4 : b < 2147483648) : (Int32.ofInt a ≤ Int32.ofInt b) ↔ a ≤ b := by
  rw [Int32.le_iff_toInt_le, z_toInt h1 h2, z_toInt h3 h4]
theorem z_eq {a b : Int} (h1 : -2147483648 ≤ a) (h2 : a < 2147483648) (h3 : -2147483648 ≤ b) (h4 : b < 2147483648) : (Int32.ofInt a = Int32.ofInt b) ↔ a = b := by
  rw [← Int32.toInt_inj, z_toInt h1 h2, z_toInt h3 h4]
theorem z_clamp {a : Int} (h1 : 0 ≤ a) (h2 : a < 2147483648) : (Int32.ofInt a).toNatClampNeg = a.toNat := by
  show (Int32.ofInt a).toInt.toNat = a.toNat
  rw [z_toInt (by omega) h2]
theorem z_clampN {n : Nat} (h2 : n < 2147483648) : (Int32.ofInt (n : Int)).toNatClampNeg = n := by
  rw [z_clamp (by omega) (by omega)]; rfl
theorem z_of (x : Int32) : ∃ z : Int, -2147483648 ≤ z ∧ z < 2147483648 ∧ x = Int32.ofInt z :=
  ⟨x.toInt, Int32.le_toInt x, Int32.toInt_lt x, (Int32.ofInt_toInt x).symm⟩
theorem z_bool (c : Prop) [Decidable c] : (if c then Int32.ofInt 1 else Int32.ofInt 0) = (if c then 1 else 0) := rfl
theorem z_ite0 (c : Prop) [h : Decidable c] : ((if c then Int32.ofInt 1 else Int32.ofInt 0) = Int32.ofInt 0) ↔ ¬ c := by
  by_cases hc : c <;> simp [hc]
theorem z_ite01 (c : Prop) [h : Decidable c] : ((if c then Int32.ofInt 1 else Int32.ofInt 0) = Int32.ofInt 0 ∨ (if c then Int32.ofInt 1 else Int32.ofInt 0) = Int32.ofInt 1) ↔ True := by
  by_cases hc : c <;> simp [hc]
theorem z_10 : ¬ (Int32.ofInt 1 = Int32.ofInt 0) := by decide
theorem z_01 : ¬ (Int32.ofInt 0 = Int32.ofInt 1) := by decide
end
section
theorem tt_below {d : Nat} {a b : Int32} {w : PW} : ex_cal (d + 1) 130 [.int a, .int b] w = some (some (.int (if 0 ≤ a ∧ a < b then 1 else 0)), w) := by
  rw [ke_130 ]
  simp only [ev_iload, ev_aload, ev_lload, ev_istore, ev_astore, ev_lstore, ev_iinc, ev_push, ev_lpush, ev_iadd, ev_isub, ev_imul, ev_iand, ev_ior, ev_ixor, ev_ishl, ev_ishr, ev_idiv, ev_irem, ev_ladd, ev_lmul, ev_land, ev_lshr, ev_lushr, ev_i2l, ev_l2i, ev_i2b, ev_dup_r, ev_dup_i, ev_dup2, ev_pop, ev_goto, ev_jsr, ev_icmp_eq, ev_icmp_ne, ev_icmp_lt, ev_icmp_ge, ev_icmp_gt, ev_icmp_le, ev_if_eq, ev_if_ne, ev_if_lt, ev_if_ge, ev_if_gt, ev_if_le, ev_tswitch, ev_lswitch, ev_getf, ev_putf, ev_putl, ev_gets, ev_iald, ev_bald, ev_iast, ev_bast, ev_alen, ev_call, ev_callv, ev_calli, ev_native, ev_iret, ev_zret, ev_lret, ev_vret, kb_130_0, kb_130_13, kb_130_14, kr_130, List.getD_cons_zero, List.getD_cons_succ, List.set_cons_zero, List.set_cons_succ, ex_spl, ex_low, Option.toList, List.cons_append, List.nil_append, if_pos, reduceIte, Int.reduceToNat, Nat.reduceDiv, Nat.reduceMod, Nat.reduceAdd, Nat.reduceMul, z_0, z_1, reduceCtorEq, ite_true, ite_false, true_and, and_true]
  trace_state
  sorry
theorem tt_kindOf {d : Nat} {a : Int32} {w : PW} : ex_cal (d + 1) 22 [.ref 5, .int a] w = some (some (.int (if 0 ≤ a ∧ a < w.1 5 11 then w.1 6 a.toNatClampNeg else 1)), w) := by
  rw [ke_22 kc_5]
  simp only [ev_iload, ev_aload, ev_lload, ev_istore, ev_astore, ev_lstore, ev_iinc, ev_push, ev_lpush, ev_iadd, ev_isub, ev_imul, ev_iand, ev_ior, ev_ixor, ev_ishl, ev_ishr, ev_idiv, ev_irem, ev_ladd, ev_lmul, ev_land, ev_lshr, ev_lushr, ev_i2l, ev_l2i, ev_i2b, ev_dup_r, ev_dup_i, ev_dup2, ev_pop, ev_goto, ev_jsr, ev_icmp_eq, ev_icmp_ne, ev_icmp_lt, ev_icmp_ge, ev_icmp_gt, ev_icmp_le, ev_if_eq, ev_if_ne, ev_if_lt, ev_if_ge, ev_if_gt, ev_if_le, ev_tswitch, ev_lswitch, ev_getf, ev_putf, ev_putl, ev_gets, ev_iald, ev_bald, ev_iast, ev_bast, ev_alen, ev_call, ev_callv, ev_calli, ev_native, ev_iret, ev_zret, ev_lret, ev_vret, kb_22_0, kb_22_27, kb_22_28, kr_22, kf_5_75, kf_5_64, ka_6, List.getD_cons_zero, List.getD_cons_succ, List.set_cons_zero, List.set_cons_succ, ex_spl, ex_low, Option.toList, List.cons_append, List.nil_append, if_pos, reduceIte, Int.reduceToNat, Nat.reduceDiv, Nat.reduceMod, Nat.reduceAdd, Nat.reduceMul, z_0, z_1, reduceCtorEq, ite_true, ite_false, true_and, and_true]
  trace_state
  sorry
end
