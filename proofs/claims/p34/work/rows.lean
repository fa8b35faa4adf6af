section
-- ===== PART A: goes FIRST, ahead of the names: the tables' words, and 'selects' of the private methods out of them =====
/-- a private method of a class that the tables say can be made, by its rows of tables_1 -/
def lw_okq (q : MethodName × Nat) : Prop := (q.1.cls ≠ "java/lang/invoke/MethodHandle" ∧ q.1.cls ≠ "java/lang/invoke/VarHandle") ∧ Cond.instantiable q.1.cls q.2 ∈ tables_1 ∧ Cond.privateMethod q.1 ∈ tables_1 ∧ Cond.instanceMethod q.1 ∈ tables_1
theorem lw_p0 : lw_okq (⟨"BorderThroughBed", "cellTold", "(II)I"⟩, 12) := ⟨⟨by decide +kernel, by decide +kernel⟩, List.mem_of_getElem? (i := 13) (by decide +kernel), List.mem_of_getElem? (i := 300) (by decide +kernel), List.mem_of_getElem? (i := 301) (by decide +kernel)⟩
theorem lw_p1 : lw_okq (⟨"BorderThroughBed$Laws", "holds", "(II)Z"⟩, 1) := ⟨⟨by decide +kernel, by decide +kernel⟩, List.mem_of_getElem? (i := 134) (by decide +kernel), List.mem_of_getElem? (i := 366) (by decide +kernel), List.mem_of_getElem? (i := 367) (by decide +kernel)⟩
theorem lw_p2 : lw_okq (⟨"BorderThroughBed$Laws", "counts", "(LBorderThroughBed$House;IIII)Z"⟩, 1) := ⟨⟨by decide +kernel, by decide +kernel⟩, List.mem_of_getElem? (i := 134) (by decide +kernel), List.mem_of_getElem? (i := 370) (by decide +kernel), List.mem_of_getElem? (i := 371) (by decide +kernel)⟩
theorem lw_p3 : lw_okq (⟨"BorderThroughBed", "firstAgainst", "()I"⟩, 12) := ⟨⟨by decide +kernel, by decide +kernel⟩, List.mem_of_getElem? (i := 13) (by decide +kernel), List.mem_of_getElem? (i := 402) (by decide +kernel), List.mem_of_getElem? (i := 403) (by decide +kernel)⟩
theorem lw_p4 : lw_okq (⟨"BorderThroughBed", "eventBroken", "(II)I"⟩, 12) := ⟨⟨by decide +kernel, by decide +kernel⟩, List.mem_of_getElem? (i := 13) (by decide +kernel), List.mem_of_getElem? (i := 408) (by decide +kernel), List.mem_of_getElem? (i := 409) (by decide +kernel)⟩
theorem lw_p5 : lw_okq (⟨"BorderThroughBed", "mapOf", "(IIII)I"⟩, 12) := ⟨⟨by decide +kernel, by decide +kernel⟩, List.mem_of_getElem? (i := 13) (by decide +kernel), List.mem_of_getElem? (i := 427) (by decide +kernel), List.mem_of_getElem? (i := 428) (by decide +kernel)⟩
theorem lw_p6 : lw_okq (⟨"BorderThroughBed", "fitting", "()I"⟩, 12) := ⟨⟨by decide +kernel, by decide +kernel⟩, List.mem_of_getElem? (i := 13) (by decide +kernel), List.mem_of_getElem? (i := 443) (by decide +kernel), List.mem_of_getElem? (i := 444) (by decide +kernel)⟩
theorem lw_p7 : lw_okq (⟨"BorderThroughBed", "allJudgedSo", "(I)Z"⟩, 12) := ⟨⟨by decide +kernel, by decide +kernel⟩, List.mem_of_getElem? (i := 13) (by decide +kernel), List.mem_of_getElem? (i := 447) (by decide +kernel), List.mem_of_getElem? (i := 448) (by decide +kernel)⟩
theorem lw_p8 : lw_okq (⟨"BorderThroughBed$HouseText", "takesLine", "()Z"⟩, 4) := ⟨⟨by decide +kernel, by decide +kernel⟩, List.mem_of_getElem? (i := 35) (by decide +kernel), List.mem_of_getElem? (i := 515) (by decide +kernel), List.mem_of_getElem? (i := 516) (by decide +kernel)⟩
theorem lw_p9 : lw_okq (⟨"BorderThroughBed$HouseText", "takesRowEnd", "()Z"⟩, 4) := ⟨⟨by decide +kernel, by decide +kernel⟩, List.mem_of_getElem? (i := 35) (by decide +kernel), List.mem_of_getElem? (i := 519) (by decide +kernel), List.mem_of_getElem? (i := 520) (by decide +kernel)⟩
theorem lw_p10 : lw_okq (⟨"BorderThroughBed$HouseText", "isRowWhole", "()Z"⟩, 4) := ⟨⟨by decide +kernel, by decide +kernel⟩, List.mem_of_getElem? (i := 35) (by decide +kernel), List.mem_of_getElem? (i := 523) (by decide +kernel), List.mem_of_getElem? (i := 524) (by decide +kernel)⟩
theorem lw_p11 : lw_okq (⟨"BorderThroughBed$HouseText", "takesCell", "()Z"⟩, 4) := ⟨⟨by decide +kernel, by decide +kernel⟩, List.mem_of_getElem? (i := 35) (by decide +kernel), List.mem_of_getElem? (i := 527) (by decide +kernel), List.mem_of_getElem? (i := 528) (by decide +kernel)⟩
theorem lw_p12 : lw_okq (⟨"BorderThroughBed$LawText", "takesSide", "(I)Z"⟩, 7) := ⟨⟨by decide +kernel, by decide +kernel⟩, List.mem_of_getElem? (i := 57) (by decide +kernel), List.mem_of_getElem? (i := 534) (by decide +kernel), List.mem_of_getElem? (i := 535) (by decide +kernel)⟩
theorem lw_p13 : lw_okq (⟨"BorderThroughBed$LawText", "takesAct", "(I)Z"⟩, 7) := ⟨⟨by decide +kernel, by decide +kernel⟩, List.mem_of_getElem? (i := 57) (by decide +kernel), List.mem_of_getElem? (i := 538) (by decide +kernel), List.mem_of_getElem? (i := 539) (by decide +kernel)⟩
theorem lw_p14 : lw_okq (⟨"BorderThroughBed$LawText", "takesFrom", "(I)Z"⟩, 7) := ⟨⟨by decide +kernel, by decide +kernel⟩, List.mem_of_getElem? (i := 57) (by decide +kernel), List.mem_of_getElem? (i := 542) (by decide +kernel), List.mem_of_getElem? (i := 543) (by decide +kernel)⟩
theorem lw_p15 : lw_okq (⟨"BorderThroughBed$LawText", "hourWith", "(II)I"⟩, 7) := ⟨⟨by decide +kernel, by decide +kernel⟩, List.mem_of_getElem? (i := 57) (by decide +kernel), List.mem_of_getElem? (i := 546) (by decide +kernel), List.mem_of_getElem? (i := 547) (by decide +kernel)⟩
def lw_privs_1 : List (MethodName × Nat) := [(⟨"BorderThroughBed", "cellTold", "(II)I"⟩, 12), (⟨"BorderThroughBed$Laws", "holds", "(II)Z"⟩, 1), (⟨"BorderThroughBed$Laws", "counts", "(LBorderThroughBed$House;IIII)Z"⟩, 1), (⟨"BorderThroughBed", "firstAgainst", "()I"⟩, 12), (⟨"BorderThroughBed", "eventBroken", "(II)I"⟩, 12), (⟨"BorderThroughBed", "mapOf", "(IIII)I"⟩, 12), (⟨"BorderThroughBed", "fitting", "()I"⟩, 12), (⟨"BorderThroughBed", "allJudgedSo", "(I)Z"⟩, 12), (⟨"BorderThroughBed$HouseText", "takesLine", "()Z"⟩, 4), (⟨"BorderThroughBed$HouseText", "takesRowEnd", "()Z"⟩, 4), (⟨"BorderThroughBed$HouseText", "isRowWhole", "()Z"⟩, 4), (⟨"BorderThroughBed$HouseText", "takesCell", "()Z"⟩, 4), (⟨"BorderThroughBed$LawText", "takesSide", "(I)Z"⟩, 7), (⟨"BorderThroughBed$LawText", "takesAct", "(I)Z"⟩, 7), (⟨"BorderThroughBed$LawText", "takesFrom", "(I)Z"⟩, 7), (⟨"BorderThroughBed$LawText", "hourWith", "(II)I"⟩, 7)]
theorem lw_r1 : ∀ q ∈ lw_privs_1, lw_okq q := List.forall_mem_cons.mpr ⟨lw_p0, List.forall_mem_cons.mpr ⟨lw_p1, List.forall_mem_cons.mpr ⟨lw_p2, List.forall_mem_cons.mpr ⟨lw_p3, List.forall_mem_cons.mpr ⟨lw_p4, List.forall_mem_cons.mpr ⟨lw_p5, List.forall_mem_cons.mpr ⟨lw_p6, List.forall_mem_cons.mpr ⟨lw_p7, List.forall_mem_cons.mpr ⟨lw_p8, List.forall_mem_cons.mpr ⟨lw_p9, List.forall_mem_cons.mpr ⟨lw_p10, List.forall_mem_cons.mpr ⟨lw_p11, List.forall_mem_cons.mpr ⟨lw_p12, List.forall_mem_cons.mpr ⟨lw_p13, List.forall_mem_cons.mpr ⟨lw_p14, List.forall_mem_cons.mpr ⟨lw_p15, fun _ h => absurd h List.not_mem_nil⟩⟩⟩⟩⟩⟩⟩⟩⟩⟩⟩⟩⟩⟩⟩⟩
theorem lw_p16 : lw_okq (⟨"BorderThroughBed$LawText", "takesTo", "(I)Z"⟩, 7) := ⟨⟨by decide +kernel, by decide +kernel⟩, List.mem_of_getElem? (i := 57) (by decide +kernel), List.mem_of_getElem? (i := 550) (by decide +kernel), List.mem_of_getElem? (i := 551) (by decide +kernel)⟩
theorem lw_p17 : lw_okq (⟨"BorderThroughBed$House", "setLine", "(II)V"⟩, 14) := ⟨⟨by decide +kernel, by decide +kernel⟩, List.mem_of_getElem? (i := 85) (by decide +kernel), List.mem_of_getElem? (i := 586) (by decide +kernel), List.mem_of_getElem? (i := 587) (by decide +kernel)⟩
theorem lw_p18 : lw_okq (⟨"BorderThroughBed$House", "addCell", "(III)V"⟩, 14) := ⟨⟨by decide +kernel, by decide +kernel⟩, List.mem_of_getElem? (i := 85) (by decide +kernel), List.mem_of_getElem? (i := 590) (by decide +kernel), List.mem_of_getElem? (i := 591) (by decide +kernel)⟩
theorem lw_p19 : lw_okq (⟨"BorderThroughBed$House", "joinCells", "()V"⟩, 14) := ⟨⟨by decide +kernel, by decide +kernel⟩, List.mem_of_getElem? (i := 85) (by decide +kernel), List.mem_of_getElem? (i := 594) (by decide +kernel), List.mem_of_getElem? (i := 595) (by decide +kernel)⟩
theorem lw_p20 : lw_okq (⟨"BorderThroughBed$House", "joinPlace", "(III)V"⟩, 14) := ⟨⟨by decide +kernel, by decide +kernel⟩, List.mem_of_getElem? (i := 85) (by decide +kernel), List.mem_of_getElem? (i := 598) (by decide +kernel), List.mem_of_getElem? (i := 599) (by decide +kernel)⟩
theorem lw_p21 : lw_okq (⟨"BorderThroughBed$House", "cellAt", "(II)I"⟩, 14) := ⟨⟨by decide +kernel, by decide +kernel⟩, List.mem_of_getElem? (i := 85) (by decide +kernel), List.mem_of_getElem? (i := 606) (by decide +kernel), List.mem_of_getElem? (i := 607) (by decide +kernel)⟩
theorem lw_p22 : lw_okq (⟨"BorderThroughBed$House", "findDoors", "()V"⟩, 14) := ⟨⟨by decide +kernel, by decide +kernel⟩, List.mem_of_getElem? (i := 85) (by decide +kernel), List.mem_of_getElem? (i := 615) (by decide +kernel), List.mem_of_getElem? (i := 616) (by decide +kernel)⟩
theorem lw_p23 : lw_okq (⟨"BorderThroughBed$House", "findWhereNearest", "(I)V"⟩, 14) := ⟨⟨by decide +kernel, by decide +kernel⟩, List.mem_of_getElem? (i := 85) (by decide +kernel), List.mem_of_getElem? (i := 620) (by decide +kernel), List.mem_of_getElem? (i := 621) (by decide +kernel)⟩
theorem lw_p24 : lw_okq (⟨"BorderThroughBed$House", "measure", "(III)V"⟩, 14) := ⟨⟨by decide +kernel, by decide +kernel⟩, List.mem_of_getElem? (i := 85) (by decide +kernel), List.mem_of_getElem? (i := 624) (by decide +kernel), List.mem_of_getElem? (i := 625) (by decide +kernel)⟩
theorem lw_p25 : lw_okq (⟨"BorderThroughBed$House", "goOn", "(II)Z"⟩, 14) := ⟨⟨by decide +kernel, by decide +kernel⟩, List.mem_of_getElem? (i := 85) (by decide +kernel), List.mem_of_getElem? (i := 628) (by decide +kernel), List.mem_of_getElem? (i := 629) (by decide +kernel)⟩
def lw_privs_2 : List (MethodName × Nat) := [(⟨"BorderThroughBed$LawText", "takesTo", "(I)Z"⟩, 7), (⟨"BorderThroughBed$House", "setLine", "(II)V"⟩, 14), (⟨"BorderThroughBed$House", "addCell", "(III)V"⟩, 14), (⟨"BorderThroughBed$House", "joinCells", "()V"⟩, 14), (⟨"BorderThroughBed$House", "joinPlace", "(III)V"⟩, 14), (⟨"BorderThroughBed$House", "cellAt", "(II)I"⟩, 14), (⟨"BorderThroughBed$House", "findDoors", "()V"⟩, 14), (⟨"BorderThroughBed$House", "findWhereNearest", "(I)V"⟩, 14), (⟨"BorderThroughBed$House", "measure", "(III)V"⟩, 14), (⟨"BorderThroughBed$House", "goOn", "(II)Z"⟩, 14)]
theorem lw_r2 : ∀ q ∈ lw_privs_2, lw_okq q := List.forall_mem_cons.mpr ⟨lw_p16, List.forall_mem_cons.mpr ⟨lw_p17, List.forall_mem_cons.mpr ⟨lw_p18, List.forall_mem_cons.mpr ⟨lw_p19, List.forall_mem_cons.mpr ⟨lw_p20, List.forall_mem_cons.mpr ⟨lw_p21, List.forall_mem_cons.mpr ⟨lw_p22, List.forall_mem_cons.mpr ⟨lw_p23, List.forall_mem_cons.mpr ⟨lw_p24, List.forall_mem_cons.mpr ⟨lw_p25, fun _ h => absurd h List.not_mem_nil⟩⟩⟩⟩⟩⟩⟩⟩⟩⟩
def lw_privs : List (MethodName × Nat) := lw_privs_1 ++ (lw_privs_2)
def lw_tbl : List Cond := k2_sels lw_privs ++ tables_1
theorem lw_privs_ok : ∀ q ∈ lw_privs, lw_okq q := by
  show ∀ q ∈ lw_privs_1 ++ (lw_privs_2), lw_okq q
  exact List.forall_mem_append.mpr ⟨lw_r1, lw_r2⟩
-- ===== end of PART A; then your names; then what follows =====
end
section
/-! TABLES of the pure machine, printed by wip/whole/gen2.py out of the claim's own listing: classes, objects, methods, blocks, pools -/
def ex_R : List String := ["BorderThroughBed$Day", "BorderThroughBed$House", "BorderThroughBed$HouseText", "BorderThroughBed$Keeping", "BorderThroughBed$LawText", "BorderThroughBed$Laws", "BorderThroughBed$Mover", "BorderThroughBed$Page", "BorderThroughBed$Table", "BorderThroughBed$Text", "BorderThroughBed", "BorderThroughBedLaw"]
def ex_Rn (c : Nat) : String := ex_R.getD c ""
def ex_T0 : u_T := fun k => match k with
  | 0 => ("BorderThroughBed$Day", "things", "LBorderThroughBed$Table;", true)
  | 1 => ("BorderThroughBed$Day", "events", "LBorderThroughBed$Table;", true)
  | 2 => ("BorderThroughBed$Day", "habits", "LBorderThroughBed$Table;", true)
  | _ => ("BorderThroughBed$Day", "judgments", "LBorderThroughBed$Table;", true)
def ex_ty0 : Nat → FieldType := fun k => match k with
  | 0 => .object "BorderThroughBed$Table"
  | 1 => .object "BorderThroughBed$Table"
  | 2 => .object "BorderThroughBed$Table"
  | _ => .object "BorderThroughBed$Table"
def ex_T1 : u_T := fun k => match k with
  | 0 => ("BorderThroughBed$House", "kinds", "[I", true)
  | 1 => ("BorderThroughBed$House", "rowOf", "[I", true)
  | 2 => ("BorderThroughBed$House", "columnOf", "[I", true)
  | 3 => ("BorderThroughBed$House", "lines", "[I", true)
  | 4 => ("BorderThroughBed$House", "beside", "[I", true)
  | 5 => ("BorderThroughBed$House", "ahead", "[I", true)
  | 6 => ("BorderThroughBed$House", "bedSpots", "[I", true)
  | 7 => ("BorderThroughBed$House", "otherSpots", "[I", true)
  | 8 => ("BorderThroughBed$House", "doors", "[I", true)
  | 9 => ("BorderThroughBed$House", "doorSteps", "[I", true)
  | 10 => ("BorderThroughBed$House", "costs", "[I", true)
  | 11 => ("BorderThroughBed$House", "cells", "I", false)
  | 12 => ("BorderThroughBed$House", "rows", "I", false)
  | _ => ("BorderThroughBed$House", "width", "I", false)
def ex_ty1 : Nat → FieldType := fun k => match k with
  | 0 => .array .int
  | 1 => .array .int
  | 2 => .array .int
  | 3 => .array .int
  | 4 => .array .int
  | 5 => .array .int
  | 6 => .array .int
  | 7 => .array .int
  | 8 => .array .int
  | 9 => .array .int
  | 10 => .array .int
  | 11 => .int
  | 12 => .int
  | _ => .int
def ex_T2 : u_T := fun k => match k with
  | 0 => ("BorderThroughBed$HouseText", "row", "I", false)
  | 1 => ("BorderThroughBed$HouseText", "width", "I", false)
  | 2 => ("BorderThroughBed$HouseText", "column", "I", false)
  | _ => ("BorderThroughBed$HouseText", "hasLine", "Z", false)
def ex_ty2 : Nat → FieldType := fun k => match k with
  | 0 => .int
  | 1 => .int
  | 2 => .int
  | _ => .boolean
def ex_T3 : u_T := fun k => match k with
  | 0 => ("BorderThroughBed$Keeping", "acts", "[I", true)
  | 1 => ("BorderThroughBed$Keeping", "good", "[I", true)
  | _ => ("BorderThroughBed$Keeping", "size", "I", false)
def ex_ty3 : Nat → FieldType := fun k => match k with
  | 0 => .array .int
  | 1 => .array .int
  | _ => .int
def ex_T4 : u_T := fun k => match k with
  | 0 => ("BorderThroughBed$LawText", "side", "I", false)
  | 1 => ("BorderThroughBed$LawText", "act", "I", false)
  | 2 => ("BorderThroughBed$LawText", "from", "I", false)
  | 3 => ("BorderThroughBed$LawText", "to", "I", false)
  | 4 => ("BorderThroughBed$LawText", "kind", "I", false)
  | 5 => ("BorderThroughBed$LawText", "stage", "I", false)
  | _ => ("BorderThroughBed$LawText", "digits", "I", false)
def ex_ty4 : Nat → FieldType := fun k => match k with
  | 0 => .int
  | 1 => .int
  | 2 => .int
  | 3 => .int
  | 4 => .int
  | 5 => .int
  | _ => .int
def ex_T5 : u_T := fun k => match k with
  | _ => ("BorderThroughBed$Laws", "laws", "LBorderThroughBed$Table;", true)
def ex_ty5 : Nat → FieldType := fun k => match k with
  | _ => .object "BorderThroughBed$Table"
def ex_T6 : u_T := fun k => match k with
  | 0 => ("BorderThroughBed$Mover", "kinds", "[I", true)
  | 1 => ("BorderThroughBed$Mover", "places", "[I", true)
  | 2 => ("BorderThroughBed$Mover", "spots", "[I", true)
  | 3 => ("BorderThroughBed$Mover", "answer", "[I", true)
  | 4 => ("BorderThroughBed$Mover", "size", "I", false)
  | _ => ("BorderThroughBed$Mover", "hardest", "I", false)
def ex_ty6 : Nat → FieldType := fun k => match k with
  | 0 => .array .int
  | 1 => .array .int
  | 2 => .array .int
  | 3 => .array .int
  | 4 => .int
  | _ => .int
def ex_T7 : u_T := fun k => match k with
  | 0 => ("BorderThroughBed$Page", "codes", "[I", true)
  | _ => ("BorderThroughBed$Page", "size", "I", false)
def ex_ty7 : Nat → FieldType := fun k => match k with
  | 0 => .array .int
  | _ => .int
def ex_T8 : u_T := fun k => match k with
  | 0 => ("BorderThroughBed$Table", "numbers", "[I", true)
  | 1 => ("BorderThroughBed$Table", "most", "I", true)
  | _ => ("BorderThroughBed$Table", "size", "I", false)
def ex_ty8 : Nat → FieldType := fun k => match k with
  | 0 => .array .int
  | 1 => .int
  | _ => .int
def ex_T9 : u_T := fun k => match k with
  | _ => ("", "", "", false)
def ex_ty9 : Nat → FieldType := fun k => match k with
  | _ => .object ""
def ex_T10 : u_T := fun k => match k with
  | 0 => ("BorderThroughBed", "page", "LBorderThroughBed$Page;", true)
  | 1 => ("BorderThroughBed", "houseText", "LBorderThroughBed$HouseText;", true)
  | 2 => ("BorderThroughBed", "lawText", "LBorderThroughBed$LawText;", true)
  | 3 => ("BorderThroughBed", "house", "LBorderThroughBed$House;", true)
  | 4 => ("BorderThroughBed", "laws", "LBorderThroughBed$Laws;", true)
  | 5 => ("BorderThroughBed", "now", "LBorderThroughBed$Day;", true)
  | 6 => ("BorderThroughBed", "imageDay", "LBorderThroughBed$Day;", true)
  | 7 => ("BorderThroughBed", "keeping", "LBorderThroughBed$Keeping;", true)
  | 8 => ("BorderThroughBed", "mover", "LBorderThroughBed$Mover;", true)
  | 9 => ("BorderThroughBed", "imageIsKept", "Z", false)
  | 10 => ("BorderThroughBed", "housesRead", "I", false)
  | _ => ("BorderThroughBed", "movesDone", "I", false)
def ex_ty10 : Nat → FieldType := fun k => match k with
  | 0 => .object "BorderThroughBed$Page"
  | 1 => .object "BorderThroughBed$HouseText"
  | 2 => .object "BorderThroughBed$LawText"
  | 3 => .object "BorderThroughBed$House"
  | 4 => .object "BorderThroughBed$Laws"
  | 5 => .object "BorderThroughBed$Day"
  | 6 => .object "BorderThroughBed$Day"
  | 7 => .object "BorderThroughBed$Keeping"
  | 8 => .object "BorderThroughBed$Mover"
  | 9 => .boolean
  | 10 => .int
  | _ => .int
def ex_T11 : u_T := fun k => match k with
  | _ => ("", "", "", false)
def ex_ty11 : Nat → FieldType := fun k => match k with
  | _ => .int
def ex_T (c : Nat) : u_T := match c with
  | 0 => ex_T0
  | 1 => ex_T1
  | 2 => ex_T2
  | 3 => ex_T3
  | 4 => ex_T4
  | 5 => ex_T5
  | 6 => ex_T6
  | 7 => ex_T7
  | 8 => ex_T8
  | 9 => ex_T9
  | 10 => ex_T10
  | _ => ex_T11
def ex_ty (c : Nat) : Nat → FieldType := match c with
  | 0 => ex_ty0
  | 1 => ex_ty1
  | 2 => ex_ty2
  | 3 => ex_ty3
  | 4 => ex_ty4
  | 5 => ex_ty5
  | 6 => ex_ty6
  | 7 => ex_ty7
  | 8 => ex_ty8
  | 9 => ex_ty9
  | 10 => ex_ty10
  | _ => ex_ty11
def ex_N (c : Nat) : Nat := ([4, 14, 4, 3, 7, 1, 6, 2, 3, 0, 12, 0] : List Nat).getD c 0
def ex_cl : List vw_C := [("BorderThroughBed$Day", ex_T0, 4), ("BorderThroughBed$House", ex_T1, 14), ("BorderThroughBed$HouseText", ex_T2, 4), ("BorderThroughBed$Keeping", ex_T3, 3), ("BorderThroughBed$LawText", ex_T4, 7), ("BorderThroughBed$Laws", ex_T5, 1), ("BorderThroughBed$Mover", ex_T6, 6), ("BorderThroughBed$Page", ex_T7, 2), ("BorderThroughBed$Table", ex_T8, 3), ("BorderThroughBed$Text", ex_T9, 0), ("BorderThroughBed", ex_T10, 12), ("BorderThroughBedLaw", ex_T11, 0)]
def ex_Sh : List (Nat × List Nat) := [(10, [4, 6, 7, 8, 20, 23, 32, 41, 44, 2, 0, 0]), (7, [5, 0]), (12, [40]), (2, [0, 0, 0, 2]), (4, [0, 0, 0, 0, 0, 0, 0]), (1, [9, 10, 11, 12, 13, 14, 15, 16, 17, 18, 19, 0, 0, 0]), (12, [24]), (12, [24]), (12, [24]), (12, [4]), (12, [96]), (12, [96]), (12, [96]), (12, [96]), (12, [24]), (12, [24]), (12, [24]), (5, [21]), (8, [22, 0, 0]), (12, [60]), (0, [24, 26, 28, 30]), (8, [25, 0, 0]), (12, [60]), (8, [27, 0, 0]), (12, [60]), (8, [29, 0, 0]), (12, [60]), (8, [31, 0, 0]), (12, [60]), (0, [33, 35, 37, 39]), (8, [34, 0, 0]), (12, [60]), (8, [36, 0, 0]), (12, [60]), (8, [2538, 0, 0]), (99, []), (8, [2540, 0, 0]), (99, []), (3, [42, 43, 0]), (12, [6]), (12, [144]), (6, [2545, 46, 47, 48, 0, 0]), (99, []), (12, [3]), (12, [3]), (12, [5]), (12, [6]), (12, [24]), (12, [24]), (12, [40]), (12, [60]), (12, [24]), (12, [3])]
abbrev ex_NO : Nat := 53
def ex_M0 : List (MethodName × ByteArray × Nat × Option FieldType × Nat) := [(⟨"BorderThroughBed$Day", "clear", "()V"⟩, prog_2_method_2_code, 1, none, 0),
  (⟨"BorderThroughBed$Day", "kindOf", "(I)I"⟩, prog_2_method_5_code, 2, some .int, 0),
  (⟨"BorderThroughBed$Day", "cellOf", "(I)I"⟩, prog_2_method_6_code, 2, some .int, 0),
  (⟨"BorderThroughBed$Day", "wayOf", "(I)I"⟩, prog_2_method_7_code, 2, some .int, 0),
  (⟨"BorderThroughBed$Day", "placeOf", "(I)I"⟩, prog_2_method_8_code, 2, some .int, 0),
  (⟨"BorderThroughBed$Day", "thingAt", "(LBorderThroughBed$House;I)I"⟩, prog_2_method_12_code, 4, some .int, 0),
  (⟨"BorderThroughBed$House", "read", "(LBorderThroughBed$Page;)V"⟩, prog_3_method_2_code, 6, none, 1),
  (⟨"BorderThroughBed$House", "setLine", "(II)V"⟩, prog_3_method_3_code, 3, none, 1),
  (⟨"BorderThroughBed$House", "addCell", "(III)V"⟩, prog_3_method_4_code, 4, none, 1),
  (⟨"BorderThroughBed$House", "joinCells", "()V"⟩, prog_3_method_5_code, 2, none, 1),
  (⟨"BorderThroughBed$House", "joinPlace", "(III)V"⟩, prog_3_method_6_code, 5, none, 1),
  (⟨"BorderThroughBed$House", "cellAt", "(II)I"⟩, prog_3_method_7_code, 3, some .int, 1),
  (⟨"BorderThroughBed$House", "findDoors", "()V"⟩, prog_3_method_8_code, 2, none, 1),
  (⟨"BorderThroughBed$House", "findWhereNearest", "(I)V"⟩, prog_3_method_9_code, 3, none, 1),
  (⟨"BorderThroughBed$House", "isThere", "()Z"⟩, prog_3_method_10_code, 1, some .boolean, 1),
  (⟨"BorderThroughBed$House", "cells", "()I"⟩, prog_3_method_11_code, 1, some .int, 1),
  (⟨"BorderThroughBed$House", "has", "(I)Z"⟩, prog_3_method_12_code, 2, some .boolean, 1),
  (⟨"BorderThroughBed$House", "kindOf", "(I)I"⟩, prog_3_method_13_code, 2, some .int, 1),
  (⟨"BorderThroughBed$House", "isOpen", "(I)Z"⟩, prog_3_method_14_code, 2, some .boolean, 1),
  (⟨"BorderThroughBed$House", "isFloor", "(I)Z"⟩, prog_3_method_15_code, 2, some .boolean, 1),
  (⟨"BorderThroughBed$House", "sideOf", "(II)I"⟩, prog_3_method_16_code, 3, some .int, 1),
  (⟨"BorderThroughBed$House", "next", "(II)I"⟩, prog_3_method_17_code, 4, some .int, 1),
  (⟨"BorderThroughBed$House", "partAt", "(III)I"⟩, prog_3_method_18_code, 5, some .int, 1),
  (⟨"BorderThroughBed$House", "doorOf", "(I)I"⟩, prog_3_method_19_code, 2, some .int, 1),
  (⟨"BorderThroughBed$House", "doorOrOwn", "(I)I"⟩, prog_3_method_20_code, 3, some .int, 1),
  (⟨"BorderThroughBed$House", "spot", "(II)I"⟩, prog_3_method_21_code, 3, some .int, 1),
  (⟨"BorderThroughBed$House", "measure", "(III)V"⟩, prog_3_method_23_code, 8, none, 1),
  (⟨"BorderThroughBed$House", "goOn", "(II)Z"⟩, prog_3_method_24_code, 7, some .boolean, 1),
  (⟨"BorderThroughBed$HouseText", "begin", "()V"⟩, prog_4_method_2_code, 1, none, 2),
  (⟨"BorderThroughBed$HouseText", "takes", "(I)Z"⟩, prog_4_method_3_code, 2, some .boolean, 2),
  (⟨"BorderThroughBed$HouseText", "takesLine", "()Z"⟩, prog_4_method_4_code, 1, some .boolean, 2),
  (⟨"BorderThroughBed$HouseText", "takesRowEnd", "()Z"⟩, prog_4_method_5_code, 1, some .boolean, 2),
  (⟨"BorderThroughBed$HouseText", "takesCell", "()Z"⟩, prog_4_method_6_code, 1, some .boolean, 2),
  (⟨"BorderThroughBed$HouseText", "isRowWhole", "()Z"⟩, prog_4_method_7_code, 1, some .boolean, 2),
  (⟨"BorderThroughBed$HouseText", "isWhole", "()Z"⟩, prog_4_method_8_code, 1, some .boolean, 2),
  (⟨"BorderThroughBed$LawText", "begin", "()V"⟩, prog_6_method_2_code, 1, none, 4),
  (⟨"BorderThroughBed$LawText", "takes", "(I)Z"⟩, prog_6_method_3_code, 2, some .boolean, 4),
  (⟨"BorderThroughBed$LawText", "takesSide", "(I)Z"⟩, prog_6_method_4_code, 2, some .boolean, 4),
  (⟨"BorderThroughBed$LawText", "takesAct", "(I)Z"⟩, prog_6_method_5_code, 2, some .boolean, 4),
  (⟨"BorderThroughBed$LawText", "takesFrom", "(I)Z"⟩, prog_6_method_6_code, 3, some .boolean, 4),
  (⟨"BorderThroughBed$LawText", "takesTo", "(I)Z"⟩, prog_6_method_7_code, 3, some .boolean, 4),
  (⟨"BorderThroughBed$LawText", "hourWith", "(II)I"⟩, prog_6_method_8_code, 4, some .int, 4),
  (⟨"BorderThroughBed$LawText", "kindTold", "(I)I"⟩, prog_6_method_9_code, 1, some .int, 4),
  (⟨"BorderThroughBed$LawText", "isWhole", "()Z"⟩, prog_6_method_10_code, 1, some .boolean, 4),
  (⟨"BorderThroughBed$LawText", "number", "(I)I"⟩, prog_6_method_11_code, 2, some .int, 4),
  (⟨"BorderThroughBed$Laws", "isOfKind", "(II)Z"⟩, prog_7_method_2_code, 2, some .boolean, 5),
  (⟨"BorderThroughBed$Laws", "size", "()I"⟩, prog_7_method_3_code, 1, some .int, 5),
  (⟨"BorderThroughBed$Laws", "isFull", "()Z"⟩, prog_7_method_4_code, 1, some .boolean, 5),
  (⟨"BorderThroughBed$Laws", "add", "(LBorderThroughBed$LawText;)I"⟩, prog_7_method_5_code, 2, some .int, 5),
  (⟨"BorderThroughBed$Laws", "told", "(II)I"⟩, prog_7_method_6_code, 3, some .int, 5),
  (⟨"BorderThroughBed$Laws", "broken", "(LBorderThroughBed$House;IIIII)I"⟩, prog_7_method_7_code, 9, some .int, 5),
  (⟨"BorderThroughBed$Laws", "holds", "(II)Z"⟩, prog_7_method_8_code, 5, some .boolean, 5),
  (⟨"BorderThroughBed$Laws", "counts", "(LBorderThroughBed$House;IIII)Z"⟩, prog_7_method_9_code, 8, some .boolean, 5),
  (⟨"BorderThroughBed$Page", "lettersIn", "(J)I"⟩, prog_9_method_2_code, 6, some .int, 7),
  (⟨"BorderThroughBed$Page", "codeIn", "(JI)I"⟩, prog_9_method_3_code, 3, some .int, 7),
  (⟨"BorderThroughBed$Page", "append", "(JI)V"⟩, prog_9_method_4_code, 5, none, 7),
  (⟨"BorderThroughBed$Page", "size", "()I"⟩, prog_9_method_5_code, 1, some .int, 7),
  (⟨"BorderThroughBed$Page", "codeAt", "(I)I"⟩, prog_9_method_6_code, 2, some .int, 7),
  (⟨"BorderThroughBed$Page", "clear", "()V"⟩, prog_9_method_7_code, 1, none, 7),
  (⟨"BorderThroughBed$Table", "size", "()I"⟩, prog_10_method_2_code, 1, some .int, 8)]
def ex_M1 : List (MethodName × ByteArray × Nat × Option FieldType × Nat) := [(⟨"BorderThroughBed$Table", "isFull", "()Z"⟩, prog_10_method_3_code, 1, some .boolean, 8),
  (⟨"BorderThroughBed$Table", "add", "(IIIII)I"⟩, prog_10_method_4_code, 7, some .int, 8),
  (⟨"BorderThroughBed$Table", "get", "(II)I"⟩, prog_10_method_5_code, 4, some .int, 8),
  (⟨"BorderThroughBed$Table", "set", "(III)V"⟩, prog_10_method_6_code, 5, none, 8),
  (⟨"BorderThroughBed$Table", "clear", "()V"⟩, prog_10_method_7_code, 1, none, 8),
  (⟨"BorderThroughBed$Text", "taken", "(LBorderThroughBed$Page;)I"⟩, prog_11_method_5_code, 3, some .int, 9),
  (⟨"BorderThroughBed$Text", "isOn", "(LBorderThroughBed$Page;)Z"⟩, prog_11_method_6_code, 2, some .boolean, 9),
  (⟨"BorderThroughBed", "letters", "(J)I"⟩, prog_1_method_2_code, 4, some .int, 10),
  (⟨"BorderThroughBed", "fault", "(I)I"⟩, prog_1_method_4_code, 2, some .int, 10),
  (⟨"BorderThroughBed", "house", "()I"⟩, prog_1_method_5_code, 1, some .int, 10),
  (⟨"BorderThroughBed", "law", "()I"⟩, prog_1_method_6_code, 1, some .int, 10),
  (⟨"BorderThroughBed", "lawTold", "(II)I"⟩, prog_1_method_7_code, 3, some .int, 10),
  (⟨"BorderThroughBed", "asLaw", "(II)I"⟩, prog_1_method_8_code, 3, some .int, 10),
  (⟨"BorderThroughBed", "cell", "(II)I"⟩, prog_1_method_9_code, 3, some .int, 10),
  (⟨"BorderThroughBed", "part", "(IIII)I"⟩, prog_1_method_10_code, 5, some .int, 10),
  (⟨"BorderThroughBed", "against", "(IIIII)I"⟩, prog_1_method_11_code, 6, some .int, 10),
  (⟨"BorderThroughBed", "event", "(IIIII)I"⟩, prog_1_method_12_code, 6, some .int, 10),
  (⟨"BorderThroughBed", "first", "(I)I"⟩, prog_1_method_13_code, 3, some .int, 10),
  (⟨"BorderThroughBed", "map", "(IIII)I"⟩, prog_1_method_14_code, 7, some .int, 10),
  (⟨"BorderThroughBed", "drawn", "(I)I"⟩, prog_1_method_26_code, 4, some .int, 10),
  (⟨"BorderThroughBed", "judgment", "(II)I"⟩, prog_1_method_27_code, 3, some .int, 10),
  (⟨"BorderThroughBed", "fits", "()I"⟩, prog_1_method_28_code, 1, some .int, 10),
  (⟨"BorderThroughBed", "count", "(I)I"⟩, prog_1_method_31_code, 2, some .int, 10),
  (⟨"BorderThroughBed", "below", "(II)Z"⟩, prog_1_method_33_code, 2, some .boolean, 10),
  (⟨"BorderThroughBed", "isDoing", "(III)Z"⟩, prog_1_method_34_code, 3, some .boolean, 10),
  (⟨"BorderThroughBed", "leastBit", "(I)I"⟩, prog_1_method_35_code, 2, some .int, 10),
  (⟨"BorderThroughBed", "cellTold", "(II)I"⟩, prog_1_method_38_code, 3, some .int, 10),
  (⟨"BorderThroughBed", "eventBroken", "(II)I"⟩, prog_1_method_41_code, 5, some .int, 10),
  (⟨"BorderThroughBed", "firstAgainst", "()I"⟩, prog_1_method_42_code, 5, some .int, 10),
  (⟨"BorderThroughBed", "mapOf", "(IIII)I"⟩, prog_1_method_43_code, 7, some .int, 10),
  (⟨"BorderThroughBed", "fitting", "()I"⟩, prog_1_method_44_code, 3, some .int, 10),
  (⟨"BorderThroughBed", "allJudgedSo", "(I)Z"⟩, prog_1_method_45_code, 3, some .boolean, 10),
  (⟨"BorderThroughBedLaw", "cell", "([II)I"⟩, method_2_code, 2, some .int, 11),
  (⟨"BorderThroughBedLaw", "put", "(LBorderThroughBed;I)Z"⟩, method_3_code, 2, some .boolean, 11),
  (⟨"BorderThroughBedLaw", "number", "(LBorderThroughBed;I)Z"⟩, method_4_code, 2, some .boolean, 11),
  (⟨"BorderThroughBedLaw", "house", "(LBorderThroughBed;[II[I[I)Z"⟩, method_5_code, 10, some .boolean, 11),
  (⟨"BorderThroughBedLaw", "rule", "(LBorderThroughBed;II[I)Z"⟩, method_6_code, 6, some .boolean, 11),
  (⟨"BorderThroughBedLaw", "beside", "([III)I"⟩, method_7_code, 5, some .int, 11),
  (⟨"BorderThroughBedLaw", "ahead", "([I[III)I"⟩, method_8_code, 5, some .int, 11),
  (⟨"BorderThroughBedLaw", "side", "([III)I"⟩, method_9_code, 4, some .int, 11),
  (⟨"BorderThroughBedLaw", "costs", "([I[IIIII[I)V"⟩, method_10_code, 14, none, 11),
  (⟨"BorderThroughBedLaw", "door", "([I[II)I"⟩, method_11_code, 6, some .int, 11),
  (⟨"BorderThroughBedLaw", "doors", "([I[I[I)V"⟩, method_12_code, 5, none, 11),
  (⟨"BorderThroughBedLaw", "against", "([I[I[I[IIIIIIII)I"⟩, method_13_code, 24, some .int, 11),
  (⟨"BorderThroughBedLaw", "law", "([I)Z"⟩, code, 23, some .boolean, 11)]
def ex_M : List (MethodName × ByteArray × Nat × Option FieldType × Nat) := ex_M0 ++ ex_M1
def ex_cF : List (List (Nat × Nat)) := [[(14, 0), (20, 1), (23, 2), (26, 3)],
  [(9, 64), (15, 65), (18, 66), (21, 67), (24, 68), (27, 69), (30, 70), (33, 71), (36, 72), (39, 73), (42, 74), (45, 75), (67, 76), (70, 77)],
  [(9, 128), (15, 129), (18, 130), (21, 131)],
  [(9, 192), (15, 193)],
  [(9, 256), (15, 257), (18, 258), (21, 259), (24, 260), (27, 261), (30, 262)],
  [(14, 320)],
  [(9, 384), (15, 385), (18, 386), (21, 387)],
  [(11, 448), (19, 449)],
  [(11, 512), (15, 513), (19, 514)],
  [],
  [(10, 640), (19, 641), (26, 642), (33, 643), (40, 644), (47, 645), (51, 646), (57, 647), (64, 648), (101, 649), (105, 650), (151, 1), (187, 0), (205, 2), (220, 651), (262, 3)],
  []]
def ex_cS : List (List (Nat × Nat)) := [[],
  [(86, 1000), (89, 1001)],
  [],
  [],
  [],
  [],
  [],
  [],
  [],
  [],
  [],
  []]
def ex_cK : List (List (Nat × Int)) := [[],
  [(103, 1000000)],
  [],
  [],
  [],
  [],
  [],
  [],
  [],
  [],
  [],
  [(7, 2147483647), (24, 32768), (82, 65536)]]
def ex_cL : List (List (Nat × Int)) := [[],
  [],
  [],
  [],
  [],
  [],
  [],
  [],
  [],
  [],
  [],
  []]
def ex_cT : List (List (Nat × Nat)) := [[],
  [(79, 1330)],
  [],
  [],
  [(50, 673)],
  [],
  [],
  [(15, 866), (23, 1330)],
  [(30, 1330)],
  [],
  [(68, 849), (83, 1330), (126, 722), (143, 1347), (167, 1361)],
  [(14, 1490), (20, 1474), (36, 1506), (42, 1555), (46, 1587), (49, 1607), (53, 1619), (57, 1572), (62, 1525), (65, 1635), (72, 1540), (94, 1659)]]
def ex_cJ : List (List (Nat × Nat)) := [[],
  [],
  [],
  [],
  [],
  [],
  [],
  [],
  [],
  [],
  [],
  []]
def ex_cV : List (List (Nat × Nat)) := [[(29, 1024), (36, 994), (40, 33), (44, 49), (51, 17), (59, 944), (63, 65), (66, 402)],
  [(49, 896), (55, 913), (59, 114), (63, 131), (73, 144), (76, 192), (83, 163), (92, 178), (96, 289), (100, 305), (104, 209), (108, 419), (111, 273), (114, 369), (117, 434), (120, 338), (123, 322)],
  [(25, 480), (29, 496), (32, 512), (35, 528)],
  [],
  [(33, 593), (37, 609), (40, 625), (43, 641), (46, 658)],
  [(20, 944), (24, 960), (28, 705), (34, 981), (38, 994), (42, 818), (46, 837), (50, 322), (55, 355), (59, 385)],
  [],
  [],
  [(22, 960), (26, 1011)],
  [(12, 896), (18, 913)],
  [(72, 896), (76, 882), (80, 928), (96, 97), (100, 0), (109, 240), (113, 752), (117, 769), (121, 736), (122, 786), (129, 257), (133, 1378), (136, 289), (139, 355), (147, 806), (155, 960), (158, 981), (161, 1408), (164, 1394), (171, 224), (174, 1428), (190, 944), (250, 322), (265, 1440), (307, 273), (308, 82), (311, 369), (320, 994), (323, 1457)],
  [(8, 1073), (25, 1089), (29, 1313), (32, 1104), (39, 1120), (69, 1170), (76, 1138), (79, 1154), (83, 1188), (87, 1205), (91, 1221), (97, 1252), (100, 1233), (103, 1265), (106, 1282), (109, 1296)]]
def ex_cW : List (List (Nat × (Nat × Nat))) := [[],
  [],
  [],
  [],
  [],
  [],
  [],
  [],
  [],
  [(7, (1, 0)), (22, (2, 1)), (26, (5, 1)), (30, (6, 0))],
  [(87, (0, 1)), (91, (3, 1)), (92, (4, 1)), (112, (7, 1))],
  []]
/-- dispatch: the site, the class of the receiver, the method -/
def ex_D : List (List (Nat × Nat)) := [[(2, 65)], [(2, 28), (4, 35)], [(2, 29), (4, 36)], [(4, 65)], [(2, 66)], [(2, 65), (4, 65)], [(2, 34), (4, 43)], [(4, 66)]]
def ex_b0 : List (Nat × List Instr) := [(0, [.aload 0, .getfield 0, .invokevirtual 1024, .aload 0, .getfield 1, .invokevirtual 1024, .aload 0, .getfield 2, .invokevirtual 1024, .aload 0, .getfield 3, .invokevirtual 1024, .return_])]
def ex_b1 : List (Nat × List Instr) := [(0, [.aload 0, .getfield 0, .iload 1, .sipush 0, .invokevirtual 994, .ireturn])]
def ex_b2 : List (Nat × List Instr) := [(0, [.aload 0, .getfield 0, .iload 1, .sipush 1, .invokevirtual 994, .ireturn])]
def ex_b3 : List (Nat × List Instr) := [(0, [.aload 0, .getfield 0, .iload 1, .sipush 2, .invokevirtual 994, .ireturn])]
def ex_b4 : List (Nat × List Instr) := [(0, [.sipush 4, .aload 0, .iload 1, .invokevirtual 33, .imul, .aload 0, .iload 1, .invokevirtual 49, .iadd, .ireturn])]
def ex_b5 : List (Nat × List Instr) := [(0, [.sipush 0, .istore 3, .jsr 2]),
  (2, [.iload 3, .aload 0, .getfield 0, .invokevirtual 944, .if_icmp .ge 42, .aload 1, .aload 0, .iload 3, .invokevirtual 17, .aload 0, .iload 3, .invokevirtual 65, .invokevirtual 402, .iload 2, .ishr, .sipush 1, .iand, .ifCond .eq 36, .iload 3, .ireturn]),
  (36, [.iinc 3 1, .goto 2]),
  (42, [.sipush (-1), .ireturn])]
def ex_b6 : List (Nat × List Instr) := [(0, [.aload 0, .sipush 0, .putfield 75, .sipush 0, .istore 2, .sipush 0, .istore 3, .sipush 0, .istore 4, .jsr 12]),
  (12, [.iload 4, .aload 1, .invokevirtual 896, .if_icmp .ge 77, .aload 1, .iload 4, .invokevirtual 913, .istore 5, .iload 5, .sipush 47, .if_icmp .ne 44, .iinc 2 1, .sipush 0, .istore 3, .goto 71]),
  (44, [.iload 5, .sipush 124, .if_icmp .ne 60, .aload 0, .iload 2, .iload 3, .invokevirtual 114, .goto 71]),
  (60, [.aload 0, .iload 5, .iload 2, .iload 3, .invokevirtual 131, .iinc 3 1, .jsr 71]),
  (71, [.iinc 4 1, .goto 12]),
  (77, [.aload 0, .iload 2, .sipush 1, .iadd, .putfield 76, .aload 0, .iload 3, .putfield 77, .aload 0, .invokevirtual 144, .aload 0, .invokevirtual 192, .return_])]
def ex_b7 : List (Nat × List Instr) := [(0, [.iload 1, .sipush 4, .invokestatic 1330, .ifCond .eq 15, .aload 0, .getfield 67, .iload 1, .iload 2, .iastore, .jsr 15]),
  (15, [.return_])]
def ex_b8 : List (Nat × List Instr) := [(0, [.aload 0, .getfield 75, .sipush 24, .if_icmp .lt 10, .return_]),
  (10, [.iload 1, .sipush 100, .if_icmp .ne 29, .aload 0, .getfield 64, .aload 0, .getfield 75, .sipush 2, .iastore, .goto 49]),
  (29, [.aload 0, .getfield 64, .aload 0, .getfield 75, .iload 1, .sipush 35, .if_icmp .ne 47, .sipush 1, .goto 48]),
  (47, [.sipush 0, .jsr 48]),
  (48, [.iastore, .jsr 49]),
  (49, [.aload 0, .getfield 65, .aload 0, .getfield 75, .iload 2, .iastore, .aload 0, .getfield 66, .aload 0, .getfield 75, .iload 3, .iastore, .aload 0, .dup, .getfield 75, .sipush 1, .iadd, .putfield 75, .return_])]
def ex_b9 : List (Nat × List Instr) := [(0, [.sipush 0, .istore 1, .jsr 2]),
  (2, [.iload 1, .sipush 96, .if_icmp .ge 25, .aload 0, .iload 1, .iload 1, .sipush 2, .ishr, .iload 1, .sipush 3, .iand, .invokevirtual 163, .iinc 1 1, .goto 2]),
  (25, [.return_])]
def ex_b10 : List (Nat × List Instr) := [(0, [.sipush (-1), .istore 4, .iload 2, .aload 0, .getfield 75, .if_icmp .ge 41, .aload 0, .aload 0, .getfield 65, .iload 2, .iaload, .getstatic 1000, .iload 3, .iaload, .iadd, .aload 0, .getfield 66, .iload 2, .iaload, .getstatic 1001, .iload 3, .iaload, .iadd, .invokevirtual 178, .istore 4, .jsr 41]),
  (41, [.aload 0, .getfield 68, .iload 1, .iload 4, .iastore, .aload 0, .getfield 69, .iload 1, .aload 0, .iload 4, .invokevirtual 289, .ifCond .eq 68, .iload 4, .goto 69]),
  (68, [.iload 2, .jsr 69]),
  (69, [.iastore, .aload 0, .getfield 70, .iload 1, .aload 0, .iload 2, .invokevirtual 305, .ifCond .eq 103, .aload 0, .iload 4, .invokevirtual 305, .ifCond .eq 103, .sipush 1, .iload 2, .ishl, .sipush 1, .iload 4, .ishl, .ior, .goto 104]),
  (103, [.sipush 0, .jsr 104]),
  (104, [.iastore, .aload 0, .getfield 71, .iload 1, .aload 0, .iload 2, .invokevirtual 305, .ifCond .eq 128, .iload 3, .ifCond .ne 128, .sipush 1, .iload 2, .ishl, .goto 129]),
  (128, [.sipush 0, .jsr 129]),
  (129, [.iastore, .return_])]
def ex_b11 : List (Nat × List Instr) := [(0, [.iload 1, .aload 0, .getfield 76, .invokestatic 1330, .ifCond .eq 33, .iload 2, .aload 0, .getfield 77, .invokestatic 1330, .ifCond .eq 33, .iload 1, .aload 0, .getfield 77, .imul, .iload 2, .iadd, .goto 34]),
  (33, [.sipush (-1), .jsr 34]),
  (34, [.ireturn])]
def ex_b12 : List (Nat × List Instr) := [(0, [.sipush 0, .istore 1, .jsr 2]),
  (2, [.iload 1, .sipush 24, .if_icmp .ge 29, .aload 0, .getfield 72, .iload 1, .sipush (-1), .iastore, .aload 0, .getfield 73, .iload 1, .sipush 1000000, .iastore, .iinc 1 1, .goto 2]),
  (29, [.sipush 0, .istore 1, .jsr 31]),
  (31, [.iload 1, .aload 0, .getfield 75, .if_icmp .ge 66, .iload 1, .sipush 24, .if_icmp .ge 66, .aload 0, .getfield 64, .iload 1, .iaload, .sipush 2, .if_icmp .ne 60, .aload 0, .iload 1, .invokevirtual 209, .jsr 60]),
  (60, [.iinc 1 1, .goto 31]),
  (66, [.return_])]
def ex_b13 : List (Nat × List Instr) := [(0, [.aload 0, .iload 1, .sipush 0, .sipush 0, .invokevirtual 419, .sipush 0, .istore 2, .jsr 9]),
  (9, [.iload 2, .aload 0, .getfield 75, .if_icmp .ge 63, .iload 2, .sipush 24, .if_icmp .ge 63, .aload 0, .getfield 74, .iload 2, .iaload, .aload 0, .getfield 73, .iload 2, .iaload, .if_icmp .ge 57, .aload 0, .getfield 73, .iload 2, .aload 0, .getfield 74, .iload 2, .iaload, .iastore, .aload 0, .getfield 72, .iload 2, .iload 1, .iastore, .jsr 57]),
  (57, [.iinc 2 1, .goto 9]),
  (63, [.return_])]
def ex_b14 : List (Nat × List Instr) := [(0, [.aload 0, .getfield 75, .ifCond .le 11, .sipush 1, .goto 12]),
  (11, [.sipush 0, .jsr 12]),
  (12, [.areturn])]
def ex_b15 : List (Nat × List Instr) := [(0, [.aload 0, .getfield 75, .ireturn])]
def ex_b16 : List (Nat × List Instr) := [(0, [.iload 1, .aload 0, .getfield 75, .invokestatic 1330, .areturn])]
def ex_b17 : List (Nat × List Instr) := [(0, [.iload 1, .ifCond .lt 27, .iload 1, .aload 0, .getfield 75, .if_icmp .ge 27, .iload 1, .sipush 24, .if_icmp .ge 27, .aload 0, .getfield 64, .iload 1, .iaload, .goto 28]),
  (27, [.sipush 1, .jsr 28]),
  (28, [.ireturn])]
def ex_b18 : List (Nat × List Instr) := [(0, [.aload 0, .iload 1, .invokevirtual 273, .sipush 1, .if_icmp .eq 13, .sipush 1, .goto 14]),
  (13, [.sipush 0, .jsr 14]),
  (14, [.areturn])]
def ex_b19 : List (Nat × List Instr) := [(0, [.aload 0, .iload 1, .invokevirtual 273, .ifCond .ne 12, .sipush 1, .goto 13]),
  (12, [.sipush 0, .jsr 13]),
  (13, [.areturn])]
def ex_b20 : List (Nat × List Instr) := [(0, [.iload 1, .aload 0, .getfield 75, .invokestatic 1330, .ifCond .eq 30, .iload 1, .sipush 24, .if_icmp .ge 30, .aload 0, .getfield 65, .iload 1, .iaload, .sipush 4, .invokestatic 1330, .ifCond .ne 32, .jsr 30]),
  (30, [.sipush (-1), .ireturn]),
  (32, [.aload 0, .getfield 66, .iload 1, .iaload, .aload 0, .getfield 67, .aload 0, .getfield 65, .iload 1, .iaload, .iaload, .iload 2, .iadd, .if_icmp .ge 58, .sipush 0, .goto 59]),
  (58, [.sipush 1, .jsr 59]),
  (59, [.ireturn])]
def ex_b21 : List (Nat × List Instr) := [(0, [.sipush 4, .iload 1, .imul, .iload 2, .iadd, .istore 3, .iload 2, .sipush 4, .invokestatic 1330, .ifCond .eq 32, .iload 3, .sipush 96, .invokestatic 1330, .ifCond .eq 32, .aload 0, .getfield 68, .iload 3, .iaload, .goto 33]),
  (32, [.sipush (-1), .jsr 33]),
  (33, [.ireturn])]
def ex_b22 : List (Nat × List Instr) := [(0, [.iload 2, .sipush 96, .invokestatic 1330, .ifCond .ne 11, .sipush (-1), .ireturn]),
  (11, [.iload 3, .tableswitch 83 1 3 #[40, 54, 69]]),
  (40, [.iload 1, .ifCond .ne 48, .sipush 1, .goto 49]),
  (48, [.sipush 0, .jsr 49]),
  (49, [.istore 4, .goto 86]),
  (54, [.iload 1, .sipush 1, .if_icmp .ne 63, .sipush 1, .goto 64]),
  (63, [.sipush 0, .jsr 64]),
  (64, [.istore 4, .goto 86]),
  (69, [.iload 1, .ifCond .eq 77, .sipush 1, .goto 78]),
  (77, [.sipush 0, .jsr 78]),
  (78, [.istore 4, .goto 86]),
  (83, [.sipush 0, .istore 4, .jsr 86]),
  (86, [.iload 4, .ifCond .eq 100, .aload 0, .getfield 69, .iload 2, .iaload, .goto 103]),
  (100, [.iload 2, .sipush 2, .ishr, .jsr 103]),
  (103, [.ireturn])]
def ex_b23 : List (Nat × List Instr) := [(0, [.iload 1, .ifCond .lt 19, .iload 1, .sipush 24, .if_icmp .ge 19, .aload 0, .getfield 72, .iload 1, .iaload, .goto 20]),
  (19, [.sipush (-1), .jsr 20]),
  (20, [.ireturn])]
def ex_b24 : List (Nat × List Instr) := [(0, [.aload 0, .iload 1, .invokevirtual 369, .istore 2, .iload 2, .sipush (-1), .if_icmp .ne 15, .iload 1, .goto 16]),
  (15, [.iload 2, .jsr 16]),
  (16, [.ireturn])]
def ex_b25 : List (Nat × List Instr) := [(0, [.iload 2, .sipush 96, .invokestatic 1330, .ifCond .ne 11, .sipush 0, .ireturn]),
  (11, [.iload 1, .sipush 1, .if_icmp .ne 25, .aload 0, .getfield 70, .iload 2, .iaload, .goto 31]),
  (25, [.aload 0, .getfield 71, .iload 2, .iaload, .jsr 31]),
  (31, [.ireturn])]
def ex_b26 : List (Nat × List Instr) := [(0, [.sipush 0, .istore 4, .jsr 3]),
  (3, [.iload 4, .sipush 24, .if_icmp .ge 35, .aload 0, .getfield 74, .iload 4, .iload 4, .iload 1, .if_icmp .ne 26, .sipush 0, .goto 28]),
  (26, [.sipush 1000000, .jsr 28]),
  (28, [.iastore, .iinc 4 1, .goto 3]),
  (35, [.sipush 1, .istore 4, .sipush 0, .istore 5, .jsr 41]),
  (41, [.iload 4, .ifCond .eq 139, .iload 5, .sipush 24, .if_icmp .ge 139, .sipush 0, .istore 4, .sipush 0, .istore 6, .jsr 59]),
  (59, [.iload 6, .aload 0, .getfield 75, .if_icmp .ge 133, .iload 6, .sipush 24, .if_icmp .ge 133, .iload 6, .iload 1, .if_icmp .eq 90, .iload 3, .iload 6, .ishr, .sipush 1, .iand, .ifCond .ne 94, .jsr 90]),
  (90, [.sipush 1, .goto 95]),
  (94, [.sipush 0, .jsr 95]),
  (95, [.istore 7, .iload 7, .ifCond .eq 127, .aload 0, .getfield 74, .iload 6, .iaload, .sipush 1000000, .if_icmp .ge 127, .aload 0, .iload 6, .iload 2, .invokevirtual 434, .ifCond .eq 127, .sipush 1, .istore 4, .jsr 127]),
  (127, [.iinc 6 1, .goto 59]),
  (133, [.iinc 5 1, .goto 41]),
  (139, [.return_])]
def ex_b27 : List (Nat × List Instr) := [(0, [.sipush 0, .istore 3, .sipush 0, .istore 4, .jsr 5]),
  (5, [.iload 4, .sipush 4, .if_icmp .ge 116, .aload 0, .iload 1, .iload 4, .invokevirtual 338, .istore 5, .iload 5, .sipush 24, .invokestatic 1330, .ifCond .eq 110, .iload 1, .sipush 24, .invokestatic 1330, .ifCond .eq 110, .aload 0, .iload 5, .invokevirtual 289, .ifCond .eq 110, .aload 0, .iload 1, .sipush 0, .invokevirtual 322, .aload 0, .iload 5, .sipush 0, .invokevirtual 322, .if_icmp .ne 68, .sipush 1, .goto 71]),
  (68, [.sipush 1, .iload 2, .iadd, .jsr 71]),
  (71, [.istore 6, .aload 0, .getfield 74, .iload 1, .iaload, .iload 6, .iadd, .aload 0, .getfield 74, .iload 5, .iaload, .if_icmp .ge 110, .aload 0, .getfield 74, .iload 5, .aload 0, .getfield 74, .iload 1, .iaload, .iload 6, .iadd, .iastore, .sipush 1, .istore 3, .jsr 110]),
  (110, [.iinc 4 1, .goto 5]),
  (116, [.iload 3, .areturn])]
def ex_b28 : List (Nat × List Instr) := [(0, [.aload 0, .sipush 0, .putfield 128, .aload 0, .sipush (-1), .putfield 129, .aload 0, .sipush 0, .putfield 130, .aload 0, .sipush 0, .putfield 131, .return_])]
def ex_b29 : List (Nat × List Instr) := [(0, [.iload 1, .lookupswitch 67 #[(35, 62), (46, 62), (47, 57), (100, 62), (124, 52)]]),
  (52, [.aload 0, .invokevirtual 480, .areturn]),
  (57, [.aload 0, .invokevirtual 496, .areturn]),
  (62, [.aload 0, .invokevirtual 512, .areturn]),
  (67, [.sipush 0, .areturn])]
def ex_b30 : List (Nat × List Instr) := [(0, [.aload 0, .getfield 131, .ifCond .eq 9, .sipush 0, .areturn]),
  (9, [.aload 0, .sipush 1, .putfield 131, .sipush 1, .areturn])]
def ex_b31 : List (Nat × List Instr) := [(0, [.aload 0, .getfield 128, .sipush 1, .iadd, .sipush 4, .if_icmp .ge 17, .aload 0, .invokevirtual 528, .ifCond .ne 19, .jsr 17]),
  (17, [.sipush 0, .areturn]),
  (19, [.aload 0, .aload 0, .getfield 130, .putfield 129, .aload 0, .dup, .getfield 128, .sipush 1, .iadd, .putfield 128, .aload 0, .sipush 0, .putfield 130, .aload 0, .sipush 0, .putfield 131, .sipush 1, .areturn])]
def ex_b32 : List (Nat × List Instr) := [(0, [.aload 0, .getfield 130, .aload 0, .getfield 129, .sipush (-1), .if_icmp .ne 17, .sipush 6, .goto 21]),
  (17, [.aload 0, .getfield 129, .jsr 21]),
  (21, [.if_icmp .lt 26, .sipush 0, .areturn]),
  (26, [.aload 0, .dup, .getfield 130, .sipush 1, .iadd, .putfield 130, .sipush 1, .areturn])]
def ex_b33 : List (Nat × List Instr) := [(0, [.aload 0, .getfield 131, .ifCond .eq 41, .aload 0, .getfield 129, .sipush (-1), .if_icmp .ne 26, .aload 0, .getfield 130, .sipush 2, .if_icmp .lt 41, .goto 37]),
  (26, [.aload 0, .getfield 130, .aload 0, .getfield 129, .if_icmp .ne 41, .jsr 37]),
  (37, [.sipush 1, .goto 42]),
  (41, [.sipush 0, .jsr 42]),
  (42, [.areturn])]
def ex_b34 : List (Nat × List Instr) := [(0, [.aload 0, .getfield 128, .sipush 1, .iadd, .sipush 2, .if_icmp .lt 21, .aload 0, .invokevirtual 528, .ifCond .eq 21, .sipush 1, .goto 22]),
  (21, [.sipush 0, .jsr 22]),
  (22, [.areturn])]
def ex_b35 : List (Nat × List Instr) := [(0, [.aload 0, .sipush 0, .putfield 256, .aload 0, .sipush 0, .putfield 257, .aload 0, .sipush 0, .putfield 258, .aload 0, .sipush 0, .putfield 259, .aload 0, .sipush 0, .putfield 260, .aload 0, .sipush 0, .putfield 261, .aload 0, .sipush 0, .putfield 262, .return_])]
def ex_b36 : List (Nat × List Instr) := [(0, [.aload 0, .getfield 261, .tableswitch 60 0 3 #[36, 42, 48, 54]]),
  (36, [.aload 0, .iload 1, .invokevirtual 593, .areturn]),
  (42, [.aload 0, .iload 1, .invokevirtual 609, .areturn]),
  (48, [.aload 0, .iload 1, .invokevirtual 625, .areturn]),
  (54, [.aload 0, .iload 1, .invokevirtual 641, .areturn]),
  (60, [.sipush 0, .areturn])]
def ex_b37 : List (Nat × List Instr) := [(0, [.iload 1, .sipush 119, .if_icmp .eq 14, .iload 1, .sipush 101, .if_icmp .eq 14, .sipush 0, .areturn]),
  (14, [.aload 0, .iload 1, .sipush 119, .if_icmp .ne 25, .sipush 0, .goto 26]),
  (25, [.sipush 1, .jsr 26]),
  (26, [.putfield 256, .aload 0, .sipush 1, .putfield 261, .sipush 1, .areturn])]
def ex_b38 : List (Nat × List Instr) := [(0, [.iload 1, .sipush 97, .if_icmp .lt 12, .iload 1, .sipush 102, .if_icmp .le 14, .jsr 12]),
  (12, [.sipush 0, .areturn]),
  (14, [.aload 0, .iload 1, .sipush 97, .isub, .putfield 257, .aload 0, .sipush 2, .putfield 261, .sipush 1, .areturn])]
def ex_b39 : List (Nat × List Instr) := [(0, [.iload 1, .sipush 45, .if_icmp .ne 25, .aload 0, .getfield 262, .ifCond .le 25, .aload 0, .sipush 3, .putfield 261, .aload 0, .sipush 0, .putfield 262, .sipush 1, .areturn]),
  (25, [.aload 0, .aload 0, .getfield 258, .iload 1, .invokevirtual 658, .istore 2, .iload 2, .sipush (-1), .if_icmp .ne 42, .sipush 0, .areturn]),
  (42, [.aload 0, .iload 2, .putfield 258, .aload 0, .dup, .getfield 262, .sipush 1, .iadd, .putfield 262, .sipush 1, .areturn])]
def ex_b40 : List (Nat × List Instr) := [(0, [.aload 0, .getfield 262, .ifCond .le 30, .iload 1, .invokestatic 673, .sipush (-1), .if_icmp .eq 30, .aload 0, .iload 1, .invokestatic 673, .putfield 260, .aload 0, .sipush 5, .putfield 261, .sipush 1, .areturn]),
  (30, [.aload 0, .aload 0, .getfield 259, .iload 1, .invokevirtual 658, .istore 2, .iload 2, .sipush (-1), .if_icmp .ne 47, .sipush 0, .areturn]),
  (47, [.aload 0, .iload 2, .putfield 259, .aload 0, .dup, .getfield 262, .sipush 1, .iadd, .putfield 262, .sipush 1, .areturn])]
def ex_b41 : List (Nat × List Instr) := [(0, [.iload 2, .sipush 48, .if_icmp .lt 12, .iload 2, .sipush 57, .if_icmp .le 14, .jsr 12]),
  (12, [.sipush (-1), .ireturn]),
  (14, [.aload 0, .getfield 262, .ifCond .ne 26, .iload 2, .sipush 48, .isub, .ireturn]),
  (26, [.sipush 10, .iload 1, .imul, .iload 2, .iadd, .sipush 48, .isub, .istore 3, .aload 0, .getfield 262, .sipush 1, .if_icmp .ne 58, .iload 1, .ifCond .eq 58, .iload 3, .sipush 24, .if_icmp .ge 58, .iload 3, .goto 59]),
  (58, [.sipush (-1), .jsr 59]),
  (59, [.ireturn])]
def ex_b42 : List (Nat × List Instr) := [(0, [.iload 0, .tableswitch 64 102 111 #[60, 64, 56, 64, 64, 64, 64, 64, 58, 62]]),
  (56, [.sipush 1, .ireturn]),
  (58, [.sipush 2, .ireturn]),
  (60, [.sipush 3, .ireturn]),
  (62, [.sipush 4, .ireturn]),
  (64, [.sipush (-1), .ireturn])]
def ex_b43 : List (Nat × List Instr) := [(0, [.aload 0, .getfield 261, .sipush 5, .if_icmp .eq 23, .aload 0, .getfield 261, .sipush 3, .if_icmp .ne 27, .aload 0, .getfield 262, .ifCond .le 27, .jsr 23]),
  (23, [.sipush 1, .goto 28]),
  (27, [.sipush 0, .jsr 28]),
  (28, [.areturn])]
def ex_b44 : List (Nat × List Instr) := [(0, [.iload 1, .tableswitch 52 0 3 #[32, 37, 42, 47]]),
  (32, [.aload 0, .getfield 256, .ireturn]),
  (37, [.aload 0, .getfield 257, .ireturn]),
  (42, [.aload 0, .getfield 258, .ireturn]),
  (47, [.aload 0, .getfield 259, .ireturn]),
  (52, [.aload 0, .getfield 260, .ireturn])]
def ex_b45 : List (Nat × List Instr) := [(0, [.iload 1, .ifCond .eq 19, .iload 0, .iload 1, .if_icmp .eq 19, .iload 0, .sipush 3, .if_icmp .ne 23, .iload 1, .sipush 1, .if_icmp .ne 23, .jsr 19]),
  (19, [.sipush 1, .goto 24]),
  (23, [.sipush 0, .jsr 24]),
  (24, [.areturn])]
def ex_b46 : List (Nat × List Instr) := [(0, [.aload 0, .getfield 320, .invokevirtual 944, .ireturn])]
def ex_b47 : List (Nat × List Instr) := [(0, [.aload 0, .getfield 320, .invokevirtual 960, .areturn])]
def ex_b48 : List (Nat × List Instr) := [(0, [.aload 0, .getfield 320, .aload 1, .sipush 0, .invokevirtual 705, .aload 1, .sipush 1, .invokevirtual 705, .aload 1, .sipush 2, .invokevirtual 705, .aload 1, .sipush 3, .invokevirtual 705, .aload 1, .sipush 4, .invokevirtual 705, .invokevirtual 981, .ireturn])]
def ex_b49 : List (Nat × List Instr) := [(0, [.aload 0, .getfield 320, .iload 1, .iload 2, .invokevirtual 994, .ireturn])]
def ex_b50 : List (Nat × List Instr) := [(0, [.sipush 0, .istore 7, .sipush 0, .istore 8, .jsr 6]),
  (6, [.iload 8, .aload 0, .getfield 320, .invokevirtual 944, .if_icmp .ge 73, .aload 0, .getfield 320, .iload 8, .sipush 1, .invokevirtual 994, .iload 2, .if_icmp .ne 67, .aload 0, .iload 8, .iload 3, .invokevirtual 818, .ifCond .eq 67, .aload 0, .aload 1, .iload 8, .iload 4, .iload 5, .iload 6, .invokevirtual 837, .ifCond .eq 67, .iload 7, .sipush 1, .iload 8, .ishl, .ior, .istore 7, .jsr 67]),
  (67, [.iinc 8 1, .goto 6]),
  (73, [.iload 7, .ireturn])]
def ex_b51 : List (Nat × List Instr) := [(0, [.aload 0, .getfield 320, .iload 1, .sipush 2, .invokevirtual 994, .istore 3, .aload 0, .getfield 320, .iload 1, .sipush 3, .invokevirtual 994, .istore 4, .iload 3, .iload 4, .if_icmp .ge 44, .iload 2, .iload 3, .if_icmp .lt 42, .iload 2, .iload 4, .if_icmp .ge 42, .sipush 1, .goto 43]),
  (42, [.sipush 0, .jsr 43]),
  (43, [.areturn]),
  (44, [.iload 3, .iload 4, .if_icmp .eq 61, .iload 2, .iload 3, .if_icmp .ge 61, .iload 2, .iload 4, .if_icmp .ge 65, .jsr 61]),
  (61, [.sipush 1, .goto 66]),
  (65, [.sipush 0, .jsr 66]),
  (66, [.areturn])]
def ex_b52 : List (Nat × List Instr) := [(0, [.aload 0, .getfield 320, .iload 2, .sipush 0, .invokevirtual 994, .istore 6, .iload 4, .sipush 2, .ishr, .istore 7, .aload 0, .getfield 320, .iload 2, .sipush 4, .invokevirtual 994, .tableswitch 180 1 4 #[56, 75, 100, 157]]),
  (56, [.aload 1, .iload 7, .iload 5, .invokevirtual 322, .iload 6, .if_icmp .ne 73, .sipush 1, .goto 74]),
  (73, [.sipush 0, .jsr 74]),
  (74, [.areturn]),
  (75, [.aload 1, .aload 1, .iload 3, .iload 4, .sipush 1, .invokevirtual 355, .iload 5, .invokevirtual 322, .iload 6, .if_icmp .ne 98, .sipush 1, .goto 99]),
  (98, [.sipush 0, .jsr 99]),
  (99, [.areturn]),
  (100, [.aload 1, .iload 7, .iload 5, .invokevirtual 322, .iload 6, .if_icmp .ne 155, .aload 1, .aload 1, .iload 3, .iload 4, .sipush 2, .invokevirtual 355, .iload 5, .invokevirtual 322, .iload 6, .if_icmp .ne 155, .aload 1, .aload 1, .iload 3, .iload 4, .sipush 3, .invokevirtual 355, .iload 5, .invokevirtual 322, .iload 6, .if_icmp .ne 155, .sipush 1, .goto 156]),
  (155, [.sipush 0, .jsr 156]),
  (156, [.areturn]),
  (157, [.aload 1, .aload 1, .iload 7, .invokevirtual 385, .iload 5, .invokevirtual 322, .iload 6, .if_icmp .ne 178, .sipush 1, .goto 179]),
  (178, [.sipush 0, .jsr 179]),
  (179, [.areturn]),
  (180, [.sipush 1, .areturn])]
def ex_b53 : List (Nat × List Instr) := [(0, [.sipush 0, .istore 2, .sipush 0, .istore 3, .sipush 0, .istore 4, .jsr 7]),
  (7, [.iload 4, .sipush 8, .if_icmp .ge 59, .lload 0, .iload 4, .invokestatic 866, .istore 5, .iload 5, .sipush 126, .if_icmp .gt 38, .iload 3, .ifCond .eq 40, .iload 5, .ifCond .eq 40, .jsr 38]),
  (38, [.sipush (-1), .ireturn]),
  (40, [.iload 5, .ifCond .ne 50, .sipush 1, .istore 3, .goto 53]),
  (50, [.iinc 2 1, .jsr 53]),
  (53, [.iinc 4 1, .goto 7]),
  (59, [.iload 2, .ireturn])]
def ex_b54 : List (Nat × List Instr) := [(0, [.lload 0, .sipush 8, .iload 2, .imul, .lushr, .l2i, .sipush 255, .iand, .ireturn])]
def ex_b55 : List (Nat × List Instr) := [(0, [.sipush 0, .istore 4, .jsr 3]),
  (3, [.iload 4, .iload 3, .if_icmp .ge 49, .aload 0, .getfield 449, .sipush 40, .if_icmp .ge 49, .aload 0, .getfield 448, .aload 0, .getfield 449, .lload 1, .iload 4, .invokestatic 866, .iastore, .aload 0, .dup, .getfield 449, .sipush 1, .iadd, .putfield 449, .iinc 4 1, .goto 3]),
  (49, [.return_])]
def ex_b56 : List (Nat × List Instr) := [(0, [.aload 0, .getfield 449, .ireturn])]
def ex_b57 : List (Nat × List Instr) := [(0, [.iload 1, .aload 0, .getfield 449, .invokestatic 1330, .ifCond .eq 20, .aload 0, .getfield 448, .iload 1, .iaload, .goto 21]),
  (20, [.sipush 0, .jsr 21]),
  (21, [.ireturn])]
def ex_b58 : List (Nat × List Instr) := [(0, [.aload 0, .sipush 0, .putfield 449, .return_])]
def ex_b59 : List (Nat × List Instr) := [(0, [.aload 0, .getfield 514, .ireturn])]
def ex_b60 : List (Nat × List Instr) := [(0, [.aload 0, .getfield 514, .aload 0, .getfield 513, .if_icmp .ge 24, .aload 0, .getfield 514, .sipush 1, .iadd, .sipush 5, .imul, .sipush 60, .if_icmp .le 28, .jsr 24]),
  (24, [.sipush 1, .goto 29]),
  (28, [.sipush 0, .jsr 29]),
  (29, [.areturn])]
def ex_b61 : List (Nat × List Instr) := [(0, [.aload 0, .invokevirtual 960, .ifCond .eq 9, .sipush (-1), .ireturn]),
  (9, [.aload 0, .getfield 514, .istore 6, .aload 0, .dup, .getfield 514, .sipush 1, .iadd, .putfield 514, .aload 0, .iload 6, .sipush 0, .iload 1, .invokevirtual 1011, .aload 0, .iload 6, .sipush 1, .iload 2, .invokevirtual 1011, .aload 0, .iload 6, .sipush 2, .iload 3, .invokevirtual 1011, .aload 0, .iload 6, .sipush 3, .iload 4, .invokevirtual 1011, .aload 0, .iload 6, .sipush 4, .iload 5, .invokevirtual 1011, .iload 6, .ireturn])]
def ex_b62 : List (Nat × List Instr) := [(0, [.iload 1, .sipush 5, .imul, .iload 2, .iadd, .istore 3, .iload 1, .aload 0, .getfield 514, .invokestatic 1330, .ifCond .eq 35, .iload 3, .sipush 60, .invokestatic 1330, .ifCond .eq 35, .aload 0, .getfield 512, .iload 3, .iaload, .goto 36]),
  (35, [.sipush (-1), .jsr 36]),
  (36, [.ireturn])]
def ex_b63 : List (Nat × List Instr) := [(0, [.iload 1, .sipush 5, .imul, .iload 2, .iadd, .istore 4, .iload 1, .aload 0, .getfield 514, .invokestatic 1330, .ifCond .eq 36, .iload 4, .sipush 60, .invokestatic 1330, .ifCond .eq 36, .aload 0, .getfield 512, .iload 4, .iload 3, .iastore, .jsr 36]),
  (36, [.return_])]
def ex_b64 : List (Nat × List Instr) := [(0, [.aload 0, .sipush 0, .putfield 514, .return_])]
def ex_b65 : List (Nat × List Instr) := [(0, [.aload 0, .invokeinterface 1 0, .sipush 0, .istore 2, .jsr 6]),
  (6, [.iload 2, .aload 1, .invokevirtual 896, .if_icmp .ge 34, .aload 0, .aload 1, .iload 2, .invokevirtual 913, .invokeinterface 2 1, .ifCond .ne 28, .iload 2, .ireturn]),
  (28, [.iinc 2 1, .goto 6]),
  (34, [.aload 1, .invokevirtual 896, .ireturn])]
def ex_b66 : List (Nat × List Instr) := [(0, [.aload 0, .aload 1, .invokeinterface 5 1, .aload 1, .invokevirtual 896, .if_icmp .ne 23, .aload 0, .invokeinterface 6 0, .ifCond .eq 23, .sipush 1, .goto 24]),
  (23, [.sipush 0, .jsr 24]),
  (24, [.areturn])]
def ex_b67 : List (Nat × List Instr) := [(0, [.lload 1, .invokestatic 849, .istore 3, .iload 3, .ifCond .ge 12, .sipush (-102), .ireturn]),
  (12, [.aload 0, .getfield 640, .invokevirtual 896, .iload 3, .iadd, .sipush 40, .if_icmp .le 29, .sipush (-104), .ireturn]),
  (29, [.aload 0, .getfield 640, .lload 1, .iload 3, .invokevirtual 882, .aload 0, .getfield 640, .invokevirtual 896, .ireturn])]
def ex_b68 : List (Nat × List Instr) := [(0, [.iload 1, .sipush 2, .invokestatic 1330, .ifCond .ne 11, .sipush (-102), .ireturn]),
  (11, [.iload 1, .ifCond .ne 29, .aload 0, .getfield 641, .aload 0, .getfield 640, .invokeinterface 0 1, .goto 40]),
  (29, [.aload 0, .getfield 642, .aload 0, .getfield 640, .invokeinterface 3 1, .jsr 40]),
  (40, [.ireturn])]
def ex_b69 : List (Nat × List Instr) := [(0, [.aload 0, .getfield 641, .aload 0, .getfield 640, .invokeinterface 4 1, .ifCond .ne 17, .sipush (-103), .ireturn]),
  (17, [.aload 0, .getfield 643, .aload 0, .getfield 640, .invokevirtual 97, .aload 0, .getfield 640, .invokevirtual 928, .aload 0, .getfield 645, .invokevirtual 0, .aload 0, .sipush 0, .putfield 649, .aload 0, .dup, .getfield 650, .sipush 1, .iadd, .putfield 650, .aload 0, .getfield 643, .invokevirtual 240, .ireturn])]
def ex_b70 : List (Nat × List Instr) := [(0, [.aload 0, .getfield 642, .aload 0, .getfield 640, .invokeinterface 7 1, .ifCond .ne 17, .sipush (-103), .ireturn]),
  (17, [.aload 0, .getfield 644, .invokevirtual 752, .ifCond .eq 30, .sipush (-104), .ireturn]),
  (30, [.aload 0, .getfield 640, .invokevirtual 928, .aload 0, .getfield 644, .aload 0, .getfield 642, .invokevirtual 769, .ireturn])]
def ex_b71 : List (Nat × List Instr) := [(0, [.iload 1, .aload 0, .getfield 644, .invokevirtual 736, .invokestatic 1330, .ifCond .ne 17, .sipush (-101), .ireturn]),
  (17, [.iload 2, .sipush 5, .invokestatic 1330, .ifCond .eq 37, .aload 0, .getfield 644, .iload 1, .iload 2, .invokevirtual 786, .goto 39]),
  (37, [.sipush (-102), .jsr 39]),
  (39, [.ireturn])]
def ex_b72 : List (Nat × List Instr) := [(0, [.iload 1, .aload 0, .getfield 644, .invokevirtual 736, .invokestatic 1330, .ifCond .ne 17, .sipush (-101), .ireturn]),
  (17, [.iload 2, .sipush 5, .invokestatic 1330, .ifCond .ne 28, .sipush (-102), .ireturn]),
  (28, [.aload 0, .getfield 644, .iload 1, .sipush 4, .invokevirtual 786, .iload 2, .invokestatic 722, .ifCond .eq 48, .iload 1, .goto 49]),
  (48, [.sipush (-1), .jsr 49]),
  (49, [.ireturn])]
def ex_b73 : List (Nat × List Instr) := [(0, [.aload 0, .getfield 643, .iload 1, .invokevirtual 257, .ifCond .ne 14, .sipush (-101), .ireturn]),
  (14, [.iload 2, .sipush 4, .invokestatic 1330, .ifCond .eq 31, .aload 0, .iload 1, .iload 2, .invokevirtual 1378, .goto 33]),
  (31, [.sipush (-102), .jsr 33]),
  (33, [.ireturn])]
def ex_b74 : List (Nat × List Instr) := [(0, [.aload 0, .getfield 643, .iload 2, .invokevirtual 289, .ifCond .ne 14, .sipush (-101), .ireturn]),
  (14, [.iload 1, .sipush 3, .invokestatic 1330, .ifCond .eq 39, .iload 3, .sipush 4, .invokestatic 1330, .ifCond .eq 39, .iload 4, .sipush 4, .invokestatic 1330, .ifCond .ne 42, .jsr 39]),
  (39, [.sipush (-102), .ireturn]),
  (42, [.aload 0, .getfield 643, .iload 1, .sipush 4, .iload 2, .imul, .iload 3, .iadd, .iload 4, .invokevirtual 355, .ireturn])]
def ex_b75 : List (Nat × List Instr) := [(0, [.aload 0, .getfield 643, .iload 4, .invokevirtual 289, .ifCond .ne 15, .sipush (-101), .ireturn]),
  (15, [.iload 1, .iload 2, .iload 3, .invokestatic 1347, .ifCond .eq 33, .iload 5, .sipush 4, .invokestatic 1330, .ifCond .ne 36, .jsr 33]),
  (33, [.sipush (-102), .ireturn]),
  (36, [.aload 0, .getfield 644, .aload 0, .getfield 643, .iload 1, .iload 2, .iload 3, .sipush 4, .iload 4, .imul, .iload 5, .iadd, .sipush 0, .invokevirtual 806, .ireturn])]
def ex_b76 : List (Nat × List Instr) := [(0, [.aload 0, .getfield 643, .iload 4, .invokevirtual 289, .ifCond .ne 15, .sipush (-101), .ireturn]),
  (15, [.iload 2, .iload 1, .iload 3, .invokestatic 1347, .ifCond .eq 33, .iload 5, .sipush 4, .invokestatic 1330, .ifCond .ne 36, .jsr 33]),
  (33, [.sipush (-102), .ireturn]),
  (36, [.aload 0, .getfield 645, .getfield 1, .invokevirtual 960, .ifCond .eq 52, .sipush (-104), .ireturn]),
  (52, [.aload 0, .getfield 645, .getfield 1, .iload 1, .iload 2, .iload 3, .iload 4, .iload 5, .invokevirtual 981, .ireturn])]
def ex_b77 : List (Nat × List Instr) := [(0, [.iload 1, .sipush 2, .invokestatic 1330, .ifCond .ne 11, .sipush (-102), .ireturn]),
  (11, [.aload 0, .invokevirtual 1408, .istore 2, .iload 2, .sipush (-1), .if_icmp .eq 25, .iload 1, .ifCond .ne 27, .jsr 25]),
  (25, [.iload 2, .ireturn]),
  (27, [.aload 0, .iload 2, .sipush 0, .invokevirtual 1394, .invokestatic 1361, .ireturn])]
def ex_b78 : List (Nat × List Instr) := [(0, [.aload 0, .getfield 643, .invokevirtual 224, .ifCond .ne 13, .sipush (-103), .ireturn]),
  (13, [.iload 1, .iload 2, .iload 3, .invokestatic 1347, .ifCond .eq 31, .iload 4, .sipush 3, .invokestatic 1330, .ifCond .ne 34, .jsr 31]),
  (31, [.sipush (-102), .ireturn]),
  (34, [.sipush 0, .istore 5, .sipush 0, .istore 6, .jsr 40]),
  (40, [.iload 6, .aload 0, .getfield 643, .invokevirtual 240, .if_icmp .ge 87, .aload 0, .getfield 643, .iload 6, .invokevirtual 289, .ifCond .eq 81, .aload 0, .iload 1, .iload 2, .iload 3, .iload 6, .invokevirtual 1428, .iload 4, .if_icmp .ne 81, .iinc 5 1, .jsr 81]),
  (81, [.iinc 6 1, .goto 40]),
  (87, [.iload 5, .ireturn])]
def ex_b79 : List (Nat × List Instr) := [(0, [.aload 0, .getfield 643, .invokevirtual 224, .ifCond .ne 13, .sipush (-103), .ireturn]),
  (13, [.iload 1, .sipush (-3), .if_icmp .lt 24, .iload 1, .sipush 3, .if_icmp .le 27, .jsr 24]),
  (24, [.sipush (-102), .ireturn]),
  (27, [.sipush 0, .istore 2, .sipush 0, .istore 3, .jsr 31]),
  (31, [.iload 3, .aload 0, .getfield 645, .getfield 1, .invokevirtual 944, .if_icmp .ge 66, .aload 0, .iload 3, .iload 1, .invokevirtual 1394, .ifCond .eq 60, .iload 2, .sipush 1, .iload 3, .ishl, .ior, .istore 2, .jsr 60]),
  (60, [.iinc 3 1, .goto 31]),
  (66, [.iload 2, .ireturn])]
def ex_b80 : List (Nat × List Instr) := [(0, [.aload 0, .getfield 643, .iload 1, .invokevirtual 257, .ifCond .ne 14, .sipush (-101), .ireturn]),
  (14, [.iload 2, .sipush 2, .invokestatic 1330, .ifCond .ne 25, .sipush (-102), .ireturn]),
  (25, [.aload 0, .getfield 645, .getfield 3, .invokevirtual 960, .ifCond .eq 41, .sipush (-104), .ireturn]),
  (41, [.aload 0, .getfield 645, .getfield 3, .iload 1, .iload 2, .sipush 0, .sipush 0, .sipush 0, .invokevirtual 981, .pop, .aload 0, .getfield 645, .getfield 3, .invokevirtual 944, .ireturn])]
def ex_b81 : List (Nat × List Instr) := [(0, [.aload 0, .getfield 643, .invokevirtual 224, .ifCond .eq 17, .aload 0, .invokevirtual 1440, .goto 19]),
  (17, [.sipush (-103), .jsr 19]),
  (19, [.ireturn])]
def ex_b82 : List (Nat × List Instr) := [(0, [.iload 1, .tableswitch 130 0 8 #[52, 60, 68, 79, 90, 101, 112, 120, 125]]),
  (52, [.aload 0, .getfield 643, .invokevirtual 240, .ireturn]),
  (60, [.aload 0, .getfield 644, .invokevirtual 736, .ireturn]),
  (68, [.aload 0, .getfield 645, .getfield 1, .invokevirtual 944, .ireturn]),
  (79, [.aload 0, .getfield 645, .getfield 0, .invokevirtual 944, .ireturn]),
  (90, [.aload 0, .getfield 645, .getfield 2, .invokevirtual 944, .ireturn]),
  (101, [.aload 0, .getfield 645, .getfield 3, .invokevirtual 944, .ireturn]),
  (112, [.aload 0, .getfield 640, .invokevirtual 896, .ireturn]),
  (120, [.aload 0, .getfield 650, .ireturn]),
  (125, [.aload 0, .getfield 651, .ireturn]),
  (130, [.sipush (-102), .ireturn])]
def ex_b83 : List (Nat × List Instr) := [(0, [.iload 0, .ifCond .lt 13, .iload 0, .iload 1, .if_icmp .ge 13, .sipush 1, .goto 14]),
  (13, [.sipush 0, .jsr 14]),
  (14, [.areturn])]
def ex_b84 : List (Nat × List Instr) := [(0, [.iload 0, .sipush 6, .invokestatic 1330, .ifCond .eq 30, .iload 1, .sipush 24, .invokestatic 1330, .ifCond .eq 30, .iload 2, .sipush 3, .invokestatic 1330, .ifCond .eq 30, .sipush 1, .goto 31]),
  (30, [.sipush 0, .jsr 31]),
  (31, [.areturn])]
def ex_b85 : List (Nat × List Instr) := [(0, [.sipush 0, .istore 1, .jsr 2]),
  (2, [.iload 1, .sipush 32, .if_icmp .ge 24, .iload 0, .iload 1, .ishr, .sipush 1, .iand, .ifCond .eq 18, .iload 1, .ireturn]),
  (18, [.iinc 1 1, .goto 2]),
  (24, [.sipush (-1), .ireturn])]
def ex_b86 : List (Nat × List Instr) := [(0, [.iload 2, .tableswitch 60 0 2 #[28, 37, 47]]),
  (28, [.aload 0, .getfield 643, .iload 1, .invokevirtual 273, .ireturn]),
  (37, [.aload 0, .getfield 643, .iload 1, .sipush 0, .invokevirtual 322, .ireturn]),
  (47, [.aload 0, .getfield 645, .aload 0, .getfield 643, .iload 1, .invokevirtual 82, .ireturn]),
  (60, [.aload 0, .getfield 643, .iload 1, .invokevirtual 369, .ireturn])]
def ex_b87 : List (Nat × List Instr) := [(0, [.aload 0, .getfield 645, .getfield 1, .astore 3, .sipush 4, .aload 3, .iload 1, .sipush 3, .invokevirtual 994, .imul, .aload 3, .iload 1, .sipush 4, .invokevirtual 994, .iadd, .istore 4, .aload 0, .getfield 644, .aload 0, .getfield 643, .aload 3, .iload 1, .sipush 1, .invokevirtual 994, .aload 3, .iload 1, .sipush 0, .invokevirtual 994, .aload 3, .iload 1, .sipush 2, .invokevirtual 994, .iload 4, .iload 2, .invokevirtual 806, .ireturn])]
def ex_b88 : List (Nat × List Instr) := [(0, [.sipush (-1), .istore 1, .sipush 24, .istore 2, .sipush 0, .istore 3, .jsr 7]),
  (7, [.iload 3, .aload 0, .getfield 645, .getfield 1, .invokevirtual 944, .if_icmp .ge 61, .aload 0, .getfield 645, .getfield 1, .iload 3, .sipush 0, .invokevirtual 994, .istore 4, .iload 4, .iload 2, .if_icmp .ge 55, .aload 0, .iload 3, .sipush 0, .invokevirtual 1394, .ifCond .eq 55, .iload 4, .istore 2, .iload 3, .istore 1, .jsr 55]),
  (55, [.iinc 3 1, .goto 7]),
  (61, [.iload 1, .ireturn])]
def ex_b89 : List (Nat × List Instr) := [(0, [.sipush 0, .istore 5, .sipush 0, .istore 6, .jsr 6]),
  (6, [.iload 6, .sipush 4, .if_icmp .ge 46, .aload 0, .getfield 644, .aload 0, .getfield 643, .iload 1, .iload 2, .iload 3, .sipush 4, .iload 4, .imul, .iload 6, .iadd, .sipush 0, .invokevirtual 806, .ifCond .eq 40, .iinc 5 1, .jsr 40]),
  (40, [.iinc 6 1, .goto 6]),
  (46, [.iload 5, .ifCond .ne 53, .sipush 0, .ireturn]),
  (53, [.iload 5, .sipush 4, .if_icmp .ge 63, .sipush 1, .goto 64]),
  (63, [.sipush 2, .jsr 64]),
  (64, [.ireturn])]
def ex_b90 : List (Nat × List Instr) := [(0, [.sipush 0, .istore 1, .sipush (-3), .istore 2, .jsr 5]),
  (5, [.iload 2, .sipush 3, .if_icmp .gt 32, .aload 0, .iload 2, .invokevirtual 1457, .ifCond .eq 26, .iload 1, .sipush 1, .iload 2, .sipush 3, .iadd, .ishl, .ior, .istore 1, .jsr 26]),
  (26, [.iinc 2 1, .goto 5]),
  (32, [.iload 1, .ireturn])]
def ex_b91 : List (Nat × List Instr) := [(0, [.sipush 0, .istore 2, .jsr 2]),
  (2, [.iload 2, .aload 0, .getfield 645, .getfield 3, .invokevirtual 944, .if_icmp .ge 59, .aload 0, .getfield 643, .aload 0, .getfield 645, .getfield 3, .iload 2, .sipush 0, .invokevirtual 994, .iload 1, .invokevirtual 322, .aload 0, .getfield 645, .getfield 3, .iload 2, .sipush 1, .invokevirtual 994, .if_icmp .eq 53, .sipush 0, .areturn]),
  (53, [.iinc 2 1, .goto 2]),
  (59, [.sipush 1, .areturn])]
def ex_b92 : List (Nat × List Instr) := [(0, [.iload 1, .aload 0, .arraylength, .if_icmp .ge 12, .aload 0, .iload 1, .iaload, .goto 20]),
  (12, [.sipush 7919, .iload 1, .imul, .sipush 13, .iadd, .jsr 20]),
  (20, [.sipush 2147483647, .iand, .ireturn])]
def ex_b93 : List (Nat × List Instr) := [(0, [.aload 0, .iload 1, .i2l, .invokevirtual 1073, .ifCond .le 13, .sipush 1, .goto 14]),
  (13, [.sipush 0, .jsr 14]),
  (14, [.areturn])]
def ex_b94 : List (Nat × List Instr) := [(0, [.iload 1, .sipush 10, .if_icmp .lt 20, .aload 0, .sipush 48, .iload 1, .sipush 10, .idiv, .iadd, .invokestatic 1490, .ifCond .eq 38, .jsr 20]),
  (20, [.aload 0, .sipush 48, .iload 1, .sipush 10, .irem, .iadd, .invokestatic 1490, .ifCond .eq 38, .sipush 1, .goto 39]),
  (38, [.sipush 0, .jsr 39]),
  (39, [.areturn])]
def ex_b95 : List (Nat × List Instr) := [(0, [.aload 3, .sipush 0, .sipush 2, .aload 1, .iload 2, .invokestatic 1474, .sipush 3, .irem, .iadd, .iastore, .aload 3, .sipush 1, .sipush 2, .aload 1, .iload 2, .invokestatic 1474, .sipush 4, .idiv, .sipush 5, .irem, .iadd, .iastore, .sipush 1, .istore 5, .sipush 0, .istore 6, .jsr 32]),
  (32, [.iload 6, .aload 3, .sipush 0, .iaload, .if_icmp .ge 301, .aload 3, .sipush 2, .iload 6, .iadd, .aload 1, .iload 2, .invokestatic 1474, .iload 6, .ifCond .ne 60, .sipush 64, .goto 86]),
  (60, [.iload 6, .sipush 1, .if_icmp .ne 72, .sipush 512, .goto 86]),
  (72, [.iload 6, .sipush 2, .if_icmp .ne 84, .sipush 4096, .goto 86]),
  (84, [.sipush 32768, .jsr 86]),
  (86, [.idiv, .aload 3, .sipush 1, .iaload, .sipush 1, .iadd, .irem, .iastore, .iload 5, .ifCond .eq 135, .iload 6, .ifCond .eq 113, .aload 0, .sipush 47, .invokestatic 1490, .ifCond .eq 135, .jsr 113]),
  (113, [.aload 3, .sipush 2, .iload 6, .iadd, .iaload, .ifCond .gt 131, .aload 0, .sipush 124, .invokestatic 1490, .ifCond .eq 135, .jsr 131]),
  (131, [.sipush 1, .goto 136]),
  (135, [.sipush 0, .jsr 136]),
  (136, [.istore 5, .sipush 0, .istore 7, .jsr 141]),
  (141, [.iload 7, .aload 3, .sipush 1, .iaload, .if_icmp .ge 295, .aload 3, .sipush 1, .iaload, .iload 6, .imul, .iload 7, .iadd, .istore 8, .aload 1, .iload 2, .sipush 1, .iadd, .iload 8, .sipush 8, .idiv, .iadd, .invokestatic 1474, .sipush 3, .iload 8, .sipush 8, .irem, .imul, .ishr, .sipush 7, .iand, .istore 9, .aload 4, .iload 8, .iload 8, .ifCond .eq 202, .iload 9, .sipush 6, .if_icmp .ge 206, .jsr 202]),
  (202, [.sipush 0, .goto 218]),
  (206, [.iload 9, .sipush 6, .if_icmp .ne 217, .sipush 1, .goto 218]),
  (217, [.sipush 2, .jsr 218]),
  (218, [.iastore, .iload 5, .ifCond .eq 286, .aload 0, .aload 4, .iload 8, .iaload, .ifCond .ne 238, .sipush 46, .goto 254]),
  (238, [.aload 4, .iload 8, .iaload, .sipush 1, .if_icmp .ne 252, .sipush 35, .goto 254]),
  (252, [.sipush 100, .jsr 254]),
  (254, [.invokestatic 1490, .ifCond .eq 286, .aload 3, .sipush 2, .iload 6, .iadd, .iaload, .iload 7, .sipush 1, .iadd, .if_icmp .ne 282, .aload 0, .sipush 124, .invokestatic 1490, .ifCond .eq 286, .jsr 282]),
  (282, [.sipush 1, .goto 287]),
  (286, [.sipush 0, .jsr 287]),
  (287, [.istore 5, .iinc 7 1, .goto 141]),
  (295, [.iinc 6 1, .goto 32]),
  (301, [.iload 5, .ifCond .eq 338, .aload 0, .sipush 0, .invokevirtual 1089, .aload 0, .sipush 6, .invokevirtual 1313, .if_icmp .ne 338, .aload 0, .invokevirtual 1104, .aload 3, .sipush 0, .iaload, .aload 3, .sipush 1, .iaload, .imul, .if_icmp .ne 338, .sipush 1, .goto 339]),
  (338, [.sipush 0, .jsr 339]),
  (339, [.areturn])]
def ex_b96 : List (Nat × List Instr) := [(0, [.aload 3, .sipush 5, .iload 2, .imul, .iload 1, .sipush 2, .irem, .iastore, .aload 3, .sipush 5, .iload 2, .imul, .sipush 1, .iadd, .iload 1, .sipush 2, .idiv, .sipush 6, .irem, .iastore, .aload 3, .sipush 5, .iload 2, .imul, .sipush 2, .iadd, .iload 1, .sipush 16, .idiv, .sipush 24, .irem, .iastore, .aload 3, .sipush 5, .iload 2, .imul, .sipush 3, .iadd, .iload 1, .sipush 512, .idiv, .sipush 24, .irem, .iastore, .aload 3, .sipush 5, .iload 2, .imul, .sipush 4, .iadd, .iload 1, .sipush 16384, .idiv, .sipush 5, .irem, .iastore, .aload 3, .sipush 5, .iload 2, .imul, .sipush 4, .iadd, .iaload, .istore 4, .aload 0, .iload 1, .sipush 2, .irem, .ifCond .ne 85, .sipush 119, .goto 87]),
  (85, [.sipush 101, .jsr 87]),
  (87, [.invokestatic 1490, .ifCond .eq 198, .aload 0, .sipush 97, .aload 3, .sipush 5, .iload 2, .imul, .sipush 1, .iadd, .iaload, .iadd, .invokestatic 1490, .ifCond .eq 198, .aload 0, .aload 3, .sipush 5, .iload 2, .imul, .sipush 2, .iadd, .iaload, .invokestatic 1506, .ifCond .eq 198, .aload 0, .sipush 45, .invokestatic 1490, .ifCond .eq 198, .aload 0, .aload 3, .sipush 5, .iload 2, .imul, .sipush 3, .iadd, .iaload, .invokestatic 1506, .ifCond .eq 198, .iload 4, .ifCond .eq 194, .aload 0, .iload 4, .sipush 1, .if_icmp .ne 164, .sipush 104, .goto 188]),
  (164, [.iload 4, .sipush 2, .if_icmp .ne 175, .sipush 110, .goto 188]),
  (175, [.iload 4, .sipush 3, .if_icmp .ne 186, .sipush 102, .goto 188]),
  (186, [.sipush 111, .jsr 188]),
  (188, [.invokestatic 1490, .ifCond .eq 198, .jsr 194]),
  (194, [.sipush 1, .goto 199]),
  (198, [.sipush 0, .jsr 199]),
  (199, [.istore 5, .iload 5, .ifCond .eq 232, .aload 0, .sipush 1, .invokevirtual 1089, .aload 0, .sipush 6, .invokevirtual 1313, .if_icmp .ne 232, .aload 0, .invokevirtual 1120, .iload 2, .if_icmp .ne 232, .sipush 1, .goto 233]),
  (232, [.sipush 0, .jsr 233]),
  (233, [.areturn])]
def ex_b97 : List (Nat × List Instr) := [(0, [.iload 1, .aload 0, .sipush 1, .iaload, .idiv, .iload 2, .ifCond .ne 13, .sipush (-1), .goto 23]),
  (13, [.iload 2, .sipush 2, .if_icmp .ne 22, .sipush 1, .goto 23]),
  (22, [.sipush 0, .jsr 23]),
  (23, [.iadd, .istore 3, .iload 1, .aload 0, .sipush 1, .iaload, .irem, .iload 2, .sipush 1, .if_icmp .ne 39, .sipush 1, .goto 49]),
  (39, [.iload 2, .sipush 3, .if_icmp .ne 48, .sipush (-1), .goto 49]),
  (48, [.sipush 0, .jsr 49]),
  (49, [.iadd, .istore 4, .iload 3, .ifCond .lt 76, .iload 3, .aload 0, .sipush 0, .iaload, .if_icmp .eq 76, .iload 4, .ifCond .lt 76, .iload 4, .aload 0, .sipush 1, .iaload, .if_icmp .ne 80, .jsr 76]),
  (76, [.sipush (-1), .goto 88]),
  (80, [.aload 0, .sipush 1, .iaload, .iload 3, .imul, .iload 4, .iadd, .jsr 88]),
  (88, [.ireturn])]
def ex_b98 : List (Nat × List Instr) := [(0, [.aload 0, .iload 2, .iload 3, .invokestatic 1555, .istore 4, .iload 4, .ifCond .lt 21, .aload 1, .iload 4, .iaload, .sipush 1, .if_icmp .ne 25, .jsr 21]),
  (21, [.iload 2, .goto 27]),
  (25, [.iload 4, .jsr 27]),
  (27, [.ireturn])]
def ex_b99 : List (Nat × List Instr) := [(0, [.aload 0, .sipush 2, .iload 1, .aload 0, .sipush 1, .iaload, .idiv, .iadd, .iaload, .iload 2, .iadd, .istore 3, .iload 1, .aload 0, .sipush 1, .iaload, .irem, .iload 3, .if_icmp .ge 25, .sipush 0, .goto 26]),
  (25, [.sipush 1, .jsr 26]),
  (26, [.ireturn])]
def ex_b100 : List (Nat × List Instr) := [(0, [.aload 0, .sipush 0, .iaload, .aload 0, .sipush 1, .iaload, .imul, .istore 7, .sipush 0, .istore 8, .jsr 12]),
  (12, [.iload 8, .sipush 24, .if_icmp .ge 43, .aload 6, .iload 8, .iload 8, .iload 2, .if_icmp .ne 33, .sipush 0, .goto 36]),
  (33, [.sipush 9999, .jsr 36]),
  (36, [.iastore, .iinc 8 1, .goto 12]),
  (43, [.sipush 0, .istore 8, .jsr 46]),
  (46, [.iload 8, .iload 7, .if_icmp .ge 235, .sipush 0, .istore 9, .jsr 56]),
  (56, [.iload 9, .iload 7, .if_icmp .ge 229, .sipush 0, .istore 10, .jsr 66]),
  (66, [.iload 10, .sipush 4, .if_icmp .ge 223, .aload 1, .iload 9, .iaload, .sipush 1, .if_icmp .eq 223, .iload 9, .iload 3, .if_icmp .eq 102, .iload 9, .iload 2, .if_icmp .eq 223, .iload 4, .iload 9, .ishr, .sipush 1, .iand, .ifCond .ne 223, .jsr 102]),
  (102, [.aload 0, .iload 9, .iload 10, .invokestatic 1555, .istore 11, .iload 11, .ifCond .lt 145, .aload 1, .iload 11, .iaload, .sipush 1, .if_icmp .eq 145, .iload 11, .iload 2, .if_icmp .eq 141, .iload 4, .iload 11, .ishr, .sipush 1, .iand, .ifCond .ne 145, .jsr 141]),
  (141, [.sipush 1, .goto 146]),
  (145, [.sipush 0, .jsr 146]),
  (146, [.istore 12, .iload 12, .ifCond .eq 187, .aload 6, .iload 11, .iaload, .sipush 1, .iadd, .aload 0, .iload 9, .sipush 0, .invokestatic 1587, .aload 0, .iload 11, .sipush 0, .invokestatic 1587, .if_icmp .ne 181, .sipush 0, .goto 183]),
  (181, [.iload 5, .jsr 183]),
  (183, [.iadd, .goto 190]),
  (187, [.sipush 9999, .jsr 190]),
  (190, [.istore 13, .aload 6, .iload 9, .iload 13, .aload 6, .iload 9, .iaload, .if_icmp .ge 211, .iload 13, .goto 216]),
  (211, [.aload 6, .iload 9, .iaload, .jsr 216]),
  (216, [.iastore, .iinc 10 1, .goto 66]),
  (223, [.iinc 9 1, .goto 56]),
  (229, [.iinc 8 1, .goto 46]),
  (235, [.return_])]
def ex_b101 : List (Nat × List Instr) := [(0, [.sipush 24, .anewarray 51, .astore 3, .sipush (-1), .istore 4, .aload 1, .iload 2, .iaload, .sipush 1, .if_icmp .ne 17, .sipush (-1), .ireturn]),
  (17, [.aload 0, .aload 1, .iload 2, .sipush (-1), .sipush 0, .sipush 0, .aload 3, .invokestatic 1607, .aload 0, .sipush 0, .iaload, .aload 0, .sipush 1, .iaload, .imul, .sipush 1, .isub, .istore 5, .jsr 38]),
  (38, [.iload 5, .ifCond .lt 92, .aload 1, .iload 5, .iaload, .sipush 2, .if_icmp .ne 82, .aload 3, .iload 5, .iaload, .sipush 9999, .if_icmp .ge 82, .iload 4, .ifCond .lt 77, .aload 3, .iload 5, .iaload, .aload 3, .iload 4, .iaload, .if_icmp .gt 82, .jsr 77]),
  (77, [.iload 5, .goto 84]),
  (82, [.iload 4, .jsr 84]),
  (84, [.istore 4, .iinc 5 (-1), .goto 38]),
  (92, [.iload 4, .ireturn])]
def ex_b102 : List (Nat × List Instr) := [(0, [.sipush 0, .istore 3, .jsr 2]),
  (2, [.iload 3, .aload 0, .sipush 0, .iaload, .aload 0, .sipush 1, .iaload, .imul, .if_icmp .ge 41, .aload 0, .aload 1, .iload 3, .invokestatic 1619, .istore 4, .aload 2, .iload 3, .iload 4, .ifCond .ge 32, .iload 3, .goto 34]),
  (32, [.iload 4, .jsr 34]),
  (34, [.iastore, .iinc 3 1, .goto 2]),
  (41, [.return_])]
def ex_b103 : List (Nat × List Instr) := [(0, [.sipush 0, .istore 11, .aload 0, .aload 1, .iload 9, .iload 10, .invokestatic 1572, .istore 12, .sipush 0, .istore 13, .jsr 17]),
  (17, [.iload 13, .iload 4, .if_icmp .ge 330, .aload 3, .sipush 5, .iload 13, .imul, .sipush 2, .iadd, .iaload, .istore 14, .aload 3, .sipush 5, .iload 13, .imul, .sipush 3, .iadd, .iaload, .istore 15, .iload 14, .iload 15, .if_icmp .eq 76, .iload 7, .iload 14, .isub, .sipush 24, .iadd, .sipush 24, .irem, .iload 15, .iload 14, .isub, .sipush 24, .iadd, .sipush 24, .irem, .if_icmp .ge 80, .jsr 76]),
  (76, [.sipush 1, .goto 81]),
  (80, [.sipush 0, .jsr 81]),
  (81, [.istore 16, .aload 3, .sipush 5, .iload 13, .imul, .iaload, .istore 17, .aload 0, .iload 9, .iload 5, .invokestatic 1587, .iload 17, .if_icmp .ne 108, .sipush 1, .goto 109]),
  (108, [.sipush 0, .jsr 109]),
  (109, [.istore 18, .aload 0, .iload 8, .sipush 1, .if_icmp .ne 123, .iload 12, .goto 125]),
  (123, [.iload 9, .jsr 125]),
  (125, [.iload 5, .invokestatic 1587, .iload 17, .if_icmp .ne 139, .sipush 1, .goto 140]),
  (139, [.sipush 0, .jsr 140]),
  (140, [.istore 19, .aload 0, .iload 8, .ifCond .ne 153, .iload 9, .goto 155]),
  (153, [.iload 12, .jsr 155]),
  (155, [.iload 5, .invokestatic 1587, .iload 17, .if_icmp .ne 169, .sipush 1, .goto 170]),
  (169, [.sipush 0, .jsr 170]),
  (170, [.istore 20, .aload 0, .iload 8, .ifCond .ne 183, .iload 12, .goto 185]),
  (183, [.iload 9, .jsr 185]),
  (185, [.iload 5, .invokestatic 1587, .iload 17, .if_icmp .ne 199, .sipush 1, .goto 200]),
  (199, [.sipush 0, .jsr 200]),
  (200, [.istore 21, .aload 3, .sipush 5, .iload 13, .imul, .sipush 4, .iadd, .iaload, .istore 22, .iload 22, .ifCond .eq 281, .iload 22, .sipush 1, .if_icmp .ne 228, .iload 18, .ifCond .ne 281, .jsr 228]),
  (228, [.iload 22, .sipush 2, .if_icmp .ne 239, .iload 21, .ifCond .ne 281, .jsr 239]),
  (239, [.iload 22, .sipush 3, .if_icmp .ne 260, .iload 18, .ifCond .eq 260, .iload 19, .ifCond .eq 260, .iload 20, .ifCond .ne 281, .jsr 260]),
  (260, [.iload 22, .sipush 4, .if_icmp .ne 285, .aload 0, .aload 2, .iload 9, .iaload, .iload 5, .invokestatic 1587, .iload 17, .if_icmp .ne 285, .jsr 281]),
  (281, [.sipush 1, .goto 286]),
  (285, [.sipush 0, .jsr 286]),
  (286, [.istore 23, .iload 11, .iload 16, .ifCond .eq 320, .iload 23, .ifCond .eq 320, .iload 6, .aload 3, .sipush 5, .iload 13, .imul, .sipush 1, .iadd, .iaload, .if_icmp .ne 320, .sipush 1, .iload 13, .ishl, .goto 321]),
  (320, [.sipush 0, .jsr 321]),
  (321, [.ior, .istore 11, .iinc 13 1, .goto 17]),
  (330, [.iload 11, .ireturn])]
def ex_b104 : List (Nat × List Instr) := [(30, [.aload 1, .aload 0, .sipush 0, .aload 2, .aload 3, .invokestatic 1525, .ifCond .ne 43, .sipush 0, .areturn]),
  (43, [.aload 2, .sipush 0, .iaload, .aload 2, .sipush 1, .iaload, .imul, .istore 6, .aload 2, .aload 3, .aload 4, .invokestatic 1635, .sipush 0, .istore 7, .jsr 62]),
  (62, [.iload 7, .iload 6, .if_icmp .ge 136, .aload 1, .iload 7, .sipush 0, .invokevirtual 1170, .aload 3, .iload 7, .iaload, .if_icmp .ne 128, .aload 1, .iload 7, .sipush 1, .invokevirtual 1170, .aload 2, .iload 7, .sipush 0, .invokestatic 1587, .if_icmp .ne 128, .aload 1, .iload 7, .sipush 2, .invokevirtual 1170, .sipush (-1), .if_icmp .ne 128, .aload 1, .iload 7, .sipush 3, .invokevirtual 1170, .aload 2, .aload 3, .iload 7, .invokestatic 1619, .if_icmp .eq 130, .jsr 128]),
  (128, [.sipush 0, .areturn]),
  (130, [.iinc 7 1, .goto 62]),
  (136, [.aload 0, .sipush 4, .invokestatic 1474, .sipush 9, .irem, .istore 7, .sipush 0, .istore 8, .jsr 149]),
  (149, [.iload 8, .iload 7, .if_icmp .ge 273, .aload 1, .aload 0, .sipush 5, .iload 8, .iadd, .invokestatic 1474, .iload 8, .aload 5, .invokestatic 1540, .ifCond .ne 177, .sipush 0, .areturn]),
  (177, [.sipush 0, .istore 9, .jsr 180]),
  (180, [.iload 9, .sipush 5, .if_icmp .ge 267, .aload 5, .sipush 5, .iload 8, .imul, .sipush 4, .iadd, .iaload, .istore 10, .aload 1, .iload 8, .iload 9, .invokevirtual 1138, .aload 5, .sipush 5, .iload 8, .imul, .iload 9, .iadd, .iaload, .if_icmp .ne 259, .aload 1, .iload 8, .iload 9, .invokevirtual 1154, .iload 9, .ifCond .eq 250, .iload 9, .iload 10, .if_icmp .eq 250, .iload 9, .sipush 1, .if_icmp .ne 255, .iload 10, .sipush 3, .if_icmp .ne 255, .jsr 250]),
  (250, [.iload 8, .goto 256]),
  (255, [.sipush (-1), .jsr 256]),
  (256, [.if_icmp .eq 261, .jsr 259]),
  (259, [.sipush 0, .areturn]),
  (261, [.iinc 9 1, .goto 180]),
  (267, [.iinc 8 1, .goto 149]),
  (273, [.sipush 60, .anewarray 50, .astore 8, .sipush 0, .istore 9, .sipush (-1), .istore 10, .sipush (-1), .istore 11, .sipush 0, .istore 12, .jsr 291]),
  (291, [.iload 12, .sipush 14, .if_icmp .ge 910, .aload 0, .sipush 13, .iload 12, .iadd, .invokestatic 1474, .istore 13, .iload 13, .iload 6, .irem, .istore 14, .iload 13, .sipush 32, .idiv, .sipush 4, .irem, .istore 15, .iload 13, .sipush 128, .idiv, .sipush 3, .irem, .istore 16, .iload 13, .sipush 512, .idiv, .sipush 24, .irem, .istore 17, .iload 7, .ifCond .le 380, .iload 13, .sipush 16384, .idiv, .sipush 3, .irem, .ifCond .le 380, .jsr 362]),
  (362, [.aload 5, .sipush 5, .iload 13, .sipush 65536, .idiv, .iload 7, .irem, .imul, .sipush 1, .iadd, .iaload, .goto 388]),
  (380, [.iload 13, .sipush 65536, .idiv, .sipush 6, .irem, .jsr 388]),
  (388, [.istore 18, .aload 3, .iload 14, .iaload, .sipush 1, .if_icmp .ne 454, .aload 1, .iload 16, .iload 14, .iload 15, .sipush 0, .invokevirtual 1188, .sipush (-101), .if_icmp .ne 452, .aload 1, .iload 18, .iload 17, .iload 16, .iload 14, .iload 15, .invokevirtual 1205, .sipush (-101), .if_icmp .ne 452, .aload 1, .iload 17, .iload 18, .iload 16, .iload 14, .iload 15, .invokevirtual 1221, .sipush (-101), .if_icmp .eq 746, .jsr 452]),
  (452, [.sipush 0, .areturn]),
  (454, [.aload 2, .aload 3, .iload 14, .iload 15, .invokestatic 1572, .istore 19, .aload 1, .iload 16, .iload 14, .iload 15, .sipush 0, .invokevirtual 1188, .iload 14, .if_icmp .ne 560, .aload 1, .iload 16, .iload 14, .iload 15, .sipush 1, .invokevirtual 1188, .iload 16, .ifCond .ne 502, .iload 19, .goto 504]),
  (502, [.iload 14, .jsr 504]),
  (504, [.if_icmp .ne 560, .aload 1, .iload 16, .iload 14, .iload 15, .sipush 2, .invokevirtual 1188, .iload 16, .sipush 1, .if_icmp .ne 529, .iload 19, .goto 531]),
  (529, [.iload 14, .jsr 531]),
  (531, [.if_icmp .ne 560, .aload 1, .iload 16, .iload 14, .iload 15, .sipush 3, .invokevirtual 1188, .iload 16, .ifCond .ne 555, .iload 14, .goto 557]),
  (555, [.iload 19, .jsr 557]),
  (557, [.if_icmp .eq 562, .jsr 560]),
  (560, [.sipush 0, .areturn]),
  (562, [.aload 2, .aload 3, .aload 4, .aload 5, .iload 7, .sipush 0, .iload 18, .iload 17, .iload 16, .iload 14, .iload 15, .invokestatic 1659, .istore 20, .aload 1, .iload 18, .iload 17, .iload 16, .iload 14, .iload 15, .invokevirtual 1205, .iload 20, .if_icmp .ne 636, .aload 1, .iload 17, .iload 18, .iload 16, .iload 14, .iload 15, .invokevirtual 1221, .iload 9, .sipush 12, .if_icmp .ne 631, .sipush (-104), .goto 633]),
  (631, [.iload 9, .jsr 633]),
  (633, [.if_icmp .eq 638, .jsr 636]),
  (636, [.sipush 0, .areturn]),
  (638, [.iload 9, .sipush 12, .if_icmp .ge 746, .iload 20, .ifCond .eq 690, .iload 10, .ifCond .lt 667, .iload 17, .aload 8, .sipush 5, .iload 10, .imul, .iaload, .if_icmp .ge 690, .jsr 667]),
  (667, [.iload 9, .istore 10, .sipush 0, .istore 11, .jsr 674]),
  (674, [.iload 20, .iload 11, .ishr, .sipush 1, .iand, .ifCond .ne 690, .iinc 11 1, .goto 674]),
  (690, [.aload 8, .sipush 5, .iload 9, .imul, .iload 17, .iastore, .aload 8, .sipush 5, .iload 9, .imul, .sipush 1, .iadd, .iload 18, .iastore, .aload 8, .sipush 5, .iload 9, .imul, .sipush 2, .iadd, .iload 16, .iastore, .aload 8, .sipush 5, .iload 9, .imul, .sipush 3, .iadd, .iload 14, .iastore, .aload 8, .sipush 5, .iload 9, .imul, .sipush 4, .iadd, .iload 15, .iastore, .iinc 9 1, .jsr 746]),
  (746, [.sipush 3, .anewarray 52, .astore 19, .sipush 0, .istore 20, .jsr 754]),
  (754, [.iload 20, .iload 6, .if_icmp .ge 867, .sipush 0, .istore 21, .sipush 0, .istore 22, .jsr 767]),
  (767, [.iload 22, .sipush 4, .if_icmp .ge 822, .aload 3, .iload 20, .iaload, .sipush 1, .if_icmp .eq 822, .iload 21, .aload 2, .aload 3, .aload 4, .aload 5, .iload 7, .sipush 0, .iload 18, .iload 17, .iload 16, .iload 20, .iload 22, .invokestatic 1659, .ifCond .ne 812, .sipush 0, .goto 813]),
  (812, [.sipush 1, .jsr 813]),
  (813, [.iadd, .istore 21, .iinc 22 1, .goto 767]),
  (822, [.aload 19, .iload 21, .ifCond .ne 833, .sipush 0, .goto 844]),
  (833, [.iload 21, .sipush 4, .if_icmp .ge 843, .sipush 1, .goto 844]),
  (843, [.sipush 2, .jsr 844]),
  (844, [.dup2, .iaload, .aload 3, .iload 20, .iaload, .sipush 1, .if_icmp .ne 858, .sipush 0, .goto 859]),
  (858, [.sipush 1, .jsr 859]),
  (859, [.iadd, .iastore, .iinc 20 1, .goto 754]),
  (867, [.sipush 0, .istore 20, .jsr 870]),
  (870, [.iload 20, .sipush 3, .if_icmp .ge 904, .aload 1, .iload 18, .iload 17, .iload 16, .iload 20, .invokevirtual 1252, .aload 19, .iload 20, .iaload, .if_icmp .eq 898, .sipush 0, .areturn]),
  (898, [.iinc 20 1, .goto 870]),
  (904, [.iinc 12 1, .goto 291]),
  (910, [.aload 1, .sipush 0, .invokevirtual 1233, .iload 10, .if_icmp .ne 940, .aload 1, .sipush 1, .invokevirtual 1233, .iload 11, .if_icmp .ne 940, .aload 1, .sipush 2, .invokevirtual 1313, .iload 9, .if_icmp .eq 942, .jsr 940]),
  (940, [.sipush 0, .areturn]),
  (942, [.sipush (-3), .istore 12, .jsr 946]),
  (946, [.iload 12, .sipush 4, .if_icmp .ge 1062, .sipush 0, .istore 13, .sipush 0, .istore 14, .jsr 958]),
  (958, [.iload 14, .iload 9, .if_icmp .ge 1043, .iload 13, .aload 2, .aload 3, .aload 4, .aload 5, .iload 7, .iload 12, .aload 8, .sipush 5, .iload 14, .imul, .sipush 1, .iadd, .iaload, .aload 8, .sipush 5, .iload 14, .imul, .iaload, .aload 8, .sipush 5, .iload 14, .imul, .sipush 2, .iadd, .iaload, .aload 8, .sipush 5, .iload 14, .imul, .sipush 3, .iadd, .iaload, .aload 8, .sipush 5, .iload 14, .imul, .sipush 4, .iadd, .iaload, .invokestatic 1659, .ifCond .ne 1030, .jsr 1026]),
  (1026, [.sipush 0, .goto 1034]),
  (1030, [.sipush 1, .iload 14, .ishl, .jsr 1034]),
  (1034, [.ior, .istore 13, .iinc 14 1, .goto 958]),
  (1043, [.aload 1, .iload 12, .invokevirtual 1265, .iload 13, .if_icmp .eq 1056, .sipush 0, .areturn]),
  (1056, [.iinc 12 1, .goto 946]),
  (1062, [.sipush 127, .istore 12, .aload 0, .sipush 27, .invokestatic 1474, .sipush 7, .irem, .sipush 3, .isub, .istore 13, .aload 0, .sipush 28, .invokestatic 1474, .sipush 11, .irem, .istore 14, .sipush 0, .istore 15, .jsr 1093]),
  (1093, [.iload 15, .iload 14, .if_icmp .ge 1220, .aload 0, .sipush 29, .iload 15, .iadd, .invokestatic 1474, .istore 16, .iload 16, .iload 6, .irem, .istore 17, .iload 16, .sipush 32, .idiv, .sipush 9, .irem, .ifCond .ne 1140, .iload 16, .sipush 512, .idiv, .sipush 2, .irem, .goto 1148]),
  (1140, [.aload 2, .iload 17, .iload 13, .invokestatic 1587, .jsr 1148]),
  (1148, [.istore 18, .aload 1, .iload 17, .iload 18, .invokevirtual 1282, .iload 15, .sipush 1, .iadd, .if_icmp .eq 1167, .sipush 0, .areturn]),
  (1167, [.sipush (-3), .istore 19, .jsr 1171]),
  (1171, [.iload 19, .sipush 4, .if_icmp .ge 1214, .iload 12, .aload 2, .iload 17, .iload 19, .invokestatic 1587, .iload 18, .if_icmp .ne 1197, .sipush 127, .goto 1205]),
  (1197, [.sipush 1, .iload 19, .sipush 3, .iadd, .ishl, .sipush (-1), .ixor, .jsr 1205]),
  (1205, [.iand, .istore 12, .iinc 19 1, .goto 1171]),
  (1214, [.iinc 15 1, .goto 1093]),
  (1220, [.aload 1, .invokevirtual 1296, .iload 12, .if_icmp .ne 1546, .aload 1, .iload 6, .sipush 0, .invokevirtual 1170, .sipush (-101), .if_icmp .ne 1546, .aload 1, .sipush 0, .sipush 4, .invokevirtual 1170, .sipush (-102), .if_icmp .ne 1546, .aload 1, .sipush 3, .sipush 0, .sipush 0, .sipush 0, .invokevirtual 1188, .sipush (-102), .if_icmp .ne 1546, .aload 1, .sipush 0, .sipush 0, .sipush 4, .sipush 0, .invokevirtual 1188, .sipush (-102), .if_icmp .ne 1546, .aload 1, .sipush 0, .sipush 0, .sipush 0, .sipush 4, .invokevirtual 1188, .sipush (-102), .if_icmp .ne 1546, .jsr 1291]),
  (1291, [.aload 1, .sipush 0, .iload 6, .sipush 0, .sipush 0, .invokevirtual 1188, .sipush (-101), .if_icmp .ne 1546, .aload 1, .sipush 6, .sipush 0, .sipush 0, .sipush 0, .sipush 0, .invokevirtual 1205, .sipush (-102), .if_icmp .ne 1546, .aload 1, .sipush 0, .sipush 24, .sipush 0, .sipush 0, .sipush 0, .invokevirtual 1205, .sipush (-102), .if_icmp .ne 1546, .aload 1, .sipush 0, .sipush 0, .sipush 3, .sipush 0, .sipush 0, .invokevirtual 1205, .sipush (-102), .if_icmp .ne 1546, .aload 1, .sipush 0, .sipush 0, .sipush 0, .sipush 0, .sipush (-1), .invokevirtual 1205, .sipush (-102), .if_icmp .ne 1546, .jsr 1363]),
  (1363, [.aload 1, .sipush 24, .sipush 0, .sipush 0, .sipush 0, .sipush 0, .invokevirtual 1221, .sipush (-102), .if_icmp .ne 1546, .aload 1, .sipush 0, .sipush (-1), .sipush 0, .sipush 0, .sipush 0, .invokevirtual 1221, .sipush (-102), .if_icmp .ne 1546, .aload 1, .sipush 2, .invokevirtual 1233, .sipush (-102), .if_icmp .ne 1546, .aload 1, .sipush 6, .sipush 0, .sipush 0, .sipush 0, .invokevirtual 1252, .sipush (-102), .if_icmp .ne 1546, .aload 1, .sipush 0, .sipush 0, .sipush 0, .sipush 3, .invokevirtual 1252, .sipush (-102), .if_icmp .ne 1546, .jsr 1429]),
  (1429, [.aload 1, .sipush 4, .invokevirtual 1265, .sipush (-102), .if_icmp .ne 1546, .aload 1, .sipush (-4), .invokevirtual 1265, .sipush (-102), .if_icmp .ne 1546, .aload 1, .iload 6, .sipush 0, .invokevirtual 1282, .sipush (-101), .if_icmp .ne 1546, .aload 1, .sipush 0, .sipush 2, .invokevirtual 1282, .sipush (-102), .if_icmp .ne 1546, .iload 14, .sipush 10, .if_icmp .lt 1491, .aload 1, .sipush 0, .sipush 0, .invokevirtual 1282, .sipush (-104), .if_icmp .ne 1546, .jsr 1491]),
  (1491, [.aload 1, .iload 7, .sipush 0, .invokevirtual 1138, .sipush (-101), .if_icmp .ne 1546, .aload 1, .iload 7, .sipush 0, .invokevirtual 1154, .sipush (-101), .if_icmp .ne 1546, .iload 7, .ifCond .eq 1542, .aload 1, .sipush 0, .sipush 5, .invokevirtual 1138, .sipush (-102), .if_icmp .ne 1546, .aload 1, .sipush 0, .sipush 5, .invokevirtual 1154, .sipush (-102), .if_icmp .ne 1546, .jsr 1542]),
  (1542, [.sipush 1, .goto 1547]),
  (1546, [.sipush 0, .jsr 1547]),
  (1547, [.areturn])]
def ex_bs0 : List (List (Nat × List Instr)) := [ex_b0, ex_b1, ex_b2, ex_b3, ex_b4, ex_b5, ex_b6, ex_b7, ex_b8, ex_b9, ex_b10, ex_b11, ex_b12, ex_b13, ex_b14, ex_b15, ex_b16, ex_b17, ex_b18, ex_b19, ex_b20, ex_b21, ex_b22, ex_b23, ex_b24, ex_b25, ex_b26, ex_b27, ex_b28, ex_b29, ex_b30, ex_b31, ex_b32, ex_b33, ex_b34, ex_b35, ex_b36, ex_b37, ex_b38, ex_b39]
def ex_bs1 : List (List (Nat × List Instr)) := [ex_b40, ex_b41, ex_b42, ex_b43, ex_b44, ex_b45, ex_b46, ex_b47, ex_b48, ex_b49, ex_b50, ex_b51, ex_b52, ex_b53, ex_b54, ex_b55, ex_b56, ex_b57, ex_b58, ex_b59, ex_b60, ex_b61, ex_b62, ex_b63, ex_b64, ex_b65, ex_b66, ex_b67, ex_b68, ex_b69, ex_b70, ex_b71, ex_b72, ex_b73, ex_b74, ex_b75, ex_b76, ex_b77, ex_b78, ex_b79]
def ex_bs2 : List (List (Nat × List Instr)) := [ex_b80, ex_b81, ex_b82, ex_b83, ex_b84, ex_b85, ex_b86, ex_b87, ex_b88, ex_b89, ex_b90, ex_b91, ex_b92, ex_b93, ex_b94, ex_b95, ex_b96, ex_b97, ex_b98, ex_b99, ex_b100, ex_b101, ex_b102, ex_b103, ex_b104]
def ex_bs : List (List (Nat × List Instr)) := ex_bs0 ++ ex_bs1 ++ ex_bs2
end
section
/-! THE PURE MACHINE: integers alone are symbolic; references are numbers of objects (ex_Sh); an array of the law that is made takes its own number anew (ex_dy); w.2: arrays made so far, the script. -/
abbrev PW : Type := (Nat → Nat → Int32) × (Nat × Nat × (Nat → Int32))
abbrev ES : Type := List Instr × List Value × List Value × PW
abbrev ER : Type := Option Value × PW
def ex_up (w : PW) (o k : Nat) (x : Int32) : PW := (fun a b => if a = o ∧ b = k then x else w.1 a b, w.2)
def ex_fk (o e : Nat) : Option Nat := match ex_Sh[o]? with
  | some q => if q.1 = e / 64 then q.2[e % 64]? else none
  | none => none
def ex_cls (o : Nat) : Nat := match ex_Sh[o]? with
  | some q => q.1
  | none => 99
def ex_len (o : Nat) : Nat := match ex_Sh[o]? with
  | some q => q.2.headD 0
  | none => 0
def ex_dsp (x c : Nat) : Option Nat := (ex_D.getD x []).lookup c
def ex_mi (y : Nat) : MethodName × ByteArray × Nat × Option FieldType × Nat := ex_M.getD y (⟨"", "", ""⟩, ⟨#[]⟩, 0, none, 99)
def ex_Y (y : Nat) : MethodName := (ex_mi y).1
def ex_B (y : Nat) : ByteArray := (ex_mi y).2.1
def ex_L (y : Nat) : Nat := (ex_mi y).2.2.1
def ex_ret (y : Nat) : Option FieldType := (ex_mi y).2.2.2.1
def ex_C (y : Nat) : Nat := (ex_mi y).2.2.2.2
def ex_blk (y : Nat) (L : Nat) : List Instr := ((ex_bs.getD y []).lookup L).getD []
def ex_spl : Nat → List Value → List Value → Option (List Value × List Value)
  | 0, as, st => some (as, st)
  | _ + 1, _, [] => none
  | n + 1, as, v :: st => ex_spl n (v :: as) st
def ex_i1 (v : Value) : Bool := match v with
  | .int _ => true
  | _ => false
def ex_low : List Value → Bool
  | [] => true
  | [_] => true
  | [_, _] => true
  | [_, _, _] => true
  | [_, _, _, _] => true
  | [a, b, c, f, _] => ex_i1 a && (ex_i1 b && (ex_i1 c && ex_i1 f))
  | _ => false
def ex_down (j : Nat) : Int32 := if j = 0 then -1 else if j = 2 then 1 else 0
def ex_right (j : Nat) : Int32 := if j = 1 then 1 else if j = 3 then -1 else 0
/-- an int array's element (1000, 1001: the two static ones) -/
def ex_ald (w : PW) (o : Nat) (i : Int32) : Option Int32 :=
  if o = 1000 then (if i < 0 ∨ 4 ≤ i.toNatClampNeg then none else some (ex_down i.toNatClampNeg))
  else if o = 1001 then (if i < 0 ∨ 4 ≤ i.toNatClampNeg then none else some (ex_right i.toNatClampNeg))
  else if o = 2000 then (if i < 0 ∨ w.2.2.1 ≤ i.toNatClampNeg then none else some (w.2.2.2 i.toNatClampNeg))
  else if ex_cls o = 12 then (if i < 0 ∨ ex_len o ≤ i.toNatClampNeg then none else some (w.1 o i.toNatClampNeg)) else none
/-- the arrays that a method makes -/
def ex_dy (y o : Nat) : Bool := (o == 51 && (y == 101 || y == 102)) || ((o == 50 || o == 51 || o == 52) && y == 104)
def ex_al (y : Nat) : Bool := y == 101 || y == 102
def ex_n51 (v : Value) : Bool := match v with
  | .ref o => o != 51 && o != 2500
  | _ => true
/-- what a static call asks: who makes an array anew is called where it is not at hand -/
def ex_cg (z : Nat) (pl r : List Value) : Bool := !ex_al z || (pl.all ex_n51 && r.all ex_n51)
/-- what stands in the code: who calls whom -/
def ex_cy (y z : Nat) : Bool := (!ex_al z || ex_dy y 51) && (decide (ex_L z ≤ 14) || y == 104)
def ex_scr (o : Nat) (v : Value) : Value := match v with
  | .ref a => if a = o ∨ a = 2500 then .null else .ref a
  | v => v
def ex_zr (w : PW) (o : Nat) : PW := (fun a b => if a = o then 0 else w.1 a b, w.2.1 + 1, w.2.2)
def ex_lks : List (Int × Int) → Int → Int → Int
  | [], d, _ => d
  | q :: r, d, x => if x = q.1 then q.2 else ex_lks r d x
def ex_go (c : List Instr) (pl st : List Value) (w : PW) : Option (ER ⊕ ES) := some (.inr (c, pl, st, w))
def ex_ii (f : Int32 → Int32 → Int32) (c : List Instr) (pl st : List Value) (w : PW) : Option (ER ⊕ ES) := match st with
  | .int y :: .int x :: r => ex_go c pl (.int (f x y) :: r) w
  | _ => none
def ex_ll (f : Int64 → Int64 → Int64) (c : List Instr) (pl st : List Value) (w : PW) : Option (ER ⊕ ES) := match st with
  | .long y :: .long x :: r => ex_go c pl (.long (f x y) :: r) w
  | _ => none
def ex_lis (f : Int64 → Int32 → Int64) (c : List Instr) (pl st : List Value) (w : PW) : Option (ER ⊕ ES) := match st with
  | .int y :: .long x :: r => ex_go c pl (.long (f x y) :: r) w
  | _ => none
def ex_store (k : Nat) (v : Value) (c : List Instr) (pl r : List Value) (w : PW) : Option (ER ⊕ ES) := match pl.getD k (.retAddr 0) with
  | .retAddr _ => none
  | _ => ex_go c (pl.set k v) r w
def ex_cnd (c : ClassFile.Cond) (x y : Int32) : Prop := match c with
  | .eq => x = y
  | .ne => ¬ x = y
  | .lt => x < y
  | .ge => y ≤ x
  | .gt => y < x
  | .le => x ≤ y
noncomputable def ex_dec (P : Prop) : Decidable P := Classical.propDecidable P
def ex_cnb (c : ClassFile.Cond) (x y : Int32) : Bool := match c with
  | .eq => decide (x = y)
  | .ne => decide (¬ x = y)
  | .lt => decide (x < y)
  | .ge => decide (y ≤ x)
  | .gt => decide (y < x)
  | .le => decide (x ≤ y)
def ex_back (r : Option ER) (c : List Instr) (pl st : List Value) : Option (ER ⊕ ES) := match r with
  | some (v, w) => ex_go c pl (v.toList ++ st) w
  | none => none
def ex_call (cal : Nat → List Value → PW → Option ER) (y n : Nat) (c : List Instr) (pl st : List Value) (w : PW) : Option (ER ⊕ ES) := match ex_spl n [] st with
  | some (as, r) => if (ex_cg y pl r && ex_low r) = true then ex_back (cal y as w) c pl r else none
  | none => none
def ex_callv (cal : Nat → List Value → PW → Option ER) (y n : Nat) (c : List Instr) (pl st : List Value) (w : PW) : Option (ER ⊕ ES) := match ex_spl n [] st with
  | some (as, r) => match as with
    | .ref _ :: _ => if ex_low r then ex_back (cal y as w) c pl r else none
    | _ => none
  | none => none
def ex_vcall (cal : Nat → List Value → PW → Option ER) (x n : Nat) (c : List Instr) (pl st : List Value) (w : PW) : Option (ER ⊕ ES) := match ex_spl (n + 1) [] st with
  | some (as, r) => match as with
    | .ref o :: _ => match ex_dsp x (ex_cls o) with
      | some y => if ex_low r then ex_back (cal y as w) c pl r else none
      | none => none
    | _ => none
  | none => none
def ex_gf (e : Nat) (c : List Instr) (pl st : List Value) (w : PW) : Option (ER ⊕ ES) := match st with
  | .ref o :: r => match ex_fk o e with
    | some 0 => ex_go c pl (.int (w.1 o (e % 64)) :: r) w
    | some 1 => none
    | some 2 => ex_go c pl (.int (w.1 o (e % 64)) :: r) w
    | some (n + 3) => ex_go c pl (.ref n :: r) w
    | none => none
  | _ => none
def ex_pf (e : Nat) (c : List Instr) (pl st : List Value) (w : PW) : Option (ER ⊕ ES) := match st with
  | .int x :: .ref o :: r => match ex_fk o e with
    | some 0 => ex_go c pl r (ex_up w o (e % 64) x)
    | some 2 => if x = 0 ∨ x = 1 then ex_go c pl r (ex_up w o (e % 64) x) else none
    | _ => none
  | _ => none
def ex_nx (d : Nat) (cal : Nat → List Value → PW → Option ER) (y : Nat) : ES → Option (ER ⊕ ES) := fun s => match s with
  | ([], _) => none
  | (i :: c, pl, st, w) => match i with
    | .iload k => (match pl.getD k .null with | .int x => ex_go c pl (.int x :: st) w | _ => none)
    | .aload k => (match pl.getD k .null with | .ref x => ex_go c pl (.ref x :: st) w | _ => none)
    | .lload k => (match pl.getD k .null with | .long x => ex_go c pl (.long x :: st) w | _ => none)
    | .istore k => (match st with | .int x :: r => ex_store k (.int x) c pl r w | _ => none)
    | .astore k => (match st with | .ref x :: r => ex_store k (.ref x) c pl r w | _ => none)
    | .lstore k => (match st with | .long x :: r => if k + 1 < pl.length then ex_store k (.long x) c (pl.set (k + 1) (.retAddr 0)) r w else none | _ => none)
    | .iinc k n => (match pl.getD k .null with | .int x => ex_go c (pl.set k (.int (x + Int32.ofInt n))) st w | _ => none)
    | .sipush n => ex_go c pl (.int (Int32.ofInt n) :: st) w
    | .goto_w n => ex_go c pl (.long (Int64.ofInt n) :: st) w
    | .iadd => ex_ii (fun x y => x + y) c pl st w
    | .isub => ex_ii (fun x y => x - y) c pl st w
    | .imul => ex_ii (fun x y => x * y) c pl st w
    | .iand => ex_ii (fun x y => x &&& y) c pl st w
    | .ior => ex_ii (fun x y => x ||| y) c pl st w
    | .ixor => ex_ii (fun x y => x ^^^ y) c pl st w
    | .ishl => ex_ii (fun x y => x <<< (y &&& 31)) c pl st w
    | .ishr => ex_ii (fun x y => x >>> (y &&& 31)) c pl st w
    | .idiv => (match st with | .int y :: .int x :: r => if y = 0 then none else ex_go c pl (.int (x / y) :: r) w | _ => none)
    | .irem => (match st with | .int y :: .int x :: r => if y = 0 then none else ex_go c pl (.int (x - x / y * y) :: r) w | _ => none)
    | .ladd => ex_ll (fun x y => x + y) c pl st w
    | .lmul => ex_ll (fun x y => x * y) c pl st w
    | .land => ex_ll (fun x y => x &&& y) c pl st w
    | .lshr => ex_lis (fun x y => x >>> (y.toInt64 &&& 63)) c pl st w
    | .lushr => ex_lis (fun x y => (x.toUInt64 >>> (y.toInt64.toUInt64 &&& Int64.toUInt64 63)).toInt64) c pl st w
    | .i2l => (match st with | .int x :: r => ex_go c pl (.long x.toInt64 :: r) w | _ => none)
    | .l2i => (match st with | .long x :: r => ex_go c pl (.int x.toInt32 :: r) w | _ => none)
    | .i2b => (match st with | .int x :: r => ex_go c pl (.int x.toInt8.toInt32 :: r) w | _ => none)
    | .dup => (match st with | .ref x :: r => ex_go c pl (.ref x :: .ref x :: r) w | .int x :: r => ex_go c pl (.int x :: .int x :: r) w | _ => none)
    | .dup2 => (match st with | .int x :: .ref o :: r => ex_go c pl (.int x :: .ref o :: .int x :: .ref o :: r) w | _ => none)
    | .pop => (match st with | .int _ :: r => ex_go c pl r w | _ => none)
    | .goto L => ex_go (ex_blk y L.toNat) pl st w
    | .jsr L => ex_go (ex_blk y L.toNat) pl st w
    | .if_icmp cd L => (match st with | .int b :: .int a :: r => if ex_cnb cd a b = true then ex_go (ex_blk y L.toNat) pl r w else ex_go c pl r w | _ => none)
    | .ifCond cd L => (match st with | .int a :: r => if ex_cnb cd a 0 = true then ex_go (ex_blk y L.toNat) pl r w else ex_go c pl r w | _ => none)
    | .tableswitch df lo hi offs => (match st with | .int a :: r => if a.toInt < lo ∨ hi < a.toInt then ex_go (ex_blk y df.toNat) pl r w else ex_go (ex_blk y ((offs.toList.getD (a.toInt - lo).toNat 0).toNat)) pl r w | _ => none)
    | .lookupswitch df ps => (match st with | .int a :: r => ex_go (ex_blk y (ex_lks ps.toList df a.toInt).toNat) pl r w | _ => none)
    | .getfield e => ex_gf e c pl st w
    | .putfield e => ex_pf e c pl st w
    | .getstatic o => if o = 1000 ∨ o = 1001 then ex_go c pl (.ref o :: st) w else none
    | .iaload => (match st with | .int i :: .ref o :: r => (match ex_ald w o i with | some x => ex_go c pl (.int x :: r) w | none => none) | _ => none)
    | .baload => (match st with | .int i :: .ref o :: r => if ex_cls o = 13 ∧ ¬ (i < 0 ∨ ex_len o ≤ i.toNatClampNeg) then ex_go c pl (.int (w.1 o i.toNatClampNeg) :: r) w else none | _ => none)
    | .iastore => (match st with | .int x :: .int i :: .ref o :: r => if ex_cls o = 12 ∧ ¬ (i < 0 ∨ ex_len o ≤ i.toNatClampNeg) then ex_go c pl r (ex_up w o i.toNatClampNeg x) else none | _ => none)
    | .bastore => (match st with | .int x :: .int i :: .ref o :: r => if ex_cls o = 13 ∧ ¬ (i < 0 ∨ ex_len o ≤ i.toNatClampNeg) then ex_go c pl r (ex_up w o i.toNatClampNeg x.toInt8.toInt32) else none | _ => none)
    | .arraylength => (match st with | .ref o :: r => if o = 2000 then ex_go c pl (.int (Int32.ofNat w.2.2.1) :: r) w else none | _ => none)
    | .anewarray o => (match st with | [.int n] => if n = Int32.ofNat (ex_len o) ∧ ex_dy y o = true then ex_go c (pl.map (ex_scr o)) [.ref o] (ex_zr w o) else none | _ => none)
    | .invokestatic e => ex_call cal (e / 16) (e % 16) c pl st w
    | .invokevirtual e => ex_callv cal (e / 16) (e % 16 + 1) c pl st w
    | .invokeinterface x n => ex_vcall cal x n c pl st w
    | .ireturn => (match st with | [.int x] => if ex_ret y = some .int then some (.inl (some (.int x), w)) else none | _ => none)
    | .areturn => (match st with | [.int x] => if x = 0 ∨ x = 1 then (if ex_ret y = some .boolean then some (.inl (some (.int x), w)) else none) else none | _ => none)
    | .lreturn => (match st with | [.long x] => if ex_ret y = some .long then some (.inl (some (.long x), w)) else none | _ => none)
    | .return_ => (match st with | [] => if ex_ret y = none then some (.inl (none, w)) else none | _ => none)
    | _ => none
def ex_run (d : Nat) (cal : Nat → List Value → PW → Option ER) (y : Nat) : Nat → ES → Option ER
  | 0, _ => none
  | n + 1, s => match ex_nx d cal y s with
    | some (.inl r) => some r
    | some (.inr s') => ex_run d cal y n s'
    | none => none
noncomputable def ex_ev (d : Nat) (cal : Nat → List Value → PW → Option ER) (y : Nat) (s : ES) : Option ER :=
  @ite _ (∃ n, ex_run d cal y n s ≠ none) (Classical.propDecidable _) (ex_run d cal y (Classical.epsilon fun n => ex_run d cal y n s ≠ none) s) none
theorem ex_run_succ {d : Nat} {cal : Nat → List Value → PW → Option ER} {y n : Nat} {s : ES} {r : ER} (h : ex_run d cal y n s = some r) : ex_run d cal y (n + 1) s = some r := by
  induction n generalizing s with
  | zero => cases h
  | succ n ih =>
    cases h0 : ex_nx d cal y s with
    | none => rw [ex_run, h0] at h; cases h
    | some q =>
      cases q with
      | inl r0 =>
        rw [ex_run, h0] at h
        rw [ex_run, h0]; exact h
      | inr s' =>
        rw [ex_run, h0] at h
        rw [ex_run, h0]; exact ih h
theorem ex_run_le {d : Nat} {cal : Nat → List Value → PW → Option ER} {y n k : Nat} {s : ES} {r : ER} (h : ex_run d cal y n s = some r) : ex_run d cal y (n + k) s = some r := by
  induction k with
  | zero => exact h
  | succ k ih => exact ex_run_succ ih
theorem ex_run_det {d : Nat} {cal : Nat → List Value → PW → Option ER} {y n k : Nat} {s : ES} {r r' : ER} (h : ex_run d cal y n s = some r) (h' : ex_run d cal y k s = some r') : r = r' := by
  have h1 := ex_run_le (k := k) h
  have h2 := ex_run_le (k := n) h'
  rw [Nat.add_comm] at h2
  rw [h1] at h2
  exact Option.some.inj h2
theorem ex_ev_of {d : Nat} {cal : Nat → List Value → PW → Option ER} {y n : Nat} {s : ES} {r : ER} (h : ex_run d cal y n s = some r) : ex_ev d cal y s = some r := by
  have hx : ∃ n, ex_run d cal y n s ≠ none := ⟨n, by rw [h]; exact fun h => by cases h⟩
  have he := Classical.epsilon_spec hx
  unfold ex_ev
  rw [@if_pos _ (Classical.propDecidable _) hx]
  cases h2 : ex_run d cal y (Classical.epsilon fun n => ex_run d cal y n s ≠ none) s with
  | none => exact absurd h2 he
  | some r' => rw [ex_run_det h h2]
theorem ex_ev_run {d : Nat} {cal : Nat → List Value → PW → Option ER} {y : Nat} {s : ES} {r : ER} (h : ex_ev d cal y s = some r) : ∃ n, ex_run d cal y n s = some r := by
  unfold ex_ev at h
  by_cases hx : ∃ n, ex_run d cal y n s ≠ none
  · rw [@if_pos _ (Classical.propDecidable _) hx] at h
    exact ⟨_, h⟩
  · rw [@if_neg _ (Classical.propDecidable _) hx] at h
    cases h
theorem ex_ev_eq (d : Nat) (cal : Nat → List Value → PW → Option ER) (y : Nat) (s : ES) : ex_ev d cal y s = match ex_nx d cal y s with
    | some (.inl r) => some r
    | some (.inr s') => ex_ev d cal y s'
    | none => none := by
  cases h : ex_nx d cal y s with
  | none =>
    have : ¬ ∃ n, ex_run d cal y n s ≠ none := by
      rintro ⟨n, hn⟩
      cases n with
      | zero => exact hn rfl
      | succ n => rw [ex_run, h] at hn; exact hn rfl
    unfold ex_ev
    rw [@if_neg _ (Classical.propDecidable _) this]
  | some q =>
    cases q with
    | inl r => exact ex_ev_of (n := 1) (by rw [ex_run, h])
    | inr s' =>
      show ex_ev d cal y s = ex_ev d cal y s'
      cases h2 : ex_ev d cal y s' with
      | some r =>
        obtain ⟨n, hn⟩ := ex_ev_run h2
        exact ex_ev_of (n := n + 1) (by rw [ex_run, h]; exact hn)
      | none =>
        cases h3 : ex_ev d cal y s with
        | none => rfl
        | some r =>
          obtain ⟨n, hn⟩ := ex_ev_run h3
          cases n with
          | zero => cases hn
          | succ n =>
            rw [ex_run, h] at hn
            have := ex_ev_of hn
            rw [h2] at this
            cases this
def ex_isv (v : Value) : Bool := match v with
  | .int _ => true
  | .long _ => true
  | .ref _ => true
  | _ => false
def ex_lay : List Value → List Value
  | [] => []
  | .long x :: r => .long x :: .retAddr 0 :: ex_lay r
  | v :: r => v :: ex_lay r
def ex_okR (y : Nat) (as : List Value) : Bool := as.all ex_isv && (decide ((ex_lay as).length ≤ ex_L y) && (match as with
  | .ref o :: _ => ex_C y == 11 || ex_cls o == ex_C y || (ex_C y == 9 && (ex_cls o == 2 || ex_cls o == 4))
  | _ => true))
def ex_ent (y : Nat) (as : List Value) : List Value := ex_lay as ++ List.replicate (ex_L y - (ex_lay as).length) .null
noncomputable def ex_cal : Nat → Nat → List Value → PW → Option ER
  | 0 => fun _ _ _ => none
  | d + 1 => fun y as w => if ex_okR y as then ex_ev d (ex_cal d) y (ex_blk y 0, ex_ent y as, [], w) else none
end
section
/-! the machine, instruction by instruction, as equations -/
theorem ev_iload {d : Nat} {cal : Nat → List Value → PW → Option ER} {y : Nat} {c : List Instr} {pl st : List Value} {w : PW} {k : Nat} : ex_ev d cal y (.iload k :: c, pl, st, w) = (match pl.getD k .null with | .int x => ex_ev d cal y (c, pl, .int x :: st, w) | _ => none) := by
  rw [ex_ev_eq]
  show (match (match pl.getD k .null with | .int x => ex_go c pl (.int x :: st) w | _ => none) with | some (.inl r) => some r | some (.inr s') => ex_ev d cal y s' | none => none) = _
  cases pl.getD k .null <;> rfl
theorem ev_aload {d : Nat} {cal : Nat → List Value → PW → Option ER} {y : Nat} {c : List Instr} {pl st : List Value} {w : PW} {k : Nat} : ex_ev d cal y (.aload k :: c, pl, st, w) = (match pl.getD k .null with | .ref x => ex_ev d cal y (c, pl, .ref x :: st, w) | _ => none) := by
  rw [ex_ev_eq]
  show (match (match pl.getD k .null with | .ref x => ex_go c pl (.ref x :: st) w | _ => none) with | some (.inl r) => some r | some (.inr s') => ex_ev d cal y s' | none => none) = _
  cases pl.getD k .null <;> rfl
theorem ev_lload {d : Nat} {cal : Nat → List Value → PW → Option ER} {y : Nat} {c : List Instr} {pl st : List Value} {w : PW} {k : Nat} : ex_ev d cal y (.lload k :: c, pl, st, w) = (match pl.getD k .null with | .long x => ex_ev d cal y (c, pl, .long x :: st, w) | _ => none) := by
  rw [ex_ev_eq]
  show (match (match pl.getD k .null with | .long x => ex_go c pl (.long x :: st) w | _ => none) with | some (.inl r) => some r | some (.inr s') => ex_ev d cal y s' | none => none) = _
  cases pl.getD k .null <;> rfl
theorem ev_istore {d : Nat} {cal : Nat → List Value → PW → Option ER} {y : Nat} {c : List Instr} {pl st : List Value} {w : PW} {k : Nat} {x : Int32} : ex_ev d cal y (.istore k :: c, pl, .int x :: st, w) = (match pl.getD k (.retAddr 0) with | .retAddr _ => none | _ => ex_ev d cal y (c, pl.set k (.int x), st, w)) := by
  rw [ex_ev_eq]
  show (match (ex_store k (.int x) c pl st w) with | some (.inl r) => some r | some (.inr s') => ex_ev d cal y s' | none => none) = _
  unfold ex_store
  cases pl.getD k (.retAddr 0) <;> rfl
theorem ev_astore {d : Nat} {cal : Nat → List Value → PW → Option ER} {y : Nat} {c : List Instr} {pl st : List Value} {w : PW} {k : Nat} {x : Nat} : ex_ev d cal y (.astore k :: c, pl, .ref x :: st, w) = (match pl.getD k (.retAddr 0) with | .retAddr _ => none | _ => ex_ev d cal y (c, pl.set k (.ref x), st, w)) := by
  rw [ex_ev_eq]
  show (match (ex_store k (.ref x) c pl st w) with | some (.inl r) => some r | some (.inr s') => ex_ev d cal y s' | none => none) = _
  unfold ex_store
  cases pl.getD k (.retAddr 0) <;> rfl
theorem ev_lstore {d : Nat} {cal : Nat → List Value → PW → Option ER} {y : Nat} {c : List Instr} {pl st : List Value} {w : PW} {k : Nat} {x : Int64} : ex_ev d cal y (.lstore k :: c, pl, .long x :: st, w) = (if k + 1 < pl.length then (match (pl.set (k + 1) (.retAddr 0)).getD k (.retAddr 0) with | .retAddr _ => none | _ => ex_ev d cal y (c, (pl.set (k + 1) (.retAddr 0)).set k (.long x), st, w)) else none) := by
  rw [ex_ev_eq]
  show (match (if k + 1 < pl.length then ex_store k (.long x) c (pl.set (k + 1) (.retAddr 0)) st w else none) with | some (.inl r) => some r | some (.inr s') => ex_ev d cal y s' | none => none) = _
  unfold ex_store
  by_cases hk : k + 1 < pl.length
  · rw [if_pos hk, if_pos hk]
    cases (pl.set (k + 1) (.retAddr 0)).getD k (.retAddr 0) <;> rfl
  · rw [if_neg hk, if_neg hk]
theorem ev_iinc {d : Nat} {cal : Nat → List Value → PW → Option ER} {y : Nat} {c : List Instr} {pl st : List Value} {w : PW} {k : Nat} {n : Int} : ex_ev d cal y (.iinc k n :: c, pl, st, w) = (match pl.getD k .null with | .int x => ex_ev d cal y (c, pl.set k (.int (x + Int32.ofInt n)), st, w) | _ => none) := by
  rw [ex_ev_eq]
  show (match (match pl.getD k .null with | .int x => ex_go c (pl.set k (.int (x + Int32.ofInt n))) st w | _ => none) with | some (.inl r) => some r | some (.inr s') => ex_ev d cal y s' | none => none) = _
  cases pl.getD k .null <;> rfl
theorem ev_push {d : Nat} {cal : Nat → List Value → PW → Option ER} {y : Nat} {c : List Instr} {pl st : List Value} {w : PW} {n : Int} : ex_ev d cal y (.sipush n :: c, pl, st, w) = ex_ev d cal y (c, pl, .int (Int32.ofInt n) :: st, w) := by
  rw [ex_ev_eq]
  rfl
theorem ev_lpush {d : Nat} {cal : Nat → List Value → PW → Option ER} {y : Nat} {c : List Instr} {pl st : List Value} {w : PW} {n : Int} : ex_ev d cal y (.goto_w n :: c, pl, st, w) = ex_ev d cal y (c, pl, .long (Int64.ofInt n) :: st, w) := by
  rw [ex_ev_eq]
  rfl
theorem ev_iadd {d : Nat} {cal : Nat → List Value → PW → Option ER} {y : Nat} {c : List Instr} {pl st : List Value} {w : PW} {a b : Int32} : ex_ev d cal y (.iadd :: c, pl, .int b :: .int a :: st, w) = ex_ev d cal y (c, pl, .int (a + b) :: st, w) := by
  rw [ex_ev_eq]
  rfl
theorem ev_isub {d : Nat} {cal : Nat → List Value → PW → Option ER} {y : Nat} {c : List Instr} {pl st : List Value} {w : PW} {a b : Int32} : ex_ev d cal y (.isub :: c, pl, .int b :: .int a :: st, w) = ex_ev d cal y (c, pl, .int (a - b) :: st, w) := by
  rw [ex_ev_eq]
  rfl
theorem ev_imul {d : Nat} {cal : Nat → List Value → PW → Option ER} {y : Nat} {c : List Instr} {pl st : List Value} {w : PW} {a b : Int32} : ex_ev d cal y (.imul :: c, pl, .int b :: .int a :: st, w) = ex_ev d cal y (c, pl, .int (a * b) :: st, w) := by
  rw [ex_ev_eq]
  rfl
theorem ev_iand {d : Nat} {cal : Nat → List Value → PW → Option ER} {y : Nat} {c : List Instr} {pl st : List Value} {w : PW} {a b : Int32} : ex_ev d cal y (.iand :: c, pl, .int b :: .int a :: st, w) = ex_ev d cal y (c, pl, .int (a &&& b) :: st, w) := by
  rw [ex_ev_eq]
  rfl
theorem ev_ior {d : Nat} {cal : Nat → List Value → PW → Option ER} {y : Nat} {c : List Instr} {pl st : List Value} {w : PW} {a b : Int32} : ex_ev d cal y (.ior :: c, pl, .int b :: .int a :: st, w) = ex_ev d cal y (c, pl, .int (a ||| b) :: st, w) := by
  rw [ex_ev_eq]
  rfl
theorem ev_ixor {d : Nat} {cal : Nat → List Value → PW → Option ER} {y : Nat} {c : List Instr} {pl st : List Value} {w : PW} {a b : Int32} : ex_ev d cal y (.ixor :: c, pl, .int b :: .int a :: st, w) = ex_ev d cal y (c, pl, .int (a ^^^ b) :: st, w) := by
  rw [ex_ev_eq]
  rfl
theorem ev_ishl {d : Nat} {cal : Nat → List Value → PW → Option ER} {y : Nat} {c : List Instr} {pl st : List Value} {w : PW} {a b : Int32} : ex_ev d cal y (.ishl :: c, pl, .int b :: .int a :: st, w) = ex_ev d cal y (c, pl, .int (a <<< (b &&& 31)) :: st, w) := by
  rw [ex_ev_eq]
  rfl
theorem ev_ishr {d : Nat} {cal : Nat → List Value → PW → Option ER} {y : Nat} {c : List Instr} {pl st : List Value} {w : PW} {a b : Int32} : ex_ev d cal y (.ishr :: c, pl, .int b :: .int a :: st, w) = ex_ev d cal y (c, pl, .int (a >>> (b &&& 31)) :: st, w) := by
  rw [ex_ev_eq]
  rfl
theorem ev_idiv {d : Nat} {cal : Nat → List Value → PW → Option ER} {y : Nat} {c : List Instr} {pl st : List Value} {w : PW} {a b : Int32} : ex_ev d cal y (.idiv :: c, pl, .int b :: .int a :: st, w) = (if b = 0 then none else ex_ev d cal y (c, pl, .int (a / b) :: st, w)) := by
  rw [ex_ev_eq]
  show (match (if b = 0 then none else ex_go c pl (.int (a / b) :: st) w) with | some (.inl r) => some r | some (.inr s') => ex_ev d cal y s' | none => none) = _
  by_cases hk : b = 0
  · simp only [if_pos hk] <;> rfl
  · simp only [if_neg hk] <;> rfl
theorem ev_irem {d : Nat} {cal : Nat → List Value → PW → Option ER} {y : Nat} {c : List Instr} {pl st : List Value} {w : PW} {a b : Int32} : ex_ev d cal y (.irem :: c, pl, .int b :: .int a :: st, w) = (if b = 0 then none else ex_ev d cal y (c, pl, .int (a - a / b * b) :: st, w)) := by
  rw [ex_ev_eq]
  show (match (if b = 0 then none else ex_go c pl (.int (a - a / b * b) :: st) w) with | some (.inl r) => some r | some (.inr s') => ex_ev d cal y s' | none => none) = _
  by_cases hk : b = 0
  · simp only [if_pos hk] <;> rfl
  · simp only [if_neg hk] <;> rfl
theorem ev_ladd {d : Nat} {cal : Nat → List Value → PW → Option ER} {y : Nat} {c : List Instr} {pl st : List Value} {w : PW} {a b : Int64} : ex_ev d cal y (.ladd :: c, pl, .long b :: .long a :: st, w) = ex_ev d cal y (c, pl, .long (a + b) :: st, w) := by
  rw [ex_ev_eq]
  rfl
theorem ev_lmul {d : Nat} {cal : Nat → List Value → PW → Option ER} {y : Nat} {c : List Instr} {pl st : List Value} {w : PW} {a b : Int64} : ex_ev d cal y (.lmul :: c, pl, .long b :: .long a :: st, w) = ex_ev d cal y (c, pl, .long (a * b) :: st, w) := by
  rw [ex_ev_eq]
  rfl
theorem ev_land {d : Nat} {cal : Nat → List Value → PW → Option ER} {y : Nat} {c : List Instr} {pl st : List Value} {w : PW} {a b : Int64} : ex_ev d cal y (.land :: c, pl, .long b :: .long a :: st, w) = ex_ev d cal y (c, pl, .long (a &&& b) :: st, w) := by
  rw [ex_ev_eq]
  rfl
theorem ev_lshr {d : Nat} {cal : Nat → List Value → PW → Option ER} {y : Nat} {c : List Instr} {pl st : List Value} {w : PW} {a : Int64} {b : Int32} : ex_ev d cal y (.lshr :: c, pl, .int b :: .long a :: st, w) = ex_ev d cal y (c, pl, .long (a >>> (b.toInt64 &&& 63)) :: st, w) := by
  rw [ex_ev_eq]
  rfl
theorem ev_lushr {d : Nat} {cal : Nat → List Value → PW → Option ER} {y : Nat} {c : List Instr} {pl st : List Value} {w : PW} {a : Int64} {b : Int32} : ex_ev d cal y (.lushr :: c, pl, .int b :: .long a :: st, w) = ex_ev d cal y (c, pl, .long (a.toUInt64 >>> (b.toInt64.toUInt64 &&& Int64.toUInt64 63)).toInt64 :: st, w) := by
  rw [ex_ev_eq]
  rfl
theorem ev_i2l {d : Nat} {cal : Nat → List Value → PW → Option ER} {y : Nat} {c : List Instr} {pl st : List Value} {w : PW} {a : Int32} : ex_ev d cal y (.i2l :: c, pl, .int a :: st, w) = ex_ev d cal y (c, pl, .long a.toInt64 :: st, w) := by
  rw [ex_ev_eq]
  rfl
theorem ev_l2i {d : Nat} {cal : Nat → List Value → PW → Option ER} {y : Nat} {c : List Instr} {pl st : List Value} {w : PW} {a : Int64} : ex_ev d cal y (.l2i :: c, pl, .long a :: st, w) = ex_ev d cal y (c, pl, .int a.toInt32 :: st, w) := by
  rw [ex_ev_eq]
  rfl
theorem ev_i2b {d : Nat} {cal : Nat → List Value → PW → Option ER} {y : Nat} {c : List Instr} {pl st : List Value} {w : PW} {a : Int32} : ex_ev d cal y (.i2b :: c, pl, .int a :: st, w) = ex_ev d cal y (c, pl, .int a.toInt8.toInt32 :: st, w) := by
  rw [ex_ev_eq]
  rfl
theorem ev_dup_r {d : Nat} {cal : Nat → List Value → PW → Option ER} {y : Nat} {c : List Instr} {pl st : List Value} {w : PW} {a : Nat} : ex_ev d cal y (.dup :: c, pl, .ref a :: st, w) = ex_ev d cal y (c, pl, .ref a :: .ref a :: st, w) := by
  rw [ex_ev_eq]
  rfl
theorem ev_dup_i {d : Nat} {cal : Nat → List Value → PW → Option ER} {y : Nat} {c : List Instr} {pl st : List Value} {w : PW} {a : Int32} : ex_ev d cal y (.dup :: c, pl, .int a :: st, w) = ex_ev d cal y (c, pl, .int a :: .int a :: st, w) := by
  rw [ex_ev_eq]
  rfl
theorem ev_dup2 {d : Nat} {cal : Nat → List Value → PW → Option ER} {y : Nat} {c : List Instr} {pl st : List Value} {w : PW} {a : Int32} {b : Nat} : ex_ev d cal y (.dup2 :: c, pl, .int a :: .ref b :: st, w) = ex_ev d cal y (c, pl, .int a :: .ref b :: .int a :: .ref b :: st, w) := by
  rw [ex_ev_eq]
  rfl
theorem ev_pop {d : Nat} {cal : Nat → List Value → PW → Option ER} {y : Nat} {c : List Instr} {pl st : List Value} {w : PW} {a : Int32} : ex_ev d cal y (.pop :: c, pl, .int a :: st, w) = ex_ev d cal y (c, pl, st, w) := by
  rw [ex_ev_eq]
  rfl
theorem ev_goto {d : Nat} {cal : Nat → List Value → PW → Option ER} {y : Nat} {c : List Instr} {pl st : List Value} {w : PW} {L : Int} : ex_ev d cal y (.goto L :: c, pl, st, w) = ex_ev d cal y (ex_blk y L.toNat, pl, st, w) := by
  rw [ex_ev_eq]
  rfl
theorem ev_jsr {d : Nat} {cal : Nat → List Value → PW → Option ER} {y : Nat} {c : List Instr} {pl st : List Value} {w : PW} {L : Int} : ex_ev d cal y (.jsr L :: c, pl, st, w) = ex_ev d cal y (ex_blk y L.toNat, pl, st, w) := by
  rw [ex_ev_eq]
  rfl
theorem ev_icmp_eq {d : Nat} {cal : Nat → List Value → PW → Option ER} {y : Nat} {c : List Instr} {pl st : List Value} {w : PW} {a b : Int32} {L : Int} : ex_ev d cal y (.if_icmp .eq L :: c, pl, .int b :: .int a :: st, w) = (if a = b then ex_ev d cal y (ex_blk y L.toNat, pl, st, w) else ex_ev d cal y (c, pl, st, w)) := by
  rw [ex_ev_eq]
  show (match (if decide (a = b) = true then ex_go (ex_blk y L.toNat) pl st w else ex_go c pl st w) with | some (.inl r) => some r | some (.inr s') => ex_ev d cal y s' | none => none) = _
  by_cases h : a = b
  · rw [if_pos h, if_pos (decide_eq_true h)]; rfl
  · rw [if_neg h, if_neg (by simpa using h)]; rfl
theorem ev_if_eq {d : Nat} {cal : Nat → List Value → PW → Option ER} {y : Nat} {c : List Instr} {pl st : List Value} {w : PW} {a : Int32} {L : Int} : ex_ev d cal y (.ifCond .eq L :: c, pl, .int a :: st, w) = (if a = 0 then ex_ev d cal y (ex_blk y L.toNat, pl, st, w) else ex_ev d cal y (c, pl, st, w)) := by
  rw [ex_ev_eq]
  show (match (if decide (a = 0) = true then ex_go (ex_blk y L.toNat) pl st w else ex_go c pl st w) with | some (.inl r) => some r | some (.inr s') => ex_ev d cal y s' | none => none) = _
  by_cases h : a = 0
  · rw [if_pos h, if_pos (decide_eq_true h)]; rfl
  · rw [if_neg h, if_neg (by simpa using h)]; rfl
theorem ev_icmp_ne {d : Nat} {cal : Nat → List Value → PW → Option ER} {y : Nat} {c : List Instr} {pl st : List Value} {w : PW} {a b : Int32} {L : Int} : ex_ev d cal y (.if_icmp .ne L :: c, pl, .int b :: .int a :: st, w) = (if ¬ a = b then ex_ev d cal y (ex_blk y L.toNat, pl, st, w) else ex_ev d cal y (c, pl, st, w)) := by
  rw [ex_ev_eq]
  show (match (if decide (¬ a = b) = true then ex_go (ex_blk y L.toNat) pl st w else ex_go c pl st w) with | some (.inl r) => some r | some (.inr s') => ex_ev d cal y s' | none => none) = _
  by_cases h : ¬ a = b
  · rw [if_pos h, if_pos (decide_eq_true h)]; rfl
  · rw [if_neg h, if_neg (by simpa using h)]; rfl
theorem ev_if_ne {d : Nat} {cal : Nat → List Value → PW → Option ER} {y : Nat} {c : List Instr} {pl st : List Value} {w : PW} {a : Int32} {L : Int} : ex_ev d cal y (.ifCond .ne L :: c, pl, .int a :: st, w) = (if ¬ a = 0 then ex_ev d cal y (ex_blk y L.toNat, pl, st, w) else ex_ev d cal y (c, pl, st, w)) := by
  rw [ex_ev_eq]
  show (match (if decide (¬ a = 0) = true then ex_go (ex_blk y L.toNat) pl st w else ex_go c pl st w) with | some (.inl r) => some r | some (.inr s') => ex_ev d cal y s' | none => none) = _
  by_cases h : ¬ a = 0
  · rw [if_pos h, if_pos (decide_eq_true h)]; rfl
  · rw [if_neg h, if_neg (by simpa using h)]; rfl
theorem ev_icmp_lt {d : Nat} {cal : Nat → List Value → PW → Option ER} {y : Nat} {c : List Instr} {pl st : List Value} {w : PW} {a b : Int32} {L : Int} : ex_ev d cal y (.if_icmp .lt L :: c, pl, .int b :: .int a :: st, w) = (if a < b then ex_ev d cal y (ex_blk y L.toNat, pl, st, w) else ex_ev d cal y (c, pl, st, w)) := by
  rw [ex_ev_eq]
  show (match (if decide (a < b) = true then ex_go (ex_blk y L.toNat) pl st w else ex_go c pl st w) with | some (.inl r) => some r | some (.inr s') => ex_ev d cal y s' | none => none) = _
  by_cases h : a < b
  · rw [if_pos h, if_pos (decide_eq_true h)]; rfl
  · rw [if_neg h, if_neg (by simpa using h)]; rfl
theorem ev_if_lt {d : Nat} {cal : Nat → List Value → PW → Option ER} {y : Nat} {c : List Instr} {pl st : List Value} {w : PW} {a : Int32} {L : Int} : ex_ev d cal y (.ifCond .lt L :: c, pl, .int a :: st, w) = (if a < 0 then ex_ev d cal y (ex_blk y L.toNat, pl, st, w) else ex_ev d cal y (c, pl, st, w)) := by
  rw [ex_ev_eq]
  show (match (if decide (a < 0) = true then ex_go (ex_blk y L.toNat) pl st w else ex_go c pl st w) with | some (.inl r) => some r | some (.inr s') => ex_ev d cal y s' | none => none) = _
  by_cases h : a < 0
  · rw [if_pos h, if_pos (decide_eq_true h)]; rfl
  · rw [if_neg h, if_neg (by simpa using h)]; rfl
theorem ev_icmp_ge {d : Nat} {cal : Nat → List Value → PW → Option ER} {y : Nat} {c : List Instr} {pl st : List Value} {w : PW} {a b : Int32} {L : Int} : ex_ev d cal y (.if_icmp .ge L :: c, pl, .int b :: .int a :: st, w) = (if b ≤ a then ex_ev d cal y (ex_blk y L.toNat, pl, st, w) else ex_ev d cal y (c, pl, st, w)) := by
  rw [ex_ev_eq]
  show (match (if decide (b ≤ a) = true then ex_go (ex_blk y L.toNat) pl st w else ex_go c pl st w) with | some (.inl r) => some r | some (.inr s') => ex_ev d cal y s' | none => none) = _
  by_cases h : b ≤ a
  · rw [if_pos h, if_pos (decide_eq_true h)]; rfl
  · rw [if_neg h, if_neg (by simpa using h)]; rfl
theorem ev_if_ge {d : Nat} {cal : Nat → List Value → PW → Option ER} {y : Nat} {c : List Instr} {pl st : List Value} {w : PW} {a : Int32} {L : Int} : ex_ev d cal y (.ifCond .ge L :: c, pl, .int a :: st, w) = (if 0 ≤ a then ex_ev d cal y (ex_blk y L.toNat, pl, st, w) else ex_ev d cal y (c, pl, st, w)) := by
  rw [ex_ev_eq]
  show (match (if decide (0 ≤ a) = true then ex_go (ex_blk y L.toNat) pl st w else ex_go c pl st w) with | some (.inl r) => some r | some (.inr s') => ex_ev d cal y s' | none => none) = _
  by_cases h : 0 ≤ a
  · rw [if_pos h, if_pos (decide_eq_true h)]; rfl
  · rw [if_neg h, if_neg (by simpa using h)]; rfl
theorem ev_icmp_gt {d : Nat} {cal : Nat → List Value → PW → Option ER} {y : Nat} {c : List Instr} {pl st : List Value} {w : PW} {a b : Int32} {L : Int} : ex_ev d cal y (.if_icmp .gt L :: c, pl, .int b :: .int a :: st, w) = (if b < a then ex_ev d cal y (ex_blk y L.toNat, pl, st, w) else ex_ev d cal y (c, pl, st, w)) := by
  rw [ex_ev_eq]
  show (match (if decide (b < a) = true then ex_go (ex_blk y L.toNat) pl st w else ex_go c pl st w) with | some (.inl r) => some r | some (.inr s') => ex_ev d cal y s' | none => none) = _
  by_cases h : b < a
  · rw [if_pos h, if_pos (decide_eq_true h)]; rfl
  · rw [if_neg h, if_neg (by simpa using h)]; rfl
theorem ev_if_gt {d : Nat} {cal : Nat → List Value → PW → Option ER} {y : Nat} {c : List Instr} {pl st : List Value} {w : PW} {a : Int32} {L : Int} : ex_ev d cal y (.ifCond .gt L :: c, pl, .int a :: st, w) = (if 0 < a then ex_ev d cal y (ex_blk y L.toNat, pl, st, w) else ex_ev d cal y (c, pl, st, w)) := by
  rw [ex_ev_eq]
  show (match (if decide (0 < a) = true then ex_go (ex_blk y L.toNat) pl st w else ex_go c pl st w) with | some (.inl r) => some r | some (.inr s') => ex_ev d cal y s' | none => none) = _
  by_cases h : 0 < a
  · rw [if_pos h, if_pos (decide_eq_true h)]; rfl
  · rw [if_neg h, if_neg (by simpa using h)]; rfl
theorem ev_icmp_le {d : Nat} {cal : Nat → List Value → PW → Option ER} {y : Nat} {c : List Instr} {pl st : List Value} {w : PW} {a b : Int32} {L : Int} : ex_ev d cal y (.if_icmp .le L :: c, pl, .int b :: .int a :: st, w) = (if a ≤ b then ex_ev d cal y (ex_blk y L.toNat, pl, st, w) else ex_ev d cal y (c, pl, st, w)) := by
  rw [ex_ev_eq]
  show (match (if decide (a ≤ b) = true then ex_go (ex_blk y L.toNat) pl st w else ex_go c pl st w) with | some (.inl r) => some r | some (.inr s') => ex_ev d cal y s' | none => none) = _
  by_cases h : a ≤ b
  · rw [if_pos h, if_pos (decide_eq_true h)]; rfl
  · rw [if_neg h, if_neg (by simpa using h)]; rfl
theorem ev_if_le {d : Nat} {cal : Nat → List Value → PW → Option ER} {y : Nat} {c : List Instr} {pl st : List Value} {w : PW} {a : Int32} {L : Int} : ex_ev d cal y (.ifCond .le L :: c, pl, .int a :: st, w) = (if a ≤ 0 then ex_ev d cal y (ex_blk y L.toNat, pl, st, w) else ex_ev d cal y (c, pl, st, w)) := by
  rw [ex_ev_eq]
  show (match (if decide (a ≤ 0) = true then ex_go (ex_blk y L.toNat) pl st w else ex_go c pl st w) with | some (.inl r) => some r | some (.inr s') => ex_ev d cal y s' | none => none) = _
  by_cases h : a ≤ 0
  · rw [if_pos h, if_pos (decide_eq_true h)]; rfl
  · rw [if_neg h, if_neg (by simpa using h)]; rfl
theorem ev_tswitch {d : Nat} {cal : Nat → List Value → PW → Option ER} {y : Nat} {c : List Instr} {pl st : List Value} {w : PW} {df lo hi : Int} {offs : Array Int} {a : Int32} : ex_ev d cal y (.tableswitch df lo hi offs :: c, pl, .int a :: st, w) = (if a.toInt < lo ∨ hi < a.toInt then ex_ev d cal y (ex_blk y df.toNat, pl, st, w) else ex_ev d cal y (ex_blk y ((offs.toList.getD (a.toInt - lo).toNat 0).toNat), pl, st, w)) := by
  rw [ex_ev_eq]
  show (match (if a.toInt < lo ∨ hi < a.toInt then ex_go (ex_blk y df.toNat) pl st w else ex_go (ex_blk y ((offs.toList.getD (a.toInt - lo).toNat 0).toNat)) pl st w) with | some (.inl r) => some r | some (.inr s') => ex_ev d cal y s' | none => none) = _
  by_cases hk : a.toInt < lo ∨ hi < a.toInt
  · simp only [if_pos hk] <;> rfl
  · simp only [if_neg hk] <;> rfl
theorem ev_lswitch {d : Nat} {cal : Nat → List Value → PW → Option ER} {y : Nat} {c : List Instr} {pl st : List Value} {w : PW} {df : Int} {ps : Array (Int × Int)} {a : Int32} : ex_ev d cal y (.lookupswitch df ps :: c, pl, .int a :: st, w) = ex_ev d cal y (ex_blk y (ex_lks ps.toList df a.toInt).toNat, pl, st, w) := by
  rw [ex_ev_eq]
  rfl
def ex_fv (w : PW) (o e : Nat) : Option Value := match ex_fk o e with
  | some 0 => some (.int (w.1 o (e % 64)))
  | some 1 => none
  | some 2 => some (.int (w.1 o (e % 64)))
  | some (n + 3) => some (.ref n)
  | none => none
theorem ev_getf {d : Nat} {cal : Nat → List Value → PW → Option ER} {y : Nat} {c : List Instr} {pl st : List Value} {w : PW} {o e : Nat} : ex_ev d cal y (.getfield e :: c, pl, .ref o :: st, w) = (match ex_fv w o e with | some v => ex_ev d cal y (c, pl, v :: st, w) | none => none) := by
  rw [ex_ev_eq]
  show (match ex_gf e c pl (.ref o :: st) w with | some (.inl r) => some r | some (.inr s') => ex_ev d cal y s' | none => none) = _
  unfold ex_gf ex_fv
  dsimp only
  cases ex_fk o e with
  | none => rfl
  | some k =>
    match k with
    | 0 => rfl
    | 1 => rfl
    | 2 => rfl
    | n + 3 => rfl
theorem ev_putf {d : Nat} {cal : Nat → List Value → PW → Option ER} {y : Nat} {c : List Instr} {pl st : List Value} {w : PW} {o e : Nat} {x : Int32} : ex_ev d cal y (.putfield e :: c, pl, .int x :: .ref o :: st, w) = (match ex_fk o e with | some 0 => ex_ev d cal y (c, pl, st, ex_up w o (e % 64) x) | some 2 => (if x = 0 ∨ x = 1 then ex_ev d cal y (c, pl, st, ex_up w o (e % 64) x) else none) | _ => none) := by
  rw [ex_ev_eq]
  show (match ex_pf e c pl (.int x :: .ref o :: st) w with | some (.inl r) => some r | some (.inr s') => ex_ev d cal y s' | none => none) = _
  unfold ex_pf
  dsimp only
  cases ex_fk o e with
  | none => rfl
  | some k =>
    match k with
    | 0 => rfl
    | 1 => rfl
    | 2 =>
      by_cases hk : x = 0 ∨ x = 1
      · simp only [if_pos hk] <;> rfl
      · simp only [if_neg hk] <;> rfl
    | n + 3 => rfl
theorem ev_gets {d : Nat} {cal : Nat → List Value → PW → Option ER} {y : Nat} {c : List Instr} {pl st : List Value} {w : PW} {o : Nat} : ex_ev d cal y (.getstatic o :: c, pl, st, w) = (if o = 1000 ∨ o = 1001 then ex_ev d cal y (c, pl, .ref o :: st, w) else none) := by
  rw [ex_ev_eq]
  show (match (if o = 1000 ∨ o = 1001 then ex_go c pl (.ref o :: st) w else none) with | some (.inl r) => some r | some (.inr s') => ex_ev d cal y s' | none => none) = _
  by_cases hk : o = 1000 ∨ o = 1001
  · simp only [if_pos hk] <;> rfl
  · simp only [if_neg hk] <;> rfl
theorem ev_iald {d : Nat} {cal : Nat → List Value → PW → Option ER} {y : Nat} {c : List Instr} {pl st : List Value} {w : PW} {o : Nat} {i : Int32} : ex_ev d cal y (.iaload :: c, pl, .int i :: .ref o :: st, w) = (match ex_ald w o i with | some x => ex_ev d cal y (c, pl, .int x :: st, w) | none => none) := by
  rw [ex_ev_eq]
  show (match (match ex_ald w o i with | some x => ex_go c pl (.int x :: st) w | none => none) with | some (.inl r) => some r | some (.inr s') => ex_ev d cal y s' | none => none) = _
  cases ex_ald w o i <;> rfl
theorem ev_bald {d : Nat} {cal : Nat → List Value → PW → Option ER} {y : Nat} {c : List Instr} {pl st : List Value} {w : PW} {o : Nat} {i : Int32} : ex_ev d cal y (.baload :: c, pl, .int i :: .ref o :: st, w) = (if ex_cls o = 13 ∧ ¬ (i < 0 ∨ ex_len o ≤ i.toNatClampNeg) then ex_ev d cal y (c, pl, .int (w.1 o i.toNatClampNeg) :: st, w) else none) := by
  rw [ex_ev_eq]
  show (match (if ex_cls o = 13 ∧ ¬ (i < 0 ∨ ex_len o ≤ i.toNatClampNeg) then ex_go c pl (.int (w.1 o i.toNatClampNeg) :: st) w else none) with | some (.inl r) => some r | some (.inr s') => ex_ev d cal y s' | none => none) = _
  by_cases hk : ex_cls o = 13 ∧ ¬ (i < 0 ∨ ex_len o ≤ i.toNatClampNeg)
  · simp only [if_pos hk] <;> rfl
  · simp only [if_neg hk] <;> rfl
theorem ev_iast {d : Nat} {cal : Nat → List Value → PW → Option ER} {y : Nat} {c : List Instr} {pl st : List Value} {w : PW} {o : Nat} {i x : Int32} : ex_ev d cal y (.iastore :: c, pl, .int x :: .int i :: .ref o :: st, w) = (if ex_cls o = 12 ∧ ¬ (i < 0 ∨ ex_len o ≤ i.toNatClampNeg) then ex_ev d cal y (c, pl, st, ex_up w o i.toNatClampNeg x) else none) := by
  rw [ex_ev_eq]
  show (match (if ex_cls o = 12 ∧ ¬ (i < 0 ∨ ex_len o ≤ i.toNatClampNeg) then ex_go c pl st (ex_up w o i.toNatClampNeg x) else none) with | some (.inl r) => some r | some (.inr s') => ex_ev d cal y s' | none => none) = _
  by_cases hk : ex_cls o = 12 ∧ ¬ (i < 0 ∨ ex_len o ≤ i.toNatClampNeg)
  · simp only [if_pos hk] <;> rfl
  · simp only [if_neg hk] <;> rfl
theorem ev_bast {d : Nat} {cal : Nat → List Value → PW → Option ER} {y : Nat} {c : List Instr} {pl st : List Value} {w : PW} {o : Nat} {i x : Int32} : ex_ev d cal y (.bastore :: c, pl, .int x :: .int i :: .ref o :: st, w) = (if ex_cls o = 13 ∧ ¬ (i < 0 ∨ ex_len o ≤ i.toNatClampNeg) then ex_ev d cal y (c, pl, st, ex_up w o i.toNatClampNeg (x.toInt8.toInt32)) else none) := by
  rw [ex_ev_eq]
  show (match (if ex_cls o = 13 ∧ ¬ (i < 0 ∨ ex_len o ≤ i.toNatClampNeg) then ex_go c pl st (ex_up w o i.toNatClampNeg (x.toInt8.toInt32)) else none) with | some (.inl r) => some r | some (.inr s') => ex_ev d cal y s' | none => none) = _
  by_cases hk : ex_cls o = 13 ∧ ¬ (i < 0 ∨ ex_len o ≤ i.toNatClampNeg)
  · simp only [if_pos hk] <;> rfl
  · simp only [if_neg hk] <;> rfl
theorem ev_alen {d : Nat} {cal : Nat → List Value → PW → Option ER} {y : Nat} {c : List Instr} {pl st : List Value} {w : PW} {o : Nat} : ex_ev d cal y (.arraylength :: c, pl, .ref o :: st, w) = (if o = 2000 then ex_ev d cal y (c, pl, .int (Int32.ofNat w.2.2.1) :: st, w) else none) := by
  rw [ex_ev_eq]
  show (match (if o = 2000 then ex_go c pl (.int (Int32.ofNat w.2.2.1) :: st) w else none) with | some (.inl r) => some r | some (.inr s') => ex_ev d cal y s' | none => none) = _
  by_cases h2 : o = 2000
  · simp only [if_pos h2] <;> rfl
  · simp only [if_neg h2] <;> rfl
theorem ev_newa {d : Nat} {cal : Nat → List Value → PW → Option ER} {y : Nat} {c : List Instr} {pl st : List Value} {w : PW} {o : Nat} {n : Int32} : ex_ev d cal y (.anewarray o :: c, pl, [.int n], w) = (if n = Int32.ofNat (ex_len o) ∧ ex_dy y o = true then ex_ev d cal y (c, pl.map (ex_scr o), [.ref o], ex_zr w o) else none) := by
  rw [ex_ev_eq]
  show (match (if n = Int32.ofNat (ex_len o) ∧ ex_dy y o = true then ex_go c (pl.map (ex_scr o)) [.ref o] (ex_zr w o) else none) with | some (.inl r) => some r | some (.inr s') => ex_ev d cal y s' | none => none) = _
  by_cases hk : n = Int32.ofNat (ex_len o) ∧ ex_dy y o = true
  · simp only [if_pos hk] <;> rfl
  · simp only [if_neg hk] <;> rfl
theorem ev_call {d : Nat} {cal : Nat → List Value → PW → Option ER} {y : Nat} {c : List Instr} {pl st : List Value} {w : PW} {e : Nat} : ex_ev d cal y (.invokestatic e :: c, pl, st, w) = (match ex_spl (e % 16) [] st with | some (as, r) => (if (ex_cg (e / 16) pl r && ex_low r) = true then (match cal (e / 16) as w with | some (v, w1) => ex_ev d cal y (c, pl, v.toList ++ r, w1) | none => none) else none) | none => none) := by
  rw [ex_ev_eq]
  show (match ex_call cal (e / 16) (e % 16) c pl st w with | some (.inl r) => some r | some (.inr s') => ex_ev d cal y s' | none => none) = _
  unfold ex_call
  cases ex_spl (e % 16) [] st with
  | none => rfl
  | some q =>
    obtain ⟨as, r⟩ := q
    dsimp only
    by_cases hk : (ex_cg (e / 16) pl r && ex_low r) = true
    · simp only [if_pos hk]
      unfold ex_back
      cases cal (e / 16) as w with
      | none => rfl
      | some q => rfl
    · simp only [if_neg hk] <;> rfl
theorem ev_callv {d : Nat} {cal : Nat → List Value → PW → Option ER} {y : Nat} {c : List Instr} {pl st : List Value} {w : PW} {e : Nat} : ex_ev d cal y (.invokevirtual e :: c, pl, st, w) = (match ex_spl (e % 16 + 1) [] st with | some (as, r) => (match as with | .ref _ :: _ => (if ex_low r = true then (match cal (e / 16) as w with | some (v, w1) => ex_ev d cal y (c, pl, v.toList ++ r, w1) | none => none) else none) | _ => none) | none => none) := by
  rw [ex_ev_eq]
  show (match ex_callv cal (e / 16) (e % 16 + 1) c pl st w with | some (.inl r) => some r | some (.inr s') => ex_ev d cal y s' | none => none) = _
  unfold ex_callv
  cases ex_spl (e % 16 + 1) [] st with
  | none => rfl
  | some q =>
    obtain ⟨as, r⟩ := q
    dsimp only
    cases as with
    | nil => rfl
    | cons v as =>
      cases v with
      | ref o =>
        dsimp only
        by_cases hk : ex_low r = true
        · simp only [if_pos hk]
          unfold ex_back
          cases cal (e / 16) (.ref o :: as) w with
          | none => rfl
          | some q => rfl
        · simp only [if_neg hk] <;> rfl
      | _ => rfl
theorem ev_calli {d : Nat} {cal : Nat → List Value → PW → Option ER} {y : Nat} {c : List Instr} {pl st : List Value} {w : PW} {x n : Nat} : ex_ev d cal y (.invokeinterface x n :: c, pl, st, w) = (match ex_vcall cal x n c pl st w with | some (.inl r) => some r | some (.inr s') => ex_ev d cal y s' | none => none) := by
  rw [ex_ev_eq]
  rfl
theorem ev_iret {d : Nat} {cal : Nat → List Value → PW → Option ER} {y : Nat} {c : List Instr} {pl st : List Value} {w : PW} {x : Int32} : ex_ev d cal y (.ireturn :: c, pl, [.int x], w) = (if ex_ret y = some .int then some (some (.int x), w) else none) := by
  rw [ex_ev_eq]
  show (match (if ex_ret y = some .int then (some (.inl (some (.int x), w)) : Option (ER ⊕ ES)) else none) with | some (.inl r) => some r | some (.inr s') => ex_ev d cal y s' | none => none) = _
  by_cases hk : ex_ret y = some .int
  · simp only [if_pos hk] <;> rfl
  · simp only [if_neg hk] <;> rfl
theorem ev_zret {d : Nat} {cal : Nat → List Value → PW → Option ER} {y : Nat} {c : List Instr} {pl st : List Value} {w : PW} {x : Int32} : ex_ev d cal y (.areturn :: c, pl, [.int x], w) = (if x = 0 ∨ x = 1 then (if ex_ret y = some .boolean then some (some (.int x), w) else none) else none) := by
  rw [ex_ev_eq]
  show (match (if x = 0 ∨ x = 1 then (if ex_ret y = some .boolean then (some (.inl (some (.int x), w)) : Option (ER ⊕ ES)) else none) else none) with | some (.inl r) => some r | some (.inr s') => ex_ev d cal y s' | none => none) = _
  by_cases hk : x = 0 ∨ x = 1
  · by_cases hj : ex_ret y = some .boolean
    · simp only [if_pos hk, if_pos hj] <;> rfl
    · simp only [if_pos hk, if_neg hj] <;> rfl
  · simp only [if_neg hk] <;> rfl
theorem ev_lret {d : Nat} {cal : Nat → List Value → PW → Option ER} {y : Nat} {c : List Instr} {pl st : List Value} {w : PW} {x : Int64} : ex_ev d cal y (.lreturn :: c, pl, [.long x], w) = (if ex_ret y = some .long then some (some (.long x), w) else none) := by
  rw [ex_ev_eq]
  show (match (if ex_ret y = some .long then (some (.inl (some (.long x), w)) : Option (ER ⊕ ES)) else none) with | some (.inl r) => some r | some (.inr s') => ex_ev d cal y s' | none => none) = _
  by_cases hk : ex_ret y = some .long
  · simp only [if_pos hk] <;> rfl
  · simp only [if_neg hk] <;> rfl
theorem ev_vret {d : Nat} {cal : Nat → List Value → PW → Option ER} {y : Nat} {c : List Instr} {pl st : List Value} {w : PW}  : ex_ev d cal y (.return_ :: c, pl, [], w) = (if ex_ret y = none then some (none, w) else none) := by
  rw [ex_ev_eq]
  show (match (if ex_ret y = none then (some (.inl (none, w)) : Option (ER ⊕ ES)) else none) with | some (.inl r) => some r | some (.inr s') => ex_ev d cal y s' | none => none) = _
  by_cases hk : ex_ret y = none
  · simp only [if_pos hk] <;> rfl
  · simp only [if_neg hk] <;> rfl
theorem ex_cal_s {d y : Nat} {as : List Value} {w : PW} (h : ex_okR y as = true) : ex_cal (d + 1) y as w = ex_ev d (ex_cal d) y (ex_blk y 0, ex_ent y as, [], w) := by
  show (if ex_okR y as = true then _ else _) = _
  rw [if_pos h]
end
section
/-! facts of the tables, a row each (printed by wip/p34/gen5.py) -/
theorem kb_0_0 : ex_blk 0 0 = [.aload 0, .getfield 0, .invokevirtual 1024, .aload 0, .getfield 1, .invokevirtual 1024, .aload 0, .getfield 2, .invokevirtual 1024, .aload 0, .getfield 3, .invokevirtual 1024, .return_] := rfl
theorem kb_1_0 : ex_blk 1 0 = [.aload 0, .getfield 0, .iload 1, .sipush 0, .invokevirtual 994, .ireturn] := rfl
theorem kb_2_0 : ex_blk 2 0 = [.aload 0, .getfield 0, .iload 1, .sipush 1, .invokevirtual 994, .ireturn] := rfl
theorem kb_3_0 : ex_blk 3 0 = [.aload 0, .getfield 0, .iload 1, .sipush 2, .invokevirtual 994, .ireturn] := rfl
theorem kb_4_0 : ex_blk 4 0 = [.sipush 4, .aload 0, .iload 1, .invokevirtual 33, .imul, .aload 0, .iload 1, .invokevirtual 49, .iadd, .ireturn] := rfl
theorem kb_5_0 : ex_blk 5 0 = [.sipush 0, .istore 3, .jsr 2] := rfl
theorem kb_5_2 : ex_blk 5 2 = [.iload 3, .aload 0, .getfield 0, .invokevirtual 944, .if_icmp .ge 42, .aload 1, .aload 0, .iload 3, .invokevirtual 17, .aload 0, .iload 3, .invokevirtual 65, .invokevirtual 402, .iload 2, .ishr, .sipush 1, .iand, .ifCond .eq 36, .iload 3, .ireturn] := rfl
theorem kb_5_36 : ex_blk 5 36 = [.iinc 3 1, .goto 2] := rfl
theorem kb_5_42 : ex_blk 5 42 = [.sipush (-1), .ireturn] := rfl
theorem kb_6_0 : ex_blk 6 0 = [.aload 0, .sipush 0, .putfield 75, .sipush 0, .istore 2, .sipush 0, .istore 3, .sipush 0, .istore 4, .jsr 12] := rfl
theorem kb_6_12 : ex_blk 6 12 = [.iload 4, .aload 1, .invokevirtual 896, .if_icmp .ge 77, .aload 1, .iload 4, .invokevirtual 913, .istore 5, .iload 5, .sipush 47, .if_icmp .ne 44, .iinc 2 1, .sipush 0, .istore 3, .goto 71] := rfl
theorem kb_6_44 : ex_blk 6 44 = [.iload 5, .sipush 124, .if_icmp .ne 60, .aload 0, .iload 2, .iload 3, .invokevirtual 114, .goto 71] := rfl
theorem kb_6_60 : ex_blk 6 60 = [.aload 0, .iload 5, .iload 2, .iload 3, .invokevirtual 131, .iinc 3 1, .jsr 71] := rfl
theorem kb_6_71 : ex_blk 6 71 = [.iinc 4 1, .goto 12] := rfl
theorem kb_6_77 : ex_blk 6 77 = [.aload 0, .iload 2, .sipush 1, .iadd, .putfield 76, .aload 0, .iload 3, .putfield 77, .aload 0, .invokevirtual 144, .aload 0, .invokevirtual 192, .return_] := rfl
theorem kb_7_0 : ex_blk 7 0 = [.iload 1, .sipush 4, .invokestatic 1330, .ifCond .eq 15, .aload 0, .getfield 67, .iload 1, .iload 2, .iastore, .jsr 15] := rfl
theorem kb_7_15 : ex_blk 7 15 = [.return_] := rfl
theorem kb_8_0 : ex_blk 8 0 = [.aload 0, .getfield 75, .sipush 24, .if_icmp .lt 10, .return_] := rfl
theorem kb_8_10 : ex_blk 8 10 = [.iload 1, .sipush 100, .if_icmp .ne 29, .aload 0, .getfield 64, .aload 0, .getfield 75, .sipush 2, .iastore, .goto 49] := rfl
theorem kb_8_29 : ex_blk 8 29 = [.aload 0, .getfield 64, .aload 0, .getfield 75, .iload 1, .sipush 35, .if_icmp .ne 47, .sipush 1, .goto 48] := rfl
theorem kb_8_47 : ex_blk 8 47 = [.sipush 0, .jsr 48] := rfl
theorem kb_8_48 : ex_blk 8 48 = [.iastore, .jsr 49] := rfl
theorem kb_8_49 : ex_blk 8 49 = [.aload 0, .getfield 65, .aload 0, .getfield 75, .iload 2, .iastore, .aload 0, .getfield 66, .aload 0, .getfield 75, .iload 3, .iastore, .aload 0, .dup, .getfield 75, .sipush 1, .iadd, .putfield 75, .return_] := rfl
theorem kb_9_0 : ex_blk 9 0 = [.sipush 0, .istore 1, .jsr 2] := rfl
theorem kb_9_2 : ex_blk 9 2 = [.iload 1, .sipush 96, .if_icmp .ge 25, .aload 0, .iload 1, .iload 1, .sipush 2, .ishr, .iload 1, .sipush 3, .iand, .invokevirtual 163, .iinc 1 1, .goto 2] := rfl
theorem kb_9_25 : ex_blk 9 25 = [.return_] := rfl
theorem kb_10_0 : ex_blk 10 0 = [.sipush (-1), .istore 4, .iload 2, .aload 0, .getfield 75, .if_icmp .ge 41, .aload 0, .aload 0, .getfield 65, .iload 2, .iaload, .getstatic 1000, .iload 3, .iaload, .iadd, .aload 0, .getfield 66, .iload 2, .iaload, .getstatic 1001, .iload 3, .iaload, .iadd, .invokevirtual 178, .istore 4, .jsr 41] := rfl
theorem kb_10_41 : ex_blk 10 41 = [.aload 0, .getfield 68, .iload 1, .iload 4, .iastore, .aload 0, .getfield 69, .iload 1, .aload 0, .iload 4, .invokevirtual 289, .ifCond .eq 68, .iload 4, .goto 69] := rfl
theorem kb_10_68 : ex_blk 10 68 = [.iload 2, .jsr 69] := rfl
theorem kb_10_69 : ex_blk 10 69 = [.iastore, .aload 0, .getfield 70, .iload 1, .aload 0, .iload 2, .invokevirtual 305, .ifCond .eq 103, .aload 0, .iload 4, .invokevirtual 305, .ifCond .eq 103, .sipush 1, .iload 2, .ishl, .sipush 1, .iload 4, .ishl, .ior, .goto 104] := rfl
theorem kb_10_103 : ex_blk 10 103 = [.sipush 0, .jsr 104] := rfl
theorem kb_10_104 : ex_blk 10 104 = [.iastore, .aload 0, .getfield 71, .iload 1, .aload 0, .iload 2, .invokevirtual 305, .ifCond .eq 128, .iload 3, .ifCond .ne 128, .sipush 1, .iload 2, .ishl, .goto 129] := rfl
theorem kb_10_128 : ex_blk 10 128 = [.sipush 0, .jsr 129] := rfl
theorem kb_10_129 : ex_blk 10 129 = [.iastore, .return_] := rfl
theorem kb_11_0 : ex_blk 11 0 = [.iload 1, .aload 0, .getfield 76, .invokestatic 1330, .ifCond .eq 33, .iload 2, .aload 0, .getfield 77, .invokestatic 1330, .ifCond .eq 33, .iload 1, .aload 0, .getfield 77, .imul, .iload 2, .iadd, .goto 34] := rfl
theorem kb_11_33 : ex_blk 11 33 = [.sipush (-1), .jsr 34] := rfl
theorem kb_11_34 : ex_blk 11 34 = [.ireturn] := rfl
theorem kb_12_0 : ex_blk 12 0 = [.sipush 0, .istore 1, .jsr 2] := rfl
theorem kb_12_2 : ex_blk 12 2 = [.iload 1, .sipush 24, .if_icmp .ge 29, .aload 0, .getfield 72, .iload 1, .sipush (-1), .iastore, .aload 0, .getfield 73, .iload 1, .sipush 1000000, .iastore, .iinc 1 1, .goto 2] := rfl
theorem kb_12_29 : ex_blk 12 29 = [.sipush 0, .istore 1, .jsr 31] := rfl
theorem kb_12_31 : ex_blk 12 31 = [.iload 1, .aload 0, .getfield 75, .if_icmp .ge 66, .iload 1, .sipush 24, .if_icmp .ge 66, .aload 0, .getfield 64, .iload 1, .iaload, .sipush 2, .if_icmp .ne 60, .aload 0, .iload 1, .invokevirtual 209, .jsr 60] := rfl
theorem kb_12_60 : ex_blk 12 60 = [.iinc 1 1, .goto 31] := rfl
theorem kb_12_66 : ex_blk 12 66 = [.return_] := rfl
theorem kb_13_0 : ex_blk 13 0 = [.aload 0, .iload 1, .sipush 0, .sipush 0, .invokevirtual 419, .sipush 0, .istore 2, .jsr 9] := rfl
theorem kb_13_9 : ex_blk 13 9 = [.iload 2, .aload 0, .getfield 75, .if_icmp .ge 63, .iload 2, .sipush 24, .if_icmp .ge 63, .aload 0, .getfield 74, .iload 2, .iaload, .aload 0, .getfield 73, .iload 2, .iaload, .if_icmp .ge 57, .aload 0, .getfield 73, .iload 2, .aload 0, .getfield 74, .iload 2, .iaload, .iastore, .aload 0, .getfield 72, .iload 2, .iload 1, .iastore, .jsr 57] := rfl
theorem kb_13_57 : ex_blk 13 57 = [.iinc 2 1, .goto 9] := rfl
theorem kb_13_63 : ex_blk 13 63 = [.return_] := rfl
theorem kb_14_0 : ex_blk 14 0 = [.aload 0, .getfield 75, .ifCond .le 11, .sipush 1, .goto 12] := rfl
theorem kb_14_11 : ex_blk 14 11 = [.sipush 0, .jsr 12] := rfl
theorem kb_14_12 : ex_blk 14 12 = [.areturn] := rfl
theorem kb_15_0 : ex_blk 15 0 = [.aload 0, .getfield 75, .ireturn] := rfl
theorem kb_16_0 : ex_blk 16 0 = [.iload 1, .aload 0, .getfield 75, .invokestatic 1330, .areturn] := rfl
theorem kb_17_0 : ex_blk 17 0 = [.iload 1, .ifCond .lt 27, .iload 1, .aload 0, .getfield 75, .if_icmp .ge 27, .iload 1, .sipush 24, .if_icmp .ge 27, .aload 0, .getfield 64, .iload 1, .iaload, .goto 28] := rfl
theorem kb_17_27 : ex_blk 17 27 = [.sipush 1, .jsr 28] := rfl
theorem kb_17_28 : ex_blk 17 28 = [.ireturn] := rfl
theorem kb_18_0 : ex_blk 18 0 = [.aload 0, .iload 1, .invokevirtual 273, .sipush 1, .if_icmp .eq 13, .sipush 1, .goto 14] := rfl
theorem kb_18_13 : ex_blk 18 13 = [.sipush 0, .jsr 14] := rfl
theorem kb_18_14 : ex_blk 18 14 = [.areturn] := rfl
theorem kb_19_0 : ex_blk 19 0 = [.aload 0, .iload 1, .invokevirtual 273, .ifCond .ne 12, .sipush 1, .goto 13] := rfl
theorem kb_19_12 : ex_blk 19 12 = [.sipush 0, .jsr 13] := rfl
theorem kb_19_13 : ex_blk 19 13 = [.areturn] := rfl
theorem kb_20_0 : ex_blk 20 0 = [.iload 1, .aload 0, .getfield 75, .invokestatic 1330, .ifCond .eq 30, .iload 1, .sipush 24, .if_icmp .ge 30, .aload 0, .getfield 65, .iload 1, .iaload, .sipush 4, .invokestatic 1330, .ifCond .ne 32, .jsr 30] := rfl
theorem kb_20_30 : ex_blk 20 30 = [.sipush (-1), .ireturn] := rfl
theorem kb_20_32 : ex_blk 20 32 = [.aload 0, .getfield 66, .iload 1, .iaload, .aload 0, .getfield 67, .aload 0, .getfield 65, .iload 1, .iaload, .iaload, .iload 2, .iadd, .if_icmp .ge 58, .sipush 0, .goto 59] := rfl
theorem kb_20_58 : ex_blk 20 58 = [.sipush 1, .jsr 59] := rfl
theorem kb_20_59 : ex_blk 20 59 = [.ireturn] := rfl
theorem kb_21_0 : ex_blk 21 0 = [.sipush 4, .iload 1, .imul, .iload 2, .iadd, .istore 3, .iload 2, .sipush 4, .invokestatic 1330, .ifCond .eq 32, .iload 3, .sipush 96, .invokestatic 1330, .ifCond .eq 32, .aload 0, .getfield 68, .iload 3, .iaload, .goto 33] := rfl
theorem kb_21_32 : ex_blk 21 32 = [.sipush (-1), .jsr 33] := rfl
theorem kb_21_33 : ex_blk 21 33 = [.ireturn] := rfl
theorem kb_22_0 : ex_blk 22 0 = [.iload 2, .sipush 96, .invokestatic 1330, .ifCond .ne 11, .sipush (-1), .ireturn] := rfl
theorem kb_22_11 : ex_blk 22 11 = [.iload 3, .tableswitch 83 1 3 #[40, 54, 69]] := rfl
theorem kb_22_40 : ex_blk 22 40 = [.iload 1, .ifCond .ne 48, .sipush 1, .goto 49] := rfl
theorem kb_22_48 : ex_blk 22 48 = [.sipush 0, .jsr 49] := rfl
theorem kb_22_49 : ex_blk 22 49 = [.istore 4, .goto 86] := rfl
theorem kb_22_54 : ex_blk 22 54 = [.iload 1, .sipush 1, .if_icmp .ne 63, .sipush 1, .goto 64] := rfl
theorem kb_22_63 : ex_blk 22 63 = [.sipush 0, .jsr 64] := rfl
theorem kb_22_64 : ex_blk 22 64 = [.istore 4, .goto 86] := rfl
theorem kb_22_69 : ex_blk 22 69 = [.iload 1, .ifCond .eq 77, .sipush 1, .goto 78] := rfl
theorem kb_22_77 : ex_blk 22 77 = [.sipush 0, .jsr 78] := rfl
theorem kb_22_78 : ex_blk 22 78 = [.istore 4, .goto 86] := rfl
theorem kb_22_83 : ex_blk 22 83 = [.sipush 0, .istore 4, .jsr 86] := rfl
theorem kb_22_86 : ex_blk 22 86 = [.iload 4, .ifCond .eq 100, .aload 0, .getfield 69, .iload 2, .iaload, .goto 103] := rfl
theorem kb_22_100 : ex_blk 22 100 = [.iload 2, .sipush 2, .ishr, .jsr 103] := rfl
theorem kb_22_103 : ex_blk 22 103 = [.ireturn] := rfl
theorem kb_23_0 : ex_blk 23 0 = [.iload 1, .ifCond .lt 19, .iload 1, .sipush 24, .if_icmp .ge 19, .aload 0, .getfield 72, .iload 1, .iaload, .goto 20] := rfl
theorem kb_23_19 : ex_blk 23 19 = [.sipush (-1), .jsr 20] := rfl
theorem kb_23_20 : ex_blk 23 20 = [.ireturn] := rfl
theorem kb_24_0 : ex_blk 24 0 = [.aload 0, .iload 1, .invokevirtual 369, .istore 2, .iload 2, .sipush (-1), .if_icmp .ne 15, .iload 1, .goto 16] := rfl
theorem kb_24_15 : ex_blk 24 15 = [.iload 2, .jsr 16] := rfl
theorem kb_24_16 : ex_blk 24 16 = [.ireturn] := rfl
theorem kb_25_0 : ex_blk 25 0 = [.iload 2, .sipush 96, .invokestatic 1330, .ifCond .ne 11, .sipush 0, .ireturn] := rfl
theorem kb_25_11 : ex_blk 25 11 = [.iload 1, .sipush 1, .if_icmp .ne 25, .aload 0, .getfield 70, .iload 2, .iaload, .goto 31] := rfl
theorem kb_25_25 : ex_blk 25 25 = [.aload 0, .getfield 71, .iload 2, .iaload, .jsr 31] := rfl
theorem kb_25_31 : ex_blk 25 31 = [.ireturn] := rfl
theorem kb_26_0 : ex_blk 26 0 = [.sipush 0, .istore 4, .jsr 3] := rfl
theorem kb_26_3 : ex_blk 26 3 = [.iload 4, .sipush 24, .if_icmp .ge 35, .aload 0, .getfield 74, .iload 4, .iload 4, .iload 1, .if_icmp .ne 26, .sipush 0, .goto 28] := rfl
theorem kb_26_26 : ex_blk 26 26 = [.sipush 1000000, .jsr 28] := rfl
theorem kb_26_28 : ex_blk 26 28 = [.iastore, .iinc 4 1, .goto 3] := rfl
theorem kb_26_35 : ex_blk 26 35 = [.sipush 1, .istore 4, .sipush 0, .istore 5, .jsr 41] := rfl
theorem kb_26_41 : ex_blk 26 41 = [.iload 4, .ifCond .eq 139, .iload 5, .sipush 24, .if_icmp .ge 139, .sipush 0, .istore 4, .sipush 0, .istore 6, .jsr 59] := rfl
theorem kb_26_59 : ex_blk 26 59 = [.iload 6, .aload 0, .getfield 75, .if_icmp .ge 133, .iload 6, .sipush 24, .if_icmp .ge 133, .iload 6, .iload 1, .if_icmp .eq 90, .iload 3, .iload 6, .ishr, .sipush 1, .iand, .ifCond .ne 94, .jsr 90] := rfl
theorem kb_26_90 : ex_blk 26 90 = [.sipush 1, .goto 95] := rfl
theorem kb_26_94 : ex_blk 26 94 = [.sipush 0, .jsr 95] := rfl
theorem kb_26_95 : ex_blk 26 95 = [.istore 7, .iload 7, .ifCond .eq 127, .aload 0, .getfield 74, .iload 6, .iaload, .sipush 1000000, .if_icmp .ge 127, .aload 0, .iload 6, .iload 2, .invokevirtual 434, .ifCond .eq 127, .sipush 1, .istore 4, .jsr 127] := rfl
theorem kb_26_127 : ex_blk 26 127 = [.iinc 6 1, .goto 59] := rfl
theorem kb_26_133 : ex_blk 26 133 = [.iinc 5 1, .goto 41] := rfl
theorem kb_26_139 : ex_blk 26 139 = [.return_] := rfl
theorem kb_27_0 : ex_blk 27 0 = [.sipush 0, .istore 3, .sipush 0, .istore 4, .jsr 5] := rfl
theorem kb_27_5 : ex_blk 27 5 = [.iload 4, .sipush 4, .if_icmp .ge 116, .aload 0, .iload 1, .iload 4, .invokevirtual 338, .istore 5, .iload 5, .sipush 24, .invokestatic 1330, .ifCond .eq 110, .iload 1, .sipush 24, .invokestatic 1330, .ifCond .eq 110, .aload 0, .iload 5, .invokevirtual 289, .ifCond .eq 110, .aload 0, .iload 1, .sipush 0, .invokevirtual 322, .aload 0, .iload 5, .sipush 0, .invokevirtual 322, .if_icmp .ne 68, .sipush 1, .goto 71] := rfl
theorem kb_27_68 : ex_blk 27 68 = [.sipush 1, .iload 2, .iadd, .jsr 71] := rfl
theorem kb_27_71 : ex_blk 27 71 = [.istore 6, .aload 0, .getfield 74, .iload 1, .iaload, .iload 6, .iadd, .aload 0, .getfield 74, .iload 5, .iaload, .if_icmp .ge 110, .aload 0, .getfield 74, .iload 5, .aload 0, .getfield 74, .iload 1, .iaload, .iload 6, .iadd, .iastore, .sipush 1, .istore 3, .jsr 110] := rfl
theorem kb_27_110 : ex_blk 27 110 = [.iinc 4 1, .goto 5] := rfl
theorem kb_27_116 : ex_blk 27 116 = [.iload 3, .areturn] := rfl
theorem kb_28_0 : ex_blk 28 0 = [.aload 0, .sipush 0, .putfield 128, .aload 0, .sipush (-1), .putfield 129, .aload 0, .sipush 0, .putfield 130, .aload 0, .sipush 0, .putfield 131, .return_] := rfl
theorem kb_29_0 : ex_blk 29 0 = [.iload 1, .lookupswitch 67 #[(35, 62), (46, 62), (47, 57), (100, 62), (124, 52)]] := rfl
theorem kb_29_52 : ex_blk 29 52 = [.aload 0, .invokevirtual 480, .areturn] := rfl
theorem kb_29_57 : ex_blk 29 57 = [.aload 0, .invokevirtual 496, .areturn] := rfl
theorem kb_29_62 : ex_blk 29 62 = [.aload 0, .invokevirtual 512, .areturn] := rfl
theorem kb_29_67 : ex_blk 29 67 = [.sipush 0, .areturn] := rfl
theorem kb_30_0 : ex_blk 30 0 = [.aload 0, .getfield 131, .ifCond .eq 9, .sipush 0, .areturn] := rfl
theorem kb_30_9 : ex_blk 30 9 = [.aload 0, .sipush 1, .putfield 131, .sipush 1, .areturn] := rfl
theorem kb_31_0 : ex_blk 31 0 = [.aload 0, .getfield 128, .sipush 1, .iadd, .sipush 4, .if_icmp .ge 17, .aload 0, .invokevirtual 528, .ifCond .ne 19, .jsr 17] := rfl
theorem kb_31_17 : ex_blk 31 17 = [.sipush 0, .areturn] := rfl
theorem kb_31_19 : ex_blk 31 19 = [.aload 0, .aload 0, .getfield 130, .putfield 129, .aload 0, .dup, .getfield 128, .sipush 1, .iadd, .putfield 128, .aload 0, .sipush 0, .putfield 130, .aload 0, .sipush 0, .putfield 131, .sipush 1, .areturn] := rfl
theorem kb_32_0 : ex_blk 32 0 = [.aload 0, .getfield 130, .aload 0, .getfield 129, .sipush (-1), .if_icmp .ne 17, .sipush 6, .goto 21] := rfl
theorem kb_32_17 : ex_blk 32 17 = [.aload 0, .getfield 129, .jsr 21] := rfl
theorem kb_32_21 : ex_blk 32 21 = [.if_icmp .lt 26, .sipush 0, .areturn] := rfl
theorem kb_32_26 : ex_blk 32 26 = [.aload 0, .dup, .getfield 130, .sipush 1, .iadd, .putfield 130, .sipush 1, .areturn] := rfl
theorem kb_33_0 : ex_blk 33 0 = [.aload 0, .getfield 131, .ifCond .eq 41, .aload 0, .getfield 129, .sipush (-1), .if_icmp .ne 26, .aload 0, .getfield 130, .sipush 2, .if_icmp .lt 41, .goto 37] := rfl
theorem kb_33_26 : ex_blk 33 26 = [.aload 0, .getfield 130, .aload 0, .getfield 129, .if_icmp .ne 41, .jsr 37] := rfl
theorem kb_33_37 : ex_blk 33 37 = [.sipush 1, .goto 42] := rfl
theorem kb_33_41 : ex_blk 33 41 = [.sipush 0, .jsr 42] := rfl
theorem kb_33_42 : ex_blk 33 42 = [.areturn] := rfl
theorem kb_34_0 : ex_blk 34 0 = [.aload 0, .getfield 128, .sipush 1, .iadd, .sipush 2, .if_icmp .lt 21, .aload 0, .invokevirtual 528, .ifCond .eq 21, .sipush 1, .goto 22] := rfl
theorem kb_34_21 : ex_blk 34 21 = [.sipush 0, .jsr 22] := rfl
theorem kb_34_22 : ex_blk 34 22 = [.areturn] := rfl
theorem kb_35_0 : ex_blk 35 0 = [.aload 0, .sipush 0, .putfield 256, .aload 0, .sipush 0, .putfield 257, .aload 0, .sipush 0, .putfield 258, .aload 0, .sipush 0, .putfield 259, .aload 0, .sipush 0, .putfield 260, .aload 0, .sipush 0, .putfield 261, .aload 0, .sipush 0, .putfield 262, .return_] := rfl
theorem kb_36_0 : ex_blk 36 0 = [.aload 0, .getfield 261, .tableswitch 60 0 3 #[36, 42, 48, 54]] := rfl
theorem kb_36_36 : ex_blk 36 36 = [.aload 0, .iload 1, .invokevirtual 593, .areturn] := rfl
theorem kb_36_42 : ex_blk 36 42 = [.aload 0, .iload 1, .invokevirtual 609, .areturn] := rfl
theorem kb_36_48 : ex_blk 36 48 = [.aload 0, .iload 1, .invokevirtual 625, .areturn] := rfl
theorem kb_36_54 : ex_blk 36 54 = [.aload 0, .iload 1, .invokevirtual 641, .areturn] := rfl
theorem kb_36_60 : ex_blk 36 60 = [.sipush 0, .areturn] := rfl
theorem kb_37_0 : ex_blk 37 0 = [.iload 1, .sipush 119, .if_icmp .eq 14, .iload 1, .sipush 101, .if_icmp .eq 14, .sipush 0, .areturn] := rfl
theorem kb_37_14 : ex_blk 37 14 = [.aload 0, .iload 1, .sipush 119, .if_icmp .ne 25, .sipush 0, .goto 26] := rfl
theorem kb_37_25 : ex_blk 37 25 = [.sipush 1, .jsr 26] := rfl
theorem kb_37_26 : ex_blk 37 26 = [.putfield 256, .aload 0, .sipush 1, .putfield 261, .sipush 1, .areturn] := rfl
theorem kb_38_0 : ex_blk 38 0 = [.iload 1, .sipush 97, .if_icmp .lt 12, .iload 1, .sipush 102, .if_icmp .le 14, .jsr 12] := rfl
theorem kb_38_12 : ex_blk 38 12 = [.sipush 0, .areturn] := rfl
theorem kb_38_14 : ex_blk 38 14 = [.aload 0, .iload 1, .sipush 97, .isub, .putfield 257, .aload 0, .sipush 2, .putfield 261, .sipush 1, .areturn] := rfl
theorem kb_39_0 : ex_blk 39 0 = [.iload 1, .sipush 45, .if_icmp .ne 25, .aload 0, .getfield 262, .ifCond .le 25, .aload 0, .sipush 3, .putfield 261, .aload 0, .sipush 0, .putfield 262, .sipush 1, .areturn] := rfl
theorem kb_39_25 : ex_blk 39 25 = [.aload 0, .aload 0, .getfield 258, .iload 1, .invokevirtual 658, .istore 2, .iload 2, .sipush (-1), .if_icmp .ne 42, .sipush 0, .areturn] := rfl
theorem kb_39_42 : ex_blk 39 42 = [.aload 0, .iload 2, .putfield 258, .aload 0, .dup, .getfield 262, .sipush 1, .iadd, .putfield 262, .sipush 1, .areturn] := rfl
theorem kb_40_0 : ex_blk 40 0 = [.aload 0, .getfield 262, .ifCond .le 30, .iload 1, .invokestatic 673, .sipush (-1), .if_icmp .eq 30, .aload 0, .iload 1, .invokestatic 673, .putfield 260, .aload 0, .sipush 5, .putfield 261, .sipush 1, .areturn] := rfl
theorem kb_40_30 : ex_blk 40 30 = [.aload 0, .aload 0, .getfield 259, .iload 1, .invokevirtual 658, .istore 2, .iload 2, .sipush (-1), .if_icmp .ne 47, .sipush 0, .areturn] := rfl
theorem kb_40_47 : ex_blk 40 47 = [.aload 0, .iload 2, .putfield 259, .aload 0, .dup, .getfield 262, .sipush 1, .iadd, .putfield 262, .sipush 1, .areturn] := rfl
theorem kb_41_0 : ex_blk 41 0 = [.iload 2, .sipush 48, .if_icmp .lt 12, .iload 2, .sipush 57, .if_icmp .le 14, .jsr 12] := rfl
theorem kb_41_12 : ex_blk 41 12 = [.sipush (-1), .ireturn] := rfl
theorem kb_41_14 : ex_blk 41 14 = [.aload 0, .getfield 262, .ifCond .ne 26, .iload 2, .sipush 48, .isub, .ireturn] := rfl
theorem kb_41_26 : ex_blk 41 26 = [.sipush 10, .iload 1, .imul, .iload 2, .iadd, .sipush 48, .isub, .istore 3, .aload 0, .getfield 262, .sipush 1, .if_icmp .ne 58, .iload 1, .ifCond .eq 58, .iload 3, .sipush 24, .if_icmp .ge 58, .iload 3, .goto 59] := rfl
theorem kb_41_58 : ex_blk 41 58 = [.sipush (-1), .jsr 59] := rfl
theorem kb_41_59 : ex_blk 41 59 = [.ireturn] := rfl
theorem kb_42_0 : ex_blk 42 0 = [.iload 0, .tableswitch 64 102 111 #[60, 64, 56, 64, 64, 64, 64, 64, 58, 62]] := rfl
theorem kb_42_56 : ex_blk 42 56 = [.sipush 1, .ireturn] := rfl
theorem kb_42_58 : ex_blk 42 58 = [.sipush 2, .ireturn] := rfl
theorem kb_42_60 : ex_blk 42 60 = [.sipush 3, .ireturn] := rfl
theorem kb_42_62 : ex_blk 42 62 = [.sipush 4, .ireturn] := rfl
theorem kb_42_64 : ex_blk 42 64 = [.sipush (-1), .ireturn] := rfl
theorem kb_43_0 : ex_blk 43 0 = [.aload 0, .getfield 261, .sipush 5, .if_icmp .eq 23, .aload 0, .getfield 261, .sipush 3, .if_icmp .ne 27, .aload 0, .getfield 262, .ifCond .le 27, .jsr 23] := rfl
theorem kb_43_23 : ex_blk 43 23 = [.sipush 1, .goto 28] := rfl
theorem kb_43_27 : ex_blk 43 27 = [.sipush 0, .jsr 28] := rfl
theorem kb_43_28 : ex_blk 43 28 = [.areturn] := rfl
theorem kb_44_0 : ex_blk 44 0 = [.iload 1, .tableswitch 52 0 3 #[32, 37, 42, 47]] := rfl
theorem kb_44_32 : ex_blk 44 32 = [.aload 0, .getfield 256, .ireturn] := rfl
theorem kb_44_37 : ex_blk 44 37 = [.aload 0, .getfield 257, .ireturn] := rfl
theorem kb_44_42 : ex_blk 44 42 = [.aload 0, .getfield 258, .ireturn] := rfl
theorem kb_44_47 : ex_blk 44 47 = [.aload 0, .getfield 259, .ireturn] := rfl
theorem kb_44_52 : ex_blk 44 52 = [.aload 0, .getfield 260, .ireturn] := rfl
theorem kb_45_0 : ex_blk 45 0 = [.iload 1, .ifCond .eq 19, .iload 0, .iload 1, .if_icmp .eq 19, .iload 0, .sipush 3, .if_icmp .ne 23, .iload 1, .sipush 1, .if_icmp .ne 23, .jsr 19] := rfl
theorem kb_45_19 : ex_blk 45 19 = [.sipush 1, .goto 24] := rfl
theorem kb_45_23 : ex_blk 45 23 = [.sipush 0, .jsr 24] := rfl
theorem kb_45_24 : ex_blk 45 24 = [.areturn] := rfl
theorem kb_46_0 : ex_blk 46 0 = [.aload 0, .getfield 320, .invokevirtual 944, .ireturn] := rfl
theorem kb_47_0 : ex_blk 47 0 = [.aload 0, .getfield 320, .invokevirtual 960, .areturn] := rfl
theorem kb_48_0 : ex_blk 48 0 = [.aload 0, .getfield 320, .aload 1, .sipush 0, .invokevirtual 705, .aload 1, .sipush 1, .invokevirtual 705, .aload 1, .sipush 2, .invokevirtual 705, .aload 1, .sipush 3, .invokevirtual 705, .aload 1, .sipush 4, .invokevirtual 705, .invokevirtual 981, .ireturn] := rfl
theorem kb_49_0 : ex_blk 49 0 = [.aload 0, .getfield 320, .iload 1, .iload 2, .invokevirtual 994, .ireturn] := rfl
theorem kb_50_0 : ex_blk 50 0 = [.sipush 0, .istore 7, .sipush 0, .istore 8, .jsr 6] := rfl
theorem kb_50_6 : ex_blk 50 6 = [.iload 8, .aload 0, .getfield 320, .invokevirtual 944, .if_icmp .ge 73, .aload 0, .getfield 320, .iload 8, .sipush 1, .invokevirtual 994, .iload 2, .if_icmp .ne 67, .aload 0, .iload 8, .iload 3, .invokevirtual 818, .ifCond .eq 67, .aload 0, .aload 1, .iload 8, .iload 4, .iload 5, .iload 6, .invokevirtual 837, .ifCond .eq 67, .iload 7, .sipush 1, .iload 8, .ishl, .ior, .istore 7, .jsr 67] := rfl
theorem kb_50_67 : ex_blk 50 67 = [.iinc 8 1, .goto 6] := rfl
theorem kb_50_73 : ex_blk 50 73 = [.iload 7, .ireturn] := rfl
theorem kb_51_0 : ex_blk 51 0 = [.aload 0, .getfield 320, .iload 1, .sipush 2, .invokevirtual 994, .istore 3, .aload 0, .getfield 320, .iload 1, .sipush 3, .invokevirtual 994, .istore 4, .iload 3, .iload 4, .if_icmp .ge 44, .iload 2, .iload 3, .if_icmp .lt 42, .iload 2, .iload 4, .if_icmp .ge 42, .sipush 1, .goto 43] := rfl
theorem kb_51_42 : ex_blk 51 42 = [.sipush 0, .jsr 43] := rfl
theorem kb_51_43 : ex_blk 51 43 = [.areturn] := rfl
theorem kb_51_44 : ex_blk 51 44 = [.iload 3, .iload 4, .if_icmp .eq 61, .iload 2, .iload 3, .if_icmp .ge 61, .iload 2, .iload 4, .if_icmp .ge 65, .jsr 61] := rfl
theorem kb_51_61 : ex_blk 51 61 = [.sipush 1, .goto 66] := rfl
theorem kb_51_65 : ex_blk 51 65 = [.sipush 0, .jsr 66] := rfl
theorem kb_51_66 : ex_blk 51 66 = [.areturn] := rfl
theorem kb_52_0 : ex_blk 52 0 = [.aload 0, .getfield 320, .iload 2, .sipush 0, .invokevirtual 994, .istore 6, .iload 4, .sipush 2, .ishr, .istore 7, .aload 0, .getfield 320, .iload 2, .sipush 4, .invokevirtual 994, .tableswitch 180 1 4 #[56, 75, 100, 157]] := rfl
theorem kb_52_56 : ex_blk 52 56 = [.aload 1, .iload 7, .iload 5, .invokevirtual 322, .iload 6, .if_icmp .ne 73, .sipush 1, .goto 74] := rfl
theorem kb_52_73 : ex_blk 52 73 = [.sipush 0, .jsr 74] := rfl
theorem kb_52_74 : ex_blk 52 74 = [.areturn] := rfl
theorem kb_52_75 : ex_blk 52 75 = [.aload 1, .aload 1, .iload 3, .iload 4, .sipush 1, .invokevirtual 355, .iload 5, .invokevirtual 322, .iload 6, .if_icmp .ne 98, .sipush 1, .goto 99] := rfl
theorem kb_52_98 : ex_blk 52 98 = [.sipush 0, .jsr 99] := rfl
theorem kb_52_99 : ex_blk 52 99 = [.areturn] := rfl
theorem kb_52_100 : ex_blk 52 100 = [.aload 1, .iload 7, .iload 5, .invokevirtual 322, .iload 6, .if_icmp .ne 155, .aload 1, .aload 1, .iload 3, .iload 4, .sipush 2, .invokevirtual 355, .iload 5, .invokevirtual 322, .iload 6, .if_icmp .ne 155, .aload 1, .aload 1, .iload 3, .iload 4, .sipush 3, .invokevirtual 355, .iload 5, .invokevirtual 322, .iload 6, .if_icmp .ne 155, .sipush 1, .goto 156] := rfl
theorem kb_52_155 : ex_blk 52 155 = [.sipush 0, .jsr 156] := rfl
theorem kb_52_156 : ex_blk 52 156 = [.areturn] := rfl
theorem kb_52_157 : ex_blk 52 157 = [.aload 1, .aload 1, .iload 7, .invokevirtual 385, .iload 5, .invokevirtual 322, .iload 6, .if_icmp .ne 178, .sipush 1, .goto 179] := rfl
theorem kb_52_178 : ex_blk 52 178 = [.sipush 0, .jsr 179] := rfl
theorem kb_52_179 : ex_blk 52 179 = [.areturn] := rfl
theorem kb_52_180 : ex_blk 52 180 = [.sipush 1, .areturn] := rfl
theorem kb_53_0 : ex_blk 53 0 = [.sipush 0, .istore 2, .sipush 0, .istore 3, .sipush 0, .istore 4, .jsr 7] := rfl
theorem kb_53_7 : ex_blk 53 7 = [.iload 4, .sipush 8, .if_icmp .ge 59, .lload 0, .iload 4, .invokestatic 866, .istore 5, .iload 5, .sipush 126, .if_icmp .gt 38, .iload 3, .ifCond .eq 40, .iload 5, .ifCond .eq 40, .jsr 38] := rfl
theorem kb_53_38 : ex_blk 53 38 = [.sipush (-1), .ireturn] := rfl
theorem kb_53_40 : ex_blk 53 40 = [.iload 5, .ifCond .ne 50, .sipush 1, .istore 3, .goto 53] := rfl
theorem kb_53_50 : ex_blk 53 50 = [.iinc 2 1, .jsr 53] := rfl
theorem kb_53_53 : ex_blk 53 53 = [.iinc 4 1, .goto 7] := rfl
theorem kb_53_59 : ex_blk 53 59 = [.iload 2, .ireturn] := rfl
theorem kb_54_0 : ex_blk 54 0 = [.lload 0, .sipush 8, .iload 2, .imul, .lushr, .l2i, .sipush 255, .iand, .ireturn] := rfl
theorem kb_55_0 : ex_blk 55 0 = [.sipush 0, .istore 4, .jsr 3] := rfl
theorem kb_55_3 : ex_blk 55 3 = [.iload 4, .iload 3, .if_icmp .ge 49, .aload 0, .getfield 449, .sipush 40, .if_icmp .ge 49, .aload 0, .getfield 448, .aload 0, .getfield 449, .lload 1, .iload 4, .invokestatic 866, .iastore, .aload 0, .dup, .getfield 449, .sipush 1, .iadd, .putfield 449, .iinc 4 1, .goto 3] := rfl
theorem kb_55_49 : ex_blk 55 49 = [.return_] := rfl
theorem kb_56_0 : ex_blk 56 0 = [.aload 0, .getfield 449, .ireturn] := rfl
theorem kb_57_0 : ex_blk 57 0 = [.iload 1, .aload 0, .getfield 449, .invokestatic 1330, .ifCond .eq 20, .aload 0, .getfield 448, .iload 1, .iaload, .goto 21] := rfl
theorem kb_57_20 : ex_blk 57 20 = [.sipush 0, .jsr 21] := rfl
theorem kb_57_21 : ex_blk 57 21 = [.ireturn] := rfl
theorem kb_58_0 : ex_blk 58 0 = [.aload 0, .sipush 0, .putfield 449, .return_] := rfl
theorem kb_59_0 : ex_blk 59 0 = [.aload 0, .getfield 514, .ireturn] := rfl
theorem kb_60_0 : ex_blk 60 0 = [.aload 0, .getfield 514, .aload 0, .getfield 513, .if_icmp .ge 24, .aload 0, .getfield 514, .sipush 1, .iadd, .sipush 5, .imul, .sipush 60, .if_icmp .le 28, .jsr 24] := rfl
theorem kb_60_24 : ex_blk 60 24 = [.sipush 1, .goto 29] := rfl
theorem kb_60_28 : ex_blk 60 28 = [.sipush 0, .jsr 29] := rfl
theorem kb_60_29 : ex_blk 60 29 = [.areturn] := rfl
theorem kb_61_0 : ex_blk 61 0 = [.aload 0, .invokevirtual 960, .ifCond .eq 9, .sipush (-1), .ireturn] := rfl
theorem kb_61_9 : ex_blk 61 9 = [.aload 0, .getfield 514, .istore 6, .aload 0, .dup, .getfield 514, .sipush 1, .iadd, .putfield 514, .aload 0, .iload 6, .sipush 0, .iload 1, .invokevirtual 1011, .aload 0, .iload 6, .sipush 1, .iload 2, .invokevirtual 1011, .aload 0, .iload 6, .sipush 2, .iload 3, .invokevirtual 1011, .aload 0, .iload 6, .sipush 3, .iload 4, .invokevirtual 1011, .aload 0, .iload 6, .sipush 4, .iload 5, .invokevirtual 1011, .iload 6, .ireturn] := rfl
theorem kb_62_0 : ex_blk 62 0 = [.iload 1, .sipush 5, .imul, .iload 2, .iadd, .istore 3, .iload 1, .aload 0, .getfield 514, .invokestatic 1330, .ifCond .eq 35, .iload 3, .sipush 60, .invokestatic 1330, .ifCond .eq 35, .aload 0, .getfield 512, .iload 3, .iaload, .goto 36] := rfl
theorem kb_62_35 : ex_blk 62 35 = [.sipush (-1), .jsr 36] := rfl
theorem kb_62_36 : ex_blk 62 36 = [.ireturn] := rfl
theorem kb_63_0 : ex_blk 63 0 = [.iload 1, .sipush 5, .imul, .iload 2, .iadd, .istore 4, .iload 1, .aload 0, .getfield 514, .invokestatic 1330, .ifCond .eq 36, .iload 4, .sipush 60, .invokestatic 1330, .ifCond .eq 36, .aload 0, .getfield 512, .iload 4, .iload 3, .iastore, .jsr 36] := rfl
theorem kb_63_36 : ex_blk 63 36 = [.return_] := rfl
theorem kb_64_0 : ex_blk 64 0 = [.aload 0, .sipush 0, .putfield 514, .return_] := rfl
theorem kb_65_0 : ex_blk 65 0 = [.aload 0, .invokeinterface 1 0, .sipush 0, .istore 2, .jsr 6] := rfl
theorem kb_65_6 : ex_blk 65 6 = [.iload 2, .aload 1, .invokevirtual 896, .if_icmp .ge 34, .aload 0, .aload 1, .iload 2, .invokevirtual 913, .invokeinterface 2 1, .ifCond .ne 28, .iload 2, .ireturn] := rfl
theorem kb_65_28 : ex_blk 65 28 = [.iinc 2 1, .goto 6] := rfl
theorem kb_65_34 : ex_blk 65 34 = [.aload 1, .invokevirtual 896, .ireturn] := rfl
theorem kb_66_0 : ex_blk 66 0 = [.aload 0, .aload 1, .invokeinterface 5 1, .aload 1, .invokevirtual 896, .if_icmp .ne 23, .aload 0, .invokeinterface 6 0, .ifCond .eq 23, .sipush 1, .goto 24] := rfl
theorem kb_66_23 : ex_blk 66 23 = [.sipush 0, .jsr 24] := rfl
theorem kb_66_24 : ex_blk 66 24 = [.areturn] := rfl
theorem kb_67_0 : ex_blk 67 0 = [.lload 1, .invokestatic 849, .istore 3, .iload 3, .ifCond .ge 12, .sipush (-102), .ireturn] := rfl
theorem kb_67_12 : ex_blk 67 12 = [.aload 0, .getfield 640, .invokevirtual 896, .iload 3, .iadd, .sipush 40, .if_icmp .le 29, .sipush (-104), .ireturn] := rfl
theorem kb_67_29 : ex_blk 67 29 = [.aload 0, .getfield 640, .lload 1, .iload 3, .invokevirtual 882, .aload 0, .getfield 640, .invokevirtual 896, .ireturn] := rfl
theorem kb_68_0 : ex_blk 68 0 = [.iload 1, .sipush 2, .invokestatic 1330, .ifCond .ne 11, .sipush (-102), .ireturn] := rfl
theorem kb_68_11 : ex_blk 68 11 = [.iload 1, .ifCond .ne 29, .aload 0, .getfield 641, .aload 0, .getfield 640, .invokeinterface 0 1, .goto 40] := rfl
theorem kb_68_29 : ex_blk 68 29 = [.aload 0, .getfield 642, .aload 0, .getfield 640, .invokeinterface 3 1, .jsr 40] := rfl
theorem kb_68_40 : ex_blk 68 40 = [.ireturn] := rfl
theorem kb_69_0 : ex_blk 69 0 = [.aload 0, .getfield 641, .aload 0, .getfield 640, .invokeinterface 4 1, .ifCond .ne 17, .sipush (-103), .ireturn] := rfl
theorem kb_69_17 : ex_blk 69 17 = [.aload 0, .getfield 643, .aload 0, .getfield 640, .invokevirtual 97, .aload 0, .getfield 640, .invokevirtual 928, .aload 0, .getfield 645, .invokevirtual 0, .aload 0, .sipush 0, .putfield 649, .aload 0, .dup, .getfield 650, .sipush 1, .iadd, .putfield 650, .aload 0, .getfield 643, .invokevirtual 240, .ireturn] := rfl
theorem kb_70_0 : ex_blk 70 0 = [.aload 0, .getfield 642, .aload 0, .getfield 640, .invokeinterface 7 1, .ifCond .ne 17, .sipush (-103), .ireturn] := rfl
theorem kb_70_17 : ex_blk 70 17 = [.aload 0, .getfield 644, .invokevirtual 752, .ifCond .eq 30, .sipush (-104), .ireturn] := rfl
theorem kb_70_30 : ex_blk 70 30 = [.aload 0, .getfield 640, .invokevirtual 928, .aload 0, .getfield 644, .aload 0, .getfield 642, .invokevirtual 769, .ireturn] := rfl
theorem kb_71_0 : ex_blk 71 0 = [.iload 1, .aload 0, .getfield 644, .invokevirtual 736, .invokestatic 1330, .ifCond .ne 17, .sipush (-101), .ireturn] := rfl
theorem kb_71_17 : ex_blk 71 17 = [.iload 2, .sipush 5, .invokestatic 1330, .ifCond .eq 37, .aload 0, .getfield 644, .iload 1, .iload 2, .invokevirtual 786, .goto 39] := rfl
theorem kb_71_37 : ex_blk 71 37 = [.sipush (-102), .jsr 39] := rfl
theorem kb_71_39 : ex_blk 71 39 = [.ireturn] := rfl
theorem kb_72_0 : ex_blk 72 0 = [.iload 1, .aload 0, .getfield 644, .invokevirtual 736, .invokestatic 1330, .ifCond .ne 17, .sipush (-101), .ireturn] := rfl
theorem kb_72_17 : ex_blk 72 17 = [.iload 2, .sipush 5, .invokestatic 1330, .ifCond .ne 28, .sipush (-102), .ireturn] := rfl
theorem kb_72_28 : ex_blk 72 28 = [.aload 0, .getfield 644, .iload 1, .sipush 4, .invokevirtual 786, .iload 2, .invokestatic 722, .ifCond .eq 48, .iload 1, .goto 49] := rfl
theorem kb_72_48 : ex_blk 72 48 = [.sipush (-1), .jsr 49] := rfl
theorem kb_72_49 : ex_blk 72 49 = [.ireturn] := rfl
theorem kb_73_0 : ex_blk 73 0 = [.aload 0, .getfield 643, .iload 1, .invokevirtual 257, .ifCond .ne 14, .sipush (-101), .ireturn] := rfl
theorem kb_73_14 : ex_blk 73 14 = [.iload 2, .sipush 4, .invokestatic 1330, .ifCond .eq 31, .aload 0, .iload 1, .iload 2, .invokevirtual 1378, .goto 33] := rfl
theorem kb_73_31 : ex_blk 73 31 = [.sipush (-102), .jsr 33] := rfl
theorem kb_73_33 : ex_blk 73 33 = [.ireturn] := rfl
theorem kb_74_0 : ex_blk 74 0 = [.aload 0, .getfield 643, .iload 2, .invokevirtual 289, .ifCond .ne 14, .sipush (-101), .ireturn] := rfl
theorem kb_74_14 : ex_blk 74 14 = [.iload 1, .sipush 3, .invokestatic 1330, .ifCond .eq 39, .iload 3, .sipush 4, .invokestatic 1330, .ifCond .eq 39, .iload 4, .sipush 4, .invokestatic 1330, .ifCond .ne 42, .jsr 39] := rfl
theorem kb_74_39 : ex_blk 74 39 = [.sipush (-102), .ireturn] := rfl
theorem kb_74_42 : ex_blk 74 42 = [.aload 0, .getfield 643, .iload 1, .sipush 4, .iload 2, .imul, .iload 3, .iadd, .iload 4, .invokevirtual 355, .ireturn] := rfl
theorem kb_75_0 : ex_blk 75 0 = [.aload 0, .getfield 643, .iload 4, .invokevirtual 289, .ifCond .ne 15, .sipush (-101), .ireturn] := rfl
theorem kb_75_15 : ex_blk 75 15 = [.iload 1, .iload 2, .iload 3, .invokestatic 1347, .ifCond .eq 33, .iload 5, .sipush 4, .invokestatic 1330, .ifCond .ne 36, .jsr 33] := rfl
theorem kb_75_33 : ex_blk 75 33 = [.sipush (-102), .ireturn] := rfl
theorem kb_75_36 : ex_blk 75 36 = [.aload 0, .getfield 644, .aload 0, .getfield 643, .iload 1, .iload 2, .iload 3, .sipush 4, .iload 4, .imul, .iload 5, .iadd, .sipush 0, .invokevirtual 806, .ireturn] := rfl
theorem kb_76_0 : ex_blk 76 0 = [.aload 0, .getfield 643, .iload 4, .invokevirtual 289, .ifCond .ne 15, .sipush (-101), .ireturn] := rfl
theorem kb_76_15 : ex_blk 76 15 = [.iload 2, .iload 1, .iload 3, .invokestatic 1347, .ifCond .eq 33, .iload 5, .sipush 4, .invokestatic 1330, .ifCond .ne 36, .jsr 33] := rfl
theorem kb_76_33 : ex_blk 76 33 = [.sipush (-102), .ireturn] := rfl
theorem kb_76_36 : ex_blk 76 36 = [.aload 0, .getfield 645, .getfield 1, .invokevirtual 960, .ifCond .eq 52, .sipush (-104), .ireturn] := rfl
theorem kb_76_52 : ex_blk 76 52 = [.aload 0, .getfield 645, .getfield 1, .iload 1, .iload 2, .iload 3, .iload 4, .iload 5, .invokevirtual 981, .ireturn] := rfl
theorem kb_77_0 : ex_blk 77 0 = [.iload 1, .sipush 2, .invokestatic 1330, .ifCond .ne 11, .sipush (-102), .ireturn] := rfl
theorem kb_77_11 : ex_blk 77 11 = [.aload 0, .invokevirtual 1408, .istore 2, .iload 2, .sipush (-1), .if_icmp .eq 25, .iload 1, .ifCond .ne 27, .jsr 25] := rfl
theorem kb_77_25 : ex_blk 77 25 = [.iload 2, .ireturn] := rfl
theorem kb_77_27 : ex_blk 77 27 = [.aload 0, .iload 2, .sipush 0, .invokevirtual 1394, .invokestatic 1361, .ireturn] := rfl
theorem kb_78_0 : ex_blk 78 0 = [.aload 0, .getfield 643, .invokevirtual 224, .ifCond .ne 13, .sipush (-103), .ireturn] := rfl
theorem kb_78_13 : ex_blk 78 13 = [.iload 1, .iload 2, .iload 3, .invokestatic 1347, .ifCond .eq 31, .iload 4, .sipush 3, .invokestatic 1330, .ifCond .ne 34, .jsr 31] := rfl
theorem kb_78_31 : ex_blk 78 31 = [.sipush (-102), .ireturn] := rfl
theorem kb_78_34 : ex_blk 78 34 = [.sipush 0, .istore 5, .sipush 0, .istore 6, .jsr 40] := rfl
theorem kb_78_40 : ex_blk 78 40 = [.iload 6, .aload 0, .getfield 643, .invokevirtual 240, .if_icmp .ge 87, .aload 0, .getfield 643, .iload 6, .invokevirtual 289, .ifCond .eq 81, .aload 0, .iload 1, .iload 2, .iload 3, .iload 6, .invokevirtual 1428, .iload 4, .if_icmp .ne 81, .iinc 5 1, .jsr 81] := rfl
theorem kb_78_81 : ex_blk 78 81 = [.iinc 6 1, .goto 40] := rfl
theorem kb_78_87 : ex_blk 78 87 = [.iload 5, .ireturn] := rfl
theorem kb_79_0 : ex_blk 79 0 = [.aload 0, .getfield 643, .invokevirtual 224, .ifCond .ne 13, .sipush (-103), .ireturn] := rfl
theorem kb_79_13 : ex_blk 79 13 = [.iload 1, .sipush (-3), .if_icmp .lt 24, .iload 1, .sipush 3, .if_icmp .le 27, .jsr 24] := rfl
theorem kb_79_24 : ex_blk 79 24 = [.sipush (-102), .ireturn] := rfl
theorem kb_79_27 : ex_blk 79 27 = [.sipush 0, .istore 2, .sipush 0, .istore 3, .jsr 31] := rfl
theorem kb_79_31 : ex_blk 79 31 = [.iload 3, .aload 0, .getfield 645, .getfield 1, .invokevirtual 944, .if_icmp .ge 66, .aload 0, .iload 3, .iload 1, .invokevirtual 1394, .ifCond .eq 60, .iload 2, .sipush 1, .iload 3, .ishl, .ior, .istore 2, .jsr 60] := rfl
theorem kb_79_60 : ex_blk 79 60 = [.iinc 3 1, .goto 31] := rfl
theorem kb_79_66 : ex_blk 79 66 = [.iload 2, .ireturn] := rfl
theorem kb_80_0 : ex_blk 80 0 = [.aload 0, .getfield 643, .iload 1, .invokevirtual 257, .ifCond .ne 14, .sipush (-101), .ireturn] := rfl
theorem kb_80_14 : ex_blk 80 14 = [.iload 2, .sipush 2, .invokestatic 1330, .ifCond .ne 25, .sipush (-102), .ireturn] := rfl
theorem kb_80_25 : ex_blk 80 25 = [.aload 0, .getfield 645, .getfield 3, .invokevirtual 960, .ifCond .eq 41, .sipush (-104), .ireturn] := rfl
theorem kb_80_41 : ex_blk 80 41 = [.aload 0, .getfield 645, .getfield 3, .iload 1, .iload 2, .sipush 0, .sipush 0, .sipush 0, .invokevirtual 981, .pop, .aload 0, .getfield 645, .getfield 3, .invokevirtual 944, .ireturn] := rfl
theorem kb_81_0 : ex_blk 81 0 = [.aload 0, .getfield 643, .invokevirtual 224, .ifCond .eq 17, .aload 0, .invokevirtual 1440, .goto 19] := rfl
theorem kb_81_17 : ex_blk 81 17 = [.sipush (-103), .jsr 19] := rfl
theorem kb_81_19 : ex_blk 81 19 = [.ireturn] := rfl
theorem kb_82_0 : ex_blk 82 0 = [.iload 1, .tableswitch 130 0 8 #[52, 60, 68, 79, 90, 101, 112, 120, 125]] := rfl
theorem kb_82_52 : ex_blk 82 52 = [.aload 0, .getfield 643, .invokevirtual 240, .ireturn] := rfl
theorem kb_82_60 : ex_blk 82 60 = [.aload 0, .getfield 644, .invokevirtual 736, .ireturn] := rfl
theorem kb_82_68 : ex_blk 82 68 = [.aload 0, .getfield 645, .getfield 1, .invokevirtual 944, .ireturn] := rfl
theorem kb_82_79 : ex_blk 82 79 = [.aload 0, .getfield 645, .getfield 0, .invokevirtual 944, .ireturn] := rfl
theorem kb_82_90 : ex_blk 82 90 = [.aload 0, .getfield 645, .getfield 2, .invokevirtual 944, .ireturn] := rfl
theorem kb_82_101 : ex_blk 82 101 = [.aload 0, .getfield 645, .getfield 3, .invokevirtual 944, .ireturn] := rfl
theorem kb_82_112 : ex_blk 82 112 = [.aload 0, .getfield 640, .invokevirtual 896, .ireturn] := rfl
theorem kb_82_120 : ex_blk 82 120 = [.aload 0, .getfield 650, .ireturn] := rfl
theorem kb_82_125 : ex_blk 82 125 = [.aload 0, .getfield 651, .ireturn] := rfl
theorem kb_82_130 : ex_blk 82 130 = [.sipush (-102), .ireturn] := rfl
theorem kb_83_0 : ex_blk 83 0 = [.iload 0, .ifCond .lt 13, .iload 0, .iload 1, .if_icmp .ge 13, .sipush 1, .goto 14] := rfl
theorem kb_83_13 : ex_blk 83 13 = [.sipush 0, .jsr 14] := rfl
theorem kb_83_14 : ex_blk 83 14 = [.areturn] := rfl
theorem kb_84_0 : ex_blk 84 0 = [.iload 0, .sipush 6, .invokestatic 1330, .ifCond .eq 30, .iload 1, .sipush 24, .invokestatic 1330, .ifCond .eq 30, .iload 2, .sipush 3, .invokestatic 1330, .ifCond .eq 30, .sipush 1, .goto 31] := rfl
theorem kb_84_30 : ex_blk 84 30 = [.sipush 0, .jsr 31] := rfl
theorem kb_84_31 : ex_blk 84 31 = [.areturn] := rfl
theorem kb_85_0 : ex_blk 85 0 = [.sipush 0, .istore 1, .jsr 2] := rfl
theorem kb_85_2 : ex_blk 85 2 = [.iload 1, .sipush 32, .if_icmp .ge 24, .iload 0, .iload 1, .ishr, .sipush 1, .iand, .ifCond .eq 18, .iload 1, .ireturn] := rfl
theorem kb_85_18 : ex_blk 85 18 = [.iinc 1 1, .goto 2] := rfl
theorem kb_85_24 : ex_blk 85 24 = [.sipush (-1), .ireturn] := rfl
theorem kb_86_0 : ex_blk 86 0 = [.iload 2, .tableswitch 60 0 2 #[28, 37, 47]] := rfl
theorem kb_86_28 : ex_blk 86 28 = [.aload 0, .getfield 643, .iload 1, .invokevirtual 273, .ireturn] := rfl
theorem kb_86_37 : ex_blk 86 37 = [.aload 0, .getfield 643, .iload 1, .sipush 0, .invokevirtual 322, .ireturn] := rfl
theorem kb_86_47 : ex_blk 86 47 = [.aload 0, .getfield 645, .aload 0, .getfield 643, .iload 1, .invokevirtual 82, .ireturn] := rfl
theorem kb_86_60 : ex_blk 86 60 = [.aload 0, .getfield 643, .iload 1, .invokevirtual 369, .ireturn] := rfl
theorem kb_87_0 : ex_blk 87 0 = [.aload 0, .getfield 645, .getfield 1, .astore 3, .sipush 4, .aload 3, .iload 1, .sipush 3, .invokevirtual 994, .imul, .aload 3, .iload 1, .sipush 4, .invokevirtual 994, .iadd, .istore 4, .aload 0, .getfield 644, .aload 0, .getfield 643, .aload 3, .iload 1, .sipush 1, .invokevirtual 994, .aload 3, .iload 1, .sipush 0, .invokevirtual 994, .aload 3, .iload 1, .sipush 2, .invokevirtual 994, .iload 4, .iload 2, .invokevirtual 806, .ireturn] := rfl
theorem kb_88_0 : ex_blk 88 0 = [.sipush (-1), .istore 1, .sipush 24, .istore 2, .sipush 0, .istore 3, .jsr 7] := rfl
theorem kb_88_7 : ex_blk 88 7 = [.iload 3, .aload 0, .getfield 645, .getfield 1, .invokevirtual 944, .if_icmp .ge 61, .aload 0, .getfield 645, .getfield 1, .iload 3, .sipush 0, .invokevirtual 994, .istore 4, .iload 4, .iload 2, .if_icmp .ge 55, .aload 0, .iload 3, .sipush 0, .invokevirtual 1394, .ifCond .eq 55, .iload 4, .istore 2, .iload 3, .istore 1, .jsr 55] := rfl
theorem kb_88_55 : ex_blk 88 55 = [.iinc 3 1, .goto 7] := rfl
theorem kb_88_61 : ex_blk 88 61 = [.iload 1, .ireturn] := rfl
theorem kb_89_0 : ex_blk 89 0 = [.sipush 0, .istore 5, .sipush 0, .istore 6, .jsr 6] := rfl
theorem kb_89_6 : ex_blk 89 6 = [.iload 6, .sipush 4, .if_icmp .ge 46, .aload 0, .getfield 644, .aload 0, .getfield 643, .iload 1, .iload 2, .iload 3, .sipush 4, .iload 4, .imul, .iload 6, .iadd, .sipush 0, .invokevirtual 806, .ifCond .eq 40, .iinc 5 1, .jsr 40] := rfl
theorem kb_89_40 : ex_blk 89 40 = [.iinc 6 1, .goto 6] := rfl
theorem kb_89_46 : ex_blk 89 46 = [.iload 5, .ifCond .ne 53, .sipush 0, .ireturn] := rfl
theorem kb_89_53 : ex_blk 89 53 = [.iload 5, .sipush 4, .if_icmp .ge 63, .sipush 1, .goto 64] := rfl
theorem kb_89_63 : ex_blk 89 63 = [.sipush 2, .jsr 64] := rfl
theorem kb_89_64 : ex_blk 89 64 = [.ireturn] := rfl
theorem kb_90_0 : ex_blk 90 0 = [.sipush 0, .istore 1, .sipush (-3), .istore 2, .jsr 5] := rfl
theorem kb_90_5 : ex_blk 90 5 = [.iload 2, .sipush 3, .if_icmp .gt 32, .aload 0, .iload 2, .invokevirtual 1457, .ifCond .eq 26, .iload 1, .sipush 1, .iload 2, .sipush 3, .iadd, .ishl, .ior, .istore 1, .jsr 26] := rfl
theorem kb_90_26 : ex_blk 90 26 = [.iinc 2 1, .goto 5] := rfl
theorem kb_90_32 : ex_blk 90 32 = [.iload 1, .ireturn] := rfl
theorem kb_91_0 : ex_blk 91 0 = [.sipush 0, .istore 2, .jsr 2] := rfl
theorem kb_91_2 : ex_blk 91 2 = [.iload 2, .aload 0, .getfield 645, .getfield 3, .invokevirtual 944, .if_icmp .ge 59, .aload 0, .getfield 643, .aload 0, .getfield 645, .getfield 3, .iload 2, .sipush 0, .invokevirtual 994, .iload 1, .invokevirtual 322, .aload 0, .getfield 645, .getfield 3, .iload 2, .sipush 1, .invokevirtual 994, .if_icmp .eq 53, .sipush 0, .areturn] := rfl
theorem kb_91_53 : ex_blk 91 53 = [.iinc 2 1, .goto 2] := rfl
theorem kb_91_59 : ex_blk 91 59 = [.sipush 1, .areturn] := rfl
theorem kb_92_0 : ex_blk 92 0 = [.iload 1, .aload 0, .arraylength, .if_icmp .ge 12, .aload 0, .iload 1, .iaload, .goto 20] := rfl
theorem kb_92_12 : ex_blk 92 12 = [.sipush 7919, .iload 1, .imul, .sipush 13, .iadd, .jsr 20] := rfl
theorem kb_92_20 : ex_blk 92 20 = [.sipush 2147483647, .iand, .ireturn] := rfl
theorem kb_93_0 : ex_blk 93 0 = [.aload 0, .iload 1, .i2l, .invokevirtual 1073, .ifCond .le 13, .sipush 1, .goto 14] := rfl
theorem kb_93_13 : ex_blk 93 13 = [.sipush 0, .jsr 14] := rfl
theorem kb_93_14 : ex_blk 93 14 = [.areturn] := rfl
theorem kb_94_0 : ex_blk 94 0 = [.iload 1, .sipush 10, .if_icmp .lt 20, .aload 0, .sipush 48, .iload 1, .sipush 10, .idiv, .iadd, .invokestatic 1490, .ifCond .eq 38, .jsr 20] := rfl
theorem kb_94_20 : ex_blk 94 20 = [.aload 0, .sipush 48, .iload 1, .sipush 10, .irem, .iadd, .invokestatic 1490, .ifCond .eq 38, .sipush 1, .goto 39] := rfl
theorem kb_94_38 : ex_blk 94 38 = [.sipush 0, .jsr 39] := rfl
theorem kb_94_39 : ex_blk 94 39 = [.areturn] := rfl
theorem kb_95_0 : ex_blk 95 0 = [.aload 3, .sipush 0, .sipush 2, .aload 1, .iload 2, .invokestatic 1474, .sipush 3, .irem, .iadd, .iastore, .aload 3, .sipush 1, .sipush 2, .aload 1, .iload 2, .invokestatic 1474, .sipush 4, .idiv, .sipush 5, .irem, .iadd, .iastore, .sipush 1, .istore 5, .sipush 0, .istore 6, .jsr 32] := rfl
theorem kb_95_32 : ex_blk 95 32 = [.iload 6, .aload 3, .sipush 0, .iaload, .if_icmp .ge 301, .aload 3, .sipush 2, .iload 6, .iadd, .aload 1, .iload 2, .invokestatic 1474, .iload 6, .ifCond .ne 60, .sipush 64, .goto 86] := rfl
theorem kb_95_60 : ex_blk 95 60 = [.iload 6, .sipush 1, .if_icmp .ne 72, .sipush 512, .goto 86] := rfl
theorem kb_95_72 : ex_blk 95 72 = [.iload 6, .sipush 2, .if_icmp .ne 84, .sipush 4096, .goto 86] := rfl
theorem kb_95_84 : ex_blk 95 84 = [.sipush 32768, .jsr 86] := rfl
theorem kb_95_86 : ex_blk 95 86 = [.idiv, .aload 3, .sipush 1, .iaload, .sipush 1, .iadd, .irem, .iastore, .iload 5, .ifCond .eq 135, .iload 6, .ifCond .eq 113, .aload 0, .sipush 47, .invokestatic 1490, .ifCond .eq 135, .jsr 113] := rfl
theorem kb_95_113 : ex_blk 95 113 = [.aload 3, .sipush 2, .iload 6, .iadd, .iaload, .ifCond .gt 131, .aload 0, .sipush 124, .invokestatic 1490, .ifCond .eq 135, .jsr 131] := rfl
theorem kb_95_131 : ex_blk 95 131 = [.sipush 1, .goto 136] := rfl
theorem kb_95_135 : ex_blk 95 135 = [.sipush 0, .jsr 136] := rfl
theorem kb_95_136 : ex_blk 95 136 = [.istore 5, .sipush 0, .istore 7, .jsr 141] := rfl
theorem kb_95_141 : ex_blk 95 141 = [.iload 7, .aload 3, .sipush 1, .iaload, .if_icmp .ge 295, .aload 3, .sipush 1, .iaload, .iload 6, .imul, .iload 7, .iadd, .istore 8, .aload 1, .iload 2, .sipush 1, .iadd, .iload 8, .sipush 8, .idiv, .iadd, .invokestatic 1474, .sipush 3, .iload 8, .sipush 8, .irem, .imul, .ishr, .sipush 7, .iand, .istore 9, .aload 4, .iload 8, .iload 8, .ifCond .eq 202, .iload 9, .sipush 6, .if_icmp .ge 206, .jsr 202] := rfl
theorem kb_95_202 : ex_blk 95 202 = [.sipush 0, .goto 218] := rfl
theorem kb_95_206 : ex_blk 95 206 = [.iload 9, .sipush 6, .if_icmp .ne 217, .sipush 1, .goto 218] := rfl
theorem kb_95_217 : ex_blk 95 217 = [.sipush 2, .jsr 218] := rfl
theorem kb_95_218 : ex_blk 95 218 = [.iastore, .iload 5, .ifCond .eq 286, .aload 0, .aload 4, .iload 8, .iaload, .ifCond .ne 238, .sipush 46, .goto 254] := rfl
theorem kb_95_238 : ex_blk 95 238 = [.aload 4, .iload 8, .iaload, .sipush 1, .if_icmp .ne 252, .sipush 35, .goto 254] := rfl
theorem kb_95_252 : ex_blk 95 252 = [.sipush 100, .jsr 254] := rfl
theorem kb_95_254 : ex_blk 95 254 = [.invokestatic 1490, .ifCond .eq 286, .aload 3, .sipush 2, .iload 6, .iadd, .iaload, .iload 7, .sipush 1, .iadd, .if_icmp .ne 282, .aload 0, .sipush 124, .invokestatic 1490, .ifCond .eq 286, .jsr 282] := rfl
theorem kb_95_282 : ex_blk 95 282 = [.sipush 1, .goto 287] := rfl
theorem kb_95_286 : ex_blk 95 286 = [.sipush 0, .jsr 287] := rfl
theorem kb_95_287 : ex_blk 95 287 = [.istore 5, .iinc 7 1, .goto 141] := rfl
theorem kb_95_295 : ex_blk 95 295 = [.iinc 6 1, .goto 32] := rfl
theorem kb_95_301 : ex_blk 95 301 = [.iload 5, .ifCond .eq 338, .aload 0, .sipush 0, .invokevirtual 1089, .aload 0, .sipush 6, .invokevirtual 1313, .if_icmp .ne 338, .aload 0, .invokevirtual 1104, .aload 3, .sipush 0, .iaload, .aload 3, .sipush 1, .iaload, .imul, .if_icmp .ne 338, .sipush 1, .goto 339] := rfl
theorem kb_95_338 : ex_blk 95 338 = [.sipush 0, .jsr 339] := rfl
theorem kb_95_339 : ex_blk 95 339 = [.areturn] := rfl
theorem kb_96_0 : ex_blk 96 0 = [.aload 3, .sipush 5, .iload 2, .imul, .iload 1, .sipush 2, .irem, .iastore, .aload 3, .sipush 5, .iload 2, .imul, .sipush 1, .iadd, .iload 1, .sipush 2, .idiv, .sipush 6, .irem, .iastore, .aload 3, .sipush 5, .iload 2, .imul, .sipush 2, .iadd, .iload 1, .sipush 16, .idiv, .sipush 24, .irem, .iastore, .aload 3, .sipush 5, .iload 2, .imul, .sipush 3, .iadd, .iload 1, .sipush 512, .idiv, .sipush 24, .irem, .iastore, .aload 3, .sipush 5, .iload 2, .imul, .sipush 4, .iadd, .iload 1, .sipush 16384, .idiv, .sipush 5, .irem, .iastore, .aload 3, .sipush 5, .iload 2, .imul, .sipush 4, .iadd, .iaload, .istore 4, .aload 0, .iload 1, .sipush 2, .irem, .ifCond .ne 85, .sipush 119, .goto 87] := rfl
theorem kb_96_85 : ex_blk 96 85 = [.sipush 101, .jsr 87] := rfl
theorem kb_96_87 : ex_blk 96 87 = [.invokestatic 1490, .ifCond .eq 198, .aload 0, .sipush 97, .aload 3, .sipush 5, .iload 2, .imul, .sipush 1, .iadd, .iaload, .iadd, .invokestatic 1490, .ifCond .eq 198, .aload 0, .aload 3, .sipush 5, .iload 2, .imul, .sipush 2, .iadd, .iaload, .invokestatic 1506, .ifCond .eq 198, .aload 0, .sipush 45, .invokestatic 1490, .ifCond .eq 198, .aload 0, .aload 3, .sipush 5, .iload 2, .imul, .sipush 3, .iadd, .iaload, .invokestatic 1506, .ifCond .eq 198, .iload 4, .ifCond .eq 194, .aload 0, .iload 4, .sipush 1, .if_icmp .ne 164, .sipush 104, .goto 188] := rfl
theorem kb_96_164 : ex_blk 96 164 = [.iload 4, .sipush 2, .if_icmp .ne 175, .sipush 110, .goto 188] := rfl
theorem kb_96_175 : ex_blk 96 175 = [.iload 4, .sipush 3, .if_icmp .ne 186, .sipush 102, .goto 188] := rfl
theorem kb_96_186 : ex_blk 96 186 = [.sipush 111, .jsr 188] := rfl
theorem kb_96_188 : ex_blk 96 188 = [.invokestatic 1490, .ifCond .eq 198, .jsr 194] := rfl
theorem kb_96_194 : ex_blk 96 194 = [.sipush 1, .goto 199] := rfl
theorem kb_96_198 : ex_blk 96 198 = [.sipush 0, .jsr 199] := rfl
theorem kb_96_199 : ex_blk 96 199 = [.istore 5, .iload 5, .ifCond .eq 232, .aload 0, .sipush 1, .invokevirtual 1089, .aload 0, .sipush 6, .invokevirtual 1313, .if_icmp .ne 232, .aload 0, .invokevirtual 1120, .iload 2, .if_icmp .ne 232, .sipush 1, .goto 233] := rfl
theorem kb_96_232 : ex_blk 96 232 = [.sipush 0, .jsr 233] := rfl
theorem kb_96_233 : ex_blk 96 233 = [.areturn] := rfl
theorem kb_97_0 : ex_blk 97 0 = [.iload 1, .aload 0, .sipush 1, .iaload, .idiv, .iload 2, .ifCond .ne 13, .sipush (-1), .goto 23] := rfl
theorem kb_97_13 : ex_blk 97 13 = [.iload 2, .sipush 2, .if_icmp .ne 22, .sipush 1, .goto 23] := rfl
theorem kb_97_22 : ex_blk 97 22 = [.sipush 0, .jsr 23] := rfl
theorem kb_97_23 : ex_blk 97 23 = [.iadd, .istore 3, .iload 1, .aload 0, .sipush 1, .iaload, .irem, .iload 2, .sipush 1, .if_icmp .ne 39, .sipush 1, .goto 49] := rfl
theorem kb_97_39 : ex_blk 97 39 = [.iload 2, .sipush 3, .if_icmp .ne 48, .sipush (-1), .goto 49] := rfl
theorem kb_97_48 : ex_blk 97 48 = [.sipush 0, .jsr 49] := rfl
theorem kb_97_49 : ex_blk 97 49 = [.iadd, .istore 4, .iload 3, .ifCond .lt 76, .iload 3, .aload 0, .sipush 0, .iaload, .if_icmp .eq 76, .iload 4, .ifCond .lt 76, .iload 4, .aload 0, .sipush 1, .iaload, .if_icmp .ne 80, .jsr 76] := rfl
theorem kb_97_76 : ex_blk 97 76 = [.sipush (-1), .goto 88] := rfl
theorem kb_97_80 : ex_blk 97 80 = [.aload 0, .sipush 1, .iaload, .iload 3, .imul, .iload 4, .iadd, .jsr 88] := rfl
theorem kb_97_88 : ex_blk 97 88 = [.ireturn] := rfl
theorem kb_98_0 : ex_blk 98 0 = [.aload 0, .iload 2, .iload 3, .invokestatic 1555, .istore 4, .iload 4, .ifCond .lt 21, .aload 1, .iload 4, .iaload, .sipush 1, .if_icmp .ne 25, .jsr 21] := rfl
theorem kb_98_21 : ex_blk 98 21 = [.iload 2, .goto 27] := rfl
theorem kb_98_25 : ex_blk 98 25 = [.iload 4, .jsr 27] := rfl
theorem kb_98_27 : ex_blk 98 27 = [.ireturn] := rfl
theorem kb_99_0 : ex_blk 99 0 = [.aload 0, .sipush 2, .iload 1, .aload 0, .sipush 1, .iaload, .idiv, .iadd, .iaload, .iload 2, .iadd, .istore 3, .iload 1, .aload 0, .sipush 1, .iaload, .irem, .iload 3, .if_icmp .ge 25, .sipush 0, .goto 26] := rfl
theorem kb_99_25 : ex_blk 99 25 = [.sipush 1, .jsr 26] := rfl
theorem kb_99_26 : ex_blk 99 26 = [.ireturn] := rfl
theorem kb_100_0 : ex_blk 100 0 = [.aload 0, .sipush 0, .iaload, .aload 0, .sipush 1, .iaload, .imul, .istore 7, .sipush 0, .istore 8, .jsr 12] := rfl
theorem kb_100_12 : ex_blk 100 12 = [.iload 8, .sipush 24, .if_icmp .ge 43, .aload 6, .iload 8, .iload 8, .iload 2, .if_icmp .ne 33, .sipush 0, .goto 36] := rfl
theorem kb_100_33 : ex_blk 100 33 = [.sipush 9999, .jsr 36] := rfl
theorem kb_100_36 : ex_blk 100 36 = [.iastore, .iinc 8 1, .goto 12] := rfl
theorem kb_100_43 : ex_blk 100 43 = [.sipush 0, .istore 8, .jsr 46] := rfl
theorem kb_100_46 : ex_blk 100 46 = [.iload 8, .iload 7, .if_icmp .ge 235, .sipush 0, .istore 9, .jsr 56] := rfl
theorem kb_100_56 : ex_blk 100 56 = [.iload 9, .iload 7, .if_icmp .ge 229, .sipush 0, .istore 10, .jsr 66] := rfl
theorem kb_100_66 : ex_blk 100 66 = [.iload 10, .sipush 4, .if_icmp .ge 223, .aload 1, .iload 9, .iaload, .sipush 1, .if_icmp .eq 223, .iload 9, .iload 3, .if_icmp .eq 102, .iload 9, .iload 2, .if_icmp .eq 223, .iload 4, .iload 9, .ishr, .sipush 1, .iand, .ifCond .ne 223, .jsr 102] := rfl
theorem kb_100_102 : ex_blk 100 102 = [.aload 0, .iload 9, .iload 10, .invokestatic 1555, .istore 11, .iload 11, .ifCond .lt 145, .aload 1, .iload 11, .iaload, .sipush 1, .if_icmp .eq 145, .iload 11, .iload 2, .if_icmp .eq 141, .iload 4, .iload 11, .ishr, .sipush 1, .iand, .ifCond .ne 145, .jsr 141] := rfl
theorem kb_100_141 : ex_blk 100 141 = [.sipush 1, .goto 146] := rfl
theorem kb_100_145 : ex_blk 100 145 = [.sipush 0, .jsr 146] := rfl
theorem kb_100_146 : ex_blk 100 146 = [.istore 12, .iload 12, .ifCond .eq 187, .aload 6, .iload 11, .iaload, .sipush 1, .iadd, .aload 0, .iload 9, .sipush 0, .invokestatic 1587, .aload 0, .iload 11, .sipush 0, .invokestatic 1587, .if_icmp .ne 181, .sipush 0, .goto 183] := rfl
theorem kb_100_181 : ex_blk 100 181 = [.iload 5, .jsr 183] := rfl
theorem kb_100_183 : ex_blk 100 183 = [.iadd, .goto 190] := rfl
theorem kb_100_187 : ex_blk 100 187 = [.sipush 9999, .jsr 190] := rfl
theorem kb_100_190 : ex_blk 100 190 = [.istore 13, .aload 6, .iload 9, .iload 13, .aload 6, .iload 9, .iaload, .if_icmp .ge 211, .iload 13, .goto 216] := rfl
theorem kb_100_211 : ex_blk 100 211 = [.aload 6, .iload 9, .iaload, .jsr 216] := rfl
theorem kb_100_216 : ex_blk 100 216 = [.iastore, .iinc 10 1, .goto 66] := rfl
theorem kb_100_223 : ex_blk 100 223 = [.iinc 9 1, .goto 56] := rfl
theorem kb_100_229 : ex_blk 100 229 = [.iinc 8 1, .goto 46] := rfl
theorem kb_100_235 : ex_blk 100 235 = [.return_] := rfl
theorem kb_101_0 : ex_blk 101 0 = [.sipush 24, .anewarray 51, .astore 3, .sipush (-1), .istore 4, .aload 1, .iload 2, .iaload, .sipush 1, .if_icmp .ne 17, .sipush (-1), .ireturn] := rfl
theorem kb_101_17 : ex_blk 101 17 = [.aload 0, .aload 1, .iload 2, .sipush (-1), .sipush 0, .sipush 0, .aload 3, .invokestatic 1607, .aload 0, .sipush 0, .iaload, .aload 0, .sipush 1, .iaload, .imul, .sipush 1, .isub, .istore 5, .jsr 38] := rfl
theorem kb_101_38 : ex_blk 101 38 = [.iload 5, .ifCond .lt 92, .aload 1, .iload 5, .iaload, .sipush 2, .if_icmp .ne 82, .aload 3, .iload 5, .iaload, .sipush 9999, .if_icmp .ge 82, .iload 4, .ifCond .lt 77, .aload 3, .iload 5, .iaload, .aload 3, .iload 4, .iaload, .if_icmp .gt 82, .jsr 77] := rfl
theorem kb_101_77 : ex_blk 101 77 = [.iload 5, .goto 84] := rfl
theorem kb_101_82 : ex_blk 101 82 = [.iload 4, .jsr 84] := rfl
theorem kb_101_84 : ex_blk 101 84 = [.istore 4, .iinc 5 (-1), .goto 38] := rfl
theorem kb_101_92 : ex_blk 101 92 = [.iload 4, .ireturn] := rfl
theorem kb_102_0 : ex_blk 102 0 = [.sipush 0, .istore 3, .jsr 2] := rfl
theorem kb_102_2 : ex_blk 102 2 = [.iload 3, .aload 0, .sipush 0, .iaload, .aload 0, .sipush 1, .iaload, .imul, .if_icmp .ge 41, .aload 0, .aload 1, .iload 3, .invokestatic 1619, .istore 4, .aload 2, .iload 3, .iload 4, .ifCond .ge 32, .iload 3, .goto 34] := rfl
theorem kb_102_32 : ex_blk 102 32 = [.iload 4, .jsr 34] := rfl
theorem kb_102_34 : ex_blk 102 34 = [.iastore, .iinc 3 1, .goto 2] := rfl
theorem kb_102_41 : ex_blk 102 41 = [.return_] := rfl
theorem kb_103_0 : ex_blk 103 0 = [.sipush 0, .istore 11, .aload 0, .aload 1, .iload 9, .iload 10, .invokestatic 1572, .istore 12, .sipush 0, .istore 13, .jsr 17] := rfl
theorem kb_103_17 : ex_blk 103 17 = [.iload 13, .iload 4, .if_icmp .ge 330, .aload 3, .sipush 5, .iload 13, .imul, .sipush 2, .iadd, .iaload, .istore 14, .aload 3, .sipush 5, .iload 13, .imul, .sipush 3, .iadd, .iaload, .istore 15, .iload 14, .iload 15, .if_icmp .eq 76, .iload 7, .iload 14, .isub, .sipush 24, .iadd, .sipush 24, .irem, .iload 15, .iload 14, .isub, .sipush 24, .iadd, .sipush 24, .irem, .if_icmp .ge 80, .jsr 76] := rfl
theorem kb_103_76 : ex_blk 103 76 = [.sipush 1, .goto 81] := rfl
theorem kb_103_80 : ex_blk 103 80 = [.sipush 0, .jsr 81] := rfl
theorem kb_103_81 : ex_blk 103 81 = [.istore 16, .aload 3, .sipush 5, .iload 13, .imul, .iaload, .istore 17, .aload 0, .iload 9, .iload 5, .invokestatic 1587, .iload 17, .if_icmp .ne 108, .sipush 1, .goto 109] := rfl
theorem kb_103_108 : ex_blk 103 108 = [.sipush 0, .jsr 109] := rfl
theorem kb_103_109 : ex_blk 103 109 = [.istore 18, .aload 0, .iload 8, .sipush 1, .if_icmp .ne 123, .iload 12, .goto 125] := rfl
theorem kb_103_123 : ex_blk 103 123 = [.iload 9, .jsr 125] := rfl
theorem kb_103_125 : ex_blk 103 125 = [.iload 5, .invokestatic 1587, .iload 17, .if_icmp .ne 139, .sipush 1, .goto 140] := rfl
theorem kb_103_139 : ex_blk 103 139 = [.sipush 0, .jsr 140] := rfl
theorem kb_103_140 : ex_blk 103 140 = [.istore 19, .aload 0, .iload 8, .ifCond .ne 153, .iload 9, .goto 155] := rfl
theorem kb_103_153 : ex_blk 103 153 = [.iload 12, .jsr 155] := rfl
theorem kb_103_155 : ex_blk 103 155 = [.iload 5, .invokestatic 1587, .iload 17, .if_icmp .ne 169, .sipush 1, .goto 170] := rfl
theorem kb_103_169 : ex_blk 103 169 = [.sipush 0, .jsr 170] := rfl
theorem kb_103_170 : ex_blk 103 170 = [.istore 20, .aload 0, .iload 8, .ifCond .ne 183, .iload 12, .goto 185] := rfl
theorem kb_103_183 : ex_blk 103 183 = [.iload 9, .jsr 185] := rfl
theorem kb_103_185 : ex_blk 103 185 = [.iload 5, .invokestatic 1587, .iload 17, .if_icmp .ne 199, .sipush 1, .goto 200] := rfl
theorem kb_103_199 : ex_blk 103 199 = [.sipush 0, .jsr 200] := rfl
theorem kb_103_200 : ex_blk 103 200 = [.istore 21, .aload 3, .sipush 5, .iload 13, .imul, .sipush 4, .iadd, .iaload, .istore 22, .iload 22, .ifCond .eq 281, .iload 22, .sipush 1, .if_icmp .ne 228, .iload 18, .ifCond .ne 281, .jsr 228] := rfl
theorem kb_103_228 : ex_blk 103 228 = [.iload 22, .sipush 2, .if_icmp .ne 239, .iload 21, .ifCond .ne 281, .jsr 239] := rfl
theorem kb_103_239 : ex_blk 103 239 = [.iload 22, .sipush 3, .if_icmp .ne 260, .iload 18, .ifCond .eq 260, .iload 19, .ifCond .eq 260, .iload 20, .ifCond .ne 281, .jsr 260] := rfl
theorem kb_103_260 : ex_blk 103 260 = [.iload 22, .sipush 4, .if_icmp .ne 285, .aload 0, .aload 2, .iload 9, .iaload, .iload 5, .invokestatic 1587, .iload 17, .if_icmp .ne 285, .jsr 281] := rfl
theorem kb_103_281 : ex_blk 103 281 = [.sipush 1, .goto 286] := rfl
theorem kb_103_285 : ex_blk 103 285 = [.sipush 0, .jsr 286] := rfl
theorem kb_103_286 : ex_blk 103 286 = [.istore 23, .iload 11, .iload 16, .ifCond .eq 320, .iload 23, .ifCond .eq 320, .iload 6, .aload 3, .sipush 5, .iload 13, .imul, .sipush 1, .iadd, .iaload, .if_icmp .ne 320, .sipush 1, .iload 13, .ishl, .goto 321] := rfl
theorem kb_103_320 : ex_blk 103 320 = [.sipush 0, .jsr 321] := rfl
theorem kb_103_321 : ex_blk 103 321 = [.ior, .istore 11, .iinc 13 1, .goto 17] := rfl
theorem kb_103_330 : ex_blk 103 330 = [.iload 11, .ireturn] := rfl
theorem kb_104_30 : ex_blk 104 30 = [.aload 1, .aload 0, .sipush 0, .aload 2, .aload 3, .invokestatic 1525, .ifCond .ne 43, .sipush 0, .areturn] := rfl
theorem kb_104_43 : ex_blk 104 43 = [.aload 2, .sipush 0, .iaload, .aload 2, .sipush 1, .iaload, .imul, .istore 6, .aload 2, .aload 3, .aload 4, .invokestatic 1635, .sipush 0, .istore 7, .jsr 62] := rfl
theorem kb_104_62 : ex_blk 104 62 = [.iload 7, .iload 6, .if_icmp .ge 136, .aload 1, .iload 7, .sipush 0, .invokevirtual 1170, .aload 3, .iload 7, .iaload, .if_icmp .ne 128, .aload 1, .iload 7, .sipush 1, .invokevirtual 1170, .aload 2, .iload 7, .sipush 0, .invokestatic 1587, .if_icmp .ne 128, .aload 1, .iload 7, .sipush 2, .invokevirtual 1170, .sipush (-1), .if_icmp .ne 128, .aload 1, .iload 7, .sipush 3, .invokevirtual 1170, .aload 2, .aload 3, .iload 7, .invokestatic 1619, .if_icmp .eq 130, .jsr 128] := rfl
theorem kb_104_128 : ex_blk 104 128 = [.sipush 0, .areturn] := rfl
theorem kb_104_130 : ex_blk 104 130 = [.iinc 7 1, .goto 62] := rfl
theorem kb_104_136 : ex_blk 104 136 = [.aload 0, .sipush 4, .invokestatic 1474, .sipush 9, .irem, .istore 7, .sipush 0, .istore 8, .jsr 149] := rfl
theorem kb_104_149 : ex_blk 104 149 = [.iload 8, .iload 7, .if_icmp .ge 273, .aload 1, .aload 0, .sipush 5, .iload 8, .iadd, .invokestatic 1474, .iload 8, .aload 5, .invokestatic 1540, .ifCond .ne 177, .sipush 0, .areturn] := rfl
theorem kb_104_177 : ex_blk 104 177 = [.sipush 0, .istore 9, .jsr 180] := rfl
theorem kb_104_180 : ex_blk 104 180 = [.iload 9, .sipush 5, .if_icmp .ge 267, .aload 5, .sipush 5, .iload 8, .imul, .sipush 4, .iadd, .iaload, .istore 10, .aload 1, .iload 8, .iload 9, .invokevirtual 1138, .aload 5, .sipush 5, .iload 8, .imul, .iload 9, .iadd, .iaload, .if_icmp .ne 259, .aload 1, .iload 8, .iload 9, .invokevirtual 1154, .iload 9, .ifCond .eq 250, .iload 9, .iload 10, .if_icmp .eq 250, .iload 9, .sipush 1, .if_icmp .ne 255, .iload 10, .sipush 3, .if_icmp .ne 255, .jsr 250] := rfl
theorem kb_104_250 : ex_blk 104 250 = [.iload 8, .goto 256] := rfl
theorem kb_104_255 : ex_blk 104 255 = [.sipush (-1), .jsr 256] := rfl
theorem kb_104_256 : ex_blk 104 256 = [.if_icmp .eq 261, .jsr 259] := rfl
theorem kb_104_259 : ex_blk 104 259 = [.sipush 0, .areturn] := rfl
theorem kb_104_261 : ex_blk 104 261 = [.iinc 9 1, .goto 180] := rfl
theorem kb_104_267 : ex_blk 104 267 = [.iinc 8 1, .goto 149] := rfl
theorem kb_104_273 : ex_blk 104 273 = [.sipush 60, .anewarray 50, .astore 8, .sipush 0, .istore 9, .sipush (-1), .istore 10, .sipush (-1), .istore 11, .sipush 0, .istore 12, .jsr 291] := rfl
theorem kb_104_291 : ex_blk 104 291 = [.iload 12, .sipush 14, .if_icmp .ge 910, .aload 0, .sipush 13, .iload 12, .iadd, .invokestatic 1474, .istore 13, .iload 13, .iload 6, .irem, .istore 14, .iload 13, .sipush 32, .idiv, .sipush 4, .irem, .istore 15, .iload 13, .sipush 128, .idiv, .sipush 3, .irem, .istore 16, .iload 13, .sipush 512, .idiv, .sipush 24, .irem, .istore 17, .iload 7, .ifCond .le 380, .iload 13, .sipush 16384, .idiv, .sipush 3, .irem, .ifCond .le 380, .jsr 362] := rfl
theorem kb_104_362 : ex_blk 104 362 = [.aload 5, .sipush 5, .iload 13, .sipush 65536, .idiv, .iload 7, .irem, .imul, .sipush 1, .iadd, .iaload, .goto 388] := rfl
theorem kb_104_380 : ex_blk 104 380 = [.iload 13, .sipush 65536, .idiv, .sipush 6, .irem, .jsr 388] := rfl
theorem kb_104_388 : ex_blk 104 388 = [.istore 18, .aload 3, .iload 14, .iaload, .sipush 1, .if_icmp .ne 454, .aload 1, .iload 16, .iload 14, .iload 15, .sipush 0, .invokevirtual 1188, .sipush (-101), .if_icmp .ne 452, .aload 1, .iload 18, .iload 17, .iload 16, .iload 14, .iload 15, .invokevirtual 1205, .sipush (-101), .if_icmp .ne 452, .aload 1, .iload 17, .iload 18, .iload 16, .iload 14, .iload 15, .invokevirtual 1221, .sipush (-101), .if_icmp .eq 746, .jsr 452] := rfl
theorem kb_104_452 : ex_blk 104 452 = [.sipush 0, .areturn] := rfl
theorem kb_104_454 : ex_blk 104 454 = [.aload 2, .aload 3, .iload 14, .iload 15, .invokestatic 1572, .istore 19, .aload 1, .iload 16, .iload 14, .iload 15, .sipush 0, .invokevirtual 1188, .iload 14, .if_icmp .ne 560, .aload 1, .iload 16, .iload 14, .iload 15, .sipush 1, .invokevirtual 1188, .iload 16, .ifCond .ne 502, .iload 19, .goto 504] := rfl
theorem kb_104_502 : ex_blk 104 502 = [.iload 14, .jsr 504] := rfl
theorem kb_104_504 : ex_blk 104 504 = [.if_icmp .ne 560, .aload 1, .iload 16, .iload 14, .iload 15, .sipush 2, .invokevirtual 1188, .iload 16, .sipush 1, .if_icmp .ne 529, .iload 19, .goto 531] := rfl
theorem kb_104_529 : ex_blk 104 529 = [.iload 14, .jsr 531] := rfl
theorem kb_104_531 : ex_blk 104 531 = [.if_icmp .ne 560, .aload 1, .iload 16, .iload 14, .iload 15, .sipush 3, .invokevirtual 1188, .iload 16, .ifCond .ne 555, .iload 14, .goto 557] := rfl
theorem kb_104_555 : ex_blk 104 555 = [.iload 19, .jsr 557] := rfl
theorem kb_104_557 : ex_blk 104 557 = [.if_icmp .eq 562, .jsr 560] := rfl
theorem kb_104_560 : ex_blk 104 560 = [.sipush 0, .areturn] := rfl
theorem kb_104_562 : ex_blk 104 562 = [.aload 2, .aload 3, .aload 4, .aload 5, .iload 7, .sipush 0, .iload 18, .iload 17, .iload 16, .iload 14, .iload 15, .invokestatic 1659, .istore 20, .aload 1, .iload 18, .iload 17, .iload 16, .iload 14, .iload 15, .invokevirtual 1205, .iload 20, .if_icmp .ne 636, .aload 1, .iload 17, .iload 18, .iload 16, .iload 14, .iload 15, .invokevirtual 1221, .iload 9, .sipush 12, .if_icmp .ne 631, .sipush (-104), .goto 633] := rfl
theorem kb_104_631 : ex_blk 104 631 = [.iload 9, .jsr 633] := rfl
theorem kb_104_633 : ex_blk 104 633 = [.if_icmp .eq 638, .jsr 636] := rfl
theorem kb_104_636 : ex_blk 104 636 = [.sipush 0, .areturn] := rfl
theorem kb_104_638 : ex_blk 104 638 = [.iload 9, .sipush 12, .if_icmp .ge 746, .iload 20, .ifCond .eq 690, .iload 10, .ifCond .lt 667, .iload 17, .aload 8, .sipush 5, .iload 10, .imul, .iaload, .if_icmp .ge 690, .jsr 667] := rfl
theorem kb_104_667 : ex_blk 104 667 = [.iload 9, .istore 10, .sipush 0, .istore 11, .jsr 674] := rfl
theorem kb_104_674 : ex_blk 104 674 = [.iload 20, .iload 11, .ishr, .sipush 1, .iand, .ifCond .ne 690, .iinc 11 1, .goto 674] := rfl
theorem kb_104_690 : ex_blk 104 690 = [.aload 8, .sipush 5, .iload 9, .imul, .iload 17, .iastore, .aload 8, .sipush 5, .iload 9, .imul, .sipush 1, .iadd, .iload 18, .iastore, .aload 8, .sipush 5, .iload 9, .imul, .sipush 2, .iadd, .iload 16, .iastore, .aload 8, .sipush 5, .iload 9, .imul, .sipush 3, .iadd, .iload 14, .iastore, .aload 8, .sipush 5, .iload 9, .imul, .sipush 4, .iadd, .iload 15, .iastore, .iinc 9 1, .jsr 746] := rfl
theorem kb_104_746 : ex_blk 104 746 = [.sipush 3, .anewarray 52, .astore 19, .sipush 0, .istore 20, .jsr 754] := rfl
theorem kb_104_754 : ex_blk 104 754 = [.iload 20, .iload 6, .if_icmp .ge 867, .sipush 0, .istore 21, .sipush 0, .istore 22, .jsr 767] := rfl
theorem kb_104_767 : ex_blk 104 767 = [.iload 22, .sipush 4, .if_icmp .ge 822, .aload 3, .iload 20, .iaload, .sipush 1, .if_icmp .eq 822, .iload 21, .aload 2, .aload 3, .aload 4, .aload 5, .iload 7, .sipush 0, .iload 18, .iload 17, .iload 16, .iload 20, .iload 22, .invokestatic 1659, .ifCond .ne 812, .sipush 0, .goto 813] := rfl
theorem kb_104_812 : ex_blk 104 812 = [.sipush 1, .jsr 813] := rfl
theorem kb_104_813 : ex_blk 104 813 = [.iadd, .istore 21, .iinc 22 1, .goto 767] := rfl
theorem kb_104_822 : ex_blk 104 822 = [.aload 19, .iload 21, .ifCond .ne 833, .sipush 0, .goto 844] := rfl
theorem kb_104_833 : ex_blk 104 833 = [.iload 21, .sipush 4, .if_icmp .ge 843, .sipush 1, .goto 844] := rfl
theorem kb_104_843 : ex_blk 104 843 = [.sipush 2, .jsr 844] := rfl
theorem kb_104_844 : ex_blk 104 844 = [.dup2, .iaload, .aload 3, .iload 20, .iaload, .sipush 1, .if_icmp .ne 858, .sipush 0, .goto 859] := rfl
theorem kb_104_858 : ex_blk 104 858 = [.sipush 1, .jsr 859] := rfl
theorem kb_104_859 : ex_blk 104 859 = [.iadd, .iastore, .iinc 20 1, .goto 754] := rfl
theorem kb_104_867 : ex_blk 104 867 = [.sipush 0, .istore 20, .jsr 870] := rfl
theorem kb_104_870 : ex_blk 104 870 = [.iload 20, .sipush 3, .if_icmp .ge 904, .aload 1, .iload 18, .iload 17, .iload 16, .iload 20, .invokevirtual 1252, .aload 19, .iload 20, .iaload, .if_icmp .eq 898, .sipush 0, .areturn] := rfl
theorem kb_104_898 : ex_blk 104 898 = [.iinc 20 1, .goto 870] := rfl
theorem kb_104_904 : ex_blk 104 904 = [.iinc 12 1, .goto 291] := rfl
theorem kb_104_910 : ex_blk 104 910 = [.aload 1, .sipush 0, .invokevirtual 1233, .iload 10, .if_icmp .ne 940, .aload 1, .sipush 1, .invokevirtual 1233, .iload 11, .if_icmp .ne 940, .aload 1, .sipush 2, .invokevirtual 1313, .iload 9, .if_icmp .eq 942, .jsr 940] := rfl
theorem kb_104_940 : ex_blk 104 940 = [.sipush 0, .areturn] := rfl
theorem kb_104_942 : ex_blk 104 942 = [.sipush (-3), .istore 12, .jsr 946] := rfl
theorem kb_104_946 : ex_blk 104 946 = [.iload 12, .sipush 4, .if_icmp .ge 1062, .sipush 0, .istore 13, .sipush 0, .istore 14, .jsr 958] := rfl
theorem kb_104_958 : ex_blk 104 958 = [.iload 14, .iload 9, .if_icmp .ge 1043, .iload 13, .aload 2, .aload 3, .aload 4, .aload 5, .iload 7, .iload 12, .aload 8, .sipush 5, .iload 14, .imul, .sipush 1, .iadd, .iaload, .aload 8, .sipush 5, .iload 14, .imul, .iaload, .aload 8, .sipush 5, .iload 14, .imul, .sipush 2, .iadd, .iaload, .aload 8, .sipush 5, .iload 14, .imul, .sipush 3, .iadd, .iaload, .aload 8, .sipush 5, .iload 14, .imul, .sipush 4, .iadd, .iaload, .invokestatic 1659, .ifCond .ne 1030, .jsr 1026] := rfl
theorem kb_104_1026 : ex_blk 104 1026 = [.sipush 0, .goto 1034] := rfl
theorem kb_104_1030 : ex_blk 104 1030 = [.sipush 1, .iload 14, .ishl, .jsr 1034] := rfl
theorem kb_104_1034 : ex_blk 104 1034 = [.ior, .istore 13, .iinc 14 1, .goto 958] := rfl
theorem kb_104_1043 : ex_blk 104 1043 = [.aload 1, .iload 12, .invokevirtual 1265, .iload 13, .if_icmp .eq 1056, .sipush 0, .areturn] := rfl
theorem kb_104_1056 : ex_blk 104 1056 = [.iinc 12 1, .goto 946] := rfl
theorem kb_104_1062 : ex_blk 104 1062 = [.sipush 127, .istore 12, .aload 0, .sipush 27, .invokestatic 1474, .sipush 7, .irem, .sipush 3, .isub, .istore 13, .aload 0, .sipush 28, .invokestatic 1474, .sipush 11, .irem, .istore 14, .sipush 0, .istore 15, .jsr 1093] := rfl
theorem kb_104_1093 : ex_blk 104 1093 = [.iload 15, .iload 14, .if_icmp .ge 1220, .aload 0, .sipush 29, .iload 15, .iadd, .invokestatic 1474, .istore 16, .iload 16, .iload 6, .irem, .istore 17, .iload 16, .sipush 32, .idiv, .sipush 9, .irem, .ifCond .ne 1140, .iload 16, .sipush 512, .idiv, .sipush 2, .irem, .goto 1148] := rfl
theorem kb_104_1140 : ex_blk 104 1140 = [.aload 2, .iload 17, .iload 13, .invokestatic 1587, .jsr 1148] := rfl
theorem kb_104_1148 : ex_blk 104 1148 = [.istore 18, .aload 1, .iload 17, .iload 18, .invokevirtual 1282, .iload 15, .sipush 1, .iadd, .if_icmp .eq 1167, .sipush 0, .areturn] := rfl
theorem kb_104_1167 : ex_blk 104 1167 = [.sipush (-3), .istore 19, .jsr 1171] := rfl
theorem kb_104_1171 : ex_blk 104 1171 = [.iload 19, .sipush 4, .if_icmp .ge 1214, .iload 12, .aload 2, .iload 17, .iload 19, .invokestatic 1587, .iload 18, .if_icmp .ne 1197, .sipush 127, .goto 1205] := rfl
theorem kb_104_1197 : ex_blk 104 1197 = [.sipush 1, .iload 19, .sipush 3, .iadd, .ishl, .sipush (-1), .ixor, .jsr 1205] := rfl
theorem kb_104_1205 : ex_blk 104 1205 = [.iand, .istore 12, .iinc 19 1, .goto 1171] := rfl
theorem kb_104_1214 : ex_blk 104 1214 = [.iinc 15 1, .goto 1093] := rfl
theorem kb_104_1220 : ex_blk 104 1220 = [.aload 1, .invokevirtual 1296, .iload 12, .if_icmp .ne 1546, .aload 1, .iload 6, .sipush 0, .invokevirtual 1170, .sipush (-101), .if_icmp .ne 1546, .aload 1, .sipush 0, .sipush 4, .invokevirtual 1170, .sipush (-102), .if_icmp .ne 1546, .aload 1, .sipush 3, .sipush 0, .sipush 0, .sipush 0, .invokevirtual 1188, .sipush (-102), .if_icmp .ne 1546, .aload 1, .sipush 0, .sipush 0, .sipush 4, .sipush 0, .invokevirtual 1188, .sipush (-102), .if_icmp .ne 1546, .aload 1, .sipush 0, .sipush 0, .sipush 0, .sipush 4, .invokevirtual 1188, .sipush (-102), .if_icmp .ne 1546, .jsr 1291] := rfl
theorem kb_104_1291 : ex_blk 104 1291 = [.aload 1, .sipush 0, .iload 6, .sipush 0, .sipush 0, .invokevirtual 1188, .sipush (-101), .if_icmp .ne 1546, .aload 1, .sipush 6, .sipush 0, .sipush 0, .sipush 0, .sipush 0, .invokevirtual 1205, .sipush (-102), .if_icmp .ne 1546, .aload 1, .sipush 0, .sipush 24, .sipush 0, .sipush 0, .sipush 0, .invokevirtual 1205, .sipush (-102), .if_icmp .ne 1546, .aload 1, .sipush 0, .sipush 0, .sipush 3, .sipush 0, .sipush 0, .invokevirtual 1205, .sipush (-102), .if_icmp .ne 1546, .aload 1, .sipush 0, .sipush 0, .sipush 0, .sipush 0, .sipush (-1), .invokevirtual 1205, .sipush (-102), .if_icmp .ne 1546, .jsr 1363] := rfl
theorem kb_104_1363 : ex_blk 104 1363 = [.aload 1, .sipush 24, .sipush 0, .sipush 0, .sipush 0, .sipush 0, .invokevirtual 1221, .sipush (-102), .if_icmp .ne 1546, .aload 1, .sipush 0, .sipush (-1), .sipush 0, .sipush 0, .sipush 0, .invokevirtual 1221, .sipush (-102), .if_icmp .ne 1546, .aload 1, .sipush 2, .invokevirtual 1233, .sipush (-102), .if_icmp .ne 1546, .aload 1, .sipush 6, .sipush 0, .sipush 0, .sipush 0, .invokevirtual 1252, .sipush (-102), .if_icmp .ne 1546, .aload 1, .sipush 0, .sipush 0, .sipush 0, .sipush 3, .invokevirtual 1252, .sipush (-102), .if_icmp .ne 1546, .jsr 1429] := rfl
theorem kb_104_1429 : ex_blk 104 1429 = [.aload 1, .sipush 4, .invokevirtual 1265, .sipush (-102), .if_icmp .ne 1546, .aload 1, .sipush (-4), .invokevirtual 1265, .sipush (-102), .if_icmp .ne 1546, .aload 1, .iload 6, .sipush 0, .invokevirtual 1282, .sipush (-101), .if_icmp .ne 1546, .aload 1, .sipush 0, .sipush 2, .invokevirtual 1282, .sipush (-102), .if_icmp .ne 1546, .iload 14, .sipush 10, .if_icmp .lt 1491, .aload 1, .sipush 0, .sipush 0, .invokevirtual 1282, .sipush (-104), .if_icmp .ne 1546, .jsr 1491] := rfl
theorem kb_104_1491 : ex_blk 104 1491 = [.aload 1, .iload 7, .sipush 0, .invokevirtual 1138, .sipush (-101), .if_icmp .ne 1546, .aload 1, .iload 7, .sipush 0, .invokevirtual 1154, .sipush (-101), .if_icmp .ne 1546, .iload 7, .ifCond .eq 1542, .aload 1, .sipush 0, .sipush 5, .invokevirtual 1138, .sipush (-102), .if_icmp .ne 1546, .aload 1, .sipush 0, .sipush 5, .invokevirtual 1154, .sipush (-102), .if_icmp .ne 1546, .jsr 1542] := rfl
theorem kb_104_1542 : ex_blk 104 1542 = [.sipush 1, .goto 1547] := rfl
theorem kb_104_1546 : ex_blk 104 1546 = [.sipush 0, .jsr 1547] := rfl
theorem kb_104_1547 : ex_blk 104 1547 = [.areturn] := rfl
theorem kr_0 : ex_ret 0 = none := rfl
theorem ke_0 {d : Nat} {o : Nat} {w : PW} (h : ex_cls o = 0) : ex_cal (d + 1) 0 [.ref o] w = ex_ev d (ex_cal d) 0 (ex_blk 0 0, [.ref o], [], w) := by
  rw [ex_cal_s (by simp [ex_okR, ex_isv, ex_lay, h, show ex_C 0 = 0 from rfl, show ex_L 0 = 1 from rfl])]
  rfl
theorem kr_1 : ex_ret 1 = some .int := rfl
theorem ke_1 {d : Nat} {o : Nat} {a0 : Int32} {w : PW} (h : ex_cls o = 0) : ex_cal (d + 1) 1 [.ref o, .int a0] w = ex_ev d (ex_cal d) 1 (ex_blk 1 0, [.ref o, .int a0], [], w) := by
  rw [ex_cal_s (by simp [ex_okR, ex_isv, ex_lay, h, show ex_C 1 = 0 from rfl, show ex_L 1 = 2 from rfl])]
  rfl
theorem kr_2 : ex_ret 2 = some .int := rfl
theorem ke_2 {d : Nat} {o : Nat} {a0 : Int32} {w : PW} (h : ex_cls o = 0) : ex_cal (d + 1) 2 [.ref o, .int a0] w = ex_ev d (ex_cal d) 2 (ex_blk 2 0, [.ref o, .int a0], [], w) := by
  rw [ex_cal_s (by simp [ex_okR, ex_isv, ex_lay, h, show ex_C 2 = 0 from rfl, show ex_L 2 = 2 from rfl])]
  rfl
theorem kr_3 : ex_ret 3 = some .int := rfl
theorem ke_3 {d : Nat} {o : Nat} {a0 : Int32} {w : PW} (h : ex_cls o = 0) : ex_cal (d + 1) 3 [.ref o, .int a0] w = ex_ev d (ex_cal d) 3 (ex_blk 3 0, [.ref o, .int a0], [], w) := by
  rw [ex_cal_s (by simp [ex_okR, ex_isv, ex_lay, h, show ex_C 3 = 0 from rfl, show ex_L 3 = 2 from rfl])]
  rfl
theorem kr_4 : ex_ret 4 = some .int := rfl
theorem ke_4 {d : Nat} {o : Nat} {a0 : Int32} {w : PW} (h : ex_cls o = 0) : ex_cal (d + 1) 4 [.ref o, .int a0] w = ex_ev d (ex_cal d) 4 (ex_blk 4 0, [.ref o, .int a0], [], w) := by
  rw [ex_cal_s (by simp [ex_okR, ex_isv, ex_lay, h, show ex_C 4 = 0 from rfl, show ex_L 4 = 2 from rfl])]
  rfl
theorem kr_5 : ex_ret 5 = some .int := rfl
theorem ke_5 {d : Nat} {o : Nat} {a0 : Nat} {a1 : Int32} {w : PW} (h : ex_cls o = 0) : ex_cal (d + 1) 5 [.ref o, .ref a0, .int a1] w = ex_ev d (ex_cal d) 5 (ex_blk 5 0, [.ref o, .ref a0, .int a1, .null], [], w) := by
  rw [ex_cal_s (by simp [ex_okR, ex_isv, ex_lay, h, show ex_C 5 = 0 from rfl, show ex_L 5 = 4 from rfl])]
  rfl
theorem kr_6 : ex_ret 6 = none := rfl
theorem ke_6 {d : Nat} {o : Nat} {a0 : Nat} {w : PW} (h : ex_cls o = 1) : ex_cal (d + 1) 6 [.ref o, .ref a0] w = ex_ev d (ex_cal d) 6 (ex_blk 6 0, [.ref o, .ref a0, .null, .null, .null, .null], [], w) := by
  rw [ex_cal_s (by simp [ex_okR, ex_isv, ex_lay, h, show ex_C 6 = 1 from rfl, show ex_L 6 = 6 from rfl])]
  rfl
theorem kr_7 : ex_ret 7 = none := rfl
theorem ke_7 {d : Nat} {o : Nat} {a0 : Int32} {a1 : Int32} {w : PW} (h : ex_cls o = 1) : ex_cal (d + 1) 7 [.ref o, .int a0, .int a1] w = ex_ev d (ex_cal d) 7 (ex_blk 7 0, [.ref o, .int a0, .int a1], [], w) := by
  rw [ex_cal_s (by simp [ex_okR, ex_isv, ex_lay, h, show ex_C 7 = 1 from rfl, show ex_L 7 = 3 from rfl])]
  rfl
theorem kr_8 : ex_ret 8 = none := rfl
theorem ke_8 {d : Nat} {o : Nat} {a0 : Int32} {a1 : Int32} {a2 : Int32} {w : PW} (h : ex_cls o = 1) : ex_cal (d + 1) 8 [.ref o, .int a0, .int a1, .int a2] w = ex_ev d (ex_cal d) 8 (ex_blk 8 0, [.ref o, .int a0, .int a1, .int a2], [], w) := by
  rw [ex_cal_s (by simp [ex_okR, ex_isv, ex_lay, h, show ex_C 8 = 1 from rfl, show ex_L 8 = 4 from rfl])]
  rfl
theorem kr_9 : ex_ret 9 = none := rfl
theorem ke_9 {d : Nat} {o : Nat} {w : PW} (h : ex_cls o = 1) : ex_cal (d + 1) 9 [.ref o] w = ex_ev d (ex_cal d) 9 (ex_blk 9 0, [.ref o, .null], [], w) := by
  rw [ex_cal_s (by simp [ex_okR, ex_isv, ex_lay, h, show ex_C 9 = 1 from rfl, show ex_L 9 = 2 from rfl])]
  rfl
theorem kr_10 : ex_ret 10 = none := rfl
theorem ke_10 {d : Nat} {o : Nat} {a0 : Int32} {a1 : Int32} {a2 : Int32} {w : PW} (h : ex_cls o = 1) : ex_cal (d + 1) 10 [.ref o, .int a0, .int a1, .int a2] w = ex_ev d (ex_cal d) 10 (ex_blk 10 0, [.ref o, .int a0, .int a1, .int a2, .null], [], w) := by
  rw [ex_cal_s (by simp [ex_okR, ex_isv, ex_lay, h, show ex_C 10 = 1 from rfl, show ex_L 10 = 5 from rfl])]
  rfl
theorem kr_11 : ex_ret 11 = some .int := rfl
theorem ke_11 {d : Nat} {o : Nat} {a0 : Int32} {a1 : Int32} {w : PW} (h : ex_cls o = 1) : ex_cal (d + 1) 11 [.ref o, .int a0, .int a1] w = ex_ev d (ex_cal d) 11 (ex_blk 11 0, [.ref o, .int a0, .int a1], [], w) := by
  rw [ex_cal_s (by simp [ex_okR, ex_isv, ex_lay, h, show ex_C 11 = 1 from rfl, show ex_L 11 = 3 from rfl])]
  rfl
theorem kr_12 : ex_ret 12 = none := rfl
theorem ke_12 {d : Nat} {o : Nat} {w : PW} (h : ex_cls o = 1) : ex_cal (d + 1) 12 [.ref o] w = ex_ev d (ex_cal d) 12 (ex_blk 12 0, [.ref o, .null], [], w) := by
  rw [ex_cal_s (by simp [ex_okR, ex_isv, ex_lay, h, show ex_C 12 = 1 from rfl, show ex_L 12 = 2 from rfl])]
  rfl
theorem kr_13 : ex_ret 13 = none := rfl
theorem ke_13 {d : Nat} {o : Nat} {a0 : Int32} {w : PW} (h : ex_cls o = 1) : ex_cal (d + 1) 13 [.ref o, .int a0] w = ex_ev d (ex_cal d) 13 (ex_blk 13 0, [.ref o, .int a0, .null], [], w) := by
  rw [ex_cal_s (by simp [ex_okR, ex_isv, ex_lay, h, show ex_C 13 = 1 from rfl, show ex_L 13 = 3 from rfl])]
  rfl
theorem kr_14 : ex_ret 14 = some .boolean := rfl
theorem ke_14 {d : Nat} {o : Nat} {w : PW} (h : ex_cls o = 1) : ex_cal (d + 1) 14 [.ref o] w = ex_ev d (ex_cal d) 14 (ex_blk 14 0, [.ref o], [], w) := by
  rw [ex_cal_s (by simp [ex_okR, ex_isv, ex_lay, h, show ex_C 14 = 1 from rfl, show ex_L 14 = 1 from rfl])]
  rfl
theorem kr_15 : ex_ret 15 = some .int := rfl
theorem ke_15 {d : Nat} {o : Nat} {w : PW} (h : ex_cls o = 1) : ex_cal (d + 1) 15 [.ref o] w = ex_ev d (ex_cal d) 15 (ex_blk 15 0, [.ref o], [], w) := by
  rw [ex_cal_s (by simp [ex_okR, ex_isv, ex_lay, h, show ex_C 15 = 1 from rfl, show ex_L 15 = 1 from rfl])]
  rfl
theorem kr_16 : ex_ret 16 = some .boolean := rfl
theorem ke_16 {d : Nat} {o : Nat} {a0 : Int32} {w : PW} (h : ex_cls o = 1) : ex_cal (d + 1) 16 [.ref o, .int a0] w = ex_ev d (ex_cal d) 16 (ex_blk 16 0, [.ref o, .int a0], [], w) := by
  rw [ex_cal_s (by simp [ex_okR, ex_isv, ex_lay, h, show ex_C 16 = 1 from rfl, show ex_L 16 = 2 from rfl])]
  rfl
theorem kr_17 : ex_ret 17 = some .int := rfl
theorem ke_17 {d : Nat} {o : Nat} {a0 : Int32} {w : PW} (h : ex_cls o = 1) : ex_cal (d + 1) 17 [.ref o, .int a0] w = ex_ev d (ex_cal d) 17 (ex_blk 17 0, [.ref o, .int a0], [], w) := by
  rw [ex_cal_s (by simp [ex_okR, ex_isv, ex_lay, h, show ex_C 17 = 1 from rfl, show ex_L 17 = 2 from rfl])]
  rfl
theorem kr_18 : ex_ret 18 = some .boolean := rfl
theorem ke_18 {d : Nat} {o : Nat} {a0 : Int32} {w : PW} (h : ex_cls o = 1) : ex_cal (d + 1) 18 [.ref o, .int a0] w = ex_ev d (ex_cal d) 18 (ex_blk 18 0, [.ref o, .int a0], [], w) := by
  rw [ex_cal_s (by simp [ex_okR, ex_isv, ex_lay, h, show ex_C 18 = 1 from rfl, show ex_L 18 = 2 from rfl])]
  rfl
theorem kr_19 : ex_ret 19 = some .boolean := rfl
theorem ke_19 {d : Nat} {o : Nat} {a0 : Int32} {w : PW} (h : ex_cls o = 1) : ex_cal (d + 1) 19 [.ref o, .int a0] w = ex_ev d (ex_cal d) 19 (ex_blk 19 0, [.ref o, .int a0], [], w) := by
  rw [ex_cal_s (by simp [ex_okR, ex_isv, ex_lay, h, show ex_C 19 = 1 from rfl, show ex_L 19 = 2 from rfl])]
  rfl
theorem kr_20 : ex_ret 20 = some .int := rfl
theorem ke_20 {d : Nat} {o : Nat} {a0 : Int32} {a1 : Int32} {w : PW} (h : ex_cls o = 1) : ex_cal (d + 1) 20 [.ref o, .int a0, .int a1] w = ex_ev d (ex_cal d) 20 (ex_blk 20 0, [.ref o, .int a0, .int a1], [], w) := by
  rw [ex_cal_s (by simp [ex_okR, ex_isv, ex_lay, h, show ex_C 20 = 1 from rfl, show ex_L 20 = 3 from rfl])]
  rfl
theorem kr_21 : ex_ret 21 = some .int := rfl
theorem ke_21 {d : Nat} {o : Nat} {a0 : Int32} {a1 : Int32} {w : PW} (h : ex_cls o = 1) : ex_cal (d + 1) 21 [.ref o, .int a0, .int a1] w = ex_ev d (ex_cal d) 21 (ex_blk 21 0, [.ref o, .int a0, .int a1, .null], [], w) := by
  rw [ex_cal_s (by simp [ex_okR, ex_isv, ex_lay, h, show ex_C 21 = 1 from rfl, show ex_L 21 = 4 from rfl])]
  rfl
theorem kr_22 : ex_ret 22 = some .int := rfl
theorem ke_22 {d : Nat} {o : Nat} {a0 : Int32} {a1 : Int32} {a2 : Int32} {w : PW} (h : ex_cls o = 1) : ex_cal (d + 1) 22 [.ref o, .int a0, .int a1, .int a2] w = ex_ev d (ex_cal d) 22 (ex_blk 22 0, [.ref o, .int a0, .int a1, .int a2, .null], [], w) := by
  rw [ex_cal_s (by simp [ex_okR, ex_isv, ex_lay, h, show ex_C 22 = 1 from rfl, show ex_L 22 = 5 from rfl])]
  rfl
theorem kr_23 : ex_ret 23 = some .int := rfl
theorem ke_23 {d : Nat} {o : Nat} {a0 : Int32} {w : PW} (h : ex_cls o = 1) : ex_cal (d + 1) 23 [.ref o, .int a0] w = ex_ev d (ex_cal d) 23 (ex_blk 23 0, [.ref o, .int a0], [], w) := by
  rw [ex_cal_s (by simp [ex_okR, ex_isv, ex_lay, h, show ex_C 23 = 1 from rfl, show ex_L 23 = 2 from rfl])]
  rfl
theorem kr_24 : ex_ret 24 = some .int := rfl
theorem ke_24 {d : Nat} {o : Nat} {a0 : Int32} {w : PW} (h : ex_cls o = 1) : ex_cal (d + 1) 24 [.ref o, .int a0] w = ex_ev d (ex_cal d) 24 (ex_blk 24 0, [.ref o, .int a0, .null], [], w) := by
  rw [ex_cal_s (by simp [ex_okR, ex_isv, ex_lay, h, show ex_C 24 = 1 from rfl, show ex_L 24 = 3 from rfl])]
  rfl
theorem kr_25 : ex_ret 25 = some .int := rfl
theorem ke_25 {d : Nat} {o : Nat} {a0 : Int32} {a1 : Int32} {w : PW} (h : ex_cls o = 1) : ex_cal (d + 1) 25 [.ref o, .int a0, .int a1] w = ex_ev d (ex_cal d) 25 (ex_blk 25 0, [.ref o, .int a0, .int a1], [], w) := by
  rw [ex_cal_s (by simp [ex_okR, ex_isv, ex_lay, h, show ex_C 25 = 1 from rfl, show ex_L 25 = 3 from rfl])]
  rfl
theorem kr_26 : ex_ret 26 = none := rfl
theorem ke_26 {d : Nat} {o : Nat} {a0 : Int32} {a1 : Int32} {a2 : Int32} {w : PW} (h : ex_cls o = 1) : ex_cal (d + 1) 26 [.ref o, .int a0, .int a1, .int a2] w = ex_ev d (ex_cal d) 26 (ex_blk 26 0, [.ref o, .int a0, .int a1, .int a2, .null, .null, .null, .null], [], w) := by
  rw [ex_cal_s (by simp [ex_okR, ex_isv, ex_lay, h, show ex_C 26 = 1 from rfl, show ex_L 26 = 8 from rfl])]
  rfl
theorem kr_27 : ex_ret 27 = some .boolean := rfl
theorem ke_27 {d : Nat} {o : Nat} {a0 : Int32} {a1 : Int32} {w : PW} (h : ex_cls o = 1) : ex_cal (d + 1) 27 [.ref o, .int a0, .int a1] w = ex_ev d (ex_cal d) 27 (ex_blk 27 0, [.ref o, .int a0, .int a1, .null, .null, .null, .null], [], w) := by
  rw [ex_cal_s (by simp [ex_okR, ex_isv, ex_lay, h, show ex_C 27 = 1 from rfl, show ex_L 27 = 7 from rfl])]
  rfl
theorem kr_28 : ex_ret 28 = none := rfl
theorem ke_28 {d : Nat} {o : Nat} {w : PW} (h : ex_cls o = 2) : ex_cal (d + 1) 28 [.ref o] w = ex_ev d (ex_cal d) 28 (ex_blk 28 0, [.ref o], [], w) := by
  rw [ex_cal_s (by simp [ex_okR, ex_isv, ex_lay, h, show ex_C 28 = 2 from rfl, show ex_L 28 = 1 from rfl])]
  rfl
theorem kr_29 : ex_ret 29 = some .boolean := rfl
theorem ke_29 {d : Nat} {o : Nat} {a0 : Int32} {w : PW} (h : ex_cls o = 2) : ex_cal (d + 1) 29 [.ref o, .int a0] w = ex_ev d (ex_cal d) 29 (ex_blk 29 0, [.ref o, .int a0], [], w) := by
  rw [ex_cal_s (by simp [ex_okR, ex_isv, ex_lay, h, show ex_C 29 = 2 from rfl, show ex_L 29 = 2 from rfl])]
  rfl
theorem kr_30 : ex_ret 30 = some .boolean := rfl
theorem ke_30 {d : Nat} {o : Nat} {w : PW} (h : ex_cls o = 2) : ex_cal (d + 1) 30 [.ref o] w = ex_ev d (ex_cal d) 30 (ex_blk 30 0, [.ref o], [], w) := by
  rw [ex_cal_s (by simp [ex_okR, ex_isv, ex_lay, h, show ex_C 30 = 2 from rfl, show ex_L 30 = 1 from rfl])]
  rfl
theorem kr_31 : ex_ret 31 = some .boolean := rfl
theorem ke_31 {d : Nat} {o : Nat} {w : PW} (h : ex_cls o = 2) : ex_cal (d + 1) 31 [.ref o] w = ex_ev d (ex_cal d) 31 (ex_blk 31 0, [.ref o], [], w) := by
  rw [ex_cal_s (by simp [ex_okR, ex_isv, ex_lay, h, show ex_C 31 = 2 from rfl, show ex_L 31 = 1 from rfl])]
  rfl
theorem kr_32 : ex_ret 32 = some .boolean := rfl
theorem ke_32 {d : Nat} {o : Nat} {w : PW} (h : ex_cls o = 2) : ex_cal (d + 1) 32 [.ref o] w = ex_ev d (ex_cal d) 32 (ex_blk 32 0, [.ref o], [], w) := by
  rw [ex_cal_s (by simp [ex_okR, ex_isv, ex_lay, h, show ex_C 32 = 2 from rfl, show ex_L 32 = 1 from rfl])]
  rfl
theorem kr_33 : ex_ret 33 = some .boolean := rfl
theorem ke_33 {d : Nat} {o : Nat} {w : PW} (h : ex_cls o = 2) : ex_cal (d + 1) 33 [.ref o] w = ex_ev d (ex_cal d) 33 (ex_blk 33 0, [.ref o], [], w) := by
  rw [ex_cal_s (by simp [ex_okR, ex_isv, ex_lay, h, show ex_C 33 = 2 from rfl, show ex_L 33 = 1 from rfl])]
  rfl
theorem kr_34 : ex_ret 34 = some .boolean := rfl
theorem ke_34 {d : Nat} {o : Nat} {w : PW} (h : ex_cls o = 2) : ex_cal (d + 1) 34 [.ref o] w = ex_ev d (ex_cal d) 34 (ex_blk 34 0, [.ref o], [], w) := by
  rw [ex_cal_s (by simp [ex_okR, ex_isv, ex_lay, h, show ex_C 34 = 2 from rfl, show ex_L 34 = 1 from rfl])]
  rfl
theorem kr_35 : ex_ret 35 = none := rfl
theorem ke_35 {d : Nat} {o : Nat} {w : PW} (h : ex_cls o = 4) : ex_cal (d + 1) 35 [.ref o] w = ex_ev d (ex_cal d) 35 (ex_blk 35 0, [.ref o], [], w) := by
  rw [ex_cal_s (by simp [ex_okR, ex_isv, ex_lay, h, show ex_C 35 = 4 from rfl, show ex_L 35 = 1 from rfl])]
  rfl
theorem kr_36 : ex_ret 36 = some .boolean := rfl
theorem ke_36 {d : Nat} {o : Nat} {a0 : Int32} {w : PW} (h : ex_cls o = 4) : ex_cal (d + 1) 36 [.ref o, .int a0] w = ex_ev d (ex_cal d) 36 (ex_blk 36 0, [.ref o, .int a0], [], w) := by
  rw [ex_cal_s (by simp [ex_okR, ex_isv, ex_lay, h, show ex_C 36 = 4 from rfl, show ex_L 36 = 2 from rfl])]
  rfl
theorem kr_37 : ex_ret 37 = some .boolean := rfl
theorem ke_37 {d : Nat} {o : Nat} {a0 : Int32} {w : PW} (h : ex_cls o = 4) : ex_cal (d + 1) 37 [.ref o, .int a0] w = ex_ev d (ex_cal d) 37 (ex_blk 37 0, [.ref o, .int a0], [], w) := by
  rw [ex_cal_s (by simp [ex_okR, ex_isv, ex_lay, h, show ex_C 37 = 4 from rfl, show ex_L 37 = 2 from rfl])]
  rfl
theorem kr_38 : ex_ret 38 = some .boolean := rfl
theorem ke_38 {d : Nat} {o : Nat} {a0 : Int32} {w : PW} (h : ex_cls o = 4) : ex_cal (d + 1) 38 [.ref o, .int a0] w = ex_ev d (ex_cal d) 38 (ex_blk 38 0, [.ref o, .int a0], [], w) := by
  rw [ex_cal_s (by simp [ex_okR, ex_isv, ex_lay, h, show ex_C 38 = 4 from rfl, show ex_L 38 = 2 from rfl])]
  rfl
theorem kr_39 : ex_ret 39 = some .boolean := rfl
theorem ke_39 {d : Nat} {o : Nat} {a0 : Int32} {w : PW} (h : ex_cls o = 4) : ex_cal (d + 1) 39 [.ref o, .int a0] w = ex_ev d (ex_cal d) 39 (ex_blk 39 0, [.ref o, .int a0, .null], [], w) := by
  rw [ex_cal_s (by simp [ex_okR, ex_isv, ex_lay, h, show ex_C 39 = 4 from rfl, show ex_L 39 = 3 from rfl])]
  rfl
theorem kr_40 : ex_ret 40 = some .boolean := rfl
theorem ke_40 {d : Nat} {o : Nat} {a0 : Int32} {w : PW} (h : ex_cls o = 4) : ex_cal (d + 1) 40 [.ref o, .int a0] w = ex_ev d (ex_cal d) 40 (ex_blk 40 0, [.ref o, .int a0, .null], [], w) := by
  rw [ex_cal_s (by simp [ex_okR, ex_isv, ex_lay, h, show ex_C 40 = 4 from rfl, show ex_L 40 = 3 from rfl])]
  rfl
theorem kr_41 : ex_ret 41 = some .int := rfl
theorem ke_41 {d : Nat} {o : Nat} {a0 : Int32} {a1 : Int32} {w : PW} (h : ex_cls o = 4) : ex_cal (d + 1) 41 [.ref o, .int a0, .int a1] w = ex_ev d (ex_cal d) 41 (ex_blk 41 0, [.ref o, .int a0, .int a1, .null], [], w) := by
  rw [ex_cal_s (by simp [ex_okR, ex_isv, ex_lay, h, show ex_C 41 = 4 from rfl, show ex_L 41 = 4 from rfl])]
  rfl
theorem kr_42 : ex_ret 42 = some .int := rfl
theorem ke_42 {d : Nat} {a0 : Int32} {w : PW} : ex_cal (d + 1) 42 [.int a0] w = ex_ev d (ex_cal d) 42 (ex_blk 42 0, [.int a0], [], w) := by
  rw [ex_cal_s (rfl)]
  rfl
theorem kr_43 : ex_ret 43 = some .boolean := rfl
theorem ke_43 {d : Nat} {o : Nat} {w : PW} (h : ex_cls o = 4) : ex_cal (d + 1) 43 [.ref o] w = ex_ev d (ex_cal d) 43 (ex_blk 43 0, [.ref o], [], w) := by
  rw [ex_cal_s (by simp [ex_okR, ex_isv, ex_lay, h, show ex_C 43 = 4 from rfl, show ex_L 43 = 1 from rfl])]
  rfl
theorem kr_44 : ex_ret 44 = some .int := rfl
theorem ke_44 {d : Nat} {o : Nat} {a0 : Int32} {w : PW} (h : ex_cls o = 4) : ex_cal (d + 1) 44 [.ref o, .int a0] w = ex_ev d (ex_cal d) 44 (ex_blk 44 0, [.ref o, .int a0], [], w) := by
  rw [ex_cal_s (by simp [ex_okR, ex_isv, ex_lay, h, show ex_C 44 = 4 from rfl, show ex_L 44 = 2 from rfl])]
  rfl
theorem kr_45 : ex_ret 45 = some .boolean := rfl
theorem ke_45 {d : Nat} {a0 : Int32} {a1 : Int32} {w : PW} : ex_cal (d + 1) 45 [.int a0, .int a1] w = ex_ev d (ex_cal d) 45 (ex_blk 45 0, [.int a0, .int a1], [], w) := by
  rw [ex_cal_s (rfl)]
  rfl
theorem kr_46 : ex_ret 46 = some .int := rfl
theorem ke_46 {d : Nat} {o : Nat} {w : PW} (h : ex_cls o = 5) : ex_cal (d + 1) 46 [.ref o] w = ex_ev d (ex_cal d) 46 (ex_blk 46 0, [.ref o], [], w) := by
  rw [ex_cal_s (by simp [ex_okR, ex_isv, ex_lay, h, show ex_C 46 = 5 from rfl, show ex_L 46 = 1 from rfl])]
  rfl
theorem kr_47 : ex_ret 47 = some .boolean := rfl
theorem ke_47 {d : Nat} {o : Nat} {w : PW} (h : ex_cls o = 5) : ex_cal (d + 1) 47 [.ref o] w = ex_ev d (ex_cal d) 47 (ex_blk 47 0, [.ref o], [], w) := by
  rw [ex_cal_s (by simp [ex_okR, ex_isv, ex_lay, h, show ex_C 47 = 5 from rfl, show ex_L 47 = 1 from rfl])]
  rfl
theorem kr_48 : ex_ret 48 = some .int := rfl
theorem ke_48 {d : Nat} {o : Nat} {a0 : Nat} {w : PW} (h : ex_cls o = 5) : ex_cal (d + 1) 48 [.ref o, .ref a0] w = ex_ev d (ex_cal d) 48 (ex_blk 48 0, [.ref o, .ref a0], [], w) := by
  rw [ex_cal_s (by simp [ex_okR, ex_isv, ex_lay, h, show ex_C 48 = 5 from rfl, show ex_L 48 = 2 from rfl])]
  rfl
theorem kr_49 : ex_ret 49 = some .int := rfl
theorem ke_49 {d : Nat} {o : Nat} {a0 : Int32} {a1 : Int32} {w : PW} (h : ex_cls o = 5) : ex_cal (d + 1) 49 [.ref o, .int a0, .int a1] w = ex_ev d (ex_cal d) 49 (ex_blk 49 0, [.ref o, .int a0, .int a1], [], w) := by
  rw [ex_cal_s (by simp [ex_okR, ex_isv, ex_lay, h, show ex_C 49 = 5 from rfl, show ex_L 49 = 3 from rfl])]
  rfl
theorem kr_50 : ex_ret 50 = some .int := rfl
theorem ke_50 {d : Nat} {o : Nat} {a0 : Nat} {a1 : Int32} {a2 : Int32} {a3 : Int32} {a4 : Int32} {a5 : Int32} {w : PW} (h : ex_cls o = 5) : ex_cal (d + 1) 50 [.ref o, .ref a0, .int a1, .int a2, .int a3, .int a4, .int a5] w = ex_ev d (ex_cal d) 50 (ex_blk 50 0, [.ref o, .ref a0, .int a1, .int a2, .int a3, .int a4, .int a5, .null, .null], [], w) := by
  rw [ex_cal_s (by simp [ex_okR, ex_isv, ex_lay, h, show ex_C 50 = 5 from rfl, show ex_L 50 = 9 from rfl])]
  rfl
theorem kr_51 : ex_ret 51 = some .boolean := rfl
theorem ke_51 {d : Nat} {o : Nat} {a0 : Int32} {a1 : Int32} {w : PW} (h : ex_cls o = 5) : ex_cal (d + 1) 51 [.ref o, .int a0, .int a1] w = ex_ev d (ex_cal d) 51 (ex_blk 51 0, [.ref o, .int a0, .int a1, .null, .null], [], w) := by
  rw [ex_cal_s (by simp [ex_okR, ex_isv, ex_lay, h, show ex_C 51 = 5 from rfl, show ex_L 51 = 5 from rfl])]
  rfl
theorem kr_52 : ex_ret 52 = some .boolean := rfl
theorem ke_52 {d : Nat} {o : Nat} {a0 : Nat} {a1 : Int32} {a2 : Int32} {a3 : Int32} {a4 : Int32} {w : PW} (h : ex_cls o = 5) : ex_cal (d + 1) 52 [.ref o, .ref a0, .int a1, .int a2, .int a3, .int a4] w = ex_ev d (ex_cal d) 52 (ex_blk 52 0, [.ref o, .ref a0, .int a1, .int a2, .int a3, .int a4, .null, .null], [], w) := by
  rw [ex_cal_s (by simp [ex_okR, ex_isv, ex_lay, h, show ex_C 52 = 5 from rfl, show ex_L 52 = 8 from rfl])]
  rfl
theorem kr_53 : ex_ret 53 = some .int := rfl
theorem ke_53 {d : Nat} {a0 : Int64} {w : PW} : ex_cal (d + 1) 53 [.long a0] w = ex_ev d (ex_cal d) 53 (ex_blk 53 0, [.long a0, .retAddr 0, .null, .null, .null, .null], [], w) := by
  rw [ex_cal_s (rfl)]
  rfl
theorem kr_54 : ex_ret 54 = some .int := rfl
theorem ke_54 {d : Nat} {a0 : Int64} {a1 : Int32} {w : PW} : ex_cal (d + 1) 54 [.long a0, .int a1] w = ex_ev d (ex_cal d) 54 (ex_blk 54 0, [.long a0, .retAddr 0, .int a1], [], w) := by
  rw [ex_cal_s (rfl)]
  rfl
theorem kr_55 : ex_ret 55 = none := rfl
theorem ke_55 {d : Nat} {o : Nat} {a0 : Int64} {a1 : Int32} {w : PW} (h : ex_cls o = 7) : ex_cal (d + 1) 55 [.ref o, .long a0, .int a1] w = ex_ev d (ex_cal d) 55 (ex_blk 55 0, [.ref o, .long a0, .retAddr 0, .int a1, .null], [], w) := by
  rw [ex_cal_s (by simp [ex_okR, ex_isv, ex_lay, h, show ex_C 55 = 7 from rfl, show ex_L 55 = 5 from rfl])]
  rfl
theorem kr_56 : ex_ret 56 = some .int := rfl
theorem ke_56 {d : Nat} {o : Nat} {w : PW} (h : ex_cls o = 7) : ex_cal (d + 1) 56 [.ref o] w = ex_ev d (ex_cal d) 56 (ex_blk 56 0, [.ref o], [], w) := by
  rw [ex_cal_s (by simp [ex_okR, ex_isv, ex_lay, h, show ex_C 56 = 7 from rfl, show ex_L 56 = 1 from rfl])]
  rfl
theorem kr_57 : ex_ret 57 = some .int := rfl
theorem ke_57 {d : Nat} {o : Nat} {a0 : Int32} {w : PW} (h : ex_cls o = 7) : ex_cal (d + 1) 57 [.ref o, .int a0] w = ex_ev d (ex_cal d) 57 (ex_blk 57 0, [.ref o, .int a0], [], w) := by
  rw [ex_cal_s (by simp [ex_okR, ex_isv, ex_lay, h, show ex_C 57 = 7 from rfl, show ex_L 57 = 2 from rfl])]
  rfl
theorem kr_58 : ex_ret 58 = none := rfl
theorem ke_58 {d : Nat} {o : Nat} {w : PW} (h : ex_cls o = 7) : ex_cal (d + 1) 58 [.ref o] w = ex_ev d (ex_cal d) 58 (ex_blk 58 0, [.ref o], [], w) := by
  rw [ex_cal_s (by simp [ex_okR, ex_isv, ex_lay, h, show ex_C 58 = 7 from rfl, show ex_L 58 = 1 from rfl])]
  rfl
theorem kr_59 : ex_ret 59 = some .int := rfl
theorem ke_59 {d : Nat} {o : Nat} {w : PW} (h : ex_cls o = 8) : ex_cal (d + 1) 59 [.ref o] w = ex_ev d (ex_cal d) 59 (ex_blk 59 0, [.ref o], [], w) := by
  rw [ex_cal_s (by simp [ex_okR, ex_isv, ex_lay, h, show ex_C 59 = 8 from rfl, show ex_L 59 = 1 from rfl])]
  rfl
theorem kr_60 : ex_ret 60 = some .boolean := rfl
theorem ke_60 {d : Nat} {o : Nat} {w : PW} (h : ex_cls o = 8) : ex_cal (d + 1) 60 [.ref o] w = ex_ev d (ex_cal d) 60 (ex_blk 60 0, [.ref o], [], w) := by
  rw [ex_cal_s (by simp [ex_okR, ex_isv, ex_lay, h, show ex_C 60 = 8 from rfl, show ex_L 60 = 1 from rfl])]
  rfl
theorem kr_61 : ex_ret 61 = some .int := rfl
theorem ke_61 {d : Nat} {o : Nat} {a0 : Int32} {a1 : Int32} {a2 : Int32} {a3 : Int32} {a4 : Int32} {w : PW} (h : ex_cls o = 8) : ex_cal (d + 1) 61 [.ref o, .int a0, .int a1, .int a2, .int a3, .int a4] w = ex_ev d (ex_cal d) 61 (ex_blk 61 0, [.ref o, .int a0, .int a1, .int a2, .int a3, .int a4, .null], [], w) := by
  rw [ex_cal_s (by simp [ex_okR, ex_isv, ex_lay, h, show ex_C 61 = 8 from rfl, show ex_L 61 = 7 from rfl])]
  rfl
theorem kr_62 : ex_ret 62 = some .int := rfl
theorem ke_62 {d : Nat} {o : Nat} {a0 : Int32} {a1 : Int32} {w : PW} (h : ex_cls o = 8) : ex_cal (d + 1) 62 [.ref o, .int a0, .int a1] w = ex_ev d (ex_cal d) 62 (ex_blk 62 0, [.ref o, .int a0, .int a1, .null], [], w) := by
  rw [ex_cal_s (by simp [ex_okR, ex_isv, ex_lay, h, show ex_C 62 = 8 from rfl, show ex_L 62 = 4 from rfl])]
  rfl
theorem kr_63 : ex_ret 63 = none := rfl
theorem ke_63 {d : Nat} {o : Nat} {a0 : Int32} {a1 : Int32} {a2 : Int32} {w : PW} (h : ex_cls o = 8) : ex_cal (d + 1) 63 [.ref o, .int a0, .int a1, .int a2] w = ex_ev d (ex_cal d) 63 (ex_blk 63 0, [.ref o, .int a0, .int a1, .int a2, .null], [], w) := by
  rw [ex_cal_s (by simp [ex_okR, ex_isv, ex_lay, h, show ex_C 63 = 8 from rfl, show ex_L 63 = 5 from rfl])]
  rfl
theorem kr_64 : ex_ret 64 = none := rfl
theorem ke_64 {d : Nat} {o : Nat} {w : PW} (h : ex_cls o = 8) : ex_cal (d + 1) 64 [.ref o] w = ex_ev d (ex_cal d) 64 (ex_blk 64 0, [.ref o], [], w) := by
  rw [ex_cal_s (by simp [ex_okR, ex_isv, ex_lay, h, show ex_C 64 = 8 from rfl, show ex_L 64 = 1 from rfl])]
  rfl
theorem kr_65 : ex_ret 65 = some .int := rfl
theorem ke_65 {d : Nat} {o : Nat} {a0 : Nat} {w : PW} (h : ex_cls o = 2 ∨ ex_cls o = 4) : ex_cal (d + 1) 65 [.ref o, .ref a0] w = ex_ev d (ex_cal d) 65 (ex_blk 65 0, [.ref o, .ref a0, .null], [], w) := by
  rw [ex_cal_s (by rcases h with h | h <;> simp [ex_okR, ex_isv, ex_lay, h, show ex_C 65 = 9 from rfl, show ex_L 65 = 3 from rfl])]
  rfl
theorem kr_66 : ex_ret 66 = some .boolean := rfl
theorem ke_66 {d : Nat} {o : Nat} {a0 : Nat} {w : PW} (h : ex_cls o = 2 ∨ ex_cls o = 4) : ex_cal (d + 1) 66 [.ref o, .ref a0] w = ex_ev d (ex_cal d) 66 (ex_blk 66 0, [.ref o, .ref a0], [], w) := by
  rw [ex_cal_s (by rcases h with h | h <;> simp [ex_okR, ex_isv, ex_lay, h, show ex_C 66 = 9 from rfl, show ex_L 66 = 2 from rfl])]
  rfl
theorem kr_67 : ex_ret 67 = some .int := rfl
theorem ke_67 {d : Nat} {o : Nat} {a0 : Int64} {w : PW} (h : ex_cls o = 10) : ex_cal (d + 1) 67 [.ref o, .long a0] w = ex_ev d (ex_cal d) 67 (ex_blk 67 0, [.ref o, .long a0, .retAddr 0, .null], [], w) := by
  rw [ex_cal_s (by simp [ex_okR, ex_isv, ex_lay, h, show ex_C 67 = 10 from rfl, show ex_L 67 = 4 from rfl])]
  rfl
theorem kr_68 : ex_ret 68 = some .int := rfl
theorem ke_68 {d : Nat} {o : Nat} {a0 : Int32} {w : PW} (h : ex_cls o = 10) : ex_cal (d + 1) 68 [.ref o, .int a0] w = ex_ev d (ex_cal d) 68 (ex_blk 68 0, [.ref o, .int a0], [], w) := by
  rw [ex_cal_s (by simp [ex_okR, ex_isv, ex_lay, h, show ex_C 68 = 10 from rfl, show ex_L 68 = 2 from rfl])]
  rfl
theorem kr_69 : ex_ret 69 = some .int := rfl
theorem ke_69 {d : Nat} {o : Nat} {w : PW} (h : ex_cls o = 10) : ex_cal (d + 1) 69 [.ref o] w = ex_ev d (ex_cal d) 69 (ex_blk 69 0, [.ref o], [], w) := by
  rw [ex_cal_s (by simp [ex_okR, ex_isv, ex_lay, h, show ex_C 69 = 10 from rfl, show ex_L 69 = 1 from rfl])]
  rfl
theorem kr_70 : ex_ret 70 = some .int := rfl
theorem ke_70 {d : Nat} {o : Nat} {w : PW} (h : ex_cls o = 10) : ex_cal (d + 1) 70 [.ref o] w = ex_ev d (ex_cal d) 70 (ex_blk 70 0, [.ref o], [], w) := by
  rw [ex_cal_s (by simp [ex_okR, ex_isv, ex_lay, h, show ex_C 70 = 10 from rfl, show ex_L 70 = 1 from rfl])]
  rfl
theorem kr_71 : ex_ret 71 = some .int := rfl
theorem ke_71 {d : Nat} {o : Nat} {a0 : Int32} {a1 : Int32} {w : PW} (h : ex_cls o = 10) : ex_cal (d + 1) 71 [.ref o, .int a0, .int a1] w = ex_ev d (ex_cal d) 71 (ex_blk 71 0, [.ref o, .int a0, .int a1], [], w) := by
  rw [ex_cal_s (by simp [ex_okR, ex_isv, ex_lay, h, show ex_C 71 = 10 from rfl, show ex_L 71 = 3 from rfl])]
  rfl
theorem kr_72 : ex_ret 72 = some .int := rfl
theorem ke_72 {d : Nat} {o : Nat} {a0 : Int32} {a1 : Int32} {w : PW} (h : ex_cls o = 10) : ex_cal (d + 1) 72 [.ref o, .int a0, .int a1] w = ex_ev d (ex_cal d) 72 (ex_blk 72 0, [.ref o, .int a0, .int a1], [], w) := by
  rw [ex_cal_s (by simp [ex_okR, ex_isv, ex_lay, h, show ex_C 72 = 10 from rfl, show ex_L 72 = 3 from rfl])]
  rfl
theorem kr_73 : ex_ret 73 = some .int := rfl
theorem ke_73 {d : Nat} {o : Nat} {a0 : Int32} {a1 : Int32} {w : PW} (h : ex_cls o = 10) : ex_cal (d + 1) 73 [.ref o, .int a0, .int a1] w = ex_ev d (ex_cal d) 73 (ex_blk 73 0, [.ref o, .int a0, .int a1], [], w) := by
  rw [ex_cal_s (by simp [ex_okR, ex_isv, ex_lay, h, show ex_C 73 = 10 from rfl, show ex_L 73 = 3 from rfl])]
  rfl
theorem kr_74 : ex_ret 74 = some .int := rfl
theorem ke_74 {d : Nat} {o : Nat} {a0 : Int32} {a1 : Int32} {a2 : Int32} {a3 : Int32} {w : PW} (h : ex_cls o = 10) : ex_cal (d + 1) 74 [.ref o, .int a0, .int a1, .int a2, .int a3] w = ex_ev d (ex_cal d) 74 (ex_blk 74 0, [.ref o, .int a0, .int a1, .int a2, .int a3], [], w) := by
  rw [ex_cal_s (by simp [ex_okR, ex_isv, ex_lay, h, show ex_C 74 = 10 from rfl, show ex_L 74 = 5 from rfl])]
  rfl
theorem kr_75 : ex_ret 75 = some .int := rfl
theorem ke_75 {d : Nat} {o : Nat} {a0 : Int32} {a1 : Int32} {a2 : Int32} {a3 : Int32} {a4 : Int32} {w : PW} (h : ex_cls o = 10) : ex_cal (d + 1) 75 [.ref o, .int a0, .int a1, .int a2, .int a3, .int a4] w = ex_ev d (ex_cal d) 75 (ex_blk 75 0, [.ref o, .int a0, .int a1, .int a2, .int a3, .int a4], [], w) := by
  rw [ex_cal_s (by simp [ex_okR, ex_isv, ex_lay, h, show ex_C 75 = 10 from rfl, show ex_L 75 = 6 from rfl])]
  rfl
theorem kr_76 : ex_ret 76 = some .int := rfl
theorem ke_76 {d : Nat} {o : Nat} {a0 : Int32} {a1 : Int32} {a2 : Int32} {a3 : Int32} {a4 : Int32} {w : PW} (h : ex_cls o = 10) : ex_cal (d + 1) 76 [.ref o, .int a0, .int a1, .int a2, .int a3, .int a4] w = ex_ev d (ex_cal d) 76 (ex_blk 76 0, [.ref o, .int a0, .int a1, .int a2, .int a3, .int a4], [], w) := by
  rw [ex_cal_s (by simp [ex_okR, ex_isv, ex_lay, h, show ex_C 76 = 10 from rfl, show ex_L 76 = 6 from rfl])]
  rfl
theorem kr_77 : ex_ret 77 = some .int := rfl
theorem ke_77 {d : Nat} {o : Nat} {a0 : Int32} {w : PW} (h : ex_cls o = 10) : ex_cal (d + 1) 77 [.ref o, .int a0] w = ex_ev d (ex_cal d) 77 (ex_blk 77 0, [.ref o, .int a0, .null], [], w) := by
  rw [ex_cal_s (by simp [ex_okR, ex_isv, ex_lay, h, show ex_C 77 = 10 from rfl, show ex_L 77 = 3 from rfl])]
  rfl
theorem kr_78 : ex_ret 78 = some .int := rfl
theorem ke_78 {d : Nat} {o : Nat} {a0 : Int32} {a1 : Int32} {a2 : Int32} {a3 : Int32} {w : PW} (h : ex_cls o = 10) : ex_cal (d + 1) 78 [.ref o, .int a0, .int a1, .int a2, .int a3] w = ex_ev d (ex_cal d) 78 (ex_blk 78 0, [.ref o, .int a0, .int a1, .int a2, .int a3, .null, .null], [], w) := by
  rw [ex_cal_s (by simp [ex_okR, ex_isv, ex_lay, h, show ex_C 78 = 10 from rfl, show ex_L 78 = 7 from rfl])]
  rfl
theorem kr_79 : ex_ret 79 = some .int := rfl
theorem ke_79 {d : Nat} {o : Nat} {a0 : Int32} {w : PW} (h : ex_cls o = 10) : ex_cal (d + 1) 79 [.ref o, .int a0] w = ex_ev d (ex_cal d) 79 (ex_blk 79 0, [.ref o, .int a0, .null, .null], [], w) := by
  rw [ex_cal_s (by simp [ex_okR, ex_isv, ex_lay, h, show ex_C 79 = 10 from rfl, show ex_L 79 = 4 from rfl])]
  rfl
theorem kr_80 : ex_ret 80 = some .int := rfl
theorem ke_80 {d : Nat} {o : Nat} {a0 : Int32} {a1 : Int32} {w : PW} (h : ex_cls o = 10) : ex_cal (d + 1) 80 [.ref o, .int a0, .int a1] w = ex_ev d (ex_cal d) 80 (ex_blk 80 0, [.ref o, .int a0, .int a1], [], w) := by
  rw [ex_cal_s (by simp [ex_okR, ex_isv, ex_lay, h, show ex_C 80 = 10 from rfl, show ex_L 80 = 3 from rfl])]
  rfl
theorem kr_81 : ex_ret 81 = some .int := rfl
theorem ke_81 {d : Nat} {o : Nat} {w : PW} (h : ex_cls o = 10) : ex_cal (d + 1) 81 [.ref o] w = ex_ev d (ex_cal d) 81 (ex_blk 81 0, [.ref o], [], w) := by
  rw [ex_cal_s (by simp [ex_okR, ex_isv, ex_lay, h, show ex_C 81 = 10 from rfl, show ex_L 81 = 1 from rfl])]
  rfl
theorem kr_82 : ex_ret 82 = some .int := rfl
theorem ke_82 {d : Nat} {o : Nat} {a0 : Int32} {w : PW} (h : ex_cls o = 10) : ex_cal (d + 1) 82 [.ref o, .int a0] w = ex_ev d (ex_cal d) 82 (ex_blk 82 0, [.ref o, .int a0], [], w) := by
  rw [ex_cal_s (by simp [ex_okR, ex_isv, ex_lay, h, show ex_C 82 = 10 from rfl, show ex_L 82 = 2 from rfl])]
  rfl
theorem kr_83 : ex_ret 83 = some .boolean := rfl
theorem ke_83 {d : Nat} {a0 : Int32} {a1 : Int32} {w : PW} : ex_cal (d + 1) 83 [.int a0, .int a1] w = ex_ev d (ex_cal d) 83 (ex_blk 83 0, [.int a0, .int a1], [], w) := by
  rw [ex_cal_s (rfl)]
  rfl
theorem kr_84 : ex_ret 84 = some .boolean := rfl
theorem ke_84 {d : Nat} {a0 : Int32} {a1 : Int32} {a2 : Int32} {w : PW} : ex_cal (d + 1) 84 [.int a0, .int a1, .int a2] w = ex_ev d (ex_cal d) 84 (ex_blk 84 0, [.int a0, .int a1, .int a2], [], w) := by
  rw [ex_cal_s (rfl)]
  rfl
theorem kr_85 : ex_ret 85 = some .int := rfl
theorem ke_85 {d : Nat} {a0 : Int32} {w : PW} : ex_cal (d + 1) 85 [.int a0] w = ex_ev d (ex_cal d) 85 (ex_blk 85 0, [.int a0, .null], [], w) := by
  rw [ex_cal_s (rfl)]
  rfl
theorem kr_86 : ex_ret 86 = some .int := rfl
theorem ke_86 {d : Nat} {o : Nat} {a0 : Int32} {a1 : Int32} {w : PW} (h : ex_cls o = 10) : ex_cal (d + 1) 86 [.ref o, .int a0, .int a1] w = ex_ev d (ex_cal d) 86 (ex_blk 86 0, [.ref o, .int a0, .int a1], [], w) := by
  rw [ex_cal_s (by simp [ex_okR, ex_isv, ex_lay, h, show ex_C 86 = 10 from rfl, show ex_L 86 = 3 from rfl])]
  rfl
theorem kr_87 : ex_ret 87 = some .int := rfl
theorem ke_87 {d : Nat} {o : Nat} {a0 : Int32} {a1 : Int32} {w : PW} (h : ex_cls o = 10) : ex_cal (d + 1) 87 [.ref o, .int a0, .int a1] w = ex_ev d (ex_cal d) 87 (ex_blk 87 0, [.ref o, .int a0, .int a1, .null, .null], [], w) := by
  rw [ex_cal_s (by simp [ex_okR, ex_isv, ex_lay, h, show ex_C 87 = 10 from rfl, show ex_L 87 = 5 from rfl])]
  rfl
theorem kr_88 : ex_ret 88 = some .int := rfl
theorem ke_88 {d : Nat} {o : Nat} {w : PW} (h : ex_cls o = 10) : ex_cal (d + 1) 88 [.ref o] w = ex_ev d (ex_cal d) 88 (ex_blk 88 0, [.ref o, .null, .null, .null, .null], [], w) := by
  rw [ex_cal_s (by simp [ex_okR, ex_isv, ex_lay, h, show ex_C 88 = 10 from rfl, show ex_L 88 = 5 from rfl])]
  rfl
theorem kr_89 : ex_ret 89 = some .int := rfl
theorem ke_89 {d : Nat} {o : Nat} {a0 : Int32} {a1 : Int32} {a2 : Int32} {a3 : Int32} {w : PW} (h : ex_cls o = 10) : ex_cal (d + 1) 89 [.ref o, .int a0, .int a1, .int a2, .int a3] w = ex_ev d (ex_cal d) 89 (ex_blk 89 0, [.ref o, .int a0, .int a1, .int a2, .int a3, .null, .null], [], w) := by
  rw [ex_cal_s (by simp [ex_okR, ex_isv, ex_lay, h, show ex_C 89 = 10 from rfl, show ex_L 89 = 7 from rfl])]
  rfl
theorem kr_90 : ex_ret 90 = some .int := rfl
theorem ke_90 {d : Nat} {o : Nat} {w : PW} (h : ex_cls o = 10) : ex_cal (d + 1) 90 [.ref o] w = ex_ev d (ex_cal d) 90 (ex_blk 90 0, [.ref o, .null, .null], [], w) := by
  rw [ex_cal_s (by simp [ex_okR, ex_isv, ex_lay, h, show ex_C 90 = 10 from rfl, show ex_L 90 = 3 from rfl])]
  rfl
theorem kr_91 : ex_ret 91 = some .boolean := rfl
theorem ke_91 {d : Nat} {o : Nat} {a0 : Int32} {w : PW} (h : ex_cls o = 10) : ex_cal (d + 1) 91 [.ref o, .int a0] w = ex_ev d (ex_cal d) 91 (ex_blk 91 0, [.ref o, .int a0, .null], [], w) := by
  rw [ex_cal_s (by simp [ex_okR, ex_isv, ex_lay, h, show ex_C 91 = 10 from rfl, show ex_L 91 = 3 from rfl])]
  rfl
theorem kr_92 : ex_ret 92 = some .int := rfl
theorem ke_92 {d : Nat} {a0 : Nat} {a1 : Int32} {w : PW} : ex_cal (d + 1) 92 [.ref a0, .int a1] w = ex_ev d (ex_cal d) 92 (ex_blk 92 0, [.ref a0, .int a1], [], w) := by
  rw [ex_cal_s (by simp [ex_okR, ex_isv, ex_lay, show ex_C 92 = 11 from rfl, show ex_L 92 = 2 from rfl])]
  rfl
theorem kr_93 : ex_ret 93 = some .boolean := rfl
theorem ke_93 {d : Nat} {a0 : Nat} {a1 : Int32} {w : PW} : ex_cal (d + 1) 93 [.ref a0, .int a1] w = ex_ev d (ex_cal d) 93 (ex_blk 93 0, [.ref a0, .int a1], [], w) := by
  rw [ex_cal_s (by simp [ex_okR, ex_isv, ex_lay, show ex_C 93 = 11 from rfl, show ex_L 93 = 2 from rfl])]
  rfl
theorem kr_94 : ex_ret 94 = some .boolean := rfl
theorem ke_94 {d : Nat} {a0 : Nat} {a1 : Int32} {w : PW} : ex_cal (d + 1) 94 [.ref a0, .int a1] w = ex_ev d (ex_cal d) 94 (ex_blk 94 0, [.ref a0, .int a1], [], w) := by
  rw [ex_cal_s (by simp [ex_okR, ex_isv, ex_lay, show ex_C 94 = 11 from rfl, show ex_L 94 = 2 from rfl])]
  rfl
theorem kr_95 : ex_ret 95 = some .boolean := rfl
theorem ke_95 {d : Nat} {a0 : Nat} {a1 : Nat} {a2 : Int32} {a3 : Nat} {a4 : Nat} {w : PW} : ex_cal (d + 1) 95 [.ref a0, .ref a1, .int a2, .ref a3, .ref a4] w = ex_ev d (ex_cal d) 95 (ex_blk 95 0, [.ref a0, .ref a1, .int a2, .ref a3, .ref a4, .null, .null, .null, .null, .null], [], w) := by
  rw [ex_cal_s (by simp [ex_okR, ex_isv, ex_lay, show ex_C 95 = 11 from rfl, show ex_L 95 = 10 from rfl])]
  rfl
theorem kr_96 : ex_ret 96 = some .boolean := rfl
theorem ke_96 {d : Nat} {a0 : Nat} {a1 : Int32} {a2 : Int32} {a3 : Nat} {w : PW} : ex_cal (d + 1) 96 [.ref a0, .int a1, .int a2, .ref a3] w = ex_ev d (ex_cal d) 96 (ex_blk 96 0, [.ref a0, .int a1, .int a2, .ref a3, .null, .null], [], w) := by
  rw [ex_cal_s (by simp [ex_okR, ex_isv, ex_lay, show ex_C 96 = 11 from rfl, show ex_L 96 = 6 from rfl])]
  rfl
theorem kr_97 : ex_ret 97 = some .int := rfl
theorem ke_97 {d : Nat} {a0 : Nat} {a1 : Int32} {a2 : Int32} {w : PW} : ex_cal (d + 1) 97 [.ref a0, .int a1, .int a2] w = ex_ev d (ex_cal d) 97 (ex_blk 97 0, [.ref a0, .int a1, .int a2, .null, .null], [], w) := by
  rw [ex_cal_s (by simp [ex_okR, ex_isv, ex_lay, show ex_C 97 = 11 from rfl, show ex_L 97 = 5 from rfl])]
  rfl
theorem kr_98 : ex_ret 98 = some .int := rfl
theorem ke_98 {d : Nat} {a0 : Nat} {a1 : Nat} {a2 : Int32} {a3 : Int32} {w : PW} : ex_cal (d + 1) 98 [.ref a0, .ref a1, .int a2, .int a3] w = ex_ev d (ex_cal d) 98 (ex_blk 98 0, [.ref a0, .ref a1, .int a2, .int a3, .null], [], w) := by
  rw [ex_cal_s (by simp [ex_okR, ex_isv, ex_lay, show ex_C 98 = 11 from rfl, show ex_L 98 = 5 from rfl])]
  rfl
theorem kr_99 : ex_ret 99 = some .int := rfl
theorem ke_99 {d : Nat} {a0 : Nat} {a1 : Int32} {a2 : Int32} {w : PW} : ex_cal (d + 1) 99 [.ref a0, .int a1, .int a2] w = ex_ev d (ex_cal d) 99 (ex_blk 99 0, [.ref a0, .int a1, .int a2, .null], [], w) := by
  rw [ex_cal_s (by simp [ex_okR, ex_isv, ex_lay, show ex_C 99 = 11 from rfl, show ex_L 99 = 4 from rfl])]
  rfl
theorem kr_100 : ex_ret 100 = none := rfl
theorem ke_100 {d : Nat} {a0 : Nat} {a1 : Nat} {a2 : Int32} {a3 : Int32} {a4 : Int32} {a5 : Int32} {a6 : Nat} {w : PW} : ex_cal (d + 1) 100 [.ref a0, .ref a1, .int a2, .int a3, .int a4, .int a5, .ref a6] w = ex_ev d (ex_cal d) 100 (ex_blk 100 0, [.ref a0, .ref a1, .int a2, .int a3, .int a4, .int a5, .ref a6, .null, .null, .null, .null, .null, .null, .null], [], w) := by
  rw [ex_cal_s (by simp [ex_okR, ex_isv, ex_lay, show ex_C 100 = 11 from rfl, show ex_L 100 = 14 from rfl])]
  rfl
theorem kr_101 : ex_ret 101 = some .int := rfl
theorem ke_101 {d : Nat} {a0 : Nat} {a1 : Nat} {a2 : Int32} {w : PW} : ex_cal (d + 1) 101 [.ref a0, .ref a1, .int a2] w = ex_ev d (ex_cal d) 101 (ex_blk 101 0, [.ref a0, .ref a1, .int a2, .null, .null, .null], [], w) := by
  rw [ex_cal_s (by simp [ex_okR, ex_isv, ex_lay, show ex_C 101 = 11 from rfl, show ex_L 101 = 6 from rfl])]
  rfl
theorem kr_102 : ex_ret 102 = none := rfl
theorem ke_102 {d : Nat} {a0 : Nat} {a1 : Nat} {a2 : Nat} {w : PW} : ex_cal (d + 1) 102 [.ref a0, .ref a1, .ref a2] w = ex_ev d (ex_cal d) 102 (ex_blk 102 0, [.ref a0, .ref a1, .ref a2, .null, .null], [], w) := by
  rw [ex_cal_s (by simp [ex_okR, ex_isv, ex_lay, show ex_C 102 = 11 from rfl, show ex_L 102 = 5 from rfl])]
  rfl
theorem kr_103 : ex_ret 103 = some .int := rfl
theorem ke_103 {d : Nat} {a0 : Nat} {a1 : Nat} {a2 : Nat} {a3 : Nat} {a4 : Int32} {a5 : Int32} {a6 : Int32} {a7 : Int32} {a8 : Int32} {a9 : Int32} {a10 : Int32} {w : PW} : ex_cal (d + 1) 103 [.ref a0, .ref a1, .ref a2, .ref a3, .int a4, .int a5, .int a6, .int a7, .int a8, .int a9, .int a10] w = ex_ev d (ex_cal d) 103 (ex_blk 103 0, [.ref a0, .ref a1, .ref a2, .ref a3, .int a4, .int a5, .int a6, .int a7, .int a8, .int a9, .int a10, .null, .null, .null, .null, .null, .null, .null, .null, .null, .null, .null, .null, .null], [], w) := by
  rw [ex_cal_s (by simp [ex_okR, ex_isv, ex_lay, show ex_C 103 = 11 from rfl, show ex_L 103 = 24 from rfl])]
  rfl
theorem kr_104 : ex_ret 104 = some .boolean := rfl
theorem kc_0 : ex_cls 0 = 10 := rfl
theorem kf_0_640 {w : PW} : ex_fv w 0 640 = some (.ref 1) := rfl
theorem kf_0_641 {w : PW} : ex_fv w 0 641 = some (.ref 3) := rfl
theorem kf_0_642 {w : PW} : ex_fv w 0 642 = some (.ref 4) := rfl
theorem kf_0_643 {w : PW} : ex_fv w 0 643 = some (.ref 5) := rfl
theorem kf_0_644 {w : PW} : ex_fv w 0 644 = some (.ref 17) := rfl
theorem kf_0_645 {w : PW} : ex_fv w 0 645 = some (.ref 20) := rfl
theorem kf_0_646 {w : PW} : ex_fv w 0 646 = some (.ref 29) := rfl
theorem kf_0_647 {w : PW} : ex_fv w 0 647 = some (.ref 38) := rfl
theorem kf_0_648 {w : PW} : ex_fv w 0 648 = some (.ref 41) := rfl
theorem kf_0_649 {w : PW} : ex_fv w 0 649 = some (.int (w.1 0 9)) := rfl
theorem kk_0_649 : ex_fk 0 649 = some 2 := rfl
theorem kf_0_650 {w : PW} : ex_fv w 0 650 = some (.int (w.1 0 10)) := rfl
theorem kk_0_650 : ex_fk 0 650 = some 0 := rfl
theorem kf_0_651 {w : PW} : ex_fv w 0 651 = some (.int (w.1 0 11)) := rfl
theorem kk_0_651 : ex_fk 0 651 = some 0 := rfl
theorem kc_1 : ex_cls 1 = 7 := rfl
theorem kf_1_448 {w : PW} : ex_fv w 1 448 = some (.ref 2) := rfl
theorem kf_1_449 {w : PW} : ex_fv w 1 449 = some (.int (w.1 1 1)) := rfl
theorem kk_1_449 : ex_fk 1 449 = some 0 := rfl
theorem kc_2 : ex_cls 2 = 12 := rfl
theorem kl_2 : ex_len 2 = 40 := rfl
theorem ka_2 {w : PW} {i : Int32} : ex_ald w 2 i = if i < 0 ∨ 40 ≤ i.toNatClampNeg then none else some (w.1 2 i.toNatClampNeg) := rfl
theorem kc_3 : ex_cls 3 = 2 := rfl
theorem kf_3_128 {w : PW} : ex_fv w 3 128 = some (.int (w.1 3 0)) := rfl
theorem kk_3_128 : ex_fk 3 128 = some 0 := rfl
theorem kf_3_129 {w : PW} : ex_fv w 3 129 = some (.int (w.1 3 1)) := rfl
theorem kk_3_129 : ex_fk 3 129 = some 0 := rfl
theorem kf_3_130 {w : PW} : ex_fv w 3 130 = some (.int (w.1 3 2)) := rfl
theorem kk_3_130 : ex_fk 3 130 = some 0 := rfl
theorem kf_3_131 {w : PW} : ex_fv w 3 131 = some (.int (w.1 3 3)) := rfl
theorem kk_3_131 : ex_fk 3 131 = some 2 := rfl
theorem kc_4 : ex_cls 4 = 4 := rfl
theorem kf_4_256 {w : PW} : ex_fv w 4 256 = some (.int (w.1 4 0)) := rfl
theorem kk_4_256 : ex_fk 4 256 = some 0 := rfl
theorem kf_4_257 {w : PW} : ex_fv w 4 257 = some (.int (w.1 4 1)) := rfl
theorem kk_4_257 : ex_fk 4 257 = some 0 := rfl
theorem kf_4_258 {w : PW} : ex_fv w 4 258 = some (.int (w.1 4 2)) := rfl
theorem kk_4_258 : ex_fk 4 258 = some 0 := rfl
theorem kf_4_259 {w : PW} : ex_fv w 4 259 = some (.int (w.1 4 3)) := rfl
theorem kk_4_259 : ex_fk 4 259 = some 0 := rfl
theorem kf_4_260 {w : PW} : ex_fv w 4 260 = some (.int (w.1 4 4)) := rfl
theorem kk_4_260 : ex_fk 4 260 = some 0 := rfl
theorem kf_4_261 {w : PW} : ex_fv w 4 261 = some (.int (w.1 4 5)) := rfl
theorem kk_4_261 : ex_fk 4 261 = some 0 := rfl
theorem kf_4_262 {w : PW} : ex_fv w 4 262 = some (.int (w.1 4 6)) := rfl
theorem kk_4_262 : ex_fk 4 262 = some 0 := rfl
theorem kc_5 : ex_cls 5 = 1 := rfl
theorem kf_5_64 {w : PW} : ex_fv w 5 64 = some (.ref 6) := rfl
theorem kf_5_65 {w : PW} : ex_fv w 5 65 = some (.ref 7) := rfl
theorem kf_5_66 {w : PW} : ex_fv w 5 66 = some (.ref 8) := rfl
theorem kf_5_67 {w : PW} : ex_fv w 5 67 = some (.ref 9) := rfl
theorem kf_5_68 {w : PW} : ex_fv w 5 68 = some (.ref 10) := rfl
theorem kf_5_69 {w : PW} : ex_fv w 5 69 = some (.ref 11) := rfl
theorem kf_5_70 {w : PW} : ex_fv w 5 70 = some (.ref 12) := rfl
theorem kf_5_71 {w : PW} : ex_fv w 5 71 = some (.ref 13) := rfl
theorem kf_5_72 {w : PW} : ex_fv w 5 72 = some (.ref 14) := rfl
theorem kf_5_73 {w : PW} : ex_fv w 5 73 = some (.ref 15) := rfl
theorem kf_5_74 {w : PW} : ex_fv w 5 74 = some (.ref 16) := rfl
theorem kf_5_75 {w : PW} : ex_fv w 5 75 = some (.int (w.1 5 11)) := rfl
theorem kk_5_75 : ex_fk 5 75 = some 0 := rfl
theorem kf_5_76 {w : PW} : ex_fv w 5 76 = some (.int (w.1 5 12)) := rfl
theorem kk_5_76 : ex_fk 5 76 = some 0 := rfl
theorem kf_5_77 {w : PW} : ex_fv w 5 77 = some (.int (w.1 5 13)) := rfl
theorem kk_5_77 : ex_fk 5 77 = some 0 := rfl
theorem kc_6 : ex_cls 6 = 12 := rfl
theorem kl_6 : ex_len 6 = 24 := rfl
theorem ka_6 {w : PW} {i : Int32} : ex_ald w 6 i = if i < 0 ∨ 24 ≤ i.toNatClampNeg then none else some (w.1 6 i.toNatClampNeg) := rfl
theorem kc_7 : ex_cls 7 = 12 := rfl
theorem kl_7 : ex_len 7 = 24 := rfl
theorem ka_7 {w : PW} {i : Int32} : ex_ald w 7 i = if i < 0 ∨ 24 ≤ i.toNatClampNeg then none else some (w.1 7 i.toNatClampNeg) := rfl
theorem kc_8 : ex_cls 8 = 12 := rfl
theorem kl_8 : ex_len 8 = 24 := rfl
theorem ka_8 {w : PW} {i : Int32} : ex_ald w 8 i = if i < 0 ∨ 24 ≤ i.toNatClampNeg then none else some (w.1 8 i.toNatClampNeg) := rfl
theorem kc_9 : ex_cls 9 = 12 := rfl
theorem kl_9 : ex_len 9 = 4 := rfl
theorem ka_9 {w : PW} {i : Int32} : ex_ald w 9 i = if i < 0 ∨ 4 ≤ i.toNatClampNeg then none else some (w.1 9 i.toNatClampNeg) := rfl
theorem kc_10 : ex_cls 10 = 12 := rfl
theorem kl_10 : ex_len 10 = 96 := rfl
theorem ka_10 {w : PW} {i : Int32} : ex_ald w 10 i = if i < 0 ∨ 96 ≤ i.toNatClampNeg then none else some (w.1 10 i.toNatClampNeg) := rfl
theorem kc_11 : ex_cls 11 = 12 := rfl
theorem kl_11 : ex_len 11 = 96 := rfl
theorem ka_11 {w : PW} {i : Int32} : ex_ald w 11 i = if i < 0 ∨ 96 ≤ i.toNatClampNeg then none else some (w.1 11 i.toNatClampNeg) := rfl
theorem kc_12 : ex_cls 12 = 12 := rfl
theorem kl_12 : ex_len 12 = 96 := rfl
theorem ka_12 {w : PW} {i : Int32} : ex_ald w 12 i = if i < 0 ∨ 96 ≤ i.toNatClampNeg then none else some (w.1 12 i.toNatClampNeg) := rfl
theorem kc_13 : ex_cls 13 = 12 := rfl
theorem kl_13 : ex_len 13 = 96 := rfl
theorem ka_13 {w : PW} {i : Int32} : ex_ald w 13 i = if i < 0 ∨ 96 ≤ i.toNatClampNeg then none else some (w.1 13 i.toNatClampNeg) := rfl
theorem kc_14 : ex_cls 14 = 12 := rfl
theorem kl_14 : ex_len 14 = 24 := rfl
theorem ka_14 {w : PW} {i : Int32} : ex_ald w 14 i = if i < 0 ∨ 24 ≤ i.toNatClampNeg then none else some (w.1 14 i.toNatClampNeg) := rfl
theorem kc_15 : ex_cls 15 = 12 := rfl
theorem kl_15 : ex_len 15 = 24 := rfl
theorem ka_15 {w : PW} {i : Int32} : ex_ald w 15 i = if i < 0 ∨ 24 ≤ i.toNatClampNeg then none else some (w.1 15 i.toNatClampNeg) := rfl
theorem kc_16 : ex_cls 16 = 12 := rfl
theorem kl_16 : ex_len 16 = 24 := rfl
theorem ka_16 {w : PW} {i : Int32} : ex_ald w 16 i = if i < 0 ∨ 24 ≤ i.toNatClampNeg then none else some (w.1 16 i.toNatClampNeg) := rfl
theorem kc_17 : ex_cls 17 = 5 := rfl
theorem kf_17_320 {w : PW} : ex_fv w 17 320 = some (.ref 18) := rfl
theorem kc_18 : ex_cls 18 = 8 := rfl
theorem kf_18_512 {w : PW} : ex_fv w 18 512 = some (.ref 19) := rfl
theorem kf_18_513 {w : PW} : ex_fv w 18 513 = some (.int (w.1 18 1)) := rfl
theorem kk_18_513 : ex_fk 18 513 = some 0 := rfl
theorem kf_18_514 {w : PW} : ex_fv w 18 514 = some (.int (w.1 18 2)) := rfl
theorem kk_18_514 : ex_fk 18 514 = some 0 := rfl
theorem kc_19 : ex_cls 19 = 12 := rfl
theorem kl_19 : ex_len 19 = 60 := rfl
theorem ka_19 {w : PW} {i : Int32} : ex_ald w 19 i = if i < 0 ∨ 60 ≤ i.toNatClampNeg then none else some (w.1 19 i.toNatClampNeg) := rfl
theorem kc_20 : ex_cls 20 = 0 := rfl
theorem kf_20_0 {w : PW} : ex_fv w 20 0 = some (.ref 21) := rfl
theorem kf_20_1 {w : PW} : ex_fv w 20 1 = some (.ref 23) := rfl
theorem kf_20_2 {w : PW} : ex_fv w 20 2 = some (.ref 25) := rfl
theorem kf_20_3 {w : PW} : ex_fv w 20 3 = some (.ref 27) := rfl
theorem kc_21 : ex_cls 21 = 8 := rfl
theorem kf_21_512 {w : PW} : ex_fv w 21 512 = some (.ref 22) := rfl
theorem kf_21_513 {w : PW} : ex_fv w 21 513 = some (.int (w.1 21 1)) := rfl
theorem kk_21_513 : ex_fk 21 513 = some 0 := rfl
theorem kf_21_514 {w : PW} : ex_fv w 21 514 = some (.int (w.1 21 2)) := rfl
theorem kk_21_514 : ex_fk 21 514 = some 0 := rfl
theorem kc_22 : ex_cls 22 = 12 := rfl
theorem kl_22 : ex_len 22 = 60 := rfl
theorem ka_22 {w : PW} {i : Int32} : ex_ald w 22 i = if i < 0 ∨ 60 ≤ i.toNatClampNeg then none else some (w.1 22 i.toNatClampNeg) := rfl
theorem kc_23 : ex_cls 23 = 8 := rfl
theorem kf_23_512 {w : PW} : ex_fv w 23 512 = some (.ref 24) := rfl
theorem kf_23_513 {w : PW} : ex_fv w 23 513 = some (.int (w.1 23 1)) := rfl
theorem kk_23_513 : ex_fk 23 513 = some 0 := rfl
theorem kf_23_514 {w : PW} : ex_fv w 23 514 = some (.int (w.1 23 2)) := rfl
theorem kk_23_514 : ex_fk 23 514 = some 0 := rfl
theorem kc_24 : ex_cls 24 = 12 := rfl
theorem kl_24 : ex_len 24 = 60 := rfl
theorem ka_24 {w : PW} {i : Int32} : ex_ald w 24 i = if i < 0 ∨ 60 ≤ i.toNatClampNeg then none else some (w.1 24 i.toNatClampNeg) := rfl
theorem kc_25 : ex_cls 25 = 8 := rfl
theorem kf_25_512 {w : PW} : ex_fv w 25 512 = some (.ref 26) := rfl
theorem kf_25_513 {w : PW} : ex_fv w 25 513 = some (.int (w.1 25 1)) := rfl
theorem kk_25_513 : ex_fk 25 513 = some 0 := rfl
theorem kf_25_514 {w : PW} : ex_fv w 25 514 = some (.int (w.1 25 2)) := rfl
theorem kk_25_514 : ex_fk 25 514 = some 0 := rfl
theorem kc_26 : ex_cls 26 = 12 := rfl
theorem kl_26 : ex_len 26 = 60 := rfl
theorem ka_26 {w : PW} {i : Int32} : ex_ald w 26 i = if i < 0 ∨ 60 ≤ i.toNatClampNeg then none else some (w.1 26 i.toNatClampNeg) := rfl
theorem kc_27 : ex_cls 27 = 8 := rfl
theorem kf_27_512 {w : PW} : ex_fv w 27 512 = some (.ref 28) := rfl
theorem kf_27_513 {w : PW} : ex_fv w 27 513 = some (.int (w.1 27 1)) := rfl
theorem kk_27_513 : ex_fk 27 513 = some 0 := rfl
theorem kf_27_514 {w : PW} : ex_fv w 27 514 = some (.int (w.1 27 2)) := rfl
theorem kk_27_514 : ex_fk 27 514 = some 0 := rfl
theorem kc_28 : ex_cls 28 = 12 := rfl
theorem kl_28 : ex_len 28 = 60 := rfl
theorem ka_28 {w : PW} {i : Int32} : ex_ald w 28 i = if i < 0 ∨ 60 ≤ i.toNatClampNeg then none else some (w.1 28 i.toNatClampNeg) := rfl
theorem kc_29 : ex_cls 29 = 0 := rfl
theorem kf_29_0 {w : PW} : ex_fv w 29 0 = some (.ref 30) := rfl
theorem kf_29_1 {w : PW} : ex_fv w 29 1 = some (.ref 32) := rfl
theorem kf_29_2 {w : PW} : ex_fv w 29 2 = some (.ref 34) := rfl
theorem kf_29_3 {w : PW} : ex_fv w 29 3 = some (.ref 36) := rfl
theorem kc_30 : ex_cls 30 = 8 := rfl
theorem kf_30_512 {w : PW} : ex_fv w 30 512 = some (.ref 31) := rfl
theorem kf_30_513 {w : PW} : ex_fv w 30 513 = some (.int (w.1 30 1)) := rfl
theorem kk_30_513 : ex_fk 30 513 = some 0 := rfl
theorem kf_30_514 {w : PW} : ex_fv w 30 514 = some (.int (w.1 30 2)) := rfl
theorem kk_30_514 : ex_fk 30 514 = some 0 := rfl
theorem kc_31 : ex_cls 31 = 12 := rfl
theorem kl_31 : ex_len 31 = 60 := rfl
theorem ka_31 {w : PW} {i : Int32} : ex_ald w 31 i = if i < 0 ∨ 60 ≤ i.toNatClampNeg then none else some (w.1 31 i.toNatClampNeg) := rfl
theorem kc_32 : ex_cls 32 = 8 := rfl
theorem kf_32_512 {w : PW} : ex_fv w 32 512 = some (.ref 33) := rfl
theorem kf_32_513 {w : PW} : ex_fv w 32 513 = some (.int (w.1 32 1)) := rfl
theorem kk_32_513 : ex_fk 32 513 = some 0 := rfl
theorem kf_32_514 {w : PW} : ex_fv w 32 514 = some (.int (w.1 32 2)) := rfl
theorem kk_32_514 : ex_fk 32 514 = some 0 := rfl
theorem kc_33 : ex_cls 33 = 12 := rfl
theorem kl_33 : ex_len 33 = 60 := rfl
theorem ka_33 {w : PW} {i : Int32} : ex_ald w 33 i = if i < 0 ∨ 60 ≤ i.toNatClampNeg then none else some (w.1 33 i.toNatClampNeg) := rfl
theorem kc_34 : ex_cls 34 = 8 := rfl
theorem kf_34_512 {w : PW} : ex_fv w 34 512 = some (.ref 2535) := rfl
theorem kf_34_513 {w : PW} : ex_fv w 34 513 = some (.int (w.1 34 1)) := rfl
theorem kk_34_513 : ex_fk 34 513 = some 0 := rfl
theorem kf_34_514 {w : PW} : ex_fv w 34 514 = some (.int (w.1 34 2)) := rfl
theorem kk_34_514 : ex_fk 34 514 = some 0 := rfl
theorem kc_35 : ex_cls 35 = 99 := rfl
theorem kc_36 : ex_cls 36 = 8 := rfl
theorem kf_36_512 {w : PW} : ex_fv w 36 512 = some (.ref 2537) := rfl
theorem kf_36_513 {w : PW} : ex_fv w 36 513 = some (.int (w.1 36 1)) := rfl
theorem kk_36_513 : ex_fk 36 513 = some 0 := rfl
theorem kf_36_514 {w : PW} : ex_fv w 36 514 = some (.int (w.1 36 2)) := rfl
theorem kk_36_514 : ex_fk 36 514 = some 0 := rfl
theorem kc_37 : ex_cls 37 = 99 := rfl
theorem kc_38 : ex_cls 38 = 3 := rfl
theorem kf_38_192 {w : PW} : ex_fv w 38 192 = some (.ref 39) := rfl
theorem kf_38_193 {w : PW} : ex_fv w 38 193 = some (.ref 40) := rfl
theorem kf_38_194 {w : PW} : ex_fv w 38 194 = some (.int (w.1 38 2)) := rfl
theorem kk_38_194 : ex_fk 38 194 = some 0 := rfl
theorem kc_39 : ex_cls 39 = 12 := rfl
theorem kl_39 : ex_len 39 = 6 := rfl
theorem ka_39 {w : PW} {i : Int32} : ex_ald w 39 i = if i < 0 ∨ 6 ≤ i.toNatClampNeg then none else some (w.1 39 i.toNatClampNeg) := rfl
theorem kc_40 : ex_cls 40 = 12 := rfl
theorem kl_40 : ex_len 40 = 144 := rfl
theorem ka_40 {w : PW} {i : Int32} : ex_ald w 40 i = if i < 0 ∨ 144 ≤ i.toNatClampNeg then none else some (w.1 40 i.toNatClampNeg) := rfl
theorem kc_41 : ex_cls 41 = 6 := rfl
theorem kf_41_384 {w : PW} : ex_fv w 41 384 = some (.ref 2542) := rfl
theorem kf_41_385 {w : PW} : ex_fv w 41 385 = some (.ref 43) := rfl
theorem kf_41_386 {w : PW} : ex_fv w 41 386 = some (.ref 44) := rfl
theorem kf_41_387 {w : PW} : ex_fv w 41 387 = some (.ref 45) := rfl
theorem kf_41_388 {w : PW} : ex_fv w 41 388 = some (.int (w.1 41 4)) := rfl
theorem kk_41_388 : ex_fk 41 388 = some 0 := rfl
theorem kf_41_389 {w : PW} : ex_fv w 41 389 = some (.int (w.1 41 5)) := rfl
theorem kk_41_389 : ex_fk 41 389 = some 0 := rfl
theorem kc_42 : ex_cls 42 = 99 := rfl
theorem kc_43 : ex_cls 43 = 12 := rfl
theorem kl_43 : ex_len 43 = 3 := rfl
theorem ka_43 {w : PW} {i : Int32} : ex_ald w 43 i = if i < 0 ∨ 3 ≤ i.toNatClampNeg then none else some (w.1 43 i.toNatClampNeg) := rfl
theorem kc_44 : ex_cls 44 = 12 := rfl
theorem kl_44 : ex_len 44 = 3 := rfl
theorem ka_44 {w : PW} {i : Int32} : ex_ald w 44 i = if i < 0 ∨ 3 ≤ i.toNatClampNeg then none else some (w.1 44 i.toNatClampNeg) := rfl
theorem kc_45 : ex_cls 45 = 12 := rfl
theorem kl_45 : ex_len 45 = 5 := rfl
theorem ka_45 {w : PW} {i : Int32} : ex_ald w 45 i = if i < 0 ∨ 5 ≤ i.toNatClampNeg then none else some (w.1 45 i.toNatClampNeg) := rfl
theorem kc_46 : ex_cls 46 = 12 := rfl
theorem kl_46 : ex_len 46 = 6 := rfl
theorem ka_46 {w : PW} {i : Int32} : ex_ald w 46 i = if i < 0 ∨ 6 ≤ i.toNatClampNeg then none else some (w.1 46 i.toNatClampNeg) := rfl
theorem kc_47 : ex_cls 47 = 12 := rfl
theorem kl_47 : ex_len 47 = 24 := rfl
theorem ka_47 {w : PW} {i : Int32} : ex_ald w 47 i = if i < 0 ∨ 24 ≤ i.toNatClampNeg then none else some (w.1 47 i.toNatClampNeg) := rfl
theorem kc_48 : ex_cls 48 = 12 := rfl
theorem kl_48 : ex_len 48 = 24 := rfl
theorem ka_48 {w : PW} {i : Int32} : ex_ald w 48 i = if i < 0 ∨ 24 ≤ i.toNatClampNeg then none else some (w.1 48 i.toNatClampNeg) := rfl
theorem kc_49 : ex_cls 49 = 12 := rfl
theorem kl_49 : ex_len 49 = 40 := rfl
theorem ka_49 {w : PW} {i : Int32} : ex_ald w 49 i = if i < 0 ∨ 40 ≤ i.toNatClampNeg then none else some (w.1 49 i.toNatClampNeg) := rfl
theorem kc_50 : ex_cls 50 = 12 := rfl
theorem kl_50 : ex_len 50 = 60 := rfl
theorem ka_50 {w : PW} {i : Int32} : ex_ald w 50 i = if i < 0 ∨ 60 ≤ i.toNatClampNeg then none else some (w.1 50 i.toNatClampNeg) := rfl
theorem kc_51 : ex_cls 51 = 12 := rfl
theorem kl_51 : ex_len 51 = 24 := rfl
theorem ka_51 {w : PW} {i : Int32} : ex_ald w 51 i = if i < 0 ∨ 24 ≤ i.toNatClampNeg then none else some (w.1 51 i.toNatClampNeg) := rfl
theorem kc_52 : ex_cls 52 = 12 := rfl
theorem kl_52 : ex_len 52 = 3 := rfl
theorem ka_52 {w : PW} {i : Int32} : ex_ald w 52 i = if i < 0 ∨ 3 ≤ i.toNatClampNeg then none else some (w.1 52 i.toNatClampNeg) := rfl
theorem ka_1000 {w : PW} {i : Int32} : ex_ald w 1000 i = if i < 0 ∨ 4 ≤ i.toNatClampNeg then none else some (ex_down i.toNatClampNeg) := rfl
theorem ka_1001 {w : PW} {i : Int32} : ex_ald w 1001 i = if i < 0 ∨ 4 ≤ i.toNatClampNeg then none else some (ex_right i.toNatClampNeg) := rfl
theorem ka_2000 {w : PW} {i : Int32} : ex_ald w 2000 i = if i < 0 ∨ w.2.2.1 ≤ i.toNatClampNeg then none else some (w.2.2.2 i.toNatClampNeg) := rfl
theorem cg_42 {pl r : List Value} : ex_cg 42 pl r = true := rfl
theorem cg_45 {pl r : List Value} : ex_cg 45 pl r = true := rfl
theorem cg_53 {pl r : List Value} : ex_cg 53 pl r = true := rfl
theorem cg_54 {pl r : List Value} : ex_cg 54 pl r = true := rfl
theorem cg_83 {pl r : List Value} : ex_cg 83 pl r = true := rfl
theorem cg_84 {pl r : List Value} : ex_cg 84 pl r = true := rfl
theorem cg_85 {pl r : List Value} : ex_cg 85 pl r = true := rfl
theorem cg_92 {pl r : List Value} : ex_cg 92 pl r = true := rfl
theorem cg_93 {pl r : List Value} : ex_cg 93 pl r = true := rfl
theorem cg_94 {pl r : List Value} : ex_cg 94 pl r = true := rfl
theorem cg_95 {pl r : List Value} : ex_cg 95 pl r = true := rfl
theorem cg_96 {pl r : List Value} : ex_cg 96 pl r = true := rfl
theorem cg_97 {pl r : List Value} : ex_cg 97 pl r = true := rfl
theorem cg_98 {pl r : List Value} : ex_cg 98 pl r = true := rfl
theorem cg_99 {pl r : List Value} : ex_cg 99 pl r = true := rfl
theorem cg_100 {pl r : List Value} : ex_cg 100 pl r = true := rfl
theorem cg_101 {pl r : List Value} : ex_cg 101 pl r = (pl.all ex_n51 && r.all ex_n51) := rfl
theorem cg_102 {pl r : List Value} : ex_cg 102 pl r = (pl.all ex_n51 && r.all ex_n51) := rfl
theorem cg_103 {pl r : List Value} : ex_cg 103 pl r = true := rfl
theorem kd_0_2 : ex_dsp 0 2 = some 65 := rfl
theorem kd_1_2 : ex_dsp 1 2 = some 28 := rfl
theorem kd_1_4 : ex_dsp 1 4 = some 35 := rfl
theorem kd_2_2 : ex_dsp 2 2 = some 29 := rfl
theorem kd_2_4 : ex_dsp 2 4 = some 36 := rfl
theorem kd_3_4 : ex_dsp 3 4 = some 65 := rfl
theorem kd_4_2 : ex_dsp 4 2 = some 66 := rfl
theorem kd_5_2 : ex_dsp 5 2 = some 65 := rfl
theorem kd_5_4 : ex_dsp 5 4 = some 65 := rfl
theorem kd_6_2 : ex_dsp 6 2 = some 34 := rfl
theorem kd_6_4 : ex_dsp 6 4 = some 43 := rfl
theorem kd_7_4 : ex_dsp 7 4 = some 66 := rfl
end
section
/-! the blocks are the bytecode: one check, by the kernel, a method -/
def ex_lkp (t : List (List (Nat × Nat))) (c i : Nat) : Option Nat := (t.getD c []).lookup i
def ex_lkz (t : List (List (Nat × Int))) (c i : Nat) : Option Int := (t.getD c []).lookup i
def ex_okJ (pc : Nat) (L off : Int) (len n : Nat) : Bool := decide (L = (pc : Int) + off) && decide (0 ≤ L) && len == n
def ex_okZ (ps qs : List (Int × Int)) (pc : Nat) : Bool := decide (ps = qs.map fun q => (q.1, (pc : Int) + q.2)) && (ps.all fun q => decide (0 ≤ q.2)) && (qs.zip (qs.drop 1)).all (fun (a, next) => a.1 < next.1)
def ex_okI (y pc : Nat) (i j : Instr) (len : Nat) : Bool := match i with
  | .iload k => (decide (j = .iload k) && len == 2) || (if h : k < 4 then decide (j = .iload_n ⟨k, h⟩) && len == 1 else false)
  | .aload k => (decide (j = .aload k) && len == 2) || (if h : k < 4 then decide (j = .aload_n ⟨k, h⟩) && len == 1 else false)
  | .lload k => (decide (j = .lload k) && len == 2) || (if h : k < 4 then decide (j = .lload_n ⟨k, h⟩) && len == 1 else false)
  | .istore k => (decide (j = .istore k) && len == 2) || (if h : k < 4 then decide (j = .istore_n ⟨k, h⟩) && len == 1 else false)
  | .astore k => (decide (j = .astore k) && len == 2) || (if h : k < 4 then decide (j = .astore_n ⟨k, h⟩) && len == 1 else false)
  | .lstore k => (decide (j = .lstore k) && len == 2) || (if h : k < 4 then decide (j = .lstore_n ⟨k, h⟩) && len == 1 else false)
  | .iinc k n => decide (j = .iinc k n) && len == 3
  | .sipush n => (match j with
    | .iconst a => a == n && len == 1
    | .bipush a => a == n && len == 2 && (Int8.ofInt a).toInt32 == Int32.ofInt n
    | .sipush a => a == n && len == 3 && (Int16.ofInt a).toInt32 == Int32.ofInt n
    | .ldc a => ex_lkz ex_cK (ex_C y) a == some n && len == 2
    | _ => false)
  | .goto_w n => (match j with
    | .ldc2_w a => ex_lkz ex_cL (ex_C y) a == some n && len == 3
    | _ => false)
  | .goto L => (match j with
    | .goto off => ex_okJ pc L off len 3
    | _ => false)
  | .if_icmp cd L => (match j with
    | .if_icmp ce off => decide (cd = ce) && ex_okJ pc L off len 3
    | _ => false)
  | .ifCond cd L => (match j with
    | .ifCond ce off => decide (cd = ce) && ex_okJ pc L off len 3
    | _ => false)
  | .tableswitch df lo hi offs => (match j with
    | .tableswitch d2 l2 h2 o2 => decide (df = (pc : Int) + d2) && decide (0 ≤ df) && lo == l2 && hi == h2 && decide (offs.toList = o2.toList.map fun q => (pc : Int) + q) && (offs.toList.all fun q => decide (0 ≤ q)) && decide ((o2.size : Int) = h2 - l2 + 1)
    | _ => false)
  | .lookupswitch df ps => (match j with
    | .lookupswitch d2 p2 => decide (df = (pc : Int) + d2) && decide (0 ≤ df) && ex_okZ ps.toList p2.toList pc
    | _ => false)
  | .getfield e => (match j with
    | .getfield a => ex_lkp ex_cF (ex_C y) a == some e && len == 3
    | _ => false)
  | .putfield e => (match j with
    | .putfield a => ex_lkp ex_cF (ex_C y) a == some e && len == 3 && !(ex_T (e / 64) (e % 64)).2.2.2
    | _ => false)
  | .getstatic o => (match j with
    | .getstatic a => ex_lkp ex_cS (ex_C y) a == some o && len == 3
    | _ => false)
  | .invokestatic e => (match j with
    | .invokestatic a => ex_lkp ex_cT (ex_C y) a == some e && len == 3 && ex_cy y (e / 16)
    | _ => false)
  | .anewarray _ => (match j with
    | .newarray t => decide (t = .int) && len == 2
    | _ => false)
  | .invokevirtual e => (match j with
    | .invokevirtual a => ex_lkp ex_cV (ex_C y) a == some e && len == 3
    | _ => false)
  | .invokeinterface x n => (match j with
    | .invokevirtual a => (ex_cW.getD (ex_C y) []).lookup a == some (x, n) && len == 3
    | _ => false)
  | .areturn => decide (j = .ireturn) && len == 1
  | .iadd => decide (j = .iadd) && len == 1
  | .isub => decide (j = .isub) && len == 1
  | .imul => decide (j = .imul) && len == 1
  | .iand => decide (j = .iand) && len == 1
  | .ior => decide (j = .ior) && len == 1
  | .ixor => decide (j = .ixor) && len == 1
  | .ishl => decide (j = .ishl) && len == 1
  | .ishr => decide (j = .ishr) && len == 1
  | .idiv => decide (j = .idiv) && len == 1
  | .irem => decide (j = .irem) && len == 1
  | .ladd => decide (j = .ladd) && len == 1
  | .lmul => decide (j = .lmul) && len == 1
  | .land => decide (j = .land) && len == 1
  | .lshr => decide (j = .lshr) && len == 1
  | .lushr => decide (j = .lushr) && len == 1
  | .i2l => decide (j = .i2l) && len == 1
  | .l2i => decide (j = .l2i) && len == 1
  | .i2b => decide (j = .i2b) && len == 1
  | .dup => decide (j = .dup) && len == 1
  | .dup2 => decide (j = .dup2) && len == 1
  | .pop => decide (j = .pop) && len == 1
  | .iaload => decide (j = .iaload) && len == 1
  | .iastore => decide (j = .iastore) && len == 1
  | .baload => decide (j = .baload) && len == 1
  | .bastore => decide (j = .bastore) && len == 1
  | .arraylength => decide (j = .arraylength) && len == 1
  | .ireturn => decide (j = .ireturn) && len == 1
  | .lreturn => decide (j = .lreturn) && len == 1
  | .return_ => decide (j = .return_) && len == 1
  | _ => false
def ex_jsr (i : Instr) : Option Int := match i with
  | .jsr L => some L
  | _ => none
def ex_ok (y : Nat) : Nat → List Instr → Bool
  | _, [] => true
  | pc, i :: c => match ex_jsr i with
    | some L => decide (L = (pc : Int))
    | none => match decode (ex_B y) pc with
      | .ok (j, len) => ex_okI y pc i j len && ex_ok y (pc + len) c
      | .error _ => false
def ex_okM (y : Nat) : Bool := (ex_bs.getD y []).all fun q => ex_ok y q.1 q.2
-- checks
theorem km_0 : ex_okM 0 = true := by decide +kernel
theorem km_1 : ex_okM 1 = true := by decide +kernel
theorem km_2 : ex_okM 2 = true := by decide +kernel
theorem km_3 : ex_okM 3 = true := by decide +kernel
theorem km_4 : ex_okM 4 = true := by decide +kernel
theorem km_5 : ex_okM 5 = true := by decide +kernel
theorem km_6 : ex_okM 6 = true := by decide +kernel
theorem km_7 : ex_okM 7 = true := by decide +kernel
theorem km_8 : ex_okM 8 = true := by decide +kernel
theorem km_9 : ex_okM 9 = true := by decide +kernel
theorem km_10 : ex_okM 10 = true := by decide +kernel
theorem km_11 : ex_okM 11 = true := by decide +kernel
theorem km_12 : ex_okM 12 = true := by decide +kernel
theorem km_13 : ex_okM 13 = true := by decide +kernel
theorem km_14 : ex_okM 14 = true := by decide +kernel
theorem km_15 : ex_okM 15 = true := by decide +kernel
theorem km_16 : ex_okM 16 = true := by decide +kernel
theorem km_17 : ex_okM 17 = true := by decide +kernel
theorem km_18 : ex_okM 18 = true := by decide +kernel
theorem km_19 : ex_okM 19 = true := by decide +kernel
theorem km_20 : ex_okM 20 = true := by decide +kernel
theorem km_21 : ex_okM 21 = true := by decide +kernel
theorem km_22 : ex_okM 22 = true := by decide +kernel
theorem km_23 : ex_okM 23 = true := by decide +kernel
theorem km_24 : ex_okM 24 = true := by decide +kernel
theorem km_25 : ex_okM 25 = true := by decide +kernel
theorem km_26 : ex_okM 26 = true := by decide +kernel
theorem km_27 : ex_okM 27 = true := by decide +kernel
theorem km_28 : ex_okM 28 = true := by decide +kernel
theorem km_29 : ex_okM 29 = true := by decide +kernel
theorem km_30 : ex_okM 30 = true := by decide +kernel
theorem km_31 : ex_okM 31 = true := by decide +kernel
theorem km_32 : ex_okM 32 = true := by decide +kernel
theorem km_33 : ex_okM 33 = true := by decide +kernel
theorem km_34 : ex_okM 34 = true := by decide +kernel
theorem km_35 : ex_okM 35 = true := by decide +kernel
theorem km_36 : ex_okM 36 = true := by decide +kernel
theorem km_37 : ex_okM 37 = true := by decide +kernel
theorem km_38 : ex_okM 38 = true := by decide +kernel
theorem km_39 : ex_okM 39 = true := by decide +kernel
theorem km_40 : ex_okM 40 = true := by decide +kernel
theorem km_41 : ex_okM 41 = true := by decide +kernel
theorem km_42 : ex_okM 42 = true := by decide +kernel
theorem km_43 : ex_okM 43 = true := by decide +kernel
theorem km_44 : ex_okM 44 = true := by decide +kernel
theorem km_45 : ex_okM 45 = true := by decide +kernel
theorem km_46 : ex_okM 46 = true := by decide +kernel
theorem km_47 : ex_okM 47 = true := by decide +kernel
theorem km_48 : ex_okM 48 = true := by decide +kernel
theorem km_49 : ex_okM 49 = true := by decide +kernel
theorem km_50 : ex_okM 50 = true := by decide +kernel
theorem km_51 : ex_okM 51 = true := by decide +kernel
theorem km_52 : ex_okM 52 = true := by decide +kernel
theorem km_53 : ex_okM 53 = true := by decide +kernel
theorem km_54 : ex_okM 54 = true := by decide +kernel
theorem km_55 : ex_okM 55 = true := by decide +kernel
theorem km_56 : ex_okM 56 = true := by decide +kernel
theorem km_57 : ex_okM 57 = true := by decide +kernel
theorem km_58 : ex_okM 58 = true := by decide +kernel
theorem km_59 : ex_okM 59 = true := by decide +kernel
theorem km_60 : ex_okM 60 = true := by decide +kernel
theorem km_61 : ex_okM 61 = true := by decide +kernel
theorem km_62 : ex_okM 62 = true := by decide +kernel
theorem km_63 : ex_okM 63 = true := by decide +kernel
theorem km_64 : ex_okM 64 = true := by decide +kernel
theorem km_65 : ex_okM 65 = true := by decide +kernel
theorem km_66 : ex_okM 66 = true := by decide +kernel
theorem km_67 : ex_okM 67 = true := by decide +kernel
theorem km_68 : ex_okM 68 = true := by decide +kernel
theorem km_69 : ex_okM 69 = true := by decide +kernel
theorem km_70 : ex_okM 70 = true := by decide +kernel
theorem km_71 : ex_okM 71 = true := by decide +kernel
theorem km_72 : ex_okM 72 = true := by decide +kernel
theorem km_73 : ex_okM 73 = true := by decide +kernel
theorem km_74 : ex_okM 74 = true := by decide +kernel
theorem km_75 : ex_okM 75 = true := by decide +kernel
theorem km_76 : ex_okM 76 = true := by decide +kernel
theorem km_77 : ex_okM 77 = true := by decide +kernel
theorem km_78 : ex_okM 78 = true := by decide +kernel
theorem km_79 : ex_okM 79 = true := by decide +kernel
theorem km_80 : ex_okM 80 = true := by decide +kernel
theorem km_81 : ex_okM 81 = true := by decide +kernel
theorem km_82 : ex_okM 82 = true := by decide +kernel
theorem km_83 : ex_okM 83 = true := by decide +kernel
theorem km_84 : ex_okM 84 = true := by decide +kernel
theorem km_85 : ex_okM 85 = true := by decide +kernel
theorem km_86 : ex_okM 86 = true := by decide +kernel
theorem km_87 : ex_okM 87 = true := by decide +kernel
theorem km_88 : ex_okM 88 = true := by decide +kernel
theorem km_89 : ex_okM 89 = true := by decide +kernel
theorem km_90 : ex_okM 90 = true := by decide +kernel
theorem km_91 : ex_okM 91 = true := by decide +kernel
theorem km_92 : ex_okM 92 = true := by decide +kernel
theorem km_93 : ex_okM 93 = true := by decide +kernel
theorem km_94 : ex_okM 94 = true := by decide +kernel
theorem km_95 : ex_okM 95 = true := by decide +kernel
theorem km_96 : ex_okM 96 = true := by decide +kernel
theorem km_97 : ex_okM 97 = true := by decide +kernel
theorem km_98 : ex_okM 98 = true := by decide +kernel
theorem km_99 : ex_okM 99 = true := by decide +kernel
theorem km_100 : ex_okM 100 = true := by decide +kernel
theorem km_101 : ex_okM 101 = true := by decide +kernel
theorem km_102 : ex_okM 102 = true := by decide +kernel
theorem km_103 : ex_okM 103 = true := by decide +kernel
theorem kj_30 : ex_ok 104 30 [.aload 1, .aload 0, .sipush 0, .aload 2, .aload 3, .invokestatic 1525, .ifCond .ne 43, .sipush 0, .areturn] = true := by decide +kernel
theorem kj_43 : ex_ok 104 43 [.aload 2, .sipush 0, .iaload, .aload 2, .sipush 1, .iaload, .imul, .istore 6, .aload 2, .aload 3, .aload 4, .invokestatic 1635, .sipush 0, .istore 7, .jsr 62] = true := by decide +kernel
theorem kj_62 : ex_ok 104 62 [.iload 7, .iload 6, .if_icmp .ge 136, .aload 1, .iload 7, .sipush 0, .invokevirtual 1170, .aload 3, .iload 7, .iaload, .if_icmp .ne 128, .aload 1, .iload 7, .sipush 1, .invokevirtual 1170, .aload 2, .iload 7, .sipush 0, .invokestatic 1587, .if_icmp .ne 128, .aload 1, .iload 7, .sipush 2, .invokevirtual 1170, .sipush (-1), .if_icmp .ne 128, .aload 1, .iload 7, .sipush 3, .invokevirtual 1170, .aload 2, .aload 3, .iload 7, .invokestatic 1619, .if_icmp .eq 130, .jsr 128] = true := by decide +kernel
theorem kj_128 : ex_ok 104 128 [.sipush 0, .areturn] = true := by decide +kernel
theorem kj_130 : ex_ok 104 130 [.iinc 7 1, .goto 62] = true := by decide +kernel
theorem kj_136 : ex_ok 104 136 [.aload 0, .sipush 4, .invokestatic 1474, .sipush 9, .irem, .istore 7, .sipush 0, .istore 8, .jsr 149] = true := by decide +kernel
theorem kj_149 : ex_ok 104 149 [.iload 8, .iload 7, .if_icmp .ge 273, .aload 1, .aload 0, .sipush 5, .iload 8, .iadd, .invokestatic 1474, .iload 8, .aload 5, .invokestatic 1540, .ifCond .ne 177, .sipush 0, .areturn] = true := by decide +kernel
theorem kj_177 : ex_ok 104 177 [.sipush 0, .istore 9, .jsr 180] = true := by decide +kernel
theorem kj_180 : ex_ok 104 180 [.iload 9, .sipush 5, .if_icmp .ge 267, .aload 5, .sipush 5, .iload 8, .imul, .sipush 4, .iadd, .iaload, .istore 10, .aload 1, .iload 8, .iload 9, .invokevirtual 1138, .aload 5, .sipush 5, .iload 8, .imul, .iload 9, .iadd, .iaload, .if_icmp .ne 259, .aload 1, .iload 8, .iload 9, .invokevirtual 1154, .iload 9, .ifCond .eq 250, .iload 9, .iload 10, .if_icmp .eq 250, .iload 9, .sipush 1, .if_icmp .ne 255, .iload 10, .sipush 3, .if_icmp .ne 255, .jsr 250] = true := by decide +kernel
theorem kj_250 : ex_ok 104 250 [.iload 8, .goto 256] = true := by decide +kernel
theorem kj_255 : ex_ok 104 255 [.sipush (-1), .jsr 256] = true := by decide +kernel
theorem kj_256 : ex_ok 104 256 [.if_icmp .eq 261, .jsr 259] = true := by decide +kernel
theorem kj_259 : ex_ok 104 259 [.sipush 0, .areturn] = true := by decide +kernel
theorem kj_261 : ex_ok 104 261 [.iinc 9 1, .goto 180] = true := by decide +kernel
theorem kj_267 : ex_ok 104 267 [.iinc 8 1, .goto 149] = true := by decide +kernel
theorem kj_273 : ex_ok 104 273 [.sipush 60, .anewarray 50, .astore 8, .sipush 0, .istore 9, .sipush (-1), .istore 10, .sipush (-1), .istore 11, .sipush 0, .istore 12, .jsr 291] = true := by decide +kernel
theorem kj_291 : ex_ok 104 291 [.iload 12, .sipush 14, .if_icmp .ge 910, .aload 0, .sipush 13, .iload 12, .iadd, .invokestatic 1474, .istore 13, .iload 13, .iload 6, .irem, .istore 14, .iload 13, .sipush 32, .idiv, .sipush 4, .irem, .istore 15, .iload 13, .sipush 128, .idiv, .sipush 3, .irem, .istore 16, .iload 13, .sipush 512, .idiv, .sipush 24, .irem, .istore 17, .iload 7, .ifCond .le 380, .iload 13, .sipush 16384, .idiv, .sipush 3, .irem, .ifCond .le 380, .jsr 362] = true := by decide +kernel
theorem kj_362 : ex_ok 104 362 [.aload 5, .sipush 5, .iload 13, .sipush 65536, .idiv, .iload 7, .irem, .imul, .sipush 1, .iadd, .iaload, .goto 388] = true := by decide +kernel
theorem kj_380 : ex_ok 104 380 [.iload 13, .sipush 65536, .idiv, .sipush 6, .irem, .jsr 388] = true := by decide +kernel
theorem kj_388 : ex_ok 104 388 [.istore 18, .aload 3, .iload 14, .iaload, .sipush 1, .if_icmp .ne 454, .aload 1, .iload 16, .iload 14, .iload 15, .sipush 0, .invokevirtual 1188, .sipush (-101), .if_icmp .ne 452, .aload 1, .iload 18, .iload 17, .iload 16, .iload 14, .iload 15, .invokevirtual 1205, .sipush (-101), .if_icmp .ne 452, .aload 1, .iload 17, .iload 18, .iload 16, .iload 14, .iload 15, .invokevirtual 1221, .sipush (-101), .if_icmp .eq 746, .jsr 452] = true := by decide +kernel
theorem kj_452 : ex_ok 104 452 [.sipush 0, .areturn] = true := by decide +kernel
theorem kj_454 : ex_ok 104 454 [.aload 2, .aload 3, .iload 14, .iload 15, .invokestatic 1572, .istore 19, .aload 1, .iload 16, .iload 14, .iload 15, .sipush 0, .invokevirtual 1188, .iload 14, .if_icmp .ne 560, .aload 1, .iload 16, .iload 14, .iload 15, .sipush 1, .invokevirtual 1188, .iload 16, .ifCond .ne 502, .iload 19, .goto 504] = true := by decide +kernel
theorem kj_502 : ex_ok 104 502 [.iload 14, .jsr 504] = true := by decide +kernel
theorem kj_504 : ex_ok 104 504 [.if_icmp .ne 560, .aload 1, .iload 16, .iload 14, .iload 15, .sipush 2, .invokevirtual 1188, .iload 16, .sipush 1, .if_icmp .ne 529, .iload 19, .goto 531] = true := by decide +kernel
theorem kj_529 : ex_ok 104 529 [.iload 14, .jsr 531] = true := by decide +kernel
theorem kj_531 : ex_ok 104 531 [.if_icmp .ne 560, .aload 1, .iload 16, .iload 14, .iload 15, .sipush 3, .invokevirtual 1188, .iload 16, .ifCond .ne 555, .iload 14, .goto 557] = true := by decide +kernel
theorem kj_555 : ex_ok 104 555 [.iload 19, .jsr 557] = true := by decide +kernel
theorem kj_557 : ex_ok 104 557 [.if_icmp .eq 562, .jsr 560] = true := by decide +kernel
theorem kj_560 : ex_ok 104 560 [.sipush 0, .areturn] = true := by decide +kernel
theorem kj_562 : ex_ok 104 562 [.aload 2, .aload 3, .aload 4, .aload 5, .iload 7, .sipush 0, .iload 18, .iload 17, .iload 16, .iload 14, .iload 15, .invokestatic 1659, .istore 20, .aload 1, .iload 18, .iload 17, .iload 16, .iload 14, .iload 15, .invokevirtual 1205, .iload 20, .if_icmp .ne 636, .aload 1, .iload 17, .iload 18, .iload 16, .iload 14, .iload 15, .invokevirtual 1221, .iload 9, .sipush 12, .if_icmp .ne 631, .sipush (-104), .goto 633] = true := by decide +kernel
theorem kj_631 : ex_ok 104 631 [.iload 9, .jsr 633] = true := by decide +kernel
theorem kj_633 : ex_ok 104 633 [.if_icmp .eq 638, .jsr 636] = true := by decide +kernel
theorem kj_636 : ex_ok 104 636 [.sipush 0, .areturn] = true := by decide +kernel
theorem kj_638 : ex_ok 104 638 [.iload 9, .sipush 12, .if_icmp .ge 746, .iload 20, .ifCond .eq 690, .iload 10, .ifCond .lt 667, .iload 17, .aload 8, .sipush 5, .iload 10, .imul, .iaload, .if_icmp .ge 690, .jsr 667] = true := by decide +kernel
theorem kj_667 : ex_ok 104 667 [.iload 9, .istore 10, .sipush 0, .istore 11, .jsr 674] = true := by decide +kernel
theorem kj_674 : ex_ok 104 674 [.iload 20, .iload 11, .ishr, .sipush 1, .iand, .ifCond .ne 690, .iinc 11 1, .goto 674] = true := by decide +kernel
theorem kj_690 : ex_ok 104 690 [.aload 8, .sipush 5, .iload 9, .imul, .iload 17, .iastore, .aload 8, .sipush 5, .iload 9, .imul, .sipush 1, .iadd, .iload 18, .iastore, .aload 8, .sipush 5, .iload 9, .imul, .sipush 2, .iadd, .iload 16, .iastore, .aload 8, .sipush 5, .iload 9, .imul, .sipush 3, .iadd, .iload 14, .iastore, .aload 8, .sipush 5, .iload 9, .imul, .sipush 4, .iadd, .iload 15, .iastore, .iinc 9 1, .jsr 746] = true := by decide +kernel
theorem kj_746 : ex_ok 104 746 [.sipush 3, .anewarray 52, .astore 19, .sipush 0, .istore 20, .jsr 754] = true := by decide +kernel
theorem kj_754 : ex_ok 104 754 [.iload 20, .iload 6, .if_icmp .ge 867, .sipush 0, .istore 21, .sipush 0, .istore 22, .jsr 767] = true := by decide +kernel
theorem kj_767 : ex_ok 104 767 [.iload 22, .sipush 4, .if_icmp .ge 822, .aload 3, .iload 20, .iaload, .sipush 1, .if_icmp .eq 822, .iload 21, .aload 2, .aload 3, .aload 4, .aload 5, .iload 7, .sipush 0, .iload 18, .iload 17, .iload 16, .iload 20, .iload 22, .invokestatic 1659, .ifCond .ne 812, .sipush 0, .goto 813] = true := by decide +kernel
theorem kj_812 : ex_ok 104 812 [.sipush 1, .jsr 813] = true := by decide +kernel
theorem kj_813 : ex_ok 104 813 [.iadd, .istore 21, .iinc 22 1, .goto 767] = true := by decide +kernel
theorem kj_822 : ex_ok 104 822 [.aload 19, .iload 21, .ifCond .ne 833, .sipush 0, .goto 844] = true := by decide +kernel
theorem kj_833 : ex_ok 104 833 [.iload 21, .sipush 4, .if_icmp .ge 843, .sipush 1, .goto 844] = true := by decide +kernel
theorem kj_843 : ex_ok 104 843 [.sipush 2, .jsr 844] = true := by decide +kernel
theorem kj_844 : ex_ok 104 844 [.dup2, .iaload, .aload 3, .iload 20, .iaload, .sipush 1, .if_icmp .ne 858, .sipush 0, .goto 859] = true := by decide +kernel
theorem kj_858 : ex_ok 104 858 [.sipush 1, .jsr 859] = true := by decide +kernel
theorem kj_859 : ex_ok 104 859 [.iadd, .iastore, .iinc 20 1, .goto 754] = true := by decide +kernel
theorem kj_867 : ex_ok 104 867 [.sipush 0, .istore 20, .jsr 870] = true := by decide +kernel
theorem kj_870 : ex_ok 104 870 [.iload 20, .sipush 3, .if_icmp .ge 904, .aload 1, .iload 18, .iload 17, .iload 16, .iload 20, .invokevirtual 1252, .aload 19, .iload 20, .iaload, .if_icmp .eq 898, .sipush 0, .areturn] = true := by decide +kernel
theorem kj_898 : ex_ok 104 898 [.iinc 20 1, .goto 870] = true := by decide +kernel
theorem kj_904 : ex_ok 104 904 [.iinc 12 1, .goto 291] = true := by decide +kernel
theorem kj_910 : ex_ok 104 910 [.aload 1, .sipush 0, .invokevirtual 1233, .iload 10, .if_icmp .ne 940, .aload 1, .sipush 1, .invokevirtual 1233, .iload 11, .if_icmp .ne 940, .aload 1, .sipush 2, .invokevirtual 1313, .iload 9, .if_icmp .eq 942, .jsr 940] = true := by decide +kernel
theorem kj_940 : ex_ok 104 940 [.sipush 0, .areturn] = true := by decide +kernel
theorem kj_942 : ex_ok 104 942 [.sipush (-3), .istore 12, .jsr 946] = true := by decide +kernel
theorem kj_946 : ex_ok 104 946 [.iload 12, .sipush 4, .if_icmp .ge 1062, .sipush 0, .istore 13, .sipush 0, .istore 14, .jsr 958] = true := by decide +kernel
theorem kj_958 : ex_ok 104 958 [.iload 14, .iload 9, .if_icmp .ge 1043, .iload 13, .aload 2, .aload 3, .aload 4, .aload 5, .iload 7, .iload 12, .aload 8, .sipush 5, .iload 14, .imul, .sipush 1, .iadd, .iaload, .aload 8, .sipush 5, .iload 14, .imul, .iaload, .aload 8, .sipush 5, .iload 14, .imul, .sipush 2, .iadd, .iaload, .aload 8, .sipush 5, .iload 14, .imul, .sipush 3, .iadd, .iaload, .aload 8, .sipush 5, .iload 14, .imul, .sipush 4, .iadd, .iaload, .invokestatic 1659, .ifCond .ne 1030, .jsr 1026] = true := by decide +kernel
theorem kj_1026 : ex_ok 104 1026 [.sipush 0, .goto 1034] = true := by decide +kernel
theorem kj_1030 : ex_ok 104 1030 [.sipush 1, .iload 14, .ishl, .jsr 1034] = true := by decide +kernel
theorem kj_1034 : ex_ok 104 1034 [.ior, .istore 13, .iinc 14 1, .goto 958] = true := by decide +kernel
theorem kj_1043 : ex_ok 104 1043 [.aload 1, .iload 12, .invokevirtual 1265, .iload 13, .if_icmp .eq 1056, .sipush 0, .areturn] = true := by decide +kernel
theorem kj_1056 : ex_ok 104 1056 [.iinc 12 1, .goto 946] = true := by decide +kernel
theorem kj_1062 : ex_ok 104 1062 [.sipush 127, .istore 12, .aload 0, .sipush 27, .invokestatic 1474, .sipush 7, .irem, .sipush 3, .isub, .istore 13, .aload 0, .sipush 28, .invokestatic 1474, .sipush 11, .irem, .istore 14, .sipush 0, .istore 15, .jsr 1093] = true := by decide +kernel
theorem kj_1093 : ex_ok 104 1093 [.iload 15, .iload 14, .if_icmp .ge 1220, .aload 0, .sipush 29, .iload 15, .iadd, .invokestatic 1474, .istore 16, .iload 16, .iload 6, .irem, .istore 17, .iload 16, .sipush 32, .idiv, .sipush 9, .irem, .ifCond .ne 1140, .iload 16, .sipush 512, .idiv, .sipush 2, .irem, .goto 1148] = true := by decide +kernel
theorem kj_1140 : ex_ok 104 1140 [.aload 2, .iload 17, .iload 13, .invokestatic 1587, .jsr 1148] = true := by decide +kernel
theorem kj_1148 : ex_ok 104 1148 [.istore 18, .aload 1, .iload 17, .iload 18, .invokevirtual 1282, .iload 15, .sipush 1, .iadd, .if_icmp .eq 1167, .sipush 0, .areturn] = true := by decide +kernel
theorem kj_1167 : ex_ok 104 1167 [.sipush (-3), .istore 19, .jsr 1171] = true := by decide +kernel
theorem kj_1171 : ex_ok 104 1171 [.iload 19, .sipush 4, .if_icmp .ge 1214, .iload 12, .aload 2, .iload 17, .iload 19, .invokestatic 1587, .iload 18, .if_icmp .ne 1197, .sipush 127, .goto 1205] = true := by decide +kernel
theorem kj_1197 : ex_ok 104 1197 [.sipush 1, .iload 19, .sipush 3, .iadd, .ishl, .sipush (-1), .ixor, .jsr 1205] = true := by decide +kernel
theorem kj_1205 : ex_ok 104 1205 [.iand, .istore 12, .iinc 19 1, .goto 1171] = true := by decide +kernel
theorem kj_1214 : ex_ok 104 1214 [.iinc 15 1, .goto 1093] = true := by decide +kernel
theorem kj_1220 : ex_ok 104 1220 [.aload 1, .invokevirtual 1296, .iload 12, .if_icmp .ne 1546, .aload 1, .iload 6, .sipush 0, .invokevirtual 1170, .sipush (-101), .if_icmp .ne 1546, .aload 1, .sipush 0, .sipush 4, .invokevirtual 1170, .sipush (-102), .if_icmp .ne 1546, .aload 1, .sipush 3, .sipush 0, .sipush 0, .sipush 0, .invokevirtual 1188, .sipush (-102), .if_icmp .ne 1546, .aload 1, .sipush 0, .sipush 0, .sipush 4, .sipush 0, .invokevirtual 1188, .sipush (-102), .if_icmp .ne 1546, .aload 1, .sipush 0, .sipush 0, .sipush 0, .sipush 4, .invokevirtual 1188, .sipush (-102), .if_icmp .ne 1546, .jsr 1291] = true := by decide +kernel
theorem kj_1291 : ex_ok 104 1291 [.aload 1, .sipush 0, .iload 6, .sipush 0, .sipush 0, .invokevirtual 1188, .sipush (-101), .if_icmp .ne 1546, .aload 1, .sipush 6, .sipush 0, .sipush 0, .sipush 0, .sipush 0, .invokevirtual 1205, .sipush (-102), .if_icmp .ne 1546, .aload 1, .sipush 0, .sipush 24, .sipush 0, .sipush 0, .sipush 0, .invokevirtual 1205, .sipush (-102), .if_icmp .ne 1546, .aload 1, .sipush 0, .sipush 0, .sipush 3, .sipush 0, .sipush 0, .invokevirtual 1205, .sipush (-102), .if_icmp .ne 1546, .aload 1, .sipush 0, .sipush 0, .sipush 0, .sipush 0, .sipush (-1), .invokevirtual 1205, .sipush (-102), .if_icmp .ne 1546, .jsr 1363] = true := by decide +kernel
theorem kj_1363 : ex_ok 104 1363 [.aload 1, .sipush 24, .sipush 0, .sipush 0, .sipush 0, .sipush 0, .invokevirtual 1221, .sipush (-102), .if_icmp .ne 1546, .aload 1, .sipush 0, .sipush (-1), .sipush 0, .sipush 0, .sipush 0, .invokevirtual 1221, .sipush (-102), .if_icmp .ne 1546, .aload 1, .sipush 2, .invokevirtual 1233, .sipush (-102), .if_icmp .ne 1546, .aload 1, .sipush 6, .sipush 0, .sipush 0, .sipush 0, .invokevirtual 1252, .sipush (-102), .if_icmp .ne 1546, .aload 1, .sipush 0, .sipush 0, .sipush 0, .sipush 3, .invokevirtual 1252, .sipush (-102), .if_icmp .ne 1546, .jsr 1429] = true := by decide +kernel
theorem kj_1429 : ex_ok 104 1429 [.aload 1, .sipush 4, .invokevirtual 1265, .sipush (-102), .if_icmp .ne 1546, .aload 1, .sipush (-4), .invokevirtual 1265, .sipush (-102), .if_icmp .ne 1546, .aload 1, .iload 6, .sipush 0, .invokevirtual 1282, .sipush (-101), .if_icmp .ne 1546, .aload 1, .sipush 0, .sipush 2, .invokevirtual 1282, .sipush (-102), .if_icmp .ne 1546, .iload 14, .sipush 10, .if_icmp .lt 1491, .aload 1, .sipush 0, .sipush 0, .invokevirtual 1282, .sipush (-104), .if_icmp .ne 1546, .jsr 1491] = true := by decide +kernel
theorem kj_1491 : ex_ok 104 1491 [.aload 1, .iload 7, .sipush 0, .invokevirtual 1138, .sipush (-101), .if_icmp .ne 1546, .aload 1, .iload 7, .sipush 0, .invokevirtual 1154, .sipush (-101), .if_icmp .ne 1546, .iload 7, .ifCond .eq 1542, .aload 1, .sipush 0, .sipush 5, .invokevirtual 1138, .sipush (-102), .if_icmp .ne 1546, .aload 1, .sipush 0, .sipush 5, .invokevirtual 1154, .sipush (-102), .if_icmp .ne 1546, .jsr 1542] = true := by decide +kernel
theorem kj_1542 : ex_ok 104 1542 [.sipush 1, .goto 1547] = true := by decide +kernel
theorem kj_1546 : ex_ok 104 1546 [.sipush 0, .jsr 1547] = true := by decide +kernel
theorem kj_1547 : ex_ok 104 1547 [.areturn] = true := by decide +kernel
theorem km_104 : ex_okM 104 = true := List.all_eq_true.mpr (show ∀ q ∈ ex_b104, ex_ok 104 q.1 q.2 = true from List.forall_mem_cons.mpr ⟨kj_30, List.forall_mem_cons.mpr ⟨kj_43, List.forall_mem_cons.mpr ⟨kj_62, List.forall_mem_cons.mpr ⟨kj_128, List.forall_mem_cons.mpr ⟨kj_130, List.forall_mem_cons.mpr ⟨kj_136, List.forall_mem_cons.mpr ⟨kj_149, List.forall_mem_cons.mpr ⟨kj_177, List.forall_mem_cons.mpr ⟨kj_180, List.forall_mem_cons.mpr ⟨kj_250, List.forall_mem_cons.mpr ⟨kj_255, List.forall_mem_cons.mpr ⟨kj_256, List.forall_mem_cons.mpr ⟨kj_259, List.forall_mem_cons.mpr ⟨kj_261, List.forall_mem_cons.mpr ⟨kj_267, List.forall_mem_cons.mpr ⟨kj_273, List.forall_mem_cons.mpr ⟨kj_291, List.forall_mem_cons.mpr ⟨kj_362, List.forall_mem_cons.mpr ⟨kj_380, List.forall_mem_cons.mpr ⟨kj_388, List.forall_mem_cons.mpr ⟨kj_452, List.forall_mem_cons.mpr ⟨kj_454, List.forall_mem_cons.mpr ⟨kj_502, List.forall_mem_cons.mpr ⟨kj_504, List.forall_mem_cons.mpr ⟨kj_529, List.forall_mem_cons.mpr ⟨kj_531, List.forall_mem_cons.mpr ⟨kj_555, List.forall_mem_cons.mpr ⟨kj_557, List.forall_mem_cons.mpr ⟨kj_560, List.forall_mem_cons.mpr ⟨kj_562, List.forall_mem_cons.mpr ⟨kj_631, List.forall_mem_cons.mpr ⟨kj_633, List.forall_mem_cons.mpr ⟨kj_636, List.forall_mem_cons.mpr ⟨kj_638, List.forall_mem_cons.mpr ⟨kj_667, List.forall_mem_cons.mpr ⟨kj_674, List.forall_mem_cons.mpr ⟨kj_690, List.forall_mem_cons.mpr ⟨kj_746, List.forall_mem_cons.mpr ⟨kj_754, List.forall_mem_cons.mpr ⟨kj_767, List.forall_mem_cons.mpr ⟨kj_812, List.forall_mem_cons.mpr ⟨kj_813, List.forall_mem_cons.mpr ⟨kj_822, List.forall_mem_cons.mpr ⟨kj_833, List.forall_mem_cons.mpr ⟨kj_843, List.forall_mem_cons.mpr ⟨kj_844, List.forall_mem_cons.mpr ⟨kj_858, List.forall_mem_cons.mpr ⟨kj_859, List.forall_mem_cons.mpr ⟨kj_867, List.forall_mem_cons.mpr ⟨kj_870, List.forall_mem_cons.mpr ⟨kj_898, List.forall_mem_cons.mpr ⟨kj_904, List.forall_mem_cons.mpr ⟨kj_910, List.forall_mem_cons.mpr ⟨kj_940, List.forall_mem_cons.mpr ⟨kj_942, List.forall_mem_cons.mpr ⟨kj_946, List.forall_mem_cons.mpr ⟨kj_958, List.forall_mem_cons.mpr ⟨kj_1026, List.forall_mem_cons.mpr ⟨kj_1030, List.forall_mem_cons.mpr ⟨kj_1034, List.forall_mem_cons.mpr ⟨kj_1043, List.forall_mem_cons.mpr ⟨kj_1056, List.forall_mem_cons.mpr ⟨kj_1062, List.forall_mem_cons.mpr ⟨kj_1093, List.forall_mem_cons.mpr ⟨kj_1140, List.forall_mem_cons.mpr ⟨kj_1148, List.forall_mem_cons.mpr ⟨kj_1167, List.forall_mem_cons.mpr ⟨kj_1171, List.forall_mem_cons.mpr ⟨kj_1197, List.forall_mem_cons.mpr ⟨kj_1205, List.forall_mem_cons.mpr ⟨kj_1214, List.forall_mem_cons.mpr ⟨kj_1220, List.forall_mem_cons.mpr ⟨kj_1291, List.forall_mem_cons.mpr ⟨kj_1363, List.forall_mem_cons.mpr ⟨kj_1429, List.forall_mem_cons.mpr ⟨kj_1491, List.forall_mem_cons.mpr ⟨kj_1542, List.forall_mem_cons.mpr ⟨kj_1546, List.forall_mem_cons.mpr ⟨kj_1547, fun _ h => absurd h List.not_mem_nil⟩⟩⟩⟩⟩⟩⟩⟩⟩⟩⟩⟩⟩⟩⟩⟩⟩⟩⟩⟩⟩⟩⟩⟩⟩⟩⟩⟩⟩⟩⟩⟩⟩⟩⟩⟩⟩⟩⟩⟩⟩⟩⟩⟩⟩⟩⟩⟩⟩⟩⟩⟩⟩⟩⟩⟩⟩⟩⟩⟩⟩⟩⟩⟩⟩⟩⟩⟩⟩⟩⟩⟩⟩⟩⟩⟩⟩⟩⟩)
theorem ex_okM_all : ∀ y, ex_okM y = true := by
  intro y
  rcases Nat.eq_or_lt_of_le (show 0 ≤ y from Nat.zero_le y) with h | h0
  · subst h; exact km_0
  rcases Nat.eq_or_lt_of_le (show 1 ≤ y from h0) with h | h1
  · subst h; exact km_1
  rcases Nat.eq_or_lt_of_le (show 2 ≤ y from h1) with h | h2
  · subst h; exact km_2
  rcases Nat.eq_or_lt_of_le (show 3 ≤ y from h2) with h | h3
  · subst h; exact km_3
  rcases Nat.eq_or_lt_of_le (show 4 ≤ y from h3) with h | h4
  · subst h; exact km_4
  rcases Nat.eq_or_lt_of_le (show 5 ≤ y from h4) with h | h5
  · subst h; exact km_5
  rcases Nat.eq_or_lt_of_le (show 6 ≤ y from h5) with h | h6
  · subst h; exact km_6
  rcases Nat.eq_or_lt_of_le (show 7 ≤ y from h6) with h | h7
  · subst h; exact km_7
  rcases Nat.eq_or_lt_of_le (show 8 ≤ y from h7) with h | h8
  · subst h; exact km_8
  rcases Nat.eq_or_lt_of_le (show 9 ≤ y from h8) with h | h9
  · subst h; exact km_9
  rcases Nat.eq_or_lt_of_le (show 10 ≤ y from h9) with h | h10
  · subst h; exact km_10
  rcases Nat.eq_or_lt_of_le (show 11 ≤ y from h10) with h | h11
  · subst h; exact km_11
  rcases Nat.eq_or_lt_of_le (show 12 ≤ y from h11) with h | h12
  · subst h; exact km_12
  rcases Nat.eq_or_lt_of_le (show 13 ≤ y from h12) with h | h13
  · subst h; exact km_13
  rcases Nat.eq_or_lt_of_le (show 14 ≤ y from h13) with h | h14
  · subst h; exact km_14
  rcases Nat.eq_or_lt_of_le (show 15 ≤ y from h14) with h | h15
  · subst h; exact km_15
  rcases Nat.eq_or_lt_of_le (show 16 ≤ y from h15) with h | h16
  · subst h; exact km_16
  rcases Nat.eq_or_lt_of_le (show 17 ≤ y from h16) with h | h17
  · subst h; exact km_17
  rcases Nat.eq_or_lt_of_le (show 18 ≤ y from h17) with h | h18
  · subst h; exact km_18
  rcases Nat.eq_or_lt_of_le (show 19 ≤ y from h18) with h | h19
  · subst h; exact km_19
  rcases Nat.eq_or_lt_of_le (show 20 ≤ y from h19) with h | h20
  · subst h; exact km_20
  rcases Nat.eq_or_lt_of_le (show 21 ≤ y from h20) with h | h21
  · subst h; exact km_21
  rcases Nat.eq_or_lt_of_le (show 22 ≤ y from h21) with h | h22
  · subst h; exact km_22
  rcases Nat.eq_or_lt_of_le (show 23 ≤ y from h22) with h | h23
  · subst h; exact km_23
  rcases Nat.eq_or_lt_of_le (show 24 ≤ y from h23) with h | h24
  · subst h; exact km_24
  rcases Nat.eq_or_lt_of_le (show 25 ≤ y from h24) with h | h25
  · subst h; exact km_25
  rcases Nat.eq_or_lt_of_le (show 26 ≤ y from h25) with h | h26
  · subst h; exact km_26
  rcases Nat.eq_or_lt_of_le (show 27 ≤ y from h26) with h | h27
  · subst h; exact km_27
  rcases Nat.eq_or_lt_of_le (show 28 ≤ y from h27) with h | h28
  · subst h; exact km_28
  rcases Nat.eq_or_lt_of_le (show 29 ≤ y from h28) with h | h29
  · subst h; exact km_29
  rcases Nat.eq_or_lt_of_le (show 30 ≤ y from h29) with h | h30
  · subst h; exact km_30
  rcases Nat.eq_or_lt_of_le (show 31 ≤ y from h30) with h | h31
  · subst h; exact km_31
  rcases Nat.eq_or_lt_of_le (show 32 ≤ y from h31) with h | h32
  · subst h; exact km_32
  rcases Nat.eq_or_lt_of_le (show 33 ≤ y from h32) with h | h33
  · subst h; exact km_33
  rcases Nat.eq_or_lt_of_le (show 34 ≤ y from h33) with h | h34
  · subst h; exact km_34
  rcases Nat.eq_or_lt_of_le (show 35 ≤ y from h34) with h | h35
  · subst h; exact km_35
  rcases Nat.eq_or_lt_of_le (show 36 ≤ y from h35) with h | h36
  · subst h; exact km_36
  rcases Nat.eq_or_lt_of_le (show 37 ≤ y from h36) with h | h37
  · subst h; exact km_37
  rcases Nat.eq_or_lt_of_le (show 38 ≤ y from h37) with h | h38
  · subst h; exact km_38
  rcases Nat.eq_or_lt_of_le (show 39 ≤ y from h38) with h | h39
  · subst h; exact km_39
  rcases Nat.eq_or_lt_of_le (show 40 ≤ y from h39) with h | h40
  · subst h; exact km_40
  rcases Nat.eq_or_lt_of_le (show 41 ≤ y from h40) with h | h41
  · subst h; exact km_41
  rcases Nat.eq_or_lt_of_le (show 42 ≤ y from h41) with h | h42
  · subst h; exact km_42
  rcases Nat.eq_or_lt_of_le (show 43 ≤ y from h42) with h | h43
  · subst h; exact km_43
  rcases Nat.eq_or_lt_of_le (show 44 ≤ y from h43) with h | h44
  · subst h; exact km_44
  rcases Nat.eq_or_lt_of_le (show 45 ≤ y from h44) with h | h45
  · subst h; exact km_45
  rcases Nat.eq_or_lt_of_le (show 46 ≤ y from h45) with h | h46
  · subst h; exact km_46
  rcases Nat.eq_or_lt_of_le (show 47 ≤ y from h46) with h | h47
  · subst h; exact km_47
  rcases Nat.eq_or_lt_of_le (show 48 ≤ y from h47) with h | h48
  · subst h; exact km_48
  rcases Nat.eq_or_lt_of_le (show 49 ≤ y from h48) with h | h49
  · subst h; exact km_49
  rcases Nat.eq_or_lt_of_le (show 50 ≤ y from h49) with h | h50
  · subst h; exact km_50
  rcases Nat.eq_or_lt_of_le (show 51 ≤ y from h50) with h | h51
  · subst h; exact km_51
  rcases Nat.eq_or_lt_of_le (show 52 ≤ y from h51) with h | h52
  · subst h; exact km_52
  rcases Nat.eq_or_lt_of_le (show 53 ≤ y from h52) with h | h53
  · subst h; exact km_53
  rcases Nat.eq_or_lt_of_le (show 54 ≤ y from h53) with h | h54
  · subst h; exact km_54
  rcases Nat.eq_or_lt_of_le (show 55 ≤ y from h54) with h | h55
  · subst h; exact km_55
  rcases Nat.eq_or_lt_of_le (show 56 ≤ y from h55) with h | h56
  · subst h; exact km_56
  rcases Nat.eq_or_lt_of_le (show 57 ≤ y from h56) with h | h57
  · subst h; exact km_57
  rcases Nat.eq_or_lt_of_le (show 58 ≤ y from h57) with h | h58
  · subst h; exact km_58
  rcases Nat.eq_or_lt_of_le (show 59 ≤ y from h58) with h | h59
  · subst h; exact km_59
  rcases Nat.eq_or_lt_of_le (show 60 ≤ y from h59) with h | h60
  · subst h; exact km_60
  rcases Nat.eq_or_lt_of_le (show 61 ≤ y from h60) with h | h61
  · subst h; exact km_61
  rcases Nat.eq_or_lt_of_le (show 62 ≤ y from h61) with h | h62
  · subst h; exact km_62
  rcases Nat.eq_or_lt_of_le (show 63 ≤ y from h62) with h | h63
  · subst h; exact km_63
  rcases Nat.eq_or_lt_of_le (show 64 ≤ y from h63) with h | h64
  · subst h; exact km_64
  rcases Nat.eq_or_lt_of_le (show 65 ≤ y from h64) with h | h65
  · subst h; exact km_65
  rcases Nat.eq_or_lt_of_le (show 66 ≤ y from h65) with h | h66
  · subst h; exact km_66
  rcases Nat.eq_or_lt_of_le (show 67 ≤ y from h66) with h | h67
  · subst h; exact km_67
  rcases Nat.eq_or_lt_of_le (show 68 ≤ y from h67) with h | h68
  · subst h; exact km_68
  rcases Nat.eq_or_lt_of_le (show 69 ≤ y from h68) with h | h69
  · subst h; exact km_69
  rcases Nat.eq_or_lt_of_le (show 70 ≤ y from h69) with h | h70
  · subst h; exact km_70
  rcases Nat.eq_or_lt_of_le (show 71 ≤ y from h70) with h | h71
  · subst h; exact km_71
  rcases Nat.eq_or_lt_of_le (show 72 ≤ y from h71) with h | h72
  · subst h; exact km_72
  rcases Nat.eq_or_lt_of_le (show 73 ≤ y from h72) with h | h73
  · subst h; exact km_73
  rcases Nat.eq_or_lt_of_le (show 74 ≤ y from h73) with h | h74
  · subst h; exact km_74
  rcases Nat.eq_or_lt_of_le (show 75 ≤ y from h74) with h | h75
  · subst h; exact km_75
  rcases Nat.eq_or_lt_of_le (show 76 ≤ y from h75) with h | h76
  · subst h; exact km_76
  rcases Nat.eq_or_lt_of_le (show 77 ≤ y from h76) with h | h77
  · subst h; exact km_77
  rcases Nat.eq_or_lt_of_le (show 78 ≤ y from h77) with h | h78
  · subst h; exact km_78
  rcases Nat.eq_or_lt_of_le (show 79 ≤ y from h78) with h | h79
  · subst h; exact km_79
  rcases Nat.eq_or_lt_of_le (show 80 ≤ y from h79) with h | h80
  · subst h; exact km_80
  rcases Nat.eq_or_lt_of_le (show 81 ≤ y from h80) with h | h81
  · subst h; exact km_81
  rcases Nat.eq_or_lt_of_le (show 82 ≤ y from h81) with h | h82
  · subst h; exact km_82
  rcases Nat.eq_or_lt_of_le (show 83 ≤ y from h82) with h | h83
  · subst h; exact km_83
  rcases Nat.eq_or_lt_of_le (show 84 ≤ y from h83) with h | h84
  · subst h; exact km_84
  rcases Nat.eq_or_lt_of_le (show 85 ≤ y from h84) with h | h85
  · subst h; exact km_85
  rcases Nat.eq_or_lt_of_le (show 86 ≤ y from h85) with h | h86
  · subst h; exact km_86
  rcases Nat.eq_or_lt_of_le (show 87 ≤ y from h86) with h | h87
  · subst h; exact km_87
  rcases Nat.eq_or_lt_of_le (show 88 ≤ y from h87) with h | h88
  · subst h; exact km_88
  rcases Nat.eq_or_lt_of_le (show 89 ≤ y from h88) with h | h89
  · subst h; exact km_89
  rcases Nat.eq_or_lt_of_le (show 90 ≤ y from h89) with h | h90
  · subst h; exact km_90
  rcases Nat.eq_or_lt_of_le (show 91 ≤ y from h90) with h | h91
  · subst h; exact km_91
  rcases Nat.eq_or_lt_of_le (show 92 ≤ y from h91) with h | h92
  · subst h; exact km_92
  rcases Nat.eq_or_lt_of_le (show 93 ≤ y from h92) with h | h93
  · subst h; exact km_93
  rcases Nat.eq_or_lt_of_le (show 94 ≤ y from h93) with h | h94
  · subst h; exact km_94
  rcases Nat.eq_or_lt_of_le (show 95 ≤ y from h94) with h | h95
  · subst h; exact km_95
  rcases Nat.eq_or_lt_of_le (show 96 ≤ y from h95) with h | h96
  · subst h; exact km_96
  rcases Nat.eq_or_lt_of_le (show 97 ≤ y from h96) with h | h97
  · subst h; exact km_97
  rcases Nat.eq_or_lt_of_le (show 98 ≤ y from h97) with h | h98
  · subst h; exact km_98
  rcases Nat.eq_or_lt_of_le (show 99 ≤ y from h98) with h | h99
  · subst h; exact km_99
  rcases Nat.eq_or_lt_of_le (show 100 ≤ y from h99) with h | h100
  · subst h; exact km_100
  rcases Nat.eq_or_lt_of_le (show 101 ≤ y from h100) with h | h101
  · subst h; exact km_101
  rcases Nat.eq_or_lt_of_le (show 102 ≤ y from h101) with h | h102
  · subst h; exact km_102
  rcases Nat.eq_or_lt_of_le (show 103 ≤ y from h102) with h | h103
  · subst h; exact km_103
  rcases Nat.eq_or_lt_of_le (show 104 ≤ y from h103) with h | h104
  · subst h; exact km_104
  have hn : ex_bs[y]? = none := List.getElem?_eq_none (show ex_bs.length ≤ y from h104)
  unfold ex_okM
  rw [List.getD_eq_getElem?_getD, hn]
  rfl
end
section
/-! the tables' words, by their places (printed by wip/p34/gen7.py) -/
def ex_tb : List Jvm.Cond := lw_tbl.filter goodWord
theorem ex_in {i : Nat} {w : Jvm.Cond} (h : lw_tbl[i]? = some w) (g : goodWord w = true) : w ∈ ex_tb := List.mem_filter.mpr ⟨List.mem_of_getElem? h, g⟩
theorem kt_1 : (Jvm.Cond.laysFinal "BorderThroughBed$Day" "BorderThroughBed$Day" "things" "LBorderThroughBed$Table;") ∈ ex_tb := ex_in (i := 201) (by decide +kernel) (by decide +kernel)
theorem kt_2 : (Jvm.Cond.laysFinal "BorderThroughBed$Day" "BorderThroughBed$Day" "events" "LBorderThroughBed$Table;") ∈ ex_tb := ex_in (i := 203) (by decide +kernel) (by decide +kernel)
theorem kt_3 : (Jvm.Cond.laysFinal "BorderThroughBed$Day" "BorderThroughBed$Day" "habits" "LBorderThroughBed$Table;") ∈ ex_tb := ex_in (i := 205) (by decide +kernel) (by decide +kernel)
theorem kt_4 : (Jvm.Cond.laysFinal "BorderThroughBed$Day" "BorderThroughBed$Day" "judgments" "LBorderThroughBed$Table;") ∈ ex_tb := ex_in (i := 207) (by decide +kernel) (by decide +kernel)
theorem ku_0 : ∀ w ∈ u_ws (ex_Rn 0) (ex_T 0) (ex_N 0), w ∈ ex_tb := List.forall_mem_cons.mpr ⟨kt_1, List.forall_mem_cons.mpr ⟨kt_2, List.forall_mem_cons.mpr ⟨kt_3, List.forall_mem_cons.mpr ⟨kt_4, fun _ h => absurd h List.not_mem_nil⟩⟩⟩⟩
theorem kn_0 : ∀ a, a < ex_N 0 → ∀ b, b < ex_N 0 → a ≠ b → (ex_T 0 a).2.1 ≠ (ex_T 0 b).2.1 := by decide +kernel
theorem kp_0 : ∀ k, k < ex_N 0 → parseFieldDescriptor (ex_T 0 k).2.2.1 = some (ex_ty 0 k) := by decide +kernel
theorem kt_5 : (Jvm.Cond.laysFinal "BorderThroughBed$House" "BorderThroughBed$House" "kinds" "[I") ∈ ex_tb := ex_in (i := 130) (by decide +kernel) (by decide +kernel)
theorem kt_6 : (Jvm.Cond.laysFinal "BorderThroughBed$House" "BorderThroughBed$House" "rowOf" "[I") ∈ ex_tb := ex_in (i := 132) (by decide +kernel) (by decide +kernel)
theorem kt_7 : (Jvm.Cond.laysFinal "BorderThroughBed$House" "BorderThroughBed$House" "columnOf" "[I") ∈ ex_tb := ex_in (i := 134) (by decide +kernel) (by decide +kernel)
theorem kt_8 : (Jvm.Cond.laysFinal "BorderThroughBed$House" "BorderThroughBed$House" "lines" "[I") ∈ ex_tb := ex_in (i := 136) (by decide +kernel) (by decide +kernel)
theorem kt_9 : (Jvm.Cond.laysFinal "BorderThroughBed$House" "BorderThroughBed$House" "beside" "[I") ∈ ex_tb := ex_in (i := 138) (by decide +kernel) (by decide +kernel)
theorem kt_10 : (Jvm.Cond.laysFinal "BorderThroughBed$House" "BorderThroughBed$House" "ahead" "[I") ∈ ex_tb := ex_in (i := 140) (by decide +kernel) (by decide +kernel)
theorem kt_11 : (Jvm.Cond.laysFinal "BorderThroughBed$House" "BorderThroughBed$House" "bedSpots" "[I") ∈ ex_tb := ex_in (i := 142) (by decide +kernel) (by decide +kernel)
theorem kt_12 : (Jvm.Cond.laysFinal "BorderThroughBed$House" "BorderThroughBed$House" "otherSpots" "[I") ∈ ex_tb := ex_in (i := 144) (by decide +kernel) (by decide +kernel)
theorem kt_13 : (Jvm.Cond.laysFinal "BorderThroughBed$House" "BorderThroughBed$House" "doors" "[I") ∈ ex_tb := ex_in (i := 146) (by decide +kernel) (by decide +kernel)
theorem kt_14 : (Jvm.Cond.laysFinal "BorderThroughBed$House" "BorderThroughBed$House" "doorSteps" "[I") ∈ ex_tb := ex_in (i := 148) (by decide +kernel) (by decide +kernel)
theorem kt_15 : (Jvm.Cond.laysFinal "BorderThroughBed$House" "BorderThroughBed$House" "costs" "[I") ∈ ex_tb := ex_in (i := 150) (by decide +kernel) (by decide +kernel)
theorem kt_16 : (Jvm.Cond.lays "BorderThroughBed$House" "BorderThroughBed$House" "cells" "I") ∈ ex_tb := ex_in (i := 152) (by decide +kernel) (by decide +kernel)
theorem kt_17 : (Jvm.Cond.lays "BorderThroughBed$House" "BorderThroughBed$House" "rows" "I") ∈ ex_tb := ex_in (i := 154) (by decide +kernel) (by decide +kernel)
theorem kt_18 : (Jvm.Cond.lays "BorderThroughBed$House" "BorderThroughBed$House" "width" "I") ∈ ex_tb := ex_in (i := 156) (by decide +kernel) (by decide +kernel)
theorem ku_1 : ∀ w ∈ u_ws (ex_Rn 1) (ex_T 1) (ex_N 1), w ∈ ex_tb := List.forall_mem_cons.mpr ⟨kt_5, List.forall_mem_cons.mpr ⟨kt_6, List.forall_mem_cons.mpr ⟨kt_7, List.forall_mem_cons.mpr ⟨kt_8, List.forall_mem_cons.mpr ⟨kt_9, List.forall_mem_cons.mpr ⟨kt_10, List.forall_mem_cons.mpr ⟨kt_11, List.forall_mem_cons.mpr ⟨kt_12, List.forall_mem_cons.mpr ⟨kt_13, List.forall_mem_cons.mpr ⟨kt_14, List.forall_mem_cons.mpr ⟨kt_15, List.forall_mem_cons.mpr ⟨kt_16, List.forall_mem_cons.mpr ⟨kt_17, List.forall_mem_cons.mpr ⟨kt_18, fun _ h => absurd h List.not_mem_nil⟩⟩⟩⟩⟩⟩⟩⟩⟩⟩⟩⟩⟩⟩
theorem kn_1 : ∀ a, a < ex_N 1 → ∀ b, b < ex_N 1 → a ≠ b → (ex_T 1 a).2.1 ≠ (ex_T 1 b).2.1 := by decide +kernel
theorem kp_1 : ∀ k, k < ex_N 1 → parseFieldDescriptor (ex_T 1 k).2.2.1 = some (ex_ty 1 k) := by decide +kernel
theorem kt_19 : (Jvm.Cond.lays "BorderThroughBed$HouseText" "BorderThroughBed$HouseText" "row" "I") ∈ ex_tb := ex_in (i := 73) (by decide +kernel) (by decide +kernel)
theorem kt_20 : (Jvm.Cond.lays "BorderThroughBed$HouseText" "BorderThroughBed$HouseText" "width" "I") ∈ ex_tb := ex_in (i := 75) (by decide +kernel) (by decide +kernel)
theorem kt_21 : (Jvm.Cond.lays "BorderThroughBed$HouseText" "BorderThroughBed$HouseText" "column" "I") ∈ ex_tb := ex_in (i := 77) (by decide +kernel) (by decide +kernel)
theorem kt_22 : (Jvm.Cond.lays "BorderThroughBed$HouseText" "BorderThroughBed$HouseText" "hasLine" "Z") ∈ ex_tb := ex_in (i := 79) (by decide +kernel) (by decide +kernel)
theorem ku_2 : ∀ w ∈ u_ws (ex_Rn 2) (ex_T 2) (ex_N 2), w ∈ ex_tb := List.forall_mem_cons.mpr ⟨kt_19, List.forall_mem_cons.mpr ⟨kt_20, List.forall_mem_cons.mpr ⟨kt_21, List.forall_mem_cons.mpr ⟨kt_22, fun _ h => absurd h List.not_mem_nil⟩⟩⟩⟩
theorem kn_2 : ∀ a, a < ex_N 2 → ∀ b, b < ex_N 2 → a ≠ b → (ex_T 2 a).2.1 ≠ (ex_T 2 b).2.1 := by decide +kernel
theorem kp_2 : ∀ k, k < ex_N 2 → parseFieldDescriptor (ex_T 2 k).2.2.1 = some (ex_ty 2 k) := by decide +kernel
theorem kt_23 : (Jvm.Cond.laysFinal "BorderThroughBed$Keeping" "BorderThroughBed$Keeping" "acts" "[I") ∈ ex_tb := ex_in (i := 218) (by decide +kernel) (by decide +kernel)
theorem kt_24 : (Jvm.Cond.laysFinal "BorderThroughBed$Keeping" "BorderThroughBed$Keeping" "good" "[I") ∈ ex_tb := ex_in (i := 220) (by decide +kernel) (by decide +kernel)
theorem kt_25 : (Jvm.Cond.lays "BorderThroughBed$Keeping" "BorderThroughBed$Keeping" "size" "I") ∈ ex_tb := ex_in (i := 222) (by decide +kernel) (by decide +kernel)
theorem ku_3 : ∀ w ∈ u_ws (ex_Rn 3) (ex_T 3) (ex_N 3), w ∈ ex_tb := List.forall_mem_cons.mpr ⟨kt_23, List.forall_mem_cons.mpr ⟨kt_24, List.forall_mem_cons.mpr ⟨kt_25, fun _ h => absurd h List.not_mem_nil⟩⟩⟩
theorem kn_3 : ∀ a, a < ex_N 3 → ∀ b, b < ex_N 3 → a ≠ b → (ex_T 3 a).2.1 ≠ (ex_T 3 b).2.1 := by decide +kernel
theorem kp_3 : ∀ k, k < ex_N 3 → parseFieldDescriptor (ex_T 3 k).2.2.1 = some (ex_ty 3 k) := by decide +kernel
theorem kt_26 : (Jvm.Cond.lays "BorderThroughBed$LawText" "BorderThroughBed$LawText" "side" "I") ∈ ex_tb := ex_in (i := 95) (by decide +kernel) (by decide +kernel)
theorem kt_27 : (Jvm.Cond.lays "BorderThroughBed$LawText" "BorderThroughBed$LawText" "act" "I") ∈ ex_tb := ex_in (i := 97) (by decide +kernel) (by decide +kernel)
theorem kt_28 : (Jvm.Cond.lays "BorderThroughBed$LawText" "BorderThroughBed$LawText" "from" "I") ∈ ex_tb := ex_in (i := 99) (by decide +kernel) (by decide +kernel)
theorem kt_29 : (Jvm.Cond.lays "BorderThroughBed$LawText" "BorderThroughBed$LawText" "to" "I") ∈ ex_tb := ex_in (i := 101) (by decide +kernel) (by decide +kernel)
theorem kt_30 : (Jvm.Cond.lays "BorderThroughBed$LawText" "BorderThroughBed$LawText" "kind" "I") ∈ ex_tb := ex_in (i := 103) (by decide +kernel) (by decide +kernel)
theorem kt_31 : (Jvm.Cond.lays "BorderThroughBed$LawText" "BorderThroughBed$LawText" "stage" "I") ∈ ex_tb := ex_in (i := 105) (by decide +kernel) (by decide +kernel)
theorem kt_32 : (Jvm.Cond.lays "BorderThroughBed$LawText" "BorderThroughBed$LawText" "digits" "I") ∈ ex_tb := ex_in (i := 107) (by decide +kernel) (by decide +kernel)
theorem ku_4 : ∀ w ∈ u_ws (ex_Rn 4) (ex_T 4) (ex_N 4), w ∈ ex_tb := List.forall_mem_cons.mpr ⟨kt_26, List.forall_mem_cons.mpr ⟨kt_27, List.forall_mem_cons.mpr ⟨kt_28, List.forall_mem_cons.mpr ⟨kt_29, List.forall_mem_cons.mpr ⟨kt_30, List.forall_mem_cons.mpr ⟨kt_31, List.forall_mem_cons.mpr ⟨kt_32, fun _ h => absurd h List.not_mem_nil⟩⟩⟩⟩⟩⟩⟩
theorem kn_4 : ∀ a, a < ex_N 4 → ∀ b, b < ex_N 4 → a ≠ b → (ex_T 4 a).2.1 ≠ (ex_T 4 b).2.1 := by decide +kernel
theorem kp_4 : ∀ k, k < ex_N 4 → parseFieldDescriptor (ex_T 4 k).2.2.1 = some (ex_ty 4 k) := by decide +kernel
theorem kt_33 : (Jvm.Cond.laysFinal "BorderThroughBed$Laws" "BorderThroughBed$Laws" "laws" "LBorderThroughBed$Table;") ∈ ex_tb := ex_in (i := 182) (by decide +kernel) (by decide +kernel)
theorem ku_5 : ∀ w ∈ u_ws (ex_Rn 5) (ex_T 5) (ex_N 5), w ∈ ex_tb := List.forall_mem_cons.mpr ⟨kt_33, fun _ h => absurd h List.not_mem_nil⟩
theorem kn_5 : ∀ a, a < ex_N 5 → ∀ b, b < ex_N 5 → a ≠ b → (ex_T 5 a).2.1 ≠ (ex_T 5 b).2.1 := by decide +kernel
theorem kp_5 : ∀ k, k < ex_N 5 → parseFieldDescriptor (ex_T 5 k).2.2.1 = some (ex_ty 5 k) := by decide +kernel
theorem kt_34 : (Jvm.Cond.laysFinal "BorderThroughBed$Mover" "BorderThroughBed$Mover" "kinds" "[I") ∈ ex_tb := ex_in (i := 235) (by decide +kernel) (by decide +kernel)
theorem kt_35 : (Jvm.Cond.laysFinal "BorderThroughBed$Mover" "BorderThroughBed$Mover" "places" "[I") ∈ ex_tb := ex_in (i := 237) (by decide +kernel) (by decide +kernel)
theorem kt_36 : (Jvm.Cond.laysFinal "BorderThroughBed$Mover" "BorderThroughBed$Mover" "spots" "[I") ∈ ex_tb := ex_in (i := 239) (by decide +kernel) (by decide +kernel)
theorem kt_37 : (Jvm.Cond.laysFinal "BorderThroughBed$Mover" "BorderThroughBed$Mover" "answer" "[I") ∈ ex_tb := ex_in (i := 241) (by decide +kernel) (by decide +kernel)
theorem kt_38 : (Jvm.Cond.lays "BorderThroughBed$Mover" "BorderThroughBed$Mover" "size" "I") ∈ ex_tb := ex_in (i := 243) (by decide +kernel) (by decide +kernel)
theorem kt_39 : (Jvm.Cond.lays "BorderThroughBed$Mover" "BorderThroughBed$Mover" "hardest" "I") ∈ ex_tb := ex_in (i := 245) (by decide +kernel) (by decide +kernel)
theorem ku_6 : ∀ w ∈ u_ws (ex_Rn 6) (ex_T 6) (ex_N 6), w ∈ ex_tb := List.forall_mem_cons.mpr ⟨kt_34, List.forall_mem_cons.mpr ⟨kt_35, List.forall_mem_cons.mpr ⟨kt_36, List.forall_mem_cons.mpr ⟨kt_37, List.forall_mem_cons.mpr ⟨kt_38, List.forall_mem_cons.mpr ⟨kt_39, fun _ h => absurd h List.not_mem_nil⟩⟩⟩⟩⟩⟩
theorem kn_6 : ∀ a, a < ex_N 6 → ∀ b, b < ex_N 6 → a ≠ b → (ex_T 6 a).2.1 ≠ (ex_T 6 b).2.1 := by decide +kernel
theorem kp_6 : ∀ k, k < ex_N 6 → parseFieldDescriptor (ex_T 6 k).2.2.1 = some (ex_ty 6 k) := by decide +kernel
theorem kt_40 : (Jvm.Cond.laysFinal "BorderThroughBed$Page" "BorderThroughBed$Page" "codes" "[I") ∈ ex_tb := ex_in (i := 54) (by decide +kernel) (by decide +kernel)
theorem kt_41 : (Jvm.Cond.lays "BorderThroughBed$Page" "BorderThroughBed$Page" "size" "I") ∈ ex_tb := ex_in (i := 56) (by decide +kernel) (by decide +kernel)
theorem ku_7 : ∀ w ∈ u_ws (ex_Rn 7) (ex_T 7) (ex_N 7), w ∈ ex_tb := List.forall_mem_cons.mpr ⟨kt_40, List.forall_mem_cons.mpr ⟨kt_41, fun _ h => absurd h List.not_mem_nil⟩⟩
theorem kn_7 : ∀ a, a < ex_N 7 → ∀ b, b < ex_N 7 → a ≠ b → (ex_T 7 a).2.1 ≠ (ex_T 7 b).2.1 := by decide +kernel
theorem kp_7 : ∀ k, k < ex_N 7 → parseFieldDescriptor (ex_T 7 k).2.2.1 = some (ex_ty 7 k) := by decide +kernel
theorem kt_42 : (Jvm.Cond.laysFinal "BorderThroughBed$Table" "BorderThroughBed$Table" "numbers" "[I") ∈ ex_tb := ex_in (i := 174) (by decide +kernel) (by decide +kernel)
theorem kt_43 : (Jvm.Cond.laysFinal "BorderThroughBed$Table" "BorderThroughBed$Table" "most" "I") ∈ ex_tb := ex_in (i := 176) (by decide +kernel) (by decide +kernel)
theorem kt_44 : (Jvm.Cond.lays "BorderThroughBed$Table" "BorderThroughBed$Table" "size" "I") ∈ ex_tb := ex_in (i := 178) (by decide +kernel) (by decide +kernel)
theorem ku_8 : ∀ w ∈ u_ws (ex_Rn 8) (ex_T 8) (ex_N 8), w ∈ ex_tb := List.forall_mem_cons.mpr ⟨kt_42, List.forall_mem_cons.mpr ⟨kt_43, List.forall_mem_cons.mpr ⟨kt_44, fun _ h => absurd h List.not_mem_nil⟩⟩⟩
theorem kn_8 : ∀ a, a < ex_N 8 → ∀ b, b < ex_N 8 → a ≠ b → (ex_T 8 a).2.1 ≠ (ex_T 8 b).2.1 := by decide +kernel
theorem kp_8 : ∀ k, k < ex_N 8 → parseFieldDescriptor (ex_T 8 k).2.2.1 = some (ex_ty 8 k) := by decide +kernel
theorem ku_9 : ∀ w ∈ u_ws (ex_Rn 9) (ex_T 9) (ex_N 9), w ∈ ex_tb := fun _ h => absurd h List.not_mem_nil
theorem kn_9 : ∀ a, a < ex_N 9 → ∀ b, b < ex_N 9 → a ≠ b → (ex_T 9 a).2.1 ≠ (ex_T 9 b).2.1 := by decide +kernel
theorem kp_9 : ∀ k, k < ex_N 9 → parseFieldDescriptor (ex_T 9 k).2.2.1 = some (ex_ty 9 k) := by decide +kernel
theorem kt_45 : (Jvm.Cond.laysFinal "BorderThroughBed" "BorderThroughBed" "page" "LBorderThroughBed$Page;") ∈ ex_tb := ex_in (i := 260) (by decide +kernel) (by decide +kernel)
theorem kt_46 : (Jvm.Cond.laysFinal "BorderThroughBed" "BorderThroughBed" "houseText" "LBorderThroughBed$HouseText;") ∈ ex_tb := ex_in (i := 262) (by decide +kernel) (by decide +kernel)
theorem kt_47 : (Jvm.Cond.laysFinal "BorderThroughBed" "BorderThroughBed" "lawText" "LBorderThroughBed$LawText;") ∈ ex_tb := ex_in (i := 264) (by decide +kernel) (by decide +kernel)
theorem kt_48 : (Jvm.Cond.laysFinal "BorderThroughBed" "BorderThroughBed" "house" "LBorderThroughBed$House;") ∈ ex_tb := ex_in (i := 266) (by decide +kernel) (by decide +kernel)
theorem kt_49 : (Jvm.Cond.laysFinal "BorderThroughBed" "BorderThroughBed" "laws" "LBorderThroughBed$Laws;") ∈ ex_tb := ex_in (i := 268) (by decide +kernel) (by decide +kernel)
theorem kt_50 : (Jvm.Cond.laysFinal "BorderThroughBed" "BorderThroughBed" "now" "LBorderThroughBed$Day;") ∈ ex_tb := ex_in (i := 270) (by decide +kernel) (by decide +kernel)
theorem kt_51 : (Jvm.Cond.laysFinal "BorderThroughBed" "BorderThroughBed" "imageDay" "LBorderThroughBed$Day;") ∈ ex_tb := ex_in (i := 272) (by decide +kernel) (by decide +kernel)
theorem kt_52 : (Jvm.Cond.laysFinal "BorderThroughBed" "BorderThroughBed" "keeping" "LBorderThroughBed$Keeping;") ∈ ex_tb := ex_in (i := 274) (by decide +kernel) (by decide +kernel)
theorem kt_53 : (Jvm.Cond.laysFinal "BorderThroughBed" "BorderThroughBed" "mover" "LBorderThroughBed$Mover;") ∈ ex_tb := ex_in (i := 276) (by decide +kernel) (by decide +kernel)
theorem kt_54 : (Jvm.Cond.lays "BorderThroughBed" "BorderThroughBed" "imageIsKept" "Z") ∈ ex_tb := ex_in (i := 278) (by decide +kernel) (by decide +kernel)
theorem kt_55 : (Jvm.Cond.lays "BorderThroughBed" "BorderThroughBed" "housesRead" "I") ∈ ex_tb := ex_in (i := 280) (by decide +kernel) (by decide +kernel)
theorem kt_56 : (Jvm.Cond.lays "BorderThroughBed" "BorderThroughBed" "movesDone" "I") ∈ ex_tb := ex_in (i := 282) (by decide +kernel) (by decide +kernel)
theorem ku_10 : ∀ w ∈ u_ws (ex_Rn 10) (ex_T 10) (ex_N 10), w ∈ ex_tb := List.forall_mem_cons.mpr ⟨kt_45, List.forall_mem_cons.mpr ⟨kt_46, List.forall_mem_cons.mpr ⟨kt_47, List.forall_mem_cons.mpr ⟨kt_48, List.forall_mem_cons.mpr ⟨kt_49, List.forall_mem_cons.mpr ⟨kt_50, List.forall_mem_cons.mpr ⟨kt_51, List.forall_mem_cons.mpr ⟨kt_52, List.forall_mem_cons.mpr ⟨kt_53, List.forall_mem_cons.mpr ⟨kt_54, List.forall_mem_cons.mpr ⟨kt_55, List.forall_mem_cons.mpr ⟨kt_56, fun _ h => absurd h List.not_mem_nil⟩⟩⟩⟩⟩⟩⟩⟩⟩⟩⟩⟩
theorem kn_10 : ∀ a, a < ex_N 10 → ∀ b, b < ex_N 10 → a ≠ b → (ex_T 10 a).2.1 ≠ (ex_T 10 b).2.1 := by decide +kernel
theorem kp_10 : ∀ k, k < ex_N 10 → parseFieldDescriptor (ex_T 10 k).2.2.1 = some (ex_ty 10 k) := by decide +kernel
theorem ku_11 : ∀ w ∈ u_ws (ex_Rn 11) (ex_T 11) (ex_N 11), w ∈ ex_tb := fun _ h => absurd h List.not_mem_nil
theorem kn_11 : ∀ a, a < ex_N 11 → ∀ b, b < ex_N 11 → a ≠ b → (ex_T 11 a).2.1 ≠ (ex_T 11 b).2.1 := by decide +kernel
theorem kp_11 : ∀ k, k < ex_N 11 → parseFieldDescriptor (ex_T 11 k).2.2.1 = some (ex_ty 11 k) := by decide +kernel
theorem ku_all {c : Nat} (hc : c < 12) : ∀ w ∈ u_ws (ex_Rn c) (ex_T c) (ex_N c), w ∈ ex_tb := by
  match c, hc with
  | 0, _ => exact ku_0
  | 1, _ => exact ku_1
  | 2, _ => exact ku_2
  | 3, _ => exact ku_3
  | 4, _ => exact ku_4
  | 5, _ => exact ku_5
  | 6, _ => exact ku_6
  | 7, _ => exact ku_7
  | 8, _ => exact ku_8
  | 9, _ => exact ku_9
  | 10, _ => exact ku_10
  | 11, _ => exact ku_11
theorem kn_all {c : Nat} (hc : c < 12) : ∀ a, a < ex_N c → ∀ b, b < ex_N c → a ≠ b → (ex_T c a).2.1 ≠ (ex_T c b).2.1 := by
  match c, hc with
  | 0, _ => exact kn_0
  | 1, _ => exact kn_1
  | 2, _ => exact kn_2
  | 3, _ => exact kn_3
  | 4, _ => exact kn_4
  | 5, _ => exact kn_5
  | 6, _ => exact kn_6
  | 7, _ => exact kn_7
  | 8, _ => exact kn_8
  | 9, _ => exact kn_9
  | 10, _ => exact kn_10
  | 11, _ => exact kn_11
theorem kp_all {c : Nat} (hc : c < 12) : ∀ k, k < ex_N c → parseFieldDescriptor (ex_T c k).2.2.1 = some (ex_ty c k) := by
  match c, hc with
  | 0, _ => exact kp_0
  | 1, _ => exact kp_1
  | 2, _ => exact kp_2
  | 3, _ => exact kp_3
  | 4, _ => exact kp_4
  | 5, _ => exact kp_5
  | 6, _ => exact kp_6
  | 7, _ => exact kp_7
  | 8, _ => exact kp_8
  | 9, _ => exact kp_9
  | 10, _ => exact kp_10
  | 11, _ => exact kp_11
def ex_PF (c a e : Nat) : Prop := Jvm.Cond.fieldLink (ex_Rn c) a (ex_Rn (e / 64)) (ex_T (e / 64) (e % 64)).2.1 (ex_T (e / 64) (e % 64)).2.2.1 ∈ ex_tb ∧ e / 64 < 12 ∧ e % 64 < ex_N (e / 64)
theorem kt_57 : (Jvm.Cond.fieldLink "BorderThroughBed$Day" 14 "BorderThroughBed$Day" "things" "LBorderThroughBed$Table;") ∈ ex_tb := ex_in (i := 193) (by decide +kernel) (by decide +kernel)
theorem kt_58 : (Jvm.Cond.fieldLink "BorderThroughBed$Day" 20 "BorderThroughBed$Day" "events" "LBorderThroughBed$Table;") ∈ ex_tb := ex_in (i := 195) (by decide +kernel) (by decide +kernel)
theorem kt_59 : (Jvm.Cond.fieldLink "BorderThroughBed$Day" 23 "BorderThroughBed$Day" "habits" "LBorderThroughBed$Table;") ∈ ex_tb := ex_in (i := 197) (by decide +kernel) (by decide +kernel)
theorem kt_60 : (Jvm.Cond.fieldLink "BorderThroughBed$Day" 26 "BorderThroughBed$Day" "judgments" "LBorderThroughBed$Table;") ∈ ex_tb := ex_in (i := 199) (by decide +kernel) (by decide +kernel)
theorem kq_F_0 : ∀ q ∈ ex_cF.getD 0 [], ex_PF 0 q.1 q.2 := List.forall_mem_cons.mpr ⟨⟨kt_57, by decide, by decide +kernel⟩, List.forall_mem_cons.mpr ⟨⟨kt_58, by decide, by decide +kernel⟩, List.forall_mem_cons.mpr ⟨⟨kt_59, by decide, by decide +kernel⟩, List.forall_mem_cons.mpr ⟨⟨kt_60, by decide, by decide +kernel⟩, fun _ h => absurd h List.not_mem_nil⟩⟩⟩⟩
theorem kt_61 : (Jvm.Cond.fieldLink "BorderThroughBed$House" 9 "BorderThroughBed$House" "kinds" "[I") ∈ ex_tb := ex_in (i := 116) (by decide +kernel) (by decide +kernel)
theorem kt_62 : (Jvm.Cond.fieldLink "BorderThroughBed$House" 15 "BorderThroughBed$House" "rowOf" "[I") ∈ ex_tb := ex_in (i := 117) (by decide +kernel) (by decide +kernel)
theorem kt_63 : (Jvm.Cond.fieldLink "BorderThroughBed$House" 18 "BorderThroughBed$House" "columnOf" "[I") ∈ ex_tb := ex_in (i := 118) (by decide +kernel) (by decide +kernel)
theorem kt_64 : (Jvm.Cond.fieldLink "BorderThroughBed$House" 21 "BorderThroughBed$House" "lines" "[I") ∈ ex_tb := ex_in (i := 119) (by decide +kernel) (by decide +kernel)
theorem kt_65 : (Jvm.Cond.fieldLink "BorderThroughBed$House" 24 "BorderThroughBed$House" "beside" "[I") ∈ ex_tb := ex_in (i := 120) (by decide +kernel) (by decide +kernel)
theorem kt_66 : (Jvm.Cond.fieldLink "BorderThroughBed$House" 27 "BorderThroughBed$House" "ahead" "[I") ∈ ex_tb := ex_in (i := 121) (by decide +kernel) (by decide +kernel)
theorem kt_67 : (Jvm.Cond.fieldLink "BorderThroughBed$House" 30 "BorderThroughBed$House" "bedSpots" "[I") ∈ ex_tb := ex_in (i := 122) (by decide +kernel) (by decide +kernel)
theorem kt_68 : (Jvm.Cond.fieldLink "BorderThroughBed$House" 33 "BorderThroughBed$House" "otherSpots" "[I") ∈ ex_tb := ex_in (i := 123) (by decide +kernel) (by decide +kernel)
theorem kt_69 : (Jvm.Cond.fieldLink "BorderThroughBed$House" 36 "BorderThroughBed$House" "doors" "[I") ∈ ex_tb := ex_in (i := 124) (by decide +kernel) (by decide +kernel)
theorem kt_70 : (Jvm.Cond.fieldLink "BorderThroughBed$House" 39 "BorderThroughBed$House" "doorSteps" "[I") ∈ ex_tb := ex_in (i := 125) (by decide +kernel) (by decide +kernel)
theorem kt_71 : (Jvm.Cond.fieldLink "BorderThroughBed$House" 42 "BorderThroughBed$House" "costs" "[I") ∈ ex_tb := ex_in (i := 126) (by decide +kernel) (by decide +kernel)
theorem kt_72 : (Jvm.Cond.fieldLink "BorderThroughBed$House" 45 "BorderThroughBed$House" "cells" "I") ∈ ex_tb := ex_in (i := 127) (by decide +kernel) (by decide +kernel)
theorem kt_73 : (Jvm.Cond.fieldLink "BorderThroughBed$House" 67 "BorderThroughBed$House" "rows" "I") ∈ ex_tb := ex_in (i := 128) (by decide +kernel) (by decide +kernel)
theorem kt_74 : (Jvm.Cond.fieldLink "BorderThroughBed$House" 70 "BorderThroughBed$House" "width" "I") ∈ ex_tb := ex_in (i := 129) (by decide +kernel) (by decide +kernel)
theorem kq_F_1 : ∀ q ∈ ex_cF.getD 1 [], ex_PF 1 q.1 q.2 := List.forall_mem_cons.mpr ⟨⟨kt_61, by decide, by decide +kernel⟩, List.forall_mem_cons.mpr ⟨⟨kt_62, by decide, by decide +kernel⟩, List.forall_mem_cons.mpr ⟨⟨kt_63, by decide, by decide +kernel⟩, List.forall_mem_cons.mpr ⟨⟨kt_64, by decide, by decide +kernel⟩, List.forall_mem_cons.mpr ⟨⟨kt_65, by decide, by decide +kernel⟩, List.forall_mem_cons.mpr ⟨⟨kt_66, by decide, by decide +kernel⟩, List.forall_mem_cons.mpr ⟨⟨kt_67, by decide, by decide +kernel⟩, List.forall_mem_cons.mpr ⟨⟨kt_68, by decide, by decide +kernel⟩, List.forall_mem_cons.mpr ⟨⟨kt_69, by decide, by decide +kernel⟩, List.forall_mem_cons.mpr ⟨⟨kt_70, by decide, by decide +kernel⟩, List.forall_mem_cons.mpr ⟨⟨kt_71, by decide, by decide +kernel⟩, List.forall_mem_cons.mpr ⟨⟨kt_72, by decide, by decide +kernel⟩, List.forall_mem_cons.mpr ⟨⟨kt_73, by decide, by decide +kernel⟩, List.forall_mem_cons.mpr ⟨⟨kt_74, by decide, by decide +kernel⟩, fun _ h => absurd h List.not_mem_nil⟩⟩⟩⟩⟩⟩⟩⟩⟩⟩⟩⟩⟩⟩
theorem kt_75 : (Jvm.Cond.fieldLink "BorderThroughBed$HouseText" 9 "BorderThroughBed$HouseText" "row" "I") ∈ ex_tb := ex_in (i := 69) (by decide +kernel) (by decide +kernel)
theorem kt_76 : (Jvm.Cond.fieldLink "BorderThroughBed$HouseText" 15 "BorderThroughBed$HouseText" "width" "I") ∈ ex_tb := ex_in (i := 70) (by decide +kernel) (by decide +kernel)
theorem kt_77 : (Jvm.Cond.fieldLink "BorderThroughBed$HouseText" 18 "BorderThroughBed$HouseText" "column" "I") ∈ ex_tb := ex_in (i := 71) (by decide +kernel) (by decide +kernel)
theorem kt_78 : (Jvm.Cond.fieldLink "BorderThroughBed$HouseText" 21 "BorderThroughBed$HouseText" "hasLine" "Z") ∈ ex_tb := ex_in (i := 72) (by decide +kernel) (by decide +kernel)
theorem kq_F_2 : ∀ q ∈ ex_cF.getD 2 [], ex_PF 2 q.1 q.2 := List.forall_mem_cons.mpr ⟨⟨kt_75, by decide, by decide +kernel⟩, List.forall_mem_cons.mpr ⟨⟨kt_76, by decide, by decide +kernel⟩, List.forall_mem_cons.mpr ⟨⟨kt_77, by decide, by decide +kernel⟩, List.forall_mem_cons.mpr ⟨⟨kt_78, by decide, by decide +kernel⟩, fun _ h => absurd h List.not_mem_nil⟩⟩⟩⟩
theorem kt_79 : (Jvm.Cond.fieldLink "BorderThroughBed$Keeping" 9 "BorderThroughBed$Keeping" "acts" "[I") ∈ ex_tb := ex_in (i := 216) (by decide +kernel) (by decide +kernel)
theorem kt_80 : (Jvm.Cond.fieldLink "BorderThroughBed$Keeping" 15 "BorderThroughBed$Keeping" "good" "[I") ∈ ex_tb := ex_in (i := 217) (by decide +kernel) (by decide +kernel)
theorem kq_F_3 : ∀ q ∈ ex_cF.getD 3 [], ex_PF 3 q.1 q.2 := List.forall_mem_cons.mpr ⟨⟨kt_79, by decide, by decide +kernel⟩, List.forall_mem_cons.mpr ⟨⟨kt_80, by decide, by decide +kernel⟩, fun _ h => absurd h List.not_mem_nil⟩⟩
theorem kt_81 : (Jvm.Cond.fieldLink "BorderThroughBed$LawText" 9 "BorderThroughBed$LawText" "side" "I") ∈ ex_tb := ex_in (i := 88) (by decide +kernel) (by decide +kernel)
theorem kt_82 : (Jvm.Cond.fieldLink "BorderThroughBed$LawText" 15 "BorderThroughBed$LawText" "act" "I") ∈ ex_tb := ex_in (i := 89) (by decide +kernel) (by decide +kernel)
theorem kt_83 : (Jvm.Cond.fieldLink "BorderThroughBed$LawText" 18 "BorderThroughBed$LawText" "from" "I") ∈ ex_tb := ex_in (i := 90) (by decide +kernel) (by decide +kernel)
theorem kt_84 : (Jvm.Cond.fieldLink "BorderThroughBed$LawText" 21 "BorderThroughBed$LawText" "to" "I") ∈ ex_tb := ex_in (i := 91) (by decide +kernel) (by decide +kernel)
theorem kt_85 : (Jvm.Cond.fieldLink "BorderThroughBed$LawText" 24 "BorderThroughBed$LawText" "kind" "I") ∈ ex_tb := ex_in (i := 92) (by decide +kernel) (by decide +kernel)
theorem kt_86 : (Jvm.Cond.fieldLink "BorderThroughBed$LawText" 27 "BorderThroughBed$LawText" "stage" "I") ∈ ex_tb := ex_in (i := 93) (by decide +kernel) (by decide +kernel)
theorem kt_87 : (Jvm.Cond.fieldLink "BorderThroughBed$LawText" 30 "BorderThroughBed$LawText" "digits" "I") ∈ ex_tb := ex_in (i := 94) (by decide +kernel) (by decide +kernel)
theorem kq_F_4 : ∀ q ∈ ex_cF.getD 4 [], ex_PF 4 q.1 q.2 := List.forall_mem_cons.mpr ⟨⟨kt_81, by decide, by decide +kernel⟩, List.forall_mem_cons.mpr ⟨⟨kt_82, by decide, by decide +kernel⟩, List.forall_mem_cons.mpr ⟨⟨kt_83, by decide, by decide +kernel⟩, List.forall_mem_cons.mpr ⟨⟨kt_84, by decide, by decide +kernel⟩, List.forall_mem_cons.mpr ⟨⟨kt_85, by decide, by decide +kernel⟩, List.forall_mem_cons.mpr ⟨⟨kt_86, by decide, by decide +kernel⟩, List.forall_mem_cons.mpr ⟨⟨kt_87, by decide, by decide +kernel⟩, fun _ h => absurd h List.not_mem_nil⟩⟩⟩⟩⟩⟩⟩
theorem kt_88 : (Jvm.Cond.fieldLink "BorderThroughBed$Laws" 14 "BorderThroughBed$Laws" "laws" "LBorderThroughBed$Table;") ∈ ex_tb := ex_in (i := 181) (by decide +kernel) (by decide +kernel)
theorem kq_F_5 : ∀ q ∈ ex_cF.getD 5 [], ex_PF 5 q.1 q.2 := List.forall_mem_cons.mpr ⟨⟨kt_88, by decide, by decide +kernel⟩, fun _ h => absurd h List.not_mem_nil⟩
theorem kt_89 : (Jvm.Cond.fieldLink "BorderThroughBed$Mover" 9 "BorderThroughBed$Mover" "kinds" "[I") ∈ ex_tb := ex_in (i := 231) (by decide +kernel) (by decide +kernel)
theorem kt_90 : (Jvm.Cond.fieldLink "BorderThroughBed$Mover" 15 "BorderThroughBed$Mover" "places" "[I") ∈ ex_tb := ex_in (i := 232) (by decide +kernel) (by decide +kernel)
theorem kt_91 : (Jvm.Cond.fieldLink "BorderThroughBed$Mover" 18 "BorderThroughBed$Mover" "spots" "[I") ∈ ex_tb := ex_in (i := 233) (by decide +kernel) (by decide +kernel)
theorem kt_92 : (Jvm.Cond.fieldLink "BorderThroughBed$Mover" 21 "BorderThroughBed$Mover" "answer" "[I") ∈ ex_tb := ex_in (i := 234) (by decide +kernel) (by decide +kernel)
theorem kq_F_6 : ∀ q ∈ ex_cF.getD 6 [], ex_PF 6 q.1 q.2 := List.forall_mem_cons.mpr ⟨⟨kt_89, by decide, by decide +kernel⟩, List.forall_mem_cons.mpr ⟨⟨kt_90, by decide, by decide +kernel⟩, List.forall_mem_cons.mpr ⟨⟨kt_91, by decide, by decide +kernel⟩, List.forall_mem_cons.mpr ⟨⟨kt_92, by decide, by decide +kernel⟩, fun _ h => absurd h List.not_mem_nil⟩⟩⟩⟩
theorem kt_93 : (Jvm.Cond.fieldLink "BorderThroughBed$Page" 11 "BorderThroughBed$Page" "codes" "[I") ∈ ex_tb := ex_in (i := 52) (by decide +kernel) (by decide +kernel)
theorem kt_94 : (Jvm.Cond.fieldLink "BorderThroughBed$Page" 19 "BorderThroughBed$Page" "size" "I") ∈ ex_tb := ex_in (i := 53) (by decide +kernel) (by decide +kernel)
theorem kq_F_7 : ∀ q ∈ ex_cF.getD 7 [], ex_PF 7 q.1 q.2 := List.forall_mem_cons.mpr ⟨⟨kt_93, by decide, by decide +kernel⟩, List.forall_mem_cons.mpr ⟨⟨kt_94, by decide, by decide +kernel⟩, fun _ h => absurd h List.not_mem_nil⟩⟩
theorem kt_95 : (Jvm.Cond.fieldLink "BorderThroughBed$Table" 11 "BorderThroughBed$Table" "numbers" "[I") ∈ ex_tb := ex_in (i := 171) (by decide +kernel) (by decide +kernel)
theorem kt_96 : (Jvm.Cond.fieldLink "BorderThroughBed$Table" 15 "BorderThroughBed$Table" "most" "I") ∈ ex_tb := ex_in (i := 172) (by decide +kernel) (by decide +kernel)
theorem kt_97 : (Jvm.Cond.fieldLink "BorderThroughBed$Table" 19 "BorderThroughBed$Table" "size" "I") ∈ ex_tb := ex_in (i := 173) (by decide +kernel) (by decide +kernel)
theorem kq_F_8 : ∀ q ∈ ex_cF.getD 8 [], ex_PF 8 q.1 q.2 := List.forall_mem_cons.mpr ⟨⟨kt_95, by decide, by decide +kernel⟩, List.forall_mem_cons.mpr ⟨⟨kt_96, by decide, by decide +kernel⟩, List.forall_mem_cons.mpr ⟨⟨kt_97, by decide, by decide +kernel⟩, fun _ h => absurd h List.not_mem_nil⟩⟩⟩
theorem kq_F_9 : ∀ q ∈ ex_cF.getD 9 [], ex_PF 9 q.1 q.2 := fun _ h => absurd h List.not_mem_nil
theorem kt_98 : (Jvm.Cond.fieldLink "BorderThroughBed" 10 "BorderThroughBed" "page" "LBorderThroughBed$Page;") ∈ ex_tb := ex_in (i := 248) (by decide +kernel) (by decide +kernel)
theorem kt_99 : (Jvm.Cond.fieldLink "BorderThroughBed" 19 "BorderThroughBed" "houseText" "LBorderThroughBed$HouseText;") ∈ ex_tb := ex_in (i := 249) (by decide +kernel) (by decide +kernel)
theorem kt_100 : (Jvm.Cond.fieldLink "BorderThroughBed" 26 "BorderThroughBed" "lawText" "LBorderThroughBed$LawText;") ∈ ex_tb := ex_in (i := 250) (by decide +kernel) (by decide +kernel)
theorem kt_101 : (Jvm.Cond.fieldLink "BorderThroughBed" 33 "BorderThroughBed" "house" "LBorderThroughBed$House;") ∈ ex_tb := ex_in (i := 251) (by decide +kernel) (by decide +kernel)
theorem kt_102 : (Jvm.Cond.fieldLink "BorderThroughBed" 40 "BorderThroughBed" "laws" "LBorderThroughBed$Laws;") ∈ ex_tb := ex_in (i := 252) (by decide +kernel) (by decide +kernel)
theorem kt_103 : (Jvm.Cond.fieldLink "BorderThroughBed" 47 "BorderThroughBed" "now" "LBorderThroughBed$Day;") ∈ ex_tb := ex_in (i := 253) (by decide +kernel) (by decide +kernel)
theorem kt_104 : (Jvm.Cond.fieldLink "BorderThroughBed" 51 "BorderThroughBed" "imageDay" "LBorderThroughBed$Day;") ∈ ex_tb := ex_in (i := 254) (by decide +kernel) (by decide +kernel)
theorem kt_105 : (Jvm.Cond.fieldLink "BorderThroughBed" 57 "BorderThroughBed" "keeping" "LBorderThroughBed$Keeping;") ∈ ex_tb := ex_in (i := 255) (by decide +kernel) (by decide +kernel)
theorem kt_106 : (Jvm.Cond.fieldLink "BorderThroughBed" 64 "BorderThroughBed" "mover" "LBorderThroughBed$Mover;") ∈ ex_tb := ex_in (i := 256) (by decide +kernel) (by decide +kernel)
theorem kt_107 : (Jvm.Cond.fieldLink "BorderThroughBed" 101 "BorderThroughBed" "imageIsKept" "Z") ∈ ex_tb := ex_in (i := 257) (by decide +kernel) (by decide +kernel)
theorem kt_108 : (Jvm.Cond.fieldLink "BorderThroughBed" 105 "BorderThroughBed" "housesRead" "I") ∈ ex_tb := ex_in (i := 258) (by decide +kernel) (by decide +kernel)
theorem kt_109 : (Jvm.Cond.fieldLink "BorderThroughBed" 151 "BorderThroughBed$Day" "events" "LBorderThroughBed$Table;") ∈ ex_tb := ex_in (i := 196) (by decide +kernel) (by decide +kernel)
theorem kt_110 : (Jvm.Cond.fieldLink "BorderThroughBed" 187 "BorderThroughBed$Day" "things" "LBorderThroughBed$Table;") ∈ ex_tb := ex_in (i := 194) (by decide +kernel) (by decide +kernel)
theorem kt_111 : (Jvm.Cond.fieldLink "BorderThroughBed" 205 "BorderThroughBed$Day" "habits" "LBorderThroughBed$Table;") ∈ ex_tb := ex_in (i := 198) (by decide +kernel) (by decide +kernel)
theorem kt_112 : (Jvm.Cond.fieldLink "BorderThroughBed" 220 "BorderThroughBed" "movesDone" "I") ∈ ex_tb := ex_in (i := 259) (by decide +kernel) (by decide +kernel)
theorem kt_113 : (Jvm.Cond.fieldLink "BorderThroughBed" 262 "BorderThroughBed$Day" "judgments" "LBorderThroughBed$Table;") ∈ ex_tb := ex_in (i := 200) (by decide +kernel) (by decide +kernel)
theorem kq_F_10 : ∀ q ∈ ex_cF.getD 10 [], ex_PF 10 q.1 q.2 := List.forall_mem_cons.mpr ⟨⟨kt_98, by decide, by decide +kernel⟩, List.forall_mem_cons.mpr ⟨⟨kt_99, by decide, by decide +kernel⟩, List.forall_mem_cons.mpr ⟨⟨kt_100, by decide, by decide +kernel⟩, List.forall_mem_cons.mpr ⟨⟨kt_101, by decide, by decide +kernel⟩, List.forall_mem_cons.mpr ⟨⟨kt_102, by decide, by decide +kernel⟩, List.forall_mem_cons.mpr ⟨⟨kt_103, by decide, by decide +kernel⟩, List.forall_mem_cons.mpr ⟨⟨kt_104, by decide, by decide +kernel⟩, List.forall_mem_cons.mpr ⟨⟨kt_105, by decide, by decide +kernel⟩, List.forall_mem_cons.mpr ⟨⟨kt_106, by decide, by decide +kernel⟩, List.forall_mem_cons.mpr ⟨⟨kt_107, by decide, by decide +kernel⟩, List.forall_mem_cons.mpr ⟨⟨kt_108, by decide, by decide +kernel⟩, List.forall_mem_cons.mpr ⟨⟨kt_109, by decide, by decide +kernel⟩, List.forall_mem_cons.mpr ⟨⟨kt_110, by decide, by decide +kernel⟩, List.forall_mem_cons.mpr ⟨⟨kt_111, by decide, by decide +kernel⟩, List.forall_mem_cons.mpr ⟨⟨kt_112, by decide, by decide +kernel⟩, List.forall_mem_cons.mpr ⟨⟨kt_113, by decide, by decide +kernel⟩, fun _ h => absurd h List.not_mem_nil⟩⟩⟩⟩⟩⟩⟩⟩⟩⟩⟩⟩⟩⟩⟩⟩
theorem kq_F_11 : ∀ q ∈ ex_cF.getD 11 [], ex_PF 11 q.1 q.2 := fun _ h => absurd h List.not_mem_nil
theorem kq_F {c : Nat} (hc : c < 12) : ∀ q ∈ ex_cF.getD c [], ex_PF c q.1 q.2 := by
  match c, hc with
  | 0, _ => exact kq_F_0
  | 1, _ => exact kq_F_1
  | 2, _ => exact kq_F_2
  | 3, _ => exact kq_F_3
  | 4, _ => exact kq_F_4
  | 5, _ => exact kq_F_5
  | 6, _ => exact kq_F_6
  | 7, _ => exact kq_F_7
  | 8, _ => exact kq_F_8
  | 9, _ => exact kq_F_9
  | 10, _ => exact kq_F_10
  | 11, _ => exact kq_F_11
def ex_PS (c a e : Nat) : Prop := (e = 1000 ∧ Jvm.Cond.fieldLink (ex_Rn c) a "BorderThroughBed$House" "DOWN" "[I" ∈ ex_tb) ∨ (e = 1001 ∧ Jvm.Cond.fieldLink (ex_Rn c) a "BorderThroughBed$House" "RIGHT" "[I" ∈ ex_tb)
theorem kq_S_0 : ∀ q ∈ ex_cS.getD 0 [], ex_PS 0 q.1 q.2 := fun _ h => absurd h List.not_mem_nil
theorem kt_114 : (Jvm.Cond.fieldLink "BorderThroughBed$House" 86 "BorderThroughBed$House" "DOWN" "[I") ∈ ex_tb := ex_in (i := 627) (by decide +kernel) (by decide +kernel)
theorem kt_115 : (Jvm.Cond.fieldLink "BorderThroughBed$House" 89 "BorderThroughBed$House" "RIGHT" "[I") ∈ ex_tb := ex_in (i := 629) (by decide +kernel) (by decide +kernel)
theorem kq_S_1 : ∀ q ∈ ex_cS.getD 1 [], ex_PS 1 q.1 q.2 := List.forall_mem_cons.mpr ⟨Or.inl ⟨rfl, kt_114⟩, List.forall_mem_cons.mpr ⟨Or.inr ⟨rfl, kt_115⟩, fun _ h => absurd h List.not_mem_nil⟩⟩
theorem kq_S_2 : ∀ q ∈ ex_cS.getD 2 [], ex_PS 2 q.1 q.2 := fun _ h => absurd h List.not_mem_nil
theorem kq_S_3 : ∀ q ∈ ex_cS.getD 3 [], ex_PS 3 q.1 q.2 := fun _ h => absurd h List.not_mem_nil
theorem kq_S_4 : ∀ q ∈ ex_cS.getD 4 [], ex_PS 4 q.1 q.2 := fun _ h => absurd h List.not_mem_nil
theorem kq_S_5 : ∀ q ∈ ex_cS.getD 5 [], ex_PS 5 q.1 q.2 := fun _ h => absurd h List.not_mem_nil
theorem kq_S_6 : ∀ q ∈ ex_cS.getD 6 [], ex_PS 6 q.1 q.2 := fun _ h => absurd h List.not_mem_nil
theorem kq_S_7 : ∀ q ∈ ex_cS.getD 7 [], ex_PS 7 q.1 q.2 := fun _ h => absurd h List.not_mem_nil
theorem kq_S_8 : ∀ q ∈ ex_cS.getD 8 [], ex_PS 8 q.1 q.2 := fun _ h => absurd h List.not_mem_nil
theorem kq_S_9 : ∀ q ∈ ex_cS.getD 9 [], ex_PS 9 q.1 q.2 := fun _ h => absurd h List.not_mem_nil
theorem kq_S_10 : ∀ q ∈ ex_cS.getD 10 [], ex_PS 10 q.1 q.2 := fun _ h => absurd h List.not_mem_nil
theorem kq_S_11 : ∀ q ∈ ex_cS.getD 11 [], ex_PS 11 q.1 q.2 := fun _ h => absurd h List.not_mem_nil
theorem kq_S {c : Nat} (hc : c < 12) : ∀ q ∈ ex_cS.getD c [], ex_PS c q.1 q.2 := by
  match c, hc with
  | 0, _ => exact kq_S_0
  | 1, _ => exact kq_S_1
  | 2, _ => exact kq_S_2
  | 3, _ => exact kq_S_3
  | 4, _ => exact kq_S_4
  | 5, _ => exact kq_S_5
  | 6, _ => exact kq_S_6
  | 7, _ => exact kq_S_7
  | 8, _ => exact kq_S_8
  | 9, _ => exact kq_S_9
  | 10, _ => exact kq_S_10
  | 11, _ => exact kq_S_11
def ex_PK (c a : Nat) (v : Int) : Prop := Jvm.Cond.constant (ex_Rn c) a (Int32.ofInt v) ∈ ex_tb
def ex_PL (c a : Nat) (v : Int) : Prop := Jvm.Cond.constantLong (ex_Rn c) a (Int64.ofInt v) ∈ ex_tb
theorem kq_K_0 : ∀ q ∈ ex_cK.getD 0 [], ex_PK 0 q.1 q.2 := fun _ h => absurd h List.not_mem_nil
theorem kt_116 : (Jvm.Cond.constant (ex_Rn 1) 103 (Int32.ofInt 1000000)) ∈ ex_tb := ex_in (i := 644) (by decide +kernel) (by decide +kernel)
theorem kq_K_1 : ∀ q ∈ ex_cK.getD 1 [], ex_PK 1 q.1 q.2 := List.forall_mem_cons.mpr ⟨kt_116, fun _ h => absurd h List.not_mem_nil⟩
theorem kq_K_2 : ∀ q ∈ ex_cK.getD 2 [], ex_PK 2 q.1 q.2 := fun _ h => absurd h List.not_mem_nil
theorem kq_K_3 : ∀ q ∈ ex_cK.getD 3 [], ex_PK 3 q.1 q.2 := fun _ h => absurd h List.not_mem_nil
theorem kq_K_4 : ∀ q ∈ ex_cK.getD 4 [], ex_PK 4 q.1 q.2 := fun _ h => absurd h List.not_mem_nil
theorem kq_K_5 : ∀ q ∈ ex_cK.getD 5 [], ex_PK 5 q.1 q.2 := fun _ h => absurd h List.not_mem_nil
theorem kq_K_6 : ∀ q ∈ ex_cK.getD 6 [], ex_PK 6 q.1 q.2 := fun _ h => absurd h List.not_mem_nil
theorem kq_K_7 : ∀ q ∈ ex_cK.getD 7 [], ex_PK 7 q.1 q.2 := fun _ h => absurd h List.not_mem_nil
theorem kq_K_8 : ∀ q ∈ ex_cK.getD 8 [], ex_PK 8 q.1 q.2 := fun _ h => absurd h List.not_mem_nil
theorem kq_K_9 : ∀ q ∈ ex_cK.getD 9 [], ex_PK 9 q.1 q.2 := fun _ h => absurd h List.not_mem_nil
theorem kq_K_10 : ∀ q ∈ ex_cK.getD 10 [], ex_PK 10 q.1 q.2 := fun _ h => absurd h List.not_mem_nil
theorem kt_117 : (Jvm.Cond.constant (ex_Rn 11) 7 (Int32.ofInt 2147483647)) ∈ ex_tb := ex_in (i := 487) (by decide +kernel) (by decide +kernel)
theorem kt_118 : (Jvm.Cond.constant (ex_Rn 11) 24 (Int32.ofInt 32768)) ∈ ex_tb := ex_in (i := 491) (by decide +kernel) (by decide +kernel)
theorem kt_119 : (Jvm.Cond.constant (ex_Rn 11) 82 (Int32.ofInt 65536)) ∈ ex_tb := ex_in (i := 722) (by decide +kernel) (by decide +kernel)
theorem kq_K_11 : ∀ q ∈ ex_cK.getD 11 [], ex_PK 11 q.1 q.2 := List.forall_mem_cons.mpr ⟨kt_117, List.forall_mem_cons.mpr ⟨kt_118, List.forall_mem_cons.mpr ⟨kt_119, fun _ h => absurd h List.not_mem_nil⟩⟩⟩
theorem kq_K {c : Nat} (hc : c < 12) : ∀ q ∈ ex_cK.getD c [], ex_PK c q.1 q.2 := by
  match c, hc with
  | 0, _ => exact kq_K_0
  | 1, _ => exact kq_K_1
  | 2, _ => exact kq_K_2
  | 3, _ => exact kq_K_3
  | 4, _ => exact kq_K_4
  | 5, _ => exact kq_K_5
  | 6, _ => exact kq_K_6
  | 7, _ => exact kq_K_7
  | 8, _ => exact kq_K_8
  | 9, _ => exact kq_K_9
  | 10, _ => exact kq_K_10
  | 11, _ => exact kq_K_11
theorem kq_L_0 : ∀ q ∈ ex_cL.getD 0 [], ex_PL 0 q.1 q.2 := fun _ h => absurd h List.not_mem_nil
theorem kq_L_1 : ∀ q ∈ ex_cL.getD 1 [], ex_PL 1 q.1 q.2 := fun _ h => absurd h List.not_mem_nil
theorem kq_L_2 : ∀ q ∈ ex_cL.getD 2 [], ex_PL 2 q.1 q.2 := fun _ h => absurd h List.not_mem_nil
theorem kq_L_3 : ∀ q ∈ ex_cL.getD 3 [], ex_PL 3 q.1 q.2 := fun _ h => absurd h List.not_mem_nil
theorem kq_L_4 : ∀ q ∈ ex_cL.getD 4 [], ex_PL 4 q.1 q.2 := fun _ h => absurd h List.not_mem_nil
theorem kq_L_5 : ∀ q ∈ ex_cL.getD 5 [], ex_PL 5 q.1 q.2 := fun _ h => absurd h List.not_mem_nil
theorem kq_L_6 : ∀ q ∈ ex_cL.getD 6 [], ex_PL 6 q.1 q.2 := fun _ h => absurd h List.not_mem_nil
theorem kq_L_7 : ∀ q ∈ ex_cL.getD 7 [], ex_PL 7 q.1 q.2 := fun _ h => absurd h List.not_mem_nil
theorem kq_L_8 : ∀ q ∈ ex_cL.getD 8 [], ex_PL 8 q.1 q.2 := fun _ h => absurd h List.not_mem_nil
theorem kq_L_9 : ∀ q ∈ ex_cL.getD 9 [], ex_PL 9 q.1 q.2 := fun _ h => absurd h List.not_mem_nil
theorem kq_L_10 : ∀ q ∈ ex_cL.getD 10 [], ex_PL 10 q.1 q.2 := fun _ h => absurd h List.not_mem_nil
theorem kq_L_11 : ∀ q ∈ ex_cL.getD 11 [], ex_PL 11 q.1 q.2 := fun _ h => absurd h List.not_mem_nil
theorem kq_L {c : Nat} (hc : c < 12) : ∀ q ∈ ex_cL.getD c [], ex_PL c q.1 q.2 := by
  match c, hc with
  | 0, _ => exact kq_L_0
  | 1, _ => exact kq_L_1
  | 2, _ => exact kq_L_2
  | 3, _ => exact kq_L_3
  | 4, _ => exact kq_L_4
  | 5, _ => exact kq_L_5
  | 6, _ => exact kq_L_6
  | 7, _ => exact kq_L_7
  | 8, _ => exact kq_L_8
  | 9, _ => exact kq_L_9
  | 10, _ => exact kq_L_10
  | 11, _ => exact kq_L_11
def ex_Pm (y : Nat) : Prop := Jvm.Cond.code (ex_Y y) (ex_B y) (ex_L y) (ex_ret y) ∈ ex_tb ∧ Jvm.Cond.initialized (ex_Y y).cls ∈ ex_tb ∧ (ex_Y y).cls = ex_Rn (ex_C y) ∧ ex_C y < 12 ∧ plainName (ex_Y y).cls = true ∧ ((ex_Y y).cls ≠ "java/lang/invoke/MethodHandle" ∧ (ex_Y y).cls ≠ "java/lang/invoke/VarHandle") ∧ ex_L y ≤ 24
theorem kt_120 : (Jvm.Cond.initialized "BorderThroughBed$Day") ∈ ex_tb := ex_in (i := 35) (by decide +kernel) (by decide +kernel)
theorem kt_121 : (Jvm.Cond.initialized "BorderThroughBed$House") ∈ ex_tb := ex_in (i := 32) (by decide +kernel) (by decide +kernel)
theorem kt_122 : (Jvm.Cond.initialized "BorderThroughBed$HouseText") ∈ ex_tb := ex_in (i := 30) (by decide +kernel) (by decide +kernel)
theorem kt_123 : (Jvm.Cond.initialized "BorderThroughBed$Keeping") ∈ ex_tb := ex_in (i := 36) (by decide +kernel) (by decide +kernel)
theorem kt_124 : (Jvm.Cond.initialized "BorderThroughBed$LawText") ∈ ex_tb := ex_in (i := 31) (by decide +kernel) (by decide +kernel)
theorem kt_125 : (Jvm.Cond.initialized "BorderThroughBed$Laws") ∈ ex_tb := ex_in (i := 33) (by decide +kernel) (by decide +kernel)
theorem kt_126 : (Jvm.Cond.initialized "BorderThroughBed$Mover") ∈ ex_tb := ex_in (i := 37) (by decide +kernel) (by decide +kernel)
theorem kt_127 : (Jvm.Cond.initialized "BorderThroughBed$Page") ∈ ex_tb := ex_in (i := 28) (by decide +kernel) (by decide +kernel)
theorem kt_128 : (Jvm.Cond.initialized "BorderThroughBed$Table") ∈ ex_tb := ex_in (i := 34) (by decide +kernel) (by decide +kernel)
theorem kt_129 : (Jvm.Cond.initialized "BorderThroughBed$Text") ∈ ex_tb := ex_in (i := 29) (by decide +kernel) (by decide +kernel)
theorem kt_130 : (Jvm.Cond.initialized "BorderThroughBed") ∈ ex_tb := ex_in (i := 27) (by decide +kernel) (by decide +kernel)
theorem kt_131 : (Jvm.Cond.initialized "BorderThroughBedLaw") ∈ ex_tb := ex_in (i := 26) (by decide +kernel) (by decide +kernel)
theorem kt_132 : (Jvm.Cond.code (ex_Y 0) (ex_B 0) (ex_L 0) (ex_ret 0)) ∈ ex_tb := ex_in (i := 669) (by decide +kernel) (by decide +kernel)
theorem kw_0 : ex_Pm 0 := ⟨kt_132, kt_120, by decide +kernel, by decide +kernel, by decide +kernel, by decide +kernel, by decide +kernel⟩
theorem kt_133 : (Jvm.Cond.code (ex_Y 1) (ex_B 1) (ex_L 1) (ex_ret 1)) ∈ ex_tb := ex_in (i := 345) (by decide +kernel) (by decide +kernel)
theorem kw_1 : ex_Pm 1 := ⟨kt_133, kt_120, by decide +kernel, by decide +kernel, by decide +kernel, by decide +kernel, by decide +kernel⟩
theorem kt_134 : (Jvm.Cond.code (ex_Y 2) (ex_B 2) (ex_L 2) (ex_ret 2)) ∈ ex_tb := ex_in (i := 354) (by decide +kernel) (by decide +kernel)
theorem kw_2 : ex_Pm 2 := ⟨kt_134, kt_120, by decide +kernel, by decide +kernel, by decide +kernel, by decide +kernel, by decide +kernel⟩
theorem kt_135 : (Jvm.Cond.code (ex_Y 3) (ex_B 3) (ex_L 3) (ex_ret 3)) ∈ ex_tb := ex_in (i := 358) (by decide +kernel) (by decide +kernel)
theorem kw_3 : ex_Pm 3 := ⟨kt_135, kt_120, by decide +kernel, by decide +kernel, by decide +kernel, by decide +kernel, by decide +kernel⟩
theorem kt_136 : (Jvm.Cond.code (ex_Y 4) (ex_B 4) (ex_L 4) (ex_ret 4)) ∈ ex_tb := ex_in (i := 350) (by decide +kernel) (by decide +kernel)
theorem kw_4 : ex_Pm 4 := ⟨kt_136, kt_120, by decide +kernel, by decide +kernel, by decide +kernel, by decide +kernel, by decide +kernel⟩
theorem kt_137 : (Jvm.Cond.code (ex_Y 5) (ex_B 5) (ex_L 5) (ex_ret 5)) ∈ ex_tb := ex_in (i := 340) (by decide +kernel) (by decide +kernel)
theorem kw_5 : ex_Pm 5 := ⟨kt_137, kt_120, by decide +kernel, by decide +kernel, by decide +kernel, by decide +kernel, by decide +kernel⟩
theorem kt_138 : (Jvm.Cond.code (ex_Y 6) (ex_B 6) (ex_L 6) (ex_ret 6)) ∈ ex_tb := ex_in (i := 608) (by decide +kernel) (by decide +kernel)
theorem kw_6 : ex_Pm 6 := ⟨kt_138, kt_121, by decide +kernel, by decide +kernel, by decide +kernel, by decide +kernel, by decide +kernel⟩
theorem kt_139 : (Jvm.Cond.code (ex_Y 7) (ex_B 7) (ex_L 7) (ex_ret 7)) ∈ ex_tb := ex_in (i := 614) (by decide +kernel) (by decide +kernel)
theorem kw_7 : ex_Pm 7 := ⟨kt_139, kt_121, by decide +kernel, by decide +kernel, by decide +kernel, by decide +kernel, by decide +kernel⟩
theorem kt_140 : (Jvm.Cond.code (ex_Y 8) (ex_B 8) (ex_L 8) (ex_ret 8)) ∈ ex_tb := ex_in (i := 618) (by decide +kernel) (by decide +kernel)
theorem kw_8 : ex_Pm 8 := ⟨kt_140, kt_121, by decide +kernel, by decide +kernel, by decide +kernel, by decide +kernel, by decide +kernel⟩
theorem kt_141 : (Jvm.Cond.code (ex_Y 9) (ex_B 9) (ex_L 9) (ex_ret 9)) ∈ ex_tb := ex_in (i := 622) (by decide +kernel) (by decide +kernel)
theorem kw_9 : ex_Pm 9 := ⟨kt_141, kt_121, by decide +kernel, by decide +kernel, by decide +kernel, by decide +kernel, by decide +kernel⟩
theorem kt_142 : (Jvm.Cond.code (ex_Y 10) (ex_B 10) (ex_L 10) (ex_ret 10)) ∈ ex_tb := ex_in (i := 626) (by decide +kernel) (by decide +kernel)
theorem kw_10 : ex_Pm 10 := ⟨kt_142, kt_121, by decide +kernel, by decide +kernel, by decide +kernel, by decide +kernel, by decide +kernel⟩
theorem kt_143 : (Jvm.Cond.code (ex_Y 11) (ex_B 11) (ex_L 11) (ex_ret 11)) ∈ ex_tb := ex_in (i := 634) (by decide +kernel) (by decide +kernel)
theorem kw_11 : ex_Pm 11 := ⟨kt_143, kt_121, by decide +kernel, by decide +kernel, by decide +kernel, by decide +kernel, by decide +kernel⟩
theorem kt_144 : (Jvm.Cond.code (ex_Y 12) (ex_B 12) (ex_L 12) (ex_ret 12)) ∈ ex_tb := ex_in (i := 643) (by decide +kernel) (by decide +kernel)
theorem kw_12 : ex_Pm 12 := ⟨kt_144, kt_121, by decide +kernel, by decide +kernel, by decide +kernel, by decide +kernel, by decide +kernel⟩
theorem kt_145 : (Jvm.Cond.code (ex_Y 13) (ex_B 13) (ex_L 13) (ex_ret 13)) ∈ ex_tb := ex_in (i := 648) (by decide +kernel) (by decide +kernel)
theorem kw_13 : ex_Pm 13 := ⟨kt_145, kt_121, by decide +kernel, by decide +kernel, by decide +kernel, by decide +kernel, by decide +kernel⟩
theorem kt_146 : (Jvm.Cond.code (ex_Y 14) (ex_B 14) (ex_L 14) (ex_ret 14)) ∈ ex_tb := ex_in (i := 447) (by decide +kernel) (by decide +kernel)
theorem kw_14 : ex_Pm 14 := ⟨kt_146, kt_121, by decide +kernel, by decide +kernel, by decide +kernel, by decide +kernel, by decide +kernel⟩
theorem kt_147 : (Jvm.Cond.code (ex_Y 15) (ex_B 15) (ex_L 15) (ex_ret 15)) ∈ ex_tb := ex_in (i := 451) (by decide +kernel) (by decide +kernel)
theorem kw_15 : ex_Pm 15 := ⟨kt_147, kt_121, by decide +kernel, by decide +kernel, by decide +kernel, by decide +kernel, by decide +kernel⟩
theorem kt_148 : (Jvm.Cond.code (ex_Y 16) (ex_B 16) (ex_L 16) (ex_ret 16)) ∈ ex_tb := ex_in (i := 323) (by decide +kernel) (by decide +kernel)
theorem kw_16 : ex_Pm 16 := ⟨kt_148, kt_121, by decide +kernel, by decide +kernel, by decide +kernel, by decide +kernel, by decide +kernel⟩
theorem kt_149 : (Jvm.Cond.code (ex_Y 17) (ex_B 17) (ex_L 17) (ex_ret 17)) ∈ ex_tb := ex_in (i := 332) (by decide +kernel) (by decide +kernel)
theorem kw_17 : ex_Pm 17 := ⟨kt_149, kt_121, by decide +kernel, by decide +kernel, by decide +kernel, by decide +kernel, by decide +kernel⟩
theorem kt_150 : (Jvm.Cond.code (ex_Y 18) (ex_B 18) (ex_L 18) (ex_ret 18)) ∈ ex_tb := ex_in (i := 374) (by decide +kernel) (by decide +kernel)
theorem kw_18 : ex_Pm 18 := ⟨kt_150, kt_121, by decide +kernel, by decide +kernel, by decide +kernel, by decide +kernel, by decide +kernel⟩
theorem kt_151 : (Jvm.Cond.code (ex_Y 19) (ex_B 19) (ex_L 19) (ex_ret 19)) ∈ ex_tb := ex_in (i := 639) (by decide +kernel) (by decide +kernel)
theorem kw_19 : ex_Pm 19 := ⟨kt_151, kt_121, by decide +kernel, by decide +kernel, by decide +kernel, by decide +kernel, by decide +kernel⟩
theorem kt_152 : (Jvm.Cond.code (ex_Y 20) (ex_B 20) (ex_L 20) (ex_ret 20)) ∈ ex_tb := ex_in (i := 336) (by decide +kernel) (by decide +kernel)
theorem kw_20 : ex_Pm 20 := ⟨kt_152, kt_121, by decide +kernel, by decide +kernel, by decide +kernel, by decide +kernel, by decide +kernel⟩
theorem kt_153 : (Jvm.Cond.code (ex_Y 21) (ex_B 21) (ex_L 21) (ex_ret 21)) ∈ ex_tb := ex_in (i := 660) (by decide +kernel) (by decide +kernel)
theorem kw_21 : ex_Pm 21 := ⟨kt_153, kt_121, by decide +kernel, by decide +kernel, by decide +kernel, by decide +kernel, by decide +kernel⟩
theorem kt_154 : (Jvm.Cond.code (ex_Y 22) (ex_B 22) (ex_L 22) (ex_ret 22)) ∈ ex_tb := ex_in (i := 379) (by decide +kernel) (by decide +kernel)
theorem kw_22 : ex_Pm 22 := ⟨kt_154, kt_121, by decide +kernel, by decide +kernel, by decide +kernel, by decide +kernel, by decide +kernel⟩
theorem kt_155 : (Jvm.Cond.code (ex_Y 23) (ex_B 23) (ex_L 23) (ex_ret 23)) ∈ ex_tb := ex_in (i := 366) (by decide +kernel) (by decide +kernel)
theorem kw_23 : ex_Pm 23 := ⟨kt_155, kt_121, by decide +kernel, by decide +kernel, by decide +kernel, by decide +kernel, by decide +kernel⟩
theorem kt_156 : (Jvm.Cond.code (ex_Y 24) (ex_B 24) (ex_L 24) (ex_ret 24)) ∈ ex_tb := ex_in (i := 404) (by decide +kernel) (by decide +kernel)
theorem kw_24 : ex_Pm 24 := ⟨kt_156, kt_121, by decide +kernel, by decide +kernel, by decide +kernel, by decide +kernel, by decide +kernel⟩
theorem kt_157 : (Jvm.Cond.code (ex_Y 25) (ex_B 25) (ex_L 25) (ex_ret 25)) ∈ ex_tb := ex_in (i := 362) (by decide +kernel) (by decide +kernel)
theorem kw_25 : ex_Pm 25 := ⟨kt_157, kt_121, by decide +kernel, by decide +kernel, by decide +kernel, by decide +kernel, by decide +kernel⟩
theorem kt_158 : (Jvm.Cond.code (ex_Y 26) (ex_B 26) (ex_L 26) (ex_ret 26)) ∈ ex_tb := ex_in (i := 652) (by decide +kernel) (by decide +kernel)
theorem kw_26 : ex_Pm 26 := ⟨kt_158, kt_121, by decide +kernel, by decide +kernel, by decide +kernel, by decide +kernel, by decide +kernel⟩
theorem kt_159 : (Jvm.Cond.code (ex_Y 27) (ex_B 27) (ex_L 27) (ex_ret 27)) ∈ ex_tb := ex_in (i := 656) (by decide +kernel) (by decide +kernel)
theorem kw_27 : ex_Pm 27 := ⟨kt_159, kt_121, by decide +kernel, by decide +kernel, by decide +kernel, by decide +kernel, by decide +kernel⟩
theorem kt_160 : (Jvm.Cond.code (ex_Y 28) (ex_B 28) (ex_L 28) (ex_ret 28)) ∈ ex_tb := ex_in (i := 524) (by decide +kernel) (by decide +kernel)
theorem kw_28 : ex_Pm 28 := ⟨kt_160, kt_122, by decide +kernel, by decide +kernel, by decide +kernel, by decide +kernel, by decide +kernel⟩
theorem kt_161 : (Jvm.Cond.code (ex_Y 29) (ex_B 29) (ex_L 29) (ex_ret 29)) ∈ ex_tb := ex_in (i := 539) (by decide +kernel) (by decide +kernel)
theorem kw_29 : ex_Pm 29 := ⟨kt_161, kt_122, by decide +kernel, by decide +kernel, by decide +kernel, by decide +kernel, by decide +kernel⟩
theorem kt_162 : (Jvm.Cond.code (ex_Y 30) (ex_B 30) (ex_L 30) (ex_ret 30)) ∈ ex_tb := ex_in (i := 543) (by decide +kernel) (by decide +kernel)
theorem kw_30 : ex_Pm 30 := ⟨kt_162, kt_122, by decide +kernel, by decide +kernel, by decide +kernel, by decide +kernel, by decide +kernel⟩
theorem kt_163 : (Jvm.Cond.code (ex_Y 31) (ex_B 31) (ex_L 31) (ex_ret 31)) ∈ ex_tb := ex_in (i := 547) (by decide +kernel) (by decide +kernel)
theorem kw_31 : ex_Pm 31 := ⟨kt_163, kt_122, by decide +kernel, by decide +kernel, by decide +kernel, by decide +kernel, by decide +kernel⟩
theorem kt_164 : (Jvm.Cond.code (ex_Y 32) (ex_B 32) (ex_L 32) (ex_ret 32)) ∈ ex_tb := ex_in (i := 555) (by decide +kernel) (by decide +kernel)
theorem kw_32 : ex_Pm 32 := ⟨kt_164, kt_122, by decide +kernel, by decide +kernel, by decide +kernel, by decide +kernel, by decide +kernel⟩
theorem kt_165 : (Jvm.Cond.code (ex_Y 33) (ex_B 33) (ex_L 33) (ex_ret 33)) ∈ ex_tb := ex_in (i := 551) (by decide +kernel) (by decide +kernel)
theorem kw_33 : ex_Pm 33 := ⟨kt_165, kt_122, by decide +kernel, by decide +kernel, by decide +kernel, by decide +kernel, by decide +kernel⟩
theorem kt_166 : (Jvm.Cond.code (ex_Y 34) (ex_B 34) (ex_L 34) (ex_ret 34)) ∈ ex_tb := ex_in (i := 601) (by decide +kernel) (by decide +kernel)
theorem kw_34 : ex_Pm 34 := ⟨kt_166, kt_122, by decide +kernel, by decide +kernel, by decide +kernel, by decide +kernel, by decide +kernel⟩
theorem kt_167 : (Jvm.Cond.code (ex_Y 35) (ex_B 35) (ex_L 35) (ex_ret 35)) ∈ ex_tb := ex_in (i := 527) (by decide +kernel) (by decide +kernel)
theorem kw_35 : ex_Pm 35 := ⟨kt_167, kt_124, by decide +kernel, by decide +kernel, by decide +kernel, by decide +kernel, by decide +kernel⟩
theorem kt_168 : (Jvm.Cond.code (ex_Y 36) (ex_B 36) (ex_L 36) (ex_ret 36)) ∈ ex_tb := ex_in (i := 558) (by decide +kernel) (by decide +kernel)
theorem kw_36 : ex_Pm 36 := ⟨kt_168, kt_124, by decide +kernel, by decide +kernel, by decide +kernel, by decide +kernel, by decide +kernel⟩
theorem kt_169 : (Jvm.Cond.code (ex_Y 37) (ex_B 37) (ex_L 37) (ex_ret 37)) ∈ ex_tb := ex_in (i := 562) (by decide +kernel) (by decide +kernel)
theorem kw_37 : ex_Pm 37 := ⟨kt_169, kt_124, by decide +kernel, by decide +kernel, by decide +kernel, by decide +kernel, by decide +kernel⟩
theorem kt_170 : (Jvm.Cond.code (ex_Y 38) (ex_B 38) (ex_L 38) (ex_ret 38)) ∈ ex_tb := ex_in (i := 566) (by decide +kernel) (by decide +kernel)
theorem kw_38 : ex_Pm 38 := ⟨kt_170, kt_124, by decide +kernel, by decide +kernel, by decide +kernel, by decide +kernel, by decide +kernel⟩
theorem kt_171 : (Jvm.Cond.code (ex_Y 39) (ex_B 39) (ex_L 39) (ex_ret 39)) ∈ ex_tb := ex_in (i := 570) (by decide +kernel) (by decide +kernel)
theorem kw_39 : ex_Pm 39 := ⟨kt_171, kt_124, by decide +kernel, by decide +kernel, by decide +kernel, by decide +kernel, by decide +kernel⟩
theorem kt_172 : (Jvm.Cond.code (ex_Y 40) (ex_B 40) (ex_L 40) (ex_ret 40)) ∈ ex_tb := ex_in (i := 578) (by decide +kernel) (by decide +kernel)
theorem kw_40 : ex_Pm 40 := ⟨kt_172, kt_124, by decide +kernel, by decide +kernel, by decide +kernel, by decide +kernel, by decide +kernel⟩
theorem kt_173 : (Jvm.Cond.code (ex_Y 41) (ex_B 41) (ex_L 41) (ex_ret 41)) ∈ ex_tb := ex_in (i := 574) (by decide +kernel) (by decide +kernel)
theorem kw_41 : ex_Pm 41 := ⟨kt_173, kt_124, by decide +kernel, by decide +kernel, by decide +kernel, by decide +kernel, by decide +kernel⟩
theorem kt_174 : (Jvm.Cond.code (ex_Y 42) (ex_B 42) (ex_L 42) (ex_ret 42)) ∈ ex_tb := ex_in (i := 581) (by decide +kernel) (by decide +kernel)
theorem kw_42 : ex_Pm 42 := ⟨kt_174, kt_124, by decide +kernel, by decide +kernel, by decide +kernel, by decide +kernel, by decide +kernel⟩
theorem kt_175 : (Jvm.Cond.code (ex_Y 43) (ex_B 43) (ex_L 43) (ex_ret 43)) ∈ ex_tb := ex_in (i := 604) (by decide +kernel) (by decide +kernel)
theorem kw_43 : ex_Pm 43 := ⟨kt_175, kt_124, by decide +kernel, by decide +kernel, by decide +kernel, by decide +kernel, by decide +kernel⟩
theorem kt_176 : (Jvm.Cond.code (ex_Y 44) (ex_B 44) (ex_L 44) (ex_ret 44)) ∈ ex_tb := ex_in (i := 699) (by decide +kernel) (by decide +kernel)
theorem kw_44 : ex_Pm 44 := ⟨kt_176, kt_124, by decide +kernel, by decide +kernel, by decide +kernel, by decide +kernel, by decide +kernel⟩
theorem kt_177 : (Jvm.Cond.code (ex_Y 45) (ex_B 45) (ex_L 45) (ex_ret 45)) ∈ ex_tb := ex_in (i := 315) (by decide +kernel) (by decide +kernel)
theorem kw_45 : ex_Pm 45 := ⟨kt_177, kt_125, by decide +kernel, by decide +kernel, by decide +kernel, by decide +kernel, by decide +kernel⟩
theorem kt_178 : (Jvm.Cond.code (ex_Y 46) (ex_B 46) (ex_L 46) (ex_ret 46)) ∈ ex_tb := ex_in (i := 292) (by decide +kernel) (by decide +kernel)
theorem kw_46 : ex_Pm 46 := ⟨kt_178, kt_125, by decide +kernel, by decide +kernel, by decide +kernel, by decide +kernel, by decide +kernel⟩
theorem kt_179 : (Jvm.Cond.code (ex_Y 47) (ex_B 47) (ex_L 47) (ex_ret 47)) ∈ ex_tb := ex_in (i := 690) (by decide +kernel) (by decide +kernel)
theorem kw_47 : ex_Pm 47 := ⟨kt_179, kt_125, by decide +kernel, by decide +kernel, by decide +kernel, by decide +kernel, by decide +kernel⟩
theorem kt_180 : (Jvm.Cond.code (ex_Y 48) (ex_B 48) (ex_L 48) (ex_ret 48)) ∈ ex_tb := ex_in (i := 695) (by decide +kernel) (by decide +kernel)
theorem kw_48 : ex_Pm 48 := ⟨kt_180, kt_125, by decide +kernel, by decide +kernel, by decide +kernel, by decide +kernel, by decide +kernel⟩
theorem kt_181 : (Jvm.Cond.code (ex_Y 49) (ex_B 49) (ex_L 49) (ex_ret 49)) ∈ ex_tb := ex_in (i := 303) (by decide +kernel) (by decide +kernel)
theorem kw_49 : ex_Pm 49 := ⟨kt_181, kt_125, by decide +kernel, by decide +kernel, by decide +kernel, by decide +kernel, by decide +kernel⟩
theorem kt_182 : (Jvm.Cond.code (ex_Y 50) (ex_B 50) (ex_L 50) (ex_ret 50)) ∈ ex_tb := ex_in (i := 390) (by decide +kernel) (by decide +kernel)
theorem kw_50 : ex_Pm 50 := ⟨kt_182, kt_125, by decide +kernel, by decide +kernel, by decide +kernel, by decide +kernel, by decide +kernel⟩
theorem kt_183 : (Jvm.Cond.code (ex_Y 51) (ex_B 51) (ex_L 51) (ex_ret 51)) ∈ ex_tb := ex_in (i := 394) (by decide +kernel) (by decide +kernel)
theorem kw_51 : ex_Pm 51 := ⟨kt_183, kt_125, by decide +kernel, by decide +kernel, by decide +kernel, by decide +kernel, by decide +kernel⟩
theorem kt_184 : (Jvm.Cond.code (ex_Y 52) (ex_B 52) (ex_L 52) (ex_ret 52)) ∈ ex_tb := ex_in (i := 398) (by decide +kernel) (by decide +kernel)
theorem kw_52 : ex_Pm 52 := ⟨kt_184, kt_125, by decide +kernel, by decide +kernel, by decide +kernel, by decide +kernel, by decide +kernel⟩
theorem kt_185 : (Jvm.Cond.code (ex_Y 53) (ex_B 53) (ex_L 53) (ex_ret 53)) ∈ ex_tb := ex_in (i := 501) (by decide +kernel) (by decide +kernel)
theorem kw_53 : ex_Pm 53 := ⟨kt_185, kt_127, by decide +kernel, by decide +kernel, by decide +kernel, by decide +kernel, by decide +kernel⟩
theorem kt_186 : (Jvm.Cond.code (ex_Y 54) (ex_B 54) (ex_L 54) (ex_ret 54)) ∈ ex_tb := ex_in (i := 504) (by decide +kernel) (by decide +kernel)
theorem kw_54 : ex_Pm 54 := ⟨kt_186, kt_127, by decide +kernel, by decide +kernel, by decide +kernel, by decide +kernel, by decide +kernel⟩
theorem kt_187 : (Jvm.Cond.code (ex_Y 55) (ex_B 55) (ex_L 55) (ex_ret 55)) ∈ ex_tb := ex_in (i := 508) (by decide +kernel) (by decide +kernel)
theorem kw_55 : ex_Pm 55 := ⟨kt_187, kt_127, by decide +kernel, by decide +kernel, by decide +kernel, by decide +kernel, by decide +kernel⟩
theorem kt_188 : (Jvm.Cond.code (ex_Y 56) (ex_B 56) (ex_L 56) (ex_ret 56)) ∈ ex_tb := ex_in (i := 483) (by decide +kernel) (by decide +kernel)
theorem kw_56 : ex_Pm 56 := ⟨kt_188, kt_127, by decide +kernel, by decide +kernel, by decide +kernel, by decide +kernel, by decide +kernel⟩
theorem kt_189 : (Jvm.Cond.code (ex_Y 57) (ex_B 57) (ex_L 57) (ex_ret 57)) ∈ ex_tb := ex_in (i := 532) (by decide +kernel) (by decide +kernel)
theorem kw_57 : ex_Pm 57 := ⟨kt_189, kt_127, by decide +kernel, by decide +kernel, by decide +kernel, by decide +kernel, by decide +kernel⟩
theorem kt_190 : (Jvm.Cond.code (ex_Y 58) (ex_B 58) (ex_L 58) (ex_ret 58)) ∈ ex_tb := ex_in (i := 665) (by decide +kernel) (by decide +kernel)
theorem kw_58 : ex_Pm 58 := ⟨kt_190, kt_127, by decide +kernel, by decide +kernel, by decide +kernel, by decide +kernel, by decide +kernel⟩
theorem kt_191 : (Jvm.Cond.code (ex_Y 59) (ex_B 59) (ex_L 59) (ex_ret 59)) ∈ ex_tb := ex_in (i := 296) (by decide +kernel) (by decide +kernel)
theorem kw_59 : ex_Pm 59 := ⟨kt_191, kt_128, by decide +kernel, by decide +kernel, by decide +kernel, by decide +kernel, by decide +kernel⟩
theorem kt_192 : (Jvm.Cond.code (ex_Y 60) (ex_B 60) (ex_L 60) (ex_ret 60)) ∈ ex_tb := ex_in (i := 413) (by decide +kernel) (by decide +kernel)
theorem kw_60 : ex_Pm 60 := ⟨kt_192, kt_128, by decide +kernel, by decide +kernel, by decide +kernel, by decide +kernel, by decide +kernel⟩
theorem kt_193 : (Jvm.Cond.code (ex_Y 61) (ex_B 61) (ex_L 61) (ex_ret 61)) ∈ ex_tb := ex_in (i := 417) (by decide +kernel) (by decide +kernel)
theorem kw_61 : ex_Pm 61 := ⟨kt_193, kt_128, by decide +kernel, by decide +kernel, by decide +kernel, by decide +kernel, by decide +kernel⟩
theorem kt_194 : (Jvm.Cond.code (ex_Y 62) (ex_B 62) (ex_L 62) (ex_ret 62)) ∈ ex_tb := ex_in (i := 307) (by decide +kernel) (by decide +kernel)
theorem kw_62 : ex_Pm 62 := ⟨kt_194, kt_128, by decide +kernel, by decide +kernel, by decide +kernel, by decide +kernel, by decide +kernel⟩
theorem kt_195 : (Jvm.Cond.code (ex_Y 63) (ex_B 63) (ex_L 63) (ex_ret 63)) ∈ ex_tb := ex_in (i := 422) (by decide +kernel) (by decide +kernel)
theorem kw_63 : ex_Pm 63 := ⟨kt_195, kt_128, by decide +kernel, by decide +kernel, by decide +kernel, by decide +kernel, by decide +kernel⟩
theorem kt_196 : (Jvm.Cond.code (ex_Y 64) (ex_B 64) (ex_L 64) (ex_ret 64)) ∈ ex_tb := ex_in (i := 673) (by decide +kernel) (by decide +kernel)
theorem kw_64 : ex_Pm 64 := ⟨kt_196, kt_128, by decide +kernel, by decide +kernel, by decide +kernel, by decide +kernel, by decide +kernel⟩
theorem kt_197 : (Jvm.Cond.code (ex_Y 65) (ex_B 65) (ex_L 65) (ex_ret 65)) ∈ ex_tb := ex_in (i := 518) (by decide +kernel) (by decide +kernel)
theorem kw_65 : ex_Pm 65 := ⟨kt_197, kt_129, by decide +kernel, by decide +kernel, by decide +kernel, by decide +kernel, by decide +kernel⟩
theorem kt_198 : (Jvm.Cond.code (ex_Y 66) (ex_B 66) (ex_L 66) (ex_ret 66)) ∈ ex_tb := ex_in (i := 594) (by decide +kernel) (by decide +kernel)
theorem kw_66 : ex_Pm 66 := ⟨kt_198, kt_129, by decide +kernel, by decide +kernel, by decide +kernel, by decide +kernel, by decide +kernel⟩
theorem kt_199 : (Jvm.Cond.code (ex_Y 67) (ex_B 67) (ex_L 67) (ex_ret 67)) ∈ ex_tb := ex_in (i := 498) (by decide +kernel) (by decide +kernel)
theorem kw_67 : ex_Pm 67 := ⟨kt_199, kt_130, by decide +kernel, by decide +kernel, by decide +kernel, by decide +kernel, by decide +kernel⟩
theorem kt_200 : (Jvm.Cond.code (ex_Y 68) (ex_B 68) (ex_L 68) (ex_ret 68)) ∈ ex_tb := ex_in (i := 512) (by decide +kernel) (by decide +kernel)
theorem kw_68 : ex_Pm 68 := ⟨kt_200, kt_130, by decide +kernel, by decide +kernel, by decide +kernel, by decide +kernel, by decide +kernel⟩
theorem kt_201 : (Jvm.Cond.code (ex_Y 69) (ex_B 69) (ex_L 69) (ex_ret 69)) ∈ ex_tb := ex_in (i := 588) (by decide +kernel) (by decide +kernel)
theorem kw_69 : ex_Pm 69 := ⟨kt_201, kt_130, by decide +kernel, by decide +kernel, by decide +kernel, by decide +kernel, by decide +kernel⟩
theorem kt_202 : (Jvm.Cond.code (ex_Y 70) (ex_B 70) (ex_L 70) (ex_ret 70)) ∈ ex_tb := ex_in (i := 683) (by decide +kernel) (by decide +kernel)
theorem kw_70 : ex_Pm 70 := ⟨kt_202, kt_130, by decide +kernel, by decide +kernel, by decide +kernel, by decide +kernel, by decide +kernel⟩
theorem kt_203 : (Jvm.Cond.code (ex_Y 71) (ex_B 71) (ex_L 71) (ex_ret 71)) ∈ ex_tb := ex_in (i := 288) (by decide +kernel) (by decide +kernel)
theorem kw_71 : ex_Pm 71 := ⟨kt_203, kt_130, by decide +kernel, by decide +kernel, by decide +kernel, by decide +kernel, by decide +kernel⟩
theorem kt_204 : (Jvm.Cond.code (ex_Y 72) (ex_B 72) (ex_L 72) (ex_ret 72)) ∈ ex_tb := ex_in (i := 312) (by decide +kernel) (by decide +kernel)
theorem kw_72 : ex_Pm 72 := ⟨kt_204, kt_130, by decide +kernel, by decide +kernel, by decide +kernel, by decide +kernel, by decide +kernel⟩
theorem kt_205 : (Jvm.Cond.code (ex_Y 73) (ex_B 73) (ex_L 73) (ex_ret 73)) ∈ ex_tb := ex_in (i := 319) (by decide +kernel) (by decide +kernel)
theorem kw_73 : ex_Pm 73 := ⟨kt_205, kt_130, by decide +kernel, by decide +kernel, by decide +kernel, by decide +kernel, by decide +kernel⟩
theorem kt_206 : (Jvm.Cond.code (ex_Y 74) (ex_B 74) (ex_L 74) (ex_ret 74)) ∈ ex_tb := ex_in (i := 370) (by decide +kernel) (by decide +kernel)
theorem kw_74 : ex_Pm 74 := ⟨kt_206, kt_130, by decide +kernel, by decide +kernel, by decide +kernel, by decide +kernel, by decide +kernel⟩
theorem kt_207 : (Jvm.Cond.code (ex_Y 75) (ex_B 75) (ex_L 75) (ex_ret 75)) ∈ ex_tb := ex_in (i := 383) (by decide +kernel) (by decide +kernel)
theorem kw_75 : ex_Pm 75 := ⟨kt_207, kt_130, by decide +kernel, by decide +kernel, by decide +kernel, by decide +kernel, by decide +kernel⟩
theorem kt_208 : (Jvm.Cond.code (ex_Y 76) (ex_B 76) (ex_L 76) (ex_ret 76)) ∈ ex_tb := ex_in (i := 409) (by decide +kernel) (by decide +kernel)
theorem kw_76 : ex_Pm 76 := ⟨kt_208, kt_130, by decide +kernel, by decide +kernel, by decide +kernel, by decide +kernel, by decide +kernel⟩
theorem kt_209 : (Jvm.Cond.code (ex_Y 77) (ex_B 77) (ex_L 77) (ex_ret 77)) ∈ ex_tb := ex_in (i := 426) (by decide +kernel) (by decide +kernel)
theorem kw_77 : ex_Pm 77 := ⟨kt_209, kt_130, by decide +kernel, by decide +kernel, by decide +kernel, by decide +kernel, by decide +kernel⟩
theorem kt_210 : (Jvm.Cond.code (ex_Y 78) (ex_B 78) (ex_L 78) (ex_ret 78)) ∈ ex_tb := ex_in (i := 443) (by decide +kernel) (by decide +kernel)
theorem kw_78 : ex_Pm 78 := ⟨kt_210, kt_130, by decide +kernel, by decide +kernel, by decide +kernel, by decide +kernel, by decide +kernel⟩
theorem kt_211 : (Jvm.Cond.code (ex_Y 79) (ex_B 79) (ex_L 79) (ex_ret 79)) ∈ ex_tb := ex_in (i := 459) (by decide +kernel) (by decide +kernel)
theorem kw_79 : ex_Pm 79 := ⟨kt_211, kt_130, by decide +kernel, by decide +kernel, by decide +kernel, by decide +kernel, by decide +kernel⟩
theorem kt_212 : (Jvm.Cond.code (ex_Y 80) (ex_B 80) (ex_L 80) (ex_ret 80)) ∈ ex_tb := ex_in (i := 463) (by decide +kernel) (by decide +kernel)
theorem kw_80 : ex_Pm 80 := ⟨kt_212, kt_130, by decide +kernel, by decide +kernel, by decide +kernel, by decide +kernel, by decide +kernel⟩
theorem kt_213 : (Jvm.Cond.code (ex_Y 81) (ex_B 81) (ex_L 81) (ex_ret 81)) ∈ ex_tb := ex_in (i := 467) (by decide +kernel) (by decide +kernel)
theorem kw_81 : ex_Pm 81 := ⟨kt_213, kt_130, by decide +kernel, by decide +kernel, by decide +kernel, by decide +kernel, by decide +kernel⟩
theorem kt_214 : (Jvm.Cond.code (ex_Y 82) (ex_B 82) (ex_L 82) (ex_ret 82)) ∈ ex_tb := ex_in (i := 479) (by decide +kernel) (by decide +kernel)
theorem kw_82 : ex_Pm 82 := ⟨kt_214, kt_130, by decide +kernel, by decide +kernel, by decide +kernel, by decide +kernel, by decide +kernel⟩
theorem kt_215 : (Jvm.Cond.code (ex_Y 83) (ex_B 83) (ex_L 83) (ex_ret 83)) ∈ ex_tb := ex_in (i := 299) (by decide +kernel) (by decide +kernel)
theorem kw_83 : ex_Pm 83 := ⟨kt_215, kt_130, by decide +kernel, by decide +kernel, by decide +kernel, by decide +kernel, by decide +kernel⟩
theorem kt_216 : (Jvm.Cond.code (ex_Y 84) (ex_B 84) (ex_L 84) (ex_ret 84)) ∈ ex_tb := ex_in (i := 386) (by decide +kernel) (by decide +kernel)
theorem kw_84 : ex_Pm 84 := ⟨kt_216, kt_130, by decide +kernel, by decide +kernel, by decide +kernel, by decide +kernel, by decide +kernel⟩
theorem kt_217 : (Jvm.Cond.code (ex_Y 85) (ex_B 85) (ex_L 85) (ex_ret 85)) ∈ ex_tb := ex_in (i := 439) (by decide +kernel) (by decide +kernel)
theorem kw_85 : ex_Pm 85 := ⟨kt_217, kt_130, by decide +kernel, by decide +kernel, by decide +kernel, by decide +kernel, by decide +kernel⟩
theorem kt_218 : (Jvm.Cond.code (ex_Y 86) (ex_B 86) (ex_L 86) (ex_ret 86)) ∈ ex_tb := ex_in (i := 328) (by decide +kernel) (by decide +kernel)
theorem kw_86 : ex_Pm 86 := ⟨kt_218, kt_130, by decide +kernel, by decide +kernel, by decide +kernel, by decide +kernel, by decide +kernel⟩
theorem kt_219 : (Jvm.Cond.code (ex_Y 87) (ex_B 87) (ex_L 87) (ex_ret 87)) ∈ ex_tb := ex_in (i := 436) (by decide +kernel) (by decide +kernel)
theorem kw_87 : ex_Pm 87 := ⟨kt_219, kt_130, by decide +kernel, by decide +kernel, by decide +kernel, by decide +kernel, by decide +kernel⟩
theorem kt_220 : (Jvm.Cond.code (ex_Y 88) (ex_B 88) (ex_L 88) (ex_ret 88)) ∈ ex_tb := ex_in (i := 430) (by decide +kernel) (by decide +kernel)
theorem kw_88 : ex_Pm 88 := ⟨kt_220, kt_130, by decide +kernel, by decide +kernel, by decide +kernel, by decide +kernel, by decide +kernel⟩
theorem kt_221 : (Jvm.Cond.code (ex_Y 89) (ex_B 89) (ex_L 89) (ex_ret 89)) ∈ ex_tb := ex_in (i := 455) (by decide +kernel) (by decide +kernel)
theorem kw_89 : ex_Pm 89 := ⟨kt_221, kt_130, by decide +kernel, by decide +kernel, by decide +kernel, by decide +kernel, by decide +kernel⟩
theorem kt_222 : (Jvm.Cond.code (ex_Y 90) (ex_B 90) (ex_L 90) (ex_ret 90)) ∈ ex_tb := ex_in (i := 471) (by decide +kernel) (by decide +kernel)
theorem kw_90 : ex_Pm 90 := ⟨kt_222, kt_130, by decide +kernel, by decide +kernel, by decide +kernel, by decide +kernel, by decide +kernel⟩
theorem kt_223 : (Jvm.Cond.code (ex_Y 91) (ex_B 91) (ex_L 91) (ex_ret 91)) ∈ ex_tb := ex_in (i := 475) (by decide +kernel) (by decide +kernel)
theorem kw_91 : ex_Pm 91 := ⟨kt_223, kt_130, by decide +kernel, by decide +kernel, by decide +kernel, by decide +kernel, by decide +kernel⟩
theorem kt_224 : (Jvm.Cond.code (ex_Y 92) (ex_B 92) (ex_L 92) (ex_ret 92)) ∈ ex_tb := ex_in (i := 486) (by decide +kernel) (by decide +kernel)
theorem kw_92 : ex_Pm 92 := ⟨kt_224, kt_131, by decide +kernel, by decide +kernel, by decide +kernel, by decide +kernel, by decide +kernel⟩
theorem kt_225 : (Jvm.Cond.code (ex_Y 93) (ex_B 93) (ex_L 93) (ex_ret 93)) ∈ ex_tb := ex_in (i := 494) (by decide +kernel) (by decide +kernel)
theorem kw_93 : ex_Pm 93 := ⟨kt_225, kt_131, by decide +kernel, by decide +kernel, by decide +kernel, by decide +kernel, by decide +kernel⟩
theorem kt_226 : (Jvm.Cond.code (ex_Y 94) (ex_B 94) (ex_L 94) (ex_ret 94)) ∈ ex_tb := ex_in (i := 679) (by decide +kernel) (by decide +kernel)
theorem kw_94 : ex_Pm 94 := ⟨kt_226, kt_131, by decide +kernel, by decide +kernel, by decide +kernel, by decide +kernel, by decide +kernel⟩
theorem kt_227 : (Jvm.Cond.code (ex_Y 95) (ex_B 95) (ex_L 95) (ex_ret 95)) ∈ ex_tb := ex_in (i := 490) (by decide +kernel) (by decide +kernel)
theorem kw_95 : ex_Pm 95 := ⟨kt_227, kt_131, by decide +kernel, by decide +kernel, by decide +kernel, by decide +kernel, by decide +kernel⟩
theorem kt_228 : (Jvm.Cond.code (ex_Y 96) (ex_B 96) (ex_L 96) (ex_ret 96)) ∈ ex_tb := ex_in (i := 676) (by decide +kernel) (by decide +kernel)
theorem kw_96 : ex_Pm 96 := ⟨kt_228, kt_131, by decide +kernel, by decide +kernel, by decide +kernel, by decide +kernel, by decide +kernel⟩
theorem kt_229 : (Jvm.Cond.code (ex_Y 97) (ex_B 97) (ex_L 97) (ex_ret 97)) ∈ ex_tb := ex_in (i := 706) (by decide +kernel) (by decide +kernel)
theorem kw_97 : ex_Pm 97 := ⟨kt_229, kt_131, by decide +kernel, by decide +kernel, by decide +kernel, by decide +kernel, by decide +kernel⟩
theorem kt_230 : (Jvm.Cond.code (ex_Y 98) (ex_B 98) (ex_L 98) (ex_ret 98)) ∈ ex_tb := ex_in (i := 703) (by decide +kernel) (by decide +kernel)
theorem kw_98 : ex_Pm 98 := ⟨kt_230, kt_131, by decide +kernel, by decide +kernel, by decide +kernel, by decide +kernel, by decide +kernel⟩
theorem kt_231 : (Jvm.Cond.code (ex_Y 99) (ex_B 99) (ex_L 99) (ex_ret 99)) ∈ ex_tb := ex_in (i := 709) (by decide +kernel) (by decide +kernel)
theorem kw_99 : ex_Pm 99 := ⟨kt_231, kt_131, by decide +kernel, by decide +kernel, by decide +kernel, by decide +kernel, by decide +kernel⟩
theorem kt_232 : (Jvm.Cond.code (ex_Y 100) (ex_B 100) (ex_L 100) (ex_ret 100)) ∈ ex_tb := ex_in (i := 715) (by decide +kernel) (by decide +kernel)
theorem kw_100 : ex_Pm 100 := ⟨kt_232, kt_131, by decide +kernel, by decide +kernel, by decide +kernel, by decide +kernel, by decide +kernel⟩
theorem kt_233 : (Jvm.Cond.code (ex_Y 101) (ex_B 101) (ex_L 101) (ex_ret 101)) ∈ ex_tb := ex_in (i := 712) (by decide +kernel) (by decide +kernel)
theorem kw_101 : ex_Pm 101 := ⟨kt_233, kt_131, by decide +kernel, by decide +kernel, by decide +kernel, by decide +kernel, by decide +kernel⟩
theorem kt_234 : (Jvm.Cond.code (ex_Y 102) (ex_B 102) (ex_L 102) (ex_ret 102)) ∈ ex_tb := ex_in (i := 718) (by decide +kernel) (by decide +kernel)
theorem kw_102 : ex_Pm 102 := ⟨kt_234, kt_131, by decide +kernel, by decide +kernel, by decide +kernel, by decide +kernel, by decide +kernel⟩
theorem kt_235 : (Jvm.Cond.code (ex_Y 103) (ex_B 103) (ex_L 103) (ex_ret 103)) ∈ ex_tb := ex_in (i := 721) (by decide +kernel) (by decide +kernel)
theorem kw_103 : ex_Pm 103 := ⟨kt_235, kt_131, by decide +kernel, by decide +kernel, by decide +kernel, by decide +kernel, by decide +kernel⟩
theorem kw_all {y : Nat} (hy : y < 104) : ex_Pm y := by
  rcases Nat.eq_or_lt_of_le (show 0 ≤ y from Nat.zero_le y) with h | h0
  · subst h; exact kw_0
  rcases Nat.eq_or_lt_of_le (show 1 ≤ y from h0) with h | h1
  · subst h; exact kw_1
  rcases Nat.eq_or_lt_of_le (show 2 ≤ y from h1) with h | h2
  · subst h; exact kw_2
  rcases Nat.eq_or_lt_of_le (show 3 ≤ y from h2) with h | h3
  · subst h; exact kw_3
  rcases Nat.eq_or_lt_of_le (show 4 ≤ y from h3) with h | h4
  · subst h; exact kw_4
  rcases Nat.eq_or_lt_of_le (show 5 ≤ y from h4) with h | h5
  · subst h; exact kw_5
  rcases Nat.eq_or_lt_of_le (show 6 ≤ y from h5) with h | h6
  · subst h; exact kw_6
  rcases Nat.eq_or_lt_of_le (show 7 ≤ y from h6) with h | h7
  · subst h; exact kw_7
  rcases Nat.eq_or_lt_of_le (show 8 ≤ y from h7) with h | h8
  · subst h; exact kw_8
  rcases Nat.eq_or_lt_of_le (show 9 ≤ y from h8) with h | h9
  · subst h; exact kw_9
  rcases Nat.eq_or_lt_of_le (show 10 ≤ y from h9) with h | h10
  · subst h; exact kw_10
  rcases Nat.eq_or_lt_of_le (show 11 ≤ y from h10) with h | h11
  · subst h; exact kw_11
  rcases Nat.eq_or_lt_of_le (show 12 ≤ y from h11) with h | h12
  · subst h; exact kw_12
  rcases Nat.eq_or_lt_of_le (show 13 ≤ y from h12) with h | h13
  · subst h; exact kw_13
  rcases Nat.eq_or_lt_of_le (show 14 ≤ y from h13) with h | h14
  · subst h; exact kw_14
  rcases Nat.eq_or_lt_of_le (show 15 ≤ y from h14) with h | h15
  · subst h; exact kw_15
  rcases Nat.eq_or_lt_of_le (show 16 ≤ y from h15) with h | h16
  · subst h; exact kw_16
  rcases Nat.eq_or_lt_of_le (show 17 ≤ y from h16) with h | h17
  · subst h; exact kw_17
  rcases Nat.eq_or_lt_of_le (show 18 ≤ y from h17) with h | h18
  · subst h; exact kw_18
  rcases Nat.eq_or_lt_of_le (show 19 ≤ y from h18) with h | h19
  · subst h; exact kw_19
  rcases Nat.eq_or_lt_of_le (show 20 ≤ y from h19) with h | h20
  · subst h; exact kw_20
  rcases Nat.eq_or_lt_of_le (show 21 ≤ y from h20) with h | h21
  · subst h; exact kw_21
  rcases Nat.eq_or_lt_of_le (show 22 ≤ y from h21) with h | h22
  · subst h; exact kw_22
  rcases Nat.eq_or_lt_of_le (show 23 ≤ y from h22) with h | h23
  · subst h; exact kw_23
  rcases Nat.eq_or_lt_of_le (show 24 ≤ y from h23) with h | h24
  · subst h; exact kw_24
  rcases Nat.eq_or_lt_of_le (show 25 ≤ y from h24) with h | h25
  · subst h; exact kw_25
  rcases Nat.eq_or_lt_of_le (show 26 ≤ y from h25) with h | h26
  · subst h; exact kw_26
  rcases Nat.eq_or_lt_of_le (show 27 ≤ y from h26) with h | h27
  · subst h; exact kw_27
  rcases Nat.eq_or_lt_of_le (show 28 ≤ y from h27) with h | h28
  · subst h; exact kw_28
  rcases Nat.eq_or_lt_of_le (show 29 ≤ y from h28) with h | h29
  · subst h; exact kw_29
  rcases Nat.eq_or_lt_of_le (show 30 ≤ y from h29) with h | h30
  · subst h; exact kw_30
  rcases Nat.eq_or_lt_of_le (show 31 ≤ y from h30) with h | h31
  · subst h; exact kw_31
  rcases Nat.eq_or_lt_of_le (show 32 ≤ y from h31) with h | h32
  · subst h; exact kw_32
  rcases Nat.eq_or_lt_of_le (show 33 ≤ y from h32) with h | h33
  · subst h; exact kw_33
  rcases Nat.eq_or_lt_of_le (show 34 ≤ y from h33) with h | h34
  · subst h; exact kw_34
  rcases Nat.eq_or_lt_of_le (show 35 ≤ y from h34) with h | h35
  · subst h; exact kw_35
  rcases Nat.eq_or_lt_of_le (show 36 ≤ y from h35) with h | h36
  · subst h; exact kw_36
  rcases Nat.eq_or_lt_of_le (show 37 ≤ y from h36) with h | h37
  · subst h; exact kw_37
  rcases Nat.eq_or_lt_of_le (show 38 ≤ y from h37) with h | h38
  · subst h; exact kw_38
  rcases Nat.eq_or_lt_of_le (show 39 ≤ y from h38) with h | h39
  · subst h; exact kw_39
  rcases Nat.eq_or_lt_of_le (show 40 ≤ y from h39) with h | h40
  · subst h; exact kw_40
  rcases Nat.eq_or_lt_of_le (show 41 ≤ y from h40) with h | h41
  · subst h; exact kw_41
  rcases Nat.eq_or_lt_of_le (show 42 ≤ y from h41) with h | h42
  · subst h; exact kw_42
  rcases Nat.eq_or_lt_of_le (show 43 ≤ y from h42) with h | h43
  · subst h; exact kw_43
  rcases Nat.eq_or_lt_of_le (show 44 ≤ y from h43) with h | h44
  · subst h; exact kw_44
  rcases Nat.eq_or_lt_of_le (show 45 ≤ y from h44) with h | h45
  · subst h; exact kw_45
  rcases Nat.eq_or_lt_of_le (show 46 ≤ y from h45) with h | h46
  · subst h; exact kw_46
  rcases Nat.eq_or_lt_of_le (show 47 ≤ y from h46) with h | h47
  · subst h; exact kw_47
  rcases Nat.eq_or_lt_of_le (show 48 ≤ y from h47) with h | h48
  · subst h; exact kw_48
  rcases Nat.eq_or_lt_of_le (show 49 ≤ y from h48) with h | h49
  · subst h; exact kw_49
  rcases Nat.eq_or_lt_of_le (show 50 ≤ y from h49) with h | h50
  · subst h; exact kw_50
  rcases Nat.eq_or_lt_of_le (show 51 ≤ y from h50) with h | h51
  · subst h; exact kw_51
  rcases Nat.eq_or_lt_of_le (show 52 ≤ y from h51) with h | h52
  · subst h; exact kw_52
  rcases Nat.eq_or_lt_of_le (show 53 ≤ y from h52) with h | h53
  · subst h; exact kw_53
  rcases Nat.eq_or_lt_of_le (show 54 ≤ y from h53) with h | h54
  · subst h; exact kw_54
  rcases Nat.eq_or_lt_of_le (show 55 ≤ y from h54) with h | h55
  · subst h; exact kw_55
  rcases Nat.eq_or_lt_of_le (show 56 ≤ y from h55) with h | h56
  · subst h; exact kw_56
  rcases Nat.eq_or_lt_of_le (show 57 ≤ y from h56) with h | h57
  · subst h; exact kw_57
  rcases Nat.eq_or_lt_of_le (show 58 ≤ y from h57) with h | h58
  · subst h; exact kw_58
  rcases Nat.eq_or_lt_of_le (show 59 ≤ y from h58) with h | h59
  · subst h; exact kw_59
  rcases Nat.eq_or_lt_of_le (show 60 ≤ y from h59) with h | h60
  · subst h; exact kw_60
  rcases Nat.eq_or_lt_of_le (show 61 ≤ y from h60) with h | h61
  · subst h; exact kw_61
  rcases Nat.eq_or_lt_of_le (show 62 ≤ y from h61) with h | h62
  · subst h; exact kw_62
  rcases Nat.eq_or_lt_of_le (show 63 ≤ y from h62) with h | h63
  · subst h; exact kw_63
  rcases Nat.eq_or_lt_of_le (show 64 ≤ y from h63) with h | h64
  · subst h; exact kw_64
  rcases Nat.eq_or_lt_of_le (show 65 ≤ y from h64) with h | h65
  · subst h; exact kw_65
  rcases Nat.eq_or_lt_of_le (show 66 ≤ y from h65) with h | h66
  · subst h; exact kw_66
  rcases Nat.eq_or_lt_of_le (show 67 ≤ y from h66) with h | h67
  · subst h; exact kw_67
  rcases Nat.eq_or_lt_of_le (show 68 ≤ y from h67) with h | h68
  · subst h; exact kw_68
  rcases Nat.eq_or_lt_of_le (show 69 ≤ y from h68) with h | h69
  · subst h; exact kw_69
  rcases Nat.eq_or_lt_of_le (show 70 ≤ y from h69) with h | h70
  · subst h; exact kw_70
  rcases Nat.eq_or_lt_of_le (show 71 ≤ y from h70) with h | h71
  · subst h; exact kw_71
  rcases Nat.eq_or_lt_of_le (show 72 ≤ y from h71) with h | h72
  · subst h; exact kw_72
  rcases Nat.eq_or_lt_of_le (show 73 ≤ y from h72) with h | h73
  · subst h; exact kw_73
  rcases Nat.eq_or_lt_of_le (show 74 ≤ y from h73) with h | h74
  · subst h; exact kw_74
  rcases Nat.eq_or_lt_of_le (show 75 ≤ y from h74) with h | h75
  · subst h; exact kw_75
  rcases Nat.eq_or_lt_of_le (show 76 ≤ y from h75) with h | h76
  · subst h; exact kw_76
  rcases Nat.eq_or_lt_of_le (show 77 ≤ y from h76) with h | h77
  · subst h; exact kw_77
  rcases Nat.eq_or_lt_of_le (show 78 ≤ y from h77) with h | h78
  · subst h; exact kw_78
  rcases Nat.eq_or_lt_of_le (show 79 ≤ y from h78) with h | h79
  · subst h; exact kw_79
  rcases Nat.eq_or_lt_of_le (show 80 ≤ y from h79) with h | h80
  · subst h; exact kw_80
  rcases Nat.eq_or_lt_of_le (show 81 ≤ y from h80) with h | h81
  · subst h; exact kw_81
  rcases Nat.eq_or_lt_of_le (show 82 ≤ y from h81) with h | h82
  · subst h; exact kw_82
  rcases Nat.eq_or_lt_of_le (show 83 ≤ y from h82) with h | h83
  · subst h; exact kw_83
  rcases Nat.eq_or_lt_of_le (show 84 ≤ y from h83) with h | h84
  · subst h; exact kw_84
  rcases Nat.eq_or_lt_of_le (show 85 ≤ y from h84) with h | h85
  · subst h; exact kw_85
  rcases Nat.eq_or_lt_of_le (show 86 ≤ y from h85) with h | h86
  · subst h; exact kw_86
  rcases Nat.eq_or_lt_of_le (show 87 ≤ y from h86) with h | h87
  · subst h; exact kw_87
  rcases Nat.eq_or_lt_of_le (show 88 ≤ y from h87) with h | h88
  · subst h; exact kw_88
  rcases Nat.eq_or_lt_of_le (show 89 ≤ y from h88) with h | h89
  · subst h; exact kw_89
  rcases Nat.eq_or_lt_of_le (show 90 ≤ y from h89) with h | h90
  · subst h; exact kw_90
  rcases Nat.eq_or_lt_of_le (show 91 ≤ y from h90) with h | h91
  · subst h; exact kw_91
  rcases Nat.eq_or_lt_of_le (show 92 ≤ y from h91) with h | h92
  · subst h; exact kw_92
  rcases Nat.eq_or_lt_of_le (show 93 ≤ y from h92) with h | h93
  · subst h; exact kw_93
  rcases Nat.eq_or_lt_of_le (show 94 ≤ y from h93) with h | h94
  · subst h; exact kw_94
  rcases Nat.eq_or_lt_of_le (show 95 ≤ y from h94) with h | h95
  · subst h; exact kw_95
  rcases Nat.eq_or_lt_of_le (show 96 ≤ y from h95) with h | h96
  · subst h; exact kw_96
  rcases Nat.eq_or_lt_of_le (show 97 ≤ y from h96) with h | h97
  · subst h; exact kw_97
  rcases Nat.eq_or_lt_of_le (show 98 ≤ y from h97) with h | h98
  · subst h; exact kw_98
  rcases Nat.eq_or_lt_of_le (show 99 ≤ y from h98) with h | h99
  · subst h; exact kw_99
  rcases Nat.eq_or_lt_of_le (show 100 ≤ y from h99) with h | h100
  · subst h; exact kw_100
  rcases Nat.eq_or_lt_of_le (show 101 ≤ y from h100) with h | h101
  · subst h; exact kw_101
  rcases Nat.eq_or_lt_of_le (show 102 ≤ y from h101) with h | h102
  · subst h; exact kw_102
  obtain rfl : y = 103 := Nat.le_antisymm (Nat.le_of_lt_succ hy) h102
  exact kw_103
def ex_nw : List Jvm.Cond := [Jvm.Cond.methodLinkNest "BorderThroughBed" 9 ⟨"BorderThroughBed$Page", "<init>", "()V"⟩ "BorderThroughBed", Jvm.Cond.methodLinkNest "BorderThroughBed" 18 ⟨"BorderThroughBed$HouseText", "<init>", "()V"⟩ "BorderThroughBed", Jvm.Cond.methodLinkNest "BorderThroughBed$HouseText" 3 ⟨"BorderThroughBed$Text", "<init>", "()V"⟩ "BorderThroughBed", Jvm.Cond.methodLinkNest "BorderThroughBed" 25 ⟨"BorderThroughBed$LawText", "<init>", "()V"⟩ "BorderThroughBed", Jvm.Cond.methodLinkNest "BorderThroughBed$LawText" 3 ⟨"BorderThroughBed$Text", "<init>", "()V"⟩ "BorderThroughBed", Jvm.Cond.methodLinkNest "BorderThroughBed" 32 ⟨"BorderThroughBed$House", "<init>", "()V"⟩ "BorderThroughBed", Jvm.Cond.methodLinkNest "BorderThroughBed" 39 ⟨"BorderThroughBed$Laws", "<init>", "()V"⟩ "BorderThroughBed", Jvm.Cond.methodLinkNest "BorderThroughBed" 46 ⟨"BorderThroughBed$Day", "<init>", "()V"⟩ "BorderThroughBed", Jvm.Cond.methodLinkNest "BorderThroughBed" 56 ⟨"BorderThroughBed$Keeping", "<init>", "()V"⟩ "BorderThroughBed", Jvm.Cond.methodLinkNest "BorderThroughBed" 63 ⟨"BorderThroughBed$Mover", "<init>", "()V"⟩ "BorderThroughBed", Jvm.Cond.methodLinkNest "BorderThroughBed$Table" 30 ⟨"BorderThroughBed", "below", "(II)Z"⟩ "BorderThroughBed", Jvm.Cond.methodLinkNest "BorderThroughBed$House" 79 ⟨"BorderThroughBed", "below", "(II)Z"⟩ "BorderThroughBed", Jvm.Cond.methodLinkNest "BorderThroughBed$Page" 23 ⟨"BorderThroughBed", "below", "(II)Z"⟩ "BorderThroughBed", Jvm.Cond.declares ⟨"BorderThroughBed$Text", "taken", "(LBorderThroughBed$Page;)I"⟩, Jvm.Cond.declares ⟨"BorderThroughBed$Text", "begin", "()V"⟩, Jvm.Cond.declares ⟨"BorderThroughBed$Text", "takes", "(I)Z"⟩, Jvm.Cond.declares ⟨"BorderThroughBed$Text", "isOn", "(LBorderThroughBed$Page;)Z"⟩, Jvm.Cond.declares ⟨"BorderThroughBed$Text", "isWhole", "()Z"⟩]
theorem ex_nw_in : ∀ w ∈ ex_nw, w ∈ tables_1 := by
  exact List.forall_mem_cons.mpr ⟨List.mem_of_getElem? (i := 22) (by decide +kernel), List.forall_mem_cons.mpr ⟨List.mem_of_getElem? (i := 36) (by decide +kernel), List.forall_mem_cons.mpr ⟨List.mem_of_getElem? (i := 39) (by decide +kernel), List.forall_mem_cons.mpr ⟨List.mem_of_getElem? (i := 58) (by decide +kernel), List.forall_mem_cons.mpr ⟨List.mem_of_getElem? (i := 61) (by decide +kernel), List.forall_mem_cons.mpr ⟨List.mem_of_getElem? (i := 86) (by decide +kernel), List.forall_mem_cons.mpr ⟨List.mem_of_getElem? (i := 135) (by decide +kernel), List.forall_mem_cons.mpr ⟨List.mem_of_getElem? (i := 161) (by decide +kernel), List.forall_mem_cons.mpr ⟨List.mem_of_getElem? (i := 186) (by decide +kernel), List.forall_mem_cons.mpr ⟨List.mem_of_getElem? (i := 201) (by decide +kernel), List.forall_mem_cons.mpr ⟨List.mem_of_getElem? (i := 282) (by decide +kernel), List.forall_mem_cons.mpr ⟨List.mem_of_getElem? (i := 298) (by decide +kernel), List.forall_mem_cons.mpr ⟨List.mem_of_getElem? (i := 507) (by decide +kernel), List.forall_mem_cons.mpr ⟨List.mem_of_getElem? (i := 489) (by decide +kernel), List.forall_mem_cons.mpr ⟨List.mem_of_getElem? (i := 494) (by decide +kernel), List.forall_mem_cons.mpr ⟨List.mem_of_getElem? (i := 509) (by decide +kernel), List.forall_mem_cons.mpr ⟨List.mem_of_getElem? (i := 565) (by decide +kernel), List.forall_mem_cons.mpr ⟨List.mem_of_getElem? (i := 571) (by decide +kernel), fun _ h => absurd h List.not_mem_nil⟩⟩⟩⟩⟩⟩⟩⟩⟩⟩⟩⟩⟩⟩⟩⟩⟩⟩
def ex_ar (y n : Nat) : Prop := (parseMethodDescriptor (ex_Y y).desc).map (fun d => d.parameters.length) = some n
def ex_PT (c a e : Nat) : Prop := e / 16 < 104 ∧ ex_ar (e / 16) (e % 16) ∧ Jvm.Cond.static (ex_Y (e / 16)) ∈ ex_tb ∧ (Jvm.Cond.methodLink (ex_Rn c) a (ex_Y (e / 16)) ∈ ex_tb ∨ Jvm.Cond.methodLinkNest (ex_Rn c) a (ex_Y (e / 16)) "BorderThroughBed" ∈ ex_nw)
theorem kq_T_0 : ∀ q ∈ ex_cT.getD 0 [], ex_PT 0 q.1 q.2 := fun _ h => absurd h List.not_mem_nil
theorem kt_236 : (Jvm.Cond.static (ex_Y 83)) ∈ ex_tb := ex_in (i := 298) (by decide +kernel) (by decide +kernel)
theorem kq_T_1 : ∀ q ∈ ex_cT.getD 1 [], ex_PT 1 q.1 q.2 := List.forall_mem_cons.mpr ⟨⟨by decide, by unfold ex_ar; decide +kernel, kt_236, Or.inr (List.mem_of_getElem? (i := 11) (by decide +kernel))⟩, fun _ h => absurd h List.not_mem_nil⟩
theorem kq_T_2 : ∀ q ∈ ex_cT.getD 2 [], ex_PT 2 q.1 q.2 := fun _ h => absurd h List.not_mem_nil
theorem kq_T_3 : ∀ q ∈ ex_cT.getD 3 [], ex_PT 3 q.1 q.2 := fun _ h => absurd h List.not_mem_nil
theorem kt_237 : (Jvm.Cond.static (ex_Y 42)) ∈ ex_tb := ex_in (i := 580) (by decide +kernel) (by decide +kernel)
theorem kt_238 : (Jvm.Cond.methodLink (ex_Rn 4) 50 (ex_Y 42)) ∈ ex_tb := ex_in (i := 579) (by decide +kernel) (by decide +kernel)
theorem kq_T_4 : ∀ q ∈ ex_cT.getD 4 [], ex_PT 4 q.1 q.2 := List.forall_mem_cons.mpr ⟨⟨by decide, by unfold ex_ar; decide +kernel, kt_237, Or.inl kt_238⟩, fun _ h => absurd h List.not_mem_nil⟩
theorem kq_T_5 : ∀ q ∈ ex_cT.getD 5 [], ex_PT 5 q.1 q.2 := fun _ h => absurd h List.not_mem_nil
theorem kq_T_6 : ∀ q ∈ ex_cT.getD 6 [], ex_PT 6 q.1 q.2 := fun _ h => absurd h List.not_mem_nil
theorem kt_239 : (Jvm.Cond.static (ex_Y 54)) ∈ ex_tb := ex_in (i := 503) (by decide +kernel) (by decide +kernel)
theorem kt_240 : (Jvm.Cond.methodLink (ex_Rn 7) 15 (ex_Y 54)) ∈ ex_tb := ex_in (i := 502) (by decide +kernel) (by decide +kernel)
theorem kq_T_7 : ∀ q ∈ ex_cT.getD 7 [], ex_PT 7 q.1 q.2 := List.forall_mem_cons.mpr ⟨⟨by decide, by unfold ex_ar; decide +kernel, kt_239, Or.inl kt_240⟩, List.forall_mem_cons.mpr ⟨⟨by decide, by unfold ex_ar; decide +kernel, kt_236, Or.inr (List.mem_of_getElem? (i := 12) (by decide +kernel))⟩, fun _ h => absurd h List.not_mem_nil⟩⟩
theorem kq_T_8 : ∀ q ∈ ex_cT.getD 8 [], ex_PT 8 q.1 q.2 := List.forall_mem_cons.mpr ⟨⟨by decide, by unfold ex_ar; decide +kernel, kt_236, Or.inr (List.mem_of_getElem? (i := 10) (by decide +kernel))⟩, fun _ h => absurd h List.not_mem_nil⟩
theorem kq_T_9 : ∀ q ∈ ex_cT.getD 9 [], ex_PT 9 q.1 q.2 := fun _ h => absurd h List.not_mem_nil
theorem kt_241 : (Jvm.Cond.static (ex_Y 53)) ∈ ex_tb := ex_in (i := 500) (by decide +kernel) (by decide +kernel)
theorem kt_242 : (Jvm.Cond.methodLink (ex_Rn 10) 68 (ex_Y 53)) ∈ ex_tb := ex_in (i := 499) (by decide +kernel) (by decide +kernel)
theorem kt_243 : (Jvm.Cond.methodLink (ex_Rn 10) 83 (ex_Y 83)) ∈ ex_tb := ex_in (i := 297) (by decide +kernel) (by decide +kernel)
theorem kt_244 : (Jvm.Cond.static (ex_Y 45)) ∈ ex_tb := ex_in (i := 314) (by decide +kernel) (by decide +kernel)
theorem kt_245 : (Jvm.Cond.methodLink (ex_Rn 10) 126 (ex_Y 45)) ∈ ex_tb := ex_in (i := 313) (by decide +kernel) (by decide +kernel)
theorem kt_246 : (Jvm.Cond.static (ex_Y 84)) ∈ ex_tb := ex_in (i := 385) (by decide +kernel) (by decide +kernel)
theorem kt_247 : (Jvm.Cond.methodLink (ex_Rn 10) 143 (ex_Y 84)) ∈ ex_tb := ex_in (i := 384) (by decide +kernel) (by decide +kernel)
theorem kt_248 : (Jvm.Cond.static (ex_Y 85)) ∈ ex_tb := ex_in (i := 438) (by decide +kernel) (by decide +kernel)
theorem kt_249 : (Jvm.Cond.methodLink (ex_Rn 10) 167 (ex_Y 85)) ∈ ex_tb := ex_in (i := 437) (by decide +kernel) (by decide +kernel)
theorem kq_T_10 : ∀ q ∈ ex_cT.getD 10 [], ex_PT 10 q.1 q.2 := List.forall_mem_cons.mpr ⟨⟨by decide, by unfold ex_ar; decide +kernel, kt_241, Or.inl kt_242⟩, List.forall_mem_cons.mpr ⟨⟨by decide, by unfold ex_ar; decide +kernel, kt_236, Or.inl kt_243⟩, List.forall_mem_cons.mpr ⟨⟨by decide, by unfold ex_ar; decide +kernel, kt_244, Or.inl kt_245⟩, List.forall_mem_cons.mpr ⟨⟨by decide, by unfold ex_ar; decide +kernel, kt_246, Or.inl kt_247⟩, List.forall_mem_cons.mpr ⟨⟨by decide, by unfold ex_ar; decide +kernel, kt_248, Or.inl kt_249⟩, fun _ h => absurd h List.not_mem_nil⟩⟩⟩⟩⟩
theorem kt_250 : (Jvm.Cond.static (ex_Y 93)) ∈ ex_tb := ex_in (i := 493) (by decide +kernel) (by decide +kernel)
theorem kt_251 : (Jvm.Cond.methodLink (ex_Rn 11) 14 (ex_Y 93)) ∈ ex_tb := ex_in (i := 492) (by decide +kernel) (by decide +kernel)
theorem kt_252 : (Jvm.Cond.static (ex_Y 92)) ∈ ex_tb := ex_in (i := 485) (by decide +kernel) (by decide +kernel)
theorem kt_253 : (Jvm.Cond.methodLink (ex_Rn 11) 20 (ex_Y 92)) ∈ ex_tb := ex_in (i := 484) (by decide +kernel) (by decide +kernel)
theorem kt_254 : (Jvm.Cond.static (ex_Y 94)) ∈ ex_tb := ex_in (i := 678) (by decide +kernel) (by decide +kernel)
theorem kt_255 : (Jvm.Cond.methodLink (ex_Rn 11) 36 (ex_Y 94)) ∈ ex_tb := ex_in (i := 677) (by decide +kernel) (by decide +kernel)
theorem kt_256 : (Jvm.Cond.static (ex_Y 97)) ∈ ex_tb := ex_in (i := 705) (by decide +kernel) (by decide +kernel)
theorem kt_257 : (Jvm.Cond.methodLink (ex_Rn 11) 42 (ex_Y 97)) ∈ ex_tb := ex_in (i := 704) (by decide +kernel) (by decide +kernel)
theorem kt_258 : (Jvm.Cond.static (ex_Y 99)) ∈ ex_tb := ex_in (i := 708) (by decide +kernel) (by decide +kernel)
theorem kt_259 : (Jvm.Cond.methodLink (ex_Rn 11) 46 (ex_Y 99)) ∈ ex_tb := ex_in (i := 707) (by decide +kernel) (by decide +kernel)
theorem kt_260 : (Jvm.Cond.static (ex_Y 100)) ∈ ex_tb := ex_in (i := 714) (by decide +kernel) (by decide +kernel)
theorem kt_261 : (Jvm.Cond.methodLink (ex_Rn 11) 49 (ex_Y 100)) ∈ ex_tb := ex_in (i := 713) (by decide +kernel) (by decide +kernel)
theorem kt_262 : (Jvm.Cond.static (ex_Y 101)) ∈ ex_tb := ex_in (i := 711) (by decide +kernel) (by decide +kernel)
theorem kt_263 : (Jvm.Cond.methodLink (ex_Rn 11) 53 (ex_Y 101)) ∈ ex_tb := ex_in (i := 710) (by decide +kernel) (by decide +kernel)
theorem kt_264 : (Jvm.Cond.static (ex_Y 98)) ∈ ex_tb := ex_in (i := 702) (by decide +kernel) (by decide +kernel)
theorem kt_265 : (Jvm.Cond.methodLink (ex_Rn 11) 57 (ex_Y 98)) ∈ ex_tb := ex_in (i := 701) (by decide +kernel) (by decide +kernel)
theorem kt_266 : (Jvm.Cond.static (ex_Y 95)) ∈ ex_tb := ex_in (i := 489) (by decide +kernel) (by decide +kernel)
theorem kt_267 : (Jvm.Cond.methodLink (ex_Rn 11) 62 (ex_Y 95)) ∈ ex_tb := ex_in (i := 488) (by decide +kernel) (by decide +kernel)
theorem kt_268 : (Jvm.Cond.static (ex_Y 102)) ∈ ex_tb := ex_in (i := 717) (by decide +kernel) (by decide +kernel)
theorem kt_269 : (Jvm.Cond.methodLink (ex_Rn 11) 65 (ex_Y 102)) ∈ ex_tb := ex_in (i := 716) (by decide +kernel) (by decide +kernel)
theorem kt_270 : (Jvm.Cond.static (ex_Y 96)) ∈ ex_tb := ex_in (i := 675) (by decide +kernel) (by decide +kernel)
theorem kt_271 : (Jvm.Cond.methodLink (ex_Rn 11) 72 (ex_Y 96)) ∈ ex_tb := ex_in (i := 674) (by decide +kernel) (by decide +kernel)
theorem kt_272 : (Jvm.Cond.static (ex_Y 103)) ∈ ex_tb := ex_in (i := 720) (by decide +kernel) (by decide +kernel)
theorem kt_273 : (Jvm.Cond.methodLink (ex_Rn 11) 94 (ex_Y 103)) ∈ ex_tb := ex_in (i := 719) (by decide +kernel) (by decide +kernel)
theorem kq_T_11 : ∀ q ∈ ex_cT.getD 11 [], ex_PT 11 q.1 q.2 := List.forall_mem_cons.mpr ⟨⟨by decide, by unfold ex_ar; decide +kernel, kt_250, Or.inl kt_251⟩, List.forall_mem_cons.mpr ⟨⟨by decide, by unfold ex_ar; decide +kernel, kt_252, Or.inl kt_253⟩, List.forall_mem_cons.mpr ⟨⟨by decide, by unfold ex_ar; decide +kernel, kt_254, Or.inl kt_255⟩, List.forall_mem_cons.mpr ⟨⟨by decide, by unfold ex_ar; decide +kernel, kt_256, Or.inl kt_257⟩, List.forall_mem_cons.mpr ⟨⟨by decide, by unfold ex_ar; decide +kernel, kt_258, Or.inl kt_259⟩, List.forall_mem_cons.mpr ⟨⟨by decide, by unfold ex_ar; decide +kernel, kt_260, Or.inl kt_261⟩, List.forall_mem_cons.mpr ⟨⟨by decide, by unfold ex_ar; decide +kernel, kt_262, Or.inl kt_263⟩, List.forall_mem_cons.mpr ⟨⟨by decide, by unfold ex_ar; decide +kernel, kt_264, Or.inl kt_265⟩, List.forall_mem_cons.mpr ⟨⟨by decide, by unfold ex_ar; decide +kernel, kt_266, Or.inl kt_267⟩, List.forall_mem_cons.mpr ⟨⟨by decide, by unfold ex_ar; decide +kernel, kt_268, Or.inl kt_269⟩, List.forall_mem_cons.mpr ⟨⟨by decide, by unfold ex_ar; decide +kernel, kt_270, Or.inl kt_271⟩, List.forall_mem_cons.mpr ⟨⟨by decide, by unfold ex_ar; decide +kernel, kt_272, Or.inl kt_273⟩, fun _ h => absurd h List.not_mem_nil⟩⟩⟩⟩⟩⟩⟩⟩⟩⟩⟩⟩
theorem kq_T {c : Nat} (hc : c < 12) : ∀ q ∈ ex_cT.getD c [], ex_PT c q.1 q.2 := by
  match c, hc with
  | 0, _ => exact kq_T_0
  | 1, _ => exact kq_T_1
  | 2, _ => exact kq_T_2
  | 3, _ => exact kq_T_3
  | 4, _ => exact kq_T_4
  | 5, _ => exact kq_T_5
  | 6, _ => exact kq_T_6
  | 7, _ => exact kq_T_7
  | 8, _ => exact kq_T_8
  | 9, _ => exact kq_T_9
  | 10, _ => exact kq_T_10
  | 11, _ => exact kq_T_11
def ex_PV (c a e : Nat) : Prop := e / 16 < 92 ∧ ex_ar (e / 16) (e % 16) ∧ Jvm.Cond.instanceMethod (ex_Y (e / 16)) ∈ ex_tb ∧ Jvm.Cond.selects (ex_Y (e / 16)).cls (ex_Y (e / 16)) (ex_Y (e / 16)) ∈ ex_tb ∧ Jvm.Cond.methodLink (ex_Rn c) a (ex_Y (e / 16)) ∈ ex_tb ∧ ex_C (e / 16) ≠ 9
theorem kt_274 : (Jvm.Cond.instanceMethod (ex_Y 64)) ∈ ex_tb := ex_in (i := 671) (by decide +kernel) (by decide +kernel)
theorem kt_275 : (Jvm.Cond.selects (ex_Y 64).cls (ex_Y 64) (ex_Y 64)) ∈ ex_tb := ex_in (i := 672) (by decide +kernel) (by decide +kernel)
theorem kt_276 : (Jvm.Cond.methodLink (ex_Rn 0) 29 (ex_Y 64)) ∈ ex_tb := ex_in (i := 670) (by decide +kernel) (by decide +kernel)
theorem kt_277 : (Jvm.Cond.instanceMethod (ex_Y 62)) ∈ ex_tb := ex_in (i := 305) (by decide +kernel) (by decide +kernel)
theorem kt_278 : (Jvm.Cond.selects (ex_Y 62).cls (ex_Y 62) (ex_Y 62)) ∈ ex_tb := ex_in (i := 306) (by decide +kernel) (by decide +kernel)
theorem kt_279 : (Jvm.Cond.methodLink (ex_Rn 0) 36 (ex_Y 62)) ∈ ex_tb := ex_in (i := 346) (by decide +kernel) (by decide +kernel)
theorem kt_280 : (Jvm.Cond.instanceMethod (ex_Y 2)) ∈ ex_tb := ex_in (i := 352) (by decide +kernel) (by decide +kernel)
theorem kt_281 : (Jvm.Cond.selects (ex_Y 2).cls (ex_Y 2) (ex_Y 2)) ∈ ex_tb := ex_in (i := 353) (by decide +kernel) (by decide +kernel)
theorem kt_282 : (Jvm.Cond.methodLink (ex_Rn 0) 40 (ex_Y 2)) ∈ ex_tb := ex_in (i := 351) (by decide +kernel) (by decide +kernel)
theorem kt_283 : (Jvm.Cond.instanceMethod (ex_Y 3)) ∈ ex_tb := ex_in (i := 356) (by decide +kernel) (by decide +kernel)
theorem kt_284 : (Jvm.Cond.selects (ex_Y 3).cls (ex_Y 3) (ex_Y 3)) ∈ ex_tb := ex_in (i := 357) (by decide +kernel) (by decide +kernel)
theorem kt_285 : (Jvm.Cond.methodLink (ex_Rn 0) 44 (ex_Y 3)) ∈ ex_tb := ex_in (i := 355) (by decide +kernel) (by decide +kernel)
theorem kt_286 : (Jvm.Cond.instanceMethod (ex_Y 1)) ∈ ex_tb := ex_in (i := 343) (by decide +kernel) (by decide +kernel)
theorem kt_287 : (Jvm.Cond.selects (ex_Y 1).cls (ex_Y 1) (ex_Y 1)) ∈ ex_tb := ex_in (i := 344) (by decide +kernel) (by decide +kernel)
theorem kt_288 : (Jvm.Cond.methodLink (ex_Rn 0) 51 (ex_Y 1)) ∈ ex_tb := ex_in (i := 342) (by decide +kernel) (by decide +kernel)
theorem kt_289 : (Jvm.Cond.instanceMethod (ex_Y 59)) ∈ ex_tb := ex_in (i := 294) (by decide +kernel) (by decide +kernel)
theorem kt_290 : (Jvm.Cond.selects (ex_Y 59).cls (ex_Y 59) (ex_Y 59)) ∈ ex_tb := ex_in (i := 295) (by decide +kernel) (by decide +kernel)
theorem kt_291 : (Jvm.Cond.methodLink (ex_Rn 0) 59 (ex_Y 59)) ∈ ex_tb := ex_in (i := 341) (by decide +kernel) (by decide +kernel)
theorem kt_292 : (Jvm.Cond.instanceMethod (ex_Y 4)) ∈ ex_tb := ex_in (i := 348) (by decide +kernel) (by decide +kernel)
theorem kt_293 : (Jvm.Cond.selects (ex_Y 4).cls (ex_Y 4) (ex_Y 4)) ∈ ex_tb := ex_in (i := 349) (by decide +kernel) (by decide +kernel)
theorem kt_294 : (Jvm.Cond.methodLink (ex_Rn 0) 63 (ex_Y 4)) ∈ ex_tb := ex_in (i := 347) (by decide +kernel) (by decide +kernel)
theorem kt_295 : (Jvm.Cond.instanceMethod (ex_Y 25)) ∈ ex_tb := ex_in (i := 360) (by decide +kernel) (by decide +kernel)
theorem kt_296 : (Jvm.Cond.selects (ex_Y 25).cls (ex_Y 25) (ex_Y 25)) ∈ ex_tb := ex_in (i := 361) (by decide +kernel) (by decide +kernel)
theorem kt_297 : (Jvm.Cond.methodLink (ex_Rn 0) 66 (ex_Y 25)) ∈ ex_tb := ex_in (i := 359) (by decide +kernel) (by decide +kernel)
theorem kq_V_0 : ∀ q ∈ ex_cV.getD 0 [], ex_PV 0 q.1 q.2 := List.forall_mem_cons.mpr ⟨⟨by decide, by unfold ex_ar; decide +kernel, kt_274, kt_275, kt_276, by decide +kernel⟩, List.forall_mem_cons.mpr ⟨⟨by decide, by unfold ex_ar; decide +kernel, kt_277, kt_278, kt_279, by decide +kernel⟩, List.forall_mem_cons.mpr ⟨⟨by decide, by unfold ex_ar; decide +kernel, kt_280, kt_281, kt_282, by decide +kernel⟩, List.forall_mem_cons.mpr ⟨⟨by decide, by unfold ex_ar; decide +kernel, kt_283, kt_284, kt_285, by decide +kernel⟩, List.forall_mem_cons.mpr ⟨⟨by decide, by unfold ex_ar; decide +kernel, kt_286, kt_287, kt_288, by decide +kernel⟩, List.forall_mem_cons.mpr ⟨⟨by decide, by unfold ex_ar; decide +kernel, kt_289, kt_290, kt_291, by decide +kernel⟩, List.forall_mem_cons.mpr ⟨⟨by decide, by unfold ex_ar; decide +kernel, kt_292, kt_293, kt_294, by decide +kernel⟩, List.forall_mem_cons.mpr ⟨⟨by decide, by unfold ex_ar; decide +kernel, kt_295, kt_296, kt_297, by decide +kernel⟩, fun _ h => absurd h List.not_mem_nil⟩⟩⟩⟩⟩⟩⟩⟩
theorem kt_298 : (Jvm.Cond.instanceMethod (ex_Y 56)) ∈ ex_tb := ex_in (i := 481) (by decide +kernel) (by decide +kernel)
theorem kt_299 : (Jvm.Cond.selects (ex_Y 56).cls (ex_Y 56) (ex_Y 56)) ∈ ex_tb := ex_in (i := 482) (by decide +kernel) (by decide +kernel)
theorem kt_300 : (Jvm.Cond.methodLink (ex_Rn 1) 49 (ex_Y 56)) ∈ ex_tb := ex_in (i := 609) (by decide +kernel) (by decide +kernel)
theorem kt_301 : (Jvm.Cond.instanceMethod (ex_Y 57)) ∈ ex_tb := ex_in (i := 530) (by decide +kernel) (by decide +kernel)
theorem kt_302 : (Jvm.Cond.selects (ex_Y 57).cls (ex_Y 57) (ex_Y 57)) ∈ ex_tb := ex_in (i := 531) (by decide +kernel) (by decide +kernel)
theorem kt_303 : (Jvm.Cond.methodLink (ex_Rn 1) 55 (ex_Y 57)) ∈ ex_tb := ex_in (i := 610) (by decide +kernel) (by decide +kernel)
theorem kt_304 : (Jvm.Cond.instanceMethod (ex_Y 7)) ∈ ex_tb := ex_in (i := 613) (by decide +kernel) (by decide +kernel)
theorem kt_305 : (Jvm.Cond.selects (ex_Y 7).cls (ex_Y 7) (ex_Y 7)) ∈ ex_tb := ex_in (i := 17) (by decide +kernel) (by decide +kernel)
theorem kt_306 : (Jvm.Cond.methodLink (ex_Rn 1) 59 (ex_Y 7)) ∈ ex_tb := ex_in (i := 611) (by decide +kernel) (by decide +kernel)
theorem kt_307 : (Jvm.Cond.instanceMethod (ex_Y 8)) ∈ ex_tb := ex_in (i := 617) (by decide +kernel) (by decide +kernel)
theorem kt_308 : (Jvm.Cond.selects (ex_Y 8).cls (ex_Y 8) (ex_Y 8)) ∈ ex_tb := ex_in (i := 18) (by decide +kernel) (by decide +kernel)
theorem kt_309 : (Jvm.Cond.methodLink (ex_Rn 1) 63 (ex_Y 8)) ∈ ex_tb := ex_in (i := 615) (by decide +kernel) (by decide +kernel)
theorem kt_310 : (Jvm.Cond.instanceMethod (ex_Y 9)) ∈ ex_tb := ex_in (i := 621) (by decide +kernel) (by decide +kernel)
theorem kt_311 : (Jvm.Cond.selects (ex_Y 9).cls (ex_Y 9) (ex_Y 9)) ∈ ex_tb := ex_in (i := 19) (by decide +kernel) (by decide +kernel)
theorem kt_312 : (Jvm.Cond.methodLink (ex_Rn 1) 73 (ex_Y 9)) ∈ ex_tb := ex_in (i := 619) (by decide +kernel) (by decide +kernel)
theorem kt_313 : (Jvm.Cond.instanceMethod (ex_Y 12)) ∈ ex_tb := ex_in (i := 642) (by decide +kernel) (by decide +kernel)
theorem kt_314 : (Jvm.Cond.selects (ex_Y 12).cls (ex_Y 12) (ex_Y 12)) ∈ ex_tb := ex_in (i := 22) (by decide +kernel) (by decide +kernel)
theorem kt_315 : (Jvm.Cond.methodLink (ex_Rn 1) 76 (ex_Y 12)) ∈ ex_tb := ex_in (i := 640) (by decide +kernel) (by decide +kernel)
theorem kt_316 : (Jvm.Cond.instanceMethod (ex_Y 10)) ∈ ex_tb := ex_in (i := 625) (by decide +kernel) (by decide +kernel)
theorem kt_317 : (Jvm.Cond.selects (ex_Y 10).cls (ex_Y 10) (ex_Y 10)) ∈ ex_tb := ex_in (i := 20) (by decide +kernel) (by decide +kernel)
theorem kt_318 : (Jvm.Cond.methodLink (ex_Rn 1) 83 (ex_Y 10)) ∈ ex_tb := ex_in (i := 623) (by decide +kernel) (by decide +kernel)
theorem kt_319 : (Jvm.Cond.instanceMethod (ex_Y 11)) ∈ ex_tb := ex_in (i := 633) (by decide +kernel) (by decide +kernel)
theorem kt_320 : (Jvm.Cond.selects (ex_Y 11).cls (ex_Y 11) (ex_Y 11)) ∈ ex_tb := ex_in (i := 21) (by decide +kernel) (by decide +kernel)
theorem kt_321 : (Jvm.Cond.methodLink (ex_Rn 1) 92 (ex_Y 11)) ∈ ex_tb := ex_in (i := 631) (by decide +kernel) (by decide +kernel)
theorem kt_322 : (Jvm.Cond.instanceMethod (ex_Y 18)) ∈ ex_tb := ex_in (i := 372) (by decide +kernel) (by decide +kernel)
theorem kt_323 : (Jvm.Cond.selects (ex_Y 18).cls (ex_Y 18) (ex_Y 18)) ∈ ex_tb := ex_in (i := 373) (by decide +kernel) (by decide +kernel)
theorem kt_324 : (Jvm.Cond.methodLink (ex_Rn 1) 96 (ex_Y 18)) ∈ ex_tb := ex_in (i := 635) (by decide +kernel) (by decide +kernel)
theorem kt_325 : (Jvm.Cond.instanceMethod (ex_Y 19)) ∈ ex_tb := ex_in (i := 637) (by decide +kernel) (by decide +kernel)
theorem kt_326 : (Jvm.Cond.selects (ex_Y 19).cls (ex_Y 19) (ex_Y 19)) ∈ ex_tb := ex_in (i := 638) (by decide +kernel) (by decide +kernel)
theorem kt_327 : (Jvm.Cond.methodLink (ex_Rn 1) 100 (ex_Y 19)) ∈ ex_tb := ex_in (i := 636) (by decide +kernel) (by decide +kernel)
theorem kt_328 : (Jvm.Cond.instanceMethod (ex_Y 13)) ∈ ex_tb := ex_in (i := 647) (by decide +kernel) (by decide +kernel)
theorem kt_329 : (Jvm.Cond.selects (ex_Y 13).cls (ex_Y 13) (ex_Y 13)) ∈ ex_tb := ex_in (i := 23) (by decide +kernel) (by decide +kernel)
theorem kt_330 : (Jvm.Cond.methodLink (ex_Rn 1) 104 (ex_Y 13)) ∈ ex_tb := ex_in (i := 645) (by decide +kernel) (by decide +kernel)
theorem kt_331 : (Jvm.Cond.instanceMethod (ex_Y 26)) ∈ ex_tb := ex_in (i := 651) (by decide +kernel) (by decide +kernel)
theorem kt_332 : (Jvm.Cond.selects (ex_Y 26).cls (ex_Y 26) (ex_Y 26)) ∈ ex_tb := ex_in (i := 24) (by decide +kernel) (by decide +kernel)
theorem kt_333 : (Jvm.Cond.methodLink (ex_Rn 1) 108 (ex_Y 26)) ∈ ex_tb := ex_in (i := 649) (by decide +kernel) (by decide +kernel)
theorem kt_334 : (Jvm.Cond.instanceMethod (ex_Y 17)) ∈ ex_tb := ex_in (i := 330) (by decide +kernel) (by decide +kernel)
theorem kt_335 : (Jvm.Cond.selects (ex_Y 17).cls (ex_Y 17) (ex_Y 17)) ∈ ex_tb := ex_in (i := 331) (by decide +kernel) (by decide +kernel)
theorem kt_336 : (Jvm.Cond.methodLink (ex_Rn 1) 111 (ex_Y 17)) ∈ ex_tb := ex_in (i := 375) (by decide +kernel) (by decide +kernel)
theorem kt_337 : (Jvm.Cond.instanceMethod (ex_Y 23)) ∈ ex_tb := ex_in (i := 364) (by decide +kernel) (by decide +kernel)
theorem kt_338 : (Jvm.Cond.selects (ex_Y 23).cls (ex_Y 23) (ex_Y 23)) ∈ ex_tb := ex_in (i := 365) (by decide +kernel) (by decide +kernel)
theorem kt_339 : (Jvm.Cond.methodLink (ex_Rn 1) 114 (ex_Y 23)) ∈ ex_tb := ex_in (i := 405) (by decide +kernel) (by decide +kernel)
theorem kt_340 : (Jvm.Cond.instanceMethod (ex_Y 27)) ∈ ex_tb := ex_in (i := 655) (by decide +kernel) (by decide +kernel)
theorem kt_341 : (Jvm.Cond.selects (ex_Y 27).cls (ex_Y 27) (ex_Y 27)) ∈ ex_tb := ex_in (i := 25) (by decide +kernel) (by decide +kernel)
theorem kt_342 : (Jvm.Cond.methodLink (ex_Rn 1) 117 (ex_Y 27)) ∈ ex_tb := ex_in (i := 653) (by decide +kernel) (by decide +kernel)
theorem kt_343 : (Jvm.Cond.instanceMethod (ex_Y 21)) ∈ ex_tb := ex_in (i := 658) (by decide +kernel) (by decide +kernel)
theorem kt_344 : (Jvm.Cond.selects (ex_Y 21).cls (ex_Y 21) (ex_Y 21)) ∈ ex_tb := ex_in (i := 659) (by decide +kernel) (by decide +kernel)
theorem kt_345 : (Jvm.Cond.methodLink (ex_Rn 1) 120 (ex_Y 21)) ∈ ex_tb := ex_in (i := 657) (by decide +kernel) (by decide +kernel)
theorem kt_346 : (Jvm.Cond.instanceMethod (ex_Y 20)) ∈ ex_tb := ex_in (i := 334) (by decide +kernel) (by decide +kernel)
theorem kt_347 : (Jvm.Cond.selects (ex_Y 20).cls (ex_Y 20) (ex_Y 20)) ∈ ex_tb := ex_in (i := 335) (by decide +kernel) (by decide +kernel)
theorem kt_348 : (Jvm.Cond.methodLink (ex_Rn 1) 123 (ex_Y 20)) ∈ ex_tb := ex_in (i := 661) (by decide +kernel) (by decide +kernel)
theorem kq_V_1 : ∀ q ∈ ex_cV.getD 1 [], ex_PV 1 q.1 q.2 := List.forall_mem_cons.mpr ⟨⟨by decide, by unfold ex_ar; decide +kernel, kt_298, kt_299, kt_300, by decide +kernel⟩, List.forall_mem_cons.mpr ⟨⟨by decide, by unfold ex_ar; decide +kernel, kt_301, kt_302, kt_303, by decide +kernel⟩, List.forall_mem_cons.mpr ⟨⟨by decide, by unfold ex_ar; decide +kernel, kt_304, kt_305, kt_306, by decide +kernel⟩, List.forall_mem_cons.mpr ⟨⟨by decide, by unfold ex_ar; decide +kernel, kt_307, kt_308, kt_309, by decide +kernel⟩, List.forall_mem_cons.mpr ⟨⟨by decide, by unfold ex_ar; decide +kernel, kt_310, kt_311, kt_312, by decide +kernel⟩, List.forall_mem_cons.mpr ⟨⟨by decide, by unfold ex_ar; decide +kernel, kt_313, kt_314, kt_315, by decide +kernel⟩, List.forall_mem_cons.mpr ⟨⟨by decide, by unfold ex_ar; decide +kernel, kt_316, kt_317, kt_318, by decide +kernel⟩, List.forall_mem_cons.mpr ⟨⟨by decide, by unfold ex_ar; decide +kernel, kt_319, kt_320, kt_321, by decide +kernel⟩, List.forall_mem_cons.mpr ⟨⟨by decide, by unfold ex_ar; decide +kernel, kt_322, kt_323, kt_324, by decide +kernel⟩, List.forall_mem_cons.mpr ⟨⟨by decide, by unfold ex_ar; decide +kernel, kt_325, kt_326, kt_327, by decide +kernel⟩, List.forall_mem_cons.mpr ⟨⟨by decide, by unfold ex_ar; decide +kernel, kt_328, kt_329, kt_330, by decide +kernel⟩, List.forall_mem_cons.mpr ⟨⟨by decide, by unfold ex_ar; decide +kernel, kt_331, kt_332, kt_333, by decide +kernel⟩, List.forall_mem_cons.mpr ⟨⟨by decide, by unfold ex_ar; decide +kernel, kt_334, kt_335, kt_336, by decide +kernel⟩, List.forall_mem_cons.mpr ⟨⟨by decide, by unfold ex_ar; decide +kernel, kt_337, kt_338, kt_339, by decide +kernel⟩, List.forall_mem_cons.mpr ⟨⟨by decide, by unfold ex_ar; decide +kernel, kt_340, kt_341, kt_342, by decide +kernel⟩, List.forall_mem_cons.mpr ⟨⟨by decide, by unfold ex_ar; decide +kernel, kt_343, kt_344, kt_345, by decide +kernel⟩, List.forall_mem_cons.mpr ⟨⟨by decide, by unfold ex_ar; decide +kernel, kt_346, kt_347, kt_348, by decide +kernel⟩, fun _ h => absurd h List.not_mem_nil⟩⟩⟩⟩⟩⟩⟩⟩⟩⟩⟩⟩⟩⟩⟩⟩⟩
theorem kt_349 : (Jvm.Cond.instanceMethod (ex_Y 30)) ∈ ex_tb := ex_in (i := 542) (by decide +kernel) (by decide +kernel)
theorem kt_350 : (Jvm.Cond.selects (ex_Y 30).cls (ex_Y 30) (ex_Y 30)) ∈ ex_tb := ex_in (i := 8) (by decide +kernel) (by decide +kernel)
theorem kt_351 : (Jvm.Cond.methodLink (ex_Rn 2) 25 (ex_Y 30)) ∈ ex_tb := ex_in (i := 540) (by decide +kernel) (by decide +kernel)
theorem kt_352 : (Jvm.Cond.instanceMethod (ex_Y 31)) ∈ ex_tb := ex_in (i := 546) (by decide +kernel) (by decide +kernel)
theorem kt_353 : (Jvm.Cond.selects (ex_Y 31).cls (ex_Y 31) (ex_Y 31)) ∈ ex_tb := ex_in (i := 9) (by decide +kernel) (by decide +kernel)
theorem kt_354 : (Jvm.Cond.methodLink (ex_Rn 2) 29 (ex_Y 31)) ∈ ex_tb := ex_in (i := 544) (by decide +kernel) (by decide +kernel)
theorem kt_355 : (Jvm.Cond.instanceMethod (ex_Y 32)) ∈ ex_tb := ex_in (i := 554) (by decide +kernel) (by decide +kernel)
theorem kt_356 : (Jvm.Cond.selects (ex_Y 32).cls (ex_Y 32) (ex_Y 32)) ∈ ex_tb := ex_in (i := 11) (by decide +kernel) (by decide +kernel)
theorem kt_357 : (Jvm.Cond.methodLink (ex_Rn 2) 32 (ex_Y 32)) ∈ ex_tb := ex_in (i := 552) (by decide +kernel) (by decide +kernel)
theorem kt_358 : (Jvm.Cond.instanceMethod (ex_Y 33)) ∈ ex_tb := ex_in (i := 550) (by decide +kernel) (by decide +kernel)
theorem kt_359 : (Jvm.Cond.selects (ex_Y 33).cls (ex_Y 33) (ex_Y 33)) ∈ ex_tb := ex_in (i := 10) (by decide +kernel) (by decide +kernel)
theorem kt_360 : (Jvm.Cond.methodLink (ex_Rn 2) 35 (ex_Y 33)) ∈ ex_tb := ex_in (i := 548) (by decide +kernel) (by decide +kernel)
theorem kq_V_2 : ∀ q ∈ ex_cV.getD 2 [], ex_PV 2 q.1 q.2 := List.forall_mem_cons.mpr ⟨⟨by decide, by unfold ex_ar; decide +kernel, kt_349, kt_350, kt_351, by decide +kernel⟩, List.forall_mem_cons.mpr ⟨⟨by decide, by unfold ex_ar; decide +kernel, kt_352, kt_353, kt_354, by decide +kernel⟩, List.forall_mem_cons.mpr ⟨⟨by decide, by unfold ex_ar; decide +kernel, kt_355, kt_356, kt_357, by decide +kernel⟩, List.forall_mem_cons.mpr ⟨⟨by decide, by unfold ex_ar; decide +kernel, kt_358, kt_359, kt_360, by decide +kernel⟩, fun _ h => absurd h List.not_mem_nil⟩⟩⟩⟩
theorem kq_V_3 : ∀ q ∈ ex_cV.getD 3 [], ex_PV 3 q.1 q.2 := fun _ h => absurd h List.not_mem_nil
theorem kt_361 : (Jvm.Cond.instanceMethod (ex_Y 37)) ∈ ex_tb := ex_in (i := 561) (by decide +kernel) (by decide +kernel)
theorem kt_362 : (Jvm.Cond.selects (ex_Y 37).cls (ex_Y 37) (ex_Y 37)) ∈ ex_tb := ex_in (i := 12) (by decide +kernel) (by decide +kernel)
theorem kt_363 : (Jvm.Cond.methodLink (ex_Rn 4) 33 (ex_Y 37)) ∈ ex_tb := ex_in (i := 559) (by decide +kernel) (by decide +kernel)
theorem kt_364 : (Jvm.Cond.instanceMethod (ex_Y 38)) ∈ ex_tb := ex_in (i := 565) (by decide +kernel) (by decide +kernel)
theorem kt_365 : (Jvm.Cond.selects (ex_Y 38).cls (ex_Y 38) (ex_Y 38)) ∈ ex_tb := ex_in (i := 13) (by decide +kernel) (by decide +kernel)
theorem kt_366 : (Jvm.Cond.methodLink (ex_Rn 4) 37 (ex_Y 38)) ∈ ex_tb := ex_in (i := 563) (by decide +kernel) (by decide +kernel)
theorem kt_367 : (Jvm.Cond.instanceMethod (ex_Y 39)) ∈ ex_tb := ex_in (i := 569) (by decide +kernel) (by decide +kernel)
theorem kt_368 : (Jvm.Cond.selects (ex_Y 39).cls (ex_Y 39) (ex_Y 39)) ∈ ex_tb := ex_in (i := 14) (by decide +kernel) (by decide +kernel)
theorem kt_369 : (Jvm.Cond.methodLink (ex_Rn 4) 40 (ex_Y 39)) ∈ ex_tb := ex_in (i := 567) (by decide +kernel) (by decide +kernel)
theorem kt_370 : (Jvm.Cond.instanceMethod (ex_Y 40)) ∈ ex_tb := ex_in (i := 577) (by decide +kernel) (by decide +kernel)
theorem kt_371 : (Jvm.Cond.selects (ex_Y 40).cls (ex_Y 40) (ex_Y 40)) ∈ ex_tb := ex_in (i := 16) (by decide +kernel) (by decide +kernel)
theorem kt_372 : (Jvm.Cond.methodLink (ex_Rn 4) 43 (ex_Y 40)) ∈ ex_tb := ex_in (i := 575) (by decide +kernel) (by decide +kernel)
theorem kt_373 : (Jvm.Cond.instanceMethod (ex_Y 41)) ∈ ex_tb := ex_in (i := 573) (by decide +kernel) (by decide +kernel)
theorem kt_374 : (Jvm.Cond.selects (ex_Y 41).cls (ex_Y 41) (ex_Y 41)) ∈ ex_tb := ex_in (i := 15) (by decide +kernel) (by decide +kernel)
theorem kt_375 : (Jvm.Cond.methodLink (ex_Rn 4) 46 (ex_Y 41)) ∈ ex_tb := ex_in (i := 571) (by decide +kernel) (by decide +kernel)
theorem kq_V_4 : ∀ q ∈ ex_cV.getD 4 [], ex_PV 4 q.1 q.2 := List.forall_mem_cons.mpr ⟨⟨by decide, by unfold ex_ar; decide +kernel, kt_361, kt_362, kt_363, by decide +kernel⟩, List.forall_mem_cons.mpr ⟨⟨by decide, by unfold ex_ar; decide +kernel, kt_364, kt_365, kt_366, by decide +kernel⟩, List.forall_mem_cons.mpr ⟨⟨by decide, by unfold ex_ar; decide +kernel, kt_367, kt_368, kt_369, by decide +kernel⟩, List.forall_mem_cons.mpr ⟨⟨by decide, by unfold ex_ar; decide +kernel, kt_370, kt_371, kt_372, by decide +kernel⟩, List.forall_mem_cons.mpr ⟨⟨by decide, by unfold ex_ar; decide +kernel, kt_373, kt_374, kt_375, by decide +kernel⟩, fun _ h => absurd h List.not_mem_nil⟩⟩⟩⟩⟩
theorem kt_376 : (Jvm.Cond.methodLink (ex_Rn 5) 20 (ex_Y 59)) ∈ ex_tb := ex_in (i := 293) (by decide +kernel) (by decide +kernel)
theorem kt_377 : (Jvm.Cond.instanceMethod (ex_Y 60)) ∈ ex_tb := ex_in (i := 411) (by decide +kernel) (by decide +kernel)
theorem kt_378 : (Jvm.Cond.selects (ex_Y 60).cls (ex_Y 60) (ex_Y 60)) ∈ ex_tb := ex_in (i := 412) (by decide +kernel) (by decide +kernel)
theorem kt_379 : (Jvm.Cond.methodLink (ex_Rn 5) 24 (ex_Y 60)) ∈ ex_tb := ex_in (i := 691) (by decide +kernel) (by decide +kernel)
theorem kt_380 : (Jvm.Cond.instanceMethod (ex_Y 44)) ∈ ex_tb := ex_in (i := 697) (by decide +kernel) (by decide +kernel)
theorem kt_381 : (Jvm.Cond.selects (ex_Y 44).cls (ex_Y 44) (ex_Y 44)) ∈ ex_tb := ex_in (i := 698) (by decide +kernel) (by decide +kernel)
theorem kt_382 : (Jvm.Cond.methodLink (ex_Rn 5) 28 (ex_Y 44)) ∈ ex_tb := ex_in (i := 696) (by decide +kernel) (by decide +kernel)
theorem kt_383 : (Jvm.Cond.instanceMethod (ex_Y 61)) ∈ ex_tb := ex_in (i := 415) (by decide +kernel) (by decide +kernel)
theorem kt_384 : (Jvm.Cond.selects (ex_Y 61).cls (ex_Y 61) (ex_Y 61)) ∈ ex_tb := ex_in (i := 416) (by decide +kernel) (by decide +kernel)
theorem kt_385 : (Jvm.Cond.methodLink (ex_Rn 5) 34 (ex_Y 61)) ∈ ex_tb := ex_in (i := 700) (by decide +kernel) (by decide +kernel)
theorem kt_386 : (Jvm.Cond.methodLink (ex_Rn 5) 38 (ex_Y 62)) ∈ ex_tb := ex_in (i := 304) (by decide +kernel) (by decide +kernel)
theorem kt_387 : (Jvm.Cond.instanceMethod (ex_Y 51)) ∈ ex_tb := ex_in (i := 393) (by decide +kernel) (by decide +kernel)
theorem kt_388 : (Jvm.Cond.selects (ex_Y 51).cls (ex_Y 51) (ex_Y 51)) ∈ ex_tb := ex_in (i := 1) (by decide +kernel) (by decide +kernel)
theorem kt_389 : (Jvm.Cond.methodLink (ex_Rn 5) 42 (ex_Y 51)) ∈ ex_tb := ex_in (i := 391) (by decide +kernel) (by decide +kernel)
theorem kt_390 : (Jvm.Cond.instanceMethod (ex_Y 52)) ∈ ex_tb := ex_in (i := 397) (by decide +kernel) (by decide +kernel)
theorem kt_391 : (Jvm.Cond.selects (ex_Y 52).cls (ex_Y 52) (ex_Y 52)) ∈ ex_tb := ex_in (i := 2) (by decide +kernel) (by decide +kernel)
theorem kt_392 : (Jvm.Cond.methodLink (ex_Rn 5) 46 (ex_Y 52)) ∈ ex_tb := ex_in (i := 395) (by decide +kernel) (by decide +kernel)
theorem kt_393 : (Jvm.Cond.methodLink (ex_Rn 5) 50 (ex_Y 20)) ∈ ex_tb := ex_in (i := 399) (by decide +kernel) (by decide +kernel)
theorem kt_394 : (Jvm.Cond.instanceMethod (ex_Y 22)) ∈ ex_tb := ex_in (i := 377) (by decide +kernel) (by decide +kernel)
theorem kt_395 : (Jvm.Cond.selects (ex_Y 22).cls (ex_Y 22) (ex_Y 22)) ∈ ex_tb := ex_in (i := 378) (by decide +kernel) (by decide +kernel)
theorem kt_396 : (Jvm.Cond.methodLink (ex_Rn 5) 55 (ex_Y 22)) ∈ ex_tb := ex_in (i := 400) (by decide +kernel) (by decide +kernel)
theorem kt_397 : (Jvm.Cond.instanceMethod (ex_Y 24)) ∈ ex_tb := ex_in (i := 402) (by decide +kernel) (by decide +kernel)
theorem kt_398 : (Jvm.Cond.selects (ex_Y 24).cls (ex_Y 24) (ex_Y 24)) ∈ ex_tb := ex_in (i := 403) (by decide +kernel) (by decide +kernel)
theorem kt_399 : (Jvm.Cond.methodLink (ex_Rn 5) 59 (ex_Y 24)) ∈ ex_tb := ex_in (i := 401) (by decide +kernel) (by decide +kernel)
theorem kq_V_5 : ∀ q ∈ ex_cV.getD 5 [], ex_PV 5 q.1 q.2 := List.forall_mem_cons.mpr ⟨⟨by decide, by unfold ex_ar; decide +kernel, kt_289, kt_290, kt_376, by decide +kernel⟩, List.forall_mem_cons.mpr ⟨⟨by decide, by unfold ex_ar; decide +kernel, kt_377, kt_378, kt_379, by decide +kernel⟩, List.forall_mem_cons.mpr ⟨⟨by decide, by unfold ex_ar; decide +kernel, kt_380, kt_381, kt_382, by decide +kernel⟩, List.forall_mem_cons.mpr ⟨⟨by decide, by unfold ex_ar; decide +kernel, kt_383, kt_384, kt_385, by decide +kernel⟩, List.forall_mem_cons.mpr ⟨⟨by decide, by unfold ex_ar; decide +kernel, kt_277, kt_278, kt_386, by decide +kernel⟩, List.forall_mem_cons.mpr ⟨⟨by decide, by unfold ex_ar; decide +kernel, kt_387, kt_388, kt_389, by decide +kernel⟩, List.forall_mem_cons.mpr ⟨⟨by decide, by unfold ex_ar; decide +kernel, kt_390, kt_391, kt_392, by decide +kernel⟩, List.forall_mem_cons.mpr ⟨⟨by decide, by unfold ex_ar; decide +kernel, kt_346, kt_347, kt_393, by decide +kernel⟩, List.forall_mem_cons.mpr ⟨⟨by decide, by unfold ex_ar; decide +kernel, kt_394, kt_395, kt_396, by decide +kernel⟩, List.forall_mem_cons.mpr ⟨⟨by decide, by unfold ex_ar; decide +kernel, kt_397, kt_398, kt_399, by decide +kernel⟩, fun _ h => absurd h List.not_mem_nil⟩⟩⟩⟩⟩⟩⟩⟩⟩⟩
theorem kq_V_6 : ∀ q ∈ ex_cV.getD 6 [], ex_PV 6 q.1 q.2 := fun _ h => absurd h List.not_mem_nil
theorem kq_V_7 : ∀ q ∈ ex_cV.getD 7 [], ex_PV 7 q.1 q.2 := fun _ h => absurd h List.not_mem_nil
theorem kt_400 : (Jvm.Cond.methodLink (ex_Rn 8) 22 (ex_Y 60)) ∈ ex_tb := ex_in (i := 418) (by decide +kernel) (by decide +kernel)
theorem kt_401 : (Jvm.Cond.instanceMethod (ex_Y 63)) ∈ ex_tb := ex_in (i := 420) (by decide +kernel) (by decide +kernel)
theorem kt_402 : (Jvm.Cond.selects (ex_Y 63).cls (ex_Y 63) (ex_Y 63)) ∈ ex_tb := ex_in (i := 421) (by decide +kernel) (by decide +kernel)
theorem kt_403 : (Jvm.Cond.methodLink (ex_Rn 8) 26 (ex_Y 63)) ∈ ex_tb := ex_in (i := 419) (by decide +kernel) (by decide +kernel)
theorem kq_V_8 : ∀ q ∈ ex_cV.getD 8 [], ex_PV 8 q.1 q.2 := List.forall_mem_cons.mpr ⟨⟨by decide, by unfold ex_ar; decide +kernel, kt_377, kt_378, kt_400, by decide +kernel⟩, List.forall_mem_cons.mpr ⟨⟨by decide, by unfold ex_ar; decide +kernel, kt_401, kt_402, kt_403, by decide +kernel⟩, fun _ h => absurd h List.not_mem_nil⟩⟩
theorem kt_404 : (Jvm.Cond.methodLink (ex_Rn 9) 12 (ex_Y 56)) ∈ ex_tb := ex_in (i := 528) (by decide +kernel) (by decide +kernel)
theorem kt_405 : (Jvm.Cond.methodLink (ex_Rn 9) 18 (ex_Y 57)) ∈ ex_tb := ex_in (i := 529) (by decide +kernel) (by decide +kernel)
theorem kq_V_9 : ∀ q ∈ ex_cV.getD 9 [], ex_PV 9 q.1 q.2 := List.forall_mem_cons.mpr ⟨⟨by decide, by unfold ex_ar; decide +kernel, kt_298, kt_299, kt_404, by decide +kernel⟩, List.forall_mem_cons.mpr ⟨⟨by decide, by unfold ex_ar; decide +kernel, kt_301, kt_302, kt_405, by decide +kernel⟩, fun _ h => absurd h List.not_mem_nil⟩⟩
theorem kt_406 : (Jvm.Cond.methodLink (ex_Rn 10) 72 (ex_Y 56)) ∈ ex_tb := ex_in (i := 480) (by decide +kernel) (by decide +kernel)
theorem kt_407 : (Jvm.Cond.instanceMethod (ex_Y 55)) ∈ ex_tb := ex_in (i := 506) (by decide +kernel) (by decide +kernel)
theorem kt_408 : (Jvm.Cond.selects (ex_Y 55).cls (ex_Y 55) (ex_Y 55)) ∈ ex_tb := ex_in (i := 507) (by decide +kernel) (by decide +kernel)
theorem kt_409 : (Jvm.Cond.methodLink (ex_Rn 10) 76 (ex_Y 55)) ∈ ex_tb := ex_in (i := 505) (by decide +kernel) (by decide +kernel)
theorem kt_410 : (Jvm.Cond.instanceMethod (ex_Y 58)) ∈ ex_tb := ex_in (i := 663) (by decide +kernel) (by decide +kernel)
theorem kt_411 : (Jvm.Cond.selects (ex_Y 58).cls (ex_Y 58) (ex_Y 58)) ∈ ex_tb := ex_in (i := 664) (by decide +kernel) (by decide +kernel)
theorem kt_412 : (Jvm.Cond.methodLink (ex_Rn 10) 80 (ex_Y 58)) ∈ ex_tb := ex_in (i := 662) (by decide +kernel) (by decide +kernel)
theorem kt_413 : (Jvm.Cond.instanceMethod (ex_Y 6)) ∈ ex_tb := ex_in (i := 606) (by decide +kernel) (by decide +kernel)
theorem kt_414 : (Jvm.Cond.selects (ex_Y 6).cls (ex_Y 6) (ex_Y 6)) ∈ ex_tb := ex_in (i := 607) (by decide +kernel) (by decide +kernel)
theorem kt_415 : (Jvm.Cond.methodLink (ex_Rn 10) 96 (ex_Y 6)) ∈ ex_tb := ex_in (i := 605) (by decide +kernel) (by decide +kernel)
theorem kt_416 : (Jvm.Cond.instanceMethod (ex_Y 0)) ∈ ex_tb := ex_in (i := 667) (by decide +kernel) (by decide +kernel)
theorem kt_417 : (Jvm.Cond.selects (ex_Y 0).cls (ex_Y 0) (ex_Y 0)) ∈ ex_tb := ex_in (i := 668) (by decide +kernel) (by decide +kernel)
theorem kt_418 : (Jvm.Cond.methodLink (ex_Rn 10) 100 (ex_Y 0)) ∈ ex_tb := ex_in (i := 666) (by decide +kernel) (by decide +kernel)
theorem kt_419 : (Jvm.Cond.instanceMethod (ex_Y 15)) ∈ ex_tb := ex_in (i := 449) (by decide +kernel) (by decide +kernel)
theorem kt_420 : (Jvm.Cond.selects (ex_Y 15).cls (ex_Y 15) (ex_Y 15)) ∈ ex_tb := ex_in (i := 450) (by decide +kernel) (by decide +kernel)
theorem kt_421 : (Jvm.Cond.methodLink (ex_Rn 10) 109 (ex_Y 15)) ∈ ex_tb := ex_in (i := 448) (by decide +kernel) (by decide +kernel)
theorem kt_422 : (Jvm.Cond.instanceMethod (ex_Y 47)) ∈ ex_tb := ex_in (i := 688) (by decide +kernel) (by decide +kernel)
theorem kt_423 : (Jvm.Cond.selects (ex_Y 47).cls (ex_Y 47) (ex_Y 47)) ∈ ex_tb := ex_in (i := 689) (by decide +kernel) (by decide +kernel)
theorem kt_424 : (Jvm.Cond.methodLink (ex_Rn 10) 113 (ex_Y 47)) ∈ ex_tb := ex_in (i := 687) (by decide +kernel) (by decide +kernel)
theorem kt_425 : (Jvm.Cond.instanceMethod (ex_Y 48)) ∈ ex_tb := ex_in (i := 693) (by decide +kernel) (by decide +kernel)
theorem kt_426 : (Jvm.Cond.selects (ex_Y 48).cls (ex_Y 48) (ex_Y 48)) ∈ ex_tb := ex_in (i := 694) (by decide +kernel) (by decide +kernel)
theorem kt_427 : (Jvm.Cond.methodLink (ex_Rn 10) 117 (ex_Y 48)) ∈ ex_tb := ex_in (i := 692) (by decide +kernel) (by decide +kernel)
theorem kt_428 : (Jvm.Cond.instanceMethod (ex_Y 46)) ∈ ex_tb := ex_in (i := 290) (by decide +kernel) (by decide +kernel)
theorem kt_429 : (Jvm.Cond.selects (ex_Y 46).cls (ex_Y 46) (ex_Y 46)) ∈ ex_tb := ex_in (i := 291) (by decide +kernel) (by decide +kernel)
theorem kt_430 : (Jvm.Cond.methodLink (ex_Rn 10) 121 (ex_Y 46)) ∈ ex_tb := ex_in (i := 289) (by decide +kernel) (by decide +kernel)
theorem kt_431 : (Jvm.Cond.instanceMethod (ex_Y 49)) ∈ ex_tb := ex_in (i := 301) (by decide +kernel) (by decide +kernel)
theorem kt_432 : (Jvm.Cond.selects (ex_Y 49).cls (ex_Y 49) (ex_Y 49)) ∈ ex_tb := ex_in (i := 302) (by decide +kernel) (by decide +kernel)
theorem kt_433 : (Jvm.Cond.methodLink (ex_Rn 10) 122 (ex_Y 49)) ∈ ex_tb := ex_in (i := 300) (by decide +kernel) (by decide +kernel)
theorem kt_434 : (Jvm.Cond.instanceMethod (ex_Y 16)) ∈ ex_tb := ex_in (i := 321) (by decide +kernel) (by decide +kernel)
theorem kt_435 : (Jvm.Cond.selects (ex_Y 16).cls (ex_Y 16) (ex_Y 16)) ∈ ex_tb := ex_in (i := 322) (by decide +kernel) (by decide +kernel)
theorem kt_436 : (Jvm.Cond.methodLink (ex_Rn 10) 129 (ex_Y 16)) ∈ ex_tb := ex_in (i := 320) (by decide +kernel) (by decide +kernel)
theorem kt_437 : (Jvm.Cond.instanceMethod (ex_Y 86)) ∈ ex_tb := ex_in (i := 327) (by decide +kernel) (by decide +kernel)
theorem kt_438 : (Jvm.Cond.selects (ex_Y 86).cls (ex_Y 86) (ex_Y 86)) ∈ ex_tb := ex_in (i := 0) (by decide +kernel) (by decide +kernel)
theorem kt_439 : (Jvm.Cond.methodLink (ex_Rn 10) 133 (ex_Y 86)) ∈ ex_tb := ex_in (i := 325) (by decide +kernel) (by decide +kernel)
theorem kt_440 : (Jvm.Cond.methodLink (ex_Rn 10) 136 (ex_Y 18)) ∈ ex_tb := ex_in (i := 371) (by decide +kernel) (by decide +kernel)
theorem kt_441 : (Jvm.Cond.methodLink (ex_Rn 10) 139 (ex_Y 22)) ∈ ex_tb := ex_in (i := 376) (by decide +kernel) (by decide +kernel)
theorem kt_442 : (Jvm.Cond.instanceMethod (ex_Y 50)) ∈ ex_tb := ex_in (i := 388) (by decide +kernel) (by decide +kernel)
theorem kt_443 : (Jvm.Cond.selects (ex_Y 50).cls (ex_Y 50) (ex_Y 50)) ∈ ex_tb := ex_in (i := 389) (by decide +kernel) (by decide +kernel)
theorem kt_444 : (Jvm.Cond.methodLink (ex_Rn 10) 147 (ex_Y 50)) ∈ ex_tb := ex_in (i := 387) (by decide +kernel) (by decide +kernel)
theorem kt_445 : (Jvm.Cond.methodLink (ex_Rn 10) 155 (ex_Y 60)) ∈ ex_tb := ex_in (i := 410) (by decide +kernel) (by decide +kernel)
theorem kt_446 : (Jvm.Cond.methodLink (ex_Rn 10) 158 (ex_Y 61)) ∈ ex_tb := ex_in (i := 414) (by decide +kernel) (by decide +kernel)
theorem kt_447 : (Jvm.Cond.instanceMethod (ex_Y 88)) ∈ ex_tb := ex_in (i := 429) (by decide +kernel) (by decide +kernel)
theorem kt_448 : (Jvm.Cond.selects (ex_Y 88).cls (ex_Y 88) (ex_Y 88)) ∈ ex_tb := ex_in (i := 3) (by decide +kernel) (by decide +kernel)
theorem kt_449 : (Jvm.Cond.methodLink (ex_Rn 10) 161 (ex_Y 88)) ∈ ex_tb := ex_in (i := 427) (by decide +kernel) (by decide +kernel)
theorem kt_450 : (Jvm.Cond.instanceMethod (ex_Y 87)) ∈ ex_tb := ex_in (i := 435) (by decide +kernel) (by decide +kernel)
theorem kt_451 : (Jvm.Cond.selects (ex_Y 87).cls (ex_Y 87) (ex_Y 87)) ∈ ex_tb := ex_in (i := 4) (by decide +kernel) (by decide +kernel)
theorem kt_452 : (Jvm.Cond.methodLink (ex_Rn 10) 164 (ex_Y 87)) ∈ ex_tb := ex_in (i := 433) (by decide +kernel) (by decide +kernel)
theorem kt_453 : (Jvm.Cond.instanceMethod (ex_Y 14)) ∈ ex_tb := ex_in (i := 445) (by decide +kernel) (by decide +kernel)
theorem kt_454 : (Jvm.Cond.selects (ex_Y 14).cls (ex_Y 14) (ex_Y 14)) ∈ ex_tb := ex_in (i := 446) (by decide +kernel) (by decide +kernel)
theorem kt_455 : (Jvm.Cond.methodLink (ex_Rn 10) 171 (ex_Y 14)) ∈ ex_tb := ex_in (i := 444) (by decide +kernel) (by decide +kernel)
theorem kt_456 : (Jvm.Cond.instanceMethod (ex_Y 89)) ∈ ex_tb := ex_in (i := 454) (by decide +kernel) (by decide +kernel)
theorem kt_457 : (Jvm.Cond.selects (ex_Y 89).cls (ex_Y 89) (ex_Y 89)) ∈ ex_tb := ex_in (i := 5) (by decide +kernel) (by decide +kernel)
theorem kt_458 : (Jvm.Cond.methodLink (ex_Rn 10) 174 (ex_Y 89)) ∈ ex_tb := ex_in (i := 452) (by decide +kernel) (by decide +kernel)
theorem kt_459 : (Jvm.Cond.methodLink (ex_Rn 10) 190 (ex_Y 59)) ∈ ex_tb := ex_in (i := 431) (by decide +kernel) (by decide +kernel)
theorem kt_460 : (Jvm.Cond.methodLink (ex_Rn 10) 250 (ex_Y 20)) ∈ ex_tb := ex_in (i := 333) (by decide +kernel) (by decide +kernel)
theorem kt_461 : (Jvm.Cond.instanceMethod (ex_Y 90)) ∈ ex_tb := ex_in (i := 470) (by decide +kernel) (by decide +kernel)
theorem kt_462 : (Jvm.Cond.selects (ex_Y 90).cls (ex_Y 90) (ex_Y 90)) ∈ ex_tb := ex_in (i := 6) (by decide +kernel) (by decide +kernel)
theorem kt_463 : (Jvm.Cond.methodLink (ex_Rn 10) 265 (ex_Y 90)) ∈ ex_tb := ex_in (i := 468) (by decide +kernel) (by decide +kernel)
theorem kt_464 : (Jvm.Cond.methodLink (ex_Rn 10) 307 (ex_Y 17)) ∈ ex_tb := ex_in (i := 329) (by decide +kernel) (by decide +kernel)
theorem kt_465 : (Jvm.Cond.instanceMethod (ex_Y 5)) ∈ ex_tb := ex_in (i := 338) (by decide +kernel) (by decide +kernel)
theorem kt_466 : (Jvm.Cond.selects (ex_Y 5).cls (ex_Y 5) (ex_Y 5)) ∈ ex_tb := ex_in (i := 339) (by decide +kernel) (by decide +kernel)
theorem kt_467 : (Jvm.Cond.methodLink (ex_Rn 10) 308 (ex_Y 5)) ∈ ex_tb := ex_in (i := 337) (by decide +kernel) (by decide +kernel)
theorem kt_468 : (Jvm.Cond.methodLink (ex_Rn 10) 311 (ex_Y 23)) ∈ ex_tb := ex_in (i := 363) (by decide +kernel) (by decide +kernel)
theorem kt_469 : (Jvm.Cond.methodLink (ex_Rn 10) 320 (ex_Y 62)) ∈ ex_tb := ex_in (i := 432) (by decide +kernel) (by decide +kernel)
theorem kt_470 : (Jvm.Cond.instanceMethod (ex_Y 91)) ∈ ex_tb := ex_in (i := 474) (by decide +kernel) (by decide +kernel)
theorem kt_471 : (Jvm.Cond.selects (ex_Y 91).cls (ex_Y 91) (ex_Y 91)) ∈ ex_tb := ex_in (i := 7) (by decide +kernel) (by decide +kernel)
theorem kt_472 : (Jvm.Cond.methodLink (ex_Rn 10) 323 (ex_Y 91)) ∈ ex_tb := ex_in (i := 472) (by decide +kernel) (by decide +kernel)
theorem kq_V_10 : ∀ q ∈ ex_cV.getD 10 [], ex_PV 10 q.1 q.2 := List.forall_mem_cons.mpr ⟨⟨by decide, by unfold ex_ar; decide +kernel, kt_298, kt_299, kt_406, by decide +kernel⟩, List.forall_mem_cons.mpr ⟨⟨by decide, by unfold ex_ar; decide +kernel, kt_407, kt_408, kt_409, by decide +kernel⟩, List.forall_mem_cons.mpr ⟨⟨by decide, by unfold ex_ar; decide +kernel, kt_410, kt_411, kt_412, by decide +kernel⟩, List.forall_mem_cons.mpr ⟨⟨by decide, by unfold ex_ar; decide +kernel, kt_413, kt_414, kt_415, by decide +kernel⟩, List.forall_mem_cons.mpr ⟨⟨by decide, by unfold ex_ar; decide +kernel, kt_416, kt_417, kt_418, by decide +kernel⟩, List.forall_mem_cons.mpr ⟨⟨by decide, by unfold ex_ar; decide +kernel, kt_419, kt_420, kt_421, by decide +kernel⟩, List.forall_mem_cons.mpr ⟨⟨by decide, by unfold ex_ar; decide +kernel, kt_422, kt_423, kt_424, by decide +kernel⟩, List.forall_mem_cons.mpr ⟨⟨by decide, by unfold ex_ar; decide +kernel, kt_425, kt_426, kt_427, by decide +kernel⟩, List.forall_mem_cons.mpr ⟨⟨by decide, by unfold ex_ar; decide +kernel, kt_428, kt_429, kt_430, by decide +kernel⟩, List.forall_mem_cons.mpr ⟨⟨by decide, by unfold ex_ar; decide +kernel, kt_431, kt_432, kt_433, by decide +kernel⟩, List.forall_mem_cons.mpr ⟨⟨by decide, by unfold ex_ar; decide +kernel, kt_434, kt_435, kt_436, by decide +kernel⟩, List.forall_mem_cons.mpr ⟨⟨by decide, by unfold ex_ar; decide +kernel, kt_437, kt_438, kt_439, by decide +kernel⟩, List.forall_mem_cons.mpr ⟨⟨by decide, by unfold ex_ar; decide +kernel, kt_322, kt_323, kt_440, by decide +kernel⟩, List.forall_mem_cons.mpr ⟨⟨by decide, by unfold ex_ar; decide +kernel, kt_394, kt_395, kt_441, by decide +kernel⟩, List.forall_mem_cons.mpr ⟨⟨by decide, by unfold ex_ar; decide +kernel, kt_442, kt_443, kt_444, by decide +kernel⟩, List.forall_mem_cons.mpr ⟨⟨by decide, by unfold ex_ar; decide +kernel, kt_377, kt_378, kt_445, by decide +kernel⟩, List.forall_mem_cons.mpr ⟨⟨by decide, by unfold ex_ar; decide +kernel, kt_383, kt_384, kt_446, by decide +kernel⟩, List.forall_mem_cons.mpr ⟨⟨by decide, by unfold ex_ar; decide +kernel, kt_447, kt_448, kt_449, by decide +kernel⟩, List.forall_mem_cons.mpr ⟨⟨by decide, by unfold ex_ar; decide +kernel, kt_450, kt_451, kt_452, by decide +kernel⟩, List.forall_mem_cons.mpr ⟨⟨by decide, by unfold ex_ar; decide +kernel, kt_453, kt_454, kt_455, by decide +kernel⟩, List.forall_mem_cons.mpr ⟨⟨by decide, by unfold ex_ar; decide +kernel, kt_456, kt_457, kt_458, by decide +kernel⟩, List.forall_mem_cons.mpr ⟨⟨by decide, by unfold ex_ar; decide +kernel, kt_289, kt_290, kt_459, by decide +kernel⟩, List.forall_mem_cons.mpr ⟨⟨by decide, by unfold ex_ar; decide +kernel, kt_346, kt_347, kt_460, by decide +kernel⟩, List.forall_mem_cons.mpr ⟨⟨by decide, by unfold ex_ar; decide +kernel, kt_461, kt_462, kt_463, by decide +kernel⟩, List.forall_mem_cons.mpr ⟨⟨by decide, by unfold ex_ar; decide +kernel, kt_334, kt_335, kt_464, by decide +kernel⟩, List.forall_mem_cons.mpr ⟨⟨by decide, by unfold ex_ar; decide +kernel, kt_465, kt_466, kt_467, by decide +kernel⟩, List.forall_mem_cons.mpr ⟨⟨by decide, by unfold ex_ar; decide +kernel, kt_337, kt_338, kt_468, by decide +kernel⟩, List.forall_mem_cons.mpr ⟨⟨by decide, by unfold ex_ar; decide +kernel, kt_277, kt_278, kt_469, by decide +kernel⟩, List.forall_mem_cons.mpr ⟨⟨by decide, by unfold ex_ar; decide +kernel, kt_470, kt_471, kt_472, by decide +kernel⟩, fun _ h => absurd h List.not_mem_nil⟩⟩⟩⟩⟩⟩⟩⟩⟩⟩⟩⟩⟩⟩⟩⟩⟩⟩⟩⟩⟩⟩⟩⟩⟩⟩⟩⟩⟩
theorem kt_473 : (Jvm.Cond.instanceMethod (ex_Y 67)) ∈ ex_tb := ex_in (i := 496) (by decide +kernel) (by decide +kernel)
theorem kt_474 : (Jvm.Cond.selects (ex_Y 67).cls (ex_Y 67) (ex_Y 67)) ∈ ex_tb := ex_in (i := 497) (by decide +kernel) (by decide +kernel)
theorem kt_475 : (Jvm.Cond.methodLink (ex_Rn 11) 8 (ex_Y 67)) ∈ ex_tb := ex_in (i := 495) (by decide +kernel) (by decide +kernel)
theorem kt_476 : (Jvm.Cond.instanceMethod (ex_Y 68)) ∈ ex_tb := ex_in (i := 510) (by decide +kernel) (by decide +kernel)
theorem kt_477 : (Jvm.Cond.selects (ex_Y 68).cls (ex_Y 68) (ex_Y 68)) ∈ ex_tb := ex_in (i := 511) (by decide +kernel) (by decide +kernel)
theorem kt_478 : (Jvm.Cond.methodLink (ex_Rn 11) 25 (ex_Y 68)) ∈ ex_tb := ex_in (i := 509) (by decide +kernel) (by decide +kernel)
theorem kt_479 : (Jvm.Cond.instanceMethod (ex_Y 82)) ∈ ex_tb := ex_in (i := 477) (by decide +kernel) (by decide +kernel)
theorem kt_480 : (Jvm.Cond.selects (ex_Y 82).cls (ex_Y 82) (ex_Y 82)) ∈ ex_tb := ex_in (i := 478) (by decide +kernel) (by decide +kernel)
theorem kt_481 : (Jvm.Cond.methodLink (ex_Rn 11) 29 (ex_Y 82)) ∈ ex_tb := ex_in (i := 476) (by decide +kernel) (by decide +kernel)
theorem kt_482 : (Jvm.Cond.instanceMethod (ex_Y 69)) ∈ ex_tb := ex_in (i := 586) (by decide +kernel) (by decide +kernel)
theorem kt_483 : (Jvm.Cond.selects (ex_Y 69).cls (ex_Y 69) (ex_Y 69)) ∈ ex_tb := ex_in (i := 587) (by decide +kernel) (by decide +kernel)
theorem kt_484 : (Jvm.Cond.methodLink (ex_Rn 11) 32 (ex_Y 69)) ∈ ex_tb := ex_in (i := 585) (by decide +kernel) (by decide +kernel)
theorem kt_485 : (Jvm.Cond.instanceMethod (ex_Y 70)) ∈ ex_tb := ex_in (i := 681) (by decide +kernel) (by decide +kernel)
theorem kt_486 : (Jvm.Cond.selects (ex_Y 70).cls (ex_Y 70) (ex_Y 70)) ∈ ex_tb := ex_in (i := 682) (by decide +kernel) (by decide +kernel)
theorem kt_487 : (Jvm.Cond.methodLink (ex_Rn 11) 39 (ex_Y 70)) ∈ ex_tb := ex_in (i := 680) (by decide +kernel) (by decide +kernel)
theorem kt_488 : (Jvm.Cond.instanceMethod (ex_Y 73)) ∈ ex_tb := ex_in (i := 317) (by decide +kernel) (by decide +kernel)
theorem kt_489 : (Jvm.Cond.selects (ex_Y 73).cls (ex_Y 73) (ex_Y 73)) ∈ ex_tb := ex_in (i := 318) (by decide +kernel) (by decide +kernel)
theorem kt_490 : (Jvm.Cond.methodLink (ex_Rn 11) 69 (ex_Y 73)) ∈ ex_tb := ex_in (i := 316) (by decide +kernel) (by decide +kernel)
theorem kt_491 : (Jvm.Cond.instanceMethod (ex_Y 71)) ∈ ex_tb := ex_in (i := 286) (by decide +kernel) (by decide +kernel)
theorem kt_492 : (Jvm.Cond.selects (ex_Y 71).cls (ex_Y 71) (ex_Y 71)) ∈ ex_tb := ex_in (i := 287) (by decide +kernel) (by decide +kernel)
theorem kt_493 : (Jvm.Cond.methodLink (ex_Rn 11) 76 (ex_Y 71)) ∈ ex_tb := ex_in (i := 285) (by decide +kernel) (by decide +kernel)
theorem kt_494 : (Jvm.Cond.instanceMethod (ex_Y 72)) ∈ ex_tb := ex_in (i := 310) (by decide +kernel) (by decide +kernel)
theorem kt_495 : (Jvm.Cond.selects (ex_Y 72).cls (ex_Y 72) (ex_Y 72)) ∈ ex_tb := ex_in (i := 311) (by decide +kernel) (by decide +kernel)
theorem kt_496 : (Jvm.Cond.methodLink (ex_Rn 11) 79 (ex_Y 72)) ∈ ex_tb := ex_in (i := 309) (by decide +kernel) (by decide +kernel)
theorem kt_497 : (Jvm.Cond.instanceMethod (ex_Y 74)) ∈ ex_tb := ex_in (i := 368) (by decide +kernel) (by decide +kernel)
theorem kt_498 : (Jvm.Cond.selects (ex_Y 74).cls (ex_Y 74) (ex_Y 74)) ∈ ex_tb := ex_in (i := 369) (by decide +kernel) (by decide +kernel)
theorem kt_499 : (Jvm.Cond.methodLink (ex_Rn 11) 83 (ex_Y 74)) ∈ ex_tb := ex_in (i := 367) (by decide +kernel) (by decide +kernel)
theorem kt_500 : (Jvm.Cond.instanceMethod (ex_Y 75)) ∈ ex_tb := ex_in (i := 381) (by decide +kernel) (by decide +kernel)
theorem kt_501 : (Jvm.Cond.selects (ex_Y 75).cls (ex_Y 75) (ex_Y 75)) ∈ ex_tb := ex_in (i := 382) (by decide +kernel) (by decide +kernel)
theorem kt_502 : (Jvm.Cond.methodLink (ex_Rn 11) 87 (ex_Y 75)) ∈ ex_tb := ex_in (i := 380) (by decide +kernel) (by decide +kernel)
theorem kt_503 : (Jvm.Cond.instanceMethod (ex_Y 76)) ∈ ex_tb := ex_in (i := 407) (by decide +kernel) (by decide +kernel)
theorem kt_504 : (Jvm.Cond.selects (ex_Y 76).cls (ex_Y 76) (ex_Y 76)) ∈ ex_tb := ex_in (i := 408) (by decide +kernel) (by decide +kernel)
theorem kt_505 : (Jvm.Cond.methodLink (ex_Rn 11) 91 (ex_Y 76)) ∈ ex_tb := ex_in (i := 406) (by decide +kernel) (by decide +kernel)
theorem kt_506 : (Jvm.Cond.instanceMethod (ex_Y 78)) ∈ ex_tb := ex_in (i := 441) (by decide +kernel) (by decide +kernel)
theorem kt_507 : (Jvm.Cond.selects (ex_Y 78).cls (ex_Y 78) (ex_Y 78)) ∈ ex_tb := ex_in (i := 442) (by decide +kernel) (by decide +kernel)
theorem kt_508 : (Jvm.Cond.methodLink (ex_Rn 11) 97 (ex_Y 78)) ∈ ex_tb := ex_in (i := 440) (by decide +kernel) (by decide +kernel)
theorem kt_509 : (Jvm.Cond.instanceMethod (ex_Y 77)) ∈ ex_tb := ex_in (i := 424) (by decide +kernel) (by decide +kernel)
theorem kt_510 : (Jvm.Cond.selects (ex_Y 77).cls (ex_Y 77) (ex_Y 77)) ∈ ex_tb := ex_in (i := 425) (by decide +kernel) (by decide +kernel)
theorem kt_511 : (Jvm.Cond.methodLink (ex_Rn 11) 100 (ex_Y 77)) ∈ ex_tb := ex_in (i := 423) (by decide +kernel) (by decide +kernel)
theorem kt_512 : (Jvm.Cond.instanceMethod (ex_Y 79)) ∈ ex_tb := ex_in (i := 457) (by decide +kernel) (by decide +kernel)
theorem kt_513 : (Jvm.Cond.selects (ex_Y 79).cls (ex_Y 79) (ex_Y 79)) ∈ ex_tb := ex_in (i := 458) (by decide +kernel) (by decide +kernel)
theorem kt_514 : (Jvm.Cond.methodLink (ex_Rn 11) 103 (ex_Y 79)) ∈ ex_tb := ex_in (i := 456) (by decide +kernel) (by decide +kernel)
theorem kt_515 : (Jvm.Cond.instanceMethod (ex_Y 80)) ∈ ex_tb := ex_in (i := 461) (by decide +kernel) (by decide +kernel)
theorem kt_516 : (Jvm.Cond.selects (ex_Y 80).cls (ex_Y 80) (ex_Y 80)) ∈ ex_tb := ex_in (i := 462) (by decide +kernel) (by decide +kernel)
theorem kt_517 : (Jvm.Cond.methodLink (ex_Rn 11) 106 (ex_Y 80)) ∈ ex_tb := ex_in (i := 460) (by decide +kernel) (by decide +kernel)
theorem kt_518 : (Jvm.Cond.instanceMethod (ex_Y 81)) ∈ ex_tb := ex_in (i := 465) (by decide +kernel) (by decide +kernel)
theorem kt_519 : (Jvm.Cond.selects (ex_Y 81).cls (ex_Y 81) (ex_Y 81)) ∈ ex_tb := ex_in (i := 466) (by decide +kernel) (by decide +kernel)
theorem kt_520 : (Jvm.Cond.methodLink (ex_Rn 11) 109 (ex_Y 81)) ∈ ex_tb := ex_in (i := 464) (by decide +kernel) (by decide +kernel)
theorem kq_V_11 : ∀ q ∈ ex_cV.getD 11 [], ex_PV 11 q.1 q.2 := List.forall_mem_cons.mpr ⟨⟨by decide, by unfold ex_ar; decide +kernel, kt_473, kt_474, kt_475, by decide +kernel⟩, List.forall_mem_cons.mpr ⟨⟨by decide, by unfold ex_ar; decide +kernel, kt_476, kt_477, kt_478, by decide +kernel⟩, List.forall_mem_cons.mpr ⟨⟨by decide, by unfold ex_ar; decide +kernel, kt_479, kt_480, kt_481, by decide +kernel⟩, List.forall_mem_cons.mpr ⟨⟨by decide, by unfold ex_ar; decide +kernel, kt_482, kt_483, kt_484, by decide +kernel⟩, List.forall_mem_cons.mpr ⟨⟨by decide, by unfold ex_ar; decide +kernel, kt_485, kt_486, kt_487, by decide +kernel⟩, List.forall_mem_cons.mpr ⟨⟨by decide, by unfold ex_ar; decide +kernel, kt_488, kt_489, kt_490, by decide +kernel⟩, List.forall_mem_cons.mpr ⟨⟨by decide, by unfold ex_ar; decide +kernel, kt_491, kt_492, kt_493, by decide +kernel⟩, List.forall_mem_cons.mpr ⟨⟨by decide, by unfold ex_ar; decide +kernel, kt_494, kt_495, kt_496, by decide +kernel⟩, List.forall_mem_cons.mpr ⟨⟨by decide, by unfold ex_ar; decide +kernel, kt_497, kt_498, kt_499, by decide +kernel⟩, List.forall_mem_cons.mpr ⟨⟨by decide, by unfold ex_ar; decide +kernel, kt_500, kt_501, kt_502, by decide +kernel⟩, List.forall_mem_cons.mpr ⟨⟨by decide, by unfold ex_ar; decide +kernel, kt_503, kt_504, kt_505, by decide +kernel⟩, List.forall_mem_cons.mpr ⟨⟨by decide, by unfold ex_ar; decide +kernel, kt_506, kt_507, kt_508, by decide +kernel⟩, List.forall_mem_cons.mpr ⟨⟨by decide, by unfold ex_ar; decide +kernel, kt_509, kt_510, kt_511, by decide +kernel⟩, List.forall_mem_cons.mpr ⟨⟨by decide, by unfold ex_ar; decide +kernel, kt_512, kt_513, kt_514, by decide +kernel⟩, List.forall_mem_cons.mpr ⟨⟨by decide, by unfold ex_ar; decide +kernel, kt_515, kt_516, kt_517, by decide +kernel⟩, List.forall_mem_cons.mpr ⟨⟨by decide, by unfold ex_ar; decide +kernel, kt_518, kt_519, kt_520, by decide +kernel⟩, fun _ h => absurd h List.not_mem_nil⟩⟩⟩⟩⟩⟩⟩⟩⟩⟩⟩⟩⟩⟩⟩⟩
theorem kq_V {c : Nat} (hc : c < 12) : ∀ q ∈ ex_cV.getD c [], ex_PV c q.1 q.2 := by
  match c, hc with
  | 0, _ => exact kq_V_0
  | 1, _ => exact kq_V_1
  | 2, _ => exact kq_V_2
  | 3, _ => exact kq_V_3
  | 4, _ => exact kq_V_4
  | 5, _ => exact kq_V_5
  | 6, _ => exact kq_V_6
  | 7, _ => exact kq_V_7
  | 8, _ => exact kq_V_8
  | 9, _ => exact kq_V_9
  | 10, _ => exact kq_V_10
  | 11, _ => exact kq_V_11
def ex_X : List (MethodName × String) := [(⟨"BorderThroughBed$HouseText", "taken", "(LBorderThroughBed$Page;)I"⟩, "BorderThroughBed$Text"), (⟨"BorderThroughBed$Text", "begin", "()V"⟩, "BorderThroughBed$Text"), (⟨"BorderThroughBed$Text", "takes", "(I)Z"⟩, "BorderThroughBed$Text"), (⟨"BorderThroughBed$LawText", "taken", "(LBorderThroughBed$Page;)I"⟩, "BorderThroughBed$Text"), (⟨"BorderThroughBed$HouseText", "isOn", "(LBorderThroughBed$Page;)Z"⟩, "BorderThroughBed$Text"), (⟨"BorderThroughBed$Text", "taken", "(LBorderThroughBed$Page;)I"⟩, "BorderThroughBed$Text"), (⟨"BorderThroughBed$Text", "isWhole", "()Z"⟩, "BorderThroughBed$Text"), (⟨"BorderThroughBed$LawText", "isOn", "(LBorderThroughBed$Page;)Z"⟩, "BorderThroughBed$Text")]
def ex_Xm (x : Nat) : MethodName := (ex_X.getD x (⟨"", "", ""⟩, "")).1
/-- a site of dispatch: the class of the receiver C, the method y: what stands in the tables -/
def ex_PD (c a x n C y : Nat) : Prop := y < 92 ∧ C < 9 ∧ (parseMethodDescriptor (ex_Xm x).desc).map (fun d => d.parameters.length) = some n ∧ Jvm.Cond.methodLink (ex_Rn c) a (ex_Xm x) ∈ ex_tb ∧ Jvm.Cond.sameMethod (ex_Xm x).cls "BorderThroughBed$Text" (ex_Xm x).name (ex_Xm x).desc ∈ ex_tb ∧ Jvm.Cond.declares ⟨"BorderThroughBed$Text", (ex_Xm x).name, (ex_Xm x).desc⟩ ∈ ex_nw ∧ Jvm.Cond.selects (ex_Rn C) (ex_Xm x) (ex_Y y) ∈ ex_tb ∧ Jvm.Cond.instanceMethod (ex_Y y) ∈ ex_tb ∧ (C = ex_C y ∨ (ex_C y = 9 ∧ (C = 2 ∨ C = 4)))
theorem kt_521 : (Jvm.Cond.methodLink (ex_Rn 10) 87 (ex_Xm 0)) ∈ ex_tb := ex_in (i := 513) (by decide +kernel) (by decide +kernel)
theorem kt_522 : (Jvm.Cond.sameMethod (ex_Xm 0).cls "BorderThroughBed$Text" (ex_Xm 0).name (ex_Xm 0).desc) ∈ ex_tb := ex_in (i := 514) (by decide +kernel) (by decide +kernel)
theorem kt_523 : (Jvm.Cond.instanceMethod (ex_Y 65)) ∈ ex_tb := ex_in (i := 517) (by decide +kernel) (by decide +kernel)
theorem kt_524 : (Jvm.Cond.selects (ex_Rn 2) (ex_Xm 0) (ex_Y 65)) ∈ ex_tb := ex_in (i := 516) (by decide +kernel) (by decide +kernel)
theorem kx_0_2 : ex_PD 10 87 0 1 2 65 := ⟨by decide, by decide, by decide +kernel, kt_521, kt_522, List.mem_of_getElem? (i := 13) (by decide +kernel), kt_524, kt_523, by decide +kernel⟩
theorem kt_525 : (Jvm.Cond.methodLink (ex_Rn 9) 7 (ex_Xm 1)) ∈ ex_tb := ex_in (i := 519) (by decide +kernel) (by decide +kernel)
theorem kt_526 : (Jvm.Cond.sameMethod (ex_Xm 1).cls "BorderThroughBed$Text" (ex_Xm 1).name (ex_Xm 1).desc) ∈ ex_tb := ex_in (i := 521) (by decide +kernel) (by decide +kernel)
theorem kt_527 : (Jvm.Cond.instanceMethod (ex_Y 28)) ∈ ex_tb := ex_in (i := 523) (by decide +kernel) (by decide +kernel)
theorem kt_528 : (Jvm.Cond.selects (ex_Rn 2) (ex_Xm 1) (ex_Y 28)) ∈ ex_tb := ex_in (i := 522) (by decide +kernel) (by decide +kernel)
theorem kt_529 : (Jvm.Cond.instanceMethod (ex_Y 35)) ∈ ex_tb := ex_in (i := 526) (by decide +kernel) (by decide +kernel)
theorem kt_530 : (Jvm.Cond.selects (ex_Rn 4) (ex_Xm 1) (ex_Y 35)) ∈ ex_tb := ex_in (i := 525) (by decide +kernel) (by decide +kernel)
theorem kx_1_2 : ex_PD 9 7 1 0 2 28 := ⟨by decide, by decide, by decide +kernel, kt_525, kt_526, List.mem_of_getElem? (i := 14) (by decide +kernel), kt_528, kt_527, by decide +kernel⟩
theorem kx_1_4 : ex_PD 9 7 1 0 4 35 := ⟨by decide, by decide, by decide +kernel, kt_525, kt_526, List.mem_of_getElem? (i := 14) (by decide +kernel), kt_530, kt_529, by decide +kernel⟩
theorem kt_531 : (Jvm.Cond.methodLink (ex_Rn 9) 22 (ex_Xm 2)) ∈ ex_tb := ex_in (i := 534) (by decide +kernel) (by decide +kernel)
theorem kt_532 : (Jvm.Cond.sameMethod (ex_Xm 2).cls "BorderThroughBed$Text" (ex_Xm 2).name (ex_Xm 2).desc) ∈ ex_tb := ex_in (i := 536) (by decide +kernel) (by decide +kernel)
theorem kt_533 : (Jvm.Cond.instanceMethod (ex_Y 29)) ∈ ex_tb := ex_in (i := 538) (by decide +kernel) (by decide +kernel)
theorem kt_534 : (Jvm.Cond.selects (ex_Rn 2) (ex_Xm 2) (ex_Y 29)) ∈ ex_tb := ex_in (i := 537) (by decide +kernel) (by decide +kernel)
theorem kt_535 : (Jvm.Cond.instanceMethod (ex_Y 36)) ∈ ex_tb := ex_in (i := 557) (by decide +kernel) (by decide +kernel)
theorem kt_536 : (Jvm.Cond.selects (ex_Rn 4) (ex_Xm 2) (ex_Y 36)) ∈ ex_tb := ex_in (i := 556) (by decide +kernel) (by decide +kernel)
theorem kx_2_2 : ex_PD 9 22 2 1 2 29 := ⟨by decide, by decide, by decide +kernel, kt_531, kt_532, List.mem_of_getElem? (i := 15) (by decide +kernel), kt_534, kt_533, by decide +kernel⟩
theorem kx_2_4 : ex_PD 9 22 2 1 4 36 := ⟨by decide, by decide, by decide +kernel, kt_531, kt_532, List.mem_of_getElem? (i := 15) (by decide +kernel), kt_536, kt_535, by decide +kernel⟩
theorem kt_537 : (Jvm.Cond.methodLink (ex_Rn 10) 91 (ex_Xm 3)) ∈ ex_tb := ex_in (i := 582) (by decide +kernel) (by decide +kernel)
theorem kt_538 : (Jvm.Cond.sameMethod (ex_Xm 3).cls "BorderThroughBed$Text" (ex_Xm 3).name (ex_Xm 3).desc) ∈ ex_tb := ex_in (i := 583) (by decide +kernel) (by decide +kernel)
theorem kt_539 : (Jvm.Cond.selects (ex_Rn 4) (ex_Xm 3) (ex_Y 65)) ∈ ex_tb := ex_in (i := 584) (by decide +kernel) (by decide +kernel)
theorem kx_3_4 : ex_PD 10 91 3 1 4 65 := ⟨by decide, by decide, by decide +kernel, kt_537, kt_538, List.mem_of_getElem? (i := 13) (by decide +kernel), kt_539, kt_523, by decide +kernel⟩
theorem kt_540 : (Jvm.Cond.methodLink (ex_Rn 10) 92 (ex_Xm 4)) ∈ ex_tb := ex_in (i := 589) (by decide +kernel) (by decide +kernel)
theorem kt_541 : (Jvm.Cond.sameMethod (ex_Xm 4).cls "BorderThroughBed$Text" (ex_Xm 4).name (ex_Xm 4).desc) ∈ ex_tb := ex_in (i := 590) (by decide +kernel) (by decide +kernel)
theorem kt_542 : (Jvm.Cond.instanceMethod (ex_Y 66)) ∈ ex_tb := ex_in (i := 593) (by decide +kernel) (by decide +kernel)
theorem kt_543 : (Jvm.Cond.selects (ex_Rn 2) (ex_Xm 4) (ex_Y 66)) ∈ ex_tb := ex_in (i := 592) (by decide +kernel) (by decide +kernel)
theorem kx_4_2 : ex_PD 10 92 4 1 2 66 := ⟨by decide, by decide, by decide +kernel, kt_540, kt_541, List.mem_of_getElem? (i := 16) (by decide +kernel), kt_543, kt_542, by decide +kernel⟩
theorem kt_544 : (Jvm.Cond.methodLink (ex_Rn 9) 26 (ex_Xm 5)) ∈ ex_tb := ex_in (i := 595) (by decide +kernel) (by decide +kernel)
theorem kt_545 : (Jvm.Cond.sameMethod (ex_Xm 5).cls "BorderThroughBed$Text" (ex_Xm 5).name (ex_Xm 5).desc) ∈ ex_tb := ex_in (i := 723) (by decide +kernel) (by decide +kernel)
theorem kt_546 : (Jvm.Cond.selects (ex_Rn 2) (ex_Xm 5) (ex_Y 65)) ∈ ex_tb := ex_in (i := 724) (by decide +kernel) (by decide +kernel)
theorem kt_547 : (Jvm.Cond.selects (ex_Rn 4) (ex_Xm 5) (ex_Y 65)) ∈ ex_tb := ex_in (i := 725) (by decide +kernel) (by decide +kernel)
theorem kx_5_2 : ex_PD 9 26 5 1 2 65 := ⟨by decide, by decide, by decide +kernel, kt_544, kt_545, List.mem_of_getElem? (i := 13) (by decide +kernel), kt_546, kt_523, by decide +kernel⟩
theorem kx_5_4 : ex_PD 9 26 5 1 4 65 := ⟨by decide, by decide, by decide +kernel, kt_544, kt_545, List.mem_of_getElem? (i := 13) (by decide +kernel), kt_547, kt_523, by decide +kernel⟩
theorem kt_548 : (Jvm.Cond.methodLink (ex_Rn 9) 30 (ex_Xm 6)) ∈ ex_tb := ex_in (i := 596) (by decide +kernel) (by decide +kernel)
theorem kt_549 : (Jvm.Cond.sameMethod (ex_Xm 6).cls "BorderThroughBed$Text" (ex_Xm 6).name (ex_Xm 6).desc) ∈ ex_tb := ex_in (i := 598) (by decide +kernel) (by decide +kernel)
theorem kt_550 : (Jvm.Cond.instanceMethod (ex_Y 34)) ∈ ex_tb := ex_in (i := 600) (by decide +kernel) (by decide +kernel)
theorem kt_551 : (Jvm.Cond.selects (ex_Rn 2) (ex_Xm 6) (ex_Y 34)) ∈ ex_tb := ex_in (i := 599) (by decide +kernel) (by decide +kernel)
theorem kt_552 : (Jvm.Cond.instanceMethod (ex_Y 43)) ∈ ex_tb := ex_in (i := 603) (by decide +kernel) (by decide +kernel)
theorem kt_553 : (Jvm.Cond.selects (ex_Rn 4) (ex_Xm 6) (ex_Y 43)) ∈ ex_tb := ex_in (i := 602) (by decide +kernel) (by decide +kernel)
theorem kx_6_2 : ex_PD 9 30 6 0 2 34 := ⟨by decide, by decide, by decide +kernel, kt_548, kt_549, List.mem_of_getElem? (i := 17) (by decide +kernel), kt_551, kt_550, by decide +kernel⟩
theorem kx_6_4 : ex_PD 9 30 6 0 4 43 := ⟨by decide, by decide, by decide +kernel, kt_548, kt_549, List.mem_of_getElem? (i := 17) (by decide +kernel), kt_553, kt_552, by decide +kernel⟩
theorem kt_554 : (Jvm.Cond.methodLink (ex_Rn 10) 112 (ex_Xm 7)) ∈ ex_tb := ex_in (i := 684) (by decide +kernel) (by decide +kernel)
theorem kt_555 : (Jvm.Cond.sameMethod (ex_Xm 7).cls "BorderThroughBed$Text" (ex_Xm 7).name (ex_Xm 7).desc) ∈ ex_tb := ex_in (i := 685) (by decide +kernel) (by decide +kernel)
theorem kt_556 : (Jvm.Cond.selects (ex_Rn 4) (ex_Xm 7) (ex_Y 66)) ∈ ex_tb := ex_in (i := 686) (by decide +kernel) (by decide +kernel)
theorem kx_7_4 : ex_PD 10 112 7 1 4 66 := ⟨by decide, by decide, by decide +kernel, kt_554, kt_555, List.mem_of_getElem? (i := 16) (by decide +kernel), kt_556, kt_542, by decide +kernel⟩
theorem ex_lk {α : Type} {l : List (Nat × α)} {a : Nat} {v : α} (h : l.lookup a = some v) : (a, v) ∈ l := by
  induction l with
  | nil => cases h
  | cons q r ih =>
    obtain ⟨k, u⟩ := q
    rw [List.lookup_cons] at h
    by_cases hk : a = k
    · subst hk
      simp at h
      subst h
      exact List.mem_cons_self
    · have : (a == k) = false := by simpa using hk
      rw [this] at h
      exact List.mem_cons_of_mem _ (ih h)
def ex_cWall : List (Nat × Nat × Nat × Nat) := (List.range 12).flatMap fun c => (ex_cW.getD c []).map fun q => (c, q.1, q.2.1, q.2.2)
def ex_Dall : List (Nat × Nat × Nat) := (List.range 8).flatMap fun x => (ex_D.getD x []).map fun q => (x, q.1, q.2)
theorem ex_cWall_in {c a x n : Nat} (h : (ex_cW.getD c []).lookup a = some (x, n)) : (c, a, x, n) ∈ ex_cWall := by
  have hm := ex_lk h
  have hc : c < 12 := by
    rcases Nat.lt_or_ge c 12 with q | q
    · exact q
    · have e : ex_cW[c]? = none := List.getElem?_eq_none (show ex_cW.length ≤ c from q)
      rw [List.getD_eq_getElem?_getD, e] at hm
      cases hm
  exact List.mem_flatMap.mpr ⟨c, List.mem_range.mpr hc, List.mem_map.mpr ⟨_, hm, rfl⟩⟩
theorem ex_Dall_in {x C y : Nat} (h : ex_dsp x C = some y) : (x, C, y) ∈ ex_Dall := by
  have hm := ex_lk h
  have hc : x < 8 := by
    rcases Nat.lt_or_ge x 8 with q | q
    · exact q
    · have e : ex_D[x]? = none := List.getElem?_eq_none (show ex_D.length ≤ x from q)
      rw [List.getD_eq_getElem?_getD, e] at hm
      cases hm
  exact List.mem_flatMap.mpr ⟨x, List.mem_range.mpr hc, List.mem_map.mpr ⟨_, hm, rfl⟩⟩
theorem kx_pairs (c a x n C y : Nat) (hm : (c, a, x, n) ∈ ex_cWall) (hd : (x, C, y) ∈ ex_Dall) : ex_PD c a x n C y := by
  have e1 : ex_cWall = [(9, 7, 1, 0), (9, 22, 2, 1), (9, 26, 5, 1), (9, 30, 6, 0), (10, 87, 0, 1), (10, 91, 3, 1), (10, 92, 4, 1), (10, 112, 7, 1)] := by decide +kernel
  have e2 : ex_Dall = [(0, 2, 65), (1, 2, 28), (1, 4, 35), (2, 2, 29), (2, 4, 36), (3, 4, 65), (4, 2, 66), (5, 2, 65), (5, 4, 65), (6, 2, 34), (6, 4, 43), (7, 4, 66)] := by decide +kernel
  rw [e1] at hm
  rw [e2] at hd
  simp only [List.mem_cons, Prod.mk.injEq, List.not_mem_nil, or_false] at hm hd
  rcases hm with ⟨rfl, rfl, rfl, rfl⟩ | ⟨rfl, rfl, rfl, rfl⟩ | ⟨rfl, rfl, rfl, rfl⟩ | ⟨rfl, rfl, rfl, rfl⟩ | ⟨rfl, rfl, rfl, rfl⟩ | ⟨rfl, rfl, rfl, rfl⟩ | ⟨rfl, rfl, rfl, rfl⟩ | ⟨rfl, rfl, rfl, rfl⟩ <;> rcases hd with ⟨h, rfl, rfl⟩ | ⟨h, rfl, rfl⟩ | ⟨h, rfl, rfl⟩ | ⟨h, rfl, rfl⟩ | ⟨h, rfl, rfl⟩ | ⟨h, rfl, rfl⟩ | ⟨h, rfl, rfl⟩ | ⟨h, rfl, rfl⟩ | ⟨h, rfl, rfl⟩ | ⟨h, rfl, rfl⟩ | ⟨h, rfl, rfl⟩ | ⟨h, rfl, rfl⟩ <;> first | (exfalso; revert h; decide) | skip
  · exact kx_1_2
  · exact kx_1_4
  · exact kx_2_2
  · exact kx_2_4
  · exact kx_5_2
  · exact kx_5_4
  · exact kx_6_2
  · exact kx_6_4
  · exact kx_0_2
  · exact kx_3_4
  · exact kx_4_2
  · exact kx_7_4
theorem kx_all {c a x n C y : Nat} (h : (ex_cW.getD c []).lookup a = some (x, n)) (h2 : ex_dsp x C = some y) : ex_PD c a x n C y := by
  have hm : (c, a, x, n) ∈ ex_cWall := ex_cWall_in h
  have hd : (x, C, y) ∈ ex_Dall := ex_Dall_in h2
  exact kx_pairs c a x n C y hm hd
end
section
/-! the world of the pure machine in a heap -/
def ex_tv (ad : Nat → Nat) (v : Value) : Value := match v with
  | .ref o => .ref (ad o)
  | v => v
def ex_fval (ad : Nat → Nat) (w : PW) (o k kd : Nat) : Value := match kd with
  | 0 => .int (w.1 o k)
  | 1 => .int 0
  | 2 => .int (w.1 o k)
  | n + 3 => .ref (ad n)
def ex_fs (ad : Nat → Nat) (w : PW) (o : Nat) (ks : List Nat) : List Value := (List.range ks.length).map fun k => ex_fval ad w o k (ks.getD k 0)
/-- what is told of: not the objects 35, 37, 42; 50, 51, 52 stand at their places -/
def ex_on (o : Nat) : Prop := o < 53 ∧ ¬ o = 35 ∧ ¬ o = 37 ∧ ¬ o = 42
def ex_ob (p : Nat) : Nat := if p = 35 then 50 else if p = 37 then 51 else if p = 42 then 52 else p
def ex_ps (o : Nat) : Nat := if o = 50 then 35 else if o = 51 then 37 else if o = 52 then 42 else o
theorem ex_ob_on {p : Nat} (h : p < 50) : ex_on (ex_ob p) := by
  unfold ex_on ex_ob
  split <;> (try split) <;> (try split) <;> omega
theorem ex_ob_in {p q : Nat} (h : p < 50) (h2 : q < 50) (e : ex_ob p = ex_ob q) : p = q := by
  unfold ex_ob at e
  by_cases a1 : p = 35
  · rw [if_pos a1] at e
    by_cases b1 : q = 35
    · omega
    · rw [if_neg b1] at e
      by_cases b2 : q = 37
      · rw [if_pos b2] at e; omega
      · rw [if_neg b2] at e
        by_cases b3 : q = 42
        · rw [if_pos b3] at e; omega
        · rw [if_neg b3] at e; omega
  · rw [if_neg a1] at e
    by_cases a2 : p = 37
    · rw [if_pos a2] at e
      by_cases b1 : q = 35
      · rw [if_pos b1] at e; omega
      · rw [if_neg b1] at e
        by_cases b2 : q = 37
        · omega
        · rw [if_neg b2] at e
          by_cases b3 : q = 42
          · rw [if_pos b3] at e; omega
          · rw [if_neg b3] at e; omega
    · rw [if_neg a2] at e
      by_cases a3 : p = 42
      · rw [if_pos a3] at e
        by_cases b1 : q = 35
        · rw [if_pos b1] at e; omega
        · rw [if_neg b1] at e
          by_cases b2 : q = 37
          · rw [if_pos b2] at e; omega
          · rw [if_neg b2] at e
            by_cases b3 : q = 42
            · omega
            · rw [if_neg b3] at e; omega
      · rw [if_neg a3] at e
        by_cases b1 : q = 35
        · rw [if_pos b1] at e; omega
        · rw [if_neg b1] at e
          by_cases b2 : q = 37
          · rw [if_pos b2] at e; omega
          · rw [if_neg b2] at e
            by_cases b3 : q = 42
            · rw [if_pos b3] at e; omega
            · rw [if_neg b3] at e; exact e
theorem ex_ob_ps {o : Nat} (h : ex_on o) : ex_ob (ex_ps o) = o ∧ ex_ps o < 50 := by
  obtain ⟨h0, h1, h2, h3⟩ := h
  by_cases a1 : o = 50
  · subst a1; decide
  · by_cases a2 : o = 51
    · subst a2; decide
    · by_cases a3 : o = 52
      · subst a3; decide
      · have e : ex_ps o = o := by unfold ex_ps; rw [if_neg a1, if_neg a2, if_neg a3]
        rw [e]
        unfold ex_ob
        rw [if_neg h1, if_neg h2, if_neg h3]
        exact ⟨rfl, by omega⟩
/-- an array's length in the heap: 51 is another before it is first made -/
def ex_hl (ad : Nat → Nat) (o : Nat) : Nat := if o = 51 then ad 2500 else ex_len o
theorem ex_hl_le {ad : Nat → Nat} {o : Nat} (h : 24 ≤ ad 2500) : ex_len o ≤ ex_hl ad o := by
  unfold ex_hl
  by_cases e : o = 51
  · rw [if_pos e, e]; exact h
  · rw [if_neg e]; exact Nat.le_refl _
theorem ex_hin {ad : Nat → Nat} {o : Nat} {i : Int32} (h : 24 ≤ ad 2500) (hin : ¬ (i < 0 ∨ ex_len o ≤ i.toNatClampNeg)) : ¬ (i < 0 ∨ ex_hl ad o ≤ i.toNatClampNeg) :=
  fun q => hin (q.imp id (Nat.le_trans (ex_hl_le h)))
def ex_en (ad : Nat → Nat) (cI cB : ClassId) (w : PW) (o : Nat) : va_E := match ex_Sh[o]? with
  | some q => if q.1 = 12 then .inl (cI, ex_hl ad o, .inl (w.1 o)) else if q.1 = 13 then .inl (cB, q.2.headD 0, .inl (w.1 o)) else .inr (q.1, ex_fs ad w o q.2)
  | none => .inr (0, [])
def ex_cel (ad : Nat → Nat) (cI cB : ClassId) (w : PW) : va_W := (List.range 50).map fun p => (ad (ex_ob p), ex_en ad cI cB w (ex_ob p))
theorem ex_lt {o : Nat} {q : Nat × List Nat} (h : ex_Sh[o]? = some q) : o < ex_NO := (List.getElem?_eq_some_iff.mp h).1
theorem ex_cel_pos {ad : Nat → Nat} {cI cB : ClassId} {w : PW} {p : Nat} (h : p < 50) : (ex_cel ad cI cB w)[p]? = some (ad (ex_ob p), ex_en ad cI cB w (ex_ob p)) := by
  unfold ex_cel
  rw [List.getElem?_map, List.getElem?_range h]
  rfl
theorem ex_cel_at {ad : Nat → Nat} {cI cB : ClassId} {w : PW} {o : Nat} (h : ex_on o) : (ex_cel ad cI cB w)[ex_ps o]? = some (ad o, ex_en ad cI cB w o) := by
  rw [ex_cel_pos (ex_ob_ps h).2, (ex_ob_ps h).1]
theorem ex_cel_none {ad : Nat → Nat} {cI cB : ClassId} {w : PW} {p : Nat} (h : 50 ≤ p) : (ex_cel ad cI cB w)[p]? = none := List.getElem?_eq_none (by unfold ex_cel; rw [List.length_map, List.length_range]; exact h)
theorem ex_en_obj {ad : Nat → Nat} {cI cB : ClassId} {w : PW} {o c : Nat} {ks : List Nat} (h : ex_Sh[o]? = some (c, ks)) (h1 : c < 12) : ex_en ad cI cB w o = .inr (c, ex_fs ad w o ks) := by
  unfold ex_en
  rw [h]
  dsimp only
  rw [if_neg (by omega), if_neg (by omega)]
theorem ex_en_ia {ad : Nat → Nat} {cI cB : ClassId} {w : PW} {o : Nat} (h : ex_cls o = 12) : ex_en ad cI cB w o = .inl (cI, ex_hl ad o, .inl (w.1 o)) := by
  unfold ex_cls at h
  unfold ex_en
  cases h2 : ex_Sh[o]? with
  | none => rw [h2] at h; cases h
  | some q =>
    rw [h2] at h
    dsimp only at h ⊢
    rw [if_pos h]
theorem ex_en_ba {ad : Nat → Nat} {cI cB : ClassId} {w : PW} {o : Nat} (h : ex_cls o = 13) : ex_en ad cI cB w o = .inl (cB, ex_len o, .inl (w.1 o)) := by
  unfold ex_cls at h
  unfold ex_en ex_len
  cases h2 : ex_Sh[o]? with
  | none => rw [h2] at h; cases h
  | some q =>
    rw [h2] at h
    dsimp only at h ⊢
    rw [if_neg (by omega), if_pos h]
theorem ex_on_all : ∀ o, o < ex_NO → ex_cls o < 99 → (¬ o = 35 ∧ ¬ o = 37 ∧ ¬ o = 42) := by decide +kernel
theorem ex_cls_lt0 {o : Nat} (h : ex_cls o < 99) : o < ex_NO := by
  unfold ex_cls at h
  cases h2 : ex_Sh[o]? with
  | none => rw [h2] at h; exact absurd h (by decide)
  | some q => exact ex_lt h2
theorem ex_cls_lt {o : Nat} (h : ex_cls o < 99) : ex_on o := ⟨ex_cls_lt0 h, ex_on_all o (ex_cls_lt0 h) h⟩
theorem ex_lto {o : Nat} {q : Nat × List Nat} (h : ex_Sh[o]? = some q) (h1 : q.1 < 99) : ex_on o := ex_cls_lt (by unfold ex_cls; rw [h]; exact h1)
/-- what a field's kind says -/
theorem ex_fk_spec {o e kd : Nat} (h : ex_fk o e = some kd) : ∃ ks, ex_Sh[o]? = some (e / 64, ks) ∧ ks[e % 64]? = some kd := by
  unfold ex_fk at h
  cases h2 : ex_Sh[o]? with
  | none => rw [h2] at h; cases h
  | some q =>
    obtain ⟨c, ks⟩ := q
    rw [h2] at h
    dsimp only at h
    by_cases hc : c = e / 64
    · rw [if_pos hc] at h
      exact ⟨ks, by rw [hc], h⟩
    · rw [if_neg hc] at h
      cases h
theorem ex_fs_at {ad : Nat → Nat} {w : PW} {o k kd : Nat} {ks : List Nat} (h : ks[k]? = some kd) : (ex_fs ad w o ks)[k]? = some (ex_fval ad w o k kd) := by
  have hl := (List.getElem?_eq_some_iff.mp h).1
  unfold ex_fs
  rw [List.getElem?_map, List.getElem?_range hl]
  show some (ex_fval ad w o k (ks.getD k 0)) = _
  rw [List.getD_eq_getElem?_getD, h]
  rfl
theorem ex_fs_len {ad : Nat → Nat} {w : PW} {o : Nat} {ks : List Nat} : (ex_fs ad w o ks).length = ks.length := by
  unfold ex_fs
  rw [List.length_map, List.length_range]
theorem ex_up_1 {w : PW} {o k : Nat} {x : Int32} : (ex_up w o k x).1 o = upd (w.1 o) k x := by
  funext j
  show (if o = o ∧ j = k then x else w.1 o j) = _
  unfold upd
  by_cases h : j = k
  · simp [h]
  · simp [h]
theorem ex_up_2 {w : PW} {o o' k : Nat} {x : Int32} (h : o' ≠ o) : (ex_up w o k x).1 o' = w.1 o' := by
  funext j
  show (if o' = o ∧ j = k then x else w.1 o' j) = _
  rw [if_neg (fun q => h q.1)]
theorem ex_up_h {w : PW} {o k : Nat} {x : Int32} : (ex_up w o k x).2 = w.2 := rfl
theorem ex_fval_same {ad : Nat → Nat} {w w' : PW} {o k kd : Nat} (h1 : w'.1 o k = w.1 o k) : ex_fval ad w' o k kd = ex_fval ad w o k kd := by
  match kd with
  | 0 => show Value.int _ = Value.int _; rw [h1]
  | 1 => rfl
  | 2 => show Value.int _ = Value.int _; rw [h1]
  | n + 3 => rfl
theorem ex_en_same {ad : Nat → Nat} {cI cB : ClassId} {w w' : PW} {o : Nat} (h1 : w'.1 o = w.1 o) : ex_en ad cI cB w' o = ex_en ad cI cB w o := by
  have : ∀ ks, ex_fs ad w' o ks = ex_fs ad w o ks := fun ks => by
    unfold ex_fs
    exact List.map_congr_left fun k _ => ex_fval_same (by rw [h1])
  unfold ex_en
  rw [h1]
  cases ex_Sh[o]? with
  | none => rfl
  | some q => dsimp only; rw [this]
theorem ex_cel_set {ad : Nat → Nat} {cI cB : ClassId} {w w' : PW} {o : Nat} (ho : ex_on o) (h : ∀ o', o' ≠ o → ex_en ad cI cB w' o' = ex_en ad cI cB w o') : ex_cel ad cI cB w' = (ex_cel ad cI cB w).set (ex_ps o) (ad o, ex_en ad cI cB w' o) := by
  obtain ⟨e1, e2⟩ := ex_ob_ps ho
  apply List.ext_getElem?
  intro i
  rcases Nat.lt_or_ge i 50 with hi | hi
  · rw [ex_cel_pos hi, List.getElem?_set]
    by_cases e : ex_ps o = i
    · subst e
      rw [if_pos rfl, if_pos (by unfold ex_cel; rw [List.length_map, List.length_range]; exact hi), e1]
    · rw [if_neg e, ex_cel_pos hi, h _ (fun q => e (ex_ob_in e2 hi (e1.trans q.symm)))]
  · rw [ex_cel_none hi, List.getElem?_set, if_neg (by omega), ex_cel_none hi]
theorem ex_cel_up {ad : Nat → Nat} {cI cB : ClassId} {w : PW} {o k : Nat} {x : Int32} (ho : ex_on o) : ex_cel ad cI cB (ex_up w o k x) = (ex_cel ad cI cB w).set (ex_ps o) (ad o, ex_en ad cI cB (ex_up w o k x) o) :=
  ex_cel_set ho fun _ h => ex_en_same (ex_up_2 h)
theorem ex_fs_set {ad : Nat → Nat} {w : PW} {o k kd : Nat} {ks : List Nat} {x : Int32} (h : ks[k]? = some kd) (hk : kd = 0 ∨ kd = 2) : ex_fs ad (ex_up w o k x) o ks = (ex_fs ad w o ks).set k (.int x) := by
  apply List.ext_getElem?
  intro i
  rw [List.getElem?_set]
  rcases Nat.lt_or_ge i ks.length with hi | hi
  · have hk2 : ks[i]? = some ks[i] := List.getElem?_eq_getElem hi
    rw [ex_fs_at hk2, ex_fs_at hk2, ex_fs_len]
    by_cases e : k = i
    · subst e
      rw [if_pos rfl, if_pos hi]
      rw [hk2] at h
      have h3 := Option.some.inj h
      rw [h3]
      rcases hk with rfl | rfl
      · show some (Value.int ((ex_up w o k x).1 o k)) = _
        rw [ex_up_1]; unfold upd; simp
      · show some (Value.int ((ex_up w o k x).1 o k)) = _
        rw [ex_up_1]; unfold upd; simp
    · rw [if_neg e]
      exact congrArg some (ex_fval_same (by rw [ex_up_1]; unfold upd; rw [if_neg (fun q => e q.symm)]))
  · rw [List.getElem?_eq_none (by rw [ex_fs_len]; exact hi), List.getElem?_eq_none (by rw [ex_fs_len]; exact hi)]
    by_cases e : k = i
    · subst e
      rw [List.getElem?_eq_none hi] at h
      cases h
    · rw [if_neg e]
/-- the classes that have objects -/
def ex_cm : List vw_C := ex_cl.take 11
theorem ex_no11_all : ∀ o, o < ex_NO → ¬ (ex_Sh.getD o (0, [])).1 = 11 := by decide +kernel
theorem ex_no11 {o : Nat} {q : Nat × List Nat} (h : ex_Sh[o]? = some q) : ¬ q.1 = 11 := by
  have h1 := ex_no11_all o (ex_lt h)
  rw [List.getD_eq_getElem?_getD, h] at h1
  exact h1
theorem ex_cl_at {c : Nat} (h : c < 11) : ex_cm[c]? = some (ex_Rn c, ex_T c, ex_N c) := by
  match c, h with
  | 0, _ => rfl
  | 1, _ => rfl
  | 2, _ => rfl
  | 3, _ => rfl
  | 4, _ => rfl
  | 5, _ => rfl
  | 6, _ => rfl
  | 7, _ => rfl
  | 8, _ => rfl
  | 9, _ => rfl
  | 10, _ => rfl
/-- kinds and types agree -/
def ex_kty (kd : Nat) (t : FieldType) : Bool := match kd with
  | 0 => decide (t = .int)
  | 1 => decide (t = .long)
  | 2 => decide (t = .boolean)
  | _ => true
def ex_ktys (o : Nat) : Bool := match ex_Sh[o]? with
  | some q => if q.1 < 12 then q.2.length == ex_N q.1 && (List.range q.2.length).all (fun k => ex_kty (q.2.getD k 0) (ex_ty q.1 k)) else true
  | none => true
theorem ex_ktys_all : ∀ o, o < ex_NO → ex_ktys o = true := by decide +kernel
theorem ex_kind {o c k kd : Nat} {ks : List Nat} (h : ex_Sh[o]? = some (c, ks)) (hc : c < 12) (hk : ks[k]? = some kd) : k < ex_N c ∧ k < ks.length ∧ ex_kty kd (ex_ty c k) = true := by
  have h1 := ex_ktys_all o (ex_lt h)
  unfold ex_ktys at h1
  rw [h] at h1
  dsimp only at h1
  rw [if_pos hc, Bool.and_eq_true] at h1
  have hl := (List.getElem?_eq_some_iff.mp hk).1
  have h2 := List.all_eq_true.mp h1.2 k (List.mem_range.mpr hl)
  rw [List.getD_eq_getElem?_getD, hk] at h2
  exact ⟨by rw [← eq_of_beq h1.1]; exact hl, hl, h2⟩
/-- locals -/
def ex_asc (ad : Nat → Nat) : Nat → List Value → List (Nat × Value)
  | _, [] => []
  | i, v :: r => if ex_isv v then (i, ex_tv ad v) :: ex_asc ad (i + 1) r else ex_asc ad (i + 1) r
theorem ex_asc_mem {ad : Nat → Nat} {pl : List Value} {i j : Nat} {u : Value} : (j, u) ∈ ex_asc ad i pl ↔ ∃ k v, pl[k]? = some v ∧ ex_isv v = true ∧ j = i + k ∧ u = ex_tv ad v := by
  induction pl generalizing i with
  | nil =>
    constructor
    · intro h; cases h
    · rintro ⟨k, v, h, -⟩
      simp at h
  | cons a r ih =>
    have hr : ∀ {P : Prop}, ((j, u) ∈ ex_asc ad (i + 1) r → P) → ((∃ k v, r[k]? = some v ∧ ex_isv v = true ∧ j = i + 1 + k ∧ u = ex_tv ad v) → P) := fun h q => h (ih.mpr q)
    unfold ex_asc
    by_cases ha : ex_isv a = true
    · rw [if_pos ha, List.mem_cons, Prod.mk.injEq]
      constructor
      · rintro (⟨rfl, rfl⟩ | h)
        · exact ⟨0, a, rfl, ha, rfl, rfl⟩
        · obtain ⟨k, v, h1, h2, h3, h4⟩ := ih.mp h
          exact ⟨k + 1, v, h1, h2, by omega, h4⟩
      · rintro ⟨k, v, h1, h2, h3, h4⟩
        cases k with
        | zero =>
          have : v = a := (Option.some.inj h1).symm
          subst this
          exact Or.inl ⟨by omega, h4⟩
        | succ k => exact Or.inr (ih.mpr ⟨k, v, h1, h2, by omega, h4⟩)
    · rw [if_neg ha]
      constructor
      · intro h
        obtain ⟨k, v, h1, h2, h3, h4⟩ := ih.mp h
        exact ⟨k + 1, v, h1, h2, by omega, h4⟩
      · rintro ⟨k, v, h1, h2, h3, h4⟩
        cases k with
        | zero =>
          have : v = a := (Option.some.inj h1).symm
          subst this
          exact absurd h2 ha
        | succ k => exact ih.mpr ⟨k, v, h1, h2, by omega, h4⟩
def ex_LR (ad : Nat → Nat) (nL : Nat) (ls : Array Slot) (pl : List Value) : Prop :=
  pl.length = nL ∧ lv_has ls nL (ex_asc ad 0 pl) ∧ ∀ (j : Nat) (x : Int64), pl[j]? = some (.long x) → pl[j + 1]? = some (.retAddr 0)
theorem ex_LR.get {ad : Nat → Nat} {nL k : Nat} {ls : Array Slot} {pl : List Value} {v : Value} (h : ex_LR ad nL ls pl) (hk : pl[k]? = some v) (hv : ex_isv v = true) : ls[k]? = some (.val (ex_tv ad v)) :=
  h.2.1.2.2 (k, ex_tv ad v) (ex_asc_mem.mpr ⟨k, v, hk, hv, by omega, rfl⟩)
theorem ex_getD {pl : List Value} {k : Nat} {d v : Value} (h : pl.getD k d = v) (hd : v ≠ d) : pl[k]? = some v := by
  rw [List.getD_eq_getElem?_getD] at h
  cases h2 : pl[k]? with
  | none => rw [h2] at h; exact absurd h.symm hd
  | some u => rw [h2] at h; rw [← h]; rfl
theorem lv_has.less {ls : Array Slot} {nL : Nat} {l l' : List (Nat × Value)} (h : lv_has ls nL l) (hs : ∀ q ∈ l', q ∈ l) : lv_has ls nL l' := ⟨h.1, h.2.1, fun q hq => h.2.2 q (hs q hq)⟩
theorem ex_tv_cat {ad : Nat → Nat} {v : Value} : (ex_tv ad v).category = v.category := by cases v <;> rfl
/-- storing a value of category 1 -/
theorem ex_LR.set1 {ad : Nat → Nat} {nL k : Nat} {ls ls' : Array Slot} {pl : List Value} {v a : Value} (h : ex_LR ad nL ls pl) (ha : pl[k]? = some a) (hra : ∀ n, a ≠ .retAddr n) (hc : v.category = 1) (hv : ex_isv v = true)
    (h' : lv_has ls' nL ((k, ex_tv ad v) :: (ex_asc ad 0 pl).filter (fun q => !(q.1 == k) && !(q.1 + 1 == k && q.2.category == 2)))) : ex_LR ad nL ls' (pl.set k v) := by
  have hl := (List.getElem?_eq_some_iff.mp ha).1
  refine ⟨by rw [List.length_set]; exact h.1, lv_has.less h' ?_, ?_⟩
  · rintro ⟨j, u⟩ hq
    obtain ⟨i, x, h1, h2, h3, h4⟩ := ex_asc_mem.mp hq
    have hji : j = i := by omega
    subst hji
    rw [List.getElem?_set] at h1
    by_cases e : k = j
    · subst e
      rw [if_pos rfl, if_pos hl] at h1
      rw [← Option.some.inj h1] at h4
      rw [h4]
      exact List.mem_cons_self
    · rw [if_neg e] at h1
      refine List.mem_cons_of_mem _ (List.mem_filter.mpr ⟨ex_asc_mem.mpr ⟨j, x, h1, h2, by omega, h4⟩, ?_⟩)
      have e1 : (j == k) = false := by simpa using fun q : j = k => e q.symm
      dsimp only
      rw [e1]
      by_cases e2 : j + 1 = k
      · have : u.category ≠ 2 := by
          rw [h4, ex_tv_cat]
          intro h5
          cases x with
          | long z =>
            have := h.2.2 j z h1
            rw [e2, ha] at this
            exact hra 0 (Option.some.inj this)
          | double z => cases h2
          | _ => cases h5
        simp [this]
      · simp [e2]
  · intro j x h1
    rw [List.getElem?_set] at h1 ⊢
    by_cases e : k = j
    · subst e
      rw [if_pos rfl, if_pos hl] at h1
      rw [Option.some.inj h1] at hc
      cases hc
    · rw [if_neg e] at h1
      have h2 := h.2.2 j x h1
      by_cases e2 : k = j + 1
      · subst e2
        rw [ha] at h2
        exact absurd (Option.some.inj h2) (hra 0)
      · rw [if_neg e2]
        exact h2
theorem ex_LR.set2 {ad : Nat → Nat} {nL k : Nat} {ls ls' : Array Slot} {pl : List Value} {x : Int64} {a : Value} (h : ex_LR ad nL ls pl) (ha : pl[k]? = some a) (hra : ∀ n, a ≠ .retAddr n) (hk : k + 1 < pl.length)
    (h' : lv_has ls' nL ((k, Value.long x) :: (ex_asc ad 0 pl).filter (fun q => !(q.1 == k) && (!(q.1 == k + 1) && !(q.1 + 1 == k && q.2.category == 2))))) : ex_LR ad nL ls' ((pl.set (k + 1) (.retAddr 0)).set k (.long x)) := by
  have hl := (List.getElem?_eq_some_iff.mp ha).1
  have hget : ∀ j, ((pl.set (k + 1) (.retAddr 0)).set k (.long x))[j]? = if j = k then some (.long x) else if j = k + 1 then some (.retAddr 0) else pl[j]? := by
    intro j
    rw [List.getElem?_set, List.getElem?_set, List.length_set]
    by_cases e : j = k
    · subst e; simp [hl]
    · rw [if_neg (fun q => e q.symm), if_neg e]
      by_cases e2 : j = k + 1
      · subst e2; simp [hk]
      · rw [if_neg (fun q => e2 q.symm), if_neg e2]
  refine ⟨by rw [List.length_set, List.length_set]; exact h.1, lv_has.less h' ?_, ?_⟩
  · rintro ⟨j, u⟩ hq
    obtain ⟨i, v, h1, h2, h3, h4⟩ := ex_asc_mem.mp hq
    have hji : j = i := by omega
    subst hji
    rw [hget] at h1
    by_cases e : j = k
    · subst e
      rw [if_pos rfl] at h1
      rw [← Option.some.inj h1] at h4
      rw [h4]
      exact List.mem_cons_self
    · rw [if_neg e] at h1
      by_cases e2 : j = k + 1
      · rw [if_pos e2] at h1
        rw [← Option.some.inj h1] at h2
        cases h2
      · rw [if_neg e2] at h1
        refine List.mem_cons_of_mem _ (List.mem_filter.mpr ⟨ex_asc_mem.mpr ⟨j, v, h1, h2, by omega, h4⟩, ?_⟩)
        have e1 : (j == k) = false := by simpa using e
        have e3 : (j == k + 1) = false := by simpa using e2
        dsimp only
        rw [e1, e3]
        by_cases e4 : j + 1 = k
        · have : u.category ≠ 2 := by
            rw [h4, ex_tv_cat]
            intro h5
            cases v with
            | long z =>
              have := h.2.2 j z h1
              rw [e4, ha] at this
              exact hra 0 (Option.some.inj this)
            | double z => cases h2
            | _ => cases h5
          simp [this]
        · simp [e4]
  · intro j z h1
    rw [hget] at h1 ⊢
    by_cases e : j = k
    · subst e
      rw [if_neg (by omega), if_pos rfl]
    · rw [if_neg e] at h1
      by_cases e2 : j = k + 1
      · rw [if_pos e2] at h1; cases h1
      · rw [if_neg e2] at h1
        have h2 := h.2.2 j z h1
        by_cases e3 : j + 1 = k
        · rw [e3, ha] at h2
          exact absurd (Option.some.inj h2) (hra 0)
        · rw [if_neg e3]
          by_cases e4 : j + 1 = k + 1
          · omega
          · rw [if_neg e4]
            exact h2
/-! arrays made anew, the script -/
theorem kt_int : (Jvm.Cond.arrayClass .int) ∈ ex_tb := ex_in (i := 59) (by decide +kernel) (by decide +kernel)
theorem ex_dy_lt {y o : Nat} (h : ex_dy y o = true) : 50 ≤ o ∧ o < 53 := by
  unfold ex_dy at h
  simp only [Bool.or_eq_true, Bool.and_eq_true, beq_iff_eq] at h
  omega
theorem ex_dy_cls {y o : Nat} (h : ex_dy y o = true) : ex_cls o = 12 ∧ ex_len o ≤ 64 ∧ ex_on o := by
  have h2 := ex_dy_lt h
  have h3 : o = 50 ∨ o = 51 ∨ o = 52 := by omega
  rcases h3 with rfl | rfl | rfl <;> exact ⟨by decide, by decide, by decide, by decide, by decide, by decide⟩
/-- the addresses as they are (ad) and as they were at the entry (ad0) -/
def ex_Ad (y : Nat) (ad0 ad : Nat → Nat) (sz : Nat) : Prop := ∀ o, ad o = ad0 o ∨ (ex_dy y o = true ∧ sz ≤ ad o) ∨ (o = 2500 ∧ ex_dy y 51 = true)
theorem ex_Ad.fix {y : Nat} {ad0 ad : Nat → Nat} {sz : Nat} (h : ex_Ad y ad0 ad sz) {o : Nat} (ho : o < 50 ∨ (53 ≤ o ∧ ¬ o = 2500)) : ad o = ad0 o := by
  rcases h o with h | ⟨h, -⟩ | ⟨h, -⟩
  · exact h
  · have := ex_dy_lt h; omega
  · omega
/-- fields hold objects that stay -/
theorem ex_ref_all : ∀ o, o < ex_NO → (ex_Sh.getD o (0, [])).1 = 12 ∨ (ex_Sh.getD o (0, [])).1 = 13 ∨ (ex_Sh.getD o (0, [])).2.all (fun k => decide (k < 53 ∨ 2503 < k)) = true := by decide +kernel
theorem ex_en_ad {ad0 ad : Nat → Nat} {cI cB : ClassId} {w : PW} {o : Nat} (h : ∀ o, (o < 50 ∨ (53 ≤ o ∧ ¬ o = 2500)) → ad o = ad0 o) (hl : ex_hl ad o = ex_hl ad0 o) : ex_en ad cI cB w o = ex_en ad0 cI cB w o := by
  unfold ex_en
  cases h2 : ex_Sh[o]? with
  | none => rfl
  | some q =>
    dsimp only
    by_cases h12 : q.1 = 12
    · rw [if_pos h12, if_pos h12, hl]
    · rw [if_neg h12, if_neg h12]
      by_cases h13 : q.1 = 13
      · rw [if_pos h13, if_pos h13]
      · rw [if_neg h13, if_neg h13]
        have ha := ex_ref_all o (ex_lt h2)
        have hg : ex_Sh.getD o (0, []) = q := by rw [List.getD_eq_getElem?_getD, h2]; rfl
        rw [hg] at ha
        have ha : q.2.all (fun k => decide (k < 53 ∨ 2503 < k)) = true := by
          rcases ha with ha | ha | ha
          · exact absurd ha h12
          · exact absurd ha h13
          · exact ha
        have : ex_fs ad w o q.2 = ex_fs ad0 w o q.2 := by
          unfold ex_fs
          apply List.map_congr_left
          intro k hk
          have hl : k < q.2.length := List.mem_range.mp hk
          have hm : q.2.getD k 0 ∈ q.2 := by
            rw [List.getD_eq_getElem?_getD, List.getElem?_eq_getElem hl]
            exact List.getElem_mem hl
          have hlt := of_decide_eq_true (List.all_eq_true.mp ha _ hm)
          match h5 : q.2.getD k 0 with
          | 0 => rfl
          | 1 => rfl
          | 2 => rfl
          | n + 3 =>
            rw [h5] at hlt
            show Value.ref (ad n) = Value.ref (ad0 n)
            rw [h n (by omega)]
        rw [this]
/-- locals, where some addresses are others -/
theorem ex_tv_ad {ad0 ad : Nat → Nat} {v : Value} (h : ∀ o, v = .ref o → ad o = ad0 o) : ex_tv ad v = ex_tv ad0 v := by
  cases v with
  | ref o => show Value.ref (ad o) = Value.ref (ad0 o); rw [h o rfl]
  | _ => rfl
theorem ex_map_ad {ad0 ad : Nat → Nat} {st : List Value} (h : ∀ o, .ref o ∈ st → ad o = ad0 o) : st.map (ex_tv ad) = st.map (ex_tv ad0) :=
  List.map_congr_left fun v hv => ex_tv_ad fun o ho => h o (by rw [← ho]; exact hv)
theorem ex_LR.ad {ad0 ad : Nat → Nat} {nL : Nat} {ls : Array Slot} {pl : List Value} (h : ex_LR ad0 nL ls pl) (ha : ∀ o, .ref o ∈ pl → ad o = ad0 o) : ex_LR ad nL ls pl := by
  refine ⟨h.1, lv_has.less h.2.1 ?_, h.2.2⟩
  rintro ⟨j, u⟩ hq
  obtain ⟨i, v, h1, h2, h3, h4⟩ := ex_asc_mem.mp hq
  exact ex_asc_mem.mpr ⟨i, v, h1, h2, h3, by rw [h4]; exact ex_tv_ad fun o ho => ha o (by rw [← ho]; exact List.mem_of_getElem? h1)⟩
theorem ex_scr_isv {o : Nat} {v : Value} (h : ex_isv (ex_scr o v) = true) : ex_scr o v = v ∧ v ≠ .ref o ∧ v ≠ .ref 2500 := by
  cases v with
  | ref a =>
    have e : ex_scr o (.ref a) = if a = o ∨ a = 2500 then .null else .ref a := rfl
    by_cases ha : a = o ∨ a = 2500
    · rw [e, if_pos ha] at h; cases h
    · rw [e, if_neg ha]
      exact ⟨rfl, fun q => ha (Or.inl (by injection q)), fun q => ha (Or.inr (by injection q))⟩
  | _ => exact ⟨rfl, (by intro q; cases q), (by intro q; cases q)⟩
theorem ex_LR.scr {ad0 ad : Nat → Nat} {nL o : Nat} {ls : Array Slot} {pl : List Value} (h : ex_LR ad0 nL ls pl) (ha : ∀ a, a ≠ o → a ≠ 2500 → ad a = ad0 a) : ex_LR ad nL ls (pl.map (ex_scr o)) := by
  refine ⟨by rw [List.length_map]; exact h.1, lv_has.less h.2.1 ?_, ?_⟩
  · rintro ⟨j, u⟩ hq
    obtain ⟨i, v, h1, h2, h3, h4⟩ := ex_asc_mem.mp hq
    rw [List.getElem?_map] at h1
    cases h5 : pl[i]? with
    | none => rw [h5] at h1; cases h1
    | some x =>
      rw [h5] at h1
      have h1 : ex_scr o x = v := Option.some.inj h1
      subst h1
      obtain ⟨e1, e2, e20⟩ := ex_scr_isv h2
      rw [e1] at h2 h4
      exact ex_asc_mem.mpr ⟨i, x, h5, h2, h3, by rw [h4]; exact ex_tv_ad fun a hx => ha a (fun q => e2 (by rw [hx, q])) (fun q => e20 (by rw [hx, q]))⟩
  · intro j x h1
    rw [List.getElem?_map] at h1 ⊢
    cases h5 : pl[j]? with
    | none => rw [h5] at h1; cases h1
    | some v =>
      rw [h5] at h1
      have h1 : ex_scr o v = .long x := Option.some.inj h1
      obtain ⟨e1, -⟩ := ex_scr_isv (o := o) (v := v) (by rw [h1]; rfl)
      rw [e1] at h1
      subst h1
      rw [h.2.2 j x h5]
      rfl
end
section
/-! every instruction of the pure machine is the real one's: step by step -/
def ex_Cx (dC : Nat → ClassId) (dI : Nat → Nat → Nat) (ad : Nat → Nat) (cI cB : ClassId) (A : Nat → Prop) (U : State) (H : Heap) : Prop :=
  va_K (dC, dI) ex_cm [(cI, .int)] U ∧ (∀ x ∈ ex_nw, va_Nw x U) ∧ va_Z "BorderThroughBed$House" "DOWN" "[I" (.ref (ad 1000)) A U H ∧ va_T .int (ad 1000) 4 (fun j => .int (ex_down j)) A U H ∧ va_Z "BorderThroughBed$House" "RIGHT" "[I" (.ref (ad 1001)) A U H ∧ va_T .int (ad 1001) 4 (fun j => .int (ex_right j)) A U H ∧ va_T .int (ad 2000) (ad 2999) (fun j => .int (Int32.ofNat (ad (3000 + j)))) A U H
def ex_AA (ad : Nat → Nat) (sz : Nat) : Nat → Prop := fun q => (∃ o, ex_on o ∧ q = ad o) ∨ sz ≤ q
def ex_In (ad : Nat → Nat) : Prop := (∀ i j, ex_on i → ex_on j → ad i = ad j → i = j) ∧ 24 ≤ ad 2500
def ex_Rm (d n : Nat) : Room := { frames := d, cells := n, slots := 64 * n, locals := 33 * d }
def ex_fit (R : Room) (d y : Nat) : Prop := d ≤ R.frames ∧ 33 * d ≤ R.locals ∧ (y = 104 → 33 * d + 10 ≤ R.locals)
/-- what is made so far: K: cells and slots at the entry, the count there -/
def ex_kc (K : Nat × Nat × Nat) (w : PW) : Nat := K.1 + (w.2.1 - K.2.2)
def ex_ks (K : Nat × Nat × Nat) (w : PW) : Nat := K.2.1 + 64 * (w.2.1 - K.2.2)
def ex_Sc (ad : Nat → Nat) (w : PW) : Prop := w.2.2.1 = ad 2999 ∧ ∀ j, w.2.2.2 j = Int32.ofNat (ad (3000 + j))
def ex_St (y : Nat) (ad0 ad : Nat → Nat) (sz : Nat) (K : Nat × Nat × Nat) (w : PW) : Prop := ex_Ad y ad0 ad sz ∧ ex_In ad ∧ K.2.2 ≤ w.2.1 ∧ ex_Sc ad0 w
def ex_Fix (p : Program) (l : Launch) (e : Env) (R : Room) (s : State) (m : MethodId) (args : Array Value) (c : Code) (dC : Nat → ClassId) (dI : Nat → Nat → Nat) (ad0 : Nat → Nat) (cI cB : ClassId) (y d : Nat) : Prop :=
  p.tables.exec = Jvm.exec ∧ c.code = ex_B y ∧ c.maxLocals = ex_L y ∧ s.vm.findClass (ex_Rn (ex_C y)) = some m.cls ∧ (∀ w ∈ ex_tb, w.before args s = true) ∧ ex_Cx dC dI ad0 cI cB (ex_AA ad0 s.heap.size) s s.heap ∧ ex_fit R d y ∧ ex_C y < 12
def ex_G (p : Program) (l : Launch) (e : Env) (R : Room) (s : State) (m : MethodId) (args : Array Value) (below : List Frame) (meth : Method) (c : Code) (Q : State → Prop) (dC : Nat → ClassId) (dI : Nat → Nat → Nat) (ad0 : Nat → Nat) (cI cB : ClassId) (K : Nat × Nat × Nat) (y : Nat) (code : List Instr) (pl st : List Value) (w : PW) : Prop :=
  ∀ (ad : Nat → Nat) (pc : Nat) (H : Heap) (locs : List Loc) (ls : Array Slot), ex_St y ad0 ad s.heap.size K w → ex_ok y pc code = true → va_P (dC, dI) ex_cm (ex_cel ad cI cB w) H → va_S (ex_AA ad0 s.heap.size) s.heap H locs → ex_LR ad (ex_L y) ls pl → W p l e R s m args below meth c H locs (ex_kc K w) (ex_ks K w) Q (F0 m pc ls (st.map (ex_tv ad)))
theorem ex_Ad.aa {y : Nat} {ad0 ad : Nat → Nat} {sz o : Nat} (h : ex_Ad y ad0 ad sz) (ho : ex_on o) : ex_AA ad0 sz (ad o) := by
  rcases h o with h | ⟨-, h⟩ | ⟨h, -⟩
  · exact Or.inl ⟨o, ho, h⟩
  · exact Or.inr h
  · have := ho.1; omega
theorem ex_vD {y : Nat} {ad0 ad : Nat → Nat} {cI cB : ClassId} {w : PW} {sz : Nat} {K : Nat × Nat × Nat} (hA : ex_St y ad0 ad sz K w) : va_D (ex_AA ad0 sz) (ex_cel ad cI cB w) := by
  have h := hA.2.1.1
  constructor
  · intro i j p q hi hj he
    rcases Nat.lt_or_ge i 50 with h1 | h1
    · rcases Nat.lt_or_ge j 50 with h2 | h2
      · rw [ex_cel_pos h1] at hi
        rw [ex_cel_pos h2] at hj
        rw [← Option.some.inj hi, ← Option.some.inj hj] at he
        exact ex_ob_in h1 h2 (h _ _ (ex_ob_on h1) (ex_ob_on h2) he)
      · rw [ex_cel_none h2] at hj; cases hj
    · rw [ex_cel_none h1] at hi; cases hi
  · intro k q hk
    rcases Nat.lt_or_ge k 50 with h1 | h1
    · rw [ex_cel_pos h1] at hk
      rw [← Option.some.inj hk]
      exact hA.1.aa (ex_ob_on h1)
    · rw [ex_cel_none h1] at hk; cases hk
theorem ex_ok_cons {y pc : Nat} {i : Instr} {c : List Instr} (hj : ex_jsr i = none) (h : ex_ok y pc (i :: c) = true) : ∃ j len, decode (ex_B y) pc = .ok (j, len) ∧ ex_okI y pc i j len = true ∧ ex_ok y (pc + len) c = true := by
  unfold ex_ok at h
  rw [hj] at h
  dsimp only at h
  cases hd : decode (ex_B y) pc with
  | error x => rw [hd] at h; cases h
  | ok q =>
    obtain ⟨j, len⟩ := q
    rw [hd] at h
    dsimp only at h
    rw [Bool.and_eq_true] at h
    exact ⟨j, len, rfl, h.1, h.2⟩
theorem ex_ok_jsr {y pc : Nat} {L : Int} {c : List Instr} (h : ex_ok y pc (.jsr L :: c) = true) : L = (pc : Int) := by
  have h2 : (decide (L = (pc : Int))) = true := h
  exact of_decide_eq_true h2
theorem ex_ok_blk (y L : Nat) : ex_ok y L (ex_blk y L) = true := by
  unfold ex_blk
  cases h : (ex_bs.getD y []).lookup L with
  | none => rfl
  | some b =>
    have hm := ex_lk h
    have := List.all_eq_true.mp (show (ex_bs.getD y []).all (fun q => ex_ok y q.1 q.2) = true from ex_okM_all y) _ hm
    exact this
theorem ex_okJ_spec {pc : Nat} {L off : Int} {len n : Nat} (h : ex_okJ pc L off len n = true) : (pc : Int) + off = ((L.toNat : Nat) : Int) ∧ len = n := by
  unfold ex_okJ at h
  simp only [Bool.and_eq_true, decide_eq_true_eq, beq_iff_eq] at h
  obtain ⟨⟨h1, h2⟩, h3⟩ := h
  exact ⟨by omega, h3⟩
section ES
variable {p : Program} {l : Launch} {e : Env} {R : Room} {s : State} {m : MethodId} {args : Array Value} {below : List Frame} {meth : Method} {c : Code} {Q : State → Prop} {dC : Nat → ClassId} {dI : Nat → Nat → Nat} {ad0 : Nat → Nat} {cI cB : ClassId} {K : Nat × Nat × Nat} {y d : Nat} {code : List Instr} {pl st : List Value} {w : PW}
theorem es_iadd (C : ex_Fix p l e R s m args c dC dI ad0 cI cB y d) {a b : Int32} (k : ex_G p l e R s m args below meth c Q dC dI ad0 cI cB K y (code) (pl) (.int (a + b) :: st) (w)) : ex_G p l e R s m args below meth c Q dC dI ad0 cI cB K y (.iadd :: code) (pl) (.int b :: .int a :: st) (w) := by
  intro ad pc H locs ls hA hok hP hS hL
  obtain ⟨hx, hb, hml, hown, hts, hC, hR, hcl⟩ := C
  obtain ⟨j, len, hd, hi, ho⟩ := ex_ok_cons rfl hok
  have hi : (decide (j = .iadd) && len == 1) = true := hi
  simp only [Bool.and_eq_true, decide_eq_true_eq, beq_iff_eq] at hi
  obtain ⟨rfl, rfl⟩ := hi
  exact lv_iadd hx hb hd (k ad _ H locs ls hA ho hP hS hL)
theorem es_isub (C : ex_Fix p l e R s m args c dC dI ad0 cI cB y d) {a b : Int32} (k : ex_G p l e R s m args below meth c Q dC dI ad0 cI cB K y (code) (pl) (.int (a - b) :: st) (w)) : ex_G p l e R s m args below meth c Q dC dI ad0 cI cB K y (.isub :: code) (pl) (.int b :: .int a :: st) (w) := by
  intro ad pc H locs ls hA hok hP hS hL
  obtain ⟨hx, hb, hml, hown, hts, hC, hR, hcl⟩ := C
  obtain ⟨j, len, hd, hi, ho⟩ := ex_ok_cons rfl hok
  have hi : (decide (j = .isub) && len == 1) = true := hi
  simp only [Bool.and_eq_true, decide_eq_true_eq, beq_iff_eq] at hi
  obtain ⟨rfl, rfl⟩ := hi
  exact lv_isub hx hb hd (k ad _ H locs ls hA ho hP hS hL)
theorem es_imul (C : ex_Fix p l e R s m args c dC dI ad0 cI cB y d) {a b : Int32} (k : ex_G p l e R s m args below meth c Q dC dI ad0 cI cB K y (code) (pl) (.int (a * b) :: st) (w)) : ex_G p l e R s m args below meth c Q dC dI ad0 cI cB K y (.imul :: code) (pl) (.int b :: .int a :: st) (w) := by
  intro ad pc H locs ls hA hok hP hS hL
  obtain ⟨hx, hb, hml, hown, hts, hC, hR, hcl⟩ := C
  obtain ⟨j, len, hd, hi, ho⟩ := ex_ok_cons rfl hok
  have hi : (decide (j = .imul) && len == 1) = true := hi
  simp only [Bool.and_eq_true, decide_eq_true_eq, beq_iff_eq] at hi
  obtain ⟨rfl, rfl⟩ := hi
  exact lv_imul hx hb hd (k ad _ H locs ls hA ho hP hS hL)
theorem es_iand (C : ex_Fix p l e R s m args c dC dI ad0 cI cB y d) {a b : Int32} (k : ex_G p l e R s m args below meth c Q dC dI ad0 cI cB K y (code) (pl) (.int (a &&& b) :: st) (w)) : ex_G p l e R s m args below meth c Q dC dI ad0 cI cB K y (.iand :: code) (pl) (.int b :: .int a :: st) (w) := by
  intro ad pc H locs ls hA hok hP hS hL
  obtain ⟨hx, hb, hml, hown, hts, hC, hR, hcl⟩ := C
  obtain ⟨j, len, hd, hi, ho⟩ := ex_ok_cons rfl hok
  have hi : (decide (j = .iand) && len == 1) = true := hi
  simp only [Bool.and_eq_true, decide_eq_true_eq, beq_iff_eq] at hi
  obtain ⟨rfl, rfl⟩ := hi
  exact lv_iand hx hb hd (k ad _ H locs ls hA ho hP hS hL)
theorem es_ior (C : ex_Fix p l e R s m args c dC dI ad0 cI cB y d) {a b : Int32} (k : ex_G p l e R s m args below meth c Q dC dI ad0 cI cB K y (code) (pl) (.int (a ||| b) :: st) (w)) : ex_G p l e R s m args below meth c Q dC dI ad0 cI cB K y (.ior :: code) (pl) (.int b :: .int a :: st) (w) := by
  intro ad pc H locs ls hA hok hP hS hL
  obtain ⟨hx, hb, hml, hown, hts, hC, hR, hcl⟩ := C
  obtain ⟨j, len, hd, hi, ho⟩ := ex_ok_cons rfl hok
  have hi : (decide (j = .ior) && len == 1) = true := hi
  simp only [Bool.and_eq_true, decide_eq_true_eq, beq_iff_eq] at hi
  obtain ⟨rfl, rfl⟩ := hi
  exact lv_ior hx hb hd (k ad _ H locs ls hA ho hP hS hL)
theorem es_ixor (C : ex_Fix p l e R s m args c dC dI ad0 cI cB y d) {a b : Int32} (k : ex_G p l e R s m args below meth c Q dC dI ad0 cI cB K y (code) (pl) (.int (a ^^^ b) :: st) (w)) : ex_G p l e R s m args below meth c Q dC dI ad0 cI cB K y (.ixor :: code) (pl) (.int b :: .int a :: st) (w) := by
  intro ad pc H locs ls hA hok hP hS hL
  obtain ⟨hx, hb, hml, hown, hts, hC, hR, hcl⟩ := C
  obtain ⟨j, len, hd, hi, ho⟩ := ex_ok_cons rfl hok
  have hi : (decide (j = .ixor) && len == 1) = true := hi
  simp only [Bool.and_eq_true, decide_eq_true_eq, beq_iff_eq] at hi
  obtain ⟨rfl, rfl⟩ := hi
  exact lv_ixor hx hb hd (k ad _ H locs ls hA ho hP hS hL)
theorem es_ishl (C : ex_Fix p l e R s m args c dC dI ad0 cI cB y d) {a b : Int32} (k : ex_G p l e R s m args below meth c Q dC dI ad0 cI cB K y (code) (pl) (.int (a <<< (b &&& 31)) :: st) (w)) : ex_G p l e R s m args below meth c Q dC dI ad0 cI cB K y (.ishl :: code) (pl) (.int b :: .int a :: st) (w) := by
  intro ad pc H locs ls hA hok hP hS hL
  obtain ⟨hx, hb, hml, hown, hts, hC, hR, hcl⟩ := C
  obtain ⟨j, len, hd, hi, ho⟩ := ex_ok_cons rfl hok
  have hi : (decide (j = .ishl) && len == 1) = true := hi
  simp only [Bool.and_eq_true, decide_eq_true_eq, beq_iff_eq] at hi
  obtain ⟨rfl, rfl⟩ := hi
  exact lv_ishl hx hb hd (k ad _ H locs ls hA ho hP hS hL)
theorem es_ishr (C : ex_Fix p l e R s m args c dC dI ad0 cI cB y d) {a b : Int32} (k : ex_G p l e R s m args below meth c Q dC dI ad0 cI cB K y (code) (pl) (.int (a >>> (b &&& 31)) :: st) (w)) : ex_G p l e R s m args below meth c Q dC dI ad0 cI cB K y (.ishr :: code) (pl) (.int b :: .int a :: st) (w) := by
  intro ad pc H locs ls hA hok hP hS hL
  obtain ⟨hx, hb, hml, hown, hts, hC, hR, hcl⟩ := C
  obtain ⟨j, len, hd, hi, ho⟩ := ex_ok_cons rfl hok
  have hi : (decide (j = .ishr) && len == 1) = true := hi
  simp only [Bool.and_eq_true, decide_eq_true_eq, beq_iff_eq] at hi
  obtain ⟨rfl, rfl⟩ := hi
  exact lv_ishr hx hb hd (k ad _ H locs ls hA ho hP hS hL)
theorem es_idiv (C : ex_Fix p l e R s m args c dC dI ad0 cI cB y d) {a b : Int32} (hz : ¬ b = 0) (k : ex_G p l e R s m args below meth c Q dC dI ad0 cI cB K y (code) (pl) (.int (a / b) :: st) (w)) : ex_G p l e R s m args below meth c Q dC dI ad0 cI cB K y (.idiv :: code) (pl) (.int b :: .int a :: st) (w) := by
  intro ad pc H locs ls hA hok hP hS hL
  obtain ⟨hx, hb, hml, hown, hts, hC, hR, hcl⟩ := C
  obtain ⟨j, len, hd, hi, ho⟩ := ex_ok_cons rfl hok
  have hi : (decide (j = .idiv) && len == 1) = true := hi
  simp only [Bool.and_eq_true, decide_eq_true_eq, beq_iff_eq] at hi
  obtain ⟨rfl, rfl⟩ := hi
  exact lv_idiv hx hb hd hz (k ad _ H locs ls hA ho hP hS hL)
theorem es_irem (C : ex_Fix p l e R s m args c dC dI ad0 cI cB y d) {a b : Int32} (hz : ¬ b = 0) (k : ex_G p l e R s m args below meth c Q dC dI ad0 cI cB K y (code) (pl) (.int (a - a / b * b) :: st) (w)) : ex_G p l e R s m args below meth c Q dC dI ad0 cI cB K y (.irem :: code) (pl) (.int b :: .int a :: st) (w) := by
  intro ad pc H locs ls hA hok hP hS hL
  obtain ⟨hx, hb, hml, hown, hts, hC, hR, hcl⟩ := C
  obtain ⟨j, len, hd, hi, ho⟩ := ex_ok_cons rfl hok
  have hi : (decide (j = .irem) && len == 1) = true := hi
  simp only [Bool.and_eq_true, decide_eq_true_eq, beq_iff_eq] at hi
  obtain ⟨rfl, rfl⟩ := hi
  exact lv_irem hx hb hd hz (k ad _ H locs ls hA ho hP hS hL)
theorem es_ladd (C : ex_Fix p l e R s m args c dC dI ad0 cI cB y d) {a b : Int64} (k : ex_G p l e R s m args below meth c Q dC dI ad0 cI cB K y (code) (pl) (.long (a + b) :: st) (w)) : ex_G p l e R s m args below meth c Q dC dI ad0 cI cB K y (.ladd :: code) (pl) (.long b :: .long a :: st) (w) := by
  intro ad pc H locs ls hA hok hP hS hL
  obtain ⟨hx, hb, hml, hown, hts, hC, hR, hcl⟩ := C
  obtain ⟨j, len, hd, hi, ho⟩ := ex_ok_cons rfl hok
  have hi : (decide (j = .ladd) && len == 1) = true := hi
  simp only [Bool.and_eq_true, decide_eq_true_eq, beq_iff_eq] at hi
  obtain ⟨rfl, rfl⟩ := hi
  exact lv_ladd hx hb hd (k ad _ H locs ls hA ho hP hS hL)
theorem es_lmul (C : ex_Fix p l e R s m args c dC dI ad0 cI cB y d) {a b : Int64} (k : ex_G p l e R s m args below meth c Q dC dI ad0 cI cB K y (code) (pl) (.long (a * b) :: st) (w)) : ex_G p l e R s m args below meth c Q dC dI ad0 cI cB K y (.lmul :: code) (pl) (.long b :: .long a :: st) (w) := by
  intro ad pc H locs ls hA hok hP hS hL
  obtain ⟨hx, hb, hml, hown, hts, hC, hR, hcl⟩ := C
  obtain ⟨j, len, hd, hi, ho⟩ := ex_ok_cons rfl hok
  have hi : (decide (j = .lmul) && len == 1) = true := hi
  simp only [Bool.and_eq_true, decide_eq_true_eq, beq_iff_eq] at hi
  obtain ⟨rfl, rfl⟩ := hi
  exact lv_lmul hx hb hd (k ad _ H locs ls hA ho hP hS hL)
theorem es_land (C : ex_Fix p l e R s m args c dC dI ad0 cI cB y d) {a b : Int64} (k : ex_G p l e R s m args below meth c Q dC dI ad0 cI cB K y (code) (pl) (.long (a &&& b) :: st) (w)) : ex_G p l e R s m args below meth c Q dC dI ad0 cI cB K y (.land :: code) (pl) (.long b :: .long a :: st) (w) := by
  intro ad pc H locs ls hA hok hP hS hL
  obtain ⟨hx, hb, hml, hown, hts, hC, hR, hcl⟩ := C
  obtain ⟨j, len, hd, hi, ho⟩ := ex_ok_cons rfl hok
  have hi : (decide (j = .land) && len == 1) = true := hi
  simp only [Bool.and_eq_true, decide_eq_true_eq, beq_iff_eq] at hi
  obtain ⟨rfl, rfl⟩ := hi
  exact lv_land hx hb hd (k ad _ H locs ls hA ho hP hS hL)
theorem es_lshr (C : ex_Fix p l e R s m args c dC dI ad0 cI cB y d) {a : Int64} {b : Int32} (k : ex_G p l e R s m args below meth c Q dC dI ad0 cI cB K y (code) (pl) (.long (a >>> (b.toInt64 &&& 63)) :: st) (w)) : ex_G p l e R s m args below meth c Q dC dI ad0 cI cB K y (.lshr :: code) (pl) (.int b :: .long a :: st) (w) := by
  intro ad pc H locs ls hA hok hP hS hL
  obtain ⟨hx, hb, hml, hown, hts, hC, hR, hcl⟩ := C
  obtain ⟨j, len, hd, hi, ho⟩ := ex_ok_cons rfl hok
  have hi : (decide (j = .lshr) && len == 1) = true := hi
  simp only [Bool.and_eq_true, decide_eq_true_eq, beq_iff_eq] at hi
  obtain ⟨rfl, rfl⟩ := hi
  exact lv_lshr hx hb hd rfl (k ad _ H locs ls hA ho hP hS hL)
theorem es_lushr (C : ex_Fix p l e R s m args c dC dI ad0 cI cB y d) {a : Int64} {b : Int32} (k : ex_G p l e R s m args below meth c Q dC dI ad0 cI cB K y (code) (pl) (.long (a.toUInt64 >>> (b.toInt64.toUInt64 &&& Int64.toUInt64 63)).toInt64 :: st) (w)) : ex_G p l e R s m args below meth c Q dC dI ad0 cI cB K y (.lushr :: code) (pl) (.int b :: .long a :: st) (w) := by
  intro ad pc H locs ls hA hok hP hS hL
  obtain ⟨hx, hb, hml, hown, hts, hC, hR, hcl⟩ := C
  obtain ⟨j, len, hd, hi, ho⟩ := ex_ok_cons rfl hok
  have hi : (decide (j = .lushr) && len == 1) = true := hi
  simp only [Bool.and_eq_true, decide_eq_true_eq, beq_iff_eq] at hi
  obtain ⟨rfl, rfl⟩ := hi
  exact lv_lushr hx hb hd rfl (k ad _ H locs ls hA ho hP hS hL)
theorem es_i2l (C : ex_Fix p l e R s m args c dC dI ad0 cI cB y d) {a : Int32} (k : ex_G p l e R s m args below meth c Q dC dI ad0 cI cB K y (code) (pl) (.long a.toInt64 :: st) (w)) : ex_G p l e R s m args below meth c Q dC dI ad0 cI cB K y (.i2l :: code) (pl) (.int a :: st) (w) := by
  intro ad pc H locs ls hA hok hP hS hL
  obtain ⟨hx, hb, hml, hown, hts, hC, hR, hcl⟩ := C
  obtain ⟨j, len, hd, hi, ho⟩ := ex_ok_cons rfl hok
  have hi : (decide (j = .i2l) && len == 1) = true := hi
  simp only [Bool.and_eq_true, decide_eq_true_eq, beq_iff_eq] at hi
  obtain ⟨rfl, rfl⟩ := hi
  exact lv_i2l hx hb hd rfl (k ad _ H locs ls hA ho hP hS hL)
theorem es_l2i (C : ex_Fix p l e R s m args c dC dI ad0 cI cB y d) {a : Int64} (k : ex_G p l e R s m args below meth c Q dC dI ad0 cI cB K y (code) (pl) (.int a.toInt32 :: st) (w)) : ex_G p l e R s m args below meth c Q dC dI ad0 cI cB K y (.l2i :: code) (pl) (.long a :: st) (w) := by
  intro ad pc H locs ls hA hok hP hS hL
  obtain ⟨hx, hb, hml, hown, hts, hC, hR, hcl⟩ := C
  obtain ⟨j, len, hd, hi, ho⟩ := ex_ok_cons rfl hok
  have hi : (decide (j = .l2i) && len == 1) = true := hi
  simp only [Bool.and_eq_true, decide_eq_true_eq, beq_iff_eq] at hi
  obtain ⟨rfl, rfl⟩ := hi
  exact lv_l2i hx hb hd rfl (k ad _ H locs ls hA ho hP hS hL)
theorem es_i2b (C : ex_Fix p l e R s m args c dC dI ad0 cI cB y d) {a : Int32} (k : ex_G p l e R s m args below meth c Q dC dI ad0 cI cB K y (code) (pl) (.int a.toInt8.toInt32 :: st) (w)) : ex_G p l e R s m args below meth c Q dC dI ad0 cI cB K y (.i2b :: code) (pl) (.int a :: st) (w) := by
  intro ad pc H locs ls hA hok hP hS hL
  obtain ⟨hx, hb, hml, hown, hts, hC, hR, hcl⟩ := C
  obtain ⟨j, len, hd, hi, ho⟩ := ex_ok_cons rfl hok
  have hi : (decide (j = .i2b) && len == 1) = true := hi
  simp only [Bool.and_eq_true, decide_eq_true_eq, beq_iff_eq] at hi
  obtain ⟨rfl, rfl⟩ := hi
  exact lv_i2b hx hb hd rfl (k ad _ H locs ls hA ho hP hS hL)
theorem es_dup_r (C : ex_Fix p l e R s m args c dC dI ad0 cI cB y d) {a : Nat} (k : ex_G p l e R s m args below meth c Q dC dI ad0 cI cB K y (code) (pl) (.ref a :: .ref a :: st) (w)) : ex_G p l e R s m args below meth c Q dC dI ad0 cI cB K y (.dup :: code) (pl) (.ref a :: st) (w) := by
  intro ad pc H locs ls hA hok hP hS hL
  obtain ⟨hx, hb, hml, hown, hts, hC, hR, hcl⟩ := C
  obtain ⟨j, len, hd, hi, ho⟩ := ex_ok_cons rfl hok
  have hi : (decide (j = .dup) && len == 1) = true := hi
  simp only [Bool.and_eq_true, decide_eq_true_eq, beq_iff_eq] at hi
  obtain ⟨rfl, rfl⟩ := hi
  exact lv_dup (va := .ref (ad a)) hx hb hd rfl (k ad _ H locs ls hA ho hP hS hL)
theorem es_dup_i (C : ex_Fix p l e R s m args c dC dI ad0 cI cB y d) {a : Int32} (k : ex_G p l e R s m args below meth c Q dC dI ad0 cI cB K y (code) (pl) (.int a :: .int a :: st) (w)) : ex_G p l e R s m args below meth c Q dC dI ad0 cI cB K y (.dup :: code) (pl) (.int a :: st) (w) := by
  intro ad pc H locs ls hA hok hP hS hL
  obtain ⟨hx, hb, hml, hown, hts, hC, hR, hcl⟩ := C
  obtain ⟨j, len, hd, hi, ho⟩ := ex_ok_cons rfl hok
  have hi : (decide (j = .dup) && len == 1) = true := hi
  simp only [Bool.and_eq_true, decide_eq_true_eq, beq_iff_eq] at hi
  obtain ⟨rfl, rfl⟩ := hi
  exact lv_dup (va := .int a) hx hb hd rfl (k ad _ H locs ls hA ho hP hS hL)
theorem es_dup2 (C : ex_Fix p l e R s m args c dC dI ad0 cI cB y d) {a : Int32} {b : Nat} (k : ex_G p l e R s m args below meth c Q dC dI ad0 cI cB K y (code) (pl) (.int a :: .ref b :: .int a :: .ref b :: st) (w)) : ex_G p l e R s m args below meth c Q dC dI ad0 cI cB K y (.dup2 :: code) (pl) (.int a :: .ref b :: st) (w) := by
  intro ad pc H locs ls hA hok hP hS hL
  obtain ⟨hx, hb, hml, hown, hts, hC, hR, hcl⟩ := C
  obtain ⟨j, len, hd, hi, ho⟩ := ex_ok_cons rfl hok
  have hi : (decide (j = .dup2) && len == 1) = true := hi
  simp only [Bool.and_eq_true, decide_eq_true_eq, beq_iff_eq] at hi
  obtain ⟨rfl, rfl⟩ := hi
  exact lv_dup2_11 (va := .int a) (vb := .ref (ad b)) hx hb hd rfl rfl (k ad _ H locs ls hA ho hP hS hL)
theorem es_pop (C : ex_Fix p l e R s m args c dC dI ad0 cI cB y d) {a : Int32} (k : ex_G p l e R s m args below meth c Q dC dI ad0 cI cB K y (code) (pl) (st) (w)) : ex_G p l e R s m args below meth c Q dC dI ad0 cI cB K y (.pop :: code) (pl) (.int a :: st) (w) := by
  intro ad pc H locs ls hA hok hP hS hL
  obtain ⟨hx, hb, hml, hown, hts, hC, hR, hcl⟩ := C
  obtain ⟨j, len, hd, hi, ho⟩ := ex_ok_cons rfl hok
  have hi : (decide (j = .pop) && len == 1) = true := hi
  simp only [Bool.and_eq_true, decide_eq_true_eq, beq_iff_eq] at hi
  obtain ⟨rfl, rfl⟩ := hi
  exact lv_pop (va := .int a) hx hb hd rfl (k ad _ H locs ls hA ho hP hS hL)
theorem es_iload (C : ex_Fix p l e R s m args c dC dI ad0 cI cB y d) {i : Nat} {x : Int32} (hg : pl.getD i .null = .int x) (k : ex_G p l e R s m args below meth c Q dC dI ad0 cI cB K y (code) (pl) (.int x :: st) (w)) : ex_G p l e R s m args below meth c Q dC dI ad0 cI cB K y (.iload i :: code) (pl) (st) (w) := by
  intro ad pc H locs ls hA hok hP hS hL
  obtain ⟨hx, hb, hml, hown, hts, hC, hR, hcl⟩ := C
  obtain ⟨j, len, hd, hi, ho⟩ := ex_ok_cons rfl hok
  have hi : ((decide (j = .iload i) && len == 2) || (if h : i < 4 then decide (j = .iload_n ⟨i, h⟩) && len == 1 else false)) = true := hi
  have hl := hL.get (ex_getD hg (by intro q; cases q)) rfl
  rcases Bool.or_eq_true _ _ ▸ hi with hi | hi
  · simp only [Bool.and_eq_true, decide_eq_true_eq, beq_iff_eq] at hi
    obtain ⟨rfl, rfl⟩ := hi
    exact lv_iload hx hb hd hl (k ad _ H locs ls hA ho hP hS hL)
  · by_cases h4 : i < 4
    · rw [dif_pos h4] at hi
      simp only [Bool.and_eq_true, decide_eq_true_eq, beq_iff_eq] at hi
      obtain ⟨rfl, rfl⟩ := hi
      exact lv_iload_n hx hb hd rfl hl (k ad _ H locs ls hA ho hP hS hL)
    · rw [dif_neg h4] at hi
      cases hi
theorem es_aload (C : ex_Fix p l e R s m args c dC dI ad0 cI cB y d) {i : Nat} {x : Nat} (hg : pl.getD i .null = .ref x) (k : ex_G p l e R s m args below meth c Q dC dI ad0 cI cB K y (code) (pl) (.ref x :: st) (w)) : ex_G p l e R s m args below meth c Q dC dI ad0 cI cB K y (.aload i :: code) (pl) (st) (w) := by
  intro ad pc H locs ls hA hok hP hS hL
  obtain ⟨hx, hb, hml, hown, hts, hC, hR, hcl⟩ := C
  obtain ⟨j, len, hd, hi, ho⟩ := ex_ok_cons rfl hok
  have hi : ((decide (j = .aload i) && len == 2) || (if h : i < 4 then decide (j = .aload_n ⟨i, h⟩) && len == 1 else false)) = true := hi
  have hl := hL.get (ex_getD hg (by intro q; cases q)) rfl
  rcases Bool.or_eq_true _ _ ▸ hi with hi | hi
  · simp only [Bool.and_eq_true, decide_eq_true_eq, beq_iff_eq] at hi
    obtain ⟨rfl, rfl⟩ := hi
    exact lv_aload hx hb hd hl (k ad _ H locs ls hA ho hP hS hL)
  · by_cases h4 : i < 4
    · rw [dif_pos h4] at hi
      simp only [Bool.and_eq_true, decide_eq_true_eq, beq_iff_eq] at hi
      obtain ⟨rfl, rfl⟩ := hi
      exact lv_aload_n hx hb hd rfl hl (k ad _ H locs ls hA ho hP hS hL)
    · rw [dif_neg h4] at hi
      cases hi
theorem es_lload (C : ex_Fix p l e R s m args c dC dI ad0 cI cB y d) {i : Nat} {x : Int64} (hg : pl.getD i .null = .long x) (k : ex_G p l e R s m args below meth c Q dC dI ad0 cI cB K y (code) (pl) (.long x :: st) (w)) : ex_G p l e R s m args below meth c Q dC dI ad0 cI cB K y (.lload i :: code) (pl) (st) (w) := by
  intro ad pc H locs ls hA hok hP hS hL
  obtain ⟨hx, hb, hml, hown, hts, hC, hR, hcl⟩ := C
  obtain ⟨j, len, hd, hi, ho⟩ := ex_ok_cons rfl hok
  have hi : ((decide (j = .lload i) && len == 2) || (if h : i < 4 then decide (j = .lload_n ⟨i, h⟩) && len == 1 else false)) = true := hi
  have hl := hL.get (ex_getD hg (by intro q; cases q)) rfl
  rcases Bool.or_eq_true _ _ ▸ hi with hi | hi
  · simp only [Bool.and_eq_true, decide_eq_true_eq, beq_iff_eq] at hi
    obtain ⟨rfl, rfl⟩ := hi
    exact lv_lload hx hb hd hl (k ad _ H locs ls hA ho hP hS hL)
  · by_cases h4 : i < 4
    · rw [dif_pos h4] at hi
      simp only [Bool.and_eq_true, decide_eq_true_eq, beq_iff_eq] at hi
      obtain ⟨rfl, rfl⟩ := hi
      exact lv_lload_n hx hb hd rfl hl (k ad _ H locs ls hA ho hP hS hL)
    · rw [dif_neg h4] at hi
      cases hi
theorem es_istore (C : ex_Fix p l e R s m args c dC dI ad0 cI cB y d) {i : Nat} {x : Int32} {a : Value} (hg : pl[i]? = some a) (hr : ∀ n, a ≠ .retAddr n) (k : ex_G p l e R s m args below meth c Q dC dI ad0 cI cB K y (code) (pl.set i (.int x)) (st) (w)) : ex_G p l e R s m args below meth c Q dC dI ad0 cI cB K y (.istore i :: code) (pl) (.int x :: st) (w) := by
  intro ad pc H locs ls hA hok hP hS hL
  obtain ⟨hx, hb, hml, hown, hts, hC, hR, hcl⟩ := C
  obtain ⟨j, len, hd, hi, ho⟩ := ex_ok_cons rfl hok
  have hi : ((decide (j = .istore i) && len == 2) || (if h : i < 4 then decide (j = .istore_n ⟨i, h⟩) && len == 1 else false)) = true := hi
  have hn : i < ex_L y := by rw [← hL.1]; exact (List.getElem?_eq_some_iff.mp hg).1
  rcases Bool.or_eq_true _ _ ▸ hi with hi | hi
  · simp only [Bool.and_eq_true, decide_eq_true_eq, beq_iff_eq] at hi
    obtain ⟨rfl, rfl⟩ := hi
    exact lv_istore hx hb hd hL.2.1 hn rfl (fun ls' h' => k ad _ H locs ls' hA ho hP hS (hL.set1 hg hr rfl rfl h'))
  · by_cases h4 : i < 4
    · rw [dif_pos h4] at hi
      simp only [Bool.and_eq_true, decide_eq_true_eq, beq_iff_eq] at hi
      obtain ⟨rfl, rfl⟩ := hi
      exact lv_istore_n hx hb hd rfl hL.2.1 hn rfl (fun ls' h' => k ad _ H locs ls' hA ho hP hS (hL.set1 hg hr rfl rfl h'))
    · rw [dif_neg h4] at hi
      cases hi
theorem es_astore (C : ex_Fix p l e R s m args c dC dI ad0 cI cB y d) {i : Nat} {x : Nat} {a : Value} (hg : pl[i]? = some a) (hr : ∀ n, a ≠ .retAddr n) (k : ex_G p l e R s m args below meth c Q dC dI ad0 cI cB K y (code) (pl.set i (.ref x)) (st) (w)) : ex_G p l e R s m args below meth c Q dC dI ad0 cI cB K y (.astore i :: code) (pl) (.ref x :: st) (w) := by
  intro ad pc H locs ls hA hok hP hS hL
  obtain ⟨hx, hb, hml, hown, hts, hC, hR, hcl⟩ := C
  obtain ⟨j, len, hd, hi, ho⟩ := ex_ok_cons rfl hok
  have hi : ((decide (j = .astore i) && len == 2) || (if h : i < 4 then decide (j = .astore_n ⟨i, h⟩) && len == 1 else false)) = true := hi
  have hn : i < ex_L y := by rw [← hL.1]; exact (List.getElem?_eq_some_iff.mp hg).1
  rcases Bool.or_eq_true _ _ ▸ hi with hi | hi
  · simp only [Bool.and_eq_true, decide_eq_true_eq, beq_iff_eq] at hi
    obtain ⟨rfl, rfl⟩ := hi
    exact lv_astore hx hb hd hL.2.1 hn rfl (fun ls' h' => k ad _ H locs ls' hA ho hP hS (hL.set1 hg hr rfl rfl h'))
  · by_cases h4 : i < 4
    · rw [dif_pos h4] at hi
      simp only [Bool.and_eq_true, decide_eq_true_eq, beq_iff_eq] at hi
      obtain ⟨rfl, rfl⟩ := hi
      exact lv_astore_n hx hb hd rfl hL.2.1 hn rfl (fun ls' h' => k ad _ H locs ls' hA ho hP hS (hL.set1 hg hr rfl rfl h'))
    · rw [dif_neg h4] at hi
      cases hi
theorem es_lstore (C : ex_Fix p l e R s m args c dC dI ad0 cI cB y d) {i : Nat} {x : Int64} {a : Value} (hg : pl[i]? = some a) (hr : ∀ n, a ≠ .retAddr n) (hk : i + 1 < pl.length) (k : ex_G p l e R s m args below meth c Q dC dI ad0 cI cB K y (code) ((pl.set (i + 1) (.retAddr 0)).set i (.long x)) (st) (w)) : ex_G p l e R s m args below meth c Q dC dI ad0 cI cB K y (.lstore i :: code) (pl) (.long x :: st) (w) := by
  intro ad pc H locs ls hA hok hP hS hL
  obtain ⟨hx, hb, hml, hown, hts, hC, hR, hcl⟩ := C
  obtain ⟨j, len, hd, hi, ho⟩ := ex_ok_cons rfl hok
  have hi : ((decide (j = .lstore i) && len == 2) || (if h : i < 4 then decide (j = .lstore_n ⟨i, h⟩) && len == 1 else false)) = true := hi
  have hn : i + 1 < ex_L y := by rw [← hL.1]; exact hk
  rcases Bool.or_eq_true _ _ ▸ hi with hi | hi
  · simp only [Bool.and_eq_true, decide_eq_true_eq, beq_iff_eq] at hi
    obtain ⟨rfl, rfl⟩ := hi
    exact lv_lstore hx hb hd hL.2.1 hn rfl (fun ls' h' => k ad _ H locs ls' hA ho hP hS (hL.set2 hg hr hk h'))
  · by_cases h4 : i < 4
    · rw [dif_pos h4] at hi
      simp only [Bool.and_eq_true, decide_eq_true_eq, beq_iff_eq] at hi
      obtain ⟨rfl, rfl⟩ := hi
      exact lv_lstore_n hx hb hd rfl hL.2.1 hn rfl (fun ls' h' => k ad _ H locs ls' hA ho hP hS (hL.set2 hg hr hk h'))
    · rw [dif_neg h4] at hi
      cases hi
theorem es_iinc (C : ex_Fix p l e R s m args c dC dI ad0 cI cB y d) {i : Nat} {n : Int} {x : Int32} (hg : pl.getD i .null = .int x) (k : ex_G p l e R s m args below meth c Q dC dI ad0 cI cB K y (code) (pl.set i (.int (x + Int32.ofInt n))) (st) (w)) : ex_G p l e R s m args below meth c Q dC dI ad0 cI cB K y (.iinc i n :: code) (pl) (st) (w) := by
  intro ad pc H locs ls hA hok hP hS hL
  obtain ⟨hx, hb, hml, hown, hts, hC, hR, hcl⟩ := C
  obtain ⟨j, len, hd, hi, ho⟩ := ex_ok_cons rfl hok
  have hi : (decide (j = .iinc i n) && len == 3) = true := hi
  simp only [Bool.and_eq_true, decide_eq_true_eq, beq_iff_eq] at hi
  obtain ⟨rfl, rfl⟩ := hi
  have hg2 := ex_getD hg (by intro q; cases q)
  have hn : i < ex_L y := by rw [← hL.1]; exact (List.getElem?_eq_some_iff.mp hg2).1
  have hm : (i, Value.int x) ∈ ex_asc ad 0 pl := ex_asc_mem.mpr ⟨i, .int x, hg2, rfl, by omega, rfl⟩
  obtain ⟨q, hq⟩ := List.getElem?_of_mem hm
  exact lv_iinc hx hb hd hL.2.1 hq rfl hn rfl (fun ls' h' => k ad _ H locs ls' hA ho hP hS (hL.set1 hg2 (by intro n q; cases q) rfl rfl h'))
theorem es_push (C : ex_Fix p l e R s m args c dC dI ad0 cI cB y d) {n : Int} (k : ex_G p l e R s m args below meth c Q dC dI ad0 cI cB K y (code) (pl) (.int (Int32.ofInt n) :: st) (w)) : ex_G p l e R s m args below meth c Q dC dI ad0 cI cB K y (.sipush n :: code) (pl) (st) (w) := by
  intro ad pc H locs ls hA hok hP hS hL
  obtain ⟨hx, hb, hml, hown, hts, hC, hR, hcl⟩ := C
  obtain ⟨j, len, hd, hi, ho⟩ := ex_ok_cons rfl hok
  unfold ex_okI at hi
  dsimp only at hi
  cases j with
  | iconst a =>
    simp only [Bool.and_eq_true, beq_iff_eq] at hi
    obtain ⟨rfl, rfl⟩ := hi
    exact lv_iconst hx hb hd rfl (k ad _ H locs ls hA ho hP hS hL)
  | bipush a =>
    simp only [Bool.and_eq_true, beq_iff_eq] at hi
    obtain ⟨⟨rfl, rfl⟩, h3⟩ := hi
    exact lv_bipush hx hb hd h3 (k ad _ H locs ls hA ho hP hS hL)
  | sipush a =>
    simp only [Bool.and_eq_true, beq_iff_eq] at hi
    obtain ⟨⟨rfl, rfl⟩, h3⟩ := hi
    exact lv_sipush hx hb hd h3 (k ad _ H locs ls hA ho hP hS hL)
  | ldc a =>
    simp only [Bool.and_eq_true, beq_iff_eq] at hi
    obtain ⟨h3, rfl⟩ := hi
    have hq := kq_K hcl _ (ex_lk h3)
    exact lv_ldc hx hb hown (hts _ hq) hd (k ad _ H locs ls hA ho hP hS hL)
  | _ => cases hi
theorem es_lpush (C : ex_Fix p l e R s m args c dC dI ad0 cI cB y d) {n : Int} (k : ex_G p l e R s m args below meth c Q dC dI ad0 cI cB K y (code) (pl) (.long (Int64.ofInt n) :: st) (w)) : ex_G p l e R s m args below meth c Q dC dI ad0 cI cB K y (.goto_w n :: code) (pl) (st) (w) := by
  intro ad pc H locs ls hA hok hP hS hL
  obtain ⟨hx, hb, hml, hown, hts, hC, hR, hcl⟩ := C
  obtain ⟨j, len, hd, hi, ho⟩ := ex_ok_cons rfl hok
  unfold ex_okI at hi
  dsimp only at hi
  cases j with
  | ldc2_w a =>
    simp only [Bool.and_eq_true, beq_iff_eq] at hi
    obtain ⟨h3, rfl⟩ := hi
    have hq := kq_L hcl _ (ex_lk h3)
    exact lv_ldc2 hx hb hown (hts _ hq) hd (k ad _ H locs ls hA ho hP hS hL)
  | _ => cases hi
theorem es_jsr (C : ex_Fix p l e R s m args c dC dI ad0 cI cB y d) {L : Int} (k : ex_G p l e R s m args below meth c Q dC dI ad0 cI cB K y (ex_blk y L.toNat) (pl) (st) (w)) : ex_G p l e R s m args below meth c Q dC dI ad0 cI cB K y (.jsr L :: code) (pl) (st) (w) := by
  intro ad pc H locs ls hA hok hP hS hL
  obtain ⟨hx, hb, hml, hown, hts, hC, hR, hcl⟩ := C
  have hL2 := ex_ok_jsr hok
  have : L.toNat = pc := by omega
  exact k ad pc H locs ls hA (by rw [this]; exact ex_ok_blk y pc) hP hS hL
theorem es_goto (C : ex_Fix p l e R s m args c dC dI ad0 cI cB y d) {L : Int} (k : ex_G p l e R s m args below meth c Q dC dI ad0 cI cB K y (ex_blk y L.toNat) (pl) (st) (w)) : ex_G p l e R s m args below meth c Q dC dI ad0 cI cB K y (.goto L :: code) (pl) (st) (w) := by
  intro ad pc H locs ls hA hok hP hS hL
  obtain ⟨hx, hb, hml, hown, hts, hC, hR, hcl⟩ := C
  obtain ⟨j, len, hd, hi, ho⟩ := ex_ok_cons rfl hok
  unfold ex_okI at hi
  dsimp only at hi
  cases j with
  | goto off =>
    obtain ⟨h1, rfl⟩ := ex_okJ_spec hi
    exact lv_goto hx hb hd h1 (k ad _ H locs ls hA (ex_ok_blk y _) hP hS hL)
  | _ => cases hi
theorem es_icmp_eq (C : ex_Fix p l e R s m args c dC dI ad0 cI cB y d) {a b : Int32} {L : Int} (kt : a = b → ex_G p l e R s m args below meth c Q dC dI ad0 cI cB K y (ex_blk y L.toNat) (pl) (st) (w)) (kf : ¬ a = b → ex_G p l e R s m args below meth c Q dC dI ad0 cI cB K y (code) (pl) (st) (w)) : ex_G p l e R s m args below meth c Q dC dI ad0 cI cB K y (.if_icmp .eq L :: code) (pl) (.int b :: .int a :: st) (w) := by
  intro ad pc H locs ls hA hok hP hS hL
  obtain ⟨hx, hb, hml, hown, hts, hC, hR, hcl⟩ := C
  obtain ⟨j, len, hd, hi, ho⟩ := ex_ok_cons rfl hok
  unfold ex_okI at hi
  dsimp only at hi
  cases j with
  | if_icmp ce off =>
    simp only [Bool.and_eq_true, decide_eq_true_eq] at hi
    obtain ⟨rfl, h3⟩ := hi
    obtain ⟨h1, rfl⟩ := ex_okJ_spec h3
    exact lv_icmp_eq hx hb hd h1 (fun q => kt q ad _ H locs ls hA (ex_ok_blk y _) hP hS hL) (fun q => kf q ad _ H locs ls hA ho hP hS hL)
  | _ => cases hi
theorem es_if_eq (C : ex_Fix p l e R s m args c dC dI ad0 cI cB y d) {a : Int32} {L : Int} (kt : a = 0 → ex_G p l e R s m args below meth c Q dC dI ad0 cI cB K y (ex_blk y L.toNat) (pl) (st) (w)) (kf : ¬ a = 0 → ex_G p l e R s m args below meth c Q dC dI ad0 cI cB K y (code) (pl) (st) (w)) : ex_G p l e R s m args below meth c Q dC dI ad0 cI cB K y (.ifCond .eq L :: code) (pl) (.int a :: st) (w) := by
  intro ad pc H locs ls hA hok hP hS hL
  obtain ⟨hx, hb, hml, hown, hts, hC, hR, hcl⟩ := C
  obtain ⟨j, len, hd, hi, ho⟩ := ex_ok_cons rfl hok
  unfold ex_okI at hi
  dsimp only at hi
  cases j with
  | ifCond ce off =>
    simp only [Bool.and_eq_true, decide_eq_true_eq] at hi
    obtain ⟨rfl, h3⟩ := hi
    obtain ⟨h1, rfl⟩ := ex_okJ_spec h3
    exact lv_if_eq hx hb hd h1 (fun q => kt q ad _ H locs ls hA (ex_ok_blk y _) hP hS hL) (fun q => kf q ad _ H locs ls hA ho hP hS hL)
  | _ => cases hi
theorem es_icmp_ne (C : ex_Fix p l e R s m args c dC dI ad0 cI cB y d) {a b : Int32} {L : Int} (kt : ¬ a = b → ex_G p l e R s m args below meth c Q dC dI ad0 cI cB K y (ex_blk y L.toNat) (pl) (st) (w)) (kf : a = b → ex_G p l e R s m args below meth c Q dC dI ad0 cI cB K y (code) (pl) (st) (w)) : ex_G p l e R s m args below meth c Q dC dI ad0 cI cB K y (.if_icmp .ne L :: code) (pl) (.int b :: .int a :: st) (w) := by
  intro ad pc H locs ls hA hok hP hS hL
  obtain ⟨hx, hb, hml, hown, hts, hC, hR, hcl⟩ := C
  obtain ⟨j, len, hd, hi, ho⟩ := ex_ok_cons rfl hok
  unfold ex_okI at hi
  dsimp only at hi
  cases j with
  | if_icmp ce off =>
    simp only [Bool.and_eq_true, decide_eq_true_eq] at hi
    obtain ⟨rfl, h3⟩ := hi
    obtain ⟨h1, rfl⟩ := ex_okJ_spec h3
    exact lv_icmp_ne hx hb hd h1 (fun q => kt q ad _ H locs ls hA (ex_ok_blk y _) hP hS hL) (fun q => kf q ad _ H locs ls hA ho hP hS hL)
  | _ => cases hi
theorem es_if_ne (C : ex_Fix p l e R s m args c dC dI ad0 cI cB y d) {a : Int32} {L : Int} (kt : ¬ a = 0 → ex_G p l e R s m args below meth c Q dC dI ad0 cI cB K y (ex_blk y L.toNat) (pl) (st) (w)) (kf : a = 0 → ex_G p l e R s m args below meth c Q dC dI ad0 cI cB K y (code) (pl) (st) (w)) : ex_G p l e R s m args below meth c Q dC dI ad0 cI cB K y (.ifCond .ne L :: code) (pl) (.int a :: st) (w) := by
  intro ad pc H locs ls hA hok hP hS hL
  obtain ⟨hx, hb, hml, hown, hts, hC, hR, hcl⟩ := C
  obtain ⟨j, len, hd, hi, ho⟩ := ex_ok_cons rfl hok
  unfold ex_okI at hi
  dsimp only at hi
  cases j with
  | ifCond ce off =>
    simp only [Bool.and_eq_true, decide_eq_true_eq] at hi
    obtain ⟨rfl, h3⟩ := hi
    obtain ⟨h1, rfl⟩ := ex_okJ_spec h3
    exact lv_if_ne hx hb hd h1 (fun q => kt q ad _ H locs ls hA (ex_ok_blk y _) hP hS hL) (fun q => kf q ad _ H locs ls hA ho hP hS hL)
  | _ => cases hi
theorem es_icmp_lt (C : ex_Fix p l e R s m args c dC dI ad0 cI cB y d) {a b : Int32} {L : Int} (kt : a < b → ex_G p l e R s m args below meth c Q dC dI ad0 cI cB K y (ex_blk y L.toNat) (pl) (st) (w)) (kf : ¬ a < b → ex_G p l e R s m args below meth c Q dC dI ad0 cI cB K y (code) (pl) (st) (w)) : ex_G p l e R s m args below meth c Q dC dI ad0 cI cB K y (.if_icmp .lt L :: code) (pl) (.int b :: .int a :: st) (w) := by
  intro ad pc H locs ls hA hok hP hS hL
  obtain ⟨hx, hb, hml, hown, hts, hC, hR, hcl⟩ := C
  obtain ⟨j, len, hd, hi, ho⟩ := ex_ok_cons rfl hok
  unfold ex_okI at hi
  dsimp only at hi
  cases j with
  | if_icmp ce off =>
    simp only [Bool.and_eq_true, decide_eq_true_eq] at hi
    obtain ⟨rfl, h3⟩ := hi
    obtain ⟨h1, rfl⟩ := ex_okJ_spec h3
    exact lv_icmp_lt hx hb hd h1 (fun q => kt q ad _ H locs ls hA (ex_ok_blk y _) hP hS hL) (fun q => kf q ad _ H locs ls hA ho hP hS hL)
  | _ => cases hi
theorem es_if_lt (C : ex_Fix p l e R s m args c dC dI ad0 cI cB y d) {a : Int32} {L : Int} (kt : a < 0 → ex_G p l e R s m args below meth c Q dC dI ad0 cI cB K y (ex_blk y L.toNat) (pl) (st) (w)) (kf : ¬ a < 0 → ex_G p l e R s m args below meth c Q dC dI ad0 cI cB K y (code) (pl) (st) (w)) : ex_G p l e R s m args below meth c Q dC dI ad0 cI cB K y (.ifCond .lt L :: code) (pl) (.int a :: st) (w) := by
  intro ad pc H locs ls hA hok hP hS hL
  obtain ⟨hx, hb, hml, hown, hts, hC, hR, hcl⟩ := C
  obtain ⟨j, len, hd, hi, ho⟩ := ex_ok_cons rfl hok
  unfold ex_okI at hi
  dsimp only at hi
  cases j with
  | ifCond ce off =>
    simp only [Bool.and_eq_true, decide_eq_true_eq] at hi
    obtain ⟨rfl, h3⟩ := hi
    obtain ⟨h1, rfl⟩ := ex_okJ_spec h3
    exact lv_if_lt hx hb hd h1 (fun q => kt q ad _ H locs ls hA (ex_ok_blk y _) hP hS hL) (fun q => kf q ad _ H locs ls hA ho hP hS hL)
  | _ => cases hi
theorem es_icmp_ge (C : ex_Fix p l e R s m args c dC dI ad0 cI cB y d) {a b : Int32} {L : Int} (kt : b ≤ a → ex_G p l e R s m args below meth c Q dC dI ad0 cI cB K y (ex_blk y L.toNat) (pl) (st) (w)) (kf : ¬ b ≤ a → ex_G p l e R s m args below meth c Q dC dI ad0 cI cB K y (code) (pl) (st) (w)) : ex_G p l e R s m args below meth c Q dC dI ad0 cI cB K y (.if_icmp .ge L :: code) (pl) (.int b :: .int a :: st) (w) := by
  intro ad pc H locs ls hA hok hP hS hL
  obtain ⟨hx, hb, hml, hown, hts, hC, hR, hcl⟩ := C
  obtain ⟨j, len, hd, hi, ho⟩ := ex_ok_cons rfl hok
  unfold ex_okI at hi
  dsimp only at hi
  cases j with
  | if_icmp ce off =>
    simp only [Bool.and_eq_true, decide_eq_true_eq] at hi
    obtain ⟨rfl, h3⟩ := hi
    obtain ⟨h1, rfl⟩ := ex_okJ_spec h3
    exact lv_icmp_ge hx hb hd h1 (fun q => kt q ad _ H locs ls hA (ex_ok_blk y _) hP hS hL) (fun q => kf q ad _ H locs ls hA ho hP hS hL)
  | _ => cases hi
theorem es_if_ge (C : ex_Fix p l e R s m args c dC dI ad0 cI cB y d) {a : Int32} {L : Int} (kt : 0 ≤ a → ex_G p l e R s m args below meth c Q dC dI ad0 cI cB K y (ex_blk y L.toNat) (pl) (st) (w)) (kf : ¬ 0 ≤ a → ex_G p l e R s m args below meth c Q dC dI ad0 cI cB K y (code) (pl) (st) (w)) : ex_G p l e R s m args below meth c Q dC dI ad0 cI cB K y (.ifCond .ge L :: code) (pl) (.int a :: st) (w) := by
  intro ad pc H locs ls hA hok hP hS hL
  obtain ⟨hx, hb, hml, hown, hts, hC, hR, hcl⟩ := C
  obtain ⟨j, len, hd, hi, ho⟩ := ex_ok_cons rfl hok
  unfold ex_okI at hi
  dsimp only at hi
  cases j with
  | ifCond ce off =>
    simp only [Bool.and_eq_true, decide_eq_true_eq] at hi
    obtain ⟨rfl, h3⟩ := hi
    obtain ⟨h1, rfl⟩ := ex_okJ_spec h3
    exact lv_if_ge hx hb hd h1 (fun q => kt q ad _ H locs ls hA (ex_ok_blk y _) hP hS hL) (fun q => kf q ad _ H locs ls hA ho hP hS hL)
  | _ => cases hi
theorem es_icmp_gt (C : ex_Fix p l e R s m args c dC dI ad0 cI cB y d) {a b : Int32} {L : Int} (kt : b < a → ex_G p l e R s m args below meth c Q dC dI ad0 cI cB K y (ex_blk y L.toNat) (pl) (st) (w)) (kf : ¬ b < a → ex_G p l e R s m args below meth c Q dC dI ad0 cI cB K y (code) (pl) (st) (w)) : ex_G p l e R s m args below meth c Q dC dI ad0 cI cB K y (.if_icmp .gt L :: code) (pl) (.int b :: .int a :: st) (w) := by
  intro ad pc H locs ls hA hok hP hS hL
  obtain ⟨hx, hb, hml, hown, hts, hC, hR, hcl⟩ := C
  obtain ⟨j, len, hd, hi, ho⟩ := ex_ok_cons rfl hok
  unfold ex_okI at hi
  dsimp only at hi
  cases j with
  | if_icmp ce off =>
    simp only [Bool.and_eq_true, decide_eq_true_eq] at hi
    obtain ⟨rfl, h3⟩ := hi
    obtain ⟨h1, rfl⟩ := ex_okJ_spec h3
    exact lv_icmp_gt hx hb hd h1 (fun q => kt q ad _ H locs ls hA (ex_ok_blk y _) hP hS hL) (fun q => kf q ad _ H locs ls hA ho hP hS hL)
  | _ => cases hi
theorem es_if_gt (C : ex_Fix p l e R s m args c dC dI ad0 cI cB y d) {a : Int32} {L : Int} (kt : 0 < a → ex_G p l e R s m args below meth c Q dC dI ad0 cI cB K y (ex_blk y L.toNat) (pl) (st) (w)) (kf : ¬ 0 < a → ex_G p l e R s m args below meth c Q dC dI ad0 cI cB K y (code) (pl) (st) (w)) : ex_G p l e R s m args below meth c Q dC dI ad0 cI cB K y (.ifCond .gt L :: code) (pl) (.int a :: st) (w) := by
  intro ad pc H locs ls hA hok hP hS hL
  obtain ⟨hx, hb, hml, hown, hts, hC, hR, hcl⟩ := C
  obtain ⟨j, len, hd, hi, ho⟩ := ex_ok_cons rfl hok
  unfold ex_okI at hi
  dsimp only at hi
  cases j with
  | ifCond ce off =>
    simp only [Bool.and_eq_true, decide_eq_true_eq] at hi
    obtain ⟨rfl, h3⟩ := hi
    obtain ⟨h1, rfl⟩ := ex_okJ_spec h3
    exact lv_if_gt hx hb hd h1 (fun q => kt q ad _ H locs ls hA (ex_ok_blk y _) hP hS hL) (fun q => kf q ad _ H locs ls hA ho hP hS hL)
  | _ => cases hi
theorem es_icmp_le (C : ex_Fix p l e R s m args c dC dI ad0 cI cB y d) {a b : Int32} {L : Int} (kt : a ≤ b → ex_G p l e R s m args below meth c Q dC dI ad0 cI cB K y (ex_blk y L.toNat) (pl) (st) (w)) (kf : ¬ a ≤ b → ex_G p l e R s m args below meth c Q dC dI ad0 cI cB K y (code) (pl) (st) (w)) : ex_G p l e R s m args below meth c Q dC dI ad0 cI cB K y (.if_icmp .le L :: code) (pl) (.int b :: .int a :: st) (w) := by
  intro ad pc H locs ls hA hok hP hS hL
  obtain ⟨hx, hb, hml, hown, hts, hC, hR, hcl⟩ := C
  obtain ⟨j, len, hd, hi, ho⟩ := ex_ok_cons rfl hok
  unfold ex_okI at hi
  dsimp only at hi
  cases j with
  | if_icmp ce off =>
    simp only [Bool.and_eq_true, decide_eq_true_eq] at hi
    obtain ⟨rfl, h3⟩ := hi
    obtain ⟨h1, rfl⟩ := ex_okJ_spec h3
    exact lv_icmp_le hx hb hd h1 (fun q => kt q ad _ H locs ls hA (ex_ok_blk y _) hP hS hL) (fun q => kf q ad _ H locs ls hA ho hP hS hL)
  | _ => cases hi
theorem es_if_le (C : ex_Fix p l e R s m args c dC dI ad0 cI cB y d) {a : Int32} {L : Int} (kt : a ≤ 0 → ex_G p l e R s m args below meth c Q dC dI ad0 cI cB K y (ex_blk y L.toNat) (pl) (st) (w)) (kf : ¬ a ≤ 0 → ex_G p l e R s m args below meth c Q dC dI ad0 cI cB K y (code) (pl) (st) (w)) : ex_G p l e R s m args below meth c Q dC dI ad0 cI cB K y (.ifCond .le L :: code) (pl) (.int a :: st) (w) := by
  intro ad pc H locs ls hA hok hP hS hL
  obtain ⟨hx, hb, hml, hown, hts, hC, hR, hcl⟩ := C
  obtain ⟨j, len, hd, hi, ho⟩ := ex_ok_cons rfl hok
  unfold ex_okI at hi
  dsimp only at hi
  cases j with
  | ifCond ce off =>
    simp only [Bool.and_eq_true, decide_eq_true_eq] at hi
    obtain ⟨rfl, h3⟩ := hi
    obtain ⟨h1, rfl⟩ := ex_okJ_spec h3
    exact lv_if_le hx hb hd h1 (fun q => kt q ad _ H locs ls hA (ex_ok_blk y _) hP hS hL) (fun q => kf q ad _ H locs ls hA ho hP hS hL)
  | _ => cases hi
end ES
end
section
/-! steps, second half: fields, arrays, switches, calls -/
theorem ex_decl : ∀ c, c < 12 → ∀ k, k < ex_N c → (ex_T c k).1 = ex_Rn c := by decide +kernel
theorem ex_cat2 {v : Value} : v.category ≤ 2 := by cases v <;> first | exact Nat.le_refl 2 | exact Nat.le_succ 1
theorem ex_i1_cat {ad : Nat → Nat} {v : Value} (h : ex_i1 v = true) : (ex_tv ad v).category = 1 := by
  cases v <;> first | rfl | cases h
theorem ex_low_cat {ad : Nat → Nat} {st : List Value} (h : ex_low st = true) : ((st.map (ex_tv ad)).map fun v => v.category).sum ≤ 8 := by
  match st, h with
  | [], _ => exact Nat.zero_le 8
  | [a], _ => have h1 := @ex_cat2 (ex_tv ad a); simp only [List.map, List.sum_cons, List.sum_nil]; omega
  | [a, b], _ => have h1 := @ex_cat2 (ex_tv ad a); have h2 := @ex_cat2 (ex_tv ad b); simp only [List.map, List.sum_cons, List.sum_nil]; omega
  | [a, b, c], _ => have h1 := @ex_cat2 (ex_tv ad a); have h2 := @ex_cat2 (ex_tv ad b); have h3 := @ex_cat2 (ex_tv ad c); simp only [List.map, List.sum_cons, List.sum_nil]; omega
  | [a, b, c, f], _ => have h1 := @ex_cat2 (ex_tv ad a); have h2 := @ex_cat2 (ex_tv ad b); have h3 := @ex_cat2 (ex_tv ad c); have h4 := @ex_cat2 (ex_tv ad f); simp only [List.map, List.sum_cons, List.sum_nil]; omega
  | [a, b, c, f, g], h =>
    have h : (ex_i1 a && (ex_i1 b && (ex_i1 c && ex_i1 f))) = true := h
    rw [Bool.and_eq_true, Bool.and_eq_true, Bool.and_eq_true] at h
    have h1 := ex_i1_cat (ad := ad) h.1
    have h2 := ex_i1_cat (ad := ad) h.2.1
    have h3 := ex_i1_cat (ad := ad) h.2.2.1
    have h4 := ex_i1_cat (ad := ad) h.2.2.2
    have h5 := @ex_cat2 (ex_tv ad g)
    simp only [List.map, List.sum_cons, List.sum_nil]; omega
theorem ex_spl_spec {n : Nat} {acc st as rest : List Value} (h : ex_spl n acc st = some (as, rest)) : ∃ pre, st = pre ++ rest ∧ as = pre.reverse ++ acc ∧ pre.length = n := by
  induction n generalizing acc st with
  | zero =>
    have h2 : some (acc, st) = some (as, rest) := h
    cases h2
    exact ⟨[], rfl, rfl, rfl⟩
  | succ n ih =>
    cases st with
    | nil => cases h
    | cons v st =>
      obtain ⟨pre, h1, h2, h3⟩ := ih (show ex_spl n (v :: acc) st = some (as, rest) from h)
      exact ⟨v :: pre, by rw [h1]; rfl, by rw [h2]; simp, by rw [List.length_cons, h3]⟩
theorem ex_nw_warm {s U : State} (hW : s.WarmedH U.vm) : ∀ x ∈ ex_nw, va_Nw x s → va_Nw x U := by
  unfold ex_nw
  repeat' first
    | exact fun _ h => absurd h List.not_mem_nil
    | refine List.forall_mem_cons.mpr ⟨?_, ?_⟩
    | exact fun h => va_Nw.warmM hW h
    | exact fun h => va_Nw.warmD hW h
theorem ex_nw_same {u U : State} (h : u.vm = U.vm) : ∀ x ∈ ex_nw, va_Nw x u → va_Nw x U := by
  intro x hx
  have : x.onTables = true := List.all_eq_true.mp (show ex_nw.all (fun x => x.onTables) = true from rfl) x hx
  exact va_Nw.same this h
theorem ex_Cx.to {dC : Nat → ClassId} {dI : Nat → Nat → Nat} {ad : Nat → Nat} {cI cB : ClassId} {A B : Nat → Prop} {u U : State} {H H1 : Heap} (h : ex_Cx dC dI ad cI cB A u H) (h1 : u.vm.Alike U.vm) (h2 : ∀ x ∈ ex_nw, va_Nw x u → va_Nw x U) (h3 : ∀ a : Nat, a < H.size → ¬ A a → H1[a]? = H[a]?) (h4 : ∀ q, B q → A q) : ex_Cx dC dI ad cI cB B U H1 := by
  obtain ⟨a1, a2, a3, a4, a5, a6, a7⟩ := h
  exact ⟨a1.moved h1, fun x hx => h2 x hx (a2 x hx), ((a3.moved h1).kept h3).narrow h4, ((a4.moved h1).kept h3).narrow h4, ((a5.moved h1).kept h3).narrow h4, ((a6.moved h1).kept h3).narrow h4, ((a7.moved h1).kept h3).narrow h4⟩
theorem ex_Cx.ad {dC : Nat → ClassId} {dI : Nat → Nat → Nat} {ad0 ad : Nat → Nat} {cI cB : ClassId} {A : Nat → Prop} {U : State} {H : Heap} (h : ex_Cx dC dI ad0 cI cB A U H) (he : ∀ o, 53 ≤ o → ¬ o = 2500 → ad o = ad0 o) : ex_Cx dC dI ad cI cB A U H := by
  obtain ⟨a1, a2, a3, a4, a5, a6, a7⟩ := h
  have e0 := he 1000 (by omega) (by omega)
  have e1 := he 1001 (by omega) (by omega)
  have e2 := he 2000 (by omega) (by omega)
  have e3 := he 2999 (by omega) (by omega)
  have e4 : (fun j => Value.int (Int32.ofNat (ad (3000 + j)))) = fun j => Value.int (Int32.ofNat (ad0 (3000 + j))) := by
    funext j
    rw [he (3000 + j) (by omega) (by omega)]
  unfold ex_Cx
  rw [e0, e1, e2, e3, e4]
  exact ⟨a1, a2, a3, a4, a5, a6, a7⟩
theorem ex_Sc.ad {ad0 ad : Nat → Nat} {w w1 : PW} (h : ex_Sc ad0 w) (he : ∀ o, 53 ≤ o → ¬ o = 2500 → ad o = ad0 o) (hw : w1.2.2 = w.2.2) : ex_Sc ad w1 := by
  obtain ⟨h1, h2⟩ := h
  unfold ex_Sc
  rw [hw, he 2999 (by omega) (by omega)]
  exact ⟨h1, fun j => by rw [he (3000 + j) (by omega) (by omega)]; exact h2 j⟩
/-- what is answered is no reference -/
def ex_nf (r : Option Value) : Prop := ∀ v, r = some v → ∀ o, v ≠ .ref o
def ex_ws (y : Nat) : List Jvm.Cond := Jvm.Cond.code (ex_Y y) (ex_B y) (ex_L y) (ex_ret y) :: ex_tb
def ex_Pre (dC : Nat → ClassId) (dI : Nat → Nat → Nat) (ad : Nat → Nat) (cI cB : ClassId) (sz : Nat) (w : PW) (U : State) : Prop :=
  U.heap.size = sz ∧ va_P (dC, dI) ex_cm (ex_cel ad cI cB w) U.heap ∧ ex_Cx dC dI ad cI cB (ex_AA ad sz) U U.heap ∧ ex_In ad ∧ ex_Sc ad w
def ex_Post (dC : Nat → ClassId) (dI : Nat → Nat → Nat) (ad : Nat → Nat) (cI cB : ClassId) (sz y : Nat) (r : Option Value) (w : PW) : Array Value → State → Outcome → State → Prop := fun _ st oc t =>
  oc = .returned (r.map (ex_tv ad)) ∧ (∃ ad', ex_Ad y ad ad' sz ∧ ex_In ad' ∧ va_P (dC, dI) ex_cm (ex_cel ad' cI cB w) t.heap) ∧ va_F (ex_AA ad sz) st t
/-- THE CONTRACT of a method: what the pure machine answers, the real one does -/
def ex_Con (l : Launch) (d y : Nat) (as : List Value) (w : PW) (r : Option Value) (w1 : PW) : Prop :=
  ∀ (dC : Nat → ClassId) (dI : Nat → Nat → Nat) (ad : Nat → Nat) (cI cB : ClassId) (sz : Nat), Met l (ex_Y y) (ex_ws y) (ex_Rm d (w1.2.1 - w.2.1)) (va_Pc (as.map (ex_tv ad)) (ex_Pre dC dI ad cI cB sz w)) (ex_Post dC dI ad cI cB sz y r w1) (w1.2.1 - w.2.1) (64 * (w1.2.1 - w.2.1)) (ex_AA ad sz)
theorem ex_blind {dC : Nat → ClassId} {dI : Nat → Nat → Nat} {ad : Nat → Nat} {cI cB : ClassId} {sz : Nat} {w : PW} {vs : List Value} : FrameBlind (va_Pc vs (ex_Pre dC dI ad cI cB sz w)) := by
  intro a U g mk h
  obtain ⟨h0, h1, h2, h3, h4, h5⟩ := h
  exact ⟨h0, h1, h2, h3.to (U := U.calling g mk a) (Vm.Alike.refl U.vm) (ex_nw_same rfl) (fun _ _ _ => rfl) (fun _ q => q), h4, h5⟩
theorem ex_AA_le {ad : Nat → Nat} {a b : Nat} (h : a ≤ b) : ∀ q, ex_AA ad b q → ex_AA ad a q := by
  rintro q (q1 | q2)
  · exact Or.inl q1
  · exact Or.inr (Nat.le_trans h q2)
theorem ex_tb_good : ∀ w ∈ ex_tb, goodWord w = true := fun _ h => (List.mem_filter.mp h).2
theorem ex_ws_tb {y : Nat} (hy : ex_Pm y) : ∀ w ∈ ex_ws y, w ∈ ex_tb := by
  intro w h
  rcases List.mem_cons.mp h with rfl | h
  · exact hy.1
  · exact h
theorem ex_pay {args : Array Value} {s : State} {y : Nat} (hts : ∀ w ∈ ex_tb, w.before args s = true) (hy : ex_Pm y) : ∀ w ∈ ex_ws y, ∀ (a' : Array Value) (U : State), s.WarmedH U.vm → w.before a' U = true :=
  fun w hw _ _ hW => word_at hW (good_of_word (ex_tb_good w (ex_ws_tb hy w hw))) (hts w (ex_ws_tb hy w hw))
theorem ex_AA_ad {y : Nat} {ad0 ad : Nat → Nat} {a b : Nat} (hA : ex_Ad y ad0 ad a) (h : a ≤ b) : ∀ q, ex_AA ad b q → ex_AA ad0 a q := by
  rintro q (⟨o, ho, rfl⟩ | q2)
  · exact hA.aa ho
  · exact Or.inr (Nat.le_trans h q2)
theorem ex_Rm_fit {d mL y n : Nat} {R : Room} (h : mL ≤ 14 ∨ (mL ≤ 24 ∧ y = 104)) (hR : ex_fit R (d + 1) y) : (ex_Rm d n).frames + 1 ≤ R.frames ∧ 8 + (mL + 11) + (ex_Rm d n).locals ≤ R.locals := by
  obtain ⟨h1, h2, h3⟩ := hR
  refine ⟨h1, ?_⟩
  show 8 + (mL + 11) + 33 * d ≤ R.locals
  rcases h with h | ⟨h, hy⟩
  · omega
  · have := h3 hy; omega
theorem ex_cls_L : ∀ y, y < 92 → ex_L y ≤ 14 ∧ ex_al y = false := by decide +kernel
theorem ex_cls_11 : ∀ y, y < 92 → (ex_C y == 11) = false := by decide +kernel
theorem ex_dy_of {z o : Nat} (hz : z < 104) (h : ex_dy z o = true) : o = 51 ∧ ex_al z = true := by
  unfold ex_dy at h
  unfold ex_al
  simp only [Bool.or_eq_true, Bool.and_eq_true, beq_iff_eq] at h ⊢
  omega
section ET
variable {p : Program} {l : Launch} {e : Env} {R : Room} {s : State} {m : MethodId} {args : Array Value} {below : List Frame} {meth : Method} {c : Code} {Q : State → Prop} {dC : Nat → ClassId} {dI : Nat → Nat → Nat} {ad0 : Nat → Nat} {cI cB : ClassId} {K : Nat × Nat × Nat} {y d : Nat} {code : List Instr} {pl st : List Value} {w : PW}
theorem es_tswitch (C : ex_Fix p l e R s m args c dC dI ad0 cI cB y d) {df lo hi : Int} {offs : Array Int} {a : Int32} (k1 : a.toInt < lo ∨ hi < a.toInt → ex_G p l e R s m args below meth c Q dC dI ad0 cI cB K y (ex_blk y df.toNat) (pl) (st) (w)) (k2 : ¬ (a.toInt < lo ∨ hi < a.toInt) → ex_G p l e R s m args below meth c Q dC dI ad0 cI cB K y (ex_blk y ((offs.toList.getD (a.toInt - lo).toNat 0).toNat)) (pl) (st) (w)) : ex_G p l e R s m args below meth c Q dC dI ad0 cI cB K y (.tableswitch df lo hi offs :: code) (pl) (.int a :: st) (w) := by
  intro ad pc H locs ls hA hok hP hS hL
  obtain ⟨hx, hb, hml, hown, hts, hC, hR, hcl⟩ := C
  obtain ⟨j, len, hd, hq, ho⟩ := ex_ok_cons rfl hok
  unfold ex_okI at hq
  dsimp only at hq
  cases j with
  | tableswitch d2 l2 h2 o2 =>
    simp only [Bool.and_eq_true, decide_eq_true_eq, beq_iff_eq] at hq
    obtain ⟨⟨⟨⟨⟨⟨e1, e2⟩, rfl⟩, rfl⟩, e3⟩, e4⟩, e5⟩ := hq
    by_cases hin : a.toInt < lo ∨ hi < a.toInt
    · exact lv_tableOut hx hb hd hin (tgt := df.toNat) (by omega) (k1 hin ad _ H locs ls hA (ex_ok_blk y _) hP hS hL)
    · have hk : (a.toInt - lo).toNat < o2.toList.length := by
        rw [Array.length_toList]; omega
      have hoff : o2[(a.toInt - lo).toNat]? = some (o2.toList[(a.toInt - lo).toNat]) := by
        rw [← Array.getElem?_toList]
        exact List.getElem?_eq_getElem hk
      have hg : offs.toList.getD (a.toInt - lo).toNat 0 = (pc : Int) + o2.toList[(a.toInt - lo).toNat] := by
        rw [List.getD_eq_getElem?_getD, e3, List.getElem?_map, List.getElem?_eq_getElem hk]
        rfl
      have hn : 0 ≤ offs.toList.getD (a.toInt - lo).toNat 0 := by
        have hm : offs.toList.getD (a.toInt - lo).toNat 0 ∈ offs.toList := by
          rw [hg, e3]
          exact List.mem_map.mpr ⟨_, List.getElem_mem hk, rfl⟩
        have := List.all_eq_true.mp e4 _ hm
        exact of_decide_eq_true this
      exact lv_tableIn hx hb hd (by omega) (by omega) hoff (tgt := (offs.toList.getD (a.toInt - lo).toNat 0).toNat) (by rw [← hg]; omega) (k2 hin ad _ H locs ls hA (ex_ok_blk y _) hP hS hL)
  | _ => cases hq
theorem ex_lks_off {qs : List (Int × Int)} {d2 x pc : Int} : ex_lks (qs.map fun q => (q.1, pc + q.2)) (pc + d2) x = pc + Op.lookupswitch.offset qs d2 x := by
  induction qs with
  | nil => rfl
  | cons q r ih =>
    obtain ⟨a, b⟩ := q
    show (if x = a then pc + b else ex_lks (r.map fun q => (q.1, pc + q.2)) (pc + d2) x) = pc + (if a = x then b else Op.lookupswitch.offset r d2 x)
    by_cases h : x = a
    · rw [if_pos h, if_pos h.symm]
    · rw [if_neg h, if_neg (fun q => h q.symm), ih]
theorem ex_lks_nn {ps : List (Int × Int)} {df x : Int} (h : (ps.all fun q => decide (0 ≤ q.2)) = true) (hd : 0 ≤ df) : 0 ≤ ex_lks ps df x := by
  induction ps with
  | nil => exact hd
  | cons q r ih =>
    rw [List.all_cons, Bool.and_eq_true] at h
    show 0 ≤ (if x = q.1 then q.2 else ex_lks r df x)
    split
    · exact of_decide_eq_true h.1
    · exact ih h.2
theorem es_lswitch (C : ex_Fix p l e R s m args c dC dI ad0 cI cB y d) {df : Int} {ps : Array (Int × Int)} {a : Int32} (k : ex_G p l e R s m args below meth c Q dC dI ad0 cI cB K y (ex_blk y (ex_lks ps.toList df a.toInt).toNat) (pl) (st) (w)) : ex_G p l e R s m args below meth c Q dC dI ad0 cI cB K y (.lookupswitch df ps :: code) (pl) (.int a :: st) (w) := by
  intro ad pc H locs ls hA hok hP hS hL
  obtain ⟨hx, hb, hml, hown, hts, hC, hR, hcl⟩ := C
  obtain ⟨j, len, hd, hi, ho⟩ := ex_ok_cons rfl hok
  unfold ex_okI at hi
  dsimp only at hi
  cases j with
  | lookupswitch d2 p2 =>
    simp only [Bool.and_eq_true, decide_eq_true_eq] at hi
    obtain ⟨⟨e1, e2⟩, e3⟩ := hi
    unfold ex_okZ at e3
    rw [Bool.and_eq_true, Bool.and_eq_true] at e3
    obtain ⟨⟨e4, e5⟩, e6⟩ := e3
    have e4 := of_decide_eq_true e4
    have e7 : ex_lks ps.toList df a.toInt = (pc : Int) + Op.lookupswitch.offset p2.toList d2 a.toInt := by rw [e4, e1]; exact ex_lks_off
    have e8 : 0 ≤ ex_lks ps.toList df a.toInt := ex_lks_nn e5 e2
    exact lv_lookup hx hb hd e6 rfl (tgt := (ex_lks ps.toList df a.toInt).toNat) (by omega) (k ad _ H locs ls hA (ex_ok_blk y _) hP hS hL)
  | _ => cases hi
theorem es_getf (C : ex_Fix p l e R s m args c dC dI ad0 cI cB y d) {o f : Nat} {v : Value} (hf : ex_fv w o f = some v) (k : ex_G p l e R s m args below meth c Q dC dI ad0 cI cB K y (code) (pl) (v :: st) (w)) : ex_G p l e R s m args below meth c Q dC dI ad0 cI cB K y (.getfield f :: code) (pl) (.ref o :: st) (w) := by
  intro ad pc H locs ls hA hok hP hS hL
  obtain ⟨hx, hb, hml, hown, hts, hC, hR, hcl⟩ := C
  obtain ⟨j, len, hd, hi, ho⟩ := ex_ok_cons rfl hok
  unfold ex_okI at hi
  dsimp only at hi
  cases j with
  | getfield a =>
    simp only [Bool.and_eq_true, beq_iff_eq] at hi
    obtain ⟨h3, rfl⟩ := hi
    obtain ⟨hlink, hc, hk⟩ := kq_F hcl _ (ex_lk h3)
    unfold ex_fv at hf
    cases hkd : ex_fk o f with
    | none => rw [hkd] at hf; cases hf
    | some kd =>
      obtain ⟨ks, h1, h2⟩ := ex_fk_spec hkd
      have he : (ex_cel ad cI cB w)[ex_ps o]? = some (ad o, .inr (f / 64, ex_fs ad w o ks)) := by rw [ex_cel_at (ex_lto h1 (by dsimp only; omega)), ex_en_obj h1 hc]
      have hv : (ex_fs ad w o ks)[f % 64]? = some (ex_tv ad v) := by
        rw [ex_fs_at h2]
        rw [hkd] at hf
        match kd, hf with
        | 0, hf => cases hf; rfl
        | 1, hf => cases hf
        | 2, hf => cases hf; rfl
        | n + 3, hf => cases hf; rfl
      exact va_get (D := (dC, dI)) (own := ex_Rn (ex_C y)) (ref := ex_Rn (f / 64)) (C := ex_Rn (f / 64)) (T := ex_T (f / 64)) (N := ex_N (f / 64)) (Ts := ex_tb) hx hb hts (ku_all hc) hown hC.1 hP (ex_ps o) he (ex_cl_at (by have := ex_no11 h1; dsimp only at this; omega)) (f % 64) hk (hts _ hlink) (by rw [ex_decl _ hc _ hk]; exact fun _ h9 => h9) hv hd (k ad _ H locs ls hA ho hP hS hL)
  | _ => cases hi
theorem es_putf (C : ex_Fix p l e R s m args c dC dI ad0 cI cB y d) {o f kd : Nat} {x : Int32} (hf : ex_fk o f = some kd) (hkd : kd = 0 ∨ (kd = 2 ∧ (x = 0 ∨ x = 1))) (k : ex_G p l e R s m args below meth c Q dC dI ad0 cI cB K y (code) (pl) (st) (ex_up w o (f % 64) x)) : ex_G p l e R s m args below meth c Q dC dI ad0 cI cB K y (.putfield f :: code) (pl) (.int x :: .ref o :: st) (w) := by
  intro ad pc H locs ls hA hok hP hS hL
  obtain ⟨hx, hb, hml, hown, hts, hC, hR, hcl⟩ := C
  obtain ⟨j, len, hd, hi, ho⟩ := ex_ok_cons rfl hok
  unfold ex_okI at hi
  dsimp only at hi
  cases j with
  | putfield a =>
    simp only [Bool.and_eq_true, beq_iff_eq, Bool.not_eq_true'] at hi
    obtain ⟨⟨h3, rfl⟩, hfin⟩ := hi
    obtain ⟨hlink, hc, hk⟩ := kq_F hcl _ (ex_lk h3)
    obtain ⟨ks, h1, h2⟩ := ex_fk_spec hf
    have he : (ex_cel ad cI cB w)[ex_ps o]? = some (ad o, .inr (f / 64, ex_fs ad w o ks)) := by rw [ex_cel_at (ex_lto h1 (by dsimp only; omega)), ex_en_obj h1 hc]
    obtain ⟨-, hkl, hty⟩ := ex_kind h1 hc h2
    have hn : narrow (ex_ty (f / 64) (f % 64)) (.int x) = .int x ∧ fits (ex_ty (f / 64) (f % 64)) (.int x) = true := by
      rcases hkd with rfl | ⟨rfl, hx01⟩
      · rw [show ex_ty (f / 64) (f % 64) = .int from of_decide_eq_true hty]
        exact ⟨rfl, rfl⟩
      · rw [show ex_ty (f / 64) (f % 64) = .boolean from of_decide_eq_true hty]
        rcases hx01 with rfl | rfl
        · exact ⟨by decide, by decide⟩
        · exact ⟨by decide, by decide⟩
    have hset : ex_cel ad cI cB (ex_up w o (f % 64) x) = (ex_cel ad cI cB w).set (ex_ps o) (ad o, .inr (f / 64, (ex_fs ad w o ks).set (f % 64) (.int x))) := by
      rw [ex_cel_up (ex_lto h1 (by dsimp only; omega)), ex_en_obj h1 hc, ex_fs_set h2 (by rcases hkd with h | h; exact Or.inl h; exact Or.inr h.1)]
    exact va_put (D := (dC, dI)) (own := ex_Rn (ex_C y)) (ref := ex_Rn (f / 64)) (C := ex_Rn (f / 64)) (T := ex_T (f / 64)) (N := ex_N (f / 64)) (Ts := ex_tb) hx hb hts (ku_all hc) (ex_ty (f / 64)) (kp_all hc) (kn_all hc) hown hC.1 hP (ex_vD hA) hS (ex_ps o) he (ex_cl_at (by have := ex_no11 h1; dsimp only at this; omega)) (f % 64) hk (hts _ hlink) (by rw [ex_decl _ hc _ hk]; exact fun _ h9 => h9) hfin (kp_all hc _ hk) hn.1 hn.2 (by rw [ex_fs_len]; exact hkl) hd
      (fun H1 locs1 hP1 hD1 hS1 => k ad _ H1 locs1 ls hA ho (by rw [hset]; exact hP1) hS1 hL)
  | _ => cases hi
theorem ex_cell_ad {ad : Nat → Nat} {o a : Nat} {st : List Value} (h : ad o = a) : ((.ref o :: st : List Value).map (ex_tv ad)) = .ref a :: st.map (ex_tv ad) := by
  rw [List.map_cons, ← h]
  rfl
theorem es_gets (C : ex_Fix p l e R s m args c dC dI ad0 cI cB y d) {o : Nat} (hf : o = 1000 ∨ o = 1001) (k : ex_G p l e R s m args below meth c Q dC dI ad0 cI cB K y (code) (pl) (.ref o :: st) (w)) : ex_G p l e R s m args below meth c Q dC dI ad0 cI cB K y (.getstatic o :: code) (pl) (st) (w) := by
  intro ad pc H locs ls hA hok hP hS hL
  obtain ⟨hx, hb, hml, hown, hts, hC, hR, hcl⟩ := C
  obtain ⟨j, len, hd, hi, ho⟩ := ex_ok_cons rfl hok
  have h9 := k ad _ H locs ls hA ho hP hS hL
  rw [ex_cell_ad (hA.1.fix (o := o) (by omega))] at h9
  unfold ex_okI at hi
  dsimp only at hi
  cases j with
  | getstatic a =>
    simp only [Bool.and_eq_true, beq_iff_eq] at hi
    obtain ⟨h3, rfl⟩ := hi
    rcases kq_S hcl _ (ex_lk h3) with ⟨h4, h5⟩ | ⟨h4, h5⟩
    · have h4 : o = 1000 := h4
      subst h4
      exact va_gets hx hb (C := "BorderThroughBed$House") (ref := "BorderThroughBed$House") hC.2.2.1 hS hown (hts _ h5) (fun _ h => h) hd h9
    · have h4 : o = 1001 := h4
      subst h4
      exact va_gets hx hb (C := "BorderThroughBed$House") (ref := "BorderThroughBed$House") hC.2.2.2.2.1 hS hown (hts _ h5) (fun _ h => h) hd h9
  | _ => cases hi
theorem es_iald (C : ex_Fix p l e R s m args c dC dI ad0 cI cB y d) {o : Nat} {i x : Int32} (hf : ex_ald w o i = some x) (k : ex_G p l e R s m args below meth c Q dC dI ad0 cI cB K y (code) (pl) (.int x :: st) (w)) : ex_G p l e R s m args below meth c Q dC dI ad0 cI cB K y (.iaload :: code) (pl) (.int i :: .ref o :: st) (w) := by
  intro ad pc H locs ls hA hok hP hS hL
  obtain ⟨hx, hb, hml, hown, hts, hC, hR, hcl⟩ := C
  obtain ⟨j, len, hd, hi, ho⟩ := ex_ok_cons rfl hok
  have hi : (decide (j = .iaload) && len == 1) = true := hi
  simp only [Bool.and_eq_true, decide_eq_true_eq, beq_iff_eq] at hi
  obtain ⟨rfl, rfl⟩ := hi
  unfold ex_ald at hf
  by_cases h0 : o = 1000 ∨ o = 1001 ∨ o = 2000
  · show W p l e R s m args below meth c H locs (ex_kc K w) (ex_ks K w) Q (F0 m pc ls (.int i :: ((.ref o :: st : List Value).map (ex_tv ad))))
    rw [ex_cell_ad (hA.1.fix (o := o) (by omega))]
    rcases h0 with h0 | h0 | h0
    · subst h0
      rw [if_pos rfl] at hf
      by_cases hin : i < 0 ∨ 4 ≤ i.toNatClampNeg
      · rw [if_pos hin] at hf; cases hf
      · rw [if_neg hin] at hf
        exact va_ti hx hb hC.2.2.2.1 hS (i := i) hin (congrArg Value.int (Option.some.inj hf)) hd (k ad _ H locs ls hA ho hP hS hL)
    · subst h0
      rw [if_neg (by decide), if_pos rfl] at hf
      by_cases hin : i < 0 ∨ 4 ≤ i.toNatClampNeg
      · rw [if_pos hin] at hf; cases hf
      · rw [if_neg hin] at hf
        exact va_ti hx hb hC.2.2.2.2.2.1 hS (i := i) hin (congrArg Value.int (Option.some.inj hf)) hd (k ad _ H locs ls hA ho hP hS hL)
    · subst h0
      rw [if_neg (by decide), if_neg (by decide), if_pos rfl, hA.2.2.2.1] at hf
      by_cases hin : i < 0 ∨ ad0 2999 ≤ i.toNatClampNeg
      · rw [if_pos hin] at hf; cases hf
      · rw [if_neg hin, hA.2.2.2.2] at hf
        exact va_ti hx hb hC.2.2.2.2.2.2 hS (i := i) hin (congrArg Value.int (Option.some.inj hf)) hd (k ad _ H locs ls hA ho hP hS hL)
  · rw [if_neg (by omega), if_neg (by omega), if_neg (by omega)] at hf
    by_cases h2 : ex_cls o = 12
    · rw [if_pos h2] at hf
      by_cases hin : i < 0 ∨ ex_len o ≤ i.toNatClampNeg
      · rw [if_pos hin] at hf; cases hf
      · rw [if_neg hin] at hf
        have he : (ex_cel ad cI cB w)[ex_ps o]? = some (ad o, .inl (cI, ex_hl ad o, .inl (w.1 o))) := by rw [ex_cel_at (ex_cls_lt (by omega)), ex_en_ia h2]
        have hx2 := Option.some.inj hf
        subst hx2
        exact va_iald hx hb hC.1 hP (ex_ps o) 0 he rfl (ex_hin hA.2.1.2 hin) hd (k ad _ H locs ls hA ho hP hS hL)
    · rw [if_neg h2] at hf; cases hf
theorem ex_no13 (o : Nat) : ¬ ex_cls o = 13 := fun h => by
  have h1 := ex_cls_lt0 (o := o) (by omega)
  exact (by decide +kernel : ∀ o, o < ex_NO → ¬ ex_cls o = 13) o h1 h
theorem es_bald (C : ex_Fix p l e R s m args c dC dI ad0 cI cB y d) {o : Nat} {i : Int32} (h2 : ex_cls o = 13) (hin : ¬ (i < 0 ∨ ex_len o ≤ i.toNatClampNeg)) (k : ex_G p l e R s m args below meth c Q dC dI ad0 cI cB K y (code) (pl) (.int (w.1 o i.toNatClampNeg) :: st) (w)) : ex_G p l e R s m args below meth c Q dC dI ad0 cI cB K y (.baload :: code) (pl) (.int i :: .ref o :: st) (w) := absurd h2 (ex_no13 o)
theorem es_bast (C : ex_Fix p l e R s m args c dC dI ad0 cI cB y d) {o : Nat} {i x : Int32} (h2 : ex_cls o = 13) (hin : ¬ (i < 0 ∨ ex_len o ≤ i.toNatClampNeg)) (k : ex_G p l e R s m args below meth c Q dC dI ad0 cI cB K y (code) (pl) (st) (ex_up w o i.toNatClampNeg (x.toInt8.toInt32))) : ex_G p l e R s m args below meth c Q dC dI ad0 cI cB K y (.bastore :: code) (pl) (.int x :: .int i :: .ref o :: st) (w) := absurd h2 (ex_no13 o)
theorem es_iast (C : ex_Fix p l e R s m args c dC dI ad0 cI cB y d) {o : Nat} {i x : Int32} (h2 : ex_cls o = 12) (hin : ¬ (i < 0 ∨ ex_len o ≤ i.toNatClampNeg)) (k : ex_G p l e R s m args below meth c Q dC dI ad0 cI cB K y (code) (pl) (st) (ex_up w o i.toNatClampNeg (x))) : ex_G p l e R s m args below meth c Q dC dI ad0 cI cB K y (.iastore :: code) (pl) (.int x :: .int i :: .ref o :: st) (w) := by
  intro ad pc H locs ls hA hok hP hS hL
  obtain ⟨hx, hb, hml, hown, hts, hC, hR, hcl⟩ := C
  obtain ⟨j, len, hd, hi, ho⟩ := ex_ok_cons rfl hok
  have hi : (decide (j = .iastore) && len == 1) = true := hi
  simp only [Bool.and_eq_true, decide_eq_true_eq, beq_iff_eq] at hi
  obtain ⟨rfl, rfl⟩ := hi
  have he : (ex_cel ad cI cB w)[ex_ps o]? = some (ad o, .inl (cI, ex_hl ad o, .inl (w.1 o))) := by rw [ex_cel_at (ex_cls_lt (by omega)), ex_en_ia h2]
  have hset : ex_cel ad cI cB (ex_up w o i.toNatClampNeg (x)) = (ex_cel ad cI cB w).set (ex_ps o) (ad o, .inl (cI, ex_hl ad o, .inl (upd (w.1 o) i.toNatClampNeg (x)))) := by
    rw [ex_cel_up (ex_cls_lt (by omega)), ex_en_ia h2, ex_up_1]
  exact va_iast hx hb hC.1 hP (ex_vD hA) hS (ex_ps o) 0 he rfl (ex_hin hA.2.1.2 hin) hd (fun H1 locs1 hP1 hD1 hS1 => k ad _ H1 locs1 ls hA ho (by rw [hset]; exact hP1) hS1 hL)
theorem es_slen (C : ex_Fix p l e R s m args c dC dI ad0 cI cB y d) (k : ex_G p l e R s m args below meth c Q dC dI ad0 cI cB K y (code) (pl) (.int (Int32.ofNat w.2.2.1) :: st) (w)) : ex_G p l e R s m args below meth c Q dC dI ad0 cI cB K y (.arraylength :: code) (pl) (.ref 2000 :: st) (w) := by
  intro ad pc H locs ls hA hok hP hS hL
  obtain ⟨hx, hb, hml, hown, hts, hC, hR, hcl⟩ := C
  obtain ⟨j, len, hd, hi, ho⟩ := ex_ok_cons rfl hok
  have hi : (decide (j = .arraylength) && len == 1) = true := hi
  simp only [Bool.and_eq_true, decide_eq_true_eq, beq_iff_eq] at hi
  obtain ⟨rfl, rfl⟩ := hi
  have h9 := k ad _ H locs ls hA ho hP hS hL
  show W p l e R s m args below meth c H locs (ex_kc K w) (ex_ks K w) Q (F0 m pc ls ((.ref 2000 :: st : List Value).map (ex_tv ad)))
  rw [ex_cell_ad (hA.1.fix (o := 2000) (by omega))]
  exact va_tlen hx hb hC.2.2.2.2.2.2 hS (by rw [hA.2.2.2.1]) hd h9
theorem es_newa (C : ex_Fix p l e R s m args c dC dI ad0 cI cB y d) {o : Nat} {n : Int32} (hn : n = Int32.ofNat (ex_len o)) (hdy : ex_dy y o = true) (hroom : ex_kc K (ex_zr w o) ≤ R.cells ∧ ex_ks K (ex_zr w o) ≤ R.slots) (k : ex_G p l e R s m args below meth c Q dC dI ad0 cI cB K y (code) (pl.map (ex_scr o)) ([.ref o]) (ex_zr w o)) : ex_G p l e R s m args below meth c Q dC dI ad0 cI cB K y (.anewarray o :: code) (pl) ([.int n]) (w) := by
  intro ad pc H locs ls hA hok hP hS hL
  obtain ⟨hx, hb, hml, hown, hts, hC, hR, hcl⟩ := C
  obtain ⟨j, len, hd, hi, ho⟩ := ex_ok_cons rfl hok
  unfold ex_okI at hi
  dsimp only at hi
  cases j with
  | newarray ty =>
    simp only [Bool.and_eq_true, decide_eq_true_eq, beq_iff_eq] at hi
    obtain ⟨rfl, rfl⟩ := hi
    obtain ⟨h12, h64, hNO⟩ := ex_dy_cls hdy
    have h50 := ex_dy_lt hdy
    obtain ⟨hAd, hIn, hKw, hSc⟩ := id hA
    have hkc : ex_kc K (ex_zr w o) = ex_kc K w + 1 := by
      show K.1 + (w.2.1 + 1 - K.2.2) = K.1 + (w.2.1 - K.2.2) + 1
      omega
    have hks : ex_ks K (ex_zr w o) = ex_ks K w + 64 := by
      show K.2.1 + 64 * (w.2.1 + 1 - K.2.2) = K.2.1 + 64 * (w.2.1 - K.2.2) + 64
      omega
    have hnn : ¬ n < 0 ∧ n.toNatClampNeg = ex_len o := by
      subst hn
      have h3 : o = 50 ∨ o = 51 ∨ o = 52 := by omega
      rcases h3 with rfl | rfl | rfl <;> decide
    refine va_newaK (atype := .int) (N := ex_len o) hx hb (hts _ kt_int) rfl hd rfl hnn.1 hnn.2 (Nat.le_trans (Nat.mul_le_mul_right 4 h64) (by decide)) (by rw [← hkc]; exact hroom.1) (by have := hroom.2; omega) rfl (fun H1 cA e1 z1 o1 hAr hNm => ?_)
    have h2 : s.vm.findClass _ = some cI := (hC.1.2 0 (cI, .int) rfl).2
    have h3 : cA = cI := Option.some.inj (hNm.symm.trans h2)
    subst h3
    have hlt : ∀ a, ex_on a → ad a < H.size := fun a ha => va_at.lt (hP _ _ (ex_cel_at ha))
    obtain ⟨ad1, hA1, hAo, hA2, hA3⟩ : ∃ ad1 : Nat → Nat, (∀ a, a ≠ o → a ≠ 2500 → ad1 a = ad a) ∧ ad1 o = H.size ∧ (o = 51 → ad1 2500 = 24) ∧ (o ≠ 51 → ad1 2500 = ad 2500) := ⟨fun q => if q = o then H.size else if q = 2500 ∧ o = 51 then 24 else ad q, fun a ha hb => (if_neg ha).trans (if_neg fun h => hb h.1), if_pos rfl, fun h => (if_neg (by omega)).trans (if_pos ⟨rfl, h⟩), fun h => (if_neg (by omega)).trans (if_neg fun h2 => h h2.2)⟩
    have hSt : ex_St y ad0 ad1 s.heap.size K (ex_zr w o) := by
      refine ⟨fun a => ?_, ⟨fun i j hi hj he => ?_, ?_⟩, Nat.le_succ_of_le hKw, hSc⟩
      · by_cases ha : a = o
        · subst ha
          exact Or.inr (Or.inl ⟨hdy, by rw [hAo]; exact hS.1⟩)
        · by_cases ha2 : a = 2500
          · subst ha2
            by_cases h51 : o = 51
            · exact Or.inr (Or.inr ⟨rfl, by rw [← h51]; exact hdy⟩)
            · rw [hA3 h51]; exact hAd _
          · rw [hA1 a ha ha2]; exact hAd a
      · by_cases h1 : i = o
        · by_cases h2 : j = o
          · rw [h1, h2]
          · rw [h1, hAo, hA1 j h2 (by have := hj.1; omega)] at he
            have := hlt j hj; omega
        · by_cases h2 : j = o
          · rw [h2, hAo, hA1 i h1 (by have := hi.1; omega)] at he
            have := hlt i hi; omega
          · rw [hA1 i h1 (by have := hi.1; omega), hA1 j h2 (by have := hj.1; omega)] at he
            exact hIn.1 i j hi hj he
      · by_cases h51 : o = 51
        · rw [hA2 h51]; exact Nat.le_refl _
        · rw [hA3 h51]; exact hIn.2
    have hP1 : va_P (dC, dI) ex_cm (ex_cel ad1 cA cB (ex_zr w o)) H1 := by
      intro p q hq
      rcases Nat.lt_or_ge p 50 with hp | hp
      · rw [ex_cel_pos hp] at hq
        have hq := Option.some.inj hq
        subst hq
        have hi := ex_ob_on hp
        have hPi := hP p _ (ex_cel_pos hp)
        generalize ex_ob p = i at *
        by_cases h1 : i = o
        · rw [h1, hAo, ex_en_ia h12]
          have e6 : ex_hl ad1 o = ex_len o := by
            unfold ex_hl
            by_cases h51 : o = 51
            · rw [if_pos h51, hA2 h51, h51]; rfl
            · rw [if_neg h51]
          rw [e6]
          show H1[H.size]? = some (vp_cell cA (ex_len o, .inl ((ex_zr w o).1 o)))
          have e5 : (ex_zr w o).1 o = fun _ => 0 := by funext z; exact if_pos rfl
          rw [e5]
          exact e1
        · have hi53 := hi.1
          rw [hA1 i h1 (by omega), ex_en_ad (ad0 := ad) (fun a ha => hA1 a (by omega) (by omega)) (by
            unfold ex_hl
            by_cases h51 : i = 51
            · rw [if_pos h51, if_pos h51, hA3 (by omega)]
            · rw [if_neg h51, if_neg h51])]
          have e5 : (ex_zr w o).1 i = w.1 i := by funext z; exact if_neg h1
          rw [ex_en_same e5]
          exact va_at.kept hPi (o1 _ (hlt i hi))
      · rw [ex_cel_none hp] at hq; cases hq
    have hS1 : va_S (ex_AA ad0 s.heap.size) s.heap H1 locs := ⟨Nat.le_trans hS.1 (by omega), fun x h1 h2 => (o1 x (Nat.lt_of_lt_of_le h1 hS.1)).trans (hS.2.1 x h1 h2), hS.2.2⟩
    have h9 := k _ _ H1 locs ls hSt ho hP1 hS1 (hL.scr hA1)
    refine W.widen (k := ex_kc K (ex_zr w o)) (n := ex_ks K (ex_zr w o)) (by omega) (by omega) ?_
    rw [ex_cell_ad (st := []) hAo] at h9
    exact h9
  | _ => cases hi
/-- behind a call -/
theorem es_back {ad : Nat → Nat} {pc z : Nat} {H : Heap} {locs : List Loc} {ls : Array Slot} {st0 rest : List Value} {a : Array Value} {r : Option Value} {w1 : PW} (hz : z < 104) (hzy : ex_al z = true → ex_dy y 51 = true) (hnr : ex_nf r) (hm : w.2.1 ≤ w1.2.1 ∧ w1.2.2 = w.2.2) (hpl : ex_cg z pl rest = true)
    (hA : ex_St y ad0 ad s.heap.size K w)
    (hr : va_Run p l e R s m args below meth c H locs (ex_kc K w) (ex_ks K w) (w1.2.1 - w.2.1) (64 * (w1.2.1 - w.2.1)) (F0 m pc ls st0) (rest.map (ex_tv ad)) (ex_Post dC dI ad cI cB H.size z r w1 a) (ex_AA ad H.size)) (hS : va_S (ex_AA ad0 s.heap.size) s.heap H locs) (hL : ex_LR ad (ex_L y) ls pl)
    (ho : ex_ok y (pc + 3) code = true) (k : ex_G p l e R s m args below meth c Q dC dI ad0 cI cB K y (code) (pl) (r.toList ++ rest) (w1)) : W p l e R s m args below meth c H locs (ex_kc K w) (ex_ks K w) Q (F0 m pc ls st0) := by
  intro T hT X
  obtain ⟨v, st₀, t, T', L, h0, X', hL2, e1, e2, ⟨hv, ⟨ad', hAd, hIn', hp⟩, hz1, hk⟩, st⟩ := hr T hT X
  rw [h0] at hz1 hk
  have hAA := ex_AA_ad hA.1 hS.1
  have hv2 : v = r.map (ex_tv ad) := by cases hv; rfl
  subst hv2
  have hS1 : va_S (ex_AA ad0 s.heap.size) s.heap T'.heap (locs ++ L) :=
    ⟨Nat.le_trans hS.1 (by rw [e1]; exact hz1), fun q h1 h2 => by rw [e1, hk q (Nat.lt_of_lt_of_le h1 hS.1) (fun z => h2 (hAA q z))]; exact hS.2.1 q h1 h2, fun q hq => by
      rcases List.mem_append.mp hq with h | h
      · exact hS.2.2 q h
      · exact hAA _ (hL2 q h)⟩
  have hSt : ex_St y ad0 ad' s.heap.size K w1 := by
    refine ⟨fun o => ?_, hIn', Nat.le_trans hA.2.2.1 hm.1, hA.2.2.2.ad (fun _ _ _ => rfl) hm.2⟩
    rcases hAd o with h | ⟨h1, h2⟩ | ⟨rfl, h1⟩
    · rw [h]; exact hA.1 o
    · obtain ⟨rfl, h3⟩ := ex_dy_of hz h1
      exact Or.inr (Or.inl ⟨hzy h3, Nat.le_trans hS.1 h2⟩)
    · exact Or.inr (Or.inr ⟨rfl, hzy (ex_dy_of hz h1).2⟩)
  have hn51 : ∀ l : List Value, l.all ex_n51 = true → ∀ o, .ref o ∈ l → o ≠ 51 ∧ o ≠ 2500 := fun l h o ho => by
    have h2 : (o != 51 && o != 2500) = true := List.all_eq_true.mp h _ ho
    exact ⟨fun q => by rw [q] at h2; exact absurd h2 (by decide), fun q => by rw [q] at h2; exact absurd h2 (by decide)⟩
  have hsame : ∀ o, (ex_al z = true → o ≠ 51 ∧ o ≠ 2500) → ad' o = ad o := fun o h => by
    rcases hAd o with h1 | ⟨h1, -⟩ | ⟨h1, h2⟩
    · exact h1
    · obtain ⟨h3, h4⟩ := ex_dy_of hz h1
      exact absurd h3 (h h4).1
    · exact absurd h1 (h (ex_dy_of hz h2).2).2
  have hcg : ∀ o, (.ref o ∈ pl ∨ .ref o ∈ rest) → ex_al z = true → o ≠ 51 ∧ o ≠ 2500 := by
    intro o ho hal
    have h2 : (!ex_al z || (pl.all ex_n51 && rest.all ex_n51)) = true := hpl
    rw [hal] at h2
    have h2 : (pl.all ex_n51 && rest.all ex_n51) = true := h2
    rw [Bool.and_eq_true] at h2
    rcases ho with ho | ho
    · exact hn51 _ h2.1 o ho
    · exact hn51 _ h2.2 o ho
  have hL1 : ex_LR ad' (ex_L y) ls pl := hL.ad fun o ho => hsame o (hcg o (Or.inl ho))
  obtain ⟨t2, a1, b1⟩ := k ad' _ T'.heap (locs ++ L) ls hSt ho (by rw [e1]; exact hp) hS1 hL1 T' rfl (by
    have q1 : ex_kc K w1 = ex_kc K w + (w1.2.1 - w.2.1) := by
      have := hA.2.2.1; have := hm.1
      show K.1 + (w1.2.1 - K.2.2) = K.1 + (w.2.1 - K.2.2) + (w1.2.1 - w.2.1)
      omega
    have q2 : ex_ks K w1 = ex_ks K w + 64 * (w1.2.1 - w.2.1) := by
      have := hA.2.2.1; have := hm.1
      show K.2.1 + 64 * (w1.2.1 - K.2.2) = K.2.1 + 64 * (w.2.1 - K.2.2) + 64 * (w1.2.1 - w.2.1)
      omega
    rw [q1, q2]
    exact X')
  refine ⟨t2, st t2 ?_, b1⟩
  have e3 : ((r.toList ++ rest).map (ex_tv ad')) = (r.map (ex_tv ad)).toList ++ rest.map (ex_tv ad) := by
    rw [List.map_append, ex_map_ad (st := rest) (ad0 := ad) (fun o ho => hsame o (hcg o (Or.inr ho)))]
    congr 1
    cases r with
    | none => rfl
    | some v =>
      show [ex_tv ad' v] = [ex_tv ad v]
      rw [ex_tv_ad (ad0 := ad) (fun o ho => absurd ho (hnr v rfl o))]
  rw [e3] at a1
  exact a1
theorem ex_pre_at {ad : Nat → Nat} {H : Heap} {locs : List Loc} {U : State} (hC : ex_Cx dC dI ad0 cI cB (ex_AA ad0 s.heap.size) s s.heap) (hA : ex_St y ad0 ad s.heap.size K w) (hP : va_P (dC, dI) ex_cm (ex_cel ad cI cB w) H) (hS : va_S (ex_AA ad0 s.heap.size) s.heap H locs) (hU : U.heap = H) (hW : s.WarmedH U.vm) : ex_Pre dC dI ad cI cB H.size w U :=
  ⟨by rw [hU], by rw [hU]; exact hP, by rw [hU]; exact (hC.to hW.alike (ex_nw_warm hW) (fun a h1 h2 => hS.2.1 a h1 h2) (ex_AA_ad hA.1 hS.1)).ad (fun o h h2 => hA.1.fix (Or.inr ⟨h, h2⟩)), hA.2.1, hA.2.2.2.ad (fun o h h2 => hA.1.fix (Or.inr ⟨h, h2⟩)) rfl⟩
theorem ex_hf {R : Room} {w1 : PW} (hK : K.2.2 ≤ w.2.1) (hm : w.2.1 ≤ w1.2.1) (hroom : ex_kc K w1 ≤ R.cells ∧ ex_ks K w1 ≤ R.slots) : ex_kc K w + (w1.2.1 - w.2.1) ≤ R.cells ∧ ex_ks K w + 64 * (w1.2.1 - w.2.1) ≤ R.slots := by
  have h1 : K.1 + (w1.2.1 - K.2.2) ≤ R.cells := hroom.1
  have h2 : K.2.1 + 64 * (w1.2.1 - K.2.2) ≤ R.slots := hroom.2
  show K.1 + (w.2.1 - K.2.2) + (w1.2.1 - w.2.1) ≤ R.cells ∧ K.2.1 + 64 * (w.2.1 - K.2.2) + 64 * (w1.2.1 - w.2.1) ≤ R.slots
  omega
theorem es_call (C : ex_Fix p l e R s m args c dC dI ad0 cI cB y (d + 1)) {f : Nat} {as rest : List Value} {r : Option Value} {w1 : PW} (hcon : ex_Con l d (f / 16) as w r w1) (hnr : ex_nf r) (hm : w.2.1 ≤ w1.2.1 ∧ w1.2.2 = w.2.2) (hroom : ex_kc K w1 ≤ R.cells ∧ ex_ks K w1 ≤ R.slots) (hs : ex_spl (f % 16) [] st = some (as, rest)) (hcg : ex_cg (f / 16) pl rest = true) (hlow : ex_low rest = true) (k : ex_G p l e R s m args below meth c Q dC dI ad0 cI cB K y (code) (pl) (r.toList ++ rest) (w1)) : ex_G p l e R s m args below meth c Q dC dI ad0 cI cB K y (.invokestatic f :: code) (pl) (st) (w) := by
  intro ad pc H locs ls hA hok hP hS hL
  obtain ⟨hx, hb, hml, hown, hts, hC, hR, hcl⟩ := C
  obtain ⟨j, len, hd, hi, ho⟩ := ex_ok_cons rfl hok
  unfold ex_okI at hi
  dsimp only at hi
  cases j with
  | invokestatic a =>
    simp only [Bool.and_eq_true, beq_iff_eq] at hi
    obtain ⟨⟨h3, rfl⟩, hcy⟩ := hi
    obtain ⟨hy, har, hst, hlk⟩ := kq_T hcl _ (ex_lk h3)
    have hw := kw_all hy
    have hcy : ((!ex_al (f / 16) || ex_dy y 51) && (decide (ex_L (f / 16) ≤ 14) || y == 104)) = true := hcy
    rw [Bool.and_eq_true, Bool.or_eq_true, Bool.or_eq_true, decide_eq_true_eq, beq_iff_eq] at hcy
    have hzy : ex_al (f / 16) = true → ex_dy y 51 = true := fun q => by
      rcases hcy.1 with h | h
      · rw [q] at h; cases h
      · exact h
    obtain ⟨pre, e1, e2, e3⟩ := ex_spl_spec hs
    rw [List.append_nil] at e2
    have hst0 : st.map (ex_tv ad) = (as.map (ex_tv ad)).reverse ++ rest.map (ex_tv ad) := by
      rw [e1, e2, List.map_append, List.map_reverse, List.reverse_reverse]
    have hlen : (as.map (ex_tv ad)).length = f % 16 := by rw [List.length_map, e2, List.length_reverse, e3]
    have hfit := ex_Rm_fit (n := w1.2.1 - w.2.1) (mL := ex_L (f / 16)) (by rcases hcy.2 with h | h; exact Or.inl h; exact Or.inr ⟨hw.2.2.2.2.2.2, h⟩) hR
    have hari : ∀ sig, parseMethodDescriptor (ex_Y (f / 16)).desc = some sig → f % 16 = sig.parameters.length := by
      intro sig hsig
      have h2 : (parseMethodDescriptor (ex_Y (f / 16)).desc).map (fun d => d.parameters.length) = some (f % 16) := har
      rw [hsig] at h2
      exact (Option.some.inj h2).symm
    have hp : PreS s H (va_Pc (as.map (ex_tv ad)) (ex_Pre dC dI ad cI cB H.size w)) (as.map (ex_tv ad)) := ⟨ex_blind, fun U hU hW => ⟨rfl, ex_pre_at hC hA hP hS hU hW⟩⟩
    rw [hst0]
    have hfr0 := ex_hf hA.2.2.1 hm.1 hroom
    refine es_back (a := (as.map (ex_tv ad)).toArray) (z := f / 16) hy hzy hnr hm hcg hA ?_ hS hL ho k
    rcases hlk with hlk | hlk
    · exact va_runS (Ts := ex_tb) (own := ex_Rn (ex_C y)) ⟨hx, hb, hml, hown, hts⟩ (hcon dC dI ad cI cB H.size) ⟨⟨rfl, rfl, hfit.1, hfit.2, ex_pay hts hw, List.mem_cons_self, hts _ hw.1, hts _ hw.2.1, hw.2.2.2.2.2.1, hari, hts _ hlk⟩, hts _ hst⟩ hp rfl hlen hL.2.1.1 rfl (lv_room (ex_low_cat hlow)) hd hfr0
    · have hnw := hC.2.1 _ hlk
      exact va_runSN (Ts := ex_tb) (own := ex_Rn (ex_C y)) ⟨hx, hb, hml, hown, hts⟩ (hcon dC dI ad cI cB H.size) ⟨⟨⟨rfl, rfl, hfit.1, hfit.2, ex_pay hts hw, List.mem_cons_self⟩, hts _ hw.1, hts _ hw.2.1, hw.2.2.2.2.2.1, hari, va_Nw.use rfl hnw⟩, hts _ hst, trivial⟩ hp rfl hlen hL.2.1.1 rfl (lv_room (ex_low_cat hlow)) hd hfr0
  | _ => cases hi
theorem ex_recv {ad : Nat → Nat} {H : Heap} {o ci : Nat} (hC : va_K (dC, dI) ex_cm [(cI, .int)] s) (hP : va_P (dC, dI) ex_cm (ex_cel ad cI cB w) H) (ho : ex_cls o = ci) (h12 : ci < 12) : ∃ cell : Cell, H[ad o]? = some cell ∧ cell.vm.isStatics = false ∧ s.vm.findClass (ex_Rn ci) = some cell.cls := by
  have hlt : ex_on o := ex_cls_lt (by omega)
  have : ex_Sh[o]? = some (ci, (ex_Sh[o]'hlt.1).2) := by
    have h1 : ex_Sh[o]? = some (ex_Sh[o]'hlt.1) := List.getElem?_eq_getElem hlt.1
    unfold ex_cls at ho
    rw [h1] at ho ⊢
    dsimp only at ho
    rw [← ho]
  exact va_recv hC hP (ex_cl_at (by have := ex_no11 this; dsimp only at this; omega)) (q0 := ex_ps o) (by rw [ex_cel_at hlt, ex_en_obj this h12])
theorem es_callv (C : ex_Fix p l e R s m args c dC dI ad0 cI cB y (d + 1)) {f o : Nat} {as rest : List Value} {r : Option Value} {w1 : PW} (hcon : ex_Con l d (f / 16) (.ref o :: as) w r w1) (hnr : ex_nf r) (hm : w.2.1 ≤ w1.2.1 ∧ w1.2.2 = w.2.2) (hroom : ex_kc K w1 ≤ R.cells ∧ ex_ks K w1 ≤ R.slots) (hcls : ex_okR (f / 16) (.ref o :: as) = true) (hs : ex_spl (f % 16 + 1) [] st = some (.ref o :: as, rest)) (hlow : ex_low rest = true) (k : ex_G p l e R s m args below meth c Q dC dI ad0 cI cB K y (code) (pl) (r.toList ++ rest) (w1)) : ex_G p l e R s m args below meth c Q dC dI ad0 cI cB K y (.invokevirtual f :: code) (pl) (st) (w) := by
  intro ad pc H locs ls hA hok hP hS hL
  obtain ⟨hx, hb, hml, hown, hts, hC, hR, hcl⟩ := C
  obtain ⟨j, len, hd, hi, ho⟩ := ex_ok_cons rfl hok
  unfold ex_okI at hi
  dsimp only at hi
  cases j with
  | invokevirtual a =>
    simp only [Bool.and_eq_true, beq_iff_eq] at hi
    obtain ⟨h3, rfl⟩ := hi
    obtain ⟨hy, har, hin, hse, hlk, h9⟩ := kq_V hcl _ (ex_lk h3)
    have hy4 : f / 16 < 104 := Nat.lt_of_lt_of_le hy (by decide)
    have hw := kw_all hy4
    obtain ⟨hyL, hyA⟩ := ex_cls_L _ hy
    have hy11 : (ex_C (f / 16) == 11) = false := ex_cls_11 _ hy
    have hC9 : ex_cls o = ex_C (f / 16) := by
      have h5 : (ex_cls o == ex_C (f / 16) || (ex_C (f / 16) == 9 && (ex_cls o == 2 || ex_cls o == 4))) = true := by
        have h6 : ((.ref o :: as : List Value).all ex_isv && (decide ((ex_lay (.ref o :: as)).length ≤ ex_L (f / 16)) && (ex_C (f / 16) == 11 || ex_cls o == ex_C (f / 16) || (ex_C (f / 16) == 9 && (ex_cls o == 2 || ex_cls o == 4))))) = true := hcls
        rw [Bool.and_eq_true, Bool.and_eq_true, hy11, Bool.false_or] at h6
        exact h6.2.2
      rcases Bool.or_eq_true _ _ ▸ h5 with h6 | h6
      · exact eq_of_beq h6
      · rw [Bool.and_eq_true] at h6
        exact absurd (eq_of_beq h6.1) h9
    obtain ⟨pre, e1, e2, e3⟩ := ex_spl_spec hs
    rw [List.append_nil] at e2
    have hst0 : st.map (ex_tv ad) = (as.map (ex_tv ad)).reverse ++ .ref (ad o) :: rest.map (ex_tv ad) := by
      have e4 : pre = as.reverse ++ [.ref o] := by rw [← List.reverse_reverse (as := pre), ← e2]; simp
      rw [e1, e4]
      simp only [List.map_append, List.map_reverse, List.map_cons, List.map_nil, List.append_assoc]
      rfl
    have hlen : (as.map (ex_tv ad)).length = f % 16 := by
      have : (.ref o :: as : List Value).length = f % 16 + 1 := by rw [e2, List.length_reverse, e3]
      rw [List.length_map]
      simpa using this
    have hfit := ex_Rm_fit (n := w1.2.1 - w.2.1) (Or.inl hyL) hR
    have hari : ∀ sig, parseMethodDescriptor (ex_Y (f / 16)).desc = some sig → f % 16 = sig.parameters.length := by
      intro sig hsig
      have h2 : (parseMethodDescriptor (ex_Y (f / 16)).desc).map (fun d => d.parameters.length) = some (f % 16) := har
      rw [hsig] at h2
      exact (Option.some.inj h2).symm
    have hp : PreV s H (ex_Y (f / 16)).cls (ad o) (va_Pc ((.ref o :: as : List Value).map (ex_tv ad)) (ex_Pre dC dI ad cI cB H.size w)) (as.map (ex_tv ad)) :=
      ⟨ex_blind, by rw [hw.2.2.1]; exact ex_recv hC.1 hP hC9 hw.2.2.2.1, fun U hU hW => ⟨rfl, ex_pre_at hC hA hP hS hU hW⟩⟩
    rw [hst0]
    refine es_back (a := (Value.ref (ad o) :: as.map (ex_tv ad)).toArray) (z := f / 16) hy4 (fun q => by rw [hyA] at q; cases q) hnr hm (show ex_cg (f / 16) pl rest = true by unfold ex_cg; rw [hyA]; rfl) hA ?_ hS hL ho k
    exact va_runV (Ts := ex_tb) (own := ex_Rn (ex_C y)) ⟨hx, hb, hml, hown, hts⟩ (hcon dC dI ad cI cB H.size) ⟨⟨rfl, rfl, hfit.1, hfit.2, ex_pay hts hw, List.mem_cons_self, hts _ hw.1, hts _ hw.2.1, hw.2.2.2.2.2.1, hari, hts _ hlk⟩, hts _ hin, hts _ hse⟩ hp rfl hlen hL.2.1.1 rfl (lv_room (ex_low_cat hlow)) hd (ex_hf hA.2.2.1 hm.1 hroom)
  | _ => cases hi
theorem es_calli (C : ex_Fix p l e R s m args c dC dI ad0 cI cB y (d + 1)) {x n o yy : Nat} {as rest : List Value} {r : Option Value} {w1 : PW} (hcon : ex_Con l d yy (.ref o :: as) w r w1) (hnr : ex_nf r) (hm : w.2.1 ≤ w1.2.1 ∧ w1.2.2 = w.2.2) (hroom : ex_kc K w1 ≤ R.cells ∧ ex_ks K w1 ≤ R.slots) (hdp : ex_dsp x (ex_cls o) = some yy) (hs : ex_spl (n + 1) [] st = some (.ref o :: as, rest)) (hlow : ex_low rest = true) (k : ex_G p l e R s m args below meth c Q dC dI ad0 cI cB K y (code) (pl) (r.toList ++ rest) (w1)) : ex_G p l e R s m args below meth c Q dC dI ad0 cI cB K y (.invokeinterface x n :: code) (pl) (st) (w) := by
  intro ad pc H locs ls hA hok hP hS hL
  obtain ⟨hx, hb, hml, hown, hts, hC, hR, hcl⟩ := C
  obtain ⟨j, len, hd, hi, ho⟩ := ex_ok_cons rfl hok
  unfold ex_okI at hi
  dsimp only at hi
  cases j with
  | invokevirtual a =>
    simp only [Bool.and_eq_true, beq_iff_eq] at hi
    obtain ⟨h3, rfl⟩ := hi
    obtain ⟨hy, hc9, har, hlk, hsm, hdc, hse, hin, -⟩ := kx_all h3 hdp
    have hy4 : yy < 104 := Nat.lt_of_lt_of_le hy (by decide)
    have hw := kw_all hy4
    obtain ⟨hyL, hyA⟩ := ex_cls_L _ hy
    obtain ⟨pre, e1, e2, e3⟩ := ex_spl_spec hs
    rw [List.append_nil] at e2
    have hst0 : st.map (ex_tv ad) = (as.map (ex_tv ad)).reverse ++ .ref (ad o) :: rest.map (ex_tv ad) := by
      have e4 : pre = as.reverse ++ [.ref o] := by rw [← List.reverse_reverse (as := pre), ← e2]; simp
      rw [e1, e4]
      simp only [List.map_append, List.map_reverse, List.map_cons, List.map_nil, List.append_assoc]
      rfl
    have hlen : (as.map (ex_tv ad)).length = n := by
      have : (.ref o :: as : List Value).length = n + 1 := by rw [e2, List.length_reverse, e3]
      rw [List.length_map]
      simpa using this
    have hfit := ex_Rm_fit (n := w1.2.1 - w.2.1) (Or.inl hyL) hR
    have hari : ∀ sig, parseMethodDescriptor (ex_Xm x).desc = some sig → n = sig.parameters.length := by
      intro sig hsig
      have h2 : (parseMethodDescriptor (ex_Xm x).desc).map (fun d => d.parameters.length) = some n := har
      rw [hsig] at h2
      exact (Option.some.inj h2).symm
    have hp : PreV s H (ex_Rn (ex_cls o)) (ad o) (va_Pc ((.ref o :: as : List Value).map (ex_tv ad)) (ex_Pre dC dI ad cI cB H.size w)) (as.map (ex_tv ad)) :=
      ⟨ex_blind, ex_recv hC.1 hP rfl (by omega), fun U hU hW => ⟨rfl, ex_pre_at hC hA hP hS hU hW⟩⟩
    have hdc2 := va_Decl.abs (hC.2.1 _ hdc)
    rw [hst0]
    refine es_back (a := (Value.ref (ad o) :: as.map (ex_tv ad)).toArray) (z := yy) hy4 (fun q => by rw [hyA] at q; cases q) hnr hm (show ex_cg yy pl rest = true by unfold ex_cg; rw [hyA]; rfl) hA ?_ hS hL ho k
    exact va_runU (Ts := ex_tb) (own := ex_Rn (ex_C y)) (C := ex_Rn (ex_cls o)) (owner := "BorderThroughBed$Text") ⟨hx, hb, hml, hown, hts⟩ (hcon dC dI ad cI cB H.size) ⟨⟨rfl, rfl, hfit.1, hfit.2, ex_pay hts hw, List.mem_cons_self⟩, hts _ hw.1, hts _ hw.2.1, ⟨by decide, by decide⟩, hari, hts _ hlk, hts _ hsm, hdc2, hts _ hse, hts _ hin⟩ hp rfl hlen hL.2.1.1 rfl (lv_room (ex_low_cat hlow)) hd (ex_hf hA.2.2.1 hm.1 hroom)
  | _ => cases hi
end ET
end
section
/-! natives, returns, and THE SOUNDNESS of the pure machine -/
section EU
variable {p : Program} {l : Launch} {e : Env} {R : Room} {s : State} {m : MethodId} {args : Array Value} {below : List Frame} {meth : Method} {c : Code} {Q : State → Prop} {dC : Nat → ClassId} {dI : Nat → Nat → Nat} {ad0 : Nat → Nat} {cI cB : ClassId} {K : Nat × Nat × Nat} {y d : Nat} {code : List Instr} {pl st : List Value} {w : PW}
theorem es_iret (C : ex_Fix p l e R s m args c dC dI ad0 cI cB y d) (hlk : meth.locks = false) (hr : meth.sig.returnType = some .int) {x : Int32} : ex_G p l e R s m args below meth c (MQ below (ex_Post dC dI ad0 cI cB s.heap.size y (some (.int x)) w) args s (ex_kc K w) (ex_ks K w) (ex_AA ad0 s.heap.size)) dC dI ad0 cI cB K y (.ireturn :: code) (pl) ([.int x]) (w) := by
  intro ad pc H locs ls hA hok hP hS hL
  obtain ⟨hx, hb, hml, hown, hts, hC, hR, hcl⟩ := C
  obtain ⟨j, len, hd, hi, ho⟩ := ex_ok_cons rfl hok
  have hi : (decide (j = .ireturn) && len == 1) = true := hi
  simp only [Bool.and_eq_true, decide_eq_true_eq, beq_iff_eq] at hi
  obtain ⟨rfl, rfl⟩ := hi
  exact W.iret hx hb hr (fun t ht hW => ⟨rfl, ⟨ad, hA.1, hA.2.1, by rw [ht]; exact hP⟩, hS.F ht⟩) hS.2.2 hd hlk
theorem es_lret (C : ex_Fix p l e R s m args c dC dI ad0 cI cB y d) (hlk : meth.locks = false) (hr : meth.sig.returnType = some .long) {x : Int64} : ex_G p l e R s m args below meth c (MQ below (ex_Post dC dI ad0 cI cB s.heap.size y (some (.long x)) w) args s (ex_kc K w) (ex_ks K w) (ex_AA ad0 s.heap.size)) dC dI ad0 cI cB K y (.lreturn :: code) (pl) ([.long x]) (w) := by
  intro ad pc H locs ls hA hok hP hS hL
  obtain ⟨hx, hb, hml, hown, hts, hC, hR, hcl⟩ := C
  obtain ⟨j, len, hd, hi, ho⟩ := ex_ok_cons rfl hok
  have hi : (decide (j = .lreturn) && len == 1) = true := hi
  simp only [Bool.and_eq_true, decide_eq_true_eq, beq_iff_eq] at hi
  obtain ⟨rfl, rfl⟩ := hi
  exact W.lret hx hb hr (fun t ht hW => ⟨rfl, ⟨ad, hA.1, hA.2.1, by rw [ht]; exact hP⟩, hS.F ht⟩) hS.2.2 hd hlk
theorem es_zret (C : ex_Fix p l e R s m args c dC dI ad0 cI cB y d) (hlk : meth.locks = false) (hr : meth.sig.returnType = some .boolean) {x : Int32} (h01 : x = 0 ∨ x = 1) : ex_G p l e R s m args below meth c (MQ below (ex_Post dC dI ad0 cI cB s.heap.size y (some (.int x)) w) args s (ex_kc K w) (ex_ks K w) (ex_AA ad0 s.heap.size)) dC dI ad0 cI cB K y (.areturn :: code) (pl) ([.int x]) (w) := by
  intro ad pc H locs ls hA hok hP hS hL
  obtain ⟨hx, hb, hml, hown, hts, hC, hR, hcl⟩ := C
  obtain ⟨j, len, hd, hi, ho⟩ := ex_ok_cons rfl hok
  have hi : (decide (j = .ireturn) && len == 1) = true := hi
  simp only [Bool.and_eq_true, decide_eq_true_eq, beq_iff_eq] at hi
  obtain ⟨rfl, rfl⟩ := hi
  exact W.zret hx hb hr (by rcases h01 with rfl | rfl <;> decide) (fun t ht hW => ⟨rfl, ⟨ad, hA.1, hA.2.1, by rw [ht]; exact hP⟩, hS.F ht⟩) hS.2.2 hd hlk
theorem es_vret (C : ex_Fix p l e R s m args c dC dI ad0 cI cB y d) (hlk : meth.locks = false) (hr : meth.sig.returnType = none) : ex_G p l e R s m args below meth c (MQ below (ex_Post dC dI ad0 cI cB s.heap.size y (none) w) args s (ex_kc K w) (ex_ks K w) (ex_AA ad0 s.heap.size)) dC dI ad0 cI cB K y (.return_ :: code) (pl) ([]) (w) := by
  intro ad pc H locs ls hA hok hP hS hL
  obtain ⟨hx, hb, hml, hown, hts, hC, hR, hcl⟩ := C
  obtain ⟨j, len, hd, hi, ho⟩ := ex_ok_cons rfl hok
  have hi : (decide (j = .return_) && len == 1) = true := hi
  simp only [Bool.and_eq_true, decide_eq_true_eq, beq_iff_eq] at hi
  obtain ⟨rfl, rfl⟩ := hi
  exact W.vret hx hb hr (fun t ht hW => ⟨rfl, ⟨ad, hA.1, hA.2.1, by rw [ht]; exact hP⟩, hS.F ht⟩) hS.2.2 hd hlk
theorem es_all (C : ex_Fix p l e R s m args c dC dI ad0 cI cB y (d + 1)) (hcal : ∀ (yy : Nat) (as : List Value) (w : PW) (r : Option Value) (w1 : PW), ex_cal d yy as w = some (r, w1) → d ≠ 0 ∧ ex_okR yy as = true ∧ ex_Con l d yy as w r w1) (hmo : ∀ (yy : Nat) (as : List Value) (w : PW) (r : Option Value) (w1 : PW), ex_cal d yy as w = some (r, w1) → ex_nf r ∧ w.2.1 ≤ w1.2.1 ∧ w1.2.2 = w.2.2) {q : ER ⊕ ES} (h : ex_nx d (ex_cal d) y (code, pl, st, w) = some q) (hroom : ∀ c1 pl1 st1 w1, q = .inr (c1, pl1, st1, w1) → ex_kc K w1 ≤ R.cells ∧ ex_ks K w1 ≤ R.slots) (hin : ∀ c1 pl1 st1 w1, q = .inr (c1, pl1, st1, w1) → ex_G p l e R s m args below meth c Q dC dI ad0 cI cB K y (c1) (pl1) (st1) (w1)) (ho_i : ∀ (c9 : List Instr) (a : Int32), q = .inl (some (.int a), w) → ex_ret y = some .int → ex_G p l e R s m args below meth c Q dC dI ad0 cI cB K y (.ireturn :: c9) (pl) ([.int a]) (w)) (ho_l : ∀ (c9 : List Instr) (a : Int64), q = .inl (some (.long a), w) → ex_ret y = some .long → ex_G p l e R s m args below meth c Q dC dI ad0 cI cB K y (.lreturn :: c9) (pl) ([.long a]) (w)) (ho_z : ∀ (c9 : List Instr) (a : Int32), q = .inl (some (.int a), w) → ex_ret y = some .boolean → (a = 0 ∨ a = 1) → ex_G p l e R s m args below meth c Q dC dI ad0 cI cB K y (.areturn :: c9) (pl) ([.int a]) (w)) (ho_v : ∀ (c9 : List Instr), q = .inl (none, w) → ex_ret y = none → ex_G p l e R s m args below meth c Q dC dI ad0 cI cB K y (.return_ :: c9) (pl) ([]) (w)) : ex_G p l e R s m args below meth c Q dC dI ad0 cI cB K y (code) (pl) (st) (w) := by
  cases code with
  | nil => cases h
  | cons i c =>
    cases i with
    | iload k =>
      have h : (match pl.getD k .null with | .int x => ex_go c pl (.int x :: st) w | _ => none) = some q := h
      cases hg : pl.getD k .null with
      | int x =>
        rw [hg] at h
        cases h
        exact es_iload C hg (hin _ _ _ _ rfl)
      | _ => rw [hg] at h; cases h
    | aload k =>
      have h : (match pl.getD k .null with | .ref x => ex_go c pl (.ref x :: st) w | _ => none) = some q := h
      cases hg : pl.getD k .null with
      | ref x =>
        rw [hg] at h
        cases h
        exact es_aload C hg (hin _ _ _ _ rfl)
      | _ => rw [hg] at h; cases h
    | lload k =>
      have h : (match pl.getD k .null with | .long x => ex_go c pl (.long x :: st) w | _ => none) = some q := h
      cases hg : pl.getD k .null with
      | long x =>
        rw [hg] at h
        cases h
        exact es_lload C hg (hin _ _ _ _ rfl)
      | _ => rw [hg] at h; cases h
    | istore k =>
      cases st with
      | nil => cases h
      | cons v st =>
        cases v with
        | int x =>
          have h : ex_store k (.int x) c pl st w = some q := h
          unfold ex_store at h
          cases hg : pl[k]? with
          | none => rw [List.getD_eq_getElem?_getD, hg] at h; cases h
          | some a =>
            have hg2 : pl.getD k (.retAddr 0) = a := by rw [List.getD_eq_getElem?_getD, hg]; rfl
            rw [hg2] at h
            cases a with
            | retAddr n => cases h
            | _ => cases h; exact es_istore C hg (by intro n q; cases q) (hin _ _ _ _ rfl)
        | _ => cases h
    | astore k =>
      cases st with
      | nil => cases h
      | cons v st =>
        cases v with
        | ref x =>
          have h : ex_store k (.ref x) c pl st w = some q := h
          unfold ex_store at h
          cases hg : pl[k]? with
          | none => rw [List.getD_eq_getElem?_getD, hg] at h; cases h
          | some a =>
            have hg2 : pl.getD k (.retAddr 0) = a := by rw [List.getD_eq_getElem?_getD, hg]; rfl
            rw [hg2] at h
            cases a with
            | retAddr n => cases h
            | _ => cases h; exact es_astore C hg (by intro n q; cases q) (hin _ _ _ _ rfl)
        | _ => cases h
    | lstore k =>
      cases st with
      | nil => cases h
      | cons v st =>
        cases v with
        | long x =>
          have h : (if k + 1 < pl.length then ex_store k (.long x) c (pl.set (k + 1) (.retAddr 0)) st w else none) = some q := h
          by_cases hk : k + 1 < pl.length
          · rw [if_pos hk] at h
            unfold ex_store at h
            have hkl : k < pl.length := by omega
            have hg : pl[k]? = some pl[k] := List.getElem?_eq_getElem hkl
            have hg2 : (pl.set (k + 1) (.retAddr 0)).getD k (.retAddr 0) = pl[k] := by rw [List.getD_eq_getElem?_getD, List.getElem?_set, if_neg (by omega), hg]; rfl
            rw [hg2] at h
            generalize pl[k] = a at h hg
            cases a with
            | retAddr n => cases h
            | _ => cases h; exact es_lstore C hg (by intro n q; cases q) hk (hin _ _ _ _ rfl)
          · rw [if_neg hk] at h; cases h
        | _ => cases h
    | iinc k n =>
      have h : (match pl.getD k .null with | .int x => ex_go c (pl.set k (.int (x + Int32.ofInt n))) st w | _ => none) = some q := h
      cases hg : pl.getD k .null with
      | int x =>
        rw [hg] at h
        cases h
        exact es_iinc C hg (hin _ _ _ _ rfl)
      | _ => rw [hg] at h; cases h
    | sipush n =>
      cases h
      exact es_push C (hin _ _ _ _ rfl)
    | goto_w n =>
      cases h
      exact es_lpush C (hin _ _ _ _ rfl)
    | iadd =>
      match st, h with
      | .int b :: .int a :: st, h =>
        cases h
        exact es_iadd C (hin _ _ _ _ rfl)
    | isub =>
      match st, h with
      | .int b :: .int a :: st, h =>
        cases h
        exact es_isub C (hin _ _ _ _ rfl)
    | imul =>
      match st, h with
      | .int b :: .int a :: st, h =>
        cases h
        exact es_imul C (hin _ _ _ _ rfl)
    | iand =>
      match st, h with
      | .int b :: .int a :: st, h =>
        cases h
        exact es_iand C (hin _ _ _ _ rfl)
    | ior =>
      match st, h with
      | .int b :: .int a :: st, h =>
        cases h
        exact es_ior C (hin _ _ _ _ rfl)
    | ixor =>
      match st, h with
      | .int b :: .int a :: st, h =>
        cases h
        exact es_ixor C (hin _ _ _ _ rfl)
    | ishl =>
      match st, h with
      | .int b :: .int a :: st, h =>
        cases h
        exact es_ishl C (hin _ _ _ _ rfl)
    | ishr =>
      match st, h with
      | .int b :: .int a :: st, h =>
        cases h
        exact es_ishr C (hin _ _ _ _ rfl)
    | ladd =>
      match st, h with
      | .long b :: .long a :: st, h =>
        cases h
        exact es_ladd C (hin _ _ _ _ rfl)
    | lmul =>
      match st, h with
      | .long b :: .long a :: st, h =>
        cases h
        exact es_lmul C (hin _ _ _ _ rfl)
    | land =>
      match st, h with
      | .long b :: .long a :: st, h =>
        cases h
        exact es_land C (hin _ _ _ _ rfl)
    | lshr =>
      match st, h with
      | .int b :: .long a :: st, h =>
        cases h
        exact es_lshr C (hin _ _ _ _ rfl)
    | lushr =>
      match st, h with
      | .int b :: .long a :: st, h =>
        cases h
        exact es_lushr C (hin _ _ _ _ rfl)
    | idiv =>
      match st, h with
      | .int b :: .int a :: st, h =>
        have h : (if b = 0 then none else ex_go c pl (.int (a / b) :: st) w) = some q := h
        by_cases hz : b = 0
        · rw [if_pos hz] at h; cases h
        · rw [if_neg hz] at h
          cases h
          exact es_idiv C hz (hin _ _ _ _ rfl)
    | irem =>
      match st, h with
      | .int b :: .int a :: st, h =>
        have h : (if b = 0 then none else ex_go c pl (.int (a - a / b * b) :: st) w) = some q := h
        by_cases hz : b = 0
        · rw [if_pos hz] at h; cases h
        · rw [if_neg hz] at h
          cases h
          exact es_irem C hz (hin _ _ _ _ rfl)
    | i2l =>
      match st, h with
      | .int a :: st, h =>
        cases h
        exact es_i2l C (hin _ _ _ _ rfl)
    | l2i =>
      match st, h with
      | .long a :: st, h =>
        cases h
        exact es_l2i C (hin _ _ _ _ rfl)
    | i2b =>
      match st, h with
      | .int a :: st, h =>
        cases h
        exact es_i2b C (hin _ _ _ _ rfl)
    | pop =>
      match st, h with
      | .int a :: st, h =>
        cases h
        exact es_pop C (hin _ _ _ _ rfl)
    | dup =>
      match st, h with
      | .ref a :: st, h => cases h; exact es_dup_r C (hin _ _ _ _ rfl)
      | .int a :: st, h => cases h; exact es_dup_i C (hin _ _ _ _ rfl)
    | dup2 =>
      match st, h with
      | .int a :: .ref b :: st, h =>
        cases h
        exact es_dup2 C (hin _ _ _ _ rfl)
    | goto L =>
      cases h
      exact es_goto C (hin _ _ _ _ rfl)
    | jsr L =>
      cases h
      exact es_jsr C (hin _ _ _ _ rfl)
    | if_icmp cd L =>
      match st, h with
      | .int b :: .int a :: st, h =>
        cases cd with
          | eq =>
            have h : (if decide (a = b) = true then ex_go (ex_blk y L.toNat) pl st w else ex_go c pl st w) = some q := h
            exact es_icmp_eq C (fun hy => hin _ _ _ _ (by rw [if_pos (decide_eq_true hy)] at h; exact (Option.some.inj h).symm)) (fun hy => hin _ _ _ _ (by rw [if_neg (by simpa using hy)] at h; exact (Option.some.inj h).symm))
          | ne =>
            have h : (if decide (¬ a = b) = true then ex_go (ex_blk y L.toNat) pl st w else ex_go c pl st w) = some q := h
            exact es_icmp_ne C (fun hy => hin _ _ _ _ (by rw [if_pos (decide_eq_true hy)] at h; exact (Option.some.inj h).symm)) (fun hy => hin _ _ _ _ (by rw [if_neg (by simpa using hy)] at h; exact (Option.some.inj h).symm))
          | lt =>
            have h : (if decide (a < b) = true then ex_go (ex_blk y L.toNat) pl st w else ex_go c pl st w) = some q := h
            exact es_icmp_lt C (fun hy => hin _ _ _ _ (by rw [if_pos (decide_eq_true hy)] at h; exact (Option.some.inj h).symm)) (fun hy => hin _ _ _ _ (by rw [if_neg (by simpa using hy)] at h; exact (Option.some.inj h).symm))
          | ge =>
            have h : (if decide (b ≤ a) = true then ex_go (ex_blk y L.toNat) pl st w else ex_go c pl st w) = some q := h
            exact es_icmp_ge C (fun hy => hin _ _ _ _ (by rw [if_pos (decide_eq_true hy)] at h; exact (Option.some.inj h).symm)) (fun hy => hin _ _ _ _ (by rw [if_neg (by simpa using hy)] at h; exact (Option.some.inj h).symm))
          | gt =>
            have h : (if decide (b < a) = true then ex_go (ex_blk y L.toNat) pl st w else ex_go c pl st w) = some q := h
            exact es_icmp_gt C (fun hy => hin _ _ _ _ (by rw [if_pos (decide_eq_true hy)] at h; exact (Option.some.inj h).symm)) (fun hy => hin _ _ _ _ (by rw [if_neg (by simpa using hy)] at h; exact (Option.some.inj h).symm))
          | le =>
            have h : (if decide (a ≤ b) = true then ex_go (ex_blk y L.toNat) pl st w else ex_go c pl st w) = some q := h
            exact es_icmp_le C (fun hy => hin _ _ _ _ (by rw [if_pos (decide_eq_true hy)] at h; exact (Option.some.inj h).symm)) (fun hy => hin _ _ _ _ (by rw [if_neg (by simpa using hy)] at h; exact (Option.some.inj h).symm))
    | ifCond cd L =>
      match st, h with
      | .int a :: st, h =>
        cases cd with
          | eq =>
            have h : (if decide (a = 0) = true then ex_go (ex_blk y L.toNat) pl st w else ex_go c pl st w) = some q := h
            exact es_if_eq C (fun hy => hin _ _ _ _ (by rw [if_pos (decide_eq_true hy)] at h; exact (Option.some.inj h).symm)) (fun hy => hin _ _ _ _ (by rw [if_neg (by simpa using hy)] at h; exact (Option.some.inj h).symm))
          | ne =>
            have h : (if decide (¬ a = 0) = true then ex_go (ex_blk y L.toNat) pl st w else ex_go c pl st w) = some q := h
            exact es_if_ne C (fun hy => hin _ _ _ _ (by rw [if_pos (decide_eq_true hy)] at h; exact (Option.some.inj h).symm)) (fun hy => hin _ _ _ _ (by rw [if_neg (by simpa using hy)] at h; exact (Option.some.inj h).symm))
          | lt =>
            have h : (if decide (a < 0) = true then ex_go (ex_blk y L.toNat) pl st w else ex_go c pl st w) = some q := h
            exact es_if_lt C (fun hy => hin _ _ _ _ (by rw [if_pos (decide_eq_true hy)] at h; exact (Option.some.inj h).symm)) (fun hy => hin _ _ _ _ (by rw [if_neg (by simpa using hy)] at h; exact (Option.some.inj h).symm))
          | ge =>
            have h : (if decide (0 ≤ a) = true then ex_go (ex_blk y L.toNat) pl st w else ex_go c pl st w) = some q := h
            exact es_if_ge C (fun hy => hin _ _ _ _ (by rw [if_pos (decide_eq_true hy)] at h; exact (Option.some.inj h).symm)) (fun hy => hin _ _ _ _ (by rw [if_neg (by simpa using hy)] at h; exact (Option.some.inj h).symm))
          | gt =>
            have h : (if decide (0 < a) = true then ex_go (ex_blk y L.toNat) pl st w else ex_go c pl st w) = some q := h
            exact es_if_gt C (fun hy => hin _ _ _ _ (by rw [if_pos (decide_eq_true hy)] at h; exact (Option.some.inj h).symm)) (fun hy => hin _ _ _ _ (by rw [if_neg (by simpa using hy)] at h; exact (Option.some.inj h).symm))
          | le =>
            have h : (if decide (a ≤ 0) = true then ex_go (ex_blk y L.toNat) pl st w else ex_go c pl st w) = some q := h
            exact es_if_le C (fun hy => hin _ _ _ _ (by rw [if_pos (decide_eq_true hy)] at h; exact (Option.some.inj h).symm)) (fun hy => hin _ _ _ _ (by rw [if_neg (by simpa using hy)] at h; exact (Option.some.inj h).symm))
    | tableswitch df lo hi offs =>
      match st, h with
      | .int a :: st, h =>
        have h : (if a.toInt < lo ∨ hi < a.toInt then ex_go (ex_blk y df.toNat) pl st w else ex_go (ex_blk y ((offs.toList.getD (a.toInt - lo).toNat 0).toNat)) pl st w) = some q := h
        exact es_tswitch C (fun hy => hin _ _ _ _ (by rw [if_pos hy] at h; exact (Option.some.inj h).symm)) (fun hy => hin _ _ _ _ (by rw [if_neg hy] at h; exact (Option.some.inj h).symm))
    | lookupswitch df ps =>
      match st, h with
      | .int a :: st, h =>
        cases h
        exact es_lswitch C (hin _ _ _ _ rfl)
    | getfield f =>
      match st, h with
      | .ref a :: st, h =>
        have h : ex_gf f c pl (.ref a :: st) w = some q := h
        unfold ex_gf at h
        dsimp only at h
        cases hk : ex_fk a f with
        | none => rw [hk] at h; cases h
        | some kd =>
          rw [hk] at h
          match kd, hk, h with
          | 0, hk, h => cases h; exact es_getf C (by unfold ex_fv; rw [hk]) (hin _ _ _ _ rfl)
          | 1, hk, h => cases h
          | 2, hk, h => cases h; exact es_getf C (by unfold ex_fv; rw [hk]) (hin _ _ _ _ rfl)
          | n + 3, hk, h => cases h; exact es_getf C (by unfold ex_fv; rw [hk]) (hin _ _ _ _ rfl)
    | putfield f =>
      have h : ex_pf f c pl st w = some q := h
      unfold ex_pf at h
      match st, h with
      | .int x :: .ref a :: st, h =>
        dsimp only at h
        cases hk : ex_fk a f with
        | none => rw [hk] at h; cases h
        | some kd =>
          rw [hk] at h
          match kd, hk, h with
          | 0, hk, h => cases h; exact es_putf C hk (Or.inl rfl) (hin _ _ _ _ rfl)
          | 1, hk, h => cases h
          | 2, hk, h =>
            by_cases hx : x = 0 ∨ x = 1
            · simp only [if_pos hx] at h
              cases h; exact es_putf C hk (Or.inr ⟨rfl, hx⟩) (hin _ _ _ _ rfl)
            · simp only [if_neg hx] at h
              cases h
          | n + 3, hk, h => cases h
    | getstatic f =>
      have h : (if f = 1000 ∨ f = 1001 then ex_go c pl (.ref f :: st) w else none) = some q := h
      by_cases hf : f = 1000 ∨ f = 1001
      · rw [if_pos hf] at h; cases h
        exact es_gets C hf (hin _ _ _ _ rfl)
      · rw [if_neg hf] at h; cases h
    | iaload =>
      match st, h with
      | .int i :: .ref a :: st, h =>
        have h : (match ex_ald w a i with | some x => ex_go c pl (.int x :: st) w | none => none) = some q := h
        cases ha : ex_ald w a i with
        | none => rw [ha] at h; cases h
        | some x => rw [ha] at h; cases h; exact es_iald C ha (hin _ _ _ _ rfl)
    | baload =>
      match st, h with
      | .int i :: .ref a :: st, h =>
        have h : (if ex_cls a = 13 ∧ ¬ (i < 0 ∨ ex_len a ≤ i.toNatClampNeg) then ex_go c pl (.int (w.1 a i.toNatClampNeg) :: st) w else none) = some q := h
        by_cases ha : ex_cls a = 13 ∧ ¬ (i < 0 ∨ ex_len a ≤ i.toNatClampNeg)
        · rw [if_pos ha] at h; cases h; exact es_bald C ha.1 ha.2 (hin _ _ _ _ rfl)
        · rw [if_neg ha] at h; cases h
    | iastore =>
      match st, h with
      | .int x :: .int i :: .ref a :: st, h =>
        have h : (if ex_cls a = 12 ∧ ¬ (i < 0 ∨ ex_len a ≤ i.toNatClampNeg) then ex_go c pl st (ex_up w a i.toNatClampNeg (x)) else none) = some q := h
        by_cases ha : ex_cls a = 12 ∧ ¬ (i < 0 ∨ ex_len a ≤ i.toNatClampNeg)
        · rw [if_pos ha] at h; cases h; exact es_iast C ha.1 ha.2 (hin _ _ _ _ rfl)
        · rw [if_neg ha] at h; cases h
    | bastore =>
      match st, h with
      | .int x :: .int i :: .ref a :: st, h =>
        have h : (if ex_cls a = 13 ∧ ¬ (i < 0 ∨ ex_len a ≤ i.toNatClampNeg) then ex_go c pl st (ex_up w a i.toNatClampNeg (x.toInt8.toInt32)) else none) = some q := h
        by_cases ha : ex_cls a = 13 ∧ ¬ (i < 0 ∨ ex_len a ≤ i.toNatClampNeg)
        · rw [if_pos ha] at h; cases h; exact es_bast C ha.1 ha.2 (hin _ _ _ _ rfl)
        · rw [if_neg ha] at h; cases h
    | arraylength =>
      match st, h with
      | .ref a :: st, h =>
        have h : (if a = 2000 then ex_go c pl (.int (Int32.ofNat w.2.2.1) :: st) w else none) = some q := h
        by_cases h2 : a = 2000
        · rw [if_pos h2] at h; subst h2; cases h; exact es_slen C (hin _ _ _ _ rfl)
        · rw [if_neg h2] at h; cases h
    | anewarray o =>
      match st, h with
      | [.int n], h =>
        have h : (if n = Int32.ofNat (ex_len o) ∧ ex_dy y o = true then ex_go c (pl.map (ex_scr o)) [.ref o] (ex_zr w o) else none) = some q := h
        by_cases hk : n = Int32.ofNat (ex_len o) ∧ ex_dy y o = true
        · rw [if_pos hk] at h; cases h; exact es_newa C hk.1 hk.2 (hroom _ _ _ _ rfl) (hin _ _ _ _ rfl)
        · rw [if_neg hk] at h; cases h
    | invokestatic f =>
      have h : ex_call (ex_cal d) (f / 16) (f % 16) c pl st w = some q := h
      unfold ex_call at h
      cases hs : ex_spl (f % 16) [] st with
      | none => rw [hs] at h; cases h
      | some z =>
        obtain ⟨as, rest⟩ := z
        rw [hs] at h
        dsimp only at h
        by_cases hlow : (ex_cg (f / 16) pl rest && ex_low rest) = true
        · rw [if_pos hlow] at h
          rw [Bool.and_eq_true] at hlow
          unfold ex_back at h
          cases hc : ex_cal d (f / 16) as w with
          | none => rw [hc] at h; cases h
          | some z =>
            obtain ⟨r, w1⟩ := z
            rw [hc] at h
            cases h
            exact es_call C (hcal _ _ _ _ _ hc).2.2 (hmo _ _ _ _ _ hc).1 (hmo _ _ _ _ _ hc).2 (hroom _ _ _ _ rfl) hs hlow.1 hlow.2 (hin _ _ _ _ rfl)
        · rw [if_neg hlow] at h; cases h
    | invokevirtual f =>
      have h : ex_callv (ex_cal d) (f / 16) (f % 16 + 1) c pl st w = some q := h
      unfold ex_callv at h
      cases hs : ex_spl (f % 16 + 1) [] st with
      | none => rw [hs] at h; cases h
      | some z =>
        obtain ⟨as, rest⟩ := z
        rw [hs] at h
        dsimp only at h
        cases as with
        | nil => cases h
        | cons v as =>
          cases v with
          | ref ob =>
            dsimp only at h
            by_cases hlow : ex_low rest = true
            · rw [if_pos hlow] at h
              unfold ex_back at h
              cases hc : ex_cal d (f / 16) (.ref ob :: as) w with
              | none => rw [hc] at h; cases h
              | some z =>
                obtain ⟨r, w1⟩ := z
                rw [hc] at h
                cases h
                have hc3 := hcal _ _ _ _ _ hc
                exact es_callv C hc3.2.2 (hmo _ _ _ _ _ hc).1 (hmo _ _ _ _ _ hc).2 (hroom _ _ _ _ rfl) hc3.2.1 hs hlow (hin _ _ _ _ rfl)
            · rw [if_neg hlow] at h; cases h
          | _ => cases h
    | invokeinterface x n =>
      have h : ex_vcall (ex_cal d) x n c pl st w = some q := h
      unfold ex_vcall at h
      cases hs : ex_spl (n + 1) [] st with
      | none => rw [hs] at h; cases h
      | some z =>
        obtain ⟨as, rest⟩ := z
        rw [hs] at h
        dsimp only at h
        cases as with
        | nil => cases h
        | cons v as =>
          cases v with
          | ref ob =>
            dsimp only at h
            cases hdp : ex_dsp x (ex_cls ob) with
            | none => rw [hdp] at h; cases h
            | some yy =>
              rw [hdp] at h
              dsimp only at h
              by_cases hlow : ex_low rest = true
              · rw [if_pos hlow] at h
                unfold ex_back at h
                cases hc : ex_cal d yy (.ref ob :: as) w with
                | none => rw [hc] at h; cases h
                | some z =>
                  obtain ⟨r, w1⟩ := z
                  rw [hc] at h
                  cases h
                  exact es_calli C (hcal _ _ _ _ _ hc).2.2 (hmo _ _ _ _ _ hc).1 (hmo _ _ _ _ _ hc).2 (hroom _ _ _ _ rfl) hdp hs hlow (hin _ _ _ _ rfl)
              · rw [if_neg hlow] at h; cases h
          | _ => cases h
    | ireturn =>
      match st, h with
      | [.int a], h =>
        have h : (if ex_ret y = some .int then some (.inl (some (.int a), w)) else none) = some q := h
        by_cases hr : ex_ret y = some .int
        · rw [if_pos hr] at h
          cases h
          exact ho_i _ _ rfl hr
        · rw [if_neg hr] at h; cases h
    | lreturn =>
      match st, h with
      | [.long a], h =>
        have h : (if ex_ret y = some .long then some (.inl (some (.long a), w)) else none) = some q := h
        by_cases hr : ex_ret y = some .long
        · rw [if_pos hr] at h
          cases h
          exact ho_l _ _ rfl hr
        · rw [if_neg hr] at h; cases h
    | areturn =>
      match st, h with
      | [.int a], h =>
        have h : (if a = 0 ∨ a = 1 then (if ex_ret y = some .boolean then some (.inl (some (.int a), w)) else none) else none) = some q := h
        by_cases h01 : a = 0 ∨ a = 1
        · rw [if_pos h01] at h
          by_cases hr : ex_ret y = some .boolean
          · rw [if_pos hr] at h
            cases h
            exact ho_z _ _ rfl hr h01
          · rw [if_neg hr] at h; cases h
        · rw [if_neg h01] at h; cases h
    | return_ =>
      match st, h with
      | [], h =>
        have h : (if ex_ret y = none then some (.inl (none, w)) else none) = some q := h
        by_cases hr : ex_ret y = none
        · rw [if_pos hr] at h
          cases h
          exact ho_v _ rfl hr
        · rw [if_neg hr] at h; cases h
    | _ => cases h
end EU
/-! what a run leaves: the count of arrays grows, the script stays -/
theorem ex_nx_rel {P : PW → PW → Prop} {oI : Instr → Bool} {oY : Nat → Prop} {d y : Nat} {cal : Nat → List Value → PW → Option ER} (hrefl : ∀ w, P w w) (hup : ∀ w o k x, P w (ex_up w o k x)) (hnew : ∀ w o, oI (.anewarray o) = true → P w (ex_zr w o)) (hcal : ∀ (yy : Nat) (as : List Value) (w : PW) (r : Option Value) (w1 : PW), oY yy → cal yy as w = some (r, w1) → P w w1)
    (h1 : ∀ e, oI (.invokestatic e) = true → oY (e / 16)) (h2 : ∀ e, oI (.invokevirtual e) = true → oY (e / 16)) (h3 : ∀ x n o yy, oI (.invokeinterface x n) = true → ex_dsp x (ex_cls o) = some yy → oY yy) (hblk : ∀ L, (ex_blk y L).all oI = true) {c : List Instr} {pl st : List Value} {w : PW} (hc : c.all oI = true) {q : ER ⊕ ES} (h : ex_nx d cal y (c, pl, st, w) = some q) :
    (∀ r w1, q = .inl (r, w1) → ex_nf r ∧ P w w1) ∧ (∀ c1 pl1 st1 w1, q = .inr (c1, pl1, st1, w1) → c1.all oI = true ∧ P w w1) := by
  have go : ∀ {c : List Instr} {pl st : List Value} {w1 : PW}, c.all oI = true → P w w1 → ex_go c pl st w1 = some q → (∀ r w1, q = .inl (r, w1) → ex_nf r ∧ P w w1) ∧ (∀ c1 pl1 st1 w1, q = .inr (c1, pl1, st1, w1) → c1.all oI = true ∧ P w w1) := by
    intro c pl st w1 hc hp he
    cases he
    exact ⟨fun r w1 h => (by cases h), fun c1 pl1 st1 w2 h => (by cases h; exact ⟨hc, hp⟩)⟩
  have ret : ∀ {v : Option Value}, ex_nf v → (some (.inl (v, w)) : Option (ER ⊕ ES)) = some q → (∀ r w1, q = .inl (r, w1) → ex_nf r ∧ P w w1) ∧ (∀ c1 pl1 st1 w1, q = .inr (c1, pl1, st1, w1) → c1.all oI = true ∧ P w w1) := by
    intro v hv he
    cases he
    exact ⟨fun r w1 h => (by cases h; exact ⟨hv, hrefl _⟩), fun c1 pl1 st1 w2 h => (by cases h)⟩
  have sto : ∀ {k : Nat} {v : Value} {c : List Instr} {pl r : List Value}, c.all oI = true → ex_store k v c pl r w = some q → (∀ r w1, q = .inl (r, w1) → ex_nf r ∧ P w w1) ∧ (∀ c1 pl1 st1 w1, q = .inr (c1, pl1, st1, w1) → c1.all oI = true ∧ P w w1) := by
    intro k v c pl r hc he
    unfold ex_store at he
    split at he
    · cases he
    · exact go hc (hrefl _) he
  have bck : ∀ {yy : Nat} {as : List Value} {c : List Instr} {pl r : List Value}, c.all oI = true → oY yy → ex_back (cal yy as w) c pl r = some q → (∀ r w1, q = .inl (r, w1) → ex_nf r ∧ P w w1) ∧ (∀ c1 pl1 st1 w1, q = .inr (c1, pl1, st1, w1) → c1.all oI = true ∧ P w w1) := by
    intro yy as c pl r hc hy he
    unfold ex_back at he
    cases hq : cal yy as w with
    | none => rw [hq] at he; cases he
    | some z =>
      obtain ⟨v, w1⟩ := z
      rw [hq] at he
      exact go hc (hcal _ _ _ _ _ hy hq) he
  cases c with
  | nil => cases h
  | cons i c =>
    have hci : oI i = true := by rw [List.all_cons, Bool.and_eq_true] at hc; exact hc.1
    have hct : c.all oI = true := by rw [List.all_cons, Bool.and_eq_true] at hc; exact hc.2
    have hni : ∀ x, ex_nf (some (.int x)) := fun x v h o => by cases h; intro q; cases q
    have hnl : ∀ x, ex_nf (some (.long x)) := fun x v h o => by cases h; intro q; cases q
    have hnn : ex_nf none := fun v h o => by cases h
    cases i with
    | istore k => dsimp only [ex_nx] at h; split at h <;> first | exact sto hct h | cases h
    | astore k => dsimp only [ex_nx] at h; split at h <;> first | exact sto hct h | cases h
    | lstore k =>
      dsimp only [ex_nx] at h
      split at h
      · split at h <;> first | exact sto hct h | cases h
      · cases h
    | goto L => exact go (hblk _) (hrefl _) h
    | jsr L => exact go (hblk _) (hrefl _) h
    | if_icmp cd L =>
      dsimp only [ex_nx] at h
      split at h
      · split at h <;> first | exact go (hblk _) (hrefl _) h | exact go hct (hrefl _) h
      · cases h
    | ifCond cd L =>
      dsimp only [ex_nx] at h
      split at h
      · split at h <;> first | exact go (hblk _) (hrefl _) h | exact go hct (hrefl _) h
      · cases h
    | tableswitch df lo hi offs =>
      dsimp only [ex_nx] at h
      split at h
      · split at h <;> exact go (hblk _) (hrefl _) h
      · cases h
    | lookupswitch df ps =>
      dsimp only [ex_nx] at h
      split at h
      · exact go (hblk _) (hrefl _) h
      · cases h
    | getfield f =>
      dsimp only [ex_nx] at h
      unfold ex_gf at h
      split at h
      · first | (cases h; done) | (split at h <;> first | exact go hct (hrefl _) h | cases h)
      · cases h
    | putfield f =>
      dsimp only [ex_nx] at h
      unfold ex_pf at h
      split at h
      · split at h
        · exact go hct (hup _ _ _ _) h
        · split at h
          · exact go hct (hup _ _ _ _) h
          · cases h
        · cases h
      · cases h
    | iaload =>
      dsimp only [ex_nx] at h
      split at h
      · first | (cases h; done) | (split at h <;> first | exact go hct (hrefl _) h | cases h)
      · cases h
    | iastore =>
      dsimp only [ex_nx] at h
      split at h
      · split at h
        · exact go hct (hup _ _ _ _) h
        · cases h
      · cases h
    | bastore =>
      dsimp only [ex_nx] at h
      split at h
      · split at h
        · exact go hct (hup _ _ _ _) h
        · cases h
      · cases h
    | arraylength =>
      dsimp only [ex_nx] at h
      split at h
      · split at h
        · exact go hct (hrefl _) h
        · first | (cases h; done) | (split at h <;> first | exact go hct (hrefl _) h | cases h)
      · cases h
    | anewarray o =>
      dsimp only [ex_nx] at h
      split at h
      · split at h
        · exact go hct (hnew _ _ hci) h
        · cases h
      · cases h
    | invokestatic e =>
      dsimp only [ex_nx] at h
      unfold ex_call at h
      split at h
      · split at h
        · exact bck hct (h1 _ hci) h
        · cases h
      · cases h
    | invokevirtual e =>
      dsimp only [ex_nx] at h
      unfold ex_callv at h
      split at h
      · split at h
        · split at h
          · exact bck hct (h2 _ hci) h
          · cases h
        · cases h
      · cases h
    | invokeinterface x n =>
      dsimp only [ex_nx] at h
      unfold ex_vcall at h
      split at h
      · split at h
        · split at h
          · rename_i hd
            split at h
            · exact bck hct (h3 _ _ _ _ hci hd) h
            · cases h
          · cases h
        · cases h
      · cases h
    | ireturn =>
      dsimp only [ex_nx] at h
      split at h
      · split at h
        · exact ret (hni _) h
        · cases h
      · cases h
    | areturn =>
      dsimp only [ex_nx] at h
      split at h
      · split at h
        · split at h
          · exact ret (hni _) h
          · cases h
        · cases h
      · cases h
    | lreturn =>
      dsimp only [ex_nx] at h
      split at h
      · split at h
        · exact ret (hnl _) h
        · cases h
      · cases h
    | return_ =>
      dsimp only [ex_nx] at h
      split at h
      · split at h
        · exact ret hnn h
        · cases h
      · cases h
    | _ =>
      first
        | exact go hct (hrefl _) h
        | (cases h; done)
        | (dsimp only [ex_nx, ex_ii, ex_ll, ex_lis] at h
           split at h <;> first | exact go hct (hrefl _) h | cases h)
        | (dsimp only [ex_nx] at h
           split at h
           · first | (cases h; done) | (split at h <;> first | exact go hct (hrefl _) h | cases h)
           · cases h)
        | (dsimp only [ex_nx] at h
           split at h <;> first | exact go hct (hrefl _) h | cases h)
theorem ex_run_rel {P : PW → PW → Prop} {oI : Instr → Bool} {oY : Nat → Prop} {d y : Nat} {cal : Nat → List Value → PW → Option ER} (hrefl : ∀ w, P w w) (htr : ∀ a b c, P a b → P b c → P a c) (hup : ∀ w o k x, P w (ex_up w o k x)) (hnew : ∀ w o, oI (.anewarray o) = true → P w (ex_zr w o)) (hcal : ∀ (yy : Nat) (as : List Value) (w : PW) (r : Option Value) (w1 : PW), oY yy → cal yy as w = some (r, w1) → P w w1)
    (h1 : ∀ e, oI (.invokestatic e) = true → oY (e / 16)) (h2 : ∀ e, oI (.invokevirtual e) = true → oY (e / 16)) (h3 : ∀ x n o yy, oI (.invokeinterface x n) = true → ex_dsp x (ex_cls o) = some yy → oY yy) (hblk : ∀ L, (ex_blk y L).all oI = true) : ∀ (n : Nat) (c : List Instr) (pl st : List Value) (w : PW) (r : Option Value) (w1 : PW), c.all oI = true → ex_run d cal y n (c, pl, st, w) = some (r, w1) → ex_nf r ∧ P w w1 := by
  intro n
  induction n with
  | zero => intro c pl st w r w1 hc h; cases h
  | succ n ih =>
    intro c pl st w r w1 hc h
    cases hq : ex_nx d cal y (c, pl, st, w) with
    | none => rw [ex_run, hq] at h; cases h
    | some q =>
      have hr := ex_nx_rel hrefl hup hnew hcal h1 h2 h3 hblk hc hq
      rw [ex_run, hq] at h
      cases q with
      | inl z =>
        obtain ⟨v, w2⟩ := z
        cases h
        exact hr.1 _ _ rfl
      | inr z =>
        obtain ⟨c1, pl1, st1, w2⟩ := z
        obtain ⟨a1, a2⟩ := hr.2 _ _ _ _ rfl
        obtain ⟨b1, b2⟩ := ih _ _ _ _ _ _ a1 h
        exact ⟨b1, htr _ _ _ a2 b2⟩
theorem ex_all_t {c : List Instr} : c.all (fun _ => true) = true := by
  induction c with
  | nil => rfl
  | cons i c ih => rw [List.all_cons, ih]; rfl
def ex_Mo (w w1 : PW) : Prop := w.2.1 ≤ w1.2.1 ∧ w1.2.2 = w.2.2
theorem ex_Mo_tr (a b c : PW) (h : ex_Mo a b) (h2 : ex_Mo b c) : ex_Mo a c := ⟨Nat.le_trans h.1 h2.1, h2.2.trans h.2⟩
/-- a run: the count grows -/
theorem ex_mo_run {d y : Nat} (hmo : ∀ (yy : Nat) (as : List Value) (w : PW) (r : Option Value) (w1 : PW), ex_cal d yy as w = some (r, w1) → ex_nf r ∧ ex_Mo w w1) {n : Nat} {c : List Instr} {pl st : List Value} {w : PW} {r : Option Value} {w1 : PW} (h : ex_run d (ex_cal d) y n (c, pl, st, w) = some (r, w1)) : ex_nf r ∧ ex_Mo w w1 :=
  ex_run_rel (P := ex_Mo) (oI := fun _ => true) (oY := fun _ => True) (fun _ => ⟨Nat.le_refl _, rfl⟩) ex_Mo_tr (fun _ _ _ _ => ⟨Nat.le_refl _, rfl⟩) (fun _ _ _ => ⟨Nat.le_succ _, rfl⟩) (fun yy as w r w1 _ h => (hmo yy as w r w1 h).2) (fun _ _ => trivial) (fun _ _ => trivial) (fun _ _ _ _ _ _ => trivial) (fun _ => ex_all_t) n c pl st w r w1 ex_all_t h
theorem ex_mo : ∀ (d y : Nat) (as : List Value) (w : PW) (r : Option Value) (w1 : PW), ex_cal d y as w = some (r, w1) → ex_nf r ∧ ex_Mo w w1 := by
  intro d
  induction d with
  | zero => intro y as w r w1 h; cases h
  | succ d ih =>
    intro y as w r w1 h
    have h : (if ex_okR y as = true then ex_ev d (ex_cal d) y (ex_blk y 0, ex_ent y as, [], w) else none) = some (r, w1) := h
    by_cases hR : ex_okR y as = true
    · rw [if_pos hR] at h
      obtain ⟨n, hn⟩ := ex_ev_run h
      exact ex_mo_run ih hn
    · rw [if_neg hR] at h; cases h
/-- the class's methods make nothing -/
def ex_qI (i : Instr) : Bool := match i with
  | .anewarray _ => false
  | .invokestatic e => decide (e / 16 < 92)
  | .invokevirtual e => decide (e / 16 < 92)
  | _ => true
theorem ex_q_all : ∀ y, y < 92 → (ex_bs.getD y []).all (fun q => q.2.all ex_qI) = true := by decide +kernel
theorem ex_q_dsp : ex_Dall.all (fun q => decide (q.2.2 < 92)) = true := by decide +kernel
theorem ex_q_blk {y : Nat} (hy : y < 92) (L : Nat) : (ex_blk y L).all ex_qI = true := by
  unfold ex_blk
  cases h : (ex_bs.getD y []).lookup L with
  | none => rfl
  | some b => exact List.all_eq_true.mp (ex_q_all y hy) _ (ex_lk h)
theorem ex_quiet : ∀ (d y : Nat) (as : List Value) (w : PW) (r : Option Value) (w1 : PW), y < 92 → ex_cal d y as w = some (r, w1) → w1.2 = w.2 := by
  intro d
  induction d with
  | zero => intro y as w r w1 _ h; cases h
  | succ d ih =>
    intro y as w r w1 hy h
    have h : (if ex_okR y as = true then ex_ev d (ex_cal d) y (ex_blk y 0, ex_ent y as, [], w) else none) = some (r, w1) := h
    by_cases hR : ex_okR y as = true
    · rw [if_pos hR] at h
      obtain ⟨n, hn⟩ := ex_ev_run h
      exact (ex_run_rel (P := fun w w1 => w1.2 = w.2) (oI := ex_qI) (oY := fun z => z < 92) (fun _ => rfl) (fun _ _ _ h1 h2 => h2.trans h1) (fun _ _ _ _ => rfl) (fun _ _ h => by cases h) (fun yy as w r w1 hy h => ih yy as w r w1 hy h) (fun e h => of_decide_eq_true h) (fun e h => of_decide_eq_true h) (fun x n o yy _ h => of_decide_eq_true (List.all_eq_true.mp ex_q_dsp _ (ex_Dall_in h))) (ex_q_blk hy) n _ _ _ _ _ _ (ex_q_blk hy 0) hn).2
    · rw [if_neg hR] at h; cases h
section EV
variable {p : Program} {l : Launch} {e : Env} {R : Room} {s : State} {m : MethodId} {args : Array Value} {below : List Frame} {meth : Method} {c : Code} {Q : State → Prop} {dC : Nat → ClassId} {dI : Nat → Nat → Nat} {ad0 : Nat → Nat} {cI cB : ClassId} {K : Nat × Nat × Nat} {y d : Nat} {code : List Instr} {pl st : List Value} {w : PW}
theorem ex_room_le {w w1 : PW} (h : w.2.1 ≤ w1.2.1) (hr : ex_kc K w1 ≤ R.cells ∧ ex_ks K w1 ≤ R.slots) : ex_kc K w ≤ R.cells ∧ ex_ks K w ≤ R.slots := by
  have h1 : K.1 + (w1.2.1 - K.2.2) ≤ R.cells := hr.1
  have h2 : K.2.1 + 64 * (w1.2.1 - K.2.2) ≤ R.slots := hr.2
  show K.1 + (w.2.1 - K.2.2) ≤ R.cells ∧ K.2.1 + 64 * (w.2.1 - K.2.2) ≤ R.slots
  omega
theorem es_run (l : Launch) (hcal : ∀ (yy : Nat) (as : List Value) (w : PW) (r : Option Value) (w1 : PW), ex_cal d yy as w = some (r, w1) → d ≠ 0 ∧ ex_okR yy as = true ∧ ex_Con l d yy as w r w1)
    (C0 : ex_Fix p l e R s m args c dC dI ad0 cI cB y (d + 1)) {r : Option Value} {w1 : PW} (hroom : ex_kc K w1 ≤ R.cells ∧ ex_ks K w1 ≤ R.slots)
    (ho_i : ∀ (c1 : List Instr) (pl : List Value) (a : Int32), r = some (.int a) → ex_ret y = some .int → ex_G p l e R s m args below meth c Q dC dI ad0 cI cB K y (.ireturn :: c1) pl [.int a] w1) (ho_l : ∀ (c1 : List Instr) (pl : List Value) (a : Int64), r = some (.long a) → ex_ret y = some .long → ex_G p l e R s m args below meth c Q dC dI ad0 cI cB K y (.lreturn :: c1) pl [.long a] w1)
    (ho_z : ∀ (c1 : List Instr) (pl : List Value) (a : Int32), r = some (.int a) → ex_ret y = some .boolean → (a = 0 ∨ a = 1) → ex_G p l e R s m args below meth c Q dC dI ad0 cI cB K y (.areturn :: c1) pl [.int a] w1) (ho_v : ∀ (c1 : List Instr) (pl : List Value), r = none → ex_ret y = none → ex_G p l e R s m args below meth c Q dC dI ad0 cI cB K y (.return_ :: c1) pl [] w1) :
    ∀ (n : Nat) (code : List Instr) (pl st : List Value) (w : PW), ex_run d (ex_cal d) y n (code, pl, st, w) = some (r, w1) → ex_G p l e R s m args below meth c Q dC dI ad0 cI cB K y code pl st w := by
  intro n
  induction n with
  | zero => intro code pl st w h; cases h
  | succ n ih =>
    intro code pl st w h
    cases hq : ex_nx d (ex_cal d) y (code, pl, st, w) with
    | none => rw [ex_run, hq] at h; cases h
    | some q =>
      refine es_all C0 hcal (ex_mo d) hq ?_ ?_ ?_ ?_ ?_ ?_
      · intro c1 pl1 st1 w2 he
        subst he
        rw [ex_run, hq] at h
        exact ex_room_le (ex_mo_run (ex_mo d) h).2.1 hroom
      · intro c1 pl1 st1 w2 he
        subst he
        rw [ex_run, hq] at h
        exact ih c1 pl1 st1 w2 h
      · intro c1 a he hr
        subst he
        rw [ex_run, hq] at h
        cases h
        exact ho_i c1 pl a rfl hr
      · intro c1 a he hr
        subst he
        rw [ex_run, hq] at h
        cases h
        exact ho_l c1 pl a rfl hr
      · intro c1 a he hr h01
        subst he
        rw [ex_run, hq] at h
        cases h
        exact ho_z c1 pl a rfl hr h01
      · intro c1 he hr
        subst he
        rw [ex_run, hq] at h
        cases h
        exact ho_v c1 pl rfl hr
end EV
theorem ex_lay_args (ad : Nat → Nat) (as : List Value) (h : ∀ v ∈ as, ex_isv v = true) (i : Nat) : ∀ q ∈ ex_asc ad i (ex_lay as), q ∈ lv_args i (as.map (ex_tv ad)) := by
  induction as generalizing i with
  | nil => intro q hq; cases hq
  | cons v r ih =>
    have hr := fun u hu => h u (List.mem_cons_of_mem _ hu)
    have hv := h v List.mem_cons_self
    intro q hq
    cases v with
    | int x =>
      have hq : q ∈ (i, Value.int x) :: ex_asc ad (i + 1) (ex_lay r) := hq
      rcases List.mem_cons.mp hq with rfl | hq
      · exact List.mem_cons_self
      · exact List.mem_cons_of_mem _ (ih hr (i + 1) q hq)
    | long x =>
      have hq : q ∈ (i, Value.long x) :: ex_asc ad (i + 1 + 1) (ex_lay r) := hq
      rcases List.mem_cons.mp hq with rfl | hq
      · exact List.mem_cons_self
      · exact List.mem_cons_of_mem _ (ih hr (i + 2) q hq)
    | ref x =>
      have hq : q ∈ (i, Value.ref (ad x)) :: ex_asc ad (i + 1) (ex_lay r) := hq
      rcases List.mem_cons.mp hq with rfl | hq
      · exact List.mem_cons_self
      · exact List.mem_cons_of_mem _ (ih hr (i + 1) q hq)
    | _ => cases hv
theorem ex_asc_pad (ad : Nat → Nat) (l : List Value) (n i : Nat) : ex_asc ad i (l ++ List.replicate n .null) = ex_asc ad i l := by
  induction l generalizing i with
  | nil =>
    induction n generalizing i with
    | zero => rfl
    | succ n ih => exact ih (i + 1)
  | cons v r ih =>
    show (if ex_isv v then (i, ex_tv ad v) :: ex_asc ad (i + 1) (r ++ _) else ex_asc ad (i + 1) (r ++ _)) = (if ex_isv v then _ else _)
    rw [ih]
theorem ex_lay_len (ad : Nat → Nat) (as : List Value) (h : ∀ v ∈ as, ex_isv v = true) : (ex_lay as).length = (lg_sl (as.map (ex_tv ad))).length := by
  induction as with
  | nil => rfl
  | cons v r ih =>
    have hr := ih fun u hu => h u (List.mem_cons_of_mem _ hu)
    have hv := h v List.mem_cons_self
    cases v with
    | int x => show (ex_lay r).length + 1 = ([Slot.val (Value.int x)] ++ lg_sl (r.map (ex_tv ad))).length; rw [List.length_append, ← hr]; simp; omega
    | long x => show (ex_lay r).length + 1 + 1 = ([Slot.val (Value.long x), Slot.second] ++ lg_sl (r.map (ex_tv ad))).length; rw [List.length_append, ← hr]; simp; omega
    | ref x => show (ex_lay r).length + 1 = ([Slot.val (Value.ref (ad x))] ++ lg_sl (r.map (ex_tv ad))).length; rw [List.length_append, ← hr]; simp; omega
    | _ => cases hv
theorem ex_lay_mark (as : List Value) (n : Nat) : ∀ (j : Nat) (x : Int64), (ex_lay as ++ List.replicate n .null)[j]? = some (.long x) → (ex_lay as ++ List.replicate n .null)[j + 1]? = some (.retAddr 0) := by
  induction as with
  | nil =>
    intro j x h
    rw [show ex_lay [] = [] from rfl, List.nil_append, List.getElem?_replicate] at h
    split at h <;> cases h
  | cons v r ih =>
    intro j x h
    cases v with
    | long z =>
      cases j with
      | zero => rfl
      | succ j =>
        cases j with
        | zero => cases h
        | succ j => exact ih j x h
    | _ =>
      cases j with
      | zero => cases h
      | succ j => exact ih j x h
/-- THE SOUNDNESS: what the pure machine answers at depth d is the method's contract in the room of d frames -/
theorem ex_sound (l : Launch) : ∀ (d y : Nat) (as : List Value) (w : PW) (r : Option Value) (w1 : PW), ex_cal d y as w = some (r, w1) → d ≠ 0 ∧ ex_okR y as = true ∧ ex_Con l d y as w r w1 := by
  intro d
  induction d with
  | zero => intro y as w r w1 h; cases h
  | succ d ih =>
    intro y as w r w1 h
    have h : (if ex_okR y as = true then ex_ev d (ex_cal d) y (ex_blk y 0, ex_ent y as, [], w) else none) = some (r, w1) := h
    by_cases hR : ex_okR y as = true
    · rw [if_pos hR] at h
      refine ⟨Nat.succ_ne_zero d, hR, ?_⟩
      have hall : ∀ v ∈ as, ex_isv v = true := by
        unfold ex_okR at hR
        rw [Bool.and_eq_true] at hR
        exact List.all_eq_true.mp hR.1
      obtain ⟨n, hn⟩ := ex_ev_run h
      have hy : y < 104 := by
        rcases Nat.lt_or_ge y 104 with hy | hy
        · exact hy
        · have hb : ex_blk y 0 = [] := by
            rcases Nat.eq_or_lt_of_le hy with h4 | h4
            · subst h4; rfl
            · unfold ex_blk
              rw [List.getD_eq_getElem?_getD, List.getElem?_eq_none (Nat.le_trans (show ex_bs.length ≤ 105 by decide +kernel) h4)]
              rfl
          rw [hb] at hn
          cases n with
          | zero => cases hn
          | succ n =>
            rw [ex_run, show ex_nx d (ex_cal d) y ([], ex_ent y as, [], w) = none from rfl] at hn
            cases hn
      have hm := kw_all hy
      intro dC dI ad cI cB sz
      refine Met.ofW (cc := ex_B y) (maxL := ex_L y) (ret := ex_ret y) hm.2.2.2.2.1 rfl ?_
      intro p e s m args below meth c s₁ B hml hv
      obtain ⟨rfl, h0, hP, hCx, hIn, hSc⟩ := hv
      subst h0
      have hts := atoms_spec (ws := ex_ws y) B.pre
      have hown : s.vm.findClass (ex_Rn (ex_C y)) = some m.cls := by rw [← hm.2.2.1]; exact findClass_of_methodNamed B.named
      have hmo := ex_mo_run (ex_mo d) hn
      have C0 : ex_Fix p l e (headSpec (ex_ws y) (ex_Rm (d + 1) (w1.2.1 - w.2.1))).room s m (as.map (ex_tv ad)).toArray c dC dI ad cI cB y (d + 1) :=
        ⟨B.exec, B.bytes, hml, hown, fun w h => hts w (List.mem_cons_of_mem _ h), hCx, ⟨Nat.le_refl _, Nat.le_refl _, fun q => absurd q (by omega)⟩, hm.2.2.2.1⟩
      have hk : ex_kc (0, 0, w.2.1) w1 = w1.2.1 - w.2.1 := Nat.zero_add _
      have hs : ex_ks (0, 0, w.2.1) w1 = 64 * (w1.2.1 - w.2.1) := Nat.zero_add _
      have hk0 : ex_kc (0, 0, w.2.1) w = 0 := by show 0 + (w.2.1 - w.2.1) = 0; omega
      have hs0 : ex_ks (0, 0, w.2.1) w = 0 := by show 0 + 64 * (w.2.1 - w.2.1) = 0; omega
      have hG := es_run (below := below) (meth := meth) (K := (0, 0, w.2.1)) (Q := MQ below (ex_Post dC dI ad cI cB s.heap.size y r w1) (as.map (ex_tv ad)).toArray s (ex_kc (0, 0, w.2.1) w1) (ex_ks (0, 0, w.2.1) w1) (ex_AA ad s.heap.size)) l ih C0 (r := r) (w1 := w1) ⟨Nat.le_of_eq hk, Nat.le_of_eq hs⟩
        (fun c1 pl a he hr => by subst he; exact es_iret C0 B.notSynchronized (B.returns.trans hr))
        (fun c1 pl a he hr => by subst he; exact es_lret C0 B.notSynchronized (B.returns.trans hr))
        (fun c1 pl a he hr h01 => by subst he; exact es_zret C0 B.notSynchronized (B.returns.trans hr) h01)
        (fun c1 pl he hr => by subst he; exact es_vret C0 B.notSynchronized (B.returns.trans hr)) n _ _ _ _ hn
      rw [lg_entry_eq]
      have hfit : (lg_sl (as.map (ex_tv ad))).length ≤ ex_L y := by
        unfold ex_okR at hR
        rw [Bool.and_eq_true, Bool.and_eq_true] at hR
        rw [← ex_lay_len ad as hall]
        exact of_decide_eq_true hR.2.1
      have hent := lv_entry (as.map (ex_tv ad)) (n := ex_L y) hfit
      have key : ∀ ls : Array Slot, ex_LR ad (ex_L y) ls (ex_ent y as) → W p l e (headSpec (ex_ws y) (ex_Rm (d + 1) (w1.2.1 - w.2.1))).room s m (as.map (ex_tv ad)).toArray below meth c s.heap [] 0 0 (MQ below (ex_Post dC dI ad cI cB s.heap.size y r w1) (as.map (ex_tv ad)).toArray s (w1.2.1 - w.2.1) (64 * (w1.2.1 - w.2.1)) (ex_AA ad s.heap.size)) (F0 m 0 ls (([] : List Value).map (ex_tv ad))) := fun ls hL => by
        have h9 := hG ad 0 s.heap [] ls ⟨fun _ => Or.inl rfl, hIn, Nat.le_refl _, hSc⟩ (ex_ok_blk y 0) hP va_S.rf hL
        rw [hk0, hs0, hk, hs] at h9
        exact h9
      refine key _ ⟨?_, ?_, ?_⟩
      · unfold ex_ent
        rw [List.length_append, List.length_replicate, ex_lay_len ad as hall]
        omega
      · refine lv_has.less hent ?_
        unfold ex_ent
        rw [ex_asc_pad]
        exact ex_lay_args ad as hall 0
      · exact ex_lay_mark as _
    · rw [if_neg hR] at h; cases h
end
section
/-! the constructors: what a new object and its parts look like -/
def cx_ws (y : MethodName) (b : ByteArray) (n : Nat) : List Jvm.Cond := Jvm.Cond.code y b n none :: ex_tb
theorem cx_good {y : MethodName} {b : ByteArray} {n : Nat} (h : Jvm.Cond.code y b n none ∈ ex_tb) : GoodIn ex_tb (cx_ws y b n) := by
  intro w hw
  have hm : w ∈ ex_tb := by
    rcases List.mem_cons.mp hw with q | q
    · rw [q]; exact h
    · exact q
  exact ⟨hm, good_of_word (ex_tb_good w hm)⟩
def cx_Pre (dC : Nat → ClassId) (dI : Nat → Nat → Nat) (cI cB : ClassId) (sz : Nat) (ws : va_W) (U : State) : Prop :=
  U.heap.size = sz ∧ va_P (dC, dI) ex_cm ws U.heap ∧ va_K (dC, dI) ex_cm [(cI, .int)] U ∧ (∀ x ∈ ex_nw, va_Nw x U) ∧ va_D (fun _ => True) ws
abbrev cx_Post (dC : Nat → ClassId) (dI : Nat → Nat → Nat) (A : Nat → Prop) (f : (Nat → Nat) → va_W) : Array Value → State → Outcome → State → Prop :=
  va_Qv (fun _ : Nat → Nat => True) (fun u t => va_P (dC, dI) ex_cm (f u) t.heap ∧ va_D A (f u)) A
theorem cx_blind {dC : Nat → ClassId} {dI : Nat → Nat → Nat} {cI cB : ClassId} {sz : Nat} {ws : va_W} {vs : List Value} : FrameBlind (va_Pc vs (cx_Pre dC dI cI cB sz ws)) := by
  intro a U g mk h
  obtain ⟨h0, h1, h2, h3, h4, h5⟩ := h
  exact ⟨h0, h1, h2, va_K.moved (u := U) (U := U.calling g mk a) (Vm.Alike.refl U.vm) h3, fun x hx => ex_nw_same (u := U) (U := U.calling g mk a) rfl x hx (h4 x hx), h5⟩
theorem cx_at {ws w : va_W} {is : List Nat} (hs : is.map (fun i => ws[i]?) = w.map some) (k : Nat) (q : Nat × va_E) (hq : w[k]? = some q) : ∃ i, is[k]? = some i ∧ ws[i]? = some q := by
  have h1 : (is.map (fun i => ws[i]?))[k]? = some (some q) := by rw [hs, List.getElem?_map, hq]; rfl
  rw [List.getElem?_map] at h1
  cases hi : is[k]? with
  | none => rw [hi] at h1; cases h1
  | some i => rw [hi] at h1; exact ⟨i, rfl, Option.some.inj h1⟩
theorem cx_nd1 {a b : List Nat} (h : va_nd (a ++ b) = true) : va_nd a = true := by
  induction a with
  | nil => rfl
  | cons x a ih =>
    have h : (decide (x ∉ a ++ b) && va_nd (a ++ b)) = true := h
    rw [Bool.and_eq_true] at h
    show (decide (x ∉ a) && va_nd a) = true
    rw [Bool.and_eq_true]
    exact ⟨decide_eq_true (fun q => of_decide_eq_true h.1 (List.mem_append_left _ q)), ih h.2⟩
theorem cx_nd2 {a b : List Nat} (h : va_nd (a ++ b) = true) : va_nd b = true := by
  induction a with
  | nil => exact h
  | cons x a ih =>
    have h : (decide (x ∉ a ++ b) && va_nd (a ++ b)) = true := h
    rw [Bool.and_eq_true] at h
    exact ih h.2
theorem cw_int : (Jvm.Cond.arrayClass .int) ∈ ex_tb := ex_in (i := 59) (by decide +kernel) (by decide +kernel)
section CX
variable {p : Program} {l : Launch} {e : Env} {R : Room} {s : State} {m : MethodId} {args : Array Value} {below : List Frame} {meth : Method} {c : Code} {Hm : Heap} {locs : List Loc} {cells slots : Nat} {Q : State → Prop} {dC : Nat → ClassId} {dI : Nat → Nat → Nat} {cI cB : ClassId} {pc : Nat} {ls : Array Slot} {rest st0 : List Value} {a : Array Value} {A0 : Nat → Prop} {mc ms : Nat} {ws wc wr : va_W} {f : (Nat → Nat) → va_W} {isC isR : List Nat}
theorem cx_go (hr : va_Run p l e R s m args below meth c Hm locs cells slots mc ms (F0 m pc ls st0) rest (cx_Post dC dI (va_A wc Hm.size) f a) (va_A wc Hm.size))
    (hS : va_S A0 s.heap Hm locs) (hA : ∀ q, s.heap.size ≤ q → A0 q) (hP : va_P (dC, dI) ex_cm ws Hm) (hD : va_D A0 ws)
    (hC : isC.map (fun i => ws[i]?) = wc.map some) (hRr : isR.map (fun i => ws[i]?) = wr.map some) (hn : va_nd isR = true) (hdis : ∀ i ∈ isR, i ∉ isC)
    (kk : ∀ (u : Nat → Nat) (H1 : Heap) (locs1 : List Loc), va_P (dC, dI) ex_cm (wr ++ f u) H1 → va_D A0 (wr ++ f u) → va_S A0 s.heap H1 locs1 → W p l e R s m args below meth c H1 locs1 (cells + mc) (slots + ms) Q (F0 m (pc + 3) ls rest)) :
    W p l e R s m args below meth c Hm locs cells slots Q (F0 m pc ls st0) := by
  have hF := va_free hD hS hA isC hC
  refine va_callv hr hS (fun q _ h => hF q h) hF (fun u t H1 locs1 ht hvm hw hB hz hk hS1 => ?_)
  obtain ⟨hP1, hD1⟩ := hB
  rw [ht] at hP1
  obtain ⟨hP2, hD2⟩ := va_join hP hD isC isR hC hRr hn hdis hk hF hP1 hD1
  exact kk u H1 locs1 hP2 hD2 hS1
variable {maxL nL index : Nat} {y : MethodName} {bytes cc : ByteArray} {rm : Room} {own : String} {b : Nat} {As : List Value}
theorem cx_ctorN (hx : p.tables.exec = Jvm.exec) (hb : c.code = cc) (hml : c.maxLocals = nL) (hts : ∀ w ∈ ex_tb, w.before args s = true) (hown : s.vm.findClass own = some m.cls)
    (hM : Met l y (cx_ws y bytes maxL) rm (va_Pc (.ref b :: As) (cx_Pre dC dI cI cB Hm.size wc)) (cx_Post dC dI (va_A wc Hm.size) f) mc ms (va_A wc Hm.size))
    (hcode : Jvm.Cond.code y bytes maxL none ∈ ex_tb) (hini : Jvm.Cond.initialized y.cls ∈ ex_tb) (hinst : Jvm.Cond.instanceMethod y ∈ ex_tb) (hnest : Jvm.Cond.methodLinkNest own index y "BorderThroughBed" ∈ ex_nw) (hy1 : y.name = "<init>")
    (hd : y.cls ≠ "java/lang/invoke/MethodHandle" ∧ y.cls ≠ "java/lang/invoke/VarHandle" ∧ (parseMethodDescriptor y.desc).map (fun d => d.parameters.length) = some As.length)
    (hrc : rm.cells = mc) (hrs : rm.slots = ms) (hR : rm.frames + 1 ≤ R.frames ∧ 8 + (maxL + 11) + rm.locals ≤ R.locals)
    (hK : va_K (dC, dI) ex_cm [(cI, .int)] s) (hN : ∀ x ∈ ex_nw, va_Nw x s) (hP : va_P (dC, dI) ex_cm ws Hm) (hD : va_D A0 ws) (hS : va_S A0 s.heap Hm locs) (hA : ∀ q, s.heap.size ≤ q → A0 q)
    (hC : isC.map (fun i => ws[i]?) = wc.map some) (hRr : isR.map (fun i => ws[i]?) = wr.map some) (hn : va_nd (isR ++ isC) = true) (hdis : ∀ i ∈ isR, i ∉ isC)
    (hsize : ls.size = nL) (hroom : (rest.map fun v => v.category).sum ≤ 8) (hdg : decode cc pc = .ok (.invokespecial index, 3)) (hf : cells + mc ≤ R.cells ∧ slots + ms ≤ R.slots)
    (kk : ∀ (u : Nat → Nat) (H1 : Heap) (locs1 : List Loc), va_P (dC, dI) ex_cm (wr ++ f u) H1 → va_D A0 (wr ++ f u) → va_S A0 s.heap H1 locs1 → W p l e R s m args below meth c H1 locs1 (cells + mc) (slots + ms) Q (F0 m (pc + 3) ls rest)) :
    W p l e R s m args below meth c Hm locs cells slots Q (F0 m pc ls (As.reverse ++ .ref b :: rest)) := by
  have hPc : va_P (dC, dI) ex_cm wc Hm := fun k q hq => by
    obtain ⟨i, -, h2⟩ := cx_at hC k q hq
    exact hP i q h2
  have hDc := hD.sub isC (cx_nd2 hn) hC
  exact cx_go (va_runIN (As := As) (rest := rest) ⟨hx, hb, hml, hown, hts⟩ hM ⟨va_cnB As.length hts (cx_good hcode) rfl hrc hrs (hN _ hnest) (hts _ hini) hd hR, hy1, hts _ hinst⟩ ⟨cx_blind, fun U hU hW => ⟨rfl, by rw [hU], by rw [hU]; exact hPc, va_K.moved hW.alike hK, fun x hx => ex_nw_warm hW x hx (hN x hx), hDc.weaken (fun _ _ _ _ => trivial)⟩⟩ rfl rfl hsize rfl (lv_room hroom) hdg hf) hS hA hP hD hC hRr (cx_nd1 hn) hdis kk
theorem cx_ctor (hx : p.tables.exec = Jvm.exec) (hb : c.code = cc) (hml : c.maxLocals = nL) (hts : ∀ w ∈ ex_tb, w.before args s = true) (hown : s.vm.findClass own = some m.cls)
    (hM : Met l y (cx_ws y bytes maxL) rm (va_Pc (.ref b :: As) (cx_Pre dC dI cI cB Hm.size wc)) (cx_Post dC dI (va_A wc Hm.size) f) mc ms (va_A wc Hm.size))
    (hcode : Jvm.Cond.code y bytes maxL none ∈ ex_tb) (hini : Jvm.Cond.initialized y.cls ∈ ex_tb) (hinst : Jvm.Cond.instanceMethod y ∈ ex_tb) (hlink : Jvm.Cond.methodLink own index y ∈ ex_tb) (hy1 : y.name = "<init>")
    (hd : y.cls ≠ "java/lang/invoke/MethodHandle" ∧ y.cls ≠ "java/lang/invoke/VarHandle" ∧ (parseMethodDescriptor y.desc).map (fun d => d.parameters.length) = some As.length)
    (hrc : rm.cells = mc) (hrs : rm.slots = ms) (hR : rm.frames + 1 ≤ R.frames ∧ 8 + (maxL + 11) + rm.locals ≤ R.locals)
    (hK : va_K (dC, dI) ex_cm [(cI, .int)] s) (hN : ∀ x ∈ ex_nw, va_Nw x s) (hP : va_P (dC, dI) ex_cm ws Hm) (hD : va_D A0 ws) (hS : va_S A0 s.heap Hm locs) (hA : ∀ q, s.heap.size ≤ q → A0 q)
    (hC : isC.map (fun i => ws[i]?) = wc.map some) (hRr : isR.map (fun i => ws[i]?) = wr.map some) (hn : va_nd (isR ++ isC) = true) (hdis : ∀ i ∈ isR, i ∉ isC)
    (hsize : ls.size = nL) (hroom : (rest.map fun v => v.category).sum ≤ 8) (hdg : decode cc pc = .ok (.invokespecial index, 3)) (hf : cells + mc ≤ R.cells ∧ slots + ms ≤ R.slots)
    (kk : ∀ (u : Nat → Nat) (H1 : Heap) (locs1 : List Loc), va_P (dC, dI) ex_cm (wr ++ f u) H1 → va_D A0 (wr ++ f u) → va_S A0 s.heap H1 locs1 → W p l e R s m args below meth c H1 locs1 (cells + mc) (slots + ms) Q (F0 m (pc + 3) ls rest)) :
    W p l e R s m args below meth c Hm locs cells slots Q (F0 m pc ls (As.reverse ++ .ref b :: rest)) := by
  have hPc : va_P (dC, dI) ex_cm wc Hm := fun k q hq => by
    obtain ⟨i, -, h2⟩ := cx_at hC k q hq
    exact hP i q h2
  have hDc := hD.sub isC (cx_nd2 hn) hC
  exact cx_go (va_runI (As := As) (rest := rest) ⟨hx, hb, hml, hown, hts⟩ hM (cwI As.length hts (cx_good hcode) rfl hrc hrs (hts _ hini) (hts _ hlink) (hts _ hinst) hy1 hd hR) ⟨cx_blind, fun U hU hW => ⟨rfl, by rw [hU], by rw [hU]; exact hPc, va_K.moved hW.alike hK, fun x hx => ex_nw_warm hW x hx (hN x hx), hDc.weaken (fun _ _ _ _ => trivial)⟩⟩ rfl rfl hsize rfl (lv_room hroom) hdg hf) hS hA hP hD hC hRr (cx_nd1 hn) hdis kk
variable {ci k : Nat} {fs : List Value} {H0 : Heap} {v : Value}
theorem cx_new (hx : p.tables.exec = Jvm.exec) (hb : c.code = cc) (hts : ∀ w ∈ ex_tb, w.before args s = true) (hown : s.vm.findClass own = some m.cls) (hc : ci < 11)
    (hcl : Jvm.Cond.classLink own index (ex_Rn ci) ∈ ex_tb) (hinst : Jvm.Cond.instantiable (ex_Rn ci) (ex_N ci) ∈ ex_tb) (hini : Jvm.Cond.initialized (ex_Rn ci) ∈ ex_tb)
    (hK : va_K (dC, dI) ex_cm [(cI, .int)] s) (hP : va_P (dC, dI) ex_cm ws Hm) (hD : va_D A0 ws) (hS : va_S A0 H0 Hm locs) (hA : ∀ q, H0.size ≤ q → A0 q)
    (hfs : ∀ j, j < ex_N ci → defaultValue (ex_ty ci j) = vp_V fs j) (hcells : cells + 1 ≤ R.cells) (hslots : slots + ex_N ci ≤ R.slots) (hdg : decode cc pc = .ok (.new index, 3))
    (kk : ∀ (q : Nat) (H1 : Heap), va_P (dC, dI) ex_cm (ws ++ [(q, .inr (ci, fs))]) H1 → va_D A0 (ws ++ [(q, .inr (ci, fs))]) → va_S A0 H0 H1 locs → W p l e R s m args below meth c H1 locs (cells + 1) (slots + ex_N ci) Q (F0 m (pc + 3) ls (.ref q :: rest))) :
    W p l e R s m args below meth c Hm locs cells slots Q (F0 m pc ls rest) :=
  va_new (ci := ci) (C := ex_Rn ci) (T := ex_T ci) (N := ex_N ci) hx hb hts (ku_all (Nat.lt_succ_of_lt hc)) (ex_ty ci) (kp_all (Nat.lt_succ_of_lt hc)) hown (hts _ hcl) (hts _ hinst) (hts _ hini) hK hP hD hS hA (ex_cl_at hc) hfs hcells hslots hdg kk
theorem cx_newi {n : Int32} {N : Nat} (hx : p.tables.exec = Jvm.exec) (hb : c.code = cc) (hts : ∀ w ∈ ex_tb, w.before args s = true)
    (hK : va_K (dC, dI) ex_cm [(cI, .int)] s) (hP : va_P (dC, dI) ex_cm ws Hm) (hD : va_D A0 ws) (hS : va_S A0 H0 Hm locs) (hA : ∀ q, H0.size ≤ q → A0 q)
    (hn : ¬ n < 0) (hN : n.toNatClampNeg = N) (hbytes : N * componentBytes FieldType.int ≤ 536870912) (hcells : cells + 1 ≤ R.cells) (hslots : slots + N ≤ R.slots) (hdg : decode cc pc = .ok (.newarray .int, 2))
    (kk : ∀ (q : Nat) (H1 : Heap), va_P (dC, dI) ex_cm (ws ++ [(q, .inl (cI, N, .inl (fun _ => 0)))]) H1 → va_D A0 (ws ++ [(q, .inl (cI, N, .inl (fun _ => 0)))]) → va_S A0 H0 H1 locs → W p l e R s m args below meth c H1 locs (cells + 1) (slots + N) Q (F0 m (pc + 2) ls (.ref q :: rest))) :
    W p l e R s m args below meth c Hm locs cells slots Q (F0 m pc ls (.int n :: rest)) := by
  refine va_newa (atype := .int) (ty := .int) (a0 := (N, .inl (fun _ => 0))) hx hb (hts _ cw_int) rfl hK hP hD hS hA (fun _ => rfl) hn hN hbytes hcells hslots hdg (fun q cA H1 hK2 hP1 hD1 hS1 => ?_)
  have h1 : s.vm.findClass _ = some cA := (hK2.2 1 (cA, .int) rfl).2
  have h2 : s.vm.findClass _ = some cI := (hK.2 0 (cI, .int) rfl).2
  have h3 : cA = cI := Option.some.inj (h1.symm.trans h2)
  subst h3
  exact kk q H1 hP1 hD1 hS1
theorem cx_putF {a : Nat} (hx : p.tables.exec = Jvm.exec) (hb : c.code = cc) (hts : ∀ w ∈ ex_tb, w.before args s = true) (hown : s.vm.findClass (ex_Rn ci) = some m.cls) (hc : ci < 11)
    (hlink : Jvm.Cond.fieldLink (ex_Rn ci) index (ex_Rn ci) (ex_T ci k).2.1 (ex_T ci k).2.2.1 ∈ ex_tb)
    (hK : va_K (dC, dI) ex_cm [(cI, .int)] s) (hP : va_P (dC, dI) ex_cm ws Hm) (hD : va_D A0 ws) (hS : va_S A0 H0 Hm locs) (q0 : Nat) (he : ws[q0]? = some (a, .inr (ci, fs))) (hk : k < ex_N ci) (hfin : (ex_T ci k).2.2.2 = true) (hin : meth.name = "<init>")
    (hn : narrow (ex_ty ci k) v = v) (hfit : fits (ex_ty ci k) v = true) (hl : k < fs.length) (hdg : decode cc pc = .ok (.putfield index, 3))
    (kk : ∀ (H1 : Heap) (locs1 : List Loc), va_P (dC, dI) ex_cm (ws.set q0 (a, .inr (ci, fs.set k v))) H1 → va_D A0 (ws.set q0 (a, .inr (ci, fs.set k v))) → va_S A0 H0 H1 locs1 → W p l e R s m args below meth c H1 locs1 cells slots Q (F0 m (pc + 3) ls rest)) :
    W p l e R s m args below meth c Hm locs cells slots Q (F0 m pc ls (v :: .ref a :: rest)) :=
  va_putF (own := ex_Rn ci) (ref := ex_Rn ci) (C := ex_Rn ci) (T := ex_T ci) (N := ex_N ci) (Ts := ex_tb) hx hb hts (ku_all (Nat.lt_succ_of_lt hc)) (ex_ty ci) (kp_all (Nat.lt_succ_of_lt hc)) (kn_all (Nat.lt_succ_of_lt hc)) hown hK hP hD hS q0 he (ex_cl_at hc) k hk (hts _ hlink) (by rw [ex_decl _ (Nat.lt_succ_of_lt hc) _ hk]; exact fun _ h9 => h9) hfin hin (ex_decl _ (Nat.lt_succ_of_lt hc) _ hk) (kp_all (Nat.lt_succ_of_lt hc) _ hk) hn hfit hl hdg kk
theorem cx_put {a : Nat} (hx : p.tables.exec = Jvm.exec) (hb : c.code = cc) (hts : ∀ w ∈ ex_tb, w.before args s = true) (hown : s.vm.findClass (ex_Rn ci) = some m.cls) (hc : ci < 11)
    (hlink : Jvm.Cond.fieldLink (ex_Rn ci) index (ex_Rn ci) (ex_T ci k).2.1 (ex_T ci k).2.2.1 ∈ ex_tb)
    (hK : va_K (dC, dI) ex_cm [(cI, .int)] s) (hP : va_P (dC, dI) ex_cm ws Hm) (hD : va_D A0 ws) (hS : va_S A0 H0 Hm locs) (q0 : Nat) (he : ws[q0]? = some (a, .inr (ci, fs))) (hk : k < ex_N ci) (hfin : (ex_T ci k).2.2.2 = false)
    (hn : narrow (ex_ty ci k) v = v) (hfit : fits (ex_ty ci k) v = true) (hl : k < fs.length) (hdg : decode cc pc = .ok (.putfield index, 3))
    (kk : ∀ (H1 : Heap) (locs1 : List Loc), va_P (dC, dI) ex_cm (ws.set q0 (a, .inr (ci, fs.set k v))) H1 → va_D A0 (ws.set q0 (a, .inr (ci, fs.set k v))) → va_S A0 H0 H1 locs1 → W p l e R s m args below meth c H1 locs1 cells slots Q (F0 m (pc + 3) ls rest)) :
    W p l e R s m args below meth c Hm locs cells slots Q (F0 m pc ls (v :: .ref a :: rest)) :=
  va_put (own := ex_Rn ci) (ref := ex_Rn ci) (C := ex_Rn ci) (T := ex_T ci) (N := ex_N ci) (Ts := ex_tb) hx hb hts (ku_all (Nat.lt_succ_of_lt hc)) (ex_ty ci) (kp_all (Nat.lt_succ_of_lt hc)) (kn_all (Nat.lt_succ_of_lt hc)) hown hK hP hD hS q0 he (ex_cl_at hc) k hk (hts _ hlink) (by rw [ex_decl _ (Nat.lt_succ_of_lt hc) _ hk]; exact fun _ h9 => h9) hfin (kp_all (Nat.lt_succ_of_lt hc) _ hk) hn hfit hl hdg kk
end CX

def cy_Text : MethodName := ⟨"BorderThroughBed$Text", "<init>", "()V"⟩
abbrev cb_Text : ByteArray := prog_11_method_1_code
theorem cd_Text_0 : decode cb_Text 0 = .ok (.aload_n 0, 1) := by decide +kernel
theorem cd_Text_1 : decode cb_Text 1 = .ok (.invokespecial 1, 3) := by decide +kernel
theorem cd_Text_4 : decode cb_Text 4 = .ok (.return_, 1) := by decide +kernel
theorem cw_1 : (Jvm.Cond.code cy_Text cb_Text 1 none) ∈ ex_tb := ex_in (i := 67) (by decide +kernel) (by decide +kernel)
theorem cw_2 : (Jvm.Cond.instanceMethod cy_Text) ∈ ex_tb := ex_in (i := 66) (by decide +kernel) (by decide +kernel)
theorem cw_3 : (Jvm.Cond.methodLink "BorderThroughBed$Text" 1 Lib.objectInit) ∈ ex_tb := ex_in (i := 68) (by decide +kernel) (by decide +kernel)
theorem cw_4 : (Jvm.Cond.instanceMethod Lib.objectInit) ∈ ex_tb := ex_in (i := 44) (by decide +kernel) (by decide +kernel)
theorem cw_5 : (Jvm.Cond.code Lib.objectInit ⟨#[0xb1]⟩ 1 none) ∈ ex_tb := ex_in (i := 45) (by decide +kernel) (by decide +kernel)
theorem cw_6 : (Jvm.Cond.initialized "BorderThroughBed$Text") ∈ ex_tb := ex_in (i := 29) (by decide +kernel) (by decide +kernel)
set_option maxHeartbeats 4000000 in
set_option maxRecDepth 100000 in
theorem c_Text (l : Launch) (dC : Nat → ClassId) (dI : Nat → Nat → Nat) (cI cB : ClassId) (h0 sz : Nat) (ci : Nat) (fs : List Value) : Met l cy_Text (cx_ws cy_Text cb_Text 1) { frames := 1, cells := 0, slots := 0, locals := 12 } (va_Pc [.ref h0] (cx_Pre dC dI cI cB sz [(h0, .inr (ci, fs))])) (cx_Post dC dI (va_A [(h0, .inr (ci, fs))] sz) (fun u => [(h0, .inr (ci, fs))])) 0 0 (va_A [(h0, .inr (ci, fs))] sz) := by
  refine Met.ofW (cc := cb_Text) (maxL := 1) (ret := none) (by decide) rfl ?_
  intro p e s m args below meth c s₁ B hml hv
  obtain ⟨rfl, hsz, hP, hK, hN, hD0⟩ := hv
  have hx := B.exec
  have hb := B.bytes
  have hr := B.returns
  have hts0 := atoms_spec (ws := cx_ws cy_Text cb_Text 1) B.pre
  have hts : ∀ w ∈ ex_tb, w.before _ s = true := fun w h => hts0 w (List.mem_cons_of_mem _ h)
  have hown : s.vm.findClass "BorderThroughBed$Text" = some m.cls := findClass_of_methodNamed B.named
  have hlocks := B.notSynchronized
  have hin : meth.name = "<init>" := (name_of_methodNamed B.named B.method).1
  subst hsz
  have hD := hD0.self (sz := s.heap.size)
  generalize hAe : va_A [(h0, .inr (ci, fs))] s.heap.size = A at hD ⊢
  have hA : ∀ q : Nat, s.heap.size ≤ q → A q := fun q h => by rw [← hAe]; exact Or.inr h
  have hS : va_S A s.heap s.heap [] := va_S.rf
  have hl := lv_entry ([.ref h0]) (n := 1) (Nat.le_of_ble_eq_true rfl)
  rw [lg_entry_eq]
  generalize (lg_sl ([.ref h0]) ++ List.replicate (1 - (lg_sl ([.ref h0])).length) Slot.unset).toArray = ls at hl ⊢
  have hl : lv_has ls 1 [(0, .ref h0)] := hl
  refine lv_aload_n hx hb cd_Text_0 rfl (lv_at hl 0 rfl) ?_
  refine W.objInit (own := "BorderThroughBed$Text") hx hb hown (hts _ cw_3) (hts _ cw_4) (hts _ cw_5) rfl (by rw [hml]; exact hl.1) rfl cd_Text_1 (Nat.le_of_ble_eq_true rfl) (Nat.le_of_ble_eq_true rfl) ?_
  refine W.eq (g2 := F0 m 4 ls []) rfl ?_
  refine W.widen (k := 0) (n := 0) (Nat.le_of_ble_eq_true rfl) (Nat.le_of_ble_eq_true rfl) ?_
  exact W.vret hx hb hr (fun t ht hW => ⟨⟨fun k => ([h0] : List Nat).getD k 0, rfl, trivial, by rw [ht]; exact hP, hD⟩, hS.F ht⟩) hS.2.2 cd_Text_4
def cy_HouseText : MethodName := ⟨"BorderThroughBed$HouseText", "<init>", "()V"⟩
abbrev cb_HouseText : ByteArray := prog_4_method_1_code
theorem cd_HouseText_0 : decode cb_HouseText 0 = .ok (.aload_n 0, 1) := by decide +kernel
theorem cd_HouseText_1 : decode cb_HouseText 1 = .ok (.invokespecial 3, 3) := by decide +kernel
theorem cd_HouseText_4 : decode cb_HouseText 4 = .ok (.return_, 1) := by decide +kernel
theorem cw_7 : (Jvm.Cond.code cy_HouseText cb_HouseText 1 none) ∈ ex_tb := ex_in (i := 64) (by decide +kernel) (by decide +kernel)
theorem cw_8 : (Jvm.Cond.initialized "BorderThroughBed$HouseText") ∈ ex_tb := ex_in (i := 30) (by decide +kernel) (by decide +kernel)
theorem cw_9 : (Jvm.Cond.instanceMethod cy_HouseText) ∈ ex_tb := ex_in (i := 63) (by decide +kernel) (by decide +kernel)
set_option maxHeartbeats 4000000 in
set_option maxRecDepth 100000 in
theorem c_HouseText (l : Launch) (dC : Nat → ClassId) (dI : Nat → Nat → Nat) (cI cB : ClassId) (h0 sz : Nat) : Met l cy_HouseText (cx_ws cy_HouseText cb_HouseText 1) { frames := 2, cells := 0, slots := 0, locals := 32 } (va_Pc [.ref h0] (cx_Pre dC dI cI cB sz [(h0, .inr (2, [.int 0, .int 0, .int 0, .int 0]))])) (cx_Post dC dI (va_A [(h0, .inr (2, [.int 0, .int 0, .int 0, .int 0]))] sz) (fun u => [(h0, .inr (2, [.int 0, .int 0, .int 0, .int 0]))])) 0 0 (va_A [(h0, .inr (2, [.int 0, .int 0, .int 0, .int 0]))] sz) := by
  refine Met.ofW (cc := cb_HouseText) (maxL := 1) (ret := none) (by decide) rfl ?_
  intro p e s m args below meth c s₁ B hml hv
  obtain ⟨rfl, hsz, hP, hK, hN, hD0⟩ := hv
  have hx := B.exec
  have hb := B.bytes
  have hr := B.returns
  have hts0 := atoms_spec (ws := cx_ws cy_HouseText cb_HouseText 1) B.pre
  have hts : ∀ w ∈ ex_tb, w.before _ s = true := fun w h => hts0 w (List.mem_cons_of_mem _ h)
  have hown : s.vm.findClass "BorderThroughBed$HouseText" = some m.cls := findClass_of_methodNamed B.named
  have hlocks := B.notSynchronized
  have hin : meth.name = "<init>" := (name_of_methodNamed B.named B.method).1
  subst hsz
  have hD := hD0.self (sz := s.heap.size)
  generalize hAe : va_A [(h0, .inr (2, [.int 0, .int 0, .int 0, .int 0]))] s.heap.size = A at hD ⊢
  have hA : ∀ q : Nat, s.heap.size ≤ q → A q := fun q h => by rw [← hAe]; exact Or.inr h
  have hS : va_S A s.heap s.heap [] := va_S.rf
  have hl := lv_entry ([.ref h0]) (n := 1) (Nat.le_of_ble_eq_true rfl)
  rw [lg_entry_eq]
  generalize (lg_sl ([.ref h0]) ++ List.replicate (1 - (lg_sl ([.ref h0])).length) Slot.unset).toArray = ls at hl ⊢
  have hl : lv_has ls 1 [(0, .ref h0)] := hl
  refine lv_aload_n hx hb cd_HouseText_0 rfl (lv_at hl 0 rfl) ?_
  refine cx_ctorN (As := []) (b := h0) (rest := []) (wc := [(h0, .inr (2, [.int 0, .int 0, .int 0, .int 0]))]) (wr := []) (isC := [0]) (isR := []) (own := "BorderThroughBed$HouseText") (nL := 1) (Hm := s.heap) hx hb hml hts hown (c_Text l dC dI cI cB h0 s.heap.size 2 [.int 0, .int 0, .int 0, .int 0]) cw_1 cw_6 cw_2 (List.mem_of_getElem? (i := 2) (by decide +kernel)) rfl (by decide +kernel) rfl rfl ⟨Nat.le_of_ble_eq_true rfl, Nat.le_of_ble_eq_true rfl⟩ hK hN hP hD hS hA rfl rfl (by decide) (by decide) hl.1 (Nat.le_of_ble_eq_true rfl) cd_HouseText_1 ⟨Nat.le_of_ble_eq_true rfl, Nat.le_of_ble_eq_true rfl⟩ (fun u0 H locs hP hD hS => ?_)
  refine W.widen (k := 0) (n := 0) (Nat.le_of_ble_eq_true rfl) (Nat.le_of_ble_eq_true rfl) ?_
  have hP : va_P (dC, dI) ex_cm [(h0, .inr (2, [.int 0, .int 0, .int 0, .int 0]))] H := hP
  have hD : va_D A [(h0, .inr (2, [.int 0, .int 0, .int 0, .int 0]))] := hD
  refine W.widen (k := 0) (n := 0) (Nat.le_of_ble_eq_true rfl) (Nat.le_of_ble_eq_true rfl) ?_
  exact W.vret hx hb hr (fun t ht hW => ⟨⟨fun k => ([h0] : List Nat).getD k 0, rfl, trivial, by rw [ht]; exact hP, hD⟩, hS.F ht⟩) hS.2.2 cd_HouseText_4
def cy_LawText : MethodName := ⟨"BorderThroughBed$LawText", "<init>", "()V"⟩
abbrev cb_LawText : ByteArray := prog_6_method_1_code
theorem cd_LawText_0 : decode cb_LawText 0 = .ok (.aload_n 0, 1) := by decide +kernel
theorem cd_LawText_1 : decode cb_LawText 1 = .ok (.invokespecial 3, 3) := by decide +kernel
theorem cd_LawText_4 : decode cb_LawText 4 = .ok (.return_, 1) := by decide +kernel
theorem cw_10 : (Jvm.Cond.code cy_LawText cb_LawText 1 none) ∈ ex_tb := ex_in (i := 86) (by decide +kernel) (by decide +kernel)
theorem cw_11 : (Jvm.Cond.initialized "BorderThroughBed$LawText") ∈ ex_tb := ex_in (i := 31) (by decide +kernel) (by decide +kernel)
theorem cw_12 : (Jvm.Cond.instanceMethod cy_LawText) ∈ ex_tb := ex_in (i := 85) (by decide +kernel) (by decide +kernel)
set_option maxHeartbeats 4000000 in
set_option maxRecDepth 100000 in
theorem c_LawText (l : Launch) (dC : Nat → ClassId) (dI : Nat → Nat → Nat) (cI cB : ClassId) (h0 sz : Nat) : Met l cy_LawText (cx_ws cy_LawText cb_LawText 1) { frames := 2, cells := 0, slots := 0, locals := 32 } (va_Pc [.ref h0] (cx_Pre dC dI cI cB sz [(h0, .inr (4, [.int 0, .int 0, .int 0, .int 0, .int 0, .int 0, .int 0]))])) (cx_Post dC dI (va_A [(h0, .inr (4, [.int 0, .int 0, .int 0, .int 0, .int 0, .int 0, .int 0]))] sz) (fun u => [(h0, .inr (4, [.int 0, .int 0, .int 0, .int 0, .int 0, .int 0, .int 0]))])) 0 0 (va_A [(h0, .inr (4, [.int 0, .int 0, .int 0, .int 0, .int 0, .int 0, .int 0]))] sz) := by
  refine Met.ofW (cc := cb_LawText) (maxL := 1) (ret := none) (by decide) rfl ?_
  intro p e s m args below meth c s₁ B hml hv
  obtain ⟨rfl, hsz, hP, hK, hN, hD0⟩ := hv
  have hx := B.exec
  have hb := B.bytes
  have hr := B.returns
  have hts0 := atoms_spec (ws := cx_ws cy_LawText cb_LawText 1) B.pre
  have hts : ∀ w ∈ ex_tb, w.before _ s = true := fun w h => hts0 w (List.mem_cons_of_mem _ h)
  have hown : s.vm.findClass "BorderThroughBed$LawText" = some m.cls := findClass_of_methodNamed B.named
  have hlocks := B.notSynchronized
  have hin : meth.name = "<init>" := (name_of_methodNamed B.named B.method).1
  subst hsz
  have hD := hD0.self (sz := s.heap.size)
  generalize hAe : va_A [(h0, .inr (4, [.int 0, .int 0, .int 0, .int 0, .int 0, .int 0, .int 0]))] s.heap.size = A at hD ⊢
  have hA : ∀ q : Nat, s.heap.size ≤ q → A q := fun q h => by rw [← hAe]; exact Or.inr h
  have hS : va_S A s.heap s.heap [] := va_S.rf
  have hl := lv_entry ([.ref h0]) (n := 1) (Nat.le_of_ble_eq_true rfl)
  rw [lg_entry_eq]
  generalize (lg_sl ([.ref h0]) ++ List.replicate (1 - (lg_sl ([.ref h0])).length) Slot.unset).toArray = ls at hl ⊢
  have hl : lv_has ls 1 [(0, .ref h0)] := hl
  refine lv_aload_n hx hb cd_LawText_0 rfl (lv_at hl 0 rfl) ?_
  refine cx_ctorN (As := []) (b := h0) (rest := []) (wc := [(h0, .inr (4, [.int 0, .int 0, .int 0, .int 0, .int 0, .int 0, .int 0]))]) (wr := []) (isC := [0]) (isR := []) (own := "BorderThroughBed$LawText") (nL := 1) (Hm := s.heap) hx hb hml hts hown (c_Text l dC dI cI cB h0 s.heap.size 4 [.int 0, .int 0, .int 0, .int 0, .int 0, .int 0, .int 0]) cw_1 cw_6 cw_2 (List.mem_of_getElem? (i := 4) (by decide +kernel)) rfl (by decide +kernel) rfl rfl ⟨Nat.le_of_ble_eq_true rfl, Nat.le_of_ble_eq_true rfl⟩ hK hN hP hD hS hA rfl rfl (by decide) (by decide) hl.1 (Nat.le_of_ble_eq_true rfl) cd_LawText_1 ⟨Nat.le_of_ble_eq_true rfl, Nat.le_of_ble_eq_true rfl⟩ (fun u0 H locs hP hD hS => ?_)
  refine W.widen (k := 0) (n := 0) (Nat.le_of_ble_eq_true rfl) (Nat.le_of_ble_eq_true rfl) ?_
  have hP : va_P (dC, dI) ex_cm [(h0, .inr (4, [.int 0, .int 0, .int 0, .int 0, .int 0, .int 0, .int 0]))] H := hP
  have hD : va_D A [(h0, .inr (4, [.int 0, .int 0, .int 0, .int 0, .int 0, .int 0, .int 0]))] := hD
  refine W.widen (k := 0) (n := 0) (Nat.le_of_ble_eq_true rfl) (Nat.le_of_ble_eq_true rfl) ?_
  exact W.vret hx hb hr (fun t ht hW => ⟨⟨fun k => ([h0] : List Nat).getD k 0, rfl, trivial, by rw [ht]; exact hP, hD⟩, hS.F ht⟩) hS.2.2 cd_LawText_4
def cy_Page : MethodName := ⟨"BorderThroughBed$Page", "<init>", "()V"⟩
abbrev cb_Page : ByteArray := prog_9_method_1_code
theorem cd_Page_0 : decode cb_Page 0 = .ok (.aload_n 0, 1) := by decide +kernel
theorem cd_Page_1 : decode cb_Page 1 = .ok (.invokespecial 3, 3) := by decide +kernel
theorem cd_Page_4 : decode cb_Page 4 = .ok (.aload_n 0, 1) := by decide +kernel
theorem cd_Page_5 : decode cb_Page 5 = .ok (.bipush 40, 2) := by decide +kernel
theorem cd_Page_7 : decode cb_Page 7 = .ok (.newarray .int, 2) := by decide +kernel
theorem cd_Page_9 : decode cb_Page 9 = .ok (.putfield 11, 3) := by decide +kernel
theorem cd_Page_12 : decode cb_Page 12 = .ok (.return_, 1) := by decide +kernel
theorem cw_13 : (Jvm.Cond.code cy_Page cb_Page 1 none) ∈ ex_tb := ex_in (i := 50) (by decide +kernel) (by decide +kernel)
theorem cw_14 : (Jvm.Cond.initialized "BorderThroughBed$Page") ∈ ex_tb := ex_in (i := 28) (by decide +kernel) (by decide +kernel)
theorem cw_15 : (Jvm.Cond.instanceMethod cy_Page) ∈ ex_tb := ex_in (i := 49) (by decide +kernel) (by decide +kernel)
theorem cw_16 : (Jvm.Cond.methodLink "BorderThroughBed$Page" 3 Lib.objectInit) ∈ ex_tb := ex_in (i := 51) (by decide +kernel) (by decide +kernel)
set_option maxHeartbeats 4000000 in
set_option maxRecDepth 100000 in
theorem c_Page (l : Launch) (dC : Nat → ClassId) (dI : Nat → Nat → Nat) (cI cB : ClassId) (h0 sz : Nat) : Met l cy_Page (cx_ws cy_Page cb_Page 1) { frames := 1, cells := 1, slots := 40, locals := 12 } (va_Pc [.ref h0] (cx_Pre dC dI cI cB sz [(h0, .inr (7, [.null, .int 0]))])) (cx_Post dC dI (va_A [(h0, .inr (7, [.null, .int 0]))] sz) (fun u => [(h0, .inr (7, [.ref (u 1), .int 0])), ((u 1), .inl (cI, 40, .inl (fun _ => 0)))])) 1 40 (va_A [(h0, .inr (7, [.null, .int 0]))] sz) := by
  refine Met.ofW (cc := cb_Page) (maxL := 1) (ret := none) (by decide) rfl ?_
  intro p e s m args below meth c s₁ B hml hv
  obtain ⟨rfl, hsz, hP, hK, hN, hD0⟩ := hv
  have hx := B.exec
  have hb := B.bytes
  have hr := B.returns
  have hts0 := atoms_spec (ws := cx_ws cy_Page cb_Page 1) B.pre
  have hts : ∀ w ∈ ex_tb, w.before _ s = true := fun w h => hts0 w (List.mem_cons_of_mem _ h)
  have hown : s.vm.findClass "BorderThroughBed$Page" = some m.cls := findClass_of_methodNamed B.named
  have hlocks := B.notSynchronized
  have hin : meth.name = "<init>" := (name_of_methodNamed B.named B.method).1
  subst hsz
  have hD := hD0.self (sz := s.heap.size)
  generalize hAe : va_A [(h0, .inr (7, [.null, .int 0]))] s.heap.size = A at hD ⊢
  have hA : ∀ q : Nat, s.heap.size ≤ q → A q := fun q h => by rw [← hAe]; exact Or.inr h
  have hS : va_S A s.heap s.heap [] := va_S.rf
  have hl := lv_entry ([.ref h0]) (n := 1) (Nat.le_of_ble_eq_true rfl)
  rw [lg_entry_eq]
  generalize (lg_sl ([.ref h0]) ++ List.replicate (1 - (lg_sl ([.ref h0])).length) Slot.unset).toArray = ls at hl ⊢
  have hl : lv_has ls 1 [(0, .ref h0)] := hl
  refine lv_aload_n hx hb cd_Page_0 rfl (lv_at hl 0 rfl) ?_
  refine W.objInit (own := "BorderThroughBed$Page") hx hb hown (hts _ cw_16) (hts _ cw_4) (hts _ cw_5) rfl (by rw [hml]; exact hl.1) rfl cd_Page_1 (Nat.le_of_ble_eq_true rfl) (Nat.le_of_ble_eq_true rfl) ?_
  refine W.eq (g2 := F0 m 4 ls []) rfl ?_
  refine lv_aload_n hx hb cd_Page_4 rfl (lv_at hl 0 rfl) ?_
  refine lv_bipush (v := 40) hx hb cd_Page_5 (by decide) ?_
  refine cx_newi (N := 40) hx hb hts hK hP hD hS hA (by decide) (by decide) (Nat.le_of_ble_eq_true rfl) (Nat.le_of_ble_eq_true rfl) (Nat.le_of_ble_eq_true rfl) cd_Page_7 (fun q1 H hP hD hS => ?_)
  refine W.widen (k := 1) (n := 40) (Nat.le_of_ble_eq_true rfl) (Nat.le_of_ble_eq_true rfl) ?_
  refine cx_putF (ci := 7) (k := 0) (v := .ref q1) (a := h0) (fs := [.null, .int 0]) hx hb hts hown (by decide) (kq_F (c := 7) (by decide) (11, 448) (ex_lk (by decide +kernel))).1 hK hP hD hS 0 rfl (by decide) rfl hin rfl rfl (Nat.le_of_ble_eq_true rfl) cd_Page_9 (fun H locs hP hD hS => ?_)
  have hP : va_P (dC, dI) ex_cm [(h0, .inr (7, [.ref q1, .int 0])), (q1, .inl (cI, 40, .inl (fun _ => 0)))] H := hP
  have hD : va_D A [(h0, .inr (7, [.ref q1, .int 0])), (q1, .inl (cI, 40, .inl (fun _ => 0)))] := hD
  refine W.widen (k := 1) (n := 40) (Nat.le_of_ble_eq_true rfl) (Nat.le_of_ble_eq_true rfl) ?_
  exact W.vret hx hb hr (fun t ht hW => ⟨⟨fun k => ([h0, q1] : List Nat).getD k 0, rfl, trivial, by rw [ht]; exact hP, hD⟩, hS.F ht⟩) hS.2.2 cd_Page_12
def cy_Table : MethodName := ⟨"BorderThroughBed$Table", "<init>", "(I)V"⟩
abbrev cb_Table : ByteArray := prog_10_method_1_code
theorem cd_Table_0 : decode cb_Table 0 = .ok (.aload_n 0, 1) := by decide +kernel
theorem cd_Table_1 : decode cb_Table 1 = .ok (.invokespecial 3, 3) := by decide +kernel
theorem cd_Table_4 : decode cb_Table 4 = .ok (.aload_n 0, 1) := by decide +kernel
theorem cd_Table_5 : decode cb_Table 5 = .ok (.bipush 60, 2) := by decide +kernel
theorem cd_Table_7 : decode cb_Table 7 = .ok (.newarray .int, 2) := by decide +kernel
theorem cd_Table_9 : decode cb_Table 9 = .ok (.putfield 11, 3) := by decide +kernel
theorem cd_Table_12 : decode cb_Table 12 = .ok (.aload_n 0, 1) := by decide +kernel
theorem cd_Table_13 : decode cb_Table 13 = .ok (.iload_n 1, 1) := by decide +kernel
theorem cd_Table_14 : decode cb_Table 14 = .ok (.putfield 15, 3) := by decide +kernel
theorem cd_Table_17 : decode cb_Table 17 = .ok (.return_, 1) := by decide +kernel
theorem cw_17 : (Jvm.Cond.code cy_Table cb_Table 2 none) ∈ ex_tb := ex_in (i := 169) (by decide +kernel) (by decide +kernel)
theorem cw_18 : (Jvm.Cond.initialized "BorderThroughBed$Table") ∈ ex_tb := ex_in (i := 34) (by decide +kernel) (by decide +kernel)
theorem cw_19 : (Jvm.Cond.instanceMethod cy_Table) ∈ ex_tb := ex_in (i := 168) (by decide +kernel) (by decide +kernel)
theorem cw_20 : (Jvm.Cond.methodLink "BorderThroughBed$Table" 3 Lib.objectInit) ∈ ex_tb := ex_in (i := 170) (by decide +kernel) (by decide +kernel)
set_option maxHeartbeats 4000000 in
set_option maxRecDepth 100000 in
theorem c_Table (l : Launch) (dC : Nat → ClassId) (dI : Nat → Nat → Nat) (cI cB : ClassId) (h0 sz : Nat) (p0 : Int32) : Met l cy_Table (cx_ws cy_Table cb_Table 2) { frames := 1, cells := 1, slots := 60, locals := 12 } (va_Pc [.ref h0, .int p0] (cx_Pre dC dI cI cB sz [(h0, .inr (8, [.null, .int 0, .int 0]))])) (cx_Post dC dI (va_A [(h0, .inr (8, [.null, .int 0, .int 0]))] sz) (fun u => [(h0, .inr (8, [.ref (u 1), .int p0, .int 0])), ((u 1), .inl (cI, 60, .inl (fun _ => 0)))])) 1 60 (va_A [(h0, .inr (8, [.null, .int 0, .int 0]))] sz) := by
  refine Met.ofW (cc := cb_Table) (maxL := 2) (ret := none) (by decide) rfl ?_
  intro p e s m args below meth c s₁ B hml hv
  obtain ⟨rfl, hsz, hP, hK, hN, hD0⟩ := hv
  have hx := B.exec
  have hb := B.bytes
  have hr := B.returns
  have hts0 := atoms_spec (ws := cx_ws cy_Table cb_Table 2) B.pre
  have hts : ∀ w ∈ ex_tb, w.before _ s = true := fun w h => hts0 w (List.mem_cons_of_mem _ h)
  have hown : s.vm.findClass "BorderThroughBed$Table" = some m.cls := findClass_of_methodNamed B.named
  have hlocks := B.notSynchronized
  have hin : meth.name = "<init>" := (name_of_methodNamed B.named B.method).1
  subst hsz
  have hD := hD0.self (sz := s.heap.size)
  generalize hAe : va_A [(h0, .inr (8, [.null, .int 0, .int 0]))] s.heap.size = A at hD ⊢
  have hA : ∀ q : Nat, s.heap.size ≤ q → A q := fun q h => by rw [← hAe]; exact Or.inr h
  have hS : va_S A s.heap s.heap [] := va_S.rf
  have hl := lv_entry ([.ref h0, .int p0]) (n := 2) (Nat.le_of_ble_eq_true rfl)
  rw [lg_entry_eq]
  generalize (lg_sl ([.ref h0, .int p0]) ++ List.replicate (2 - (lg_sl ([.ref h0, .int p0])).length) Slot.unset).toArray = ls at hl ⊢
  have hl : lv_has ls 2 [(0, .ref h0), (1, .int p0)] := hl
  refine lv_aload_n hx hb cd_Table_0 rfl (lv_at hl 0 rfl) ?_
  refine W.objInit (own := "BorderThroughBed$Table") hx hb hown (hts _ cw_20) (hts _ cw_4) (hts _ cw_5) rfl (by rw [hml]; exact hl.1) rfl cd_Table_1 (Nat.le_of_ble_eq_true rfl) (Nat.le_of_ble_eq_true rfl) ?_
  refine W.eq (g2 := F0 m 4 ls []) rfl ?_
  refine lv_aload_n hx hb cd_Table_4 rfl (lv_at hl 0 rfl) ?_
  refine lv_bipush (v := 60) hx hb cd_Table_5 (by decide) ?_
  refine cx_newi (N := 60) hx hb hts hK hP hD hS hA (by decide) (by decide) (Nat.le_of_ble_eq_true rfl) (Nat.le_of_ble_eq_true rfl) (Nat.le_of_ble_eq_true rfl) cd_Table_7 (fun q1 H hP hD hS => ?_)
  refine W.widen (k := 1) (n := 60) (Nat.le_of_ble_eq_true rfl) (Nat.le_of_ble_eq_true rfl) ?_
  refine cx_putF (ci := 8) (k := 0) (v := .ref q1) (a := h0) (fs := [.null, .int 0, .int 0]) hx hb hts hown (by decide) (kq_F (c := 8) (by decide) (11, 512) (ex_lk (by decide +kernel))).1 hK hP hD hS 0 rfl (by decide) rfl hin rfl rfl (Nat.le_of_ble_eq_true rfl) cd_Table_9 (fun H locs hP hD hS => ?_)
  have hP : va_P (dC, dI) ex_cm [(h0, .inr (8, [.ref q1, .int 0, .int 0])), (q1, .inl (cI, 60, .inl (fun _ => 0)))] H := hP
  have hD : va_D A [(h0, .inr (8, [.ref q1, .int 0, .int 0])), (q1, .inl (cI, 60, .inl (fun _ => 0)))] := hD
  refine lv_aload_n hx hb cd_Table_12 rfl (lv_at hl 0 rfl) ?_
  refine lv_iload_n hx hb cd_Table_13 rfl (lv_at hl 1 rfl) ?_
  refine cx_putF (ci := 8) (k := 1) (v := .int p0) (a := h0) (fs := [.ref q1, .int 0, .int 0]) hx hb hts hown (by decide) (kq_F (c := 8) (by decide) (15, 513) (ex_lk (by decide +kernel))).1 hK hP hD hS 0 rfl (by decide) rfl hin rfl rfl (Nat.le_of_ble_eq_true rfl) cd_Table_14 (fun H locs hP hD hS => ?_)
  have hP : va_P (dC, dI) ex_cm [(h0, .inr (8, [.ref q1, .int p0, .int 0])), (q1, .inl (cI, 60, .inl (fun _ => 0)))] H := hP
  have hD : va_D A [(h0, .inr (8, [.ref q1, .int p0, .int 0])), (q1, .inl (cI, 60, .inl (fun _ => 0)))] := hD
  refine W.widen (k := 1) (n := 60) (Nat.le_of_ble_eq_true rfl) (Nat.le_of_ble_eq_true rfl) ?_
  exact W.vret hx hb hr (fun t ht hW => ⟨⟨fun k => ([h0, q1] : List Nat).getD k 0, rfl, trivial, by rw [ht]; exact hP, hD⟩, hS.F ht⟩) hS.2.2 cd_Table_17
def cy_Laws : MethodName := ⟨"BorderThroughBed$Laws", "<init>", "()V"⟩
abbrev cb_Laws : ByteArray := prog_7_method_1_code
theorem cd_Laws_0 : decode cb_Laws 0 = .ok (.aload_n 0, 1) := by decide +kernel
theorem cd_Laws_1 : decode cb_Laws 1 = .ok (.invokespecial 3, 3) := by decide +kernel
theorem cd_Laws_4 : decode cb_Laws 4 = .ok (.aload_n 0, 1) := by decide +kernel
theorem cd_Laws_5 : decode cb_Laws 5 = .ok (.new 9, 3) := by decide +kernel
theorem cd_Laws_8 : decode cb_Laws 8 = .ok (.dup, 1) := by decide +kernel
theorem cd_Laws_9 : decode cb_Laws 9 = .ok (.bipush 8, 2) := by decide +kernel
theorem cd_Laws_11 : decode cb_Laws 11 = .ok (.invokespecial 11, 3) := by decide +kernel
theorem cd_Laws_14 : decode cb_Laws 14 = .ok (.putfield 14, 3) := by decide +kernel
theorem cd_Laws_17 : decode cb_Laws 17 = .ok (.return_, 1) := by decide +kernel
theorem cw_21 : (Jvm.Cond.code cy_Laws cb_Laws 1 none) ∈ ex_tb := ex_in (i := 163) (by decide +kernel) (by decide +kernel)
theorem cw_22 : (Jvm.Cond.initialized "BorderThroughBed$Laws") ∈ ex_tb := ex_in (i := 33) (by decide +kernel) (by decide +kernel)
theorem cw_23 : (Jvm.Cond.instanceMethod cy_Laws) ∈ ex_tb := ex_in (i := 162) (by decide +kernel) (by decide +kernel)
theorem cw_24 : (Jvm.Cond.methodLink "BorderThroughBed$Laws" 3 Lib.objectInit) ∈ ex_tb := ex_in (i := 164) (by decide +kernel) (by decide +kernel)
theorem cw_25 : (Jvm.Cond.classLink "BorderThroughBed$Laws" 9 "BorderThroughBed$Table") ∈ ex_tb := ex_in (i := 165) (by decide +kernel) (by decide +kernel)
theorem cw_26 : (Jvm.Cond.instantiable "BorderThroughBed$Table" 3) ∈ ex_tb := ex_in (i := 166) (by decide +kernel) (by decide +kernel)
theorem cw_27 : (Jvm.Cond.methodLink "BorderThroughBed$Laws" 11 cy_Table) ∈ ex_tb := ex_in (i := 167) (by decide +kernel) (by decide +kernel)
set_option maxHeartbeats 4000000 in
set_option maxRecDepth 100000 in
theorem c_Laws (l : Launch) (dC : Nat → ClassId) (dI : Nat → Nat → Nat) (cI cB : ClassId) (h0 sz : Nat) : Met l cy_Laws (cx_ws cy_Laws cb_Laws 1) { frames := 2, cells := 2, slots := 63, locals := 33 } (va_Pc [.ref h0] (cx_Pre dC dI cI cB sz [(h0, .inr (5, [.null]))])) (cx_Post dC dI (va_A [(h0, .inr (5, [.null]))] sz) (fun u => [(h0, .inr (5, [.ref (u 1)])), ((u 1), .inr (8, [.ref (u 2), .int 8, .int 0])), ((u 2), .inl (cI, 60, .inl (fun _ => 0)))])) 2 63 (va_A [(h0, .inr (5, [.null]))] sz) := by
  refine Met.ofW (cc := cb_Laws) (maxL := 1) (ret := none) (by decide) rfl ?_
  intro p e s m args below meth c s₁ B hml hv
  obtain ⟨rfl, hsz, hP, hK, hN, hD0⟩ := hv
  have hx := B.exec
  have hb := B.bytes
  have hr := B.returns
  have hts0 := atoms_spec (ws := cx_ws cy_Laws cb_Laws 1) B.pre
  have hts : ∀ w ∈ ex_tb, w.before _ s = true := fun w h => hts0 w (List.mem_cons_of_mem _ h)
  have hown : s.vm.findClass "BorderThroughBed$Laws" = some m.cls := findClass_of_methodNamed B.named
  have hlocks := B.notSynchronized
  have hin : meth.name = "<init>" := (name_of_methodNamed B.named B.method).1
  subst hsz
  have hD := hD0.self (sz := s.heap.size)
  generalize hAe : va_A [(h0, .inr (5, [.null]))] s.heap.size = A at hD ⊢
  have hA : ∀ q : Nat, s.heap.size ≤ q → A q := fun q h => by rw [← hAe]; exact Or.inr h
  have hS : va_S A s.heap s.heap [] := va_S.rf
  have hl := lv_entry ([.ref h0]) (n := 1) (Nat.le_of_ble_eq_true rfl)
  rw [lg_entry_eq]
  generalize (lg_sl ([.ref h0]) ++ List.replicate (1 - (lg_sl ([.ref h0])).length) Slot.unset).toArray = ls at hl ⊢
  have hl : lv_has ls 1 [(0, .ref h0)] := hl
  refine lv_aload_n hx hb cd_Laws_0 rfl (lv_at hl 0 rfl) ?_
  refine W.objInit (own := "BorderThroughBed$Laws") hx hb hown (hts _ cw_24) (hts _ cw_4) (hts _ cw_5) rfl (by rw [hml]; exact hl.1) rfl cd_Laws_1 (Nat.le_of_ble_eq_true rfl) (Nat.le_of_ble_eq_true rfl) ?_
  refine W.eq (g2 := F0 m 4 ls []) rfl ?_
  refine lv_aload_n hx hb cd_Laws_4 rfl (lv_at hl 0 rfl) ?_
  refine cx_new (ci := 8) (fs := [.null, .int 0, .int 0]) (own := "BorderThroughBed$Laws") hx hb hts hown (by decide) cw_25 cw_26 cw_18 hK hP hD hS hA (by decide +kernel) (Nat.le_of_ble_eq_true rfl) (Nat.le_of_ble_eq_true rfl) cd_Laws_5 (fun q1 H hP hD hS => ?_)
  refine W.widen (k := 1) (n := 3) (Nat.le_of_ble_eq_true rfl) (Nat.le_of_ble_eq_true rfl) ?_
  refine lv_dup hx hb cd_Laws_8 rfl ?_
  refine lv_bipush (v := 8) hx hb cd_Laws_9 (by decide) ?_
  refine cx_ctor (As := [.int 8]) (b := q1) (rest := [.ref q1, .ref h0]) (wc := [(q1, .inr (8, [.null, .int 0, .int 0]))]) (wr := [(h0, .inr (5, [.null]))]) (isC := [1]) (isR := [0]) (own := "BorderThroughBed$Laws") (nL := 1) (Hm := H) hx hb hml hts hown (c_Table l dC dI cI cB q1 H.size 8) cw_17 cw_18 cw_19 cw_27 rfl (by decide +kernel) rfl rfl ⟨Nat.le_of_ble_eq_true rfl, Nat.le_of_ble_eq_true rfl⟩ hK hN hP hD hS hA rfl rfl (by decide) (by decide) hl.1 (Nat.le_of_ble_eq_true rfl) cd_Laws_11 ⟨Nat.le_of_ble_eq_true rfl, Nat.le_of_ble_eq_true rfl⟩ (fun u1 H locs hP hD hS => ?_)
  refine W.widen (k := 2) (n := 63) (Nat.le_of_ble_eq_true rfl) (Nat.le_of_ble_eq_true rfl) ?_
  have hP : va_P (dC, dI) ex_cm [(h0, .inr (5, [.null])), (q1, .inr (8, [.ref (u1 1), .int 8, .int 0])), ((u1 1), .inl (cI, 60, .inl (fun _ => 0)))] H := hP
  have hD : va_D A [(h0, .inr (5, [.null])), (q1, .inr (8, [.ref (u1 1), .int 8, .int 0])), ((u1 1), .inl (cI, 60, .inl (fun _ => 0)))] := hD
  refine cx_putF (ci := 5) (k := 0) (v := .ref q1) (a := h0) (fs := [.null]) hx hb hts hown (by decide) (kq_F (c := 5) (by decide) (14, 320) (ex_lk (by decide +kernel))).1 hK hP hD hS 0 rfl (by decide) rfl hin rfl rfl (Nat.le_of_ble_eq_true rfl) cd_Laws_14 (fun H locs hP hD hS => ?_)
  have hP : va_P (dC, dI) ex_cm [(h0, .inr (5, [.ref q1])), (q1, .inr (8, [.ref (u1 1), .int 8, .int 0])), ((u1 1), .inl (cI, 60, .inl (fun _ => 0)))] H := hP
  have hD : va_D A [(h0, .inr (5, [.ref q1])), (q1, .inr (8, [.ref (u1 1), .int 8, .int 0])), ((u1 1), .inl (cI, 60, .inl (fun _ => 0)))] := hD
  refine W.widen (k := 2) (n := 63) (Nat.le_of_ble_eq_true rfl) (Nat.le_of_ble_eq_true rfl) ?_
  exact W.vret hx hb hr (fun t ht hW => ⟨⟨fun k => ([h0, q1, (u1 1)] : List Nat).getD k 0, rfl, trivial, by rw [ht]; exact hP, hD⟩, hS.F ht⟩) hS.2.2 cd_Laws_17
def cy_Day : MethodName := ⟨"BorderThroughBed$Day", "<init>", "()V"⟩
abbrev cb_Day : ByteArray := prog_2_method_1_code
theorem cd_Day_0 : decode cb_Day 0 = .ok (.aload_n 0, 1) := by decide +kernel
theorem cd_Day_1 : decode cb_Day 1 = .ok (.invokespecial 3, 3) := by decide +kernel
theorem cd_Day_4 : decode cb_Day 4 = .ok (.aload_n 0, 1) := by decide +kernel
theorem cd_Day_5 : decode cb_Day 5 = .ok (.new 9, 3) := by decide +kernel
theorem cd_Day_8 : decode cb_Day 8 = .ok (.dup, 1) := by decide +kernel
theorem cd_Day_9 : decode cb_Day 9 = .ok (.iconst 3, 1) := by decide +kernel
theorem cd_Day_10 : decode cb_Day 10 = .ok (.invokespecial 11, 3) := by decide +kernel
theorem cd_Day_13 : decode cb_Day 13 = .ok (.putfield 14, 3) := by decide +kernel
theorem cd_Day_16 : decode cb_Day 16 = .ok (.aload_n 0, 1) := by decide +kernel
theorem cd_Day_17 : decode cb_Day 17 = .ok (.new 9, 3) := by decide +kernel
theorem cd_Day_20 : decode cb_Day 20 = .ok (.dup, 1) := by decide +kernel
theorem cd_Day_21 : decode cb_Day 21 = .ok (.bipush 12, 2) := by decide +kernel
theorem cd_Day_23 : decode cb_Day 23 = .ok (.invokespecial 11, 3) := by decide +kernel
theorem cd_Day_26 : decode cb_Day 26 = .ok (.putfield 20, 3) := by decide +kernel
theorem cd_Day_29 : decode cb_Day 29 = .ok (.aload_n 0, 1) := by decide +kernel
theorem cd_Day_30 : decode cb_Day 30 = .ok (.new 9, 3) := by decide +kernel
theorem cd_Day_33 : decode cb_Day 33 = .ok (.dup, 1) := by decide +kernel
theorem cd_Day_34 : decode cb_Day 34 = .ok (.bipush 6, 2) := by decide +kernel
theorem cd_Day_36 : decode cb_Day 36 = .ok (.invokespecial 11, 3) := by decide +kernel
theorem cd_Day_39 : decode cb_Day 39 = .ok (.putfield 23, 3) := by decide +kernel
theorem cd_Day_42 : decode cb_Day 42 = .ok (.aload_n 0, 1) := by decide +kernel
theorem cd_Day_43 : decode cb_Day 43 = .ok (.new 9, 3) := by decide +kernel
theorem cd_Day_46 : decode cb_Day 46 = .ok (.dup, 1) := by decide +kernel
theorem cd_Day_47 : decode cb_Day 47 = .ok (.bipush 10, 2) := by decide +kernel
theorem cd_Day_49 : decode cb_Day 49 = .ok (.invokespecial 11, 3) := by decide +kernel
theorem cd_Day_52 : decode cb_Day 52 = .ok (.putfield 26, 3) := by decide +kernel
theorem cd_Day_55 : decode cb_Day 55 = .ok (.return_, 1) := by decide +kernel
theorem cw_28 : (Jvm.Cond.code cy_Day cb_Day 1 none) ∈ ex_tb := ex_in (i := 189) (by decide +kernel) (by decide +kernel)
theorem cw_29 : (Jvm.Cond.initialized "BorderThroughBed$Day") ∈ ex_tb := ex_in (i := 35) (by decide +kernel) (by decide +kernel)
theorem cw_30 : (Jvm.Cond.instanceMethod cy_Day) ∈ ex_tb := ex_in (i := 188) (by decide +kernel) (by decide +kernel)
theorem cw_31 : (Jvm.Cond.methodLink "BorderThroughBed$Day" 3 Lib.objectInit) ∈ ex_tb := ex_in (i := 190) (by decide +kernel) (by decide +kernel)
theorem cw_32 : (Jvm.Cond.classLink "BorderThroughBed$Day" 9 "BorderThroughBed$Table") ∈ ex_tb := ex_in (i := 191) (by decide +kernel) (by decide +kernel)
theorem cw_33 : (Jvm.Cond.methodLink "BorderThroughBed$Day" 11 cy_Table) ∈ ex_tb := ex_in (i := 192) (by decide +kernel) (by decide +kernel)
set_option maxHeartbeats 4000000 in
set_option maxRecDepth 100000 in
theorem c_Day (l : Launch) (dC : Nat → ClassId) (dI : Nat → Nat → Nat) (cI cB : ClassId) (h0 sz : Nat) : Met l cy_Day (cx_ws cy_Day cb_Day 1) { frames := 2, cells := 8, slots := 252, locals := 33 } (va_Pc [.ref h0] (cx_Pre dC dI cI cB sz [(h0, .inr (0, [.null, .null, .null, .null]))])) (cx_Post dC dI (va_A [(h0, .inr (0, [.null, .null, .null, .null]))] sz) (fun u => [(h0, .inr (0, [.ref (u 1), .ref (u 3), .ref (u 5), .ref (u 7)])), ((u 1), .inr (8, [.ref (u 2), .int 3, .int 0])), ((u 2), .inl (cI, 60, .inl (fun _ => 0))), ((u 3), .inr (8, [.ref (u 4), .int 12, .int 0])), ((u 4), .inl (cI, 60, .inl (fun _ => 0))), ((u 5), .inr (8, [.ref (u 6), .int 6, .int 0])), ((u 6), .inl (cI, 60, .inl (fun _ => 0))), ((u 7), .inr (8, [.ref (u 8), .int 10, .int 0])), ((u 8), .inl (cI, 60, .inl (fun _ => 0)))])) 8 252 (va_A [(h0, .inr (0, [.null, .null, .null, .null]))] sz) := by
  refine Met.ofW (cc := cb_Day) (maxL := 1) (ret := none) (by decide) rfl ?_
  intro p e s m args below meth c s₁ B hml hv
  obtain ⟨rfl, hsz, hP, hK, hN, hD0⟩ := hv
  have hx := B.exec
  have hb := B.bytes
  have hr := B.returns
  have hts0 := atoms_spec (ws := cx_ws cy_Day cb_Day 1) B.pre
  have hts : ∀ w ∈ ex_tb, w.before _ s = true := fun w h => hts0 w (List.mem_cons_of_mem _ h)
  have hown : s.vm.findClass "BorderThroughBed$Day" = some m.cls := findClass_of_methodNamed B.named
  have hlocks := B.notSynchronized
  have hin : meth.name = "<init>" := (name_of_methodNamed B.named B.method).1
  subst hsz
  have hD := hD0.self (sz := s.heap.size)
  generalize hAe : va_A [(h0, .inr (0, [.null, .null, .null, .null]))] s.heap.size = A at hD ⊢
  have hA : ∀ q : Nat, s.heap.size ≤ q → A q := fun q h => by rw [← hAe]; exact Or.inr h
  have hS : va_S A s.heap s.heap [] := va_S.rf
  have hl := lv_entry ([.ref h0]) (n := 1) (Nat.le_of_ble_eq_true rfl)
  rw [lg_entry_eq]
  generalize (lg_sl ([.ref h0]) ++ List.replicate (1 - (lg_sl ([.ref h0])).length) Slot.unset).toArray = ls at hl ⊢
  have hl : lv_has ls 1 [(0, .ref h0)] := hl
  refine lv_aload_n hx hb cd_Day_0 rfl (lv_at hl 0 rfl) ?_
  refine W.objInit (own := "BorderThroughBed$Day") hx hb hown (hts _ cw_31) (hts _ cw_4) (hts _ cw_5) rfl (by rw [hml]; exact hl.1) rfl cd_Day_1 (Nat.le_of_ble_eq_true rfl) (Nat.le_of_ble_eq_true rfl) ?_
  refine W.eq (g2 := F0 m 4 ls []) rfl ?_
  refine lv_aload_n hx hb cd_Day_4 rfl (lv_at hl 0 rfl) ?_
  refine cx_new (ci := 8) (fs := [.null, .int 0, .int 0]) (own := "BorderThroughBed$Day") hx hb hts hown (by decide) cw_32 cw_26 cw_18 hK hP hD hS hA (by decide +kernel) (Nat.le_of_ble_eq_true rfl) (Nat.le_of_ble_eq_true rfl) cd_Day_5 (fun q1 H hP hD hS => ?_)
  refine W.widen (k := 1) (n := 3) (Nat.le_of_ble_eq_true rfl) (Nat.le_of_ble_eq_true rfl) ?_
  refine lv_dup hx hb cd_Day_8 rfl ?_
  refine lv_iconst (v := 3) hx hb cd_Day_9 (by decide) ?_
  refine cx_ctor (As := [.int 3]) (b := q1) (rest := [.ref q1, .ref h0]) (wc := [(q1, .inr (8, [.null, .int 0, .int 0]))]) (wr := [(h0, .inr (0, [.null, .null, .null, .null]))]) (isC := [1]) (isR := [0]) (own := "BorderThroughBed$Day") (nL := 1) (Hm := H) hx hb hml hts hown (c_Table l dC dI cI cB q1 H.size 3) cw_17 cw_18 cw_19 cw_33 rfl (by decide +kernel) rfl rfl ⟨Nat.le_of_ble_eq_true rfl, Nat.le_of_ble_eq_true rfl⟩ hK hN hP hD hS hA rfl rfl (by decide) (by decide) hl.1 (Nat.le_of_ble_eq_true rfl) cd_Day_10 ⟨Nat.le_of_ble_eq_true rfl, Nat.le_of_ble_eq_true rfl⟩ (fun u1 H locs hP hD hS => ?_)
  refine W.widen (k := 2) (n := 63) (Nat.le_of_ble_eq_true rfl) (Nat.le_of_ble_eq_true rfl) ?_
  have hP : va_P (dC, dI) ex_cm [(h0, .inr (0, [.null, .null, .null, .null])), (q1, .inr (8, [.ref (u1 1), .int 3, .int 0])), ((u1 1), .inl (cI, 60, .inl (fun _ => 0)))] H := hP
  have hD : va_D A [(h0, .inr (0, [.null, .null, .null, .null])), (q1, .inr (8, [.ref (u1 1), .int 3, .int 0])), ((u1 1), .inl (cI, 60, .inl (fun _ => 0)))] := hD
  refine cx_putF (ci := 0) (k := 0) (v := .ref q1) (a := h0) (fs := [.null, .null, .null, .null]) hx hb hts hown (by decide) (kq_F (c := 0) (by decide) (14, 0) (ex_lk (by decide +kernel))).1 hK hP hD hS 0 rfl (by decide) rfl hin rfl rfl (Nat.le_of_ble_eq_true rfl) cd_Day_13 (fun H locs hP hD hS => ?_)
  have hP : va_P (dC, dI) ex_cm [(h0, .inr (0, [.ref q1, .null, .null, .null])), (q1, .inr (8, [.ref (u1 1), .int 3, .int 0])), ((u1 1), .inl (cI, 60, .inl (fun _ => 0)))] H := hP
  have hD : va_D A [(h0, .inr (0, [.ref q1, .null, .null, .null])), (q1, .inr (8, [.ref (u1 1), .int 3, .int 0])), ((u1 1), .inl (cI, 60, .inl (fun _ => 0)))] := hD
  refine lv_aload_n hx hb cd_Day_16 rfl (lv_at hl 0 rfl) ?_
  refine cx_new (ci := 8) (fs := [.null, .int 0, .int 0]) (own := "BorderThroughBed$Day") hx hb hts hown (by decide) cw_32 cw_26 cw_18 hK hP hD hS hA (by decide +kernel) (Nat.le_of_ble_eq_true rfl) (Nat.le_of_ble_eq_true rfl) cd_Day_17 (fun q2 H hP hD hS => ?_)
  refine W.widen (k := 3) (n := 66) (Nat.le_of_ble_eq_true rfl) (Nat.le_of_ble_eq_true rfl) ?_
  refine lv_dup hx hb cd_Day_20 rfl ?_
  refine lv_bipush (v := 12) hx hb cd_Day_21 (by decide) ?_
  refine cx_ctor (As := [.int 12]) (b := q2) (rest := [.ref q2, .ref h0]) (wc := [(q2, .inr (8, [.null, .int 0, .int 0]))]) (wr := [(h0, .inr (0, [.ref q1, .null, .null, .null])), (q1, .inr (8, [.ref (u1 1), .int 3, .int 0])), ((u1 1), .inl (cI, 60, .inl (fun _ => 0)))]) (isC := [3]) (isR := [0, 1, 2]) (own := "BorderThroughBed$Day") (nL := 1) (Hm := H) hx hb hml hts hown (c_Table l dC dI cI cB q2 H.size 12) cw_17 cw_18 cw_19 cw_33 rfl (by decide +kernel) rfl rfl ⟨Nat.le_of_ble_eq_true rfl, Nat.le_of_ble_eq_true rfl⟩ hK hN hP hD hS hA rfl rfl (by decide) (by decide) hl.1 (Nat.le_of_ble_eq_true rfl) cd_Day_23 ⟨Nat.le_of_ble_eq_true rfl, Nat.le_of_ble_eq_true rfl⟩ (fun u2 H locs hP hD hS => ?_)
  refine W.widen (k := 4) (n := 126) (Nat.le_of_ble_eq_true rfl) (Nat.le_of_ble_eq_true rfl) ?_
  have hP : va_P (dC, dI) ex_cm [(h0, .inr (0, [.ref q1, .null, .null, .null])), (q1, .inr (8, [.ref (u1 1), .int 3, .int 0])), ((u1 1), .inl (cI, 60, .inl (fun _ => 0))), (q2, .inr (8, [.ref (u2 1), .int 12, .int 0])), ((u2 1), .inl (cI, 60, .inl (fun _ => 0)))] H := hP
  have hD : va_D A [(h0, .inr (0, [.ref q1, .null, .null, .null])), (q1, .inr (8, [.ref (u1 1), .int 3, .int 0])), ((u1 1), .inl (cI, 60, .inl (fun _ => 0))), (q2, .inr (8, [.ref (u2 1), .int 12, .int 0])), ((u2 1), .inl (cI, 60, .inl (fun _ => 0)))] := hD
  refine cx_putF (ci := 0) (k := 1) (v := .ref q2) (a := h0) (fs := [.ref q1, .null, .null, .null]) hx hb hts hown (by decide) (kq_F (c := 0) (by decide) (20, 1) (ex_lk (by decide +kernel))).1 hK hP hD hS 0 rfl (by decide) rfl hin rfl rfl (Nat.le_of_ble_eq_true rfl) cd_Day_26 (fun H locs hP hD hS => ?_)
  have hP : va_P (dC, dI) ex_cm [(h0, .inr (0, [.ref q1, .ref q2, .null, .null])), (q1, .inr (8, [.ref (u1 1), .int 3, .int 0])), ((u1 1), .inl (cI, 60, .inl (fun _ => 0))), (q2, .inr (8, [.ref (u2 1), .int 12, .int 0])), ((u2 1), .inl (cI, 60, .inl (fun _ => 0)))] H := hP
  have hD : va_D A [(h0, .inr (0, [.ref q1, .ref q2, .null, .null])), (q1, .inr (8, [.ref (u1 1), .int 3, .int 0])), ((u1 1), .inl (cI, 60, .inl (fun _ => 0))), (q2, .inr (8, [.ref (u2 1), .int 12, .int 0])), ((u2 1), .inl (cI, 60, .inl (fun _ => 0)))] := hD
  refine lv_aload_n hx hb cd_Day_29 rfl (lv_at hl 0 rfl) ?_
  refine cx_new (ci := 8) (fs := [.null, .int 0, .int 0]) (own := "BorderThroughBed$Day") hx hb hts hown (by decide) cw_32 cw_26 cw_18 hK hP hD hS hA (by decide +kernel) (Nat.le_of_ble_eq_true rfl) (Nat.le_of_ble_eq_true rfl) cd_Day_30 (fun q3 H hP hD hS => ?_)
  refine W.widen (k := 5) (n := 129) (Nat.le_of_ble_eq_true rfl) (Nat.le_of_ble_eq_true rfl) ?_
  refine lv_dup hx hb cd_Day_33 rfl ?_
  refine lv_bipush (v := 6) hx hb cd_Day_34 (by decide) ?_
  refine cx_ctor (As := [.int 6]) (b := q3) (rest := [.ref q3, .ref h0]) (wc := [(q3, .inr (8, [.null, .int 0, .int 0]))]) (wr := [(h0, .inr (0, [.ref q1, .ref q2, .null, .null])), (q1, .inr (8, [.ref (u1 1), .int 3, .int 0])), ((u1 1), .inl (cI, 60, .inl (fun _ => 0))), (q2, .inr (8, [.ref (u2 1), .int 12, .int 0])), ((u2 1), .inl (cI, 60, .inl (fun _ => 0)))]) (isC := [5]) (isR := [0, 1, 2, 3, 4]) (own := "BorderThroughBed$Day") (nL := 1) (Hm := H) hx hb hml hts hown (c_Table l dC dI cI cB q3 H.size 6) cw_17 cw_18 cw_19 cw_33 rfl (by decide +kernel) rfl rfl ⟨Nat.le_of_ble_eq_true rfl, Nat.le_of_ble_eq_true rfl⟩ hK hN hP hD hS hA rfl rfl (by decide) (by decide) hl.1 (Nat.le_of_ble_eq_true rfl) cd_Day_36 ⟨Nat.le_of_ble_eq_true rfl, Nat.le_of_ble_eq_true rfl⟩ (fun u3 H locs hP hD hS => ?_)
  refine W.widen (k := 6) (n := 189) (Nat.le_of_ble_eq_true rfl) (Nat.le_of_ble_eq_true rfl) ?_
  have hP : va_P (dC, dI) ex_cm [(h0, .inr (0, [.ref q1, .ref q2, .null, .null])), (q1, .inr (8, [.ref (u1 1), .int 3, .int 0])), ((u1 1), .inl (cI, 60, .inl (fun _ => 0))), (q2, .inr (8, [.ref (u2 1), .int 12, .int 0])), ((u2 1), .inl (cI, 60, .inl (fun _ => 0))), (q3, .inr (8, [.ref (u3 1), .int 6, .int 0])), ((u3 1), .inl (cI, 60, .inl (fun _ => 0)))] H := hP
  have hD : va_D A [(h0, .inr (0, [.ref q1, .ref q2, .null, .null])), (q1, .inr (8, [.ref (u1 1), .int 3, .int 0])), ((u1 1), .inl (cI, 60, .inl (fun _ => 0))), (q2, .inr (8, [.ref (u2 1), .int 12, .int 0])), ((u2 1), .inl (cI, 60, .inl (fun _ => 0))), (q3, .inr (8, [.ref (u3 1), .int 6, .int 0])), ((u3 1), .inl (cI, 60, .inl (fun _ => 0)))] := hD
  refine cx_putF (ci := 0) (k := 2) (v := .ref q3) (a := h0) (fs := [.ref q1, .ref q2, .null, .null]) hx hb hts hown (by decide) (kq_F (c := 0) (by decide) (23, 2) (ex_lk (by decide +kernel))).1 hK hP hD hS 0 rfl (by decide) rfl hin rfl rfl (Nat.le_of_ble_eq_true rfl) cd_Day_39 (fun H locs hP hD hS => ?_)
  have hP : va_P (dC, dI) ex_cm [(h0, .inr (0, [.ref q1, .ref q2, .ref q3, .null])), (q1, .inr (8, [.ref (u1 1), .int 3, .int 0])), ((u1 1), .inl (cI, 60, .inl (fun _ => 0))), (q2, .inr (8, [.ref (u2 1), .int 12, .int 0])), ((u2 1), .inl (cI, 60, .inl (fun _ => 0))), (q3, .inr (8, [.ref (u3 1), .int 6, .int 0])), ((u3 1), .inl (cI, 60, .inl (fun _ => 0)))] H := hP
  have hD : va_D A [(h0, .inr (0, [.ref q1, .ref q2, .ref q3, .null])), (q1, .inr (8, [.ref (u1 1), .int 3, .int 0])), ((u1 1), .inl (cI, 60, .inl (fun _ => 0))), (q2, .inr (8, [.ref (u2 1), .int 12, .int 0])), ((u2 1), .inl (cI, 60, .inl (fun _ => 0))), (q3, .inr (8, [.ref (u3 1), .int 6, .int 0])), ((u3 1), .inl (cI, 60, .inl (fun _ => 0)))] := hD
  refine lv_aload_n hx hb cd_Day_42 rfl (lv_at hl 0 rfl) ?_
  refine cx_new (ci := 8) (fs := [.null, .int 0, .int 0]) (own := "BorderThroughBed$Day") hx hb hts hown (by decide) cw_32 cw_26 cw_18 hK hP hD hS hA (by decide +kernel) (Nat.le_of_ble_eq_true rfl) (Nat.le_of_ble_eq_true rfl) cd_Day_43 (fun q4 H hP hD hS => ?_)
  refine W.widen (k := 7) (n := 192) (Nat.le_of_ble_eq_true rfl) (Nat.le_of_ble_eq_true rfl) ?_
  refine lv_dup hx hb cd_Day_46 rfl ?_
  refine lv_bipush (v := 10) hx hb cd_Day_47 (by decide) ?_
  refine cx_ctor (As := [.int 10]) (b := q4) (rest := [.ref q4, .ref h0]) (wc := [(q4, .inr (8, [.null, .int 0, .int 0]))]) (wr := [(h0, .inr (0, [.ref q1, .ref q2, .ref q3, .null])), (q1, .inr (8, [.ref (u1 1), .int 3, .int 0])), ((u1 1), .inl (cI, 60, .inl (fun _ => 0))), (q2, .inr (8, [.ref (u2 1), .int 12, .int 0])), ((u2 1), .inl (cI, 60, .inl (fun _ => 0))), (q3, .inr (8, [.ref (u3 1), .int 6, .int 0])), ((u3 1), .inl (cI, 60, .inl (fun _ => 0)))]) (isC := [7]) (isR := [0, 1, 2, 3, 4, 5, 6]) (own := "BorderThroughBed$Day") (nL := 1) (Hm := H) hx hb hml hts hown (c_Table l dC dI cI cB q4 H.size 10) cw_17 cw_18 cw_19 cw_33 rfl (by decide +kernel) rfl rfl ⟨Nat.le_of_ble_eq_true rfl, Nat.le_of_ble_eq_true rfl⟩ hK hN hP hD hS hA rfl rfl (by decide) (by decide) hl.1 (Nat.le_of_ble_eq_true rfl) cd_Day_49 ⟨Nat.le_of_ble_eq_true rfl, Nat.le_of_ble_eq_true rfl⟩ (fun u4 H locs hP hD hS => ?_)
  refine W.widen (k := 8) (n := 252) (Nat.le_of_ble_eq_true rfl) (Nat.le_of_ble_eq_true rfl) ?_
  have hP : va_P (dC, dI) ex_cm [(h0, .inr (0, [.ref q1, .ref q2, .ref q3, .null])), (q1, .inr (8, [.ref (u1 1), .int 3, .int 0])), ((u1 1), .inl (cI, 60, .inl (fun _ => 0))), (q2, .inr (8, [.ref (u2 1), .int 12, .int 0])), ((u2 1), .inl (cI, 60, .inl (fun _ => 0))), (q3, .inr (8, [.ref (u3 1), .int 6, .int 0])), ((u3 1), .inl (cI, 60, .inl (fun _ => 0))), (q4, .inr (8, [.ref (u4 1), .int 10, .int 0])), ((u4 1), .inl (cI, 60, .inl (fun _ => 0)))] H := hP
  have hD : va_D A [(h0, .inr (0, [.ref q1, .ref q2, .ref q3, .null])), (q1, .inr (8, [.ref (u1 1), .int 3, .int 0])), ((u1 1), .inl (cI, 60, .inl (fun _ => 0))), (q2, .inr (8, [.ref (u2 1), .int 12, .int 0])), ((u2 1), .inl (cI, 60, .inl (fun _ => 0))), (q3, .inr (8, [.ref (u3 1), .int 6, .int 0])), ((u3 1), .inl (cI, 60, .inl (fun _ => 0))), (q4, .inr (8, [.ref (u4 1), .int 10, .int 0])), ((u4 1), .inl (cI, 60, .inl (fun _ => 0)))] := hD
  refine cx_putF (ci := 0) (k := 3) (v := .ref q4) (a := h0) (fs := [.ref q1, .ref q2, .ref q3, .null]) hx hb hts hown (by decide) (kq_F (c := 0) (by decide) (26, 3) (ex_lk (by decide +kernel))).1 hK hP hD hS 0 rfl (by decide) rfl hin rfl rfl (Nat.le_of_ble_eq_true rfl) cd_Day_52 (fun H locs hP hD hS => ?_)
  have hP : va_P (dC, dI) ex_cm [(h0, .inr (0, [.ref q1, .ref q2, .ref q3, .ref q4])), (q1, .inr (8, [.ref (u1 1), .int 3, .int 0])), ((u1 1), .inl (cI, 60, .inl (fun _ => 0))), (q2, .inr (8, [.ref (u2 1), .int 12, .int 0])), ((u2 1), .inl (cI, 60, .inl (fun _ => 0))), (q3, .inr (8, [.ref (u3 1), .int 6, .int 0])), ((u3 1), .inl (cI, 60, .inl (fun _ => 0))), (q4, .inr (8, [.ref (u4 1), .int 10, .int 0])), ((u4 1), .inl (cI, 60, .inl (fun _ => 0)))] H := hP
  have hD : va_D A [(h0, .inr (0, [.ref q1, .ref q2, .ref q3, .ref q4])), (q1, .inr (8, [.ref (u1 1), .int 3, .int 0])), ((u1 1), .inl (cI, 60, .inl (fun _ => 0))), (q2, .inr (8, [.ref (u2 1), .int 12, .int 0])), ((u2 1), .inl (cI, 60, .inl (fun _ => 0))), (q3, .inr (8, [.ref (u3 1), .int 6, .int 0])), ((u3 1), .inl (cI, 60, .inl (fun _ => 0))), (q4, .inr (8, [.ref (u4 1), .int 10, .int 0])), ((u4 1), .inl (cI, 60, .inl (fun _ => 0)))] := hD
  refine W.widen (k := 8) (n := 252) (Nat.le_of_ble_eq_true rfl) (Nat.le_of_ble_eq_true rfl) ?_
  exact W.vret hx hb hr (fun t ht hW => ⟨⟨fun k => ([h0, q1, (u1 1), q2, (u2 1), q3, (u3 1), q4, (u4 1)] : List Nat).getD k 0, rfl, trivial, by rw [ht]; exact hP, hD⟩, hS.F ht⟩) hS.2.2 cd_Day_55
def cy_House : MethodName := ⟨"BorderThroughBed$House", "<init>", "()V"⟩
abbrev cb_House : ByteArray := prog_3_method_1_code
theorem cd_House_0 : decode cb_House 0 = .ok (.aload_n 0, 1) := by decide +kernel
theorem cd_House_1 : decode cb_House 1 = .ok (.invokespecial 3, 3) := by decide +kernel
theorem cd_House_4 : decode cb_House 4 = .ok (.aload_n 0, 1) := by decide +kernel
theorem cd_House_5 : decode cb_House 5 = .ok (.bipush 24, 2) := by decide +kernel
theorem cd_House_7 : decode cb_House 7 = .ok (.newarray .int, 2) := by decide +kernel
theorem cd_House_9 : decode cb_House 9 = .ok (.putfield 9, 3) := by decide +kernel
theorem cd_House_12 : decode cb_House 12 = .ok (.aload_n 0, 1) := by decide +kernel
theorem cd_House_13 : decode cb_House 13 = .ok (.bipush 24, 2) := by decide +kernel
theorem cd_House_15 : decode cb_House 15 = .ok (.newarray .int, 2) := by decide +kernel
theorem cd_House_17 : decode cb_House 17 = .ok (.putfield 15, 3) := by decide +kernel
theorem cd_House_20 : decode cb_House 20 = .ok (.aload_n 0, 1) := by decide +kernel
theorem cd_House_21 : decode cb_House 21 = .ok (.bipush 24, 2) := by decide +kernel
theorem cd_House_23 : decode cb_House 23 = .ok (.newarray .int, 2) := by decide +kernel
theorem cd_House_25 : decode cb_House 25 = .ok (.putfield 18, 3) := by decide +kernel
theorem cd_House_28 : decode cb_House 28 = .ok (.aload_n 0, 1) := by decide +kernel
theorem cd_House_29 : decode cb_House 29 = .ok (.iconst 4, 1) := by decide +kernel
theorem cd_House_30 : decode cb_House 30 = .ok (.newarray .int, 2) := by decide +kernel
theorem cd_House_32 : decode cb_House 32 = .ok (.putfield 21, 3) := by decide +kernel
theorem cd_House_35 : decode cb_House 35 = .ok (.aload_n 0, 1) := by decide +kernel
theorem cd_House_36 : decode cb_House 36 = .ok (.bipush 96, 2) := by decide +kernel
theorem cd_House_38 : decode cb_House 38 = .ok (.newarray .int, 2) := by decide +kernel
theorem cd_House_40 : decode cb_House 40 = .ok (.putfield 24, 3) := by decide +kernel
theorem cd_House_43 : decode cb_House 43 = .ok (.aload_n 0, 1) := by decide +kernel
theorem cd_House_44 : decode cb_House 44 = .ok (.bipush 96, 2) := by decide +kernel
theorem cd_House_46 : decode cb_House 46 = .ok (.newarray .int, 2) := by decide +kernel
theorem cd_House_48 : decode cb_House 48 = .ok (.putfield 27, 3) := by decide +kernel
theorem cd_House_51 : decode cb_House 51 = .ok (.aload_n 0, 1) := by decide +kernel
theorem cd_House_52 : decode cb_House 52 = .ok (.bipush 96, 2) := by decide +kernel
theorem cd_House_54 : decode cb_House 54 = .ok (.newarray .int, 2) := by decide +kernel
theorem cd_House_56 : decode cb_House 56 = .ok (.putfield 30, 3) := by decide +kernel
theorem cd_House_59 : decode cb_House 59 = .ok (.aload_n 0, 1) := by decide +kernel
theorem cd_House_60 : decode cb_House 60 = .ok (.bipush 96, 2) := by decide +kernel
theorem cd_House_62 : decode cb_House 62 = .ok (.newarray .int, 2) := by decide +kernel
theorem cd_House_64 : decode cb_House 64 = .ok (.putfield 33, 3) := by decide +kernel
theorem cd_House_67 : decode cb_House 67 = .ok (.aload_n 0, 1) := by decide +kernel
theorem cd_House_68 : decode cb_House 68 = .ok (.bipush 24, 2) := by decide +kernel
theorem cd_House_70 : decode cb_House 70 = .ok (.newarray .int, 2) := by decide +kernel
theorem cd_House_72 : decode cb_House 72 = .ok (.putfield 36, 3) := by decide +kernel
theorem cd_House_75 : decode cb_House 75 = .ok (.aload_n 0, 1) := by decide +kernel
theorem cd_House_76 : decode cb_House 76 = .ok (.bipush 24, 2) := by decide +kernel
theorem cd_House_78 : decode cb_House 78 = .ok (.newarray .int, 2) := by decide +kernel
theorem cd_House_80 : decode cb_House 80 = .ok (.putfield 39, 3) := by decide +kernel
theorem cd_House_83 : decode cb_House 83 = .ok (.aload_n 0, 1) := by decide +kernel
theorem cd_House_84 : decode cb_House 84 = .ok (.bipush 24, 2) := by decide +kernel
theorem cd_House_86 : decode cb_House 86 = .ok (.newarray .int, 2) := by decide +kernel
theorem cd_House_88 : decode cb_House 88 = .ok (.putfield 42, 3) := by decide +kernel
theorem cd_House_91 : decode cb_House 91 = .ok (.return_, 1) := by decide +kernel
theorem cw_34 : (Jvm.Cond.code cy_House cb_House 1 none) ∈ ex_tb := ex_in (i := 114) (by decide +kernel) (by decide +kernel)
theorem cw_35 : (Jvm.Cond.initialized "BorderThroughBed$House") ∈ ex_tb := ex_in (i := 32) (by decide +kernel) (by decide +kernel)
theorem cw_36 : (Jvm.Cond.instanceMethod cy_House) ∈ ex_tb := ex_in (i := 113) (by decide +kernel) (by decide +kernel)
theorem cw_37 : (Jvm.Cond.methodLink "BorderThroughBed$House" 3 Lib.objectInit) ∈ ex_tb := ex_in (i := 115) (by decide +kernel) (by decide +kernel)
set_option maxHeartbeats 4000000 in
set_option maxRecDepth 100000 in
theorem c_House (l : Launch) (dC : Nat → ClassId) (dI : Nat → Nat → Nat) (cI cB : ClassId) (h0 sz : Nat) : Met l cy_House (cx_ws cy_House cb_House 1) { frames := 1, cells := 11, slots := 532, locals := 12 } (va_Pc [.ref h0] (cx_Pre dC dI cI cB sz [(h0, .inr (1, [.null, .null, .null, .null, .null, .null, .null, .null, .null, .null, .null, .int 0, .int 0, .int 0]))])) (cx_Post dC dI (va_A [(h0, .inr (1, [.null, .null, .null, .null, .null, .null, .null, .null, .null, .null, .null, .int 0, .int 0, .int 0]))] sz) (fun u => [(h0, .inr (1, [.ref (u 1), .ref (u 2), .ref (u 3), .ref (u 4), .ref (u 5), .ref (u 6), .ref (u 7), .ref (u 8), .ref (u 9), .ref (u 10), .ref (u 11), .int 0, .int 0, .int 0])), ((u 1), .inl (cI, 24, .inl (fun _ => 0))), ((u 2), .inl (cI, 24, .inl (fun _ => 0))), ((u 3), .inl (cI, 24, .inl (fun _ => 0))), ((u 4), .inl (cI, 4, .inl (fun _ => 0))), ((u 5), .inl (cI, 96, .inl (fun _ => 0))), ((u 6), .inl (cI, 96, .inl (fun _ => 0))), ((u 7), .inl (cI, 96, .inl (fun _ => 0))), ((u 8), .inl (cI, 96, .inl (fun _ => 0))), ((u 9), .inl (cI, 24, .inl (fun _ => 0))), ((u 10), .inl (cI, 24, .inl (fun _ => 0))), ((u 11), .inl (cI, 24, .inl (fun _ => 0)))])) 11 532 (va_A [(h0, .inr (1, [.null, .null, .null, .null, .null, .null, .null, .null, .null, .null, .null, .int 0, .int 0, .int 0]))] sz) := by
  refine Met.ofW (cc := cb_House) (maxL := 1) (ret := none) (by decide) rfl ?_
  intro p e s m args below meth c s₁ B hml hv
  obtain ⟨rfl, hsz, hP, hK, hN, hD0⟩ := hv
  have hx := B.exec
  have hb := B.bytes
  have hr := B.returns
  have hts0 := atoms_spec (ws := cx_ws cy_House cb_House 1) B.pre
  have hts : ∀ w ∈ ex_tb, w.before _ s = true := fun w h => hts0 w (List.mem_cons_of_mem _ h)
  have hown : s.vm.findClass "BorderThroughBed$House" = some m.cls := findClass_of_methodNamed B.named
  have hlocks := B.notSynchronized
  have hin : meth.name = "<init>" := (name_of_methodNamed B.named B.method).1
  subst hsz
  have hD := hD0.self (sz := s.heap.size)
  generalize hAe : va_A [(h0, .inr (1, [.null, .null, .null, .null, .null, .null, .null, .null, .null, .null, .null, .int 0, .int 0, .int 0]))] s.heap.size = A at hD ⊢
  have hA : ∀ q : Nat, s.heap.size ≤ q → A q := fun q h => by rw [← hAe]; exact Or.inr h
  have hS : va_S A s.heap s.heap [] := va_S.rf
  have hl := lv_entry ([.ref h0]) (n := 1) (Nat.le_of_ble_eq_true rfl)
  rw [lg_entry_eq]
  generalize (lg_sl ([.ref h0]) ++ List.replicate (1 - (lg_sl ([.ref h0])).length) Slot.unset).toArray = ls at hl ⊢
  have hl : lv_has ls 1 [(0, .ref h0)] := hl
  refine lv_aload_n hx hb cd_House_0 rfl (lv_at hl 0 rfl) ?_
  refine W.objInit (own := "BorderThroughBed$House") hx hb hown (hts _ cw_37) (hts _ cw_4) (hts _ cw_5) rfl (by rw [hml]; exact hl.1) rfl cd_House_1 (Nat.le_of_ble_eq_true rfl) (Nat.le_of_ble_eq_true rfl) ?_
  refine W.eq (g2 := F0 m 4 ls []) rfl ?_
  refine lv_aload_n hx hb cd_House_4 rfl (lv_at hl 0 rfl) ?_
  refine lv_bipush (v := 24) hx hb cd_House_5 (by decide) ?_
  refine cx_newi (N := 24) hx hb hts hK hP hD hS hA (by decide) (by decide) (Nat.le_of_ble_eq_true rfl) (Nat.le_of_ble_eq_true rfl) (Nat.le_of_ble_eq_true rfl) cd_House_7 (fun q1 H hP hD hS => ?_)
  refine W.widen (k := 1) (n := 24) (Nat.le_of_ble_eq_true rfl) (Nat.le_of_ble_eq_true rfl) ?_
  refine cx_putF (ci := 1) (k := 0) (v := .ref q1) (a := h0) (fs := [.null, .null, .null, .null, .null, .null, .null, .null, .null, .null, .null, .int 0, .int 0, .int 0]) hx hb hts hown (by decide) (kq_F (c := 1) (by decide) (9, 64) (ex_lk (by decide +kernel))).1 hK hP hD hS 0 rfl (by decide) rfl hin rfl rfl (Nat.le_of_ble_eq_true rfl) cd_House_9 (fun H locs hP hD hS => ?_)
  have hP : va_P (dC, dI) ex_cm [(h0, .inr (1, [.ref q1, .null, .null, .null, .null, .null, .null, .null, .null, .null, .null, .int 0, .int 0, .int 0])), (q1, .inl (cI, 24, .inl (fun _ => 0)))] H := hP
  have hD : va_D A [(h0, .inr (1, [.ref q1, .null, .null, .null, .null, .null, .null, .null, .null, .null, .null, .int 0, .int 0, .int 0])), (q1, .inl (cI, 24, .inl (fun _ => 0)))] := hD
  refine lv_aload_n hx hb cd_House_12 rfl (lv_at hl 0 rfl) ?_
  refine lv_bipush (v := 24) hx hb cd_House_13 (by decide) ?_
  refine cx_newi (N := 24) hx hb hts hK hP hD hS hA (by decide) (by decide) (Nat.le_of_ble_eq_true rfl) (Nat.le_of_ble_eq_true rfl) (Nat.le_of_ble_eq_true rfl) cd_House_15 (fun q2 H hP hD hS => ?_)
  refine W.widen (k := 2) (n := 48) (Nat.le_of_ble_eq_true rfl) (Nat.le_of_ble_eq_true rfl) ?_
  refine cx_putF (ci := 1) (k := 1) (v := .ref q2) (a := h0) (fs := [.ref q1, .null, .null, .null, .null, .null, .null, .null, .null, .null, .null, .int 0, .int 0, .int 0]) hx hb hts hown (by decide) (kq_F (c := 1) (by decide) (15, 65) (ex_lk (by decide +kernel))).1 hK hP hD hS 0 rfl (by decide) rfl hin rfl rfl (Nat.le_of_ble_eq_true rfl) cd_House_17 (fun H locs hP hD hS => ?_)
  have hP : va_P (dC, dI) ex_cm [(h0, .inr (1, [.ref q1, .ref q2, .null, .null, .null, .null, .null, .null, .null, .null, .null, .int 0, .int 0, .int 0])), (q1, .inl (cI, 24, .inl (fun _ => 0))), (q2, .inl (cI, 24, .inl (fun _ => 0)))] H := hP
  have hD : va_D A [(h0, .inr (1, [.ref q1, .ref q2, .null, .null, .null, .null, .null, .null, .null, .null, .null, .int 0, .int 0, .int 0])), (q1, .inl (cI, 24, .inl (fun _ => 0))), (q2, .inl (cI, 24, .inl (fun _ => 0)))] := hD
  refine lv_aload_n hx hb cd_House_20 rfl (lv_at hl 0 rfl) ?_
  refine lv_bipush (v := 24) hx hb cd_House_21 (by decide) ?_
  refine cx_newi (N := 24) hx hb hts hK hP hD hS hA (by decide) (by decide) (Nat.le_of_ble_eq_true rfl) (Nat.le_of_ble_eq_true rfl) (Nat.le_of_ble_eq_true rfl) cd_House_23 (fun q3 H hP hD hS => ?_)
  refine W.widen (k := 3) (n := 72) (Nat.le_of_ble_eq_true rfl) (Nat.le_of_ble_eq_true rfl) ?_
  refine cx_putF (ci := 1) (k := 2) (v := .ref q3) (a := h0) (fs := [.ref q1, .ref q2, .null, .null, .null, .null, .null, .null, .null, .null, .null, .int 0, .int 0, .int 0]) hx hb hts hown (by decide) (kq_F (c := 1) (by decide) (18, 66) (ex_lk (by decide +kernel))).1 hK hP hD hS 0 rfl (by decide) rfl hin rfl rfl (Nat.le_of_ble_eq_true rfl) cd_House_25 (fun H locs hP hD hS => ?_)
  have hP : va_P (dC, dI) ex_cm [(h0, .inr (1, [.ref q1, .ref q2, .ref q3, .null, .null, .null, .null, .null, .null, .null, .null, .int 0, .int 0, .int 0])), (q1, .inl (cI, 24, .inl (fun _ => 0))), (q2, .inl (cI, 24, .inl (fun _ => 0))), (q3, .inl (cI, 24, .inl (fun _ => 0)))] H := hP
  have hD : va_D A [(h0, .inr (1, [.ref q1, .ref q2, .ref q3, .null, .null, .null, .null, .null, .null, .null, .null, .int 0, .int 0, .int 0])), (q1, .inl (cI, 24, .inl (fun _ => 0))), (q2, .inl (cI, 24, .inl (fun _ => 0))), (q3, .inl (cI, 24, .inl (fun _ => 0)))] := hD
  refine lv_aload_n hx hb cd_House_28 rfl (lv_at hl 0 rfl) ?_
  refine lv_iconst (v := 4) hx hb cd_House_29 (by decide) ?_
  refine cx_newi (N := 4) hx hb hts hK hP hD hS hA (by decide) (by decide) (Nat.le_of_ble_eq_true rfl) (Nat.le_of_ble_eq_true rfl) (Nat.le_of_ble_eq_true rfl) cd_House_30 (fun q4 H hP hD hS => ?_)
  refine W.widen (k := 4) (n := 76) (Nat.le_of_ble_eq_true rfl) (Nat.le_of_ble_eq_true rfl) ?_
  refine cx_putF (ci := 1) (k := 3) (v := .ref q4) (a := h0) (fs := [.ref q1, .ref q2, .ref q3, .null, .null, .null, .null, .null, .null, .null, .null, .int 0, .int 0, .int 0]) hx hb hts hown (by decide) (kq_F (c := 1) (by decide) (21, 67) (ex_lk (by decide +kernel))).1 hK hP hD hS 0 rfl (by decide) rfl hin rfl rfl (Nat.le_of_ble_eq_true rfl) cd_House_32 (fun H locs hP hD hS => ?_)
  have hP : va_P (dC, dI) ex_cm [(h0, .inr (1, [.ref q1, .ref q2, .ref q3, .ref q4, .null, .null, .null, .null, .null, .null, .null, .int 0, .int 0, .int 0])), (q1, .inl (cI, 24, .inl (fun _ => 0))), (q2, .inl (cI, 24, .inl (fun _ => 0))), (q3, .inl (cI, 24, .inl (fun _ => 0))), (q4, .inl (cI, 4, .inl (fun _ => 0)))] H := hP
  have hD : va_D A [(h0, .inr (1, [.ref q1, .ref q2, .ref q3, .ref q4, .null, .null, .null, .null, .null, .null, .null, .int 0, .int 0, .int 0])), (q1, .inl (cI, 24, .inl (fun _ => 0))), (q2, .inl (cI, 24, .inl (fun _ => 0))), (q3, .inl (cI, 24, .inl (fun _ => 0))), (q4, .inl (cI, 4, .inl (fun _ => 0)))] := hD
  refine lv_aload_n hx hb cd_House_35 rfl (lv_at hl 0 rfl) ?_
  refine lv_bipush (v := 96) hx hb cd_House_36 (by decide) ?_
  refine cx_newi (N := 96) hx hb hts hK hP hD hS hA (by decide) (by decide) (Nat.le_of_ble_eq_true rfl) (Nat.le_of_ble_eq_true rfl) (Nat.le_of_ble_eq_true rfl) cd_House_38 (fun q5 H hP hD hS => ?_)
  refine W.widen (k := 5) (n := 172) (Nat.le_of_ble_eq_true rfl) (Nat.le_of_ble_eq_true rfl) ?_
  refine cx_putF (ci := 1) (k := 4) (v := .ref q5) (a := h0) (fs := [.ref q1, .ref q2, .ref q3, .ref q4, .null, .null, .null, .null, .null, .null, .null, .int 0, .int 0, .int 0]) hx hb hts hown (by decide) (kq_F (c := 1) (by decide) (24, 68) (ex_lk (by decide +kernel))).1 hK hP hD hS 0 rfl (by decide) rfl hin rfl rfl (Nat.le_of_ble_eq_true rfl) cd_House_40 (fun H locs hP hD hS => ?_)
  have hP : va_P (dC, dI) ex_cm [(h0, .inr (1, [.ref q1, .ref q2, .ref q3, .ref q4, .ref q5, .null, .null, .null, .null, .null, .null, .int 0, .int 0, .int 0])), (q1, .inl (cI, 24, .inl (fun _ => 0))), (q2, .inl (cI, 24, .inl (fun _ => 0))), (q3, .inl (cI, 24, .inl (fun _ => 0))), (q4, .inl (cI, 4, .inl (fun _ => 0))), (q5, .inl (cI, 96, .inl (fun _ => 0)))] H := hP
  have hD : va_D A [(h0, .inr (1, [.ref q1, .ref q2, .ref q3, .ref q4, .ref q5, .null, .null, .null, .null, .null, .null, .int 0, .int 0, .int 0])), (q1, .inl (cI, 24, .inl (fun _ => 0))), (q2, .inl (cI, 24, .inl (fun _ => 0))), (q3, .inl (cI, 24, .inl (fun _ => 0))), (q4, .inl (cI, 4, .inl (fun _ => 0))), (q5, .inl (cI, 96, .inl (fun _ => 0)))] := hD
  refine lv_aload_n hx hb cd_House_43 rfl (lv_at hl 0 rfl) ?_
  refine lv_bipush (v := 96) hx hb cd_House_44 (by decide) ?_
  refine cx_newi (N := 96) hx hb hts hK hP hD hS hA (by decide) (by decide) (Nat.le_of_ble_eq_true rfl) (Nat.le_of_ble_eq_true rfl) (Nat.le_of_ble_eq_true rfl) cd_House_46 (fun q6 H hP hD hS => ?_)
  refine W.widen (k := 6) (n := 268) (Nat.le_of_ble_eq_true rfl) (Nat.le_of_ble_eq_true rfl) ?_
  refine cx_putF (ci := 1) (k := 5) (v := .ref q6) (a := h0) (fs := [.ref q1, .ref q2, .ref q3, .ref q4, .ref q5, .null, .null, .null, .null, .null, .null, .int 0, .int 0, .int 0]) hx hb hts hown (by decide) (kq_F (c := 1) (by decide) (27, 69) (ex_lk (by decide +kernel))).1 hK hP hD hS 0 rfl (by decide) rfl hin rfl rfl (Nat.le_of_ble_eq_true rfl) cd_House_48 (fun H locs hP hD hS => ?_)
  have hP : va_P (dC, dI) ex_cm [(h0, .inr (1, [.ref q1, .ref q2, .ref q3, .ref q4, .ref q5, .ref q6, .null, .null, .null, .null, .null, .int 0, .int 0, .int 0])), (q1, .inl (cI, 24, .inl (fun _ => 0))), (q2, .inl (cI, 24, .inl (fun _ => 0))), (q3, .inl (cI, 24, .inl (fun _ => 0))), (q4, .inl (cI, 4, .inl (fun _ => 0))), (q5, .inl (cI, 96, .inl (fun _ => 0))), (q6, .inl (cI, 96, .inl (fun _ => 0)))] H := hP
  have hD : va_D A [(h0, .inr (1, [.ref q1, .ref q2, .ref q3, .ref q4, .ref q5, .ref q6, .null, .null, .null, .null, .null, .int 0, .int 0, .int 0])), (q1, .inl (cI, 24, .inl (fun _ => 0))), (q2, .inl (cI, 24, .inl (fun _ => 0))), (q3, .inl (cI, 24, .inl (fun _ => 0))), (q4, .inl (cI, 4, .inl (fun _ => 0))), (q5, .inl (cI, 96, .inl (fun _ => 0))), (q6, .inl (cI, 96, .inl (fun _ => 0)))] := hD
  refine lv_aload_n hx hb cd_House_51 rfl (lv_at hl 0 rfl) ?_
  refine lv_bipush (v := 96) hx hb cd_House_52 (by decide) ?_
  refine cx_newi (N := 96) hx hb hts hK hP hD hS hA (by decide) (by decide) (Nat.le_of_ble_eq_true rfl) (Nat.le_of_ble_eq_true rfl) (Nat.le_of_ble_eq_true rfl) cd_House_54 (fun q7 H hP hD hS => ?_)
  refine W.widen (k := 7) (n := 364) (Nat.le_of_ble_eq_true rfl) (Nat.le_of_ble_eq_true rfl) ?_
  refine cx_putF (ci := 1) (k := 6) (v := .ref q7) (a := h0) (fs := [.ref q1, .ref q2, .ref q3, .ref q4, .ref q5, .ref q6, .null, .null, .null, .null, .null, .int 0, .int 0, .int 0]) hx hb hts hown (by decide) (kq_F (c := 1) (by decide) (30, 70) (ex_lk (by decide +kernel))).1 hK hP hD hS 0 rfl (by decide) rfl hin rfl rfl (Nat.le_of_ble_eq_true rfl) cd_House_56 (fun H locs hP hD hS => ?_)
  have hP : va_P (dC, dI) ex_cm [(h0, .inr (1, [.ref q1, .ref q2, .ref q3, .ref q4, .ref q5, .ref q6, .ref q7, .null, .null, .null, .null, .int 0, .int 0, .int 0])), (q1, .inl (cI, 24, .inl (fun _ => 0))), (q2, .inl (cI, 24, .inl (fun _ => 0))), (q3, .inl (cI, 24, .inl (fun _ => 0))), (q4, .inl (cI, 4, .inl (fun _ => 0))), (q5, .inl (cI, 96, .inl (fun _ => 0))), (q6, .inl (cI, 96, .inl (fun _ => 0))), (q7, .inl (cI, 96, .inl (fun _ => 0)))] H := hP
  have hD : va_D A [(h0, .inr (1, [.ref q1, .ref q2, .ref q3, .ref q4, .ref q5, .ref q6, .ref q7, .null, .null, .null, .null, .int 0, .int 0, .int 0])), (q1, .inl (cI, 24, .inl (fun _ => 0))), (q2, .inl (cI, 24, .inl (fun _ => 0))), (q3, .inl (cI, 24, .inl (fun _ => 0))), (q4, .inl (cI, 4, .inl (fun _ => 0))), (q5, .inl (cI, 96, .inl (fun _ => 0))), (q6, .inl (cI, 96, .inl (fun _ => 0))), (q7, .inl (cI, 96, .inl (fun _ => 0)))] := hD
  refine lv_aload_n hx hb cd_House_59 rfl (lv_at hl 0 rfl) ?_
  refine lv_bipush (v := 96) hx hb cd_House_60 (by decide) ?_
  refine cx_newi (N := 96) hx hb hts hK hP hD hS hA (by decide) (by decide) (Nat.le_of_ble_eq_true rfl) (Nat.le_of_ble_eq_true rfl) (Nat.le_of_ble_eq_true rfl) cd_House_62 (fun q8 H hP hD hS => ?_)
  refine W.widen (k := 8) (n := 460) (Nat.le_of_ble_eq_true rfl) (Nat.le_of_ble_eq_true rfl) ?_
  refine cx_putF (ci := 1) (k := 7) (v := .ref q8) (a := h0) (fs := [.ref q1, .ref q2, .ref q3, .ref q4, .ref q5, .ref q6, .ref q7, .null, .null, .null, .null, .int 0, .int 0, .int 0]) hx hb hts hown (by decide) (kq_F (c := 1) (by decide) (33, 71) (ex_lk (by decide +kernel))).1 hK hP hD hS 0 rfl (by decide) rfl hin rfl rfl (Nat.le_of_ble_eq_true rfl) cd_House_64 (fun H locs hP hD hS => ?_)
  have hP : va_P (dC, dI) ex_cm [(h0, .inr (1, [.ref q1, .ref q2, .ref q3, .ref q4, .ref q5, .ref q6, .ref q7, .ref q8, .null, .null, .null, .int 0, .int 0, .int 0])), (q1, .inl (cI, 24, .inl (fun _ => 0))), (q2, .inl (cI, 24, .inl (fun _ => 0))), (q3, .inl (cI, 24, .inl (fun _ => 0))), (q4, .inl (cI, 4, .inl (fun _ => 0))), (q5, .inl (cI, 96, .inl (fun _ => 0))), (q6, .inl (cI, 96, .inl (fun _ => 0))), (q7, .inl (cI, 96, .inl (fun _ => 0))), (q8, .inl (cI, 96, .inl (fun _ => 0)))] H := hP
  have hD : va_D A [(h0, .inr (1, [.ref q1, .ref q2, .ref q3, .ref q4, .ref q5, .ref q6, .ref q7, .ref q8, .null, .null, .null, .int 0, .int 0, .int 0])), (q1, .inl (cI, 24, .inl (fun _ => 0))), (q2, .inl (cI, 24, .inl (fun _ => 0))), (q3, .inl (cI, 24, .inl (fun _ => 0))), (q4, .inl (cI, 4, .inl (fun _ => 0))), (q5, .inl (cI, 96, .inl (fun _ => 0))), (q6, .inl (cI, 96, .inl (fun _ => 0))), (q7, .inl (cI, 96, .inl (fun _ => 0))), (q8, .inl (cI, 96, .inl (fun _ => 0)))] := hD
  refine lv_aload_n hx hb cd_House_67 rfl (lv_at hl 0 rfl) ?_
  refine lv_bipush (v := 24) hx hb cd_House_68 (by decide) ?_
  refine cx_newi (N := 24) hx hb hts hK hP hD hS hA (by decide) (by decide) (Nat.le_of_ble_eq_true rfl) (Nat.le_of_ble_eq_true rfl) (Nat.le_of_ble_eq_true rfl) cd_House_70 (fun q9 H hP hD hS => ?_)
  refine W.widen (k := 9) (n := 484) (Nat.le_of_ble_eq_true rfl) (Nat.le_of_ble_eq_true rfl) ?_
  refine cx_putF (ci := 1) (k := 8) (v := .ref q9) (a := h0) (fs := [.ref q1, .ref q2, .ref q3, .ref q4, .ref q5, .ref q6, .ref q7, .ref q8, .null, .null, .null, .int 0, .int 0, .int 0]) hx hb hts hown (by decide) (kq_F (c := 1) (by decide) (36, 72) (ex_lk (by decide +kernel))).1 hK hP hD hS 0 rfl (by decide) rfl hin rfl rfl (Nat.le_of_ble_eq_true rfl) cd_House_72 (fun H locs hP hD hS => ?_)
  have hP : va_P (dC, dI) ex_cm [(h0, .inr (1, [.ref q1, .ref q2, .ref q3, .ref q4, .ref q5, .ref q6, .ref q7, .ref q8, .ref q9, .null, .null, .int 0, .int 0, .int 0])), (q1, .inl (cI, 24, .inl (fun _ => 0))), (q2, .inl (cI, 24, .inl (fun _ => 0))), (q3, .inl (cI, 24, .inl (fun _ => 0))), (q4, .inl (cI, 4, .inl (fun _ => 0))), (q5, .inl (cI, 96, .inl (fun _ => 0))), (q6, .inl (cI, 96, .inl (fun _ => 0))), (q7, .inl (cI, 96, .inl (fun _ => 0))), (q8, .inl (cI, 96, .inl (fun _ => 0))), (q9, .inl (cI, 24, .inl (fun _ => 0)))] H := hP
  have hD : va_D A [(h0, .inr (1, [.ref q1, .ref q2, .ref q3, .ref q4, .ref q5, .ref q6, .ref q7, .ref q8, .ref q9, .null, .null, .int 0, .int 0, .int 0])), (q1, .inl (cI, 24, .inl (fun _ => 0))), (q2, .inl (cI, 24, .inl (fun _ => 0))), (q3, .inl (cI, 24, .inl (fun _ => 0))), (q4, .inl (cI, 4, .inl (fun _ => 0))), (q5, .inl (cI, 96, .inl (fun _ => 0))), (q6, .inl (cI, 96, .inl (fun _ => 0))), (q7, .inl (cI, 96, .inl (fun _ => 0))), (q8, .inl (cI, 96, .inl (fun _ => 0))), (q9, .inl (cI, 24, .inl (fun _ => 0)))] := hD
  refine lv_aload_n hx hb cd_House_75 rfl (lv_at hl 0 rfl) ?_
  refine lv_bipush (v := 24) hx hb cd_House_76 (by decide) ?_
  refine cx_newi (N := 24) hx hb hts hK hP hD hS hA (by decide) (by decide) (Nat.le_of_ble_eq_true rfl) (Nat.le_of_ble_eq_true rfl) (Nat.le_of_ble_eq_true rfl) cd_House_78 (fun q10 H hP hD hS => ?_)
  refine W.widen (k := 10) (n := 508) (Nat.le_of_ble_eq_true rfl) (Nat.le_of_ble_eq_true rfl) ?_
  refine cx_putF (ci := 1) (k := 9) (v := .ref q10) (a := h0) (fs := [.ref q1, .ref q2, .ref q3, .ref q4, .ref q5, .ref q6, .ref q7, .ref q8, .ref q9, .null, .null, .int 0, .int 0, .int 0]) hx hb hts hown (by decide) (kq_F (c := 1) (by decide) (39, 73) (ex_lk (by decide +kernel))).1 hK hP hD hS 0 rfl (by decide) rfl hin rfl rfl (Nat.le_of_ble_eq_true rfl) cd_House_80 (fun H locs hP hD hS => ?_)
  have hP : va_P (dC, dI) ex_cm [(h0, .inr (1, [.ref q1, .ref q2, .ref q3, .ref q4, .ref q5, .ref q6, .ref q7, .ref q8, .ref q9, .ref q10, .null, .int 0, .int 0, .int 0])), (q1, .inl (cI, 24, .inl (fun _ => 0))), (q2, .inl (cI, 24, .inl (fun _ => 0))), (q3, .inl (cI, 24, .inl (fun _ => 0))), (q4, .inl (cI, 4, .inl (fun _ => 0))), (q5, .inl (cI, 96, .inl (fun _ => 0))), (q6, .inl (cI, 96, .inl (fun _ => 0))), (q7, .inl (cI, 96, .inl (fun _ => 0))), (q8, .inl (cI, 96, .inl (fun _ => 0))), (q9, .inl (cI, 24, .inl (fun _ => 0))), (q10, .inl (cI, 24, .inl (fun _ => 0)))] H := hP
  have hD : va_D A [(h0, .inr (1, [.ref q1, .ref q2, .ref q3, .ref q4, .ref q5, .ref q6, .ref q7, .ref q8, .ref q9, .ref q10, .null, .int 0, .int 0, .int 0])), (q1, .inl (cI, 24, .inl (fun _ => 0))), (q2, .inl (cI, 24, .inl (fun _ => 0))), (q3, .inl (cI, 24, .inl (fun _ => 0))), (q4, .inl (cI, 4, .inl (fun _ => 0))), (q5, .inl (cI, 96, .inl (fun _ => 0))), (q6, .inl (cI, 96, .inl (fun _ => 0))), (q7, .inl (cI, 96, .inl (fun _ => 0))), (q8, .inl (cI, 96, .inl (fun _ => 0))), (q9, .inl (cI, 24, .inl (fun _ => 0))), (q10, .inl (cI, 24, .inl (fun _ => 0)))] := hD
  refine lv_aload_n hx hb cd_House_83 rfl (lv_at hl 0 rfl) ?_
  refine lv_bipush (v := 24) hx hb cd_House_84 (by decide) ?_
  refine cx_newi (N := 24) hx hb hts hK hP hD hS hA (by decide) (by decide) (Nat.le_of_ble_eq_true rfl) (Nat.le_of_ble_eq_true rfl) (Nat.le_of_ble_eq_true rfl) cd_House_86 (fun q11 H hP hD hS => ?_)
  refine W.widen (k := 11) (n := 532) (Nat.le_of_ble_eq_true rfl) (Nat.le_of_ble_eq_true rfl) ?_
  refine cx_putF (ci := 1) (k := 10) (v := .ref q11) (a := h0) (fs := [.ref q1, .ref q2, .ref q3, .ref q4, .ref q5, .ref q6, .ref q7, .ref q8, .ref q9, .ref q10, .null, .int 0, .int 0, .int 0]) hx hb hts hown (by decide) (kq_F (c := 1) (by decide) (42, 74) (ex_lk (by decide +kernel))).1 hK hP hD hS 0 rfl (by decide) rfl hin rfl rfl (Nat.le_of_ble_eq_true rfl) cd_House_88 (fun H locs hP hD hS => ?_)
  have hP : va_P (dC, dI) ex_cm [(h0, .inr (1, [.ref q1, .ref q2, .ref q3, .ref q4, .ref q5, .ref q6, .ref q7, .ref q8, .ref q9, .ref q10, .ref q11, .int 0, .int 0, .int 0])), (q1, .inl (cI, 24, .inl (fun _ => 0))), (q2, .inl (cI, 24, .inl (fun _ => 0))), (q3, .inl (cI, 24, .inl (fun _ => 0))), (q4, .inl (cI, 4, .inl (fun _ => 0))), (q5, .inl (cI, 96, .inl (fun _ => 0))), (q6, .inl (cI, 96, .inl (fun _ => 0))), (q7, .inl (cI, 96, .inl (fun _ => 0))), (q8, .inl (cI, 96, .inl (fun _ => 0))), (q9, .inl (cI, 24, .inl (fun _ => 0))), (q10, .inl (cI, 24, .inl (fun _ => 0))), (q11, .inl (cI, 24, .inl (fun _ => 0)))] H := hP
  have hD : va_D A [(h0, .inr (1, [.ref q1, .ref q2, .ref q3, .ref q4, .ref q5, .ref q6, .ref q7, .ref q8, .ref q9, .ref q10, .ref q11, .int 0, .int 0, .int 0])), (q1, .inl (cI, 24, .inl (fun _ => 0))), (q2, .inl (cI, 24, .inl (fun _ => 0))), (q3, .inl (cI, 24, .inl (fun _ => 0))), (q4, .inl (cI, 4, .inl (fun _ => 0))), (q5, .inl (cI, 96, .inl (fun _ => 0))), (q6, .inl (cI, 96, .inl (fun _ => 0))), (q7, .inl (cI, 96, .inl (fun _ => 0))), (q8, .inl (cI, 96, .inl (fun _ => 0))), (q9, .inl (cI, 24, .inl (fun _ => 0))), (q10, .inl (cI, 24, .inl (fun _ => 0))), (q11, .inl (cI, 24, .inl (fun _ => 0)))] := hD
  refine W.widen (k := 11) (n := 532) (Nat.le_of_ble_eq_true rfl) (Nat.le_of_ble_eq_true rfl) ?_
  exact W.vret hx hb hr (fun t ht hW => ⟨⟨fun k => ([h0, q1, q2, q3, q4, q5, q6, q7, q8, q9, q10, q11] : List Nat).getD k 0, rfl, trivial, by rw [ht]; exact hP, hD⟩, hS.F ht⟩) hS.2.2 cd_House_91
def cy_Keeping : MethodName := ⟨"BorderThroughBed$Keeping", "<init>", "()V"⟩
abbrev cb_Keeping : ByteArray := prog_5_method_1_code
theorem cd_Keeping_0 : decode cb_Keeping 0 = .ok (.aload_n 0, 1) := by decide +kernel
theorem cd_Keeping_1 : decode cb_Keeping 1 = .ok (.invokespecial 3, 3) := by decide +kernel
theorem cd_Keeping_4 : decode cb_Keeping 4 = .ok (.aload_n 0, 1) := by decide +kernel
theorem cd_Keeping_5 : decode cb_Keeping 5 = .ok (.bipush 6, 2) := by decide +kernel
theorem cd_Keeping_7 : decode cb_Keeping 7 = .ok (.newarray .int, 2) := by decide +kernel
theorem cd_Keeping_9 : decode cb_Keeping 9 = .ok (.putfield 9, 3) := by decide +kernel
theorem cd_Keeping_12 : decode cb_Keeping 12 = .ok (.aload_n 0, 1) := by decide +kernel
theorem cd_Keeping_13 : decode cb_Keeping 13 = .ok (.sipush 144, 3) := by decide +kernel
theorem cd_Keeping_16 : decode cb_Keeping 16 = .ok (.newarray .int, 2) := by decide +kernel
theorem cd_Keeping_18 : decode cb_Keeping 18 = .ok (.putfield 15, 3) := by decide +kernel
theorem cd_Keeping_21 : decode cb_Keeping 21 = .ok (.return_, 1) := by decide +kernel
theorem cw_38 : (Jvm.Cond.code cy_Keeping cb_Keeping 1 none) ∈ ex_tb := ex_in (i := 214) (by decide +kernel) (by decide +kernel)
theorem cw_39 : (Jvm.Cond.initialized "BorderThroughBed$Keeping") ∈ ex_tb := ex_in (i := 36) (by decide +kernel) (by decide +kernel)
theorem cw_40 : (Jvm.Cond.instanceMethod cy_Keeping) ∈ ex_tb := ex_in (i := 213) (by decide +kernel) (by decide +kernel)
theorem cw_41 : (Jvm.Cond.methodLink "BorderThroughBed$Keeping" 3 Lib.objectInit) ∈ ex_tb := ex_in (i := 215) (by decide +kernel) (by decide +kernel)
set_option maxHeartbeats 4000000 in
set_option maxRecDepth 100000 in
theorem c_Keeping (l : Launch) (dC : Nat → ClassId) (dI : Nat → Nat → Nat) (cI cB : ClassId) (h0 sz : Nat) : Met l cy_Keeping (cx_ws cy_Keeping cb_Keeping 1) { frames := 1, cells := 2, slots := 150, locals := 12 } (va_Pc [.ref h0] (cx_Pre dC dI cI cB sz [(h0, .inr (3, [.null, .null, .int 0]))])) (cx_Post dC dI (va_A [(h0, .inr (3, [.null, .null, .int 0]))] sz) (fun u => [(h0, .inr (3, [.ref (u 1), .ref (u 2), .int 0])), ((u 1), .inl (cI, 6, .inl (fun _ => 0))), ((u 2), .inl (cI, 144, .inl (fun _ => 0)))])) 2 150 (va_A [(h0, .inr (3, [.null, .null, .int 0]))] sz) := by
  refine Met.ofW (cc := cb_Keeping) (maxL := 1) (ret := none) (by decide) rfl ?_
  intro p e s m args below meth c s₁ B hml hv
  obtain ⟨rfl, hsz, hP, hK, hN, hD0⟩ := hv
  have hx := B.exec
  have hb := B.bytes
  have hr := B.returns
  have hts0 := atoms_spec (ws := cx_ws cy_Keeping cb_Keeping 1) B.pre
  have hts : ∀ w ∈ ex_tb, w.before _ s = true := fun w h => hts0 w (List.mem_cons_of_mem _ h)
  have hown : s.vm.findClass "BorderThroughBed$Keeping" = some m.cls := findClass_of_methodNamed B.named
  have hlocks := B.notSynchronized
  have hin : meth.name = "<init>" := (name_of_methodNamed B.named B.method).1
  subst hsz
  have hD := hD0.self (sz := s.heap.size)
  generalize hAe : va_A [(h0, .inr (3, [.null, .null, .int 0]))] s.heap.size = A at hD ⊢
  have hA : ∀ q : Nat, s.heap.size ≤ q → A q := fun q h => by rw [← hAe]; exact Or.inr h
  have hS : va_S A s.heap s.heap [] := va_S.rf
  have hl := lv_entry ([.ref h0]) (n := 1) (Nat.le_of_ble_eq_true rfl)
  rw [lg_entry_eq]
  generalize (lg_sl ([.ref h0]) ++ List.replicate (1 - (lg_sl ([.ref h0])).length) Slot.unset).toArray = ls at hl ⊢
  have hl : lv_has ls 1 [(0, .ref h0)] := hl
  refine lv_aload_n hx hb cd_Keeping_0 rfl (lv_at hl 0 rfl) ?_
  refine W.objInit (own := "BorderThroughBed$Keeping") hx hb hown (hts _ cw_41) (hts _ cw_4) (hts _ cw_5) rfl (by rw [hml]; exact hl.1) rfl cd_Keeping_1 (Nat.le_of_ble_eq_true rfl) (Nat.le_of_ble_eq_true rfl) ?_
  refine W.eq (g2 := F0 m 4 ls []) rfl ?_
  refine lv_aload_n hx hb cd_Keeping_4 rfl (lv_at hl 0 rfl) ?_
  refine lv_bipush (v := 6) hx hb cd_Keeping_5 (by decide) ?_
  refine cx_newi (N := 6) hx hb hts hK hP hD hS hA (by decide) (by decide) (Nat.le_of_ble_eq_true rfl) (Nat.le_of_ble_eq_true rfl) (Nat.le_of_ble_eq_true rfl) cd_Keeping_7 (fun q1 H hP hD hS => ?_)
  refine W.widen (k := 1) (n := 6) (Nat.le_of_ble_eq_true rfl) (Nat.le_of_ble_eq_true rfl) ?_
  refine cx_putF (ci := 3) (k := 0) (v := .ref q1) (a := h0) (fs := [.null, .null, .int 0]) hx hb hts hown (by decide) (kq_F (c := 3) (by decide) (9, 192) (ex_lk (by decide +kernel))).1 hK hP hD hS 0 rfl (by decide) rfl hin rfl rfl (Nat.le_of_ble_eq_true rfl) cd_Keeping_9 (fun H locs hP hD hS => ?_)
  have hP : va_P (dC, dI) ex_cm [(h0, .inr (3, [.ref q1, .null, .int 0])), (q1, .inl (cI, 6, .inl (fun _ => 0)))] H := hP
  have hD : va_D A [(h0, .inr (3, [.ref q1, .null, .int 0])), (q1, .inl (cI, 6, .inl (fun _ => 0)))] := hD
  refine lv_aload_n hx hb cd_Keeping_12 rfl (lv_at hl 0 rfl) ?_
  refine lv_sipush (v := 144) hx hb cd_Keeping_13 (by decide) ?_
  refine cx_newi (N := 144) hx hb hts hK hP hD hS hA (by decide) (by decide) (Nat.le_of_ble_eq_true rfl) (Nat.le_of_ble_eq_true rfl) (Nat.le_of_ble_eq_true rfl) cd_Keeping_16 (fun q2 H hP hD hS => ?_)
  refine W.widen (k := 2) (n := 150) (Nat.le_of_ble_eq_true rfl) (Nat.le_of_ble_eq_true rfl) ?_
  refine cx_putF (ci := 3) (k := 1) (v := .ref q2) (a := h0) (fs := [.ref q1, .null, .int 0]) hx hb hts hown (by decide) (kq_F (c := 3) (by decide) (15, 193) (ex_lk (by decide +kernel))).1 hK hP hD hS 0 rfl (by decide) rfl hin rfl rfl (Nat.le_of_ble_eq_true rfl) cd_Keeping_18 (fun H locs hP hD hS => ?_)
  have hP : va_P (dC, dI) ex_cm [(h0, .inr (3, [.ref q1, .ref q2, .int 0])), (q1, .inl (cI, 6, .inl (fun _ => 0))), (q2, .inl (cI, 144, .inl (fun _ => 0)))] H := hP
  have hD : va_D A [(h0, .inr (3, [.ref q1, .ref q2, .int 0])), (q1, .inl (cI, 6, .inl (fun _ => 0))), (q2, .inl (cI, 144, .inl (fun _ => 0)))] := hD
  refine W.widen (k := 2) (n := 150) (Nat.le_of_ble_eq_true rfl) (Nat.le_of_ble_eq_true rfl) ?_
  exact W.vret hx hb hr (fun t ht hW => ⟨⟨fun k => ([h0, q1, q2] : List Nat).getD k 0, rfl, trivial, by rw [ht]; exact hP, hD⟩, hS.F ht⟩) hS.2.2 cd_Keeping_21
def cy_Mover : MethodName := ⟨"BorderThroughBed$Mover", "<init>", "()V"⟩
abbrev cb_Mover : ByteArray := prog_8_method_1_code
theorem cd_Mover_0 : decode cb_Mover 0 = .ok (.aload_n 0, 1) := by decide +kernel
theorem cd_Mover_1 : decode cb_Mover 1 = .ok (.invokespecial 3, 3) := by decide +kernel
theorem cd_Mover_4 : decode cb_Mover 4 = .ok (.aload_n 0, 1) := by decide +kernel
theorem cd_Mover_5 : decode cb_Mover 5 = .ok (.iconst 3, 1) := by decide +kernel
theorem cd_Mover_6 : decode cb_Mover 6 = .ok (.newarray .int, 2) := by decide +kernel
theorem cd_Mover_8 : decode cb_Mover 8 = .ok (.putfield 9, 3) := by decide +kernel
theorem cd_Mover_11 : decode cb_Mover 11 = .ok (.aload_n 0, 1) := by decide +kernel
theorem cd_Mover_12 : decode cb_Mover 12 = .ok (.iconst 3, 1) := by decide +kernel
theorem cd_Mover_13 : decode cb_Mover 13 = .ok (.newarray .int, 2) := by decide +kernel
theorem cd_Mover_15 : decode cb_Mover 15 = .ok (.putfield 15, 3) := by decide +kernel
theorem cd_Mover_18 : decode cb_Mover 18 = .ok (.aload_n 0, 1) := by decide +kernel
theorem cd_Mover_19 : decode cb_Mover 19 = .ok (.iconst 3, 1) := by decide +kernel
theorem cd_Mover_20 : decode cb_Mover 20 = .ok (.newarray .int, 2) := by decide +kernel
theorem cd_Mover_22 : decode cb_Mover 22 = .ok (.putfield 18, 3) := by decide +kernel
theorem cd_Mover_25 : decode cb_Mover 25 = .ok (.aload_n 0, 1) := by decide +kernel
theorem cd_Mover_26 : decode cb_Mover 26 = .ok (.iconst 5, 1) := by decide +kernel
theorem cd_Mover_27 : decode cb_Mover 27 = .ok (.newarray .int, 2) := by decide +kernel
theorem cd_Mover_29 : decode cb_Mover 29 = .ok (.putfield 21, 3) := by decide +kernel
theorem cd_Mover_32 : decode cb_Mover 32 = .ok (.return_, 1) := by decide +kernel
theorem cw_42 : (Jvm.Cond.code cy_Mover cb_Mover 1 none) ∈ ex_tb := ex_in (i := 229) (by decide +kernel) (by decide +kernel)
theorem cw_43 : (Jvm.Cond.initialized "BorderThroughBed$Mover") ∈ ex_tb := ex_in (i := 37) (by decide +kernel) (by decide +kernel)
theorem cw_44 : (Jvm.Cond.instanceMethod cy_Mover) ∈ ex_tb := ex_in (i := 228) (by decide +kernel) (by decide +kernel)
theorem cw_45 : (Jvm.Cond.methodLink "BorderThroughBed$Mover" 3 Lib.objectInit) ∈ ex_tb := ex_in (i := 230) (by decide +kernel) (by decide +kernel)
set_option maxHeartbeats 4000000 in
set_option maxRecDepth 100000 in
theorem c_Mover (l : Launch) (dC : Nat → ClassId) (dI : Nat → Nat → Nat) (cI cB : ClassId) (h0 sz : Nat) : Met l cy_Mover (cx_ws cy_Mover cb_Mover 1) { frames := 1, cells := 4, slots := 14, locals := 12 } (va_Pc [.ref h0] (cx_Pre dC dI cI cB sz [(h0, .inr (6, [.null, .null, .null, .null, .int 0, .int 0]))])) (cx_Post dC dI (va_A [(h0, .inr (6, [.null, .null, .null, .null, .int 0, .int 0]))] sz) (fun u => [(h0, .inr (6, [.ref (u 1), .ref (u 2), .ref (u 3), .ref (u 4), .int 0, .int 0])), ((u 1), .inl (cI, 3, .inl (fun _ => 0))), ((u 2), .inl (cI, 3, .inl (fun _ => 0))), ((u 3), .inl (cI, 3, .inl (fun _ => 0))), ((u 4), .inl (cI, 5, .inl (fun _ => 0)))])) 4 14 (va_A [(h0, .inr (6, [.null, .null, .null, .null, .int 0, .int 0]))] sz) := by
  refine Met.ofW (cc := cb_Mover) (maxL := 1) (ret := none) (by decide) rfl ?_
  intro p e s m args below meth c s₁ B hml hv
  obtain ⟨rfl, hsz, hP, hK, hN, hD0⟩ := hv
  have hx := B.exec
  have hb := B.bytes
  have hr := B.returns
  have hts0 := atoms_spec (ws := cx_ws cy_Mover cb_Mover 1) B.pre
  have hts : ∀ w ∈ ex_tb, w.before _ s = true := fun w h => hts0 w (List.mem_cons_of_mem _ h)
  have hown : s.vm.findClass "BorderThroughBed$Mover" = some m.cls := findClass_of_methodNamed B.named
  have hlocks := B.notSynchronized
  have hin : meth.name = "<init>" := (name_of_methodNamed B.named B.method).1
  subst hsz
  have hD := hD0.self (sz := s.heap.size)
  generalize hAe : va_A [(h0, .inr (6, [.null, .null, .null, .null, .int 0, .int 0]))] s.heap.size = A at hD ⊢
  have hA : ∀ q : Nat, s.heap.size ≤ q → A q := fun q h => by rw [← hAe]; exact Or.inr h
  have hS : va_S A s.heap s.heap [] := va_S.rf
  have hl := lv_entry ([.ref h0]) (n := 1) (Nat.le_of_ble_eq_true rfl)
  rw [lg_entry_eq]
  generalize (lg_sl ([.ref h0]) ++ List.replicate (1 - (lg_sl ([.ref h0])).length) Slot.unset).toArray = ls at hl ⊢
  have hl : lv_has ls 1 [(0, .ref h0)] := hl
  refine lv_aload_n hx hb cd_Mover_0 rfl (lv_at hl 0 rfl) ?_
  refine W.objInit (own := "BorderThroughBed$Mover") hx hb hown (hts _ cw_45) (hts _ cw_4) (hts _ cw_5) rfl (by rw [hml]; exact hl.1) rfl cd_Mover_1 (Nat.le_of_ble_eq_true rfl) (Nat.le_of_ble_eq_true rfl) ?_
  refine W.eq (g2 := F0 m 4 ls []) rfl ?_
  refine lv_aload_n hx hb cd_Mover_4 rfl (lv_at hl 0 rfl) ?_
  refine lv_iconst (v := 3) hx hb cd_Mover_5 (by decide) ?_
  refine cx_newi (N := 3) hx hb hts hK hP hD hS hA (by decide) (by decide) (Nat.le_of_ble_eq_true rfl) (Nat.le_of_ble_eq_true rfl) (Nat.le_of_ble_eq_true rfl) cd_Mover_6 (fun q1 H hP hD hS => ?_)
  refine W.widen (k := 1) (n := 3) (Nat.le_of_ble_eq_true rfl) (Nat.le_of_ble_eq_true rfl) ?_
  refine cx_putF (ci := 6) (k := 0) (v := .ref q1) (a := h0) (fs := [.null, .null, .null, .null, .int 0, .int 0]) hx hb hts hown (by decide) (kq_F (c := 6) (by decide) (9, 384) (ex_lk (by decide +kernel))).1 hK hP hD hS 0 rfl (by decide) rfl hin rfl rfl (Nat.le_of_ble_eq_true rfl) cd_Mover_8 (fun H locs hP hD hS => ?_)
  have hP : va_P (dC, dI) ex_cm [(h0, .inr (6, [.ref q1, .null, .null, .null, .int 0, .int 0])), (q1, .inl (cI, 3, .inl (fun _ => 0)))] H := hP
  have hD : va_D A [(h0, .inr (6, [.ref q1, .null, .null, .null, .int 0, .int 0])), (q1, .inl (cI, 3, .inl (fun _ => 0)))] := hD
  refine lv_aload_n hx hb cd_Mover_11 rfl (lv_at hl 0 rfl) ?_
  refine lv_iconst (v := 3) hx hb cd_Mover_12 (by decide) ?_
  refine cx_newi (N := 3) hx hb hts hK hP hD hS hA (by decide) (by decide) (Nat.le_of_ble_eq_true rfl) (Nat.le_of_ble_eq_true rfl) (Nat.le_of_ble_eq_true rfl) cd_Mover_13 (fun q2 H hP hD hS => ?_)
  refine W.widen (k := 2) (n := 6) (Nat.le_of_ble_eq_true rfl) (Nat.le_of_ble_eq_true rfl) ?_
  refine cx_putF (ci := 6) (k := 1) (v := .ref q2) (a := h0) (fs := [.ref q1, .null, .null, .null, .int 0, .int 0]) hx hb hts hown (by decide) (kq_F (c := 6) (by decide) (15, 385) (ex_lk (by decide +kernel))).1 hK hP hD hS 0 rfl (by decide) rfl hin rfl rfl (Nat.le_of_ble_eq_true rfl) cd_Mover_15 (fun H locs hP hD hS => ?_)
  have hP : va_P (dC, dI) ex_cm [(h0, .inr (6, [.ref q1, .ref q2, .null, .null, .int 0, .int 0])), (q1, .inl (cI, 3, .inl (fun _ => 0))), (q2, .inl (cI, 3, .inl (fun _ => 0)))] H := hP
  have hD : va_D A [(h0, .inr (6, [.ref q1, .ref q2, .null, .null, .int 0, .int 0])), (q1, .inl (cI, 3, .inl (fun _ => 0))), (q2, .inl (cI, 3, .inl (fun _ => 0)))] := hD
  refine lv_aload_n hx hb cd_Mover_18 rfl (lv_at hl 0 rfl) ?_
  refine lv_iconst (v := 3) hx hb cd_Mover_19 (by decide) ?_
  refine cx_newi (N := 3) hx hb hts hK hP hD hS hA (by decide) (by decide) (Nat.le_of_ble_eq_true rfl) (Nat.le_of_ble_eq_true rfl) (Nat.le_of_ble_eq_true rfl) cd_Mover_20 (fun q3 H hP hD hS => ?_)
  refine W.widen (k := 3) (n := 9) (Nat.le_of_ble_eq_true rfl) (Nat.le_of_ble_eq_true rfl) ?_
  refine cx_putF (ci := 6) (k := 2) (v := .ref q3) (a := h0) (fs := [.ref q1, .ref q2, .null, .null, .int 0, .int 0]) hx hb hts hown (by decide) (kq_F (c := 6) (by decide) (18, 386) (ex_lk (by decide +kernel))).1 hK hP hD hS 0 rfl (by decide) rfl hin rfl rfl (Nat.le_of_ble_eq_true rfl) cd_Mover_22 (fun H locs hP hD hS => ?_)
  have hP : va_P (dC, dI) ex_cm [(h0, .inr (6, [.ref q1, .ref q2, .ref q3, .null, .int 0, .int 0])), (q1, .inl (cI, 3, .inl (fun _ => 0))), (q2, .inl (cI, 3, .inl (fun _ => 0))), (q3, .inl (cI, 3, .inl (fun _ => 0)))] H := hP
  have hD : va_D A [(h0, .inr (6, [.ref q1, .ref q2, .ref q3, .null, .int 0, .int 0])), (q1, .inl (cI, 3, .inl (fun _ => 0))), (q2, .inl (cI, 3, .inl (fun _ => 0))), (q3, .inl (cI, 3, .inl (fun _ => 0)))] := hD
  refine lv_aload_n hx hb cd_Mover_25 rfl (lv_at hl 0 rfl) ?_
  refine lv_iconst (v := 5) hx hb cd_Mover_26 (by decide) ?_
  refine cx_newi (N := 5) hx hb hts hK hP hD hS hA (by decide) (by decide) (Nat.le_of_ble_eq_true rfl) (Nat.le_of_ble_eq_true rfl) (Nat.le_of_ble_eq_true rfl) cd_Mover_27 (fun q4 H hP hD hS => ?_)
  refine W.widen (k := 4) (n := 14) (Nat.le_of_ble_eq_true rfl) (Nat.le_of_ble_eq_true rfl) ?_
  refine cx_putF (ci := 6) (k := 3) (v := .ref q4) (a := h0) (fs := [.ref q1, .ref q2, .ref q3, .null, .int 0, .int 0]) hx hb hts hown (by decide) (kq_F (c := 6) (by decide) (21, 387) (ex_lk (by decide +kernel))).1 hK hP hD hS 0 rfl (by decide) rfl hin rfl rfl (Nat.le_of_ble_eq_true rfl) cd_Mover_29 (fun H locs hP hD hS => ?_)
  have hP : va_P (dC, dI) ex_cm [(h0, .inr (6, [.ref q1, .ref q2, .ref q3, .ref q4, .int 0, .int 0])), (q1, .inl (cI, 3, .inl (fun _ => 0))), (q2, .inl (cI, 3, .inl (fun _ => 0))), (q3, .inl (cI, 3, .inl (fun _ => 0))), (q4, .inl (cI, 5, .inl (fun _ => 0)))] H := hP
  have hD : va_D A [(h0, .inr (6, [.ref q1, .ref q2, .ref q3, .ref q4, .int 0, .int 0])), (q1, .inl (cI, 3, .inl (fun _ => 0))), (q2, .inl (cI, 3, .inl (fun _ => 0))), (q3, .inl (cI, 3, .inl (fun _ => 0))), (q4, .inl (cI, 5, .inl (fun _ => 0)))] := hD
  refine W.widen (k := 4) (n := 14) (Nat.le_of_ble_eq_true rfl) (Nat.le_of_ble_eq_true rfl) ?_
  exact W.vret hx hb hr (fun t ht hW => ⟨⟨fun k => ([h0, q1, q2, q3, q4] : List Nat).getD k 0, rfl, trivial, by rw [ht]; exact hP, hD⟩, hS.F ht⟩) hS.2.2 cd_Mover_32
end
section
/-! the constructor of the main class -/
def cy_Main : MethodName := ⟨"BorderThroughBed", "<init>", "()V"⟩
abbrev cb_Main : ByteArray := prog_1_method_1_code
theorem cd_Main_0 : decode cb_Main 0 = .ok (.aload_n 0, 1) := by decide +kernel
theorem cd_Main_1 : decode cb_Main 1 = .ok (.invokespecial 1, 3) := by decide +kernel
theorem cd_Main_4 : decode cb_Main 4 = .ok (.aload_n 0, 1) := by decide +kernel
theorem cd_Main_5 : decode cb_Main 5 = .ok (.new 7, 3) := by decide +kernel
theorem cd_Main_8 : decode cb_Main 8 = .ok (.dup, 1) := by decide +kernel
theorem cd_Main_9 : decode cb_Main 9 = .ok (.invokespecial 9, 3) := by decide +kernel
theorem cd_Main_12 : decode cb_Main 12 = .ok (.putfield 10, 3) := by decide +kernel
theorem cd_Main_15 : decode cb_Main 15 = .ok (.aload_n 0, 1) := by decide +kernel
theorem cd_Main_16 : decode cb_Main 16 = .ok (.new 16, 3) := by decide +kernel
theorem cd_Main_19 : decode cb_Main 19 = .ok (.dup, 1) := by decide +kernel
theorem cd_Main_20 : decode cb_Main 20 = .ok (.invokespecial 18, 3) := by decide +kernel
theorem cd_Main_23 : decode cb_Main 23 = .ok (.putfield 19, 3) := by decide +kernel
theorem cd_Main_26 : decode cb_Main 26 = .ok (.aload_n 0, 1) := by decide +kernel
theorem cd_Main_27 : decode cb_Main 27 = .ok (.new 23, 3) := by decide +kernel
theorem cd_Main_30 : decode cb_Main 30 = .ok (.dup, 1) := by decide +kernel
theorem cd_Main_31 : decode cb_Main 31 = .ok (.invokespecial 25, 3) := by decide +kernel
theorem cd_Main_34 : decode cb_Main 34 = .ok (.putfield 26, 3) := by decide +kernel
theorem cd_Main_37 : decode cb_Main 37 = .ok (.aload_n 0, 1) := by decide +kernel
theorem cd_Main_38 : decode cb_Main 38 = .ok (.new 30, 3) := by decide +kernel
theorem cd_Main_41 : decode cb_Main 41 = .ok (.dup, 1) := by decide +kernel
theorem cd_Main_42 : decode cb_Main 42 = .ok (.invokespecial 32, 3) := by decide +kernel
theorem cd_Main_45 : decode cb_Main 45 = .ok (.putfield 33, 3) := by decide +kernel
theorem cd_Main_48 : decode cb_Main 48 = .ok (.aload_n 0, 1) := by decide +kernel
theorem cd_Main_49 : decode cb_Main 49 = .ok (.new 37, 3) := by decide +kernel
theorem cd_Main_52 : decode cb_Main 52 = .ok (.dup, 1) := by decide +kernel
theorem cd_Main_53 : decode cb_Main 53 = .ok (.invokespecial 39, 3) := by decide +kernel
theorem cd_Main_56 : decode cb_Main 56 = .ok (.putfield 40, 3) := by decide +kernel
theorem cd_Main_59 : decode cb_Main 59 = .ok (.aload_n 0, 1) := by decide +kernel
theorem cd_Main_60 : decode cb_Main 60 = .ok (.new 44, 3) := by decide +kernel
theorem cd_Main_63 : decode cb_Main 63 = .ok (.dup, 1) := by decide +kernel
theorem cd_Main_64 : decode cb_Main 64 = .ok (.invokespecial 46, 3) := by decide +kernel
theorem cd_Main_67 : decode cb_Main 67 = .ok (.putfield 47, 3) := by decide +kernel
theorem cd_Main_70 : decode cb_Main 70 = .ok (.aload_n 0, 1) := by decide +kernel
theorem cd_Main_71 : decode cb_Main 71 = .ok (.new 44, 3) := by decide +kernel
theorem cd_Main_74 : decode cb_Main 74 = .ok (.dup, 1) := by decide +kernel
theorem cd_Main_75 : decode cb_Main 75 = .ok (.invokespecial 46, 3) := by decide +kernel
theorem cd_Main_78 : decode cb_Main 78 = .ok (.putfield 51, 3) := by decide +kernel
theorem cd_Main_81 : decode cb_Main 81 = .ok (.aload_n 0, 1) := by decide +kernel
theorem cd_Main_82 : decode cb_Main 82 = .ok (.new 54, 3) := by decide +kernel
theorem cd_Main_85 : decode cb_Main 85 = .ok (.dup, 1) := by decide +kernel
theorem cd_Main_86 : decode cb_Main 86 = .ok (.invokespecial 56, 3) := by decide +kernel
theorem cd_Main_89 : decode cb_Main 89 = .ok (.putfield 57, 3) := by decide +kernel
theorem cd_Main_92 : decode cb_Main 92 = .ok (.aload_n 0, 1) := by decide +kernel
theorem cd_Main_93 : decode cb_Main 93 = .ok (.new 61, 3) := by decide +kernel
theorem cd_Main_96 : decode cb_Main 96 = .ok (.dup, 1) := by decide +kernel
theorem cd_Main_97 : decode cb_Main 97 = .ok (.invokespecial 63, 3) := by decide +kernel
theorem cd_Main_100 : decode cb_Main 100 = .ok (.putfield 64, 3) := by decide +kernel
theorem cd_Main_103 : decode cb_Main 103 = .ok (.return_, 1) := by decide +kernel
theorem cw_46 : (Jvm.Cond.code cy_Main cb_Main 1 none) ∈ ex_tb := ex_in (i := 42) (by decide +kernel) (by decide +kernel)
theorem cw_47 : (Jvm.Cond.initialized "BorderThroughBed") ∈ ex_tb := ex_in (i := 27) (by decide +kernel) (by decide +kernel)
theorem cw_48 : (Jvm.Cond.instanceMethod cy_Main) ∈ ex_tb := ex_in (i := 41) (by decide +kernel) (by decide +kernel)
theorem cw_49 : (Jvm.Cond.methodLink "BorderThroughBed" 1 Lib.objectInit) ∈ ex_tb := ex_in (i := 43) (by decide +kernel) (by decide +kernel)
theorem cw_50 : (Jvm.Cond.classLink "BorderThroughBed" 7 "BorderThroughBed$Page") ∈ ex_tb := ex_in (i := 46) (by decide +kernel) (by decide +kernel)
theorem cw_51 : (Jvm.Cond.instantiable "BorderThroughBed$Page" 2) ∈ ex_tb := ex_in (i := 47) (by decide +kernel) (by decide +kernel)
theorem cw_52 : (Jvm.Cond.classLink "BorderThroughBed" 16 "BorderThroughBed$HouseText") ∈ ex_tb := ex_in (i := 60) (by decide +kernel) (by decide +kernel)
theorem cw_53 : (Jvm.Cond.instantiable "BorderThroughBed$HouseText" 4) ∈ ex_tb := ex_in (i := 61) (by decide +kernel) (by decide +kernel)
theorem cw_54 : (Jvm.Cond.classLink "BorderThroughBed" 23 "BorderThroughBed$LawText") ∈ ex_tb := ex_in (i := 82) (by decide +kernel) (by decide +kernel)
theorem cw_55 : (Jvm.Cond.instantiable "BorderThroughBed$LawText" 7) ∈ ex_tb := ex_in (i := 83) (by decide +kernel) (by decide +kernel)
theorem cw_56 : (Jvm.Cond.classLink "BorderThroughBed" 30 "BorderThroughBed$House") ∈ ex_tb := ex_in (i := 110) (by decide +kernel) (by decide +kernel)
theorem cw_57 : (Jvm.Cond.instantiable "BorderThroughBed$House" 14) ∈ ex_tb := ex_in (i := 111) (by decide +kernel) (by decide +kernel)
theorem cw_58 : (Jvm.Cond.classLink "BorderThroughBed" 37 "BorderThroughBed$Laws") ∈ ex_tb := ex_in (i := 159) (by decide +kernel) (by decide +kernel)
theorem cw_59 : (Jvm.Cond.instantiable "BorderThroughBed$Laws" 1) ∈ ex_tb := ex_in (i := 160) (by decide +kernel) (by decide +kernel)
theorem cw_60 : (Jvm.Cond.classLink "BorderThroughBed" 44 "BorderThroughBed$Day") ∈ ex_tb := ex_in (i := 185) (by decide +kernel) (by decide +kernel)
theorem cw_61 : (Jvm.Cond.instantiable "BorderThroughBed$Day" 4) ∈ ex_tb := ex_in (i := 186) (by decide +kernel) (by decide +kernel)
theorem cw_62 : (Jvm.Cond.classLink "BorderThroughBed" 54 "BorderThroughBed$Keeping") ∈ ex_tb := ex_in (i := 210) (by decide +kernel) (by decide +kernel)
theorem cw_63 : (Jvm.Cond.instantiable "BorderThroughBed$Keeping" 3) ∈ ex_tb := ex_in (i := 211) (by decide +kernel) (by decide +kernel)
theorem cw_64 : (Jvm.Cond.classLink "BorderThroughBed" 61 "BorderThroughBed$Mover") ∈ ex_tb := ex_in (i := 225) (by decide +kernel) (by decide +kernel)
theorem cw_65 : (Jvm.Cond.instantiable "BorderThroughBed$Mover" 6) ∈ ex_tb := ex_in (i := 226) (by decide +kernel) (by decide +kernel)
set_option maxHeartbeats 4000000 in
set_option maxRecDepth 100000 in
theorem c_Main (l : Launch) (dC : Nat → ClassId) (dI : Nat → Nat → Nat) (cI cB : ClassId) (h0 sz : Nat) : Met l cy_Main (cx_ws cy_Main cb_Main 1) { frames := 3, cells := 45, slots := 1348, locals := 53 } (va_Pc [.ref h0] (cx_Pre dC dI cI cB sz [(h0, .inr (10, [.null, .null, .null, .null, .null, .null, .null, .null, .null, .int 0, .int 0, .int 0]))])) (cx_Post dC dI (va_A [(h0, .inr (10, [.null, .null, .null, .null, .null, .null, .null, .null, .null, .int 0, .int 0, .int 0]))] sz) (fun u => [(h0, .inr (10, [.ref (u 1), .ref (u 3), .ref (u 4), .ref (u 5), .ref (u 17), .ref (u 20), .ref (u 29), .ref (u 38), .ref (u 41), .int 0, .int 0, .int 0])), ((u 1), .inr (7, [.ref (u 2), .int 0])), ((u 2), .inl (cI, 40, .inl (fun _ => 0))), ((u 3), .inr (2, [.int 0, .int 0, .int 0, .int 0])), ((u 4), .inr (4, [.int 0, .int 0, .int 0, .int 0, .int 0, .int 0, .int 0])), ((u 5), .inr (1, [.ref (u 6), .ref (u 7), .ref (u 8), .ref (u 9), .ref (u 10), .ref (u 11), .ref (u 12), .ref (u 13), .ref (u 14), .ref (u 15), .ref (u 16), .int 0, .int 0, .int 0])), ((u 6), .inl (cI, 24, .inl (fun _ => 0))), ((u 7), .inl (cI, 24, .inl (fun _ => 0))), ((u 8), .inl (cI, 24, .inl (fun _ => 0))), ((u 9), .inl (cI, 4, .inl (fun _ => 0))), ((u 10), .inl (cI, 96, .inl (fun _ => 0))), ((u 11), .inl (cI, 96, .inl (fun _ => 0))), ((u 12), .inl (cI, 96, .inl (fun _ => 0))), ((u 13), .inl (cI, 96, .inl (fun _ => 0))), ((u 14), .inl (cI, 24, .inl (fun _ => 0))), ((u 15), .inl (cI, 24, .inl (fun _ => 0))), ((u 16), .inl (cI, 24, .inl (fun _ => 0))), ((u 17), .inr (5, [.ref (u 18)])), ((u 18), .inr (8, [.ref (u 19), .int 8, .int 0])), ((u 19), .inl (cI, 60, .inl (fun _ => 0))), ((u 20), .inr (0, [.ref (u 21), .ref (u 23), .ref (u 25), .ref (u 27)])), ((u 21), .inr (8, [.ref (u 22), .int 3, .int 0])), ((u 22), .inl (cI, 60, .inl (fun _ => 0))), ((u 23), .inr (8, [.ref (u 24), .int 12, .int 0])), ((u 24), .inl (cI, 60, .inl (fun _ => 0))), ((u 25), .inr (8, [.ref (u 26), .int 6, .int 0])), ((u 26), .inl (cI, 60, .inl (fun _ => 0))), ((u 27), .inr (8, [.ref (u 28), .int 10, .int 0])), ((u 28), .inl (cI, 60, .inl (fun _ => 0))), ((u 29), .inr (0, [.ref (u 30), .ref (u 32), .ref (u 34), .ref (u 36)])), ((u 30), .inr (8, [.ref (u 31), .int 3, .int 0])), ((u 31), .inl (cI, 60, .inl (fun _ => 0))), ((u 32), .inr (8, [.ref (u 33), .int 12, .int 0])), ((u 33), .inl (cI, 60, .inl (fun _ => 0))), ((u 34), .inr (8, [.ref (u 35), .int 6, .int 0])), ((u 35), .inl (cI, 60, .inl (fun _ => 0))), ((u 36), .inr (8, [.ref (u 37), .int 10, .int 0])), ((u 37), .inl (cI, 60, .inl (fun _ => 0))), ((u 38), .inr (3, [.ref (u 39), .ref (u 40), .int 0])), ((u 39), .inl (cI, 6, .inl (fun _ => 0))), ((u 40), .inl (cI, 144, .inl (fun _ => 0))), ((u 41), .inr (6, [.ref (u 42), .ref (u 43), .ref (u 44), .ref (u 45), .int 0, .int 0])), ((u 42), .inl (cI, 3, .inl (fun _ => 0))), ((u 43), .inl (cI, 3, .inl (fun _ => 0))), ((u 44), .inl (cI, 3, .inl (fun _ => 0))), ((u 45), .inl (cI, 5, .inl (fun _ => 0)))])) 45 1348 (va_A [(h0, .inr (10, [.null, .null, .null, .null, .null, .null, .null, .null, .null, .int 0, .int 0, .int 0]))] sz) := by
  refine Met.ofW (cc := cb_Main) (maxL := 1) (ret := none) (by decide) rfl ?_
  intro p e s m args below meth c s₁ B hml hv
  obtain ⟨rfl, hsz, hP, hK, hN, hD0⟩ := hv
  have hx := B.exec
  have hb := B.bytes
  have hr := B.returns
  have hts0 := atoms_spec (ws := cx_ws cy_Main cb_Main 1) B.pre
  have hts : ∀ w ∈ ex_tb, w.before _ s = true := fun w h => hts0 w (List.mem_cons_of_mem _ h)
  have hown : s.vm.findClass "BorderThroughBed" = some m.cls := findClass_of_methodNamed B.named
  have hlocks := B.notSynchronized
  have hin : meth.name = "<init>" := (name_of_methodNamed B.named B.method).1
  subst hsz
  have hD := hD0.self (sz := s.heap.size)
  generalize hAe : va_A [(h0, .inr (10, [.null, .null, .null, .null, .null, .null, .null, .null, .null, .int 0, .int 0, .int 0]))] s.heap.size = A at hD ⊢
  have hA : ∀ q : Nat, s.heap.size ≤ q → A q := fun q h => by rw [← hAe]; exact Or.inr h
  have hS : va_S A s.heap s.heap [] := va_S.rf
  have hl := lv_entry ([.ref h0]) (n := 1) (Nat.le_of_ble_eq_true rfl)
  rw [lg_entry_eq]
  generalize (lg_sl ([.ref h0]) ++ List.replicate (1 - (lg_sl ([.ref h0])).length) Slot.unset).toArray = ls at hl ⊢
  have hl : lv_has ls 1 [(0, .ref h0)] := hl
  refine lv_aload_n hx hb cd_Main_0 rfl (lv_at hl 0 rfl) ?_
  refine W.objInit (own := "BorderThroughBed") hx hb hown (hts _ cw_49) (hts _ cw_4) (hts _ cw_5) rfl (by rw [hml]; exact hl.1) rfl cd_Main_1 (Nat.le_of_ble_eq_true rfl) (Nat.le_of_ble_eq_true rfl) ?_
  refine W.eq (g2 := F0 m 4 ls []) rfl ?_
  refine lv_aload_n hx hb cd_Main_4 rfl (lv_at hl 0 rfl) ?_
  refine cx_new (ci := 7) (fs := [.null, .int 0]) (own := "BorderThroughBed") hx hb hts hown (by decide) cw_50 cw_51 cw_14 hK hP hD hS hA (by decide +kernel) (Nat.le_of_ble_eq_true rfl) (Nat.le_of_ble_eq_true rfl) cd_Main_5 (fun q1 H hP hD hS => ?_)
  refine W.widen (k := 1) (n := 2) (Nat.le_of_ble_eq_true rfl) (Nat.le_of_ble_eq_true rfl) ?_
  refine lv_dup hx hb cd_Main_8 rfl ?_
  refine cx_ctorN (As := []) (b := q1) (rest := [.ref q1, .ref h0]) (wc := [(q1, .inr (7, [.null, .int 0]))]) (wr := [(h0, .inr (10, [.null, .null, .null, .null, .null, .null, .null, .null, .null, .int 0, .int 0, .int 0]))]) (isC := [1]) (isR := [0]) (own := "BorderThroughBed") (nL := 1) (Hm := H) hx hb hml hts hown (c_Page l dC dI cI cB q1 H.size) cw_13 cw_14 cw_15 (List.mem_of_getElem? (i := 0) (by decide +kernel)) rfl (by decide +kernel) rfl rfl ⟨Nat.le_of_ble_eq_true rfl, Nat.le_of_ble_eq_true rfl⟩ hK hN hP hD hS hA rfl rfl (by decide) (by decide) hl.1 (Nat.le_of_ble_eq_true rfl) cd_Main_9 ⟨Nat.le_of_ble_eq_true rfl, Nat.le_of_ble_eq_true rfl⟩ (fun u1 H locs hP hD hS => ?_)
  refine W.widen (k := 2) (n := 42) (Nat.le_of_ble_eq_true rfl) (Nat.le_of_ble_eq_true rfl) ?_
  have hP : va_P (dC, dI) ex_cm [(h0, .inr (10, [.null, .null, .null, .null, .null, .null, .null, .null, .null, .int 0, .int 0, .int 0])), (q1, .inr (7, [.ref (u1 1), .int 0])), ((u1 1), .inl (cI, 40, .inl (fun _ => 0)))] H := hP
  have hD : va_D A [(h0, .inr (10, [.null, .null, .null, .null, .null, .null, .null, .null, .null, .int 0, .int 0, .int 0])), (q1, .inr (7, [.ref (u1 1), .int 0])), ((u1 1), .inl (cI, 40, .inl (fun _ => 0)))] := hD
  refine cx_putF (ci := 10) (k := 0) (v := .ref q1) (a := h0) (fs := [.null, .null, .null, .null, .null, .null, .null, .null, .null, .int 0, .int 0, .int 0]) hx hb hts hown (by decide) (kq_F (c := 10) (by decide) (10, 640) (ex_lk (by decide +kernel))).1 hK hP hD hS 0 rfl (by decide) rfl hin rfl rfl (Nat.le_of_ble_eq_true rfl) cd_Main_12 (fun H locs hP hD hS => ?_)
  have hP : va_P (dC, dI) ex_cm [(h0, .inr (10, [.ref q1, .null, .null, .null, .null, .null, .null, .null, .null, .int 0, .int 0, .int 0])), (q1, .inr (7, [.ref (u1 1), .int 0])), ((u1 1), .inl (cI, 40, .inl (fun _ => 0)))] H := hP
  have hD : va_D A [(h0, .inr (10, [.ref q1, .null, .null, .null, .null, .null, .null, .null, .null, .int 0, .int 0, .int 0])), (q1, .inr (7, [.ref (u1 1), .int 0])), ((u1 1), .inl (cI, 40, .inl (fun _ => 0)))] := hD
  refine lv_aload_n hx hb cd_Main_15 rfl (lv_at hl 0 rfl) ?_
  refine cx_new (ci := 2) (fs := [.int 0, .int 0, .int 0, .int 0]) (own := "BorderThroughBed") hx hb hts hown (by decide) cw_52 cw_53 cw_8 hK hP hD hS hA (by decide +kernel) (Nat.le_of_ble_eq_true rfl) (Nat.le_of_ble_eq_true rfl) cd_Main_16 (fun q2 H hP hD hS => ?_)
  refine W.widen (k := 3) (n := 46) (Nat.le_of_ble_eq_true rfl) (Nat.le_of_ble_eq_true rfl) ?_
  refine lv_dup hx hb cd_Main_19 rfl ?_
  refine cx_ctorN (As := []) (b := q2) (rest := [.ref q2, .ref h0]) (wc := [(q2, .inr (2, [.int 0, .int 0, .int 0, .int 0]))]) (wr := [(h0, .inr (10, [.ref q1, .null, .null, .null, .null, .null, .null, .null, .null, .int 0, .int 0, .int 0])), (q1, .inr (7, [.ref (u1 1), .int 0])), ((u1 1), .inl (cI, 40, .inl (fun _ => 0)))]) (isC := [3]) (isR := [0, 1, 2]) (own := "BorderThroughBed") (nL := 1) (Hm := H) hx hb hml hts hown (c_HouseText l dC dI cI cB q2 H.size) cw_7 cw_8 cw_9 (List.mem_of_getElem? (i := 1) (by decide +kernel)) rfl (by decide +kernel) rfl rfl ⟨Nat.le_of_ble_eq_true rfl, Nat.le_of_ble_eq_true rfl⟩ hK hN hP hD hS hA rfl rfl (by decide) (by decide) hl.1 (Nat.le_of_ble_eq_true rfl) cd_Main_20 ⟨Nat.le_of_ble_eq_true rfl, Nat.le_of_ble_eq_true rfl⟩ (fun u2 H locs hP hD hS => ?_)
  refine W.widen (k := 3) (n := 46) (Nat.le_of_ble_eq_true rfl) (Nat.le_of_ble_eq_true rfl) ?_
  have hP : va_P (dC, dI) ex_cm [(h0, .inr (10, [.ref q1, .null, .null, .null, .null, .null, .null, .null, .null, .int 0, .int 0, .int 0])), (q1, .inr (7, [.ref (u1 1), .int 0])), ((u1 1), .inl (cI, 40, .inl (fun _ => 0))), (q2, .inr (2, [.int 0, .int 0, .int 0, .int 0]))] H := hP
  have hD : va_D A [(h0, .inr (10, [.ref q1, .null, .null, .null, .null, .null, .null, .null, .null, .int 0, .int 0, .int 0])), (q1, .inr (7, [.ref (u1 1), .int 0])), ((u1 1), .inl (cI, 40, .inl (fun _ => 0))), (q2, .inr (2, [.int 0, .int 0, .int 0, .int 0]))] := hD
  refine cx_putF (ci := 10) (k := 1) (v := .ref q2) (a := h0) (fs := [.ref q1, .null, .null, .null, .null, .null, .null, .null, .null, .int 0, .int 0, .int 0]) hx hb hts hown (by decide) (kq_F (c := 10) (by decide) (19, 641) (ex_lk (by decide +kernel))).1 hK hP hD hS 0 rfl (by decide) rfl hin rfl rfl (Nat.le_of_ble_eq_true rfl) cd_Main_23 (fun H locs hP hD hS => ?_)
  have hP : va_P (dC, dI) ex_cm [(h0, .inr (10, [.ref q1, .ref q2, .null, .null, .null, .null, .null, .null, .null, .int 0, .int 0, .int 0])), (q1, .inr (7, [.ref (u1 1), .int 0])), ((u1 1), .inl (cI, 40, .inl (fun _ => 0))), (q2, .inr (2, [.int 0, .int 0, .int 0, .int 0]))] H := hP
  have hD : va_D A [(h0, .inr (10, [.ref q1, .ref q2, .null, .null, .null, .null, .null, .null, .null, .int 0, .int 0, .int 0])), (q1, .inr (7, [.ref (u1 1), .int 0])), ((u1 1), .inl (cI, 40, .inl (fun _ => 0))), (q2, .inr (2, [.int 0, .int 0, .int 0, .int 0]))] := hD
  refine lv_aload_n hx hb cd_Main_26 rfl (lv_at hl 0 rfl) ?_
  refine cx_new (ci := 4) (fs := [.int 0, .int 0, .int 0, .int 0, .int 0, .int 0, .int 0]) (own := "BorderThroughBed") hx hb hts hown (by decide) cw_54 cw_55 cw_11 hK hP hD hS hA (by decide +kernel) (Nat.le_of_ble_eq_true rfl) (Nat.le_of_ble_eq_true rfl) cd_Main_27 (fun q3 H hP hD hS => ?_)
  refine W.widen (k := 4) (n := 53) (Nat.le_of_ble_eq_true rfl) (Nat.le_of_ble_eq_true rfl) ?_
  refine lv_dup hx hb cd_Main_30 rfl ?_
  refine cx_ctorN (As := []) (b := q3) (rest := [.ref q3, .ref h0]) (wc := [(q3, .inr (4, [.int 0, .int 0, .int 0, .int 0, .int 0, .int 0, .int 0]))]) (wr := [(h0, .inr (10, [.ref q1, .ref q2, .null, .null, .null, .null, .null, .null, .null, .int 0, .int 0, .int 0])), (q1, .inr (7, [.ref (u1 1), .int 0])), ((u1 1), .inl (cI, 40, .inl (fun _ => 0))), (q2, .inr (2, [.int 0, .int 0, .int 0, .int 0]))]) (isC := [4]) (isR := [0, 1, 2, 3]) (own := "BorderThroughBed") (nL := 1) (Hm := H) hx hb hml hts hown (c_LawText l dC dI cI cB q3 H.size) cw_10 cw_11 cw_12 (List.mem_of_getElem? (i := 3) (by decide +kernel)) rfl (by decide +kernel) rfl rfl ⟨Nat.le_of_ble_eq_true rfl, Nat.le_of_ble_eq_true rfl⟩ hK hN hP hD hS hA rfl rfl (by decide) (by decide) hl.1 (Nat.le_of_ble_eq_true rfl) cd_Main_31 ⟨Nat.le_of_ble_eq_true rfl, Nat.le_of_ble_eq_true rfl⟩ (fun u3 H locs hP hD hS => ?_)
  refine W.widen (k := 4) (n := 53) (Nat.le_of_ble_eq_true rfl) (Nat.le_of_ble_eq_true rfl) ?_
  have hP : va_P (dC, dI) ex_cm [(h0, .inr (10, [.ref q1, .ref q2, .null, .null, .null, .null, .null, .null, .null, .int 0, .int 0, .int 0])), (q1, .inr (7, [.ref (u1 1), .int 0])), ((u1 1), .inl (cI, 40, .inl (fun _ => 0))), (q2, .inr (2, [.int 0, .int 0, .int 0, .int 0])), (q3, .inr (4, [.int 0, .int 0, .int 0, .int 0, .int 0, .int 0, .int 0]))] H := hP
  have hD : va_D A [(h0, .inr (10, [.ref q1, .ref q2, .null, .null, .null, .null, .null, .null, .null, .int 0, .int 0, .int 0])), (q1, .inr (7, [.ref (u1 1), .int 0])), ((u1 1), .inl (cI, 40, .inl (fun _ => 0))), (q2, .inr (2, [.int 0, .int 0, .int 0, .int 0])), (q3, .inr (4, [.int 0, .int 0, .int 0, .int 0, .int 0, .int 0, .int 0]))] := hD
  refine cx_putF (ci := 10) (k := 2) (v := .ref q3) (a := h0) (fs := [.ref q1, .ref q2, .null, .null, .null, .null, .null, .null, .null, .int 0, .int 0, .int 0]) hx hb hts hown (by decide) (kq_F (c := 10) (by decide) (26, 642) (ex_lk (by decide +kernel))).1 hK hP hD hS 0 rfl (by decide) rfl hin rfl rfl (Nat.le_of_ble_eq_true rfl) cd_Main_34 (fun H locs hP hD hS => ?_)
  have hP : va_P (dC, dI) ex_cm [(h0, .inr (10, [.ref q1, .ref q2, .ref q3, .null, .null, .null, .null, .null, .null, .int 0, .int 0, .int 0])), (q1, .inr (7, [.ref (u1 1), .int 0])), ((u1 1), .inl (cI, 40, .inl (fun _ => 0))), (q2, .inr (2, [.int 0, .int 0, .int 0, .int 0])), (q3, .inr (4, [.int 0, .int 0, .int 0, .int 0, .int 0, .int 0, .int 0]))] H := hP
  have hD : va_D A [(h0, .inr (10, [.ref q1, .ref q2, .ref q3, .null, .null, .null, .null, .null, .null, .int 0, .int 0, .int 0])), (q1, .inr (7, [.ref (u1 1), .int 0])), ((u1 1), .inl (cI, 40, .inl (fun _ => 0))), (q2, .inr (2, [.int 0, .int 0, .int 0, .int 0])), (q3, .inr (4, [.int 0, .int 0, .int 0, .int 0, .int 0, .int 0, .int 0]))] := hD
  refine lv_aload_n hx hb cd_Main_37 rfl (lv_at hl 0 rfl) ?_
  refine cx_new (ci := 1) (fs := [.null, .null, .null, .null, .null, .null, .null, .null, .null, .null, .null, .int 0, .int 0, .int 0]) (own := "BorderThroughBed") hx hb hts hown (by decide) cw_56 cw_57 cw_35 hK hP hD hS hA (by decide +kernel) (Nat.le_of_ble_eq_true rfl) (Nat.le_of_ble_eq_true rfl) cd_Main_38 (fun q4 H hP hD hS => ?_)
  refine W.widen (k := 5) (n := 67) (Nat.le_of_ble_eq_true rfl) (Nat.le_of_ble_eq_true rfl) ?_
  refine lv_dup hx hb cd_Main_41 rfl ?_
  refine cx_ctorN (As := []) (b := q4) (rest := [.ref q4, .ref h0]) (wc := [(q4, .inr (1, [.null, .null, .null, .null, .null, .null, .null, .null, .null, .null, .null, .int 0, .int 0, .int 0]))]) (wr := [(h0, .inr (10, [.ref q1, .ref q2, .ref q3, .null, .null, .null, .null, .null, .null, .int 0, .int 0, .int 0])), (q1, .inr (7, [.ref (u1 1), .int 0])), ((u1 1), .inl (cI, 40, .inl (fun _ => 0))), (q2, .inr (2, [.int 0, .int 0, .int 0, .int 0])), (q3, .inr (4, [.int 0, .int 0, .int 0, .int 0, .int 0, .int 0, .int 0]))]) (isC := [5]) (isR := [0, 1, 2, 3, 4]) (own := "BorderThroughBed") (nL := 1) (Hm := H) hx hb hml hts hown (c_House l dC dI cI cB q4 H.size) cw_34 cw_35 cw_36 (List.mem_of_getElem? (i := 5) (by decide +kernel)) rfl (by decide +kernel) rfl rfl ⟨Nat.le_of_ble_eq_true rfl, Nat.le_of_ble_eq_true rfl⟩ hK hN hP hD hS hA rfl rfl (by decide) (by decide) hl.1 (Nat.le_of_ble_eq_true rfl) cd_Main_42 ⟨Nat.le_of_ble_eq_true rfl, Nat.le_of_ble_eq_true rfl⟩ (fun u4 H locs hP hD hS => ?_)
  refine W.widen (k := 16) (n := 599) (Nat.le_of_ble_eq_true rfl) (Nat.le_of_ble_eq_true rfl) ?_
  have hP : va_P (dC, dI) ex_cm [(h0, .inr (10, [.ref q1, .ref q2, .ref q3, .null, .null, .null, .null, .null, .null, .int 0, .int 0, .int 0])), (q1, .inr (7, [.ref (u1 1), .int 0])), ((u1 1), .inl (cI, 40, .inl (fun _ => 0))), (q2, .inr (2, [.int 0, .int 0, .int 0, .int 0])), (q3, .inr (4, [.int 0, .int 0, .int 0, .int 0, .int 0, .int 0, .int 0])), (q4, .inr (1, [.ref (u4 1), .ref (u4 2), .ref (u4 3), .ref (u4 4), .ref (u4 5), .ref (u4 6), .ref (u4 7), .ref (u4 8), .ref (u4 9), .ref (u4 10), .ref (u4 11), .int 0, .int 0, .int 0])), ((u4 1), .inl (cI, 24, .inl (fun _ => 0))), ((u4 2), .inl (cI, 24, .inl (fun _ => 0))), ((u4 3), .inl (cI, 24, .inl (fun _ => 0))), ((u4 4), .inl (cI, 4, .inl (fun _ => 0))), ((u4 5), .inl (cI, 96, .inl (fun _ => 0))), ((u4 6), .inl (cI, 96, .inl (fun _ => 0))), ((u4 7), .inl (cI, 96, .inl (fun _ => 0))), ((u4 8), .inl (cI, 96, .inl (fun _ => 0))), ((u4 9), .inl (cI, 24, .inl (fun _ => 0))), ((u4 10), .inl (cI, 24, .inl (fun _ => 0))), ((u4 11), .inl (cI, 24, .inl (fun _ => 0)))] H := hP
  have hD : va_D A [(h0, .inr (10, [.ref q1, .ref q2, .ref q3, .null, .null, .null, .null, .null, .null, .int 0, .int 0, .int 0])), (q1, .inr (7, [.ref (u1 1), .int 0])), ((u1 1), .inl (cI, 40, .inl (fun _ => 0))), (q2, .inr (2, [.int 0, .int 0, .int 0, .int 0])), (q3, .inr (4, [.int 0, .int 0, .int 0, .int 0, .int 0, .int 0, .int 0])), (q4, .inr (1, [.ref (u4 1), .ref (u4 2), .ref (u4 3), .ref (u4 4), .ref (u4 5), .ref (u4 6), .ref (u4 7), .ref (u4 8), .ref (u4 9), .ref (u4 10), .ref (u4 11), .int 0, .int 0, .int 0])), ((u4 1), .inl (cI, 24, .inl (fun _ => 0))), ((u4 2), .inl (cI, 24, .inl (fun _ => 0))), ((u4 3), .inl (cI, 24, .inl (fun _ => 0))), ((u4 4), .inl (cI, 4, .inl (fun _ => 0))), ((u4 5), .inl (cI, 96, .inl (fun _ => 0))), ((u4 6), .inl (cI, 96, .inl (fun _ => 0))), ((u4 7), .inl (cI, 96, .inl (fun _ => 0))), ((u4 8), .inl (cI, 96, .inl (fun _ => 0))), ((u4 9), .inl (cI, 24, .inl (fun _ => 0))), ((u4 10), .inl (cI, 24, .inl (fun _ => 0))), ((u4 11), .inl (cI, 24, .inl (fun _ => 0)))] := hD
  refine cx_putF (ci := 10) (k := 3) (v := .ref q4) (a := h0) (fs := [.ref q1, .ref q2, .ref q3, .null, .null, .null, .null, .null, .null, .int 0, .int 0, .int 0]) hx hb hts hown (by decide) (kq_F (c := 10) (by decide) (33, 643) (ex_lk (by decide +kernel))).1 hK hP hD hS 0 rfl (by decide) rfl hin rfl rfl (Nat.le_of_ble_eq_true rfl) cd_Main_45 (fun H locs hP hD hS => ?_)
  have hP : va_P (dC, dI) ex_cm [(h0, .inr (10, [.ref q1, .ref q2, .ref q3, .ref q4, .null, .null, .null, .null, .null, .int 0, .int 0, .int 0])), (q1, .inr (7, [.ref (u1 1), .int 0])), ((u1 1), .inl (cI, 40, .inl (fun _ => 0))), (q2, .inr (2, [.int 0, .int 0, .int 0, .int 0])), (q3, .inr (4, [.int 0, .int 0, .int 0, .int 0, .int 0, .int 0, .int 0])), (q4, .inr (1, [.ref (u4 1), .ref (u4 2), .ref (u4 3), .ref (u4 4), .ref (u4 5), .ref (u4 6), .ref (u4 7), .ref (u4 8), .ref (u4 9), .ref (u4 10), .ref (u4 11), .int 0, .int 0, .int 0])), ((u4 1), .inl (cI, 24, .inl (fun _ => 0))), ((u4 2), .inl (cI, 24, .inl (fun _ => 0))), ((u4 3), .inl (cI, 24, .inl (fun _ => 0))), ((u4 4), .inl (cI, 4, .inl (fun _ => 0))), ((u4 5), .inl (cI, 96, .inl (fun _ => 0))), ((u4 6), .inl (cI, 96, .inl (fun _ => 0))), ((u4 7), .inl (cI, 96, .inl (fun _ => 0))), ((u4 8), .inl (cI, 96, .inl (fun _ => 0))), ((u4 9), .inl (cI, 24, .inl (fun _ => 0))), ((u4 10), .inl (cI, 24, .inl (fun _ => 0))), ((u4 11), .inl (cI, 24, .inl (fun _ => 0)))] H := hP
  have hD : va_D A [(h0, .inr (10, [.ref q1, .ref q2, .ref q3, .ref q4, .null, .null, .null, .null, .null, .int 0, .int 0, .int 0])), (q1, .inr (7, [.ref (u1 1), .int 0])), ((u1 1), .inl (cI, 40, .inl (fun _ => 0))), (q2, .inr (2, [.int 0, .int 0, .int 0, .int 0])), (q3, .inr (4, [.int 0, .int 0, .int 0, .int 0, .int 0, .int 0, .int 0])), (q4, .inr (1, [.ref (u4 1), .ref (u4 2), .ref (u4 3), .ref (u4 4), .ref (u4 5), .ref (u4 6), .ref (u4 7), .ref (u4 8), .ref (u4 9), .ref (u4 10), .ref (u4 11), .int 0, .int 0, .int 0])), ((u4 1), .inl (cI, 24, .inl (fun _ => 0))), ((u4 2), .inl (cI, 24, .inl (fun _ => 0))), ((u4 3), .inl (cI, 24, .inl (fun _ => 0))), ((u4 4), .inl (cI, 4, .inl (fun _ => 0))), ((u4 5), .inl (cI, 96, .inl (fun _ => 0))), ((u4 6), .inl (cI, 96, .inl (fun _ => 0))), ((u4 7), .inl (cI, 96, .inl (fun _ => 0))), ((u4 8), .inl (cI, 96, .inl (fun _ => 0))), ((u4 9), .inl (cI, 24, .inl (fun _ => 0))), ((u4 10), .inl (cI, 24, .inl (fun _ => 0))), ((u4 11), .inl (cI, 24, .inl (fun _ => 0)))] := hD
  refine lv_aload_n hx hb cd_Main_48 rfl (lv_at hl 0 rfl) ?_
  refine cx_new (ci := 5) (fs := [.null]) (own := "BorderThroughBed") hx hb hts hown (by decide) cw_58 cw_59 cw_22 hK hP hD hS hA (by decide +kernel) (Nat.le_of_ble_eq_true rfl) (Nat.le_of_ble_eq_true rfl) cd_Main_49 (fun q5 H hP hD hS => ?_)
  refine W.widen (k := 17) (n := 600) (Nat.le_of_ble_eq_true rfl) (Nat.le_of_ble_eq_true rfl) ?_
  refine lv_dup hx hb cd_Main_52 rfl ?_
  refine cx_ctorN (As := []) (b := q5) (rest := [.ref q5, .ref h0]) (wc := [(q5, .inr (5, [.null]))]) (wr := [(h0, .inr (10, [.ref q1, .ref q2, .ref q3, .ref q4, .null, .null, .null, .null, .null, .int 0, .int 0, .int 0])), (q1, .inr (7, [.ref (u1 1), .int 0])), ((u1 1), .inl (cI, 40, .inl (fun _ => 0))), (q2, .inr (2, [.int 0, .int 0, .int 0, .int 0])), (q3, .inr (4, [.int 0, .int 0, .int 0, .int 0, .int 0, .int 0, .int 0])), (q4, .inr (1, [.ref (u4 1), .ref (u4 2), .ref (u4 3), .ref (u4 4), .ref (u4 5), .ref (u4 6), .ref (u4 7), .ref (u4 8), .ref (u4 9), .ref (u4 10), .ref (u4 11), .int 0, .int 0, .int 0])), ((u4 1), .inl (cI, 24, .inl (fun _ => 0))), ((u4 2), .inl (cI, 24, .inl (fun _ => 0))), ((u4 3), .inl (cI, 24, .inl (fun _ => 0))), ((u4 4), .inl (cI, 4, .inl (fun _ => 0))), ((u4 5), .inl (cI, 96, .inl (fun _ => 0))), ((u4 6), .inl (cI, 96, .inl (fun _ => 0))), ((u4 7), .inl (cI, 96, .inl (fun _ => 0))), ((u4 8), .inl (cI, 96, .inl (fun _ => 0))), ((u4 9), .inl (cI, 24, .inl (fun _ => 0))), ((u4 10), .inl (cI, 24, .inl (fun _ => 0))), ((u4 11), .inl (cI, 24, .inl (fun _ => 0)))]) (isC := [17]) (isR := [0, 1, 2, 3, 4, 5, 6, 7, 8, 9, 10, 11, 12, 13, 14, 15, 16]) (own := "BorderThroughBed") (nL := 1) (Hm := H) hx hb hml hts hown (c_Laws l dC dI cI cB q5 H.size) cw_21 cw_22 cw_23 (List.mem_of_getElem? (i := 6) (by decide +kernel)) rfl (by decide +kernel) rfl rfl ⟨Nat.le_of_ble_eq_true rfl, Nat.le_of_ble_eq_true rfl⟩ hK hN hP hD hS hA rfl rfl (by decide) (by decide) hl.1 (Nat.le_of_ble_eq_true rfl) cd_Main_53 ⟨Nat.le_of_ble_eq_true rfl, Nat.le_of_ble_eq_true rfl⟩ (fun u5 H locs hP hD hS => ?_)
  refine W.widen (k := 19) (n := 663) (Nat.le_of_ble_eq_true rfl) (Nat.le_of_ble_eq_true rfl) ?_
  have hP : va_P (dC, dI) ex_cm [(h0, .inr (10, [.ref q1, .ref q2, .ref q3, .ref q4, .null, .null, .null, .null, .null, .int 0, .int 0, .int 0])), (q1, .inr (7, [.ref (u1 1), .int 0])), ((u1 1), .inl (cI, 40, .inl (fun _ => 0))), (q2, .inr (2, [.int 0, .int 0, .int 0, .int 0])), (q3, .inr (4, [.int 0, .int 0, .int 0, .int 0, .int 0, .int 0, .int 0])), (q4, .inr (1, [.ref (u4 1), .ref (u4 2), .ref (u4 3), .ref (u4 4), .ref (u4 5), .ref (u4 6), .ref (u4 7), .ref (u4 8), .ref (u4 9), .ref (u4 10), .ref (u4 11), .int 0, .int 0, .int 0])), ((u4 1), .inl (cI, 24, .inl (fun _ => 0))), ((u4 2), .inl (cI, 24, .inl (fun _ => 0))), ((u4 3), .inl (cI, 24, .inl (fun _ => 0))), ((u4 4), .inl (cI, 4, .inl (fun _ => 0))), ((u4 5), .inl (cI, 96, .inl (fun _ => 0))), ((u4 6), .inl (cI, 96, .inl (fun _ => 0))), ((u4 7), .inl (cI, 96, .inl (fun _ => 0))), ((u4 8), .inl (cI, 96, .inl (fun _ => 0))), ((u4 9), .inl (cI, 24, .inl (fun _ => 0))), ((u4 10), .inl (cI, 24, .inl (fun _ => 0))), ((u4 11), .inl (cI, 24, .inl (fun _ => 0))), (q5, .inr (5, [.ref (u5 1)])), ((u5 1), .inr (8, [.ref (u5 2), .int 8, .int 0])), ((u5 2), .inl (cI, 60, .inl (fun _ => 0)))] H := hP
  have hD : va_D A [(h0, .inr (10, [.ref q1, .ref q2, .ref q3, .ref q4, .null, .null, .null, .null, .null, .int 0, .int 0, .int 0])), (q1, .inr (7, [.ref (u1 1), .int 0])), ((u1 1), .inl (cI, 40, .inl (fun _ => 0))), (q2, .inr (2, [.int 0, .int 0, .int 0, .int 0])), (q3, .inr (4, [.int 0, .int 0, .int 0, .int 0, .int 0, .int 0, .int 0])), (q4, .inr (1, [.ref (u4 1), .ref (u4 2), .ref (u4 3), .ref (u4 4), .ref (u4 5), .ref (u4 6), .ref (u4 7), .ref (u4 8), .ref (u4 9), .ref (u4 10), .ref (u4 11), .int 0, .int 0, .int 0])), ((u4 1), .inl (cI, 24, .inl (fun _ => 0))), ((u4 2), .inl (cI, 24, .inl (fun _ => 0))), ((u4 3), .inl (cI, 24, .inl (fun _ => 0))), ((u4 4), .inl (cI, 4, .inl (fun _ => 0))), ((u4 5), .inl (cI, 96, .inl (fun _ => 0))), ((u4 6), .inl (cI, 96, .inl (fun _ => 0))), ((u4 7), .inl (cI, 96, .inl (fun _ => 0))), ((u4 8), .inl (cI, 96, .inl (fun _ => 0))), ((u4 9), .inl (cI, 24, .inl (fun _ => 0))), ((u4 10), .inl (cI, 24, .inl (fun _ => 0))), ((u4 11), .inl (cI, 24, .inl (fun _ => 0))), (q5, .inr (5, [.ref (u5 1)])), ((u5 1), .inr (8, [.ref (u5 2), .int 8, .int 0])), ((u5 2), .inl (cI, 60, .inl (fun _ => 0)))] := hD
  refine cx_putF (ci := 10) (k := 4) (v := .ref q5) (a := h0) (fs := [.ref q1, .ref q2, .ref q3, .ref q4, .null, .null, .null, .null, .null, .int 0, .int 0, .int 0]) hx hb hts hown (by decide) (kq_F (c := 10) (by decide) (40, 644) (ex_lk (by decide +kernel))).1 hK hP hD hS 0 rfl (by decide) rfl hin rfl rfl (Nat.le_of_ble_eq_true rfl) cd_Main_56 (fun H locs hP hD hS => ?_)
  have hP : va_P (dC, dI) ex_cm [(h0, .inr (10, [.ref q1, .ref q2, .ref q3, .ref q4, .ref q5, .null, .null, .null, .null, .int 0, .int 0, .int 0])), (q1, .inr (7, [.ref (u1 1), .int 0])), ((u1 1), .inl (cI, 40, .inl (fun _ => 0))), (q2, .inr (2, [.int 0, .int 0, .int 0, .int 0])), (q3, .inr (4, [.int 0, .int 0, .int 0, .int 0, .int 0, .int 0, .int 0])), (q4, .inr (1, [.ref (u4 1), .ref (u4 2), .ref (u4 3), .ref (u4 4), .ref (u4 5), .ref (u4 6), .ref (u4 7), .ref (u4 8), .ref (u4 9), .ref (u4 10), .ref (u4 11), .int 0, .int 0, .int 0])), ((u4 1), .inl (cI, 24, .inl (fun _ => 0))), ((u4 2), .inl (cI, 24, .inl (fun _ => 0))), ((u4 3), .inl (cI, 24, .inl (fun _ => 0))), ((u4 4), .inl (cI, 4, .inl (fun _ => 0))), ((u4 5), .inl (cI, 96, .inl (fun _ => 0))), ((u4 6), .inl (cI, 96, .inl (fun _ => 0))), ((u4 7), .inl (cI, 96, .inl (fun _ => 0))), ((u4 8), .inl (cI, 96, .inl (fun _ => 0))), ((u4 9), .inl (cI, 24, .inl (fun _ => 0))), ((u4 10), .inl (cI, 24, .inl (fun _ => 0))), ((u4 11), .inl (cI, 24, .inl (fun _ => 0))), (q5, .inr (5, [.ref (u5 1)])), ((u5 1), .inr (8, [.ref (u5 2), .int 8, .int 0])), ((u5 2), .inl (cI, 60, .inl (fun _ => 0)))] H := hP
  have hD : va_D A [(h0, .inr (10, [.ref q1, .ref q2, .ref q3, .ref q4, .ref q5, .null, .null, .null, .null, .int 0, .int 0, .int 0])), (q1, .inr (7, [.ref (u1 1), .int 0])), ((u1 1), .inl (cI, 40, .inl (fun _ => 0))), (q2, .inr (2, [.int 0, .int 0, .int 0, .int 0])), (q3, .inr (4, [.int 0, .int 0, .int 0, .int 0, .int 0, .int 0, .int 0])), (q4, .inr (1, [.ref (u4 1), .ref (u4 2), .ref (u4 3), .ref (u4 4), .ref (u4 5), .ref (u4 6), .ref (u4 7), .ref (u4 8), .ref (u4 9), .ref (u4 10), .ref (u4 11), .int 0, .int 0, .int 0])), ((u4 1), .inl (cI, 24, .inl (fun _ => 0))), ((u4 2), .inl (cI, 24, .inl (fun _ => 0))), ((u4 3), .inl (cI, 24, .inl (fun _ => 0))), ((u4 4), .inl (cI, 4, .inl (fun _ => 0))), ((u4 5), .inl (cI, 96, .inl (fun _ => 0))), ((u4 6), .inl (cI, 96, .inl (fun _ => 0))), ((u4 7), .inl (cI, 96, .inl (fun _ => 0))), ((u4 8), .inl (cI, 96, .inl (fun _ => 0))), ((u4 9), .inl (cI, 24, .inl (fun _ => 0))), ((u4 10), .inl (cI, 24, .inl (fun _ => 0))), ((u4 11), .inl (cI, 24, .inl (fun _ => 0))), (q5, .inr (5, [.ref (u5 1)])), ((u5 1), .inr (8, [.ref (u5 2), .int 8, .int 0])), ((u5 2), .inl (cI, 60, .inl (fun _ => 0)))] := hD
  refine lv_aload_n hx hb cd_Main_59 rfl (lv_at hl 0 rfl) ?_
  refine cx_new (ci := 0) (fs := [.null, .null, .null, .null]) (own := "BorderThroughBed") hx hb hts hown (by decide) cw_60 cw_61 cw_29 hK hP hD hS hA (by decide +kernel) (Nat.le_of_ble_eq_true rfl) (Nat.le_of_ble_eq_true rfl) cd_Main_60 (fun q6 H hP hD hS => ?_)
  refine W.widen (k := 20) (n := 667) (Nat.le_of_ble_eq_true rfl) (Nat.le_of_ble_eq_true rfl) ?_
  refine lv_dup hx hb cd_Main_63 rfl ?_
  refine cx_ctorN (As := []) (b := q6) (rest := [.ref q6, .ref h0]) (wc := [(q6, .inr (0, [.null, .null, .null, .null]))]) (wr := [(h0, .inr (10, [.ref q1, .ref q2, .ref q3, .ref q4, .ref q5, .null, .null, .null, .null, .int 0, .int 0, .int 0])), (q1, .inr (7, [.ref (u1 1), .int 0])), ((u1 1), .inl (cI, 40, .inl (fun _ => 0))), (q2, .inr (2, [.int 0, .int 0, .int 0, .int 0])), (q3, .inr (4, [.int 0, .int 0, .int 0, .int 0, .int 0, .int 0, .int 0])), (q4, .inr (1, [.ref (u4 1), .ref (u4 2), .ref (u4 3), .ref (u4 4), .ref (u4 5), .ref (u4 6), .ref (u4 7), .ref (u4 8), .ref (u4 9), .ref (u4 10), .ref (u4 11), .int 0, .int 0, .int 0])), ((u4 1), .inl (cI, 24, .inl (fun _ => 0))), ((u4 2), .inl (cI, 24, .inl (fun _ => 0))), ((u4 3), .inl (cI, 24, .inl (fun _ => 0))), ((u4 4), .inl (cI, 4, .inl (fun _ => 0))), ((u4 5), .inl (cI, 96, .inl (fun _ => 0))), ((u4 6), .inl (cI, 96, .inl (fun _ => 0))), ((u4 7), .inl (cI, 96, .inl (fun _ => 0))), ((u4 8), .inl (cI, 96, .inl (fun _ => 0))), ((u4 9), .inl (cI, 24, .inl (fun _ => 0))), ((u4 10), .inl (cI, 24, .inl (fun _ => 0))), ((u4 11), .inl (cI, 24, .inl (fun _ => 0))), (q5, .inr (5, [.ref (u5 1)])), ((u5 1), .inr (8, [.ref (u5 2), .int 8, .int 0])), ((u5 2), .inl (cI, 60, .inl (fun _ => 0)))]) (isC := [20]) (isR := [0, 1, 2, 3, 4, 5, 6, 7, 8, 9, 10, 11, 12, 13, 14, 15, 16, 17, 18, 19]) (own := "BorderThroughBed") (nL := 1) (Hm := H) hx hb hml hts hown (c_Day l dC dI cI cB q6 H.size) cw_28 cw_29 cw_30 (List.mem_of_getElem? (i := 7) (by decide +kernel)) rfl (by decide +kernel) rfl rfl ⟨Nat.le_of_ble_eq_true rfl, Nat.le_of_ble_eq_true rfl⟩ hK hN hP hD hS hA rfl rfl (by decide) (by decide) hl.1 (Nat.le_of_ble_eq_true rfl) cd_Main_64 ⟨Nat.le_of_ble_eq_true rfl, Nat.le_of_ble_eq_true rfl⟩ (fun u6 H locs hP hD hS => ?_)
  refine W.widen (k := 28) (n := 919) (Nat.le_of_ble_eq_true rfl) (Nat.le_of_ble_eq_true rfl) ?_
  have hP : va_P (dC, dI) ex_cm [(h0, .inr (10, [.ref q1, .ref q2, .ref q3, .ref q4, .ref q5, .null, .null, .null, .null, .int 0, .int 0, .int 0])), (q1, .inr (7, [.ref (u1 1), .int 0])), ((u1 1), .inl (cI, 40, .inl (fun _ => 0))), (q2, .inr (2, [.int 0, .int 0, .int 0, .int 0])), (q3, .inr (4, [.int 0, .int 0, .int 0, .int 0, .int 0, .int 0, .int 0])), (q4, .inr (1, [.ref (u4 1), .ref (u4 2), .ref (u4 3), .ref (u4 4), .ref (u4 5), .ref (u4 6), .ref (u4 7), .ref (u4 8), .ref (u4 9), .ref (u4 10), .ref (u4 11), .int 0, .int 0, .int 0])), ((u4 1), .inl (cI, 24, .inl (fun _ => 0))), ((u4 2), .inl (cI, 24, .inl (fun _ => 0))), ((u4 3), .inl (cI, 24, .inl (fun _ => 0))), ((u4 4), .inl (cI, 4, .inl (fun _ => 0))), ((u4 5), .inl (cI, 96, .inl (fun _ => 0))), ((u4 6), .inl (cI, 96, .inl (fun _ => 0))), ((u4 7), .inl (cI, 96, .inl (fun _ => 0))), ((u4 8), .inl (cI, 96, .inl (fun _ => 0))), ((u4 9), .inl (cI, 24, .inl (fun _ => 0))), ((u4 10), .inl (cI, 24, .inl (fun _ => 0))), ((u4 11), .inl (cI, 24, .inl (fun _ => 0))), (q5, .inr (5, [.ref (u5 1)])), ((u5 1), .inr (8, [.ref (u5 2), .int 8, .int 0])), ((u5 2), .inl (cI, 60, .inl (fun _ => 0))), (q6, .inr (0, [.ref (u6 1), .ref (u6 3), .ref (u6 5), .ref (u6 7)])), ((u6 1), .inr (8, [.ref (u6 2), .int 3, .int 0])), ((u6 2), .inl (cI, 60, .inl (fun _ => 0))), ((u6 3), .inr (8, [.ref (u6 4), .int 12, .int 0])), ((u6 4), .inl (cI, 60, .inl (fun _ => 0))), ((u6 5), .inr (8, [.ref (u6 6), .int 6, .int 0])), ((u6 6), .inl (cI, 60, .inl (fun _ => 0))), ((u6 7), .inr (8, [.ref (u6 8), .int 10, .int 0])), ((u6 8), .inl (cI, 60, .inl (fun _ => 0)))] H := hP
  have hD : va_D A [(h0, .inr (10, [.ref q1, .ref q2, .ref q3, .ref q4, .ref q5, .null, .null, .null, .null, .int 0, .int 0, .int 0])), (q1, .inr (7, [.ref (u1 1), .int 0])), ((u1 1), .inl (cI, 40, .inl (fun _ => 0))), (q2, .inr (2, [.int 0, .int 0, .int 0, .int 0])), (q3, .inr (4, [.int 0, .int 0, .int 0, .int 0, .int 0, .int 0, .int 0])), (q4, .inr (1, [.ref (u4 1), .ref (u4 2), .ref (u4 3), .ref (u4 4), .ref (u4 5), .ref (u4 6), .ref (u4 7), .ref (u4 8), .ref (u4 9), .ref (u4 10), .ref (u4 11), .int 0, .int 0, .int 0])), ((u4 1), .inl (cI, 24, .inl (fun _ => 0))), ((u4 2), .inl (cI, 24, .inl (fun _ => 0))), ((u4 3), .inl (cI, 24, .inl (fun _ => 0))), ((u4 4), .inl (cI, 4, .inl (fun _ => 0))), ((u4 5), .inl (cI, 96, .inl (fun _ => 0))), ((u4 6), .inl (cI, 96, .inl (fun _ => 0))), ((u4 7), .inl (cI, 96, .inl (fun _ => 0))), ((u4 8), .inl (cI, 96, .inl (fun _ => 0))), ((u4 9), .inl (cI, 24, .inl (fun _ => 0))), ((u4 10), .inl (cI, 24, .inl (fun _ => 0))), ((u4 11), .inl (cI, 24, .inl (fun _ => 0))), (q5, .inr (5, [.ref (u5 1)])), ((u5 1), .inr (8, [.ref (u5 2), .int 8, .int 0])), ((u5 2), .inl (cI, 60, .inl (fun _ => 0))), (q6, .inr (0, [.ref (u6 1), .ref (u6 3), .ref (u6 5), .ref (u6 7)])), ((u6 1), .inr (8, [.ref (u6 2), .int 3, .int 0])), ((u6 2), .inl (cI, 60, .inl (fun _ => 0))), ((u6 3), .inr (8, [.ref (u6 4), .int 12, .int 0])), ((u6 4), .inl (cI, 60, .inl (fun _ => 0))), ((u6 5), .inr (8, [.ref (u6 6), .int 6, .int 0])), ((u6 6), .inl (cI, 60, .inl (fun _ => 0))), ((u6 7), .inr (8, [.ref (u6 8), .int 10, .int 0])), ((u6 8), .inl (cI, 60, .inl (fun _ => 0)))] := hD
  refine cx_putF (ci := 10) (k := 5) (v := .ref q6) (a := h0) (fs := [.ref q1, .ref q2, .ref q3, .ref q4, .ref q5, .null, .null, .null, .null, .int 0, .int 0, .int 0]) hx hb hts hown (by decide) (kq_F (c := 10) (by decide) (47, 645) (ex_lk (by decide +kernel))).1 hK hP hD hS 0 rfl (by decide) rfl hin rfl rfl (Nat.le_of_ble_eq_true rfl) cd_Main_67 (fun H locs hP hD hS => ?_)
  have hP : va_P (dC, dI) ex_cm [(h0, .inr (10, [.ref q1, .ref q2, .ref q3, .ref q4, .ref q5, .ref q6, .null, .null, .null, .int 0, .int 0, .int 0])), (q1, .inr (7, [.ref (u1 1), .int 0])), ((u1 1), .inl (cI, 40, .inl (fun _ => 0))), (q2, .inr (2, [.int 0, .int 0, .int 0, .int 0])), (q3, .inr (4, [.int 0, .int 0, .int 0, .int 0, .int 0, .int 0, .int 0])), (q4, .inr (1, [.ref (u4 1), .ref (u4 2), .ref (u4 3), .ref (u4 4), .ref (u4 5), .ref (u4 6), .ref (u4 7), .ref (u4 8), .ref (u4 9), .ref (u4 10), .ref (u4 11), .int 0, .int 0, .int 0])), ((u4 1), .inl (cI, 24, .inl (fun _ => 0))), ((u4 2), .inl (cI, 24, .inl (fun _ => 0))), ((u4 3), .inl (cI, 24, .inl (fun _ => 0))), ((u4 4), .inl (cI, 4, .inl (fun _ => 0))), ((u4 5), .inl (cI, 96, .inl (fun _ => 0))), ((u4 6), .inl (cI, 96, .inl (fun _ => 0))), ((u4 7), .inl (cI, 96, .inl (fun _ => 0))), ((u4 8), .inl (cI, 96, .inl (fun _ => 0))), ((u4 9), .inl (cI, 24, .inl (fun _ => 0))), ((u4 10), .inl (cI, 24, .inl (fun _ => 0))), ((u4 11), .inl (cI, 24, .inl (fun _ => 0))), (q5, .inr (5, [.ref (u5 1)])), ((u5 1), .inr (8, [.ref (u5 2), .int 8, .int 0])), ((u5 2), .inl (cI, 60, .inl (fun _ => 0))), (q6, .inr (0, [.ref (u6 1), .ref (u6 3), .ref (u6 5), .ref (u6 7)])), ((u6 1), .inr (8, [.ref (u6 2), .int 3, .int 0])), ((u6 2), .inl (cI, 60, .inl (fun _ => 0))), ((u6 3), .inr (8, [.ref (u6 4), .int 12, .int 0])), ((u6 4), .inl (cI, 60, .inl (fun _ => 0))), ((u6 5), .inr (8, [.ref (u6 6), .int 6, .int 0])), ((u6 6), .inl (cI, 60, .inl (fun _ => 0))), ((u6 7), .inr (8, [.ref (u6 8), .int 10, .int 0])), ((u6 8), .inl (cI, 60, .inl (fun _ => 0)))] H := hP
  have hD : va_D A [(h0, .inr (10, [.ref q1, .ref q2, .ref q3, .ref q4, .ref q5, .ref q6, .null, .null, .null, .int 0, .int 0, .int 0])), (q1, .inr (7, [.ref (u1 1), .int 0])), ((u1 1), .inl (cI, 40, .inl (fun _ => 0))), (q2, .inr (2, [.int 0, .int 0, .int 0, .int 0])), (q3, .inr (4, [.int 0, .int 0, .int 0, .int 0, .int 0, .int 0, .int 0])), (q4, .inr (1, [.ref (u4 1), .ref (u4 2), .ref (u4 3), .ref (u4 4), .ref (u4 5), .ref (u4 6), .ref (u4 7), .ref (u4 8), .ref (u4 9), .ref (u4 10), .ref (u4 11), .int 0, .int 0, .int 0])), ((u4 1), .inl (cI, 24, .inl (fun _ => 0))), ((u4 2), .inl (cI, 24, .inl (fun _ => 0))), ((u4 3), .inl (cI, 24, .inl (fun _ => 0))), ((u4 4), .inl (cI, 4, .inl (fun _ => 0))), ((u4 5), .inl (cI, 96, .inl (fun _ => 0))), ((u4 6), .inl (cI, 96, .inl (fun _ => 0))), ((u4 7), .inl (cI, 96, .inl (fun _ => 0))), ((u4 8), .inl (cI, 96, .inl (fun _ => 0))), ((u4 9), .inl (cI, 24, .inl (fun _ => 0))), ((u4 10), .inl (cI, 24, .inl (fun _ => 0))), ((u4 11), .inl (cI, 24, .inl (fun _ => 0))), (q5, .inr (5, [.ref (u5 1)])), ((u5 1), .inr (8, [.ref (u5 2), .int 8, .int 0])), ((u5 2), .inl (cI, 60, .inl (fun _ => 0))), (q6, .inr (0, [.ref (u6 1), .ref (u6 3), .ref (u6 5), .ref (u6 7)])), ((u6 1), .inr (8, [.ref (u6 2), .int 3, .int 0])), ((u6 2), .inl (cI, 60, .inl (fun _ => 0))), ((u6 3), .inr (8, [.ref (u6 4), .int 12, .int 0])), ((u6 4), .inl (cI, 60, .inl (fun _ => 0))), ((u6 5), .inr (8, [.ref (u6 6), .int 6, .int 0])), ((u6 6), .inl (cI, 60, .inl (fun _ => 0))), ((u6 7), .inr (8, [.ref (u6 8), .int 10, .int 0])), ((u6 8), .inl (cI, 60, .inl (fun _ => 0)))] := hD
  refine lv_aload_n hx hb cd_Main_70 rfl (lv_at hl 0 rfl) ?_
  refine cx_new (ci := 0) (fs := [.null, .null, .null, .null]) (own := "BorderThroughBed") hx hb hts hown (by decide) cw_60 cw_61 cw_29 hK hP hD hS hA (by decide +kernel) (Nat.le_of_ble_eq_true rfl) (Nat.le_of_ble_eq_true rfl) cd_Main_71 (fun q7 H hP hD hS => ?_)
  refine W.widen (k := 29) (n := 923) (Nat.le_of_ble_eq_true rfl) (Nat.le_of_ble_eq_true rfl) ?_
  refine lv_dup hx hb cd_Main_74 rfl ?_
  refine cx_ctorN (As := []) (b := q7) (rest := [.ref q7, .ref h0]) (wc := [(q7, .inr (0, [.null, .null, .null, .null]))]) (wr := [(h0, .inr (10, [.ref q1, .ref q2, .ref q3, .ref q4, .ref q5, .ref q6, .null, .null, .null, .int 0, .int 0, .int 0])), (q1, .inr (7, [.ref (u1 1), .int 0])), ((u1 1), .inl (cI, 40, .inl (fun _ => 0))), (q2, .inr (2, [.int 0, .int 0, .int 0, .int 0])), (q3, .inr (4, [.int 0, .int 0, .int 0, .int 0, .int 0, .int 0, .int 0])), (q4, .inr (1, [.ref (u4 1), .ref (u4 2), .ref (u4 3), .ref (u4 4), .ref (u4 5), .ref (u4 6), .ref (u4 7), .ref (u4 8), .ref (u4 9), .ref (u4 10), .ref (u4 11), .int 0, .int 0, .int 0])), ((u4 1), .inl (cI, 24, .inl (fun _ => 0))), ((u4 2), .inl (cI, 24, .inl (fun _ => 0))), ((u4 3), .inl (cI, 24, .inl (fun _ => 0))), ((u4 4), .inl (cI, 4, .inl (fun _ => 0))), ((u4 5), .inl (cI, 96, .inl (fun _ => 0))), ((u4 6), .inl (cI, 96, .inl (fun _ => 0))), ((u4 7), .inl (cI, 96, .inl (fun _ => 0))), ((u4 8), .inl (cI, 96, .inl (fun _ => 0))), ((u4 9), .inl (cI, 24, .inl (fun _ => 0))), ((u4 10), .inl (cI, 24, .inl (fun _ => 0))), ((u4 11), .inl (cI, 24, .inl (fun _ => 0))), (q5, .inr (5, [.ref (u5 1)])), ((u5 1), .inr (8, [.ref (u5 2), .int 8, .int 0])), ((u5 2), .inl (cI, 60, .inl (fun _ => 0))), (q6, .inr (0, [.ref (u6 1), .ref (u6 3), .ref (u6 5), .ref (u6 7)])), ((u6 1), .inr (8, [.ref (u6 2), .int 3, .int 0])), ((u6 2), .inl (cI, 60, .inl (fun _ => 0))), ((u6 3), .inr (8, [.ref (u6 4), .int 12, .int 0])), ((u6 4), .inl (cI, 60, .inl (fun _ => 0))), ((u6 5), .inr (8, [.ref (u6 6), .int 6, .int 0])), ((u6 6), .inl (cI, 60, .inl (fun _ => 0))), ((u6 7), .inr (8, [.ref (u6 8), .int 10, .int 0])), ((u6 8), .inl (cI, 60, .inl (fun _ => 0)))]) (isC := [29]) (isR := [0, 1, 2, 3, 4, 5, 6, 7, 8, 9, 10, 11, 12, 13, 14, 15, 16, 17, 18, 19, 20, 21, 22, 23, 24, 25, 26, 27, 28]) (own := "BorderThroughBed") (nL := 1) (Hm := H) hx hb hml hts hown (c_Day l dC dI cI cB q7 H.size) cw_28 cw_29 cw_30 (List.mem_of_getElem? (i := 7) (by decide +kernel)) rfl (by decide +kernel) rfl rfl ⟨Nat.le_of_ble_eq_true rfl, Nat.le_of_ble_eq_true rfl⟩ hK hN hP hD hS hA rfl rfl (by decide) (by decide) hl.1 (Nat.le_of_ble_eq_true rfl) cd_Main_75 ⟨Nat.le_of_ble_eq_true rfl, Nat.le_of_ble_eq_true rfl⟩ (fun u7 H locs hP hD hS => ?_)
  refine W.widen (k := 37) (n := 1175) (Nat.le_of_ble_eq_true rfl) (Nat.le_of_ble_eq_true rfl) ?_
  have hP : va_P (dC, dI) ex_cm [(h0, .inr (10, [.ref q1, .ref q2, .ref q3, .ref q4, .ref q5, .ref q6, .null, .null, .null, .int 0, .int 0, .int 0])), (q1, .inr (7, [.ref (u1 1), .int 0])), ((u1 1), .inl (cI, 40, .inl (fun _ => 0))), (q2, .inr (2, [.int 0, .int 0, .int 0, .int 0])), (q3, .inr (4, [.int 0, .int 0, .int 0, .int 0, .int 0, .int 0, .int 0])), (q4, .inr (1, [.ref (u4 1), .ref (u4 2), .ref (u4 3), .ref (u4 4), .ref (u4 5), .ref (u4 6), .ref (u4 7), .ref (u4 8), .ref (u4 9), .ref (u4 10), .ref (u4 11), .int 0, .int 0, .int 0])), ((u4 1), .inl (cI, 24, .inl (fun _ => 0))), ((u4 2), .inl (cI, 24, .inl (fun _ => 0))), ((u4 3), .inl (cI, 24, .inl (fun _ => 0))), ((u4 4), .inl (cI, 4, .inl (fun _ => 0))), ((u4 5), .inl (cI, 96, .inl (fun _ => 0))), ((u4 6), .inl (cI, 96, .inl (fun _ => 0))), ((u4 7), .inl (cI, 96, .inl (fun _ => 0))), ((u4 8), .inl (cI, 96, .inl (fun _ => 0))), ((u4 9), .inl (cI, 24, .inl (fun _ => 0))), ((u4 10), .inl (cI, 24, .inl (fun _ => 0))), ((u4 11), .inl (cI, 24, .inl (fun _ => 0))), (q5, .inr (5, [.ref (u5 1)])), ((u5 1), .inr (8, [.ref (u5 2), .int 8, .int 0])), ((u5 2), .inl (cI, 60, .inl (fun _ => 0))), (q6, .inr (0, [.ref (u6 1), .ref (u6 3), .ref (u6 5), .ref (u6 7)])), ((u6 1), .inr (8, [.ref (u6 2), .int 3, .int 0])), ((u6 2), .inl (cI, 60, .inl (fun _ => 0))), ((u6 3), .inr (8, [.ref (u6 4), .int 12, .int 0])), ((u6 4), .inl (cI, 60, .inl (fun _ => 0))), ((u6 5), .inr (8, [.ref (u6 6), .int 6, .int 0])), ((u6 6), .inl (cI, 60, .inl (fun _ => 0))), ((u6 7), .inr (8, [.ref (u6 8), .int 10, .int 0])), ((u6 8), .inl (cI, 60, .inl (fun _ => 0))), (q7, .inr (0, [.ref (u7 1), .ref (u7 3), .ref (u7 5), .ref (u7 7)])), ((u7 1), .inr (8, [.ref (u7 2), .int 3, .int 0])), ((u7 2), .inl (cI, 60, .inl (fun _ => 0))), ((u7 3), .inr (8, [.ref (u7 4), .int 12, .int 0])), ((u7 4), .inl (cI, 60, .inl (fun _ => 0))), ((u7 5), .inr (8, [.ref (u7 6), .int 6, .int 0])), ((u7 6), .inl (cI, 60, .inl (fun _ => 0))), ((u7 7), .inr (8, [.ref (u7 8), .int 10, .int 0])), ((u7 8), .inl (cI, 60, .inl (fun _ => 0)))] H := hP
  have hD : va_D A [(h0, .inr (10, [.ref q1, .ref q2, .ref q3, .ref q4, .ref q5, .ref q6, .null, .null, .null, .int 0, .int 0, .int 0])), (q1, .inr (7, [.ref (u1 1), .int 0])), ((u1 1), .inl (cI, 40, .inl (fun _ => 0))), (q2, .inr (2, [.int 0, .int 0, .int 0, .int 0])), (q3, .inr (4, [.int 0, .int 0, .int 0, .int 0, .int 0, .int 0, .int 0])), (q4, .inr (1, [.ref (u4 1), .ref (u4 2), .ref (u4 3), .ref (u4 4), .ref (u4 5), .ref (u4 6), .ref (u4 7), .ref (u4 8), .ref (u4 9), .ref (u4 10), .ref (u4 11), .int 0, .int 0, .int 0])), ((u4 1), .inl (cI, 24, .inl (fun _ => 0))), ((u4 2), .inl (cI, 24, .inl (fun _ => 0))), ((u4 3), .inl (cI, 24, .inl (fun _ => 0))), ((u4 4), .inl (cI, 4, .inl (fun _ => 0))), ((u4 5), .inl (cI, 96, .inl (fun _ => 0))), ((u4 6), .inl (cI, 96, .inl (fun _ => 0))), ((u4 7), .inl (cI, 96, .inl (fun _ => 0))), ((u4 8), .inl (cI, 96, .inl (fun _ => 0))), ((u4 9), .inl (cI, 24, .inl (fun _ => 0))), ((u4 10), .inl (cI, 24, .inl (fun _ => 0))), ((u4 11), .inl (cI, 24, .inl (fun _ => 0))), (q5, .inr (5, [.ref (u5 1)])), ((u5 1), .inr (8, [.ref (u5 2), .int 8, .int 0])), ((u5 2), .inl (cI, 60, .inl (fun _ => 0))), (q6, .inr (0, [.ref (u6 1), .ref (u6 3), .ref (u6 5), .ref (u6 7)])), ((u6 1), .inr (8, [.ref (u6 2), .int 3, .int 0])), ((u6 2), .inl (cI, 60, .inl (fun _ => 0))), ((u6 3), .inr (8, [.ref (u6 4), .int 12, .int 0])), ((u6 4), .inl (cI, 60, .inl (fun _ => 0))), ((u6 5), .inr (8, [.ref (u6 6), .int 6, .int 0])), ((u6 6), .inl (cI, 60, .inl (fun _ => 0))), ((u6 7), .inr (8, [.ref (u6 8), .int 10, .int 0])), ((u6 8), .inl (cI, 60, .inl (fun _ => 0))), (q7, .inr (0, [.ref (u7 1), .ref (u7 3), .ref (u7 5), .ref (u7 7)])), ((u7 1), .inr (8, [.ref (u7 2), .int 3, .int 0])), ((u7 2), .inl (cI, 60, .inl (fun _ => 0))), ((u7 3), .inr (8, [.ref (u7 4), .int 12, .int 0])), ((u7 4), .inl (cI, 60, .inl (fun _ => 0))), ((u7 5), .inr (8, [.ref (u7 6), .int 6, .int 0])), ((u7 6), .inl (cI, 60, .inl (fun _ => 0))), ((u7 7), .inr (8, [.ref (u7 8), .int 10, .int 0])), ((u7 8), .inl (cI, 60, .inl (fun _ => 0)))] := hD
  refine cx_putF (ci := 10) (k := 6) (v := .ref q7) (a := h0) (fs := [.ref q1, .ref q2, .ref q3, .ref q4, .ref q5, .ref q6, .null, .null, .null, .int 0, .int 0, .int 0]) hx hb hts hown (by decide) (kq_F (c := 10) (by decide) (51, 646) (ex_lk (by decide +kernel))).1 hK hP hD hS 0 rfl (by decide) rfl hin rfl rfl (Nat.le_of_ble_eq_true rfl) cd_Main_78 (fun H locs hP hD hS => ?_)
  have hP : va_P (dC, dI) ex_cm [(h0, .inr (10, [.ref q1, .ref q2, .ref q3, .ref q4, .ref q5, .ref q6, .ref q7, .null, .null, .int 0, .int 0, .int 0])), (q1, .inr (7, [.ref (u1 1), .int 0])), ((u1 1), .inl (cI, 40, .inl (fun _ => 0))), (q2, .inr (2, [.int 0, .int 0, .int 0, .int 0])), (q3, .inr (4, [.int 0, .int 0, .int 0, .int 0, .int 0, .int 0, .int 0])), (q4, .inr (1, [.ref (u4 1), .ref (u4 2), .ref (u4 3), .ref (u4 4), .ref (u4 5), .ref (u4 6), .ref (u4 7), .ref (u4 8), .ref (u4 9), .ref (u4 10), .ref (u4 11), .int 0, .int 0, .int 0])), ((u4 1), .inl (cI, 24, .inl (fun _ => 0))), ((u4 2), .inl (cI, 24, .inl (fun _ => 0))), ((u4 3), .inl (cI, 24, .inl (fun _ => 0))), ((u4 4), .inl (cI, 4, .inl (fun _ => 0))), ((u4 5), .inl (cI, 96, .inl (fun _ => 0))), ((u4 6), .inl (cI, 96, .inl (fun _ => 0))), ((u4 7), .inl (cI, 96, .inl (fun _ => 0))), ((u4 8), .inl (cI, 96, .inl (fun _ => 0))), ((u4 9), .inl (cI, 24, .inl (fun _ => 0))), ((u4 10), .inl (cI, 24, .inl (fun _ => 0))), ((u4 11), .inl (cI, 24, .inl (fun _ => 0))), (q5, .inr (5, [.ref (u5 1)])), ((u5 1), .inr (8, [.ref (u5 2), .int 8, .int 0])), ((u5 2), .inl (cI, 60, .inl (fun _ => 0))), (q6, .inr (0, [.ref (u6 1), .ref (u6 3), .ref (u6 5), .ref (u6 7)])), ((u6 1), .inr (8, [.ref (u6 2), .int 3, .int 0])), ((u6 2), .inl (cI, 60, .inl (fun _ => 0))), ((u6 3), .inr (8, [.ref (u6 4), .int 12, .int 0])), ((u6 4), .inl (cI, 60, .inl (fun _ => 0))), ((u6 5), .inr (8, [.ref (u6 6), .int 6, .int 0])), ((u6 6), .inl (cI, 60, .inl (fun _ => 0))), ((u6 7), .inr (8, [.ref (u6 8), .int 10, .int 0])), ((u6 8), .inl (cI, 60, .inl (fun _ => 0))), (q7, .inr (0, [.ref (u7 1), .ref (u7 3), .ref (u7 5), .ref (u7 7)])), ((u7 1), .inr (8, [.ref (u7 2), .int 3, .int 0])), ((u7 2), .inl (cI, 60, .inl (fun _ => 0))), ((u7 3), .inr (8, [.ref (u7 4), .int 12, .int 0])), ((u7 4), .inl (cI, 60, .inl (fun _ => 0))), ((u7 5), .inr (8, [.ref (u7 6), .int 6, .int 0])), ((u7 6), .inl (cI, 60, .inl (fun _ => 0))), ((u7 7), .inr (8, [.ref (u7 8), .int 10, .int 0])), ((u7 8), .inl (cI, 60, .inl (fun _ => 0)))] H := hP
  have hD : va_D A [(h0, .inr (10, [.ref q1, .ref q2, .ref q3, .ref q4, .ref q5, .ref q6, .ref q7, .null, .null, .int 0, .int 0, .int 0])), (q1, .inr (7, [.ref (u1 1), .int 0])), ((u1 1), .inl (cI, 40, .inl (fun _ => 0))), (q2, .inr (2, [.int 0, .int 0, .int 0, .int 0])), (q3, .inr (4, [.int 0, .int 0, .int 0, .int 0, .int 0, .int 0, .int 0])), (q4, .inr (1, [.ref (u4 1), .ref (u4 2), .ref (u4 3), .ref (u4 4), .ref (u4 5), .ref (u4 6), .ref (u4 7), .ref (u4 8), .ref (u4 9), .ref (u4 10), .ref (u4 11), .int 0, .int 0, .int 0])), ((u4 1), .inl (cI, 24, .inl (fun _ => 0))), ((u4 2), .inl (cI, 24, .inl (fun _ => 0))), ((u4 3), .inl (cI, 24, .inl (fun _ => 0))), ((u4 4), .inl (cI, 4, .inl (fun _ => 0))), ((u4 5), .inl (cI, 96, .inl (fun _ => 0))), ((u4 6), .inl (cI, 96, .inl (fun _ => 0))), ((u4 7), .inl (cI, 96, .inl (fun _ => 0))), ((u4 8), .inl (cI, 96, .inl (fun _ => 0))), ((u4 9), .inl (cI, 24, .inl (fun _ => 0))), ((u4 10), .inl (cI, 24, .inl (fun _ => 0))), ((u4 11), .inl (cI, 24, .inl (fun _ => 0))), (q5, .inr (5, [.ref (u5 1)])), ((u5 1), .inr (8, [.ref (u5 2), .int 8, .int 0])), ((u5 2), .inl (cI, 60, .inl (fun _ => 0))), (q6, .inr (0, [.ref (u6 1), .ref (u6 3), .ref (u6 5), .ref (u6 7)])), ((u6 1), .inr (8, [.ref (u6 2), .int 3, .int 0])), ((u6 2), .inl (cI, 60, .inl (fun _ => 0))), ((u6 3), .inr (8, [.ref (u6 4), .int 12, .int 0])), ((u6 4), .inl (cI, 60, .inl (fun _ => 0))), ((u6 5), .inr (8, [.ref (u6 6), .int 6, .int 0])), ((u6 6), .inl (cI, 60, .inl (fun _ => 0))), ((u6 7), .inr (8, [.ref (u6 8), .int 10, .int 0])), ((u6 8), .inl (cI, 60, .inl (fun _ => 0))), (q7, .inr (0, [.ref (u7 1), .ref (u7 3), .ref (u7 5), .ref (u7 7)])), ((u7 1), .inr (8, [.ref (u7 2), .int 3, .int 0])), ((u7 2), .inl (cI, 60, .inl (fun _ => 0))), ((u7 3), .inr (8, [.ref (u7 4), .int 12, .int 0])), ((u7 4), .inl (cI, 60, .inl (fun _ => 0))), ((u7 5), .inr (8, [.ref (u7 6), .int 6, .int 0])), ((u7 6), .inl (cI, 60, .inl (fun _ => 0))), ((u7 7), .inr (8, [.ref (u7 8), .int 10, .int 0])), ((u7 8), .inl (cI, 60, .inl (fun _ => 0)))] := hD
  refine lv_aload_n hx hb cd_Main_81 rfl (lv_at hl 0 rfl) ?_
  refine cx_new (ci := 3) (fs := [.null, .null, .int 0]) (own := "BorderThroughBed") hx hb hts hown (by decide) cw_62 cw_63 cw_39 hK hP hD hS hA (by decide +kernel) (Nat.le_of_ble_eq_true rfl) (Nat.le_of_ble_eq_true rfl) cd_Main_82 (fun q8 H hP hD hS => ?_)
  refine W.widen (k := 38) (n := 1178) (Nat.le_of_ble_eq_true rfl) (Nat.le_of_ble_eq_true rfl) ?_
  refine lv_dup hx hb cd_Main_85 rfl ?_
  refine cx_ctorN (As := []) (b := q8) (rest := [.ref q8, .ref h0]) (wc := [(q8, .inr (3, [.null, .null, .int 0]))]) (wr := [(h0, .inr (10, [.ref q1, .ref q2, .ref q3, .ref q4, .ref q5, .ref q6, .ref q7, .null, .null, .int 0, .int 0, .int 0])), (q1, .inr (7, [.ref (u1 1), .int 0])), ((u1 1), .inl (cI, 40, .inl (fun _ => 0))), (q2, .inr (2, [.int 0, .int 0, .int 0, .int 0])), (q3, .inr (4, [.int 0, .int 0, .int 0, .int 0, .int 0, .int 0, .int 0])), (q4, .inr (1, [.ref (u4 1), .ref (u4 2), .ref (u4 3), .ref (u4 4), .ref (u4 5), .ref (u4 6), .ref (u4 7), .ref (u4 8), .ref (u4 9), .ref (u4 10), .ref (u4 11), .int 0, .int 0, .int 0])), ((u4 1), .inl (cI, 24, .inl (fun _ => 0))), ((u4 2), .inl (cI, 24, .inl (fun _ => 0))), ((u4 3), .inl (cI, 24, .inl (fun _ => 0))), ((u4 4), .inl (cI, 4, .inl (fun _ => 0))), ((u4 5), .inl (cI, 96, .inl (fun _ => 0))), ((u4 6), .inl (cI, 96, .inl (fun _ => 0))), ((u4 7), .inl (cI, 96, .inl (fun _ => 0))), ((u4 8), .inl (cI, 96, .inl (fun _ => 0))), ((u4 9), .inl (cI, 24, .inl (fun _ => 0))), ((u4 10), .inl (cI, 24, .inl (fun _ => 0))), ((u4 11), .inl (cI, 24, .inl (fun _ => 0))), (q5, .inr (5, [.ref (u5 1)])), ((u5 1), .inr (8, [.ref (u5 2), .int 8, .int 0])), ((u5 2), .inl (cI, 60, .inl (fun _ => 0))), (q6, .inr (0, [.ref (u6 1), .ref (u6 3), .ref (u6 5), .ref (u6 7)])), ((u6 1), .inr (8, [.ref (u6 2), .int 3, .int 0])), ((u6 2), .inl (cI, 60, .inl (fun _ => 0))), ((u6 3), .inr (8, [.ref (u6 4), .int 12, .int 0])), ((u6 4), .inl (cI, 60, .inl (fun _ => 0))), ((u6 5), .inr (8, [.ref (u6 6), .int 6, .int 0])), ((u6 6), .inl (cI, 60, .inl (fun _ => 0))), ((u6 7), .inr (8, [.ref (u6 8), .int 10, .int 0])), ((u6 8), .inl (cI, 60, .inl (fun _ => 0))), (q7, .inr (0, [.ref (u7 1), .ref (u7 3), .ref (u7 5), .ref (u7 7)])), ((u7 1), .inr (8, [.ref (u7 2), .int 3, .int 0])), ((u7 2), .inl (cI, 60, .inl (fun _ => 0))), ((u7 3), .inr (8, [.ref (u7 4), .int 12, .int 0])), ((u7 4), .inl (cI, 60, .inl (fun _ => 0))), ((u7 5), .inr (8, [.ref (u7 6), .int 6, .int 0])), ((u7 6), .inl (cI, 60, .inl (fun _ => 0))), ((u7 7), .inr (8, [.ref (u7 8), .int 10, .int 0])), ((u7 8), .inl (cI, 60, .inl (fun _ => 0)))]) (isC := [38]) (isR := [0, 1, 2, 3, 4, 5, 6, 7, 8, 9, 10, 11, 12, 13, 14, 15, 16, 17, 18, 19, 20, 21, 22, 23, 24, 25, 26, 27, 28, 29, 30, 31, 32, 33, 34, 35, 36, 37]) (own := "BorderThroughBed") (nL := 1) (Hm := H) hx hb hml hts hown (c_Keeping l dC dI cI cB q8 H.size) cw_38 cw_39 cw_40 (List.mem_of_getElem? (i := 8) (by decide +kernel)) rfl (by decide +kernel) rfl rfl ⟨Nat.le_of_ble_eq_true rfl, Nat.le_of_ble_eq_true rfl⟩ hK hN hP hD hS hA rfl rfl (by decide) (by decide) hl.1 (Nat.le_of_ble_eq_true rfl) cd_Main_86 ⟨Nat.le_of_ble_eq_true rfl, Nat.le_of_ble_eq_true rfl⟩ (fun u8 H locs hP hD hS => ?_)
  refine W.widen (k := 40) (n := 1328) (Nat.le_of_ble_eq_true rfl) (Nat.le_of_ble_eq_true rfl) ?_
  have hP : va_P (dC, dI) ex_cm [(h0, .inr (10, [.ref q1, .ref q2, .ref q3, .ref q4, .ref q5, .ref q6, .ref q7, .null, .null, .int 0, .int 0, .int 0])), (q1, .inr (7, [.ref (u1 1), .int 0])), ((u1 1), .inl (cI, 40, .inl (fun _ => 0))), (q2, .inr (2, [.int 0, .int 0, .int 0, .int 0])), (q3, .inr (4, [.int 0, .int 0, .int 0, .int 0, .int 0, .int 0, .int 0])), (q4, .inr (1, [.ref (u4 1), .ref (u4 2), .ref (u4 3), .ref (u4 4), .ref (u4 5), .ref (u4 6), .ref (u4 7), .ref (u4 8), .ref (u4 9), .ref (u4 10), .ref (u4 11), .int 0, .int 0, .int 0])), ((u4 1), .inl (cI, 24, .inl (fun _ => 0))), ((u4 2), .inl (cI, 24, .inl (fun _ => 0))), ((u4 3), .inl (cI, 24, .inl (fun _ => 0))), ((u4 4), .inl (cI, 4, .inl (fun _ => 0))), ((u4 5), .inl (cI, 96, .inl (fun _ => 0))), ((u4 6), .inl (cI, 96, .inl (fun _ => 0))), ((u4 7), .inl (cI, 96, .inl (fun _ => 0))), ((u4 8), .inl (cI, 96, .inl (fun _ => 0))), ((u4 9), .inl (cI, 24, .inl (fun _ => 0))), ((u4 10), .inl (cI, 24, .inl (fun _ => 0))), ((u4 11), .inl (cI, 24, .inl (fun _ => 0))), (q5, .inr (5, [.ref (u5 1)])), ((u5 1), .inr (8, [.ref (u5 2), .int 8, .int 0])), ((u5 2), .inl (cI, 60, .inl (fun _ => 0))), (q6, .inr (0, [.ref (u6 1), .ref (u6 3), .ref (u6 5), .ref (u6 7)])), ((u6 1), .inr (8, [.ref (u6 2), .int 3, .int 0])), ((u6 2), .inl (cI, 60, .inl (fun _ => 0))), ((u6 3), .inr (8, [.ref (u6 4), .int 12, .int 0])), ((u6 4), .inl (cI, 60, .inl (fun _ => 0))), ((u6 5), .inr (8, [.ref (u6 6), .int 6, .int 0])), ((u6 6), .inl (cI, 60, .inl (fun _ => 0))), ((u6 7), .inr (8, [.ref (u6 8), .int 10, .int 0])), ((u6 8), .inl (cI, 60, .inl (fun _ => 0))), (q7, .inr (0, [.ref (u7 1), .ref (u7 3), .ref (u7 5), .ref (u7 7)])), ((u7 1), .inr (8, [.ref (u7 2), .int 3, .int 0])), ((u7 2), .inl (cI, 60, .inl (fun _ => 0))), ((u7 3), .inr (8, [.ref (u7 4), .int 12, .int 0])), ((u7 4), .inl (cI, 60, .inl (fun _ => 0))), ((u7 5), .inr (8, [.ref (u7 6), .int 6, .int 0])), ((u7 6), .inl (cI, 60, .inl (fun _ => 0))), ((u7 7), .inr (8, [.ref (u7 8), .int 10, .int 0])), ((u7 8), .inl (cI, 60, .inl (fun _ => 0))), (q8, .inr (3, [.ref (u8 1), .ref (u8 2), .int 0])), ((u8 1), .inl (cI, 6, .inl (fun _ => 0))), ((u8 2), .inl (cI, 144, .inl (fun _ => 0)))] H := hP
  have hD : va_D A [(h0, .inr (10, [.ref q1, .ref q2, .ref q3, .ref q4, .ref q5, .ref q6, .ref q7, .null, .null, .int 0, .int 0, .int 0])), (q1, .inr (7, [.ref (u1 1), .int 0])), ((u1 1), .inl (cI, 40, .inl (fun _ => 0))), (q2, .inr (2, [.int 0, .int 0, .int 0, .int 0])), (q3, .inr (4, [.int 0, .int 0, .int 0, .int 0, .int 0, .int 0, .int 0])), (q4, .inr (1, [.ref (u4 1), .ref (u4 2), .ref (u4 3), .ref (u4 4), .ref (u4 5), .ref (u4 6), .ref (u4 7), .ref (u4 8), .ref (u4 9), .ref (u4 10), .ref (u4 11), .int 0, .int 0, .int 0])), ((u4 1), .inl (cI, 24, .inl (fun _ => 0))), ((u4 2), .inl (cI, 24, .inl (fun _ => 0))), ((u4 3), .inl (cI, 24, .inl (fun _ => 0))), ((u4 4), .inl (cI, 4, .inl (fun _ => 0))), ((u4 5), .inl (cI, 96, .inl (fun _ => 0))), ((u4 6), .inl (cI, 96, .inl (fun _ => 0))), ((u4 7), .inl (cI, 96, .inl (fun _ => 0))), ((u4 8), .inl (cI, 96, .inl (fun _ => 0))), ((u4 9), .inl (cI, 24, .inl (fun _ => 0))), ((u4 10), .inl (cI, 24, .inl (fun _ => 0))), ((u4 11), .inl (cI, 24, .inl (fun _ => 0))), (q5, .inr (5, [.ref (u5 1)])), ((u5 1), .inr (8, [.ref (u5 2), .int 8, .int 0])), ((u5 2), .inl (cI, 60, .inl (fun _ => 0))), (q6, .inr (0, [.ref (u6 1), .ref (u6 3), .ref (u6 5), .ref (u6 7)])), ((u6 1), .inr (8, [.ref (u6 2), .int 3, .int 0])), ((u6 2), .inl (cI, 60, .inl (fun _ => 0))), ((u6 3), .inr (8, [.ref (u6 4), .int 12, .int 0])), ((u6 4), .inl (cI, 60, .inl (fun _ => 0))), ((u6 5), .inr (8, [.ref (u6 6), .int 6, .int 0])), ((u6 6), .inl (cI, 60, .inl (fun _ => 0))), ((u6 7), .inr (8, [.ref (u6 8), .int 10, .int 0])), ((u6 8), .inl (cI, 60, .inl (fun _ => 0))), (q7, .inr (0, [.ref (u7 1), .ref (u7 3), .ref (u7 5), .ref (u7 7)])), ((u7 1), .inr (8, [.ref (u7 2), .int 3, .int 0])), ((u7 2), .inl (cI, 60, .inl (fun _ => 0))), ((u7 3), .inr (8, [.ref (u7 4), .int 12, .int 0])), ((u7 4), .inl (cI, 60, .inl (fun _ => 0))), ((u7 5), .inr (8, [.ref (u7 6), .int 6, .int 0])), ((u7 6), .inl (cI, 60, .inl (fun _ => 0))), ((u7 7), .inr (8, [.ref (u7 8), .int 10, .int 0])), ((u7 8), .inl (cI, 60, .inl (fun _ => 0))), (q8, .inr (3, [.ref (u8 1), .ref (u8 2), .int 0])), ((u8 1), .inl (cI, 6, .inl (fun _ => 0))), ((u8 2), .inl (cI, 144, .inl (fun _ => 0)))] := hD
  refine cx_putF (ci := 10) (k := 7) (v := .ref q8) (a := h0) (fs := [.ref q1, .ref q2, .ref q3, .ref q4, .ref q5, .ref q6, .ref q7, .null, .null, .int 0, .int 0, .int 0]) hx hb hts hown (by decide) (kq_F (c := 10) (by decide) (57, 647) (ex_lk (by decide +kernel))).1 hK hP hD hS 0 rfl (by decide) rfl hin rfl rfl (Nat.le_of_ble_eq_true rfl) cd_Main_89 (fun H locs hP hD hS => ?_)
  have hP : va_P (dC, dI) ex_cm [(h0, .inr (10, [.ref q1, .ref q2, .ref q3, .ref q4, .ref q5, .ref q6, .ref q7, .ref q8, .null, .int 0, .int 0, .int 0])), (q1, .inr (7, [.ref (u1 1), .int 0])), ((u1 1), .inl (cI, 40, .inl (fun _ => 0))), (q2, .inr (2, [.int 0, .int 0, .int 0, .int 0])), (q3, .inr (4, [.int 0, .int 0, .int 0, .int 0, .int 0, .int 0, .int 0])), (q4, .inr (1, [.ref (u4 1), .ref (u4 2), .ref (u4 3), .ref (u4 4), .ref (u4 5), .ref (u4 6), .ref (u4 7), .ref (u4 8), .ref (u4 9), .ref (u4 10), .ref (u4 11), .int 0, .int 0, .int 0])), ((u4 1), .inl (cI, 24, .inl (fun _ => 0))), ((u4 2), .inl (cI, 24, .inl (fun _ => 0))), ((u4 3), .inl (cI, 24, .inl (fun _ => 0))), ((u4 4), .inl (cI, 4, .inl (fun _ => 0))), ((u4 5), .inl (cI, 96, .inl (fun _ => 0))), ((u4 6), .inl (cI, 96, .inl (fun _ => 0))), ((u4 7), .inl (cI, 96, .inl (fun _ => 0))), ((u4 8), .inl (cI, 96, .inl (fun _ => 0))), ((u4 9), .inl (cI, 24, .inl (fun _ => 0))), ((u4 10), .inl (cI, 24, .inl (fun _ => 0))), ((u4 11), .inl (cI, 24, .inl (fun _ => 0))), (q5, .inr (5, [.ref (u5 1)])), ((u5 1), .inr (8, [.ref (u5 2), .int 8, .int 0])), ((u5 2), .inl (cI, 60, .inl (fun _ => 0))), (q6, .inr (0, [.ref (u6 1), .ref (u6 3), .ref (u6 5), .ref (u6 7)])), ((u6 1), .inr (8, [.ref (u6 2), .int 3, .int 0])), ((u6 2), .inl (cI, 60, .inl (fun _ => 0))), ((u6 3), .inr (8, [.ref (u6 4), .int 12, .int 0])), ((u6 4), .inl (cI, 60, .inl (fun _ => 0))), ((u6 5), .inr (8, [.ref (u6 6), .int 6, .int 0])), ((u6 6), .inl (cI, 60, .inl (fun _ => 0))), ((u6 7), .inr (8, [.ref (u6 8), .int 10, .int 0])), ((u6 8), .inl (cI, 60, .inl (fun _ => 0))), (q7, .inr (0, [.ref (u7 1), .ref (u7 3), .ref (u7 5), .ref (u7 7)])), ((u7 1), .inr (8, [.ref (u7 2), .int 3, .int 0])), ((u7 2), .inl (cI, 60, .inl (fun _ => 0))), ((u7 3), .inr (8, [.ref (u7 4), .int 12, .int 0])), ((u7 4), .inl (cI, 60, .inl (fun _ => 0))), ((u7 5), .inr (8, [.ref (u7 6), .int 6, .int 0])), ((u7 6), .inl (cI, 60, .inl (fun _ => 0))), ((u7 7), .inr (8, [.ref (u7 8), .int 10, .int 0])), ((u7 8), .inl (cI, 60, .inl (fun _ => 0))), (q8, .inr (3, [.ref (u8 1), .ref (u8 2), .int 0])), ((u8 1), .inl (cI, 6, .inl (fun _ => 0))), ((u8 2), .inl (cI, 144, .inl (fun _ => 0)))] H := hP
  have hD : va_D A [(h0, .inr (10, [.ref q1, .ref q2, .ref q3, .ref q4, .ref q5, .ref q6, .ref q7, .ref q8, .null, .int 0, .int 0, .int 0])), (q1, .inr (7, [.ref (u1 1), .int 0])), ((u1 1), .inl (cI, 40, .inl (fun _ => 0))), (q2, .inr (2, [.int 0, .int 0, .int 0, .int 0])), (q3, .inr (4, [.int 0, .int 0, .int 0, .int 0, .int 0, .int 0, .int 0])), (q4, .inr (1, [.ref (u4 1), .ref (u4 2), .ref (u4 3), .ref (u4 4), .ref (u4 5), .ref (u4 6), .ref (u4 7), .ref (u4 8), .ref (u4 9), .ref (u4 10), .ref (u4 11), .int 0, .int 0, .int 0])), ((u4 1), .inl (cI, 24, .inl (fun _ => 0))), ((u4 2), .inl (cI, 24, .inl (fun _ => 0))), ((u4 3), .inl (cI, 24, .inl (fun _ => 0))), ((u4 4), .inl (cI, 4, .inl (fun _ => 0))), ((u4 5), .inl (cI, 96, .inl (fun _ => 0))), ((u4 6), .inl (cI, 96, .inl (fun _ => 0))), ((u4 7), .inl (cI, 96, .inl (fun _ => 0))), ((u4 8), .inl (cI, 96, .inl (fun _ => 0))), ((u4 9), .inl (cI, 24, .inl (fun _ => 0))), ((u4 10), .inl (cI, 24, .inl (fun _ => 0))), ((u4 11), .inl (cI, 24, .inl (fun _ => 0))), (q5, .inr (5, [.ref (u5 1)])), ((u5 1), .inr (8, [.ref (u5 2), .int 8, .int 0])), ((u5 2), .inl (cI, 60, .inl (fun _ => 0))), (q6, .inr (0, [.ref (u6 1), .ref (u6 3), .ref (u6 5), .ref (u6 7)])), ((u6 1), .inr (8, [.ref (u6 2), .int 3, .int 0])), ((u6 2), .inl (cI, 60, .inl (fun _ => 0))), ((u6 3), .inr (8, [.ref (u6 4), .int 12, .int 0])), ((u6 4), .inl (cI, 60, .inl (fun _ => 0))), ((u6 5), .inr (8, [.ref (u6 6), .int 6, .int 0])), ((u6 6), .inl (cI, 60, .inl (fun _ => 0))), ((u6 7), .inr (8, [.ref (u6 8), .int 10, .int 0])), ((u6 8), .inl (cI, 60, .inl (fun _ => 0))), (q7, .inr (0, [.ref (u7 1), .ref (u7 3), .ref (u7 5), .ref (u7 7)])), ((u7 1), .inr (8, [.ref (u7 2), .int 3, .int 0])), ((u7 2), .inl (cI, 60, .inl (fun _ => 0))), ((u7 3), .inr (8, [.ref (u7 4), .int 12, .int 0])), ((u7 4), .inl (cI, 60, .inl (fun _ => 0))), ((u7 5), .inr (8, [.ref (u7 6), .int 6, .int 0])), ((u7 6), .inl (cI, 60, .inl (fun _ => 0))), ((u7 7), .inr (8, [.ref (u7 8), .int 10, .int 0])), ((u7 8), .inl (cI, 60, .inl (fun _ => 0))), (q8, .inr (3, [.ref (u8 1), .ref (u8 2), .int 0])), ((u8 1), .inl (cI, 6, .inl (fun _ => 0))), ((u8 2), .inl (cI, 144, .inl (fun _ => 0)))] := hD
  refine lv_aload_n hx hb cd_Main_92 rfl (lv_at hl 0 rfl) ?_
  refine cx_new (ci := 6) (fs := [.null, .null, .null, .null, .int 0, .int 0]) (own := "BorderThroughBed") hx hb hts hown (by decide) cw_64 cw_65 cw_43 hK hP hD hS hA (by decide +kernel) (Nat.le_of_ble_eq_true rfl) (Nat.le_of_ble_eq_true rfl) cd_Main_93 (fun q9 H hP hD hS => ?_)
  refine W.widen (k := 41) (n := 1334) (Nat.le_of_ble_eq_true rfl) (Nat.le_of_ble_eq_true rfl) ?_
  refine lv_dup hx hb cd_Main_96 rfl ?_
  refine cx_ctorN (As := []) (b := q9) (rest := [.ref q9, .ref h0]) (wc := [(q9, .inr (6, [.null, .null, .null, .null, .int 0, .int 0]))]) (wr := [(h0, .inr (10, [.ref q1, .ref q2, .ref q3, .ref q4, .ref q5, .ref q6, .ref q7, .ref q8, .null, .int 0, .int 0, .int 0])), (q1, .inr (7, [.ref (u1 1), .int 0])), ((u1 1), .inl (cI, 40, .inl (fun _ => 0))), (q2, .inr (2, [.int 0, .int 0, .int 0, .int 0])), (q3, .inr (4, [.int 0, .int 0, .int 0, .int 0, .int 0, .int 0, .int 0])), (q4, .inr (1, [.ref (u4 1), .ref (u4 2), .ref (u4 3), .ref (u4 4), .ref (u4 5), .ref (u4 6), .ref (u4 7), .ref (u4 8), .ref (u4 9), .ref (u4 10), .ref (u4 11), .int 0, .int 0, .int 0])), ((u4 1), .inl (cI, 24, .inl (fun _ => 0))), ((u4 2), .inl (cI, 24, .inl (fun _ => 0))), ((u4 3), .inl (cI, 24, .inl (fun _ => 0))), ((u4 4), .inl (cI, 4, .inl (fun _ => 0))), ((u4 5), .inl (cI, 96, .inl (fun _ => 0))), ((u4 6), .inl (cI, 96, .inl (fun _ => 0))), ((u4 7), .inl (cI, 96, .inl (fun _ => 0))), ((u4 8), .inl (cI, 96, .inl (fun _ => 0))), ((u4 9), .inl (cI, 24, .inl (fun _ => 0))), ((u4 10), .inl (cI, 24, .inl (fun _ => 0))), ((u4 11), .inl (cI, 24, .inl (fun _ => 0))), (q5, .inr (5, [.ref (u5 1)])), ((u5 1), .inr (8, [.ref (u5 2), .int 8, .int 0])), ((u5 2), .inl (cI, 60, .inl (fun _ => 0))), (q6, .inr (0, [.ref (u6 1), .ref (u6 3), .ref (u6 5), .ref (u6 7)])), ((u6 1), .inr (8, [.ref (u6 2), .int 3, .int 0])), ((u6 2), .inl (cI, 60, .inl (fun _ => 0))), ((u6 3), .inr (8, [.ref (u6 4), .int 12, .int 0])), ((u6 4), .inl (cI, 60, .inl (fun _ => 0))), ((u6 5), .inr (8, [.ref (u6 6), .int 6, .int 0])), ((u6 6), .inl (cI, 60, .inl (fun _ => 0))), ((u6 7), .inr (8, [.ref (u6 8), .int 10, .int 0])), ((u6 8), .inl (cI, 60, .inl (fun _ => 0))), (q7, .inr (0, [.ref (u7 1), .ref (u7 3), .ref (u7 5), .ref (u7 7)])), ((u7 1), .inr (8, [.ref (u7 2), .int 3, .int 0])), ((u7 2), .inl (cI, 60, .inl (fun _ => 0))), ((u7 3), .inr (8, [.ref (u7 4), .int 12, .int 0])), ((u7 4), .inl (cI, 60, .inl (fun _ => 0))), ((u7 5), .inr (8, [.ref (u7 6), .int 6, .int 0])), ((u7 6), .inl (cI, 60, .inl (fun _ => 0))), ((u7 7), .inr (8, [.ref (u7 8), .int 10, .int 0])), ((u7 8), .inl (cI, 60, .inl (fun _ => 0))), (q8, .inr (3, [.ref (u8 1), .ref (u8 2), .int 0])), ((u8 1), .inl (cI, 6, .inl (fun _ => 0))), ((u8 2), .inl (cI, 144, .inl (fun _ => 0)))]) (isC := [41]) (isR := [0, 1, 2, 3, 4, 5, 6, 7, 8, 9, 10, 11, 12, 13, 14, 15, 16, 17, 18, 19, 20, 21, 22, 23, 24, 25, 26, 27, 28, 29, 30, 31, 32, 33, 34, 35, 36, 37, 38, 39, 40]) (own := "BorderThroughBed") (nL := 1) (Hm := H) hx hb hml hts hown (c_Mover l dC dI cI cB q9 H.size) cw_42 cw_43 cw_44 (List.mem_of_getElem? (i := 9) (by decide +kernel)) rfl (by decide +kernel) rfl rfl ⟨Nat.le_of_ble_eq_true rfl, Nat.le_of_ble_eq_true rfl⟩ hK hN hP hD hS hA rfl rfl (by decide) (by decide) hl.1 (Nat.le_of_ble_eq_true rfl) cd_Main_97 ⟨Nat.le_of_ble_eq_true rfl, Nat.le_of_ble_eq_true rfl⟩ (fun u9 H locs hP hD hS => ?_)
  refine W.widen (k := 45) (n := 1348) (Nat.le_of_ble_eq_true rfl) (Nat.le_of_ble_eq_true rfl) ?_
  have hP : va_P (dC, dI) ex_cm [(h0, .inr (10, [.ref q1, .ref q2, .ref q3, .ref q4, .ref q5, .ref q6, .ref q7, .ref q8, .null, .int 0, .int 0, .int 0])), (q1, .inr (7, [.ref (u1 1), .int 0])), ((u1 1), .inl (cI, 40, .inl (fun _ => 0))), (q2, .inr (2, [.int 0, .int 0, .int 0, .int 0])), (q3, .inr (4, [.int 0, .int 0, .int 0, .int 0, .int 0, .int 0, .int 0])), (q4, .inr (1, [.ref (u4 1), .ref (u4 2), .ref (u4 3), .ref (u4 4), .ref (u4 5), .ref (u4 6), .ref (u4 7), .ref (u4 8), .ref (u4 9), .ref (u4 10), .ref (u4 11), .int 0, .int 0, .int 0])), ((u4 1), .inl (cI, 24, .inl (fun _ => 0))), ((u4 2), .inl (cI, 24, .inl (fun _ => 0))), ((u4 3), .inl (cI, 24, .inl (fun _ => 0))), ((u4 4), .inl (cI, 4, .inl (fun _ => 0))), ((u4 5), .inl (cI, 96, .inl (fun _ => 0))), ((u4 6), .inl (cI, 96, .inl (fun _ => 0))), ((u4 7), .inl (cI, 96, .inl (fun _ => 0))), ((u4 8), .inl (cI, 96, .inl (fun _ => 0))), ((u4 9), .inl (cI, 24, .inl (fun _ => 0))), ((u4 10), .inl (cI, 24, .inl (fun _ => 0))), ((u4 11), .inl (cI, 24, .inl (fun _ => 0))), (q5, .inr (5, [.ref (u5 1)])), ((u5 1), .inr (8, [.ref (u5 2), .int 8, .int 0])), ((u5 2), .inl (cI, 60, .inl (fun _ => 0))), (q6, .inr (0, [.ref (u6 1), .ref (u6 3), .ref (u6 5), .ref (u6 7)])), ((u6 1), .inr (8, [.ref (u6 2), .int 3, .int 0])), ((u6 2), .inl (cI, 60, .inl (fun _ => 0))), ((u6 3), .inr (8, [.ref (u6 4), .int 12, .int 0])), ((u6 4), .inl (cI, 60, .inl (fun _ => 0))), ((u6 5), .inr (8, [.ref (u6 6), .int 6, .int 0])), ((u6 6), .inl (cI, 60, .inl (fun _ => 0))), ((u6 7), .inr (8, [.ref (u6 8), .int 10, .int 0])), ((u6 8), .inl (cI, 60, .inl (fun _ => 0))), (q7, .inr (0, [.ref (u7 1), .ref (u7 3), .ref (u7 5), .ref (u7 7)])), ((u7 1), .inr (8, [.ref (u7 2), .int 3, .int 0])), ((u7 2), .inl (cI, 60, .inl (fun _ => 0))), ((u7 3), .inr (8, [.ref (u7 4), .int 12, .int 0])), ((u7 4), .inl (cI, 60, .inl (fun _ => 0))), ((u7 5), .inr (8, [.ref (u7 6), .int 6, .int 0])), ((u7 6), .inl (cI, 60, .inl (fun _ => 0))), ((u7 7), .inr (8, [.ref (u7 8), .int 10, .int 0])), ((u7 8), .inl (cI, 60, .inl (fun _ => 0))), (q8, .inr (3, [.ref (u8 1), .ref (u8 2), .int 0])), ((u8 1), .inl (cI, 6, .inl (fun _ => 0))), ((u8 2), .inl (cI, 144, .inl (fun _ => 0))), (q9, .inr (6, [.ref (u9 1), .ref (u9 2), .ref (u9 3), .ref (u9 4), .int 0, .int 0])), ((u9 1), .inl (cI, 3, .inl (fun _ => 0))), ((u9 2), .inl (cI, 3, .inl (fun _ => 0))), ((u9 3), .inl (cI, 3, .inl (fun _ => 0))), ((u9 4), .inl (cI, 5, .inl (fun _ => 0)))] H := hP
  have hD : va_D A [(h0, .inr (10, [.ref q1, .ref q2, .ref q3, .ref q4, .ref q5, .ref q6, .ref q7, .ref q8, .null, .int 0, .int 0, .int 0])), (q1, .inr (7, [.ref (u1 1), .int 0])), ((u1 1), .inl (cI, 40, .inl (fun _ => 0))), (q2, .inr (2, [.int 0, .int 0, .int 0, .int 0])), (q3, .inr (4, [.int 0, .int 0, .int 0, .int 0, .int 0, .int 0, .int 0])), (q4, .inr (1, [.ref (u4 1), .ref (u4 2), .ref (u4 3), .ref (u4 4), .ref (u4 5), .ref (u4 6), .ref (u4 7), .ref (u4 8), .ref (u4 9), .ref (u4 10), .ref (u4 11), .int 0, .int 0, .int 0])), ((u4 1), .inl (cI, 24, .inl (fun _ => 0))), ((u4 2), .inl (cI, 24, .inl (fun _ => 0))), ((u4 3), .inl (cI, 24, .inl (fun _ => 0))), ((u4 4), .inl (cI, 4, .inl (fun _ => 0))), ((u4 5), .inl (cI, 96, .inl (fun _ => 0))), ((u4 6), .inl (cI, 96, .inl (fun _ => 0))), ((u4 7), .inl (cI, 96, .inl (fun _ => 0))), ((u4 8), .inl (cI, 96, .inl (fun _ => 0))), ((u4 9), .inl (cI, 24, .inl (fun _ => 0))), ((u4 10), .inl (cI, 24, .inl (fun _ => 0))), ((u4 11), .inl (cI, 24, .inl (fun _ => 0))), (q5, .inr (5, [.ref (u5 1)])), ((u5 1), .inr (8, [.ref (u5 2), .int 8, .int 0])), ((u5 2), .inl (cI, 60, .inl (fun _ => 0))), (q6, .inr (0, [.ref (u6 1), .ref (u6 3), .ref (u6 5), .ref (u6 7)])), ((u6 1), .inr (8, [.ref (u6 2), .int 3, .int 0])), ((u6 2), .inl (cI, 60, .inl (fun _ => 0))), ((u6 3), .inr (8, [.ref (u6 4), .int 12, .int 0])), ((u6 4), .inl (cI, 60, .inl (fun _ => 0))), ((u6 5), .inr (8, [.ref (u6 6), .int 6, .int 0])), ((u6 6), .inl (cI, 60, .inl (fun _ => 0))), ((u6 7), .inr (8, [.ref (u6 8), .int 10, .int 0])), ((u6 8), .inl (cI, 60, .inl (fun _ => 0))), (q7, .inr (0, [.ref (u7 1), .ref (u7 3), .ref (u7 5), .ref (u7 7)])), ((u7 1), .inr (8, [.ref (u7 2), .int 3, .int 0])), ((u7 2), .inl (cI, 60, .inl (fun _ => 0))), ((u7 3), .inr (8, [.ref (u7 4), .int 12, .int 0])), ((u7 4), .inl (cI, 60, .inl (fun _ => 0))), ((u7 5), .inr (8, [.ref (u7 6), .int 6, .int 0])), ((u7 6), .inl (cI, 60, .inl (fun _ => 0))), ((u7 7), .inr (8, [.ref (u7 8), .int 10, .int 0])), ((u7 8), .inl (cI, 60, .inl (fun _ => 0))), (q8, .inr (3, [.ref (u8 1), .ref (u8 2), .int 0])), ((u8 1), .inl (cI, 6, .inl (fun _ => 0))), ((u8 2), .inl (cI, 144, .inl (fun _ => 0))), (q9, .inr (6, [.ref (u9 1), .ref (u9 2), .ref (u9 3), .ref (u9 4), .int 0, .int 0])), ((u9 1), .inl (cI, 3, .inl (fun _ => 0))), ((u9 2), .inl (cI, 3, .inl (fun _ => 0))), ((u9 3), .inl (cI, 3, .inl (fun _ => 0))), ((u9 4), .inl (cI, 5, .inl (fun _ => 0)))] := hD
  refine cx_putF (ci := 10) (k := 8) (v := .ref q9) (a := h0) (fs := [.ref q1, .ref q2, .ref q3, .ref q4, .ref q5, .ref q6, .ref q7, .ref q8, .null, .int 0, .int 0, .int 0]) hx hb hts hown (by decide) (kq_F (c := 10) (by decide) (64, 648) (ex_lk (by decide +kernel))).1 hK hP hD hS 0 rfl (by decide) rfl hin rfl rfl (Nat.le_of_ble_eq_true rfl) cd_Main_100 (fun H locs hP hD hS => ?_)
  have hP : va_P (dC, dI) ex_cm [(h0, .inr (10, [.ref q1, .ref q2, .ref q3, .ref q4, .ref q5, .ref q6, .ref q7, .ref q8, .ref q9, .int 0, .int 0, .int 0])), (q1, .inr (7, [.ref (u1 1), .int 0])), ((u1 1), .inl (cI, 40, .inl (fun _ => 0))), (q2, .inr (2, [.int 0, .int 0, .int 0, .int 0])), (q3, .inr (4, [.int 0, .int 0, .int 0, .int 0, .int 0, .int 0, .int 0])), (q4, .inr (1, [.ref (u4 1), .ref (u4 2), .ref (u4 3), .ref (u4 4), .ref (u4 5), .ref (u4 6), .ref (u4 7), .ref (u4 8), .ref (u4 9), .ref (u4 10), .ref (u4 11), .int 0, .int 0, .int 0])), ((u4 1), .inl (cI, 24, .inl (fun _ => 0))), ((u4 2), .inl (cI, 24, .inl (fun _ => 0))), ((u4 3), .inl (cI, 24, .inl (fun _ => 0))), ((u4 4), .inl (cI, 4, .inl (fun _ => 0))), ((u4 5), .inl (cI, 96, .inl (fun _ => 0))), ((u4 6), .inl (cI, 96, .inl (fun _ => 0))), ((u4 7), .inl (cI, 96, .inl (fun _ => 0))), ((u4 8), .inl (cI, 96, .inl (fun _ => 0))), ((u4 9), .inl (cI, 24, .inl (fun _ => 0))), ((u4 10), .inl (cI, 24, .inl (fun _ => 0))), ((u4 11), .inl (cI, 24, .inl (fun _ => 0))), (q5, .inr (5, [.ref (u5 1)])), ((u5 1), .inr (8, [.ref (u5 2), .int 8, .int 0])), ((u5 2), .inl (cI, 60, .inl (fun _ => 0))), (q6, .inr (0, [.ref (u6 1), .ref (u6 3), .ref (u6 5), .ref (u6 7)])), ((u6 1), .inr (8, [.ref (u6 2), .int 3, .int 0])), ((u6 2), .inl (cI, 60, .inl (fun _ => 0))), ((u6 3), .inr (8, [.ref (u6 4), .int 12, .int 0])), ((u6 4), .inl (cI, 60, .inl (fun _ => 0))), ((u6 5), .inr (8, [.ref (u6 6), .int 6, .int 0])), ((u6 6), .inl (cI, 60, .inl (fun _ => 0))), ((u6 7), .inr (8, [.ref (u6 8), .int 10, .int 0])), ((u6 8), .inl (cI, 60, .inl (fun _ => 0))), (q7, .inr (0, [.ref (u7 1), .ref (u7 3), .ref (u7 5), .ref (u7 7)])), ((u7 1), .inr (8, [.ref (u7 2), .int 3, .int 0])), ((u7 2), .inl (cI, 60, .inl (fun _ => 0))), ((u7 3), .inr (8, [.ref (u7 4), .int 12, .int 0])), ((u7 4), .inl (cI, 60, .inl (fun _ => 0))), ((u7 5), .inr (8, [.ref (u7 6), .int 6, .int 0])), ((u7 6), .inl (cI, 60, .inl (fun _ => 0))), ((u7 7), .inr (8, [.ref (u7 8), .int 10, .int 0])), ((u7 8), .inl (cI, 60, .inl (fun _ => 0))), (q8, .inr (3, [.ref (u8 1), .ref (u8 2), .int 0])), ((u8 1), .inl (cI, 6, .inl (fun _ => 0))), ((u8 2), .inl (cI, 144, .inl (fun _ => 0))), (q9, .inr (6, [.ref (u9 1), .ref (u9 2), .ref (u9 3), .ref (u9 4), .int 0, .int 0])), ((u9 1), .inl (cI, 3, .inl (fun _ => 0))), ((u9 2), .inl (cI, 3, .inl (fun _ => 0))), ((u9 3), .inl (cI, 3, .inl (fun _ => 0))), ((u9 4), .inl (cI, 5, .inl (fun _ => 0)))] H := hP
  have hD : va_D A [(h0, .inr (10, [.ref q1, .ref q2, .ref q3, .ref q4, .ref q5, .ref q6, .ref q7, .ref q8, .ref q9, .int 0, .int 0, .int 0])), (q1, .inr (7, [.ref (u1 1), .int 0])), ((u1 1), .inl (cI, 40, .inl (fun _ => 0))), (q2, .inr (2, [.int 0, .int 0, .int 0, .int 0])), (q3, .inr (4, [.int 0, .int 0, .int 0, .int 0, .int 0, .int 0, .int 0])), (q4, .inr (1, [.ref (u4 1), .ref (u4 2), .ref (u4 3), .ref (u4 4), .ref (u4 5), .ref (u4 6), .ref (u4 7), .ref (u4 8), .ref (u4 9), .ref (u4 10), .ref (u4 11), .int 0, .int 0, .int 0])), ((u4 1), .inl (cI, 24, .inl (fun _ => 0))), ((u4 2), .inl (cI, 24, .inl (fun _ => 0))), ((u4 3), .inl (cI, 24, .inl (fun _ => 0))), ((u4 4), .inl (cI, 4, .inl (fun _ => 0))), ((u4 5), .inl (cI, 96, .inl (fun _ => 0))), ((u4 6), .inl (cI, 96, .inl (fun _ => 0))), ((u4 7), .inl (cI, 96, .inl (fun _ => 0))), ((u4 8), .inl (cI, 96, .inl (fun _ => 0))), ((u4 9), .inl (cI, 24, .inl (fun _ => 0))), ((u4 10), .inl (cI, 24, .inl (fun _ => 0))), ((u4 11), .inl (cI, 24, .inl (fun _ => 0))), (q5, .inr (5, [.ref (u5 1)])), ((u5 1), .inr (8, [.ref (u5 2), .int 8, .int 0])), ((u5 2), .inl (cI, 60, .inl (fun _ => 0))), (q6, .inr (0, [.ref (u6 1), .ref (u6 3), .ref (u6 5), .ref (u6 7)])), ((u6 1), .inr (8, [.ref (u6 2), .int 3, .int 0])), ((u6 2), .inl (cI, 60, .inl (fun _ => 0))), ((u6 3), .inr (8, [.ref (u6 4), .int 12, .int 0])), ((u6 4), .inl (cI, 60, .inl (fun _ => 0))), ((u6 5), .inr (8, [.ref (u6 6), .int 6, .int 0])), ((u6 6), .inl (cI, 60, .inl (fun _ => 0))), ((u6 7), .inr (8, [.ref (u6 8), .int 10, .int 0])), ((u6 8), .inl (cI, 60, .inl (fun _ => 0))), (q7, .inr (0, [.ref (u7 1), .ref (u7 3), .ref (u7 5), .ref (u7 7)])), ((u7 1), .inr (8, [.ref (u7 2), .int 3, .int 0])), ((u7 2), .inl (cI, 60, .inl (fun _ => 0))), ((u7 3), .inr (8, [.ref (u7 4), .int 12, .int 0])), ((u7 4), .inl (cI, 60, .inl (fun _ => 0))), ((u7 5), .inr (8, [.ref (u7 6), .int 6, .int 0])), ((u7 6), .inl (cI, 60, .inl (fun _ => 0))), ((u7 7), .inr (8, [.ref (u7 8), .int 10, .int 0])), ((u7 8), .inl (cI, 60, .inl (fun _ => 0))), (q8, .inr (3, [.ref (u8 1), .ref (u8 2), .int 0])), ((u8 1), .inl (cI, 6, .inl (fun _ => 0))), ((u8 2), .inl (cI, 144, .inl (fun _ => 0))), (q9, .inr (6, [.ref (u9 1), .ref (u9 2), .ref (u9 3), .ref (u9 4), .int 0, .int 0])), ((u9 1), .inl (cI, 3, .inl (fun _ => 0))), ((u9 2), .inl (cI, 3, .inl (fun _ => 0))), ((u9 3), .inl (cI, 3, .inl (fun _ => 0))), ((u9 4), .inl (cI, 5, .inl (fun _ => 0)))] := hD
  refine W.widen (k := 45) (n := 1348) (Nat.le_of_ble_eq_true rfl) (Nat.le_of_ble_eq_true rfl) ?_
  exact W.vret hx hb hr (fun t ht hW => ⟨⟨fun k => ([h0, q1, (u1 1), q2, q3, q4, (u4 1), (u4 2), (u4 3), (u4 4), (u4 5), (u4 6), (u4 7), (u4 8), (u4 9), (u4 10), (u4 11), q5, (u5 1), (u5 2), q6, (u6 1), (u6 2), (u6 3), (u6 4), (u6 5), (u6 6), (u6 7), (u6 8), q7, (u7 1), (u7 2), (u7 3), (u7 4), (u7 5), (u7 6), (u7 7), (u7 8), q8, (u8 1), (u8 2), q9, (u9 1), (u9 2), (u9 3), (u9 4)] : List Nat).getD k 0, rfl, trivial, by rw [ht]; exact hP, hD⟩, hS.F ht⟩) hS.2.2 cd_Main_103
end
