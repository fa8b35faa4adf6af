/-! TABLES of the pure machine, printed by wip/whole/gen2.py out of the claim's own listing: classes, objects, methods, blocks, pools -/
def ex_R : List String := ["BorderThroughBed$Day", "BorderThroughBed$House", "BorderThroughBed$HouseText", "BorderThroughBed$Keeping", "BorderThroughBed$LawText", "BorderThroughBed$Laws", "BorderThroughBed$Mover", "BorderThroughBed$Page", "BorderThroughBed$Table", "BorderThroughBed$Text", "BorderThroughBed", "BorderThroughBedLaw"]
def ex_Rn (c : Nat) : String := ex_R.getD c ""
def ex_T0 : u_T := fun k => match k with
  | 0 => ("BorderThroughBed$Day", "things", "LBorderThroughBed$Table;", true)
  | 1 => ("BorderThroughBed$Day", "events", "LBorderThroughBed$Table;", true)
  | 2 => ("BorderThroughBed$Day", "habits", "LBorderThroughBed$Table;", true)
  | _ => ("BorderThroughBed$Day", "judgments", "LBorderThroughBed$Table;", true)
def ex_ty0 : Nat → FieldType := fun k => match k with
  | 0 => .object "BorderThroughBed$Table"
  | 1 => .object "BorderThroughBed$Table"
  | 2 => .object "BorderThroughBed$Table"
  | _ => .object "BorderThroughBed$Table"
def ex_T1 : u_T := fun k => match k with
  | 0 => ("BorderThroughBed$House", "kinds", "[I", true)
  | 1 => ("BorderThroughBed$House", "rowOf", "[I", true)
  | 2 => ("BorderThroughBed$House", "columnOf", "[I", true)
  | 3 => ("BorderThroughBed$House", "lines", "[I", true)
  | 4 => ("BorderThroughBed$House", "beside", "[I", true)
  | 5 => ("BorderThroughBed$House", "ahead", "[I", true)
  | 6 => ("BorderThroughBed$House", "bedSpots", "[I", true)
  | 7 => ("BorderThroughBed$House", "otherSpots", "[I", true)
  | 8 => ("BorderThroughBed$House", "doors", "[I", true)
  | 9 => ("BorderThroughBed$House", "doorSteps", "[I", true)
  | 10 => ("BorderThroughBed$House", "costs", "[I", true)
  | 11 => ("BorderThroughBed$House", "cells", "I", false)
  | 12 => ("BorderThroughBed$House", "rows", "I", false)
  | _ => ("BorderThroughBed$House", "width", "I", false)
def ex_ty1 : Nat → FieldType := fun k => match k with
  | 0 => .array .int
  | 1 => .array .int
  | 2 => .array .int
  | 3 => .array .int
  | 4 => .array .int
  | 5 => .array .int
  | 6 => .array .int
  | 7 => .array .int
  | 8 => .array .int
  | 9 => .array .int
  | 10 => .array .int
  | 11 => .int
  | 12 => .int
  | _ => .int
def ex_T2 : u_T := fun k => match k with
  | 0 => ("BorderThroughBed$HouseText", "row", "I", false)
  | 1 => ("BorderThroughBed$HouseText", "width", "I", false)
  | 2 => ("BorderThroughBed$HouseText", "column", "I", false)
  | _ => ("BorderThroughBed$HouseText", "hasLine", "Z", false)
def ex_ty2 : Nat → FieldType := fun k => match k with
  | 0 => .int
  | 1 => .int
  | 2 => .int
  | _ => .boolean
def ex_T3 : u_T := fun k => match k with
  | 0 => ("BorderThroughBed$Keeping", "acts", "[I", true)
  | 1 => ("BorderThroughBed$Keeping", "good", "[I", true)
  | _ => ("BorderThroughBed$Keeping", "size", "I", false)
def ex_ty3 : Nat → FieldType := fun k => match k with
  | 0 => .array .int
  | 1 => .array .int
  | _ => .int
def ex_T4 : u_T := fun k => match k with
  | 0 => ("BorderThroughBed$LawText", "side", "I", false)
  | 1 => ("BorderThroughBed$LawText", "act", "I", false)
  | 2 => ("BorderThroughBed$LawText", "from", "I", false)
  | 3 => ("BorderThroughBed$LawText", "to", "I", false)
  | 4 => ("BorderThroughBed$LawText", "kind", "I", false)
  | 5 => ("BorderThroughBed$LawText", "stage", "I", false)
  | _ => ("BorderThroughBed$LawText", "digits", "I", false)
def ex_ty4 : Nat → FieldType := fun k => match k with
  | 0 => .int
  | 1 => .int
  | 2 => .int
  | 3 => .int
  | 4 => .int
  | 5 => .int
  | _ => .int
def ex_T5 : u_T := fun k => match k with
  | _ => ("BorderThroughBed$Laws", "laws", "LBorderThroughBed$Table;", true)
def ex_ty5 : Nat → FieldType := fun k => match k with
  | _ => .object "BorderThroughBed$Table"
def ex_T6 : u_T := fun k => match k with
  | 0 => ("BorderThroughBed$Mover", "kinds", "[I", true)
  | 1 => ("BorderThroughBed$Mover", "places", "[I", true)
  | 2 => ("BorderThroughBed$Mover", "spots", "[I", true)
  | 3 => ("BorderThroughBed$Mover", "answer", "[I", true)
  | 4 => ("BorderThroughBed$Mover", "size", "I", false)
  | _ => ("BorderThroughBed$Mover", "hardest", "I", false)
def ex_ty6 : Nat → FieldType := fun k => match k with
  | 0 => .array .int
  | 1 => .array .int
  | 2 => .array .int
  | 3 => .array .int
  | 4 => .int
  | _ => .int
def ex_T7 : u_T := fun k => match k with
  | 0 => ("BorderThroughBed$Page", "codes", "[I", true)
  | _ => ("BorderThroughBed$Page", "size", "I", false)
def ex_ty7 : Nat → FieldType := fun k => match k with
  | 0 => .array .int
  | _ => .int
def ex_T8 : u_T := fun k => match k with
  | 0 => ("BorderThroughBed$Table", "numbers", "[I", true)
  | 1 => ("BorderThroughBed$Table", "most", "I", true)
  | _ => ("BorderThroughBed$Table", "size", "I", false)
def ex_ty8 : Nat → FieldType := fun k => match k with
  | 0 => .array .int
  | 1 => .int
  | _ => .int
def ex_T9 : u_T := fun k => match k with
  | _ => ("", "", "", false)
def ex_ty9 : Nat → FieldType := fun k => match k with
  | _ => .object ""
def ex_T10 : u_T := fun k => match k with
  | 0 => ("BorderThroughBed", "page", "LBorderThroughBed$Page;", true)
  | 1 => ("BorderThroughBed", "houseText", "LBorderThroughBed$HouseText;", true)
  | 2 => ("BorderThroughBed", "lawText", "LBorderThroughBed$LawText;", true)
  | 3 => ("BorderThroughBed", "house", "LBorderThroughBed$House;", true)
  | 4 => ("BorderThroughBed", "laws", "LBorderThroughBed$Laws;", true)
  | 5 => ("BorderThroughBed", "now", "LBorderThroughBed$Day;", true)
  | 6 => ("BorderThroughBed", "imageDay", "LBorderThroughBed$Day;", true)
  | 7 => ("BorderThroughBed", "keeping", "LBorderThroughBed$Keeping;", true)
  | 8 => ("BorderThroughBed", "mover", "LBorderThroughBed$Mover;", true)
  | 9 => ("BorderThroughBed", "imageIsKept", "Z", false)
  | 10 => ("BorderThroughBed", "housesRead", "I", false)
  | _ => ("BorderThroughBed", "movesDone", "I", false)
def ex_ty10 : Nat → FieldType := fun k => match k with
  | 0 => .object "BorderThroughBed$Page"
  | 1 => .object "BorderThroughBed$HouseText"
  | 2 => .object "BorderThroughBed$LawText"
  | 3 => .object "BorderThroughBed$House"
  | 4 => .object "BorderThroughBed$Laws"
  | 5 => .object "BorderThroughBed$Day"
  | 6 => .object "BorderThroughBed$Day"
  | 7 => .object "BorderThroughBed$Keeping"
  | 8 => .object "BorderThroughBed$Mover"
  | 9 => .boolean
  | 10 => .int
  | _ => .int
def ex_T11 : u_T := fun k => match k with
  | _ => ("", "", "", false)
def ex_ty11 : Nat → FieldType := fun k => match k with
  | _ => .int
def ex_T (c : Nat) : u_T := match c with
  | 0 => ex_T0
  | 1 => ex_T1
  | 2 => ex_T2
  | 3 => ex_T3
  | 4 => ex_T4
  | 5 => ex_T5
  | 6 => ex_T6
  | 7 => ex_T7
  | 8 => ex_T8
  | 9 => ex_T9
  | 10 => ex_T10
  | _ => ex_T11
def ex_ty (c : Nat) : Nat → FieldType := match c with
  | 0 => ex_ty0
  | 1 => ex_ty1
  | 2 => ex_ty2
  | 3 => ex_ty3
  | 4 => ex_ty4
  | 5 => ex_ty5
  | 6 => ex_ty6
  | 7 => ex_ty7
  | 8 => ex_ty8
  | 9 => ex_ty9
  | 10 => ex_ty10
  | _ => ex_ty11
def ex_N (c : Nat) : Nat := ([4, 14, 4, 3, 7, 1, 6, 2, 3, 0, 12, 0] : List Nat).getD c 0
def ex_cl : List vw_C := [("BorderThroughBed$Day", ex_T0, 4), ("BorderThroughBed$House", ex_T1, 14), ("BorderThroughBed$HouseText", ex_T2, 4), ("BorderThroughBed$Keeping", ex_T3, 3), ("BorderThroughBed$LawText", ex_T4, 7), ("BorderThroughBed$Laws", ex_T5, 1), ("BorderThroughBed$Mover", ex_T6, 6), ("BorderThroughBed$Page", ex_T7, 2), ("BorderThroughBed$Table", ex_T8, 3), ("BorderThroughBed$Text", ex_T9, 0), ("BorderThroughBed", ex_T10, 12), ("BorderThroughBedLaw", ex_T11, 0)]
def ex_Sh : List (Nat × List Nat) := [(10, [4, 6, 7, 8, 20, 23, 32, 41, 44, 2, 0, 0]), (7, [5, 0]), (12, [40]), (2, [0, 0, 0, 2]), (4, [0, 0, 0, 0, 0, 0, 0]), (1, [9, 10, 11, 12, 13, 14, 15, 16, 17, 18, 19, 0, 0, 0]), (12, [24]), (12, [24]), (12, [24]), (12, [4]), (12, [96]), (12, [96]), (12, [96]), (12, [96]), (12, [24]), (12, [24]), (12, [24]), (5, [21]), (8, [22, 0, 0]), (12, [60]), (0, [24, 26, 28, 30]), (8, [25, 0, 0]), (12, [60]), (8, [27, 0, 0]), (12, [60]), (8, [29, 0, 0]), (12, [60]), (8, [31, 0, 0]), (12, [60]), (0, [33, 35, 37, 39]), (8, [34, 0, 0]), (12, [60]), (8, [36, 0, 0]), (12, [60]), (8, [2538, 0, 0]), (99, []), (8, [2540, 0, 0]), (99, []), (3, [42, 43, 0]), (12, [6]), (12, [144]), (6, [2545, 46, 47, 48, 0, 0]), (99, []), (12, [3]), (12, [3]), (12, [5]), (12, [6]), (12, [24]), (12, [24]), (12, [40]), (12, [60]), (12, [24]), (12, [3])]
abbrev ex_NO : Nat := 53
def ex_M0 : List (MethodName × ByteArray × Nat × Option FieldType × Nat) := [(⟨"BorderThroughBed$Day", "clear", "()V"⟩, prog_2_method_2_code, 1, none, 0),
  (⟨"BorderThroughBed$Day", "kindOf", "(I)I"⟩, prog_2_method_5_code, 2, some .int, 0),
  (⟨"BorderThroughBed$Day", "cellOf", "(I)I"⟩, prog_2_method_6_code, 2, some .int, 0),
  (⟨"BorderThroughBed$Day", "wayOf", "(I)I"⟩, prog_2_method_7_code, 2, some .int, 0),
  (⟨"BorderThroughBed$Day", "placeOf", "(I)I"⟩, prog_2_method_8_code, 2, some .int, 0),
  (⟨"BorderThroughBed$Day", "thingAt", "(LBorderThroughBed$House;I)I"⟩, prog_2_method_12_code, 4, some .int, 0),
  (⟨"BorderThroughBed$House", "read", "(LBorderThroughBed$Page;)V"⟩, prog_3_method_2_code, 6, none, 1),
  (⟨"BorderThroughBed$House", "setLine", "(II)V"⟩, prog_3_method_3_code, 3, none, 1),
  (⟨"BorderThroughBed$House", "addCell", "(III)V"⟩, prog_3_method_4_code, 4, none, 1),
  (⟨"BorderThroughBed$House", "joinCells", "()V"⟩, prog_3_method_5_code, 2, none, 1),
  (⟨"BorderThroughBed$House", "joinPlace", "(III)V"⟩, prog_3_method_6_code, 5, none, 1),
  (⟨"BorderThroughBed$House", "cellAt", "(II)I"⟩, prog_3_method_7_code, 3, some .int, 1),
  (⟨"BorderThroughBed$House", "findDoors", "()V"⟩, prog_3_method_8_code, 2, none, 1),
  (⟨"BorderThroughBed$House", "findWhereNearest", "(I)V"⟩, prog_3_method_9_code, 3, none, 1),
  (⟨"BorderThroughBed$House", "isThere", "()Z"⟩, prog_3_method_10_code, 1, some .boolean, 1),
  (⟨"BorderThroughBed$House", "cells", "()I"⟩, prog_3_method_11_code, 1, some .int, 1),
  (⟨"BorderThroughBed$House", "has", "(I)Z"⟩, prog_3_method_12_code, 2, some .boolean, 1),
  (⟨"BorderThroughBed$House", "kindOf", "(I)I"⟩, prog_3_method_13_code, 2, some .int, 1),
  (⟨"BorderThroughBed$House", "isOpen", "(I)Z"⟩, prog_3_method_14_code, 2, some .boolean, 1),
  (⟨"BorderThroughBed$House", "isFloor", "(I)Z"⟩, prog_3_method_15_code, 2, some .boolean, 1),
  (⟨"BorderThroughBed$House", "sideOf", "(II)I"⟩, prog_3_method_16_code, 3, some .int, 1),
  (⟨"BorderThroughBed$House", "next", "(II)I"⟩, prog_3_method_17_code, 4, some .int, 1),
  (⟨"BorderThroughBed$House", "partAt", "(III)I"⟩, prog_3_method_18_code, 5, some .int, 1),
  (⟨"BorderThroughBed$House", "doorOf", "(I)I"⟩, prog_3_method_19_code, 2, some .int, 1),
  (⟨"BorderThroughBed$House", "doorOrOwn", "(I)I"⟩, prog_3_method_20_code, 3, some .int, 1),
  (⟨"BorderThroughBed$House", "spot", "(II)I"⟩, prog_3_method_21_code, 3, some .int, 1),
  (⟨"BorderThroughBed$House", "measure", "(III)V"⟩, prog_3_method_23_code, 8, none, 1),
  (⟨"BorderThroughBed$House", "goOn", "(II)Z"⟩, prog_3_method_24_code, 7, some .boolean, 1),
  (⟨"BorderThroughBed$HouseText", "begin", "()V"⟩, prog_4_method_2_code, 1, none, 2),
  (⟨"BorderThroughBed$HouseText", "takes", "(I)Z"⟩, prog_4_method_3_code, 2, some .boolean, 2),
  (⟨"BorderThroughBed$HouseText", "takesLine", "()Z"⟩, prog_4_method_4_code, 1, some .boolean, 2),
  (⟨"BorderThroughBed$HouseText", "takesRowEnd", "()Z"⟩, prog_4_method_5_code, 1, some .boolean, 2),
  (⟨"BorderThroughBed$HouseText", "takesCell", "()Z"⟩, prog_4_method_6_code, 1, some .boolean, 2),
  (⟨"BorderThroughBed$HouseText", "isRowWhole", "()Z"⟩, prog_4_method_7_code, 1, some .boolean, 2),
  (⟨"BorderThroughBed$HouseText", "isWhole", "()Z"⟩, prog_4_method_8_code, 1, some .boolean, 2),
  (⟨"BorderThroughBed$LawText", "begin", "()V"⟩, prog_6_method_2_code, 1, none, 4),
  (⟨"BorderThroughBed$LawText", "takes", "(I)Z"⟩, prog_6_method_3_code, 2, some .boolean, 4),
  (⟨"BorderThroughBed$LawText", "takesSide", "(I)Z"⟩, prog_6_method_4_code, 2, some .boolean, 4),
  (⟨"BorderThroughBed$LawText", "takesAct", "(I)Z"⟩, prog_6_method_5_code, 2, some .boolean, 4),
  (⟨"BorderThroughBed$LawText", "takesFrom", "(I)Z"⟩, prog_6_method_6_code, 3, some .boolean, 4),
  (⟨"BorderThroughBed$LawText", "takesTo", "(I)Z"⟩, prog_6_method_7_code, 3, some .boolean, 4),
  (⟨"BorderThroughBed$LawText", "hourWith", "(II)I"⟩, prog_6_method_8_code, 4, some .int, 4),
  (⟨"BorderThroughBed$LawText", "kindTold", "(I)I"⟩, prog_6_method_9_code, 1, some .int, 4),
  (⟨"BorderThroughBed$LawText", "isWhole", "()Z"⟩, prog_6_method_10_code, 1, some .boolean, 4),
  (⟨"BorderThroughBed$LawText", "number", "(I)I"⟩, prog_6_method_11_code, 2, some .int, 4),
  (⟨"BorderThroughBed$Laws", "isOfKind", "(II)Z"⟩, prog_7_method_2_code, 2, some .boolean, 5),
  (⟨"BorderThroughBed$Laws", "size", "()I"⟩, prog_7_method_3_code, 1, some .int, 5),
  (⟨"BorderThroughBed$Laws", "isFull", "()Z"⟩, prog_7_method_4_code, 1, some .boolean, 5),
  (⟨"BorderThroughBed$Laws", "add", "(LBorderThroughBed$LawText;)I"⟩, prog_7_method_5_code, 2, some .int, 5),
  (⟨"BorderThroughBed$Laws", "told", "(II)I"⟩, prog_7_method_6_code, 3, some .int, 5),
  (⟨"BorderThroughBed$Laws", "broken", "(LBorderThroughBed$House;IIIII)I"⟩, prog_7_method_7_code, 9, some .int, 5),
  (⟨"BorderThroughBed$Laws", "holds", "(II)Z"⟩, prog_7_method_8_code, 5, some .boolean, 5),
  (⟨"BorderThroughBed$Laws", "counts", "(LBorderThroughBed$House;IIII)Z"⟩, prog_7_method_9_code, 8, some .boolean, 5),
  (⟨"BorderThroughBed$Page", "lettersIn", "(J)I"⟩, prog_9_method_2_code, 6, some .int, 7),
  (⟨"BorderThroughBed$Page", "codeIn", "(JI)I"⟩, prog_9_method_3_code, 3, some .int, 7),
  (⟨"BorderThroughBed$Page", "append", "(JI)V"⟩, prog_9_method_4_code, 5, none, 7),
  (⟨"BorderThroughBed$Page", "size", "()I"⟩, prog_9_method_5_code, 1, some .int, 7),
  (⟨"BorderThroughBed$Page", "codeAt", "(I)I"⟩, prog_9_method_6_code, 2, some .int, 7),
  (⟨"BorderThroughBed$Page", "clear", "()V"⟩, prog_9_method_7_code, 1, none, 7),
  (⟨"BorderThroughBed$Table", "size", "()I"⟩, prog_10_method_2_code, 1, some .int, 8)]
def ex_M1 : List (MethodName × ByteArray × Nat × Option FieldType × Nat) := [(⟨"BorderThroughBed$Table", "isFull", "()Z"⟩, prog_10_method_3_code, 1, some .boolean, 8),
  (⟨"BorderThroughBed$Table", "add", "(IIIII)I"⟩, prog_10_method_4_code, 7, some .int, 8),
  (⟨"BorderThroughBed$Table", "get", "(II)I"⟩, prog_10_method_5_code, 4, some .int, 8),
  (⟨"BorderThroughBed$Table", "set", "(III)V"⟩, prog_10_method_6_code, 5, none, 8),
  (⟨"BorderThroughBed$Table", "clear", "()V"⟩, prog_10_method_7_code, 1, none, 8),
  (⟨"BorderThroughBed$Text", "taken", "(LBorderThroughBed$Page;)I"⟩, prog_11_method_5_code, 3, some .int, 9),
  (⟨"BorderThroughBed$Text", "isOn", "(LBorderThroughBed$Page;)Z"⟩, prog_11_method_6_code, 2, some .boolean, 9),
  (⟨"BorderThroughBed", "letters", "(J)I"⟩, prog_1_method_2_code, 4, some .int, 10),
  (⟨"BorderThroughBed", "fault", "(I)I"⟩, prog_1_method_4_code, 2, some .int, 10),
  (⟨"BorderThroughBed", "house", "()I"⟩, prog_1_method_5_code, 1, some .int, 10),
  (⟨"BorderThroughBed", "law", "()I"⟩, prog_1_method_6_code, 1, some .int, 10),
  (⟨"BorderThroughBed", "lawTold", "(II)I"⟩, prog_1_method_7_code, 3, some .int, 10),
  (⟨"BorderThroughBed", "asLaw", "(II)I"⟩, prog_1_method_8_code, 3, some .int, 10),
  (⟨"BorderThroughBed", "cell", "(II)I"⟩, prog_1_method_9_code, 3, some .int, 10),
  (⟨"BorderThroughBed", "part", "(IIII)I"⟩, prog_1_method_10_code, 5, some .int, 10),
  (⟨"BorderThroughBed", "against", "(IIIII)I"⟩, prog_1_method_11_code, 6, some .int, 10),
  (⟨"BorderThroughBed", "event", "(IIIII)I"⟩, prog_1_method_12_code, 6, some .int, 10),
  (⟨"BorderThroughBed", "first", "(I)I"⟩, prog_1_method_13_code, 3, some .int, 10),
  (⟨"BorderThroughBed", "map", "(IIII)I"⟩, prog_1_method_14_code, 7, some .int, 10),
  (⟨"BorderThroughBed", "drawn", "(I)I"⟩, prog_1_method_26_code, 4, some .int, 10),
  (⟨"BorderThroughBed", "judgment", "(II)I"⟩, prog_1_method_27_code, 3, some .int, 10),
  (⟨"BorderThroughBed", "fits", "()I"⟩, prog_1_method_28_code, 1, some .int, 10),
  (⟨"BorderThroughBed", "count", "(I)I"⟩, prog_1_method_31_code, 2, some .int, 10),
  (⟨"BorderThroughBed", "below", "(II)Z"⟩, prog_1_method_33_code, 2, some .boolean, 10),
  (⟨"BorderThroughBed", "isDoing", "(III)Z"⟩, prog_1_method_34_code, 3, some .boolean, 10),
  (⟨"BorderThroughBed", "leastBit", "(I)I"⟩, prog_1_method_35_code, 2, some .int, 10),
  (⟨"BorderThroughBed", "cellTold", "(II)I"⟩, prog_1_method_38_code, 3, some .int, 10),
  (⟨"BorderThroughBed", "eventBroken", "(II)I"⟩, prog_1_method_41_code, 5, some .int, 10),
  (⟨"BorderThroughBed", "firstAgainst", "()I"⟩, prog_1_method_42_code, 5, some .int, 10),
  (⟨"BorderThroughBed", "mapOf", "(IIII)I"⟩, prog_1_method_43_code, 7, some .int, 10),
  (⟨"BorderThroughBed", "fitting", "()I"⟩, prog_1_method_44_code, 3, some .int, 10),
  (⟨"BorderThroughBed", "allJudgedSo", "(I)Z"⟩, prog_1_method_45_code, 3, some .boolean, 10),
  (⟨"BorderThroughBedLaw", "cell", "([II)I"⟩, method_2_code, 2, some .int, 11),
  (⟨"BorderThroughBedLaw", "put", "(LBorderThroughBed;I)Z"⟩, method_3_code, 2, some .boolean, 11),
  (⟨"BorderThroughBedLaw", "number", "(LBorderThroughBed;I)Z"⟩, method_4_code, 2, some .boolean, 11),
  (⟨"BorderThroughBedLaw", "house", "(LBorderThroughBed;[II[I[I)Z"⟩, method_5_code, 10, some .boolean, 11),
  (⟨"BorderThroughBedLaw", "rule", "(LBorderThroughBed;II[I)Z"⟩, method_6_code, 6, some .boolean, 11),
  (⟨"BorderThroughBedLaw", "beside", "([III)I"⟩, method_7_code, 5, some .int, 11),
  (⟨"BorderThroughBedLaw", "ahead", "([I[III)I"⟩, method_8_code, 5, some .int, 11),
  (⟨"BorderThroughBedLaw", "side", "([III)I"⟩, method_9_code, 4, some .int, 11),
  (⟨"BorderThroughBedLaw", "costs", "([I[IIIII[I)V"⟩, method_10_code, 14, none, 11),
  (⟨"BorderThroughBedLaw", "door", "([I[II)I"⟩, method_11_code, 6, some .int, 11),
  (⟨"BorderThroughBedLaw", "doors", "([I[I[I)V"⟩, method_12_code, 5, none, 11),
  (⟨"BorderThroughBedLaw", "against", "([I[I[I[IIIIIIII)I"⟩, method_13_code, 24, some .int, 11),
  (⟨"BorderThroughBedLaw", "law", "([I)Z"⟩, code, 23, some .boolean, 11)]
def ex_M : List (MethodName × ByteArray × Nat × Option FieldType × Nat) := ex_M0 ++ ex_M1
def ex_cF : List (List (Nat × Nat)) := [[(14, 0), (20, 1), (23, 2), (26, 3)],
  [(9, 64), (15, 65), (18, 66), (21, 67), (24, 68), (27, 69), (30, 70), (33, 71), (36, 72), (39, 73), (42, 74), (45, 75), (67, 76), (70, 77)],
  [(9, 128), (15, 129), (18, 130), (21, 131)],
  [(9, 192), (15, 193)],
  [(9, 256), (15, 257), (18, 258), (21, 259), (24, 260), (27, 261), (30, 262)],
  [(14, 320)],
  [(9, 384), (15, 385), (18, 386), (21, 387)],
  [(11, 448), (19, 449)],
  [(11, 512), (15, 513), (19, 514)],
  [],
  [(10, 640), (19, 641), (26, 642), (33, 643), (40, 644), (47, 645), (51, 646), (57, 647), (64, 648), (101, 649), (105, 650), (151, 1), (187, 0), (205, 2), (220, 651), (262, 3)],
  []]
def ex_cS : List (List (Nat × Nat)) := [[],
  [(86, 1000), (89, 1001)],
  [],
  [],
  [],
  [],
  [],
  [],
  [],
  [],
  [],
  []]
def ex_cK : List (List (Nat × Int)) := [[],
  [(103, 1000000)],
  [],
  [],
  [],
  [],
  [],
  [],
  [],
  [],
  [],
  [(7, 2147483647), (24, 32768), (82, 65536)]]
def ex_cL : List (List (Nat × Int)) := [[],
  [],
  [],
  [],
  [],
  [],
  [],
  [],
  [],
  [],
  [],
  []]
def ex_cT : List (List (Nat × Nat)) := [[],
  [(79, 1330)],
  [],
  [],
  [(50, 673)],
  [],
  [],
  [(15, 866), (23, 1330)],
  [(30, 1330)],
  [],
  [(68, 849), (83, 1330), (126, 722), (143, 1347), (167, 1361)],
  [(14, 1490), (20, 1474), (36, 1506), (42, 1555), (46, 1587), (49, 1607), (53, 1619), (57, 1572), (62, 1525), (65, 1635), (72, 1540), (94, 1659)]]
def ex_cJ : List (List (Nat × Nat)) := [[],
  [],
  [],
  [],
  [],
  [],
  [],
  [],
  [],
  [],
  [],
  []]
def ex_cV : List (List (Nat × Nat)) := [[(29, 1024), (36, 994), (40, 33), (44, 49), (51, 17), (59, 944), (63, 65), (66, 402)],
  [(49, 896), (55, 913), (59, 114), (63, 131), (73, 144), (76, 192), (83, 163), (92, 178), (96, 289), (100, 305), (104, 209), (108, 419), (111, 273), (114, 369), (117, 434), (120, 338), (123, 322)],
  [(25, 480), (29, 496), (32, 512), (35, 528)],
  [],
  [(33, 593), (37, 609), (40, 625), (43, 641), (46, 658)],
  [(20, 944), (24, 960), (28, 705), (34, 981), (38, 994), (42, 818), (46, 837), (50, 322), (55, 355), (59, 385)],
  [],
  [],
  [(22, 960), (26, 1011)],
  [(12, 896), (18, 913)],
  [(72, 896), (76, 882), (80, 928), (96, 97), (100, 0), (109, 240), (113, 752), (117, 769), (121, 736), (122, 786), (129, 257), (133, 1378), (136, 289), (139, 355), (147, 806), (155, 960), (158, 981), (161, 1408), (164, 1394), (171, 224), (174, 1428), (190, 944), (250, 322), (265, 1440), (307, 273), (308, 82), (311, 369), (320, 994), (323, 1457)],
  [(8, 1073), (25, 1089), (29, 1313), (32, 1104), (39, 1120), (69, 1170), (76, 1138), (79, 1154), (83, 1188), (87, 1205), (91, 1221), (97, 1252), (100, 1233), (103, 1265), (106, 1282), (109, 1296)]]
def ex_cW : List (List (Nat × (Nat × Nat))) := [[],
  [],
  [],
  [],
  [],
  [],
  [],
  [],
  [],
  [(7, (1, 0)), (22, (2, 1)), (26, (5, 1)), (30, (6, 0))],
  [(87, (0, 1)), (91, (3, 1)), (92, (4, 1)), (112, (7, 1))],
  []]
/-- dispatch: the site, the class of the receiver, the method -/
def ex_D : List (List (Nat × Nat)) := [[(2, 65)], [(2, 28), (4, 35)], [(2, 29), (4, 36)], [(4, 65)], [(2, 66)], [(2, 65), (4, 65)], [(2, 34), (4, 43)], [(4, 66)]]
def ex_b0 : List (Nat × List Instr) := [(0, [.aload 0, .getfield 0, .invokevirtual 1024, .aload 0, .getfield 1, .invokevirtual 1024, .aload 0, .getfield 2, .invokevirtual 1024, .aload 0, .getfield 3, .invokevirtual 1024, .return_])]
def ex_b1 : List (Nat × List Instr) := [(0, [.aload 0, .getfield 0, .iload 1, .sipush 0, .invokevirtual 994, .ireturn])]
def ex_b2 : List (Nat × List Instr) := [(0, [.aload 0, .getfield 0, .iload 1, .sipush 1, .invokevirtual 994, .ireturn])]
def ex_b3 : List (Nat × List Instr) := [(0, [.aload 0, .getfield 0, .iload 1, .sipush 2, .invokevirtual 994, .ireturn])]
def ex_b4 : List (Nat × List Instr) := [(0, [.sipush 4, .aload 0, .iload 1, .invokevirtual 33, .imul, .aload 0, .iload 1, .invokevirtual 49, .iadd, .ireturn])]
def ex_b5 : List (Nat × List Instr) := [(0, [.sipush 0, .istore 3, .jsr 2]),
  (2, [.iload 3, .aload 0, .getfield 0, .invokevirtual 944, .if_icmp .ge 42, .aload 1, .aload 0, .iload 3, .invokevirtual 17, .aload 0, .iload 3, .invokevirtual 65, .invokevirtual 402, .iload 2, .ishr, .sipush 1, .iand, .ifCond .eq 36, .iload 3, .ireturn]),
  (36, [.iinc 3 1, .goto 2]),
  (42, [.sipush (-1), .ireturn])]
def ex_b6 : List (Nat × List Instr) := [(0, [.aload 0, .sipush 0, .putfield 75, .sipush 0, .istore 2, .sipush 0, .istore 3, .sipush 0, .istore 4, .jsr 12]),
  (12, [.iload 4, .aload 1, .invokevirtual 896, .if_icmp .ge 77, .aload 1, .iload 4, .invokevirtual 913, .istore 5, .iload 5, .sipush 47, .if_icmp .ne 44, .iinc 2 1, .sipush 0, .istore 3, .goto 71]),
  (44, [.iload 5, .sipush 124, .if_icmp .ne 60, .aload 0, .iload 2, .iload 3, .invokevirtual 114, .goto 71]),
  (60, [.aload 0, .iload 5, .iload 2, .iload 3, .invokevirtual 131, .iinc 3 1, .jsr 71]),
  (71, [.iinc 4 1, .goto 12]),
  (77, [.aload 0, .iload 2, .sipush 1, .iadd, .putfield 76, .aload 0, .iload 3, .putfield 77, .aload 0, .invokevirtual 144, .aload 0, .invokevirtual 192, .return_])]
def ex_b7 : List (Nat × List Instr) := [(0, [.iload 1, .sipush 4, .invokestatic 1330, .ifCond .eq 15, .aload 0, .getfield 67, .iload 1, .iload 2, .iastore, .jsr 15]),
  (15, [.return_])]
def ex_b8 : List (Nat × List Instr) := [(0, [.aload 0, .getfield 75, .sipush 24, .if_icmp .lt 10, .return_]),
  (10, [.iload 1, .sipush 100, .if_icmp .ne 29, .aload 0, .getfield 64, .aload 0, .getfield 75, .sipush 2, .iastore, .goto 49]),
  (29, [.aload 0, .getfield 64, .aload 0, .getfield 75, .iload 1, .sipush 35, .if_icmp .ne 47, .sipush 1, .goto 48]),
  (47, [.sipush 0, .jsr 48]),
  (48, [.iastore, .jsr 49]),
  (49, [.aload 0, .getfield 65, .aload 0, .getfield 75, .iload 2, .iastore, .aload 0, .getfield 66, .aload 0, .getfield 75, .iload 3, .iastore, .aload 0, .dup, .getfield 75, .sipush 1, .iadd, .putfield 75, .return_])]
def ex_b9 : List (Nat × List Instr) := [(0, [.sipush 0, .istore 1, .jsr 2]),
  (2, [.iload 1, .sipush 96, .if_icmp .ge 25, .aload 0, .iload 1, .iload 1, .sipush 2, .ishr, .iload 1, .sipush 3, .iand, .invokevirtual 163, .iinc 1 1, .goto 2]),
  (25, [.return_])]
def ex_b10 : List (Nat × List Instr) := [(0, [.sipush (-1), .istore 4, .iload 2, .aload 0, .getfield 75, .if_icmp .ge 41, .aload 0, .aload 0, .getfield 65, .iload 2, .iaload, .getstatic 1000, .iload 3, .iaload, .iadd, .aload 0, .getfield 66, .iload 2, .iaload, .getstatic 1001, .iload 3, .iaload, .iadd, .invokevirtual 178, .istore 4, .jsr 41]),
  (41, [.aload 0, .getfield 68, .iload 1, .iload 4, .iastore, .aload 0, .getfield 69, .iload 1, .aload 0, .iload 4, .invokevirtual 289, .ifCond .eq 68, .iload 4, .goto 69]),
  (68, [.iload 2, .jsr 69]),
  (69, [.iastore, .aload 0, .getfield 70, .iload 1, .aload 0, .iload 2, .invokevirtual 305, .ifCond .eq 103, .aload 0, .iload 4, .invokevirtual 305, .ifCond .eq 103, .sipush 1, .iload 2, .ishl, .sipush 1, .iload 4, .ishl, .ior, .goto 104]),
  (103, [.sipush 0, .jsr 104]),
  (104, [.iastore, .aload 0, .getfield 71, .iload 1, .aload 0, .iload 2, .invokevirtual 305, .ifCond .eq 128, .iload 3, .ifCond .ne 128, .sipush 1, .iload 2, .ishl, .goto 129]),
  (128, [.sipush 0, .jsr 129]),
  (129, [.iastore, .return_])]
def ex_b11 : List (Nat × List Instr) := [(0, [.iload 1, .aload 0, .getfield 76, .invokestatic 1330, .ifCond .eq 33, .iload 2, .aload 0, .getfield 77, .invokestatic 1330, .ifCond .eq 33, .iload 1, .aload 0, .getfield 77, .imul, .iload 2, .iadd, .goto 34]),
  (33, [.sipush (-1), .jsr 34]),
  (34, [.ireturn])]
def ex_b12 : List (Nat × List Instr) := [(0, [.sipush 0, .istore 1, .jsr 2]),
  (2, [.iload 1, .sipush 24, .if_icmp .ge 29, .aload 0, .getfield 72, .iload 1, .sipush (-1), .iastore, .aload 0, .getfield 73, .iload 1, .sipush 1000000, .iastore, .iinc 1 1, .goto 2]),
  (29, [.sipush 0, .istore 1, .jsr 31]),
  (31, [.iload 1, .aload 0, .getfield 75, .if_icmp .ge 66, .iload 1, .sipush 24, .if_icmp .ge 66, .aload 0, .getfield 64, .iload 1, .iaload, .sipush 2, .if_icmp .ne 60, .aload 0, .iload 1, .invokevirtual 209, .jsr 60]),
  (60, [.iinc 1 1, .goto 31]),
  (66, [.return_])]
def ex_b13 : List (Nat × List Instr) := [(0, [.aload 0, .iload 1, .sipush 0, .sipush 0, .invokevirtual 419, .sipush 0, .istore 2, .jsr 9]),
  (9, [.iload 2, .aload 0, .getfield 75, .if_icmp .ge 63, .iload 2, .sipush 24, .if_icmp .ge 63, .aload 0, .getfield 74, .iload 2, .iaload, .aload 0, .getfield 73, .iload 2, .iaload, .if_icmp .ge 57, .aload 0, .getfield 73, .iload 2, .aload 0, .getfield 74, .iload 2, .iaload, .iastore, .aload 0, .getfield 72, .iload 2, .iload 1, .iastore, .jsr 57]),
  (57, [.iinc 2 1, .goto 9]),
  (63, [.return_])]
def ex_b14 : List (Nat × List Instr) := [(0, [.aload 0, .getfield 75, .ifCond .le 11, .sipush 1, .goto 12]),
  (11, [.sipush 0, .jsr 12]),
  (12, [.areturn])]
def ex_b15 : List (Nat × List Instr) := [(0, [.aload 0, .getfield 75, .ireturn])]
def ex_b16 : List (Nat × List Instr) := [(0, [.iload 1, .aload 0, .getfield 75, .invokestatic 1330, .areturn])]
def ex_b17 : List (Nat × List Instr) := [(0, [.iload 1, .ifCond .lt 27, .iload 1, .aload 0, .getfield 75, .if_icmp .ge 27, .iload 1, .sipush 24, .if_icmp .ge 27, .aload 0, .getfield 64, .iload 1, .iaload, .goto 28]),
  (27, [.sipush 1, .jsr 28]),
  (28, [.ireturn])]
def ex_b18 : List (Nat × List Instr) := [(0, [.aload 0, .iload 1, .invokevirtual 273, .sipush 1, .if_icmp .eq 13, .sipush 1, .goto 14]),
  (13, [.sipush 0, .jsr 14]),
  (14, [.areturn])]
def ex_b19 : List (Nat × List Instr) := [(0, [.aload 0, .iload 1, .invokevirtual 273, .ifCond .ne 12, .sipush 1, .goto 13]),
  (12, [.sipush 0, .jsr 13]),
  (13, [.areturn])]
def ex_b20 : List (Nat × List Instr) := [(0, [.iload 1, .aload 0, .getfield 75, .invokestatic 1330, .ifCond .eq 30, .iload 1, .sipush 24, .if_icmp .ge 30, .aload 0, .getfield 65, .iload 1, .iaload, .sipush 4, .invokestatic 1330, .ifCond .ne 32, .jsr 30]),
  (30, [.sipush (-1), .ireturn]),
  (32, [.aload 0, .getfield 66, .iload 1, .iaload, .aload 0, .getfield 67, .aload 0, .getfield 65, .iload 1, .iaload, .iaload, .iload 2, .iadd, .if_icmp .ge 58, .sipush 0, .goto 59]),
  (58, [.sipush 1, .jsr 59]),
  (59, [.ireturn])]
def ex_b21 : List (Nat × List Instr) := [(0, [.sipush 4, .iload 1, .imul, .iload 2, .iadd, .istore 3, .iload 2, .sipush 4, .invokestatic 1330, .ifCond .eq 32, .iload 3, .sipush 96, .invokestatic 1330, .ifCond .eq 32, .aload 0, .getfield 68, .iload 3, .iaload, .goto 33]),
  (32, [.sipush (-1), .jsr 33]),
  (33, [.ireturn])]
def ex_b22 : List (Nat × List Instr) := [(0, [.iload 2, .sipush 96, .invokestatic 1330, .ifCond .ne 11, .sipush (-1), .ireturn]),
  (11, [.iload 3, .tableswitch 83 1 3 #[40, 54, 69]]),
  (40, [.iload 1, .ifCond .ne 48, .sipush 1, .goto 49]),
  (48, [.sipush 0, .jsr 49]),
  (49, [.istore 4, .goto 86]),
  (54, [.iload 1, .sipush 1, .if_icmp .ne 63, .sipush 1, .goto 64]),
  (63, [.sipush 0, .jsr 64]),
  (64, [.istore 4, .goto 86]),
  (69, [.iload 1, .ifCond .eq 77, .sipush 1, .goto 78]),
  (77, [.sipush 0, .jsr 78]),
  (78, [.istore 4, .goto 86]),
  (83, [.sipush 0, .istore 4, .jsr 86]),
  (86, [.iload 4, .ifCond .eq 100, .aload 0, .getfield 69, .iload 2, .iaload, .goto 103]),
  (100, [.iload 2, .sipush 2, .ishr, .jsr 103]),
  (103, [.ireturn])]
def ex_b23 : List (Nat × List Instr) := [(0, [.iload 1, .ifCond .lt 19, .iload 1, .sipush 24, .if_icmp .ge 19, .aload 0, .getfield 72, .iload 1, .iaload, .goto 20]),
  (19, [.sipush (-1), .jsr 20]),
  (20, [.ireturn])]
def ex_b24 : List (Nat × List Instr) := [(0, [.aload 0, .iload 1, .invokevirtual 369, .istore 2, .iload 2, .sipush (-1), .if_icmp .ne 15, .iload 1, .goto 16]),
  (15, [.iload 2, .jsr 16]),
  (16, [.ireturn])]
def ex_b25 : List (Nat × List Instr) := [(0, [.iload 2, .sipush 96, .invokestatic 1330, .ifCond .ne 11, .sipush 0, .ireturn]),
  (11, [.iload 1, .sipush 1, .if_icmp .ne 25, .aload 0, .getfield 70, .iload 2, .iaload, .goto 31]),
  (25, [.aload 0, .getfield 71, .iload 2, .iaload, .jsr 31]),
  (31, [.ireturn])]
def ex_b26 : List (Nat × List Instr) := [(0, [.sipush 0, .istore 4, .jsr 3]),
  (3, [.iload 4, .sipush 24, .if_icmp .ge 35, .aload 0, .getfield 74, .iload 4, .iload 4, .iload 1, .if_icmp .ne 26, .sipush 0, .goto 28]),
  (26, [.sipush 1000000, .jsr 28]),
  (28, [.iastore, .iinc 4 1, .goto 3]),
  (35, [.sipush 1, .istore 4, .sipush 0, .istore 5, .jsr 41]),
  (41, [.iload 4, .ifCond .eq 139, .iload 5, .sipush 24, .if_icmp .ge 139, .sipush 0, .istore 4, .sipush 0, .istore 6, .jsr 59]),
  (59, [.iload 6, .aload 0, .getfield 75, .if_icmp .ge 133, .iload 6, .sipush 24, .if_icmp .ge 133, .iload 6, .iload 1, .if_icmp .eq 90, .iload 3, .iload 6, .ishr, .sipush 1, .iand, .ifCond .ne 94, .jsr 90]),
  (90, [.sipush 1, .goto 95]),
  (94, [.sipush 0, .jsr 95]),
  (95, [.istore 7, .iload 7, .ifCond .eq 127, .aload 0, .getfield 74, .iload 6, .iaload, .sipush 1000000, .if_icmp .ge 127, .aload 0, .iload 6, .iload 2, .invokevirtual 434, .ifCond .eq 127, .sipush 1, .istore 4, .jsr 127]),
  (127, [.iinc 6 1, .goto 59]),
  (133, [.iinc 5 1, .goto 41]),
  (139, [.return_])]
def ex_b27 : List (Nat × List Instr) := [(0, [.sipush 0, .istore 3, .sipush 0, .istore 4, .jsr 5]),
  (5, [.iload 4, .sipush 4, .if_icmp .ge 116, .aload 0, .iload 1, .iload 4, .invokevirtual 338, .istore 5, .iload 5, .sipush 24, .invokestatic 1330, .ifCond .eq 110, .iload 1, .sipush 24, .invokestatic 1330, .ifCond .eq 110, .aload 0, .iload 5, .invokevirtual 289, .ifCond .eq 110, .aload 0, .iload 1, .sipush 0, .invokevirtual 322, .aload 0, .iload 5, .sipush 0, .invokevirtual 322, .if_icmp .ne 68, .sipush 1, .goto 71]),
  (68, [.sipush 1, .iload 2, .iadd, .jsr 71]),
  (71, [.istore 6, .aload 0, .getfield 74, .iload 1, .iaload, .iload 6, .iadd, .aload 0, .getfield 74, .iload 5, .iaload, .if_icmp .ge 110, .aload 0, .getfield 74, .iload 5, .aload 0, .getfield 74, .iload 1, .iaload, .iload 6, .iadd, .iastore, .sipush 1, .istore 3, .jsr 110]),
  (110, [.iinc 4 1, .goto 5]),
  (116, [.iload 3, .areturn])]
def ex_b28 : List (Nat × List Instr) := [(0, [.aload 0, .sipush 0, .putfield 128, .aload 0, .sipush (-1), .putfield 129, .aload 0, .sipush 0, .putfield 130, .aload 0, .sipush 0, .putfield 131, .return_])]
def ex_b29 : List (Nat × List Instr) := [(0, [.iload 1, .lookupswitch 67 #[(35, 62), (46, 62), (47, 57), (100, 62), (124, 52)]]),
  (52, [.aload 0, .invokevirtual 480, .areturn]),
  (57, [.aload 0, .invokevirtual 496, .areturn]),
  (62, [.aload 0, .invokevirtual 512, .areturn]),
  (67, [.sipush 0, .areturn])]
def ex_b30 : List (Nat × List Instr) := [(0, [.aload 0, .getfield 131, .ifCond .eq 9, .sipush 0, .areturn]),
  (9, [.aload 0, .sipush 1, .putfield 131, .sipush 1, .areturn])]
def ex_b31 : List (Nat × List Instr) := [(0, [.aload 0, .getfield 128, .sipush 1, .iadd, .sipush 4, .if_icmp .ge 17, .aload 0, .invokevirtual 528, .ifCond .ne 19, .jsr 17]),
  (17, [.sipush 0, .areturn]),
  (19, [.aload 0, .aload 0, .getfield 130, .putfield 129, .aload 0, .dup, .getfield 128, .sipush 1, .iadd, .putfield 128, .aload 0, .sipush 0, .putfield 130, .aload 0, .sipush 0, .putfield 131, .sipush 1, .areturn])]
def ex_b32 : List (Nat × List Instr) := [(0, [.aload 0, .getfield 130, .aload 0, .getfield 129, .sipush (-1), .if_icmp .ne 17, .sipush 6, .goto 21]),
  (17, [.aload 0, .getfield 129, .jsr 21]),
  (21, [.if_icmp .lt 26, .sipush 0, .areturn]),
  (26, [.aload 0, .dup, .getfield 130, .sipush 1, .iadd, .putfield 130, .sipush 1, .areturn])]
def ex_b33 : List (Nat × List Instr) := [(0, [.aload 0, .getfield 131, .ifCond .eq 41, .aload 0, .getfield 129, .sipush (-1), .if_icmp .ne 26, .aload 0, .getfield 130, .sipush 2, .if_icmp .lt 41, .goto 37]),
  (26, [.aload 0, .getfield 130, .aload 0, .getfield 129, .if_icmp .ne 41, .jsr 37]),
  (37, [.sipush 1, .goto 42]),
  (41, [.sipush 0, .jsr 42]),
  (42, [.areturn])]
def ex_b34 : List (Nat × List Instr) := [(0, [.aload 0, .getfield 128, .sipush 1, .iadd, .sipush 2, .if_icmp .lt 21, .aload 0, .invokevirtual 528, .ifCond .eq 21, .sipush 1, .goto 22]),
  (21, [.sipush 0, .jsr 22]),
  (22, [.areturn])]
def ex_b35 : List (Nat × List Instr) := [(0, [.aload 0, .sipush 0, .putfield 256, .aload 0, .sipush 0, .putfield 257, .aload 0, .sipush 0, .putfield 258, .aload 0, .sipush 0, .putfield 259, .aload 0, .sipush 0, .putfield 260, .aload 0, .sipush 0, .putfield 261, .aload 0, .sipush 0, .putfield 262, .return_])]
def ex_b36 : List (Nat × List Instr) := [(0, [.aload 0, .getfield 261, .tableswitch 60 0 3 #[36, 42, 48, 54]]),
  (36, [.aload 0, .iload 1, .invokevirtual 593, .areturn]),
  (42, [.aload 0, .iload 1, .invokevirtual 609, .areturn]),
  (48, [.aload 0, .iload 1, .invokevirtual 625, .areturn]),
  (54, [.aload 0, .iload 1, .invokevirtual 641, .areturn]),
  (60, [.sipush 0, .areturn])]
def ex_b37 : List (Nat × List Instr) := [(0, [.iload 1, .sipush 119, .if_icmp .eq 14, .iload 1, .sipush 101, .if_icmp .eq 14, .sipush 0, .areturn]),
  (14, [.aload 0, .iload 1, .sipush 119, .if_icmp .ne 25, .sipush 0, .goto 26]),
  (25, [.sipush 1, .jsr 26]),
  (26, [.putfield 256, .aload 0, .sipush 1, .putfield 261, .sipush 1, .areturn])]
def ex_b38 : List (Nat × List Instr) := [(0, [.iload 1, .sipush 97, .if_icmp .lt 12, .iload 1, .sipush 102, .if_icmp .le 14, .jsr 12]),
  (12, [.sipush 0, .areturn]),
  (14, [.aload 0, .iload 1, .sipush 97, .isub, .putfield 257, .aload 0, .sipush 2, .putfield 261, .sipush 1, .areturn])]
def ex_b39 : List (Nat × List Instr) := [(0, [.iload 1, .sipush 45, .if_icmp .ne 25, .aload 0, .getfield 262, .ifCond .le 25, .aload 0, .sipush 3, .putfield 261, .aload 0, .sipush 0, .putfield 262, .sipush 1, .areturn]),
  (25, [.aload 0, .aload 0, .getfield 258, .iload 1, .invokevirtual 658, .istore 2, .iload 2, .sipush (-1), .if_icmp .ne 42, .sipush 0, .areturn]),
  (42, [.aload 0, .iload 2, .putfield 258, .aload 0, .dup, .getfield 262, .sipush 1, .iadd, .putfield 262, .sipush 1, .areturn])]
def ex_b40 : List (Nat × List Instr) := [(0, [.aload 0, .getfield 262, .ifCond .le 30, .iload 1, .invokestatic 673, .sipush (-1), .if_icmp .eq 30, .aload 0, .iload 1, .invokestatic 673, .putfield 260, .aload 0, .sipush 5, .putfield 261, .sipush 1, .areturn]),
  (30, [.aload 0, .aload 0, .getfield 259, .iload 1, .invokevirtual 658, .istore 2, .iload 2, .sipush (-1), .if_icmp .ne 47, .sipush 0, .areturn]),
  (47, [.aload 0, .iload 2, .putfield 259, .aload 0, .dup, .getfield 262, .sipush 1, .iadd, .putfield 262, .sipush 1, .areturn])]
def ex_b41 : List (Nat × List Instr) := [(0, [.iload 2, .sipush 48, .if_icmp .lt 12, .iload 2, .sipush 57, .if_icmp .le 14, .jsr 12]),
  (12, [.sipush (-1), .ireturn]),
  (14, [.aload 0, .getfield 262, .ifCond .ne 26, .iload 2, .sipush 48, .isub, .ireturn]),
  (26, [.sipush 10, .iload 1, .imul, .iload 2, .iadd, .sipush 48, .isub, .istore 3, .aload 0, .getfield 262, .sipush 1, .if_icmp .ne 58, .iload 1, .ifCond .eq 58, .iload 3, .sipush 24, .if_icmp .ge 58, .iload 3, .goto 59]),
  (58, [.sipush (-1), .jsr 59]),
  (59, [.ireturn])]
def ex_b42 : List (Nat × List Instr) := [(0, [.iload 0, .tableswitch 64 102 111 #[60, 64, 56, 64, 64, 64, 64, 64, 58, 62]]),
  (56, [.sipush 1, .ireturn]),
  (58, [.sipush 2, .ireturn]),
  (60, [.sipush 3, .ireturn]),
  (62, [.sipush 4, .ireturn]),
  (64, [.sipush (-1), .ireturn])]
def ex_b43 : List (Nat × List Instr) := [(0, [.aload 0, .getfield 261, .sipush 5, .if_icmp .eq 23, .aload 0, .getfield 261, .sipush 3, .if_icmp .ne 27, .aload 0, .getfield 262, .ifCond .le 27, .jsr 23]),
  (23, [.sipush 1, .goto 28]),
  (27, [.sipush 0, .jsr 28]),
  (28, [.areturn])]
def ex_b44 : List (Nat × List Instr) := [(0, [.iload 1, .tableswitch 52 0 3 #[32, 37, 42, 47]]),
  (32, [.aload 0, .getfield 256, .ireturn]),
  (37, [.aload 0, .getfield 257, .ireturn]),
  (42, [.aload 0, .getfield 258, .ireturn]),
  (47, [.aload 0, .getfield 259, .ireturn]),
  (52, [.aload 0, .getfield 260, .ireturn])]
def ex_b45 : List (Nat × List Instr) := [(0, [.iload 1, .ifCond .eq 19, .iload 0, .iload 1, .if_icmp .eq 19, .iload 0, .sipush 3, .if_icmp .ne 23, .iload 1, .sipush 1, .if_icmp .ne 23, .jsr 19]),
  (19, [.sipush 1, .goto 24]),
  (23, [.sipush 0, .jsr 24]),
  (24, [.areturn])]
def ex_b46 : List (Nat × List Instr) := [(0, [.aload 0, .getfield 320, .invokevirtual 944, .ireturn])]
def ex_b47 : List (Nat × List Instr) := [(0, [.aload 0, .getfield 320, .invokevirtual 960, .areturn])]
def ex_b48 : List (Nat × List Instr) := [(0, [.aload 0, .getfield 320, .aload 1, .sipush 0, .invokevirtual 705, .aload 1, .sipush 1, .invokevirtual 705, .aload 1, .sipush 2, .invokevirtual 705, .aload 1, .sipush 3, .invokevirtual 705, .aload 1, .sipush 4, .invokevirtual 705, .invokevirtual 981, .ireturn])]
def ex_b49 : List (Nat × List Instr) := [(0, [.aload 0, .getfield 320, .iload 1, .iload 2, .invokevirtual 994, .ireturn])]
def ex_b50 : List (Nat × List Instr) := [(0, [.sipush 0, .istore 7, .sipush 0, .istore 8, .jsr 6]),
  (6, [.iload 8, .aload 0, .getfield 320, .invokevirtual 944, .if_icmp .ge 73, .aload 0, .getfield 320, .iload 8, .sipush 1, .invokevirtual 994, .iload 2, .if_icmp .ne 67, .aload 0, .iload 8, .iload 3, .invokevirtual 818, .ifCond .eq 67, .aload 0, .aload 1, .iload 8, .iload 4, .iload 5, .iload 6, .invokevirtual 837, .ifCond .eq 67, .iload 7, .sipush 1, .iload 8, .ishl, .ior, .istore 7, .jsr 67]),
  (67, [.iinc 8 1, .goto 6]),
  (73, [.iload 7, .ireturn])]
def ex_b51 : List (Nat × List Instr) := [(0, [.aload 0, .getfield 320, .iload 1, .sipush 2, .invokevirtual 994, .istore 3, .aload 0, .getfield 320, .iload 1, .sipush 3, .invokevirtual 994, .istore 4, .iload 3, .iload 4, .if_icmp .ge 44, .iload 2, .iload 3, .if_icmp .lt 42, .iload 2, .iload 4, .if_icmp .ge 42, .sipush 1, .goto 43]),
  (42, [.sipush 0, .jsr 43]),
  (43, [.areturn]),
  (44, [.iload 3, .iload 4, .if_icmp .eq 61, .iload 2, .iload 3, .if_icmp .ge 61, .iload 2, .iload 4, .if_icmp .ge 65, .jsr 61]),
  (61, [.sipush 1, .goto 66]),
  (65, [.sipush 0, .jsr 66]),
  (66, [.areturn])]
def ex_b52 : List (Nat × List Instr) := [(0, [.aload 0, .getfield 320, .iload 2, .sipush 0, .invokevirtual 994, .istore 6, .iload 4, .sipush 2, .ishr, .istore 7, .aload 0, .getfield 320, .iload 2, .sipush 4, .invokevirtual 994, .tableswitch 180 1 4 #[56, 75, 100, 157]]),
  (56, [.aload 1, .iload 7, .iload 5, .invokevirtual 322, .iload 6, .if_icmp .ne 73, .sipush 1, .goto 74]),
  (73, [.sipush 0, .jsr 74]),
  (74, [.areturn]),
  (75, [.aload 1, .aload 1, .iload 3, .iload 4, .sipush 1, .invokevirtual 355, .iload 5, .invokevirtual 322, .iload 6, .if_icmp .ne 98, .sipush 1, .goto 99]),
  (98, [.sipush 0, .jsr 99]),
  (99, [.areturn]),
  (100, [.aload 1, .iload 7, .iload 5, .invokevirtual 322, .iload 6, .if_icmp .ne 155, .aload 1, .aload 1, .iload 3, .iload 4, .sipush 2, .invokevirtual 355, .iload 5, .invokevirtual 322, .iload 6, .if_icmp .ne 155, .aload 1, .aload 1, .iload 3, .iload 4, .sipush 3, .invokevirtual 355, .iload 5, .invokevirtual 322, .iload 6, .if_icmp .ne 155, .sipush 1, .goto 156]),
  (155, [.sipush 0, .jsr 156]),
  (156, [.areturn]),
  (157, [.aload 1, .aload 1, .iload 7, .invokevirtual 385, .iload 5, .invokevirtual 322, .iload 6, .if_icmp .ne 178, .sipush 1, .goto 179]),
  (178, [.sipush 0, .jsr 179]),
  (179, [.areturn]),
  (180, [.sipush 1, .areturn])]
def ex_b53 : List (Nat × List Instr) := [(0, [.sipush 0, .istore 2, .sipush 0, .istore 3, .sipush 0, .istore 4, .jsr 7]),
  (7, [.iload 4, .sipush 8, .if_icmp .ge 59, .lload 0, .iload 4, .invokestatic 866, .istore 5, .iload 5, .sipush 126, .if_icmp .gt 38, .iload 3, .ifCond .eq 40, .iload 5, .ifCond .eq 40, .jsr 38]),
  (38, [.sipush (-1), .ireturn]),
  (40, [.iload 5, .ifCond .ne 50, .sipush 1, .istore 3, .goto 53]),
  (50, [.iinc 2 1, .jsr 53]),
  (53, [.iinc 4 1, .goto 7]),
  (59, [.iload 2, .ireturn])]
def ex_b54 : List (Nat × List Instr) := [(0, [.lload 0, .sipush 8, .iload 2, .imul, .lushr, .l2i, .sipush 255, .iand, .ireturn])]
def ex_b55 : List (Nat × List Instr) := [(0, [.sipush 0, .istore 4, .jsr 3]),
  (3, [.iload 4, .iload 3, .if_icmp .ge 49, .aload 0, .getfield 449, .sipush 40, .if_icmp .ge 49, .aload 0, .getfield 448, .aload 0, .getfield 449, .lload 1, .iload 4, .invokestatic 866, .iastore, .aload 0, .dup, .getfield 449, .sipush 1, .iadd, .putfield 449, .iinc 4 1, .goto 3]),
  (49, [.return_])]
def ex_b56 : List (Nat × List Instr) := [(0, [.aload 0, .getfield 449, .ireturn])]
def ex_b57 : List (Nat × List Instr) := [(0, [.iload 1, .aload 0, .getfield 449, .invokestatic 1330, .ifCond .eq 20, .aload 0, .getfield 448, .iload 1, .iaload, .goto 21]),
  (20, [.sipush 0, .jsr 21]),
  (21, [.ireturn])]
def ex_b58 : List (Nat × List Instr) := [(0, [.aload 0, .sipush 0, .putfield 449, .return_])]
def ex_b59 : List (Nat × List Instr) := [(0, [.aload 0, .getfield 514, .ireturn])]
def ex_b60 : List (Nat × List Instr) := [(0, [.aload 0, .getfield 514, .aload 0, .getfield 513, .if_icmp .ge 24, .aload 0, .getfield 514, .sipush 1, .iadd, .sipush 5, .imul, .sipush 60, .if_icmp .le 28, .jsr 24]),
  (24, [.sipush 1, .goto 29]),
  (28, [.sipush 0, .jsr 29]),
  (29, [.areturn])]
def ex_b61 : List (Nat × List Instr) := [(0, [.aload 0, .invokevirtual 960, .ifCond .eq 9, .sipush (-1), .ireturn]),
  (9, [.aload 0, .getfield 514, .istore 6, .aload 0, .dup, .getfield 514, .sipush 1, .iadd, .putfield 514, .aload 0, .iload 6, .sipush 0, .iload 1, .invokevirtual 1011, .aload 0, .iload 6, .sipush 1, .iload 2, .invokevirtual 1011, .aload 0, .iload 6, .sipush 2, .iload 3, .invokevirtual 1011, .aload 0, .iload 6, .sipush 3, .iload 4, .invokevirtual 1011, .aload 0, .iload 6, .sipush 4, .iload 5, .invokevirtual 1011, .iload 6, .ireturn])]
def ex_b62 : List (Nat × List Instr) := [(0, [.iload 1, .sipush 5, .imul, .iload 2, .iadd, .istore 3, .iload 1, .aload 0, .getfield 514, .invokestatic 1330, .ifCond .eq 35, .iload 3, .sipush 60, .invokestatic 1330, .ifCond .eq 35, .aload 0, .getfield 512, .iload 3, .iaload, .goto 36]),
  (35, [.sipush (-1), .jsr 36]),
  (36, [.ireturn])]
def ex_b63 : List (Nat × List Instr) := [(0, [.iload 1, .sipush 5, .imul, .iload 2, .iadd, .istore 4, .iload 1, .aload 0, .getfield 514, .invokestatic 1330, .ifCond .eq 36, .iload 4, .sipush 60, .invokestatic 1330, .ifCond .eq 36, .aload 0, .getfield 512, .iload 4, .iload 3, .iastore, .jsr 36]),
  (36, [.return_])]
def ex_b64 : List (Nat × List Instr) := [(0, [.aload 0, .sipush 0, .putfield 514, .return_])]
def ex_b65 : List (Nat × List Instr) := [(0, [.aload 0, .invokeinterface 1 0, .sipush 0, .istore 2, .jsr 6]),
  (6, [.iload 2, .aload 1, .invokevirtual 896, .if_icmp .ge 34, .aload 0, .aload 1, .iload 2, .invokevirtual 913, .invokeinterface 2 1, .ifCond .ne 28, .iload 2, .ireturn]),
  (28, [.iinc 2 1, .goto 6]),
  (34, [.aload 1, .invokevirtual 896, .ireturn])]
def ex_b66 : List (Nat × List Instr) := [(0, [.aload 0, .aload 1, .invokeinterface 5 1, .aload 1, .invokevirtual 896, .if_icmp .ne 23, .aload 0, .invokeinterface 6 0, .ifCond .eq 23, .sipush 1, .goto 24]),
  (23, [.sipush 0, .jsr 24]),
  (24, [.areturn])]
def ex_b67 : List (Nat × List Instr) := [(0, [.lload 1, .invokestatic 849, .istore 3, .iload 3, .ifCond .ge 12, .sipush (-102), .ireturn]),
  (12, [.aload 0, .getfield 640, .invokevirtual 896, .iload 3, .iadd, .sipush 40, .if_icmp .le 29, .sipush (-104), .ireturn]),
  (29, [.aload 0, .getfield 640, .lload 1, .iload 3, .invokevirtual 882, .aload 0, .getfield 640, .invokevirtual 896, .ireturn])]
def ex_b68 : List (Nat × List Instr) := [(0, [.iload 1, .sipush 2, .invokestatic 1330, .ifCond .ne 11, .sipush (-102), .ireturn]),
  (11, [.iload 1, .ifCond .ne 29, .aload 0, .getfield 641, .aload 0, .getfield 640, .invokeinterface 0 1, .goto 40]),
  (29, [.aload 0, .getfield 642, .aload 0, .getfield 640, .invokeinterface 3 1, .jsr 40]),
  (40, [.ireturn])]
def ex_b69 : List (Nat × List Instr) := [(0, [.aload 0, .getfield 641, .aload 0, .getfield 640, .invokeinterface 4 1, .ifCond .ne 17, .sipush (-103), .ireturn]),
  (17, [.aload 0, .getfield 643, .aload 0, .getfield 640, .invokevirtual 97, .aload 0, .getfield 640, .invokevirtual 928, .aload 0, .getfield 645, .invokevirtual 0, .aload 0, .sipush 0, .putfield 649, .aload 0, .dup, .getfield 650, .sipush 1, .iadd, .putfield 650, .aload 0, .getfield 643, .invokevirtual 240, .ireturn])]
def ex_b70 : List (Nat × List Instr) := [(0, [.aload 0, .getfield 642, .aload 0, .getfield 640, .invokeinterface 7 1, .ifCond .ne 17, .sipush (-103), .ireturn]),
  (17, [.aload 0, .getfield 644, .invokevirtual 752, .ifCond .eq 30, .sipush (-104), .ireturn]),
  (30, [.aload 0, .getfield 640, .invokevirtual 928, .aload 0, .getfield 644, .aload 0, .getfield 642, .invokevirtual 769, .ireturn])]
def ex_b71 : List (Nat × List Instr) := [(0, [.iload 1, .aload 0, .getfield 644, .invokevirtual 736, .invokestatic 1330, .ifCond .ne 17, .sipush (-101), .ireturn]),
  (17, [.iload 2, .sipush 5, .invokestatic 1330, .ifCond .eq 37, .aload 0, .getfield 644, .iload 1, .iload 2, .invokevirtual 786, .goto 39]),
  (37, [.sipush (-102), .jsr 39]),
  (39, [.ireturn])]
def ex_b72 : List (Nat × List Instr) := [(0, [.iload 1, .aload 0, .getfield 644, .invokevirtual 736, .invokestatic 1330, .ifCond .ne 17, .sipush (-101), .ireturn]),
  (17, [.iload 2, .sipush 5, .invokestatic 1330, .ifCond .ne 28, .sipush (-102), .ireturn]),
  (28, [.aload 0, .getfield 644, .iload 1, .sipush 4, .invokevirtual 786, .iload 2, .invokestatic 722, .ifCond .eq 48, .iload 1, .goto 49]),
  (48, [.sipush (-1), .jsr 49]),
  (49, [.ireturn])]
def ex_b73 : List (Nat × List Instr) := [(0, [.aload 0, .getfield 643, .iload 1, .invokevirtual 257, .ifCond .ne 14, .sipush (-101), .ireturn]),
  (14, [.iload 2, .sipush 4, .invokestatic 1330, .ifCond .eq 31, .aload 0, .iload 1, .iload 2, .invokevirtual 1378, .goto 33]),
  (31, [.sipush (-102), .jsr 33]),
  (33, [.ireturn])]
def ex_b74 : List (Nat × List Instr) := [(0, [.aload 0, .getfield 643, .iload 2, .invokevirtual 289, .ifCond .ne 14, .sipush (-101), .ireturn]),
  (14, [.iload 1, .sipush 3, .invokestatic 1330, .ifCond .eq 39, .iload 3, .sipush 4, .invokestatic 1330, .ifCond .eq 39, .iload 4, .sipush 4, .invokestatic 1330, .ifCond .ne 42, .jsr 39]),
  (39, [.sipush (-102), .ireturn]),
  (42, [.aload 0, .getfield 643, .iload 1, .sipush 4, .iload 2, .imul, .iload 3, .iadd, .iload 4, .invokevirtual 355, .ireturn])]
def ex_b75 : List (Nat × List Instr) := [(0, [.aload 0, .getfield 643, .iload 4, .invokevirtual 289, .ifCond .ne 15, .sipush (-101), .ireturn]),
  (15, [.iload 1, .iload 2, .iload 3, .invokestatic 1347, .ifCond .eq 33, .iload 5, .sipush 4, .invokestatic 1330, .ifCond .ne 36, .jsr 33]),
  (33, [.sipush (-102), .ireturn]),
  (36, [.aload 0, .getfield 644, .aload 0, .getfield 643, .iload 1, .iload 2, .iload 3, .sipush 4, .iload 4, .imul, .iload 5, .iadd, .sipush 0, .invokevirtual 806, .ireturn])]
def ex_b76 : List (Nat × List Instr) := [(0, [.aload 0, .getfield 643, .iload 4, .invokevirtual 289, .ifCond .ne 15, .sipush (-101), .ireturn]),
  (15, [.iload 2, .iload 1, .iload 3, .invokestatic 1347, .ifCond .eq 33, .iload 5, .sipush 4, .invokestatic 1330, .ifCond .ne 36, .jsr 33]),
  (33, [.sipush (-102), .ireturn]),
  (36, [.aload 0, .getfield 645, .getfield 1, .invokevirtual 960, .ifCond .eq 52, .sipush (-104), .ireturn]),
  (52, [.aload 0, .getfield 645, .getfield 1, .iload 1, .iload 2, .iload 3, .iload 4, .iload 5, .invokevirtual 981, .ireturn])]
def ex_b77 : List (Nat × List Instr) := [(0, [.iload 1, .sipush 2, .invokestatic 1330, .ifCond .ne 11, .sipush (-102), .ireturn]),
  (11, [.aload 0, .invokevirtual 1408, .istore 2, .iload 2, .sipush (-1), .if_icmp .eq 25, .iload 1, .ifCond .ne 27, .jsr 25]),
  (25, [.iload 2, .ireturn]),
  (27, [.aload 0, .iload 2, .sipush 0, .invokevirtual 1394, .invokestatic 1361, .ireturn])]
def ex_b78 : List (Nat × List Instr) := [(0, [.aload 0, .getfield 643, .invokevirtual 224, .ifCond .ne 13, .sipush (-103), .ireturn]),
  (13, [.iload 1, .iload 2, .iload 3, .invokestatic 1347, .ifCond .eq 31, .iload 4, .sipush 3, .invokestatic 1330, .ifCond .ne 34, .jsr 31]),
  (31, [.sipush (-102), .ireturn]),
  (34, [.sipush 0, .istore 5, .sipush 0, .istore 6, .jsr 40]),
  (40, [.iload 6, .aload 0, .getfield 643, .invokevirtual 240, .if_icmp .ge 87, .aload 0, .getfield 643, .iload 6, .invokevirtual 289, .ifCond .eq 81, .aload 0, .iload 1, .iload 2, .iload 3, .iload 6, .invokevirtual 1428, .iload 4, .if_icmp .ne 81, .iinc 5 1, .jsr 81]),
  (81, [.iinc 6 1, .goto 40]),
  (87, [.iload 5, .ireturn])]
def ex_b79 : List (Nat × List Instr) := [(0, [.aload 0, .getfield 643, .invokevirtual 224, .ifCond .ne 13, .sipush (-103), .ireturn]),
  (13, [.iload 1, .sipush (-3), .if_icmp .lt 24, .iload 1, .sipush 3, .if_icmp .le 27, .jsr 24]),
  (24, [.sipush (-102), .ireturn]),
  (27, [.sipush 0, .istore 2, .sipush 0, .istore 3, .jsr 31]),
  (31, [.iload 3, .aload 0, .getfield 645, .getfield 1, .invokevirtual 944, .if_icmp .ge 66, .aload 0, .iload 3, .iload 1, .invokevirtual 1394, .ifCond .eq 60, .iload 2, .sipush 1, .iload 3, .ishl, .ior, .istore 2, .jsr 60]),
  (60, [.iinc 3 1, .goto 31]),
  (66, [.iload 2, .ireturn])]
def ex_b80 : List (Nat × List Instr) := [(0, [.aload 0, .getfield 643, .iload 1, .invokevirtual 257, .ifCond .ne 14, .sipush (-101), .ireturn]),
  (14, [.iload 2, .sipush 2, .invokestatic 1330, .ifCond .ne 25, .sipush (-102), .ireturn]),
  (25, [.aload 0, .getfield 645, .getfield 3, .invokevirtual 960, .ifCond .eq 41, .sipush (-104), .ireturn]),
  (41, [.aload 0, .getfield 645, .getfield 3, .iload 1, .iload 2, .sipush 0, .sipush 0, .sipush 0, .invokevirtual 981, .pop, .aload 0, .getfield 645, .getfield 3, .invokevirtual 944, .ireturn])]
def ex_b81 : List (Nat × List Instr) := [(0, [.aload 0, .getfield 643, .invokevirtual 224, .ifCond .eq 17, .aload 0, .invokevirtual 1440, .goto 19]),
  (17, [.sipush (-103), .jsr 19]),
  (19, [.ireturn])]
def ex_b82 : List (Nat × List Instr) := [(0, [.iload 1, .tableswitch 130 0 8 #[52, 60, 68, 79, 90, 101, 112, 120, 125]]),
  (52, [.aload 0, .getfield 643, .invokevirtual 240, .ireturn]),
  (60, [.aload 0, .getfield 644, .invokevirtual 736, .ireturn]),
  (68, [.aload 0, .getfield 645, .getfield 1, .invokevirtual 944, .ireturn]),
  (79, [.aload 0, .getfield 645, .getfield 0, .invokevirtual 944, .ireturn]),
  (90, [.aload 0, .getfield 645, .getfield 2, .invokevirtual 944, .ireturn]),
  (101, [.aload 0, .getfield 645, .getfield 3, .invokevirtual 944, .ireturn]),
  (112, [.aload 0, .getfield 640, .invokevirtual 896, .ireturn]),
  (120, [.aload 0, .getfield 650, .ireturn]),
  (125, [.aload 0, .getfield 651, .ireturn]),
  (130, [.sipush (-102), .ireturn])]
def ex_b83 : List (Nat × List Instr) := [(0, [.iload 0, .ifCond .lt 13, .iload 0, .iload 1, .if_icmp .ge 13, .sipush 1, .goto 14]),
  (13, [.sipush 0, .jsr 14]),
  (14, [.areturn])]
def ex_b84 : List (Nat × List Instr) := [(0, [.iload 0, .sipush 6, .invokestatic 1330, .ifCond .eq 30, .iload 1, .sipush 24, .invokestatic 1330, .ifCond .eq 30, .iload 2, .sipush 3, .invokestatic 1330, .ifCond .eq 30, .sipush 1, .goto 31]),
  (30, [.sipush 0, .jsr 31]),
  (31, [.areturn])]
def ex_b85 : List (Nat × List Instr) := [(0, [.sipush 0, .istore 1, .jsr 2]),
  (2, [.iload 1, .sipush 32, .if_icmp .ge 24, .iload 0, .iload 1, .ishr, .sipush 1, .iand, .ifCond .eq 18, .iload 1, .ireturn]),
  (18, [.iinc 1 1, .goto 2]),
  (24, [.sipush (-1), .ireturn])]
def ex_b86 : List (Nat × List Instr) := [(0, [.iload 2, .tableswitch 60 0 2 #[28, 37, 47]]),
  (28, [.aload 0, .getfield 643, .iload 1, .invokevirtual 273, .ireturn]),
  (37, [.aload 0, .getfield 643, .iload 1, .sipush 0, .invokevirtual 322, .ireturn]),
  (47, [.aload 0, .getfield 645, .aload 0, .getfield 643, .iload 1, .invokevirtual 82, .ireturn]),
  (60, [.aload 0, .getfield 643, .iload 1, .invokevirtual 369, .ireturn])]
def ex_b87 : List (Nat × List Instr) := [(0, [.aload 0, .getfield 645, .getfield 1, .astore 3, .sipush 4, .aload 3, .iload 1, .sipush 3, .invokevirtual 994, .imul, .aload 3, .iload 1, .sipush 4, .invokevirtual 994, .iadd, .istore 4, .aload 0, .getfield 644, .aload 0, .getfield 643, .aload 3, .iload 1, .sipush 1, .invokevirtual 994, .aload 3, .iload 1, .sipush 0, .invokevirtual 994, .aload 3, .iload 1, .sipush 2, .invokevirtual 994, .iload 4, .iload 2, .invokevirtual 806, .ireturn])]
def ex_b88 : List (Nat × List Instr) := [(0, [.sipush (-1), .istore 1, .sipush 24, .istore 2, .sipush 0, .istore 3, .jsr 7]),
  (7, [.iload 3, .aload 0, .getfield 645, .getfield 1, .invokevirtual 944, .if_icmp .ge 61, .aload 0, .getfield 645, .getfield 1, .iload 3, .sipush 0, .invokevirtual 994, .istore 4, .iload 4, .iload 2, .if_icmp .ge 55, .aload 0, .iload 3, .sipush 0, .invokevirtual 1394, .ifCond .eq 55, .iload 4, .istore 2, .iload 3, .istore 1, .jsr 55]),
  (55, [.iinc 3 1, .goto 7]),
  (61, [.iload 1, .ireturn])]
def ex_b89 : List (Nat × List Instr) := [(0, [.sipush 0, .istore 5, .sipush 0, .istore 6, .jsr 6]),
  (6, [.iload 6, .sipush 4, .if_icmp .ge 46, .aload 0, .getfield 644, .aload 0, .getfield 643, .iload 1, .iload 2, .iload 3, .sipush 4, .iload 4, .imul, .iload 6, .iadd, .sipush 0, .invokevirtual 806, .ifCond .eq 40, .iinc 5 1, .jsr 40]),
  (40, [.iinc 6 1, .goto 6]),
  (46, [.iload 5, .ifCond .ne 53, .sipush 0, .ireturn]),
  (53, [.iload 5, .sipush 4, .if_icmp .ge 63, .sipush 1, .goto 64]),
  (63, [.sipush 2, .jsr 64]),
  (64, [.ireturn])]
def ex_b90 : List (Nat × List Instr) := [(0, [.sipush 0, .istore 1, .sipush (-3), .istore 2, .jsr 5]),
  (5, [.iload 2, .sipush 3, .if_icmp .gt 32, .aload 0, .iload 2, .invokevirtual 1457, .ifCond .eq 26, .iload 1, .sipush 1, .iload 2, .sipush 3, .iadd, .ishl, .ior, .istore 1, .jsr 26]),
  (26, [.iinc 2 1, .goto 5]),
  (32, [.iload 1, .ireturn])]
def ex_b91 : List (Nat × List Instr) := [(0, [.sipush 0, .istore 2, .jsr 2]),
  (2, [.iload 2, .aload 0, .getfield 645, .getfield 3, .invokevirtual 944, .if_icmp .ge 59, .aload 0, .getfield 643, .aload 0, .getfield 645, .getfield 3, .iload 2, .sipush 0, .invokevirtual 994, .iload 1, .invokevirtual 322, .aload 0, .getfield 645, .getfield 3, .iload 2, .sipush 1, .invokevirtual 994, .if_icmp .eq 53, .sipush 0, .areturn]),
  (53, [.iinc 2 1, .goto 2]),
  (59, [.sipush 1, .areturn])]
def ex_b92 : List (Nat × List Instr) := [(0, [.iload 1, .aload 0, .arraylength, .if_icmp .ge 12, .aload 0, .iload 1, .iaload, .goto 20]),
  (12, [.sipush 7919, .iload 1, .imul, .sipush 13, .iadd, .jsr 20]),
  (20, [.sipush 2147483647, .iand, .ireturn])]
def ex_b93 : List (Nat × List Instr) := [(0, [.aload 0, .iload 1, .i2l, .invokevirtual 1073, .ifCond .le 13, .sipush 1, .goto 14]),
  (13, [.sipush 0, .jsr 14]),
  (14, [.areturn])]
def ex_b94 : List (Nat × List Instr) := [(0, [.iload 1, .sipush 10, .if_icmp .lt 20, .aload 0, .sipush 48, .iload 1, .sipush 10, .idiv, .iadd, .invokestatic 1490, .ifCond .eq 38, .jsr 20]),
  (20, [.aload 0, .sipush 48, .iload 1, .sipush 10, .irem, .iadd, .invokestatic 1490, .ifCond .eq 38, .sipush 1, .goto 39]),
  (38, [.sipush 0, .jsr 39]),
  (39, [.areturn])]
def ex_b95 : List (Nat × List Instr) := [(0, [.aload 3, .sipush 0, .sipush 2, .aload 1, .iload 2, .invokestatic 1474, .sipush 3, .irem, .iadd, .iastore, .aload 3, .sipush 1, .sipush 2, .aload 1, .iload 2, .invokestatic 1474, .sipush 4, .idiv, .sipush 5, .irem, .iadd, .iastore, .sipush 1, .istore 5, .sipush 0, .istore 6, .jsr 32]),
  (32, [.iload 6, .aload 3, .sipush 0, .iaload, .if_icmp .ge 301, .aload 3, .sipush 2, .iload 6, .iadd, .aload 1, .iload 2, .invokestatic 1474, .iload 6, .ifCond .ne 60, .sipush 64, .goto 86]),
  (60, [.iload 6, .sipush 1, .if_icmp .ne 72, .sipush 512, .goto 86]),
  (72, [.iload 6, .sipush 2, .if_icmp .ne 84, .sipush 4096, .goto 86]),
  (84, [.sipush 32768, .jsr 86]),
  (86, [.idiv, .aload 3, .sipush 1, .iaload, .sipush 1, .iadd, .irem, .iastore, .iload 5, .ifCond .eq 135, .iload 6, .ifCond .eq 113, .aload 0, .sipush 47, .invokestatic 1490, .ifCond .eq 135, .jsr 113]),
  (113, [.aload 3, .sipush 2, .iload 6, .iadd, .iaload, .ifCond .gt 131, .aload 0, .sipush 124, .invokestatic 1490, .ifCond .eq 135, .jsr 131]),
  (131, [.sipush 1, .goto 136]),
  (135, [.sipush 0, .jsr 136]),
  (136, [.istore 5, .sipush 0, .istore 7, .jsr 141]),
  (141, [.iload 7, .aload 3, .sipush 1, .iaload, .if_icmp .ge 295, .aload 3, .sipush 1, .iaload, .iload 6, .imul, .iload 7, .iadd, .istore 8, .aload 1, .iload 2, .sipush 1, .iadd, .iload 8, .sipush 8, .idiv, .iadd, .invokestatic 1474, .sipush 3, .iload 8, .sipush 8, .irem, .imul, .ishr, .sipush 7, .iand, .istore 9, .aload 4, .iload 8, .iload 8, .ifCond .eq 202, .iload 9, .sipush 6, .if_icmp .ge 206, .jsr 202]),
  (202, [.sipush 0, .goto 218]),
  (206, [.iload 9, .sipush 6, .if_icmp .ne 217, .sipush 1, .goto 218]),
  (217, [.sipush 2, .jsr 218]),
  (218, [.iastore, .iload 5, .ifCond .eq 286, .aload 0, .aload 4, .iload 8, .iaload, .ifCond .ne 238, .sipush 46, .goto 254]),
  (238, [.aload 4, .iload 8, .iaload, .sipush 1, .if_icmp .ne 252, .sipush 35, .goto 254]),
  (252, [.sipush 100, .jsr 254]),
  (254, [.invokestatic 1490, .ifCond .eq 286, .aload 3, .sipush 2, .iload 6, .iadd, .iaload, .iload 7, .sipush 1, .iadd, .if_icmp .ne 282, .aload 0, .sipush 124, .invokestatic 1490, .ifCond .eq 286, .jsr 282]),
  (282, [.sipush 1, .goto 287]),
  (286, [.sipush 0, .jsr 287]),
  (287, [.istore 5, .iinc 7 1, .goto 141]),
  (295, [.iinc 6 1, .goto 32]),
  (301, [.iload 5, .ifCond .eq 338, .aload 0, .sipush 0, .invokevirtual 1089, .aload 0, .sipush 6, .invokevirtual 1313, .if_icmp .ne 338, .aload 0, .invokevirtual 1104, .aload 3, .sipush 0, .iaload, .aload 3, .sipush 1, .iaload, .imul, .if_icmp .ne 338, .sipush 1, .goto 339]),
  (338, [.sipush 0, .jsr 339]),
  (339, [.areturn])]
def ex_b96 : List (Nat × List Instr) := [(0, [.aload 3, .sipush 5, .iload 2, .imul, .iload 1, .sipush 2, .irem, .iastore, .aload 3, .sipush 5, .iload 2, .imul, .sipush 1, .iadd, .iload 1, .sipush 2, .idiv, .sipush 6, .irem, .iastore, .aload 3, .sipush 5, .iload 2, .imul, .sipush 2, .iadd, .iload 1, .sipush 16, .idiv, .sipush 24, .irem, .iastore, .aload 3, .sipush 5, .iload 2, .imul, .sipush 3, .iadd, .iload 1, .sipush 512, .idiv, .sipush 24, .irem, .iastore, .aload 3, .sipush 5, .iload 2, .imul, .sipush 4, .iadd, .iload 1, .sipush 16384, .idiv, .sipush 5, .irem, .iastore, .aload 3, .sipush 5, .iload 2, .imul, .sipush 4, .iadd, .iaload, .istore 4, .aload 0, .iload 1, .sipush 2, .irem, .ifCond .ne 85, .sipush 119, .goto 87]),
  (85, [.sipush 101, .jsr 87]),
  (87, [.invokestatic 1490, .ifCond .eq 198, .aload 0, .sipush 97, .aload 3, .sipush 5, .iload 2, .imul, .sipush 1, .iadd, .iaload, .iadd, .invokestatic 1490, .ifCond .eq 198, .aload 0, .aload 3, .sipush 5, .iload 2, .imul, .sipush 2, .iadd, .iaload, .invokestatic 1506, .ifCond .eq 198, .aload 0, .sipush 45, .invokestatic 1490, .ifCond .eq 198, .aload 0, .aload 3, .sipush 5, .iload 2, .imul, .sipush 3, .iadd, .iaload, .invokestatic 1506, .ifCond .eq 198, .iload 4, .ifCond .eq 194, .aload 0, .iload 4, .sipush 1, .if_icmp .ne 164, .sipush 104, .goto 188]),
  (164, [.iload 4, .sipush 2, .if_icmp .ne 175, .sipush 110, .goto 188]),
  (175, [.iload 4, .sipush 3, .if_icmp .ne 186, .sipush 102, .goto 188]),
  (186, [.sipush 111, .jsr 188]),
  (188, [.invokestatic 1490, .ifCond .eq 198, .jsr 194]),
  (194, [.sipush 1, .goto 199]),
  (198, [.sipush 0, .jsr 199]),
  (199, [.istore 5, .iload 5, .ifCond .eq 232, .aload 0, .sipush 1, .invokevirtual 1089, .aload 0, .sipush 6, .invokevirtual 1313, .if_icmp .ne 232, .aload 0, .invokevirtual 1120, .iload 2, .if_icmp .ne 232, .sipush 1, .goto 233]),
  (232, [.sipush 0, .jsr 233]),
  (233, [.areturn])]
def ex_b97 : List (Nat × List Instr) := [(0, [.iload 1, .aload 0, .sipush 1, .iaload, .idiv, .iload 2, .ifCond .ne 13, .sipush (-1), .goto 23]),
  (13, [.iload 2, .sipush 2, .if_icmp .ne 22, .sipush 1, .goto 23]),
  (22, [.sipush 0, .jsr 23]),
  (23, [.iadd, .istore 3, .iload 1, .aload 0, .sipush 1, .iaload, .irem, .iload 2, .sipush 1, .if_icmp .ne 39, .sipush 1, .goto 49]),
  (39, [.iload 2, .sipush 3, .if_icmp .ne 48, .sipush (-1), .goto 49]),
  (48, [.sipush 0, .jsr 49]),
  (49, [.iadd, .istore 4, .iload 3, .ifCond .lt 76, .iload 3, .aload 0, .sipush 0, .iaload, .if_icmp .eq 76, .iload 4, .ifCond .lt 76, .iload 4, .aload 0, .sipush 1, .iaload, .if_icmp .ne 80, .jsr 76]),
  (76, [.sipush (-1), .goto 88]),
  (80, [.aload 0, .sipush 1, .iaload, .iload 3, .imul, .iload 4, .iadd, .jsr 88]),
  (88, [.ireturn])]
def ex_b98 : List (Nat × List Instr) := [(0, [.aload 0, .iload 2, .iload 3, .invokestatic 1555, .istore 4, .iload 4, .ifCond .lt 21, .aload 1, .iload 4, .iaload, .sipush 1, .if_icmp .ne 25, .jsr 21]),
  (21, [.iload 2, .goto 27]),
  (25, [.iload 4, .jsr 27]),
  (27, [.ireturn])]
def ex_b99 : List (Nat × List Instr) := [(0, [.aload 0, .sipush 2, .iload 1, .aload 0, .sipush 1, .iaload, .idiv, .iadd, .iaload, .iload 2, .iadd, .istore 3, .iload 1, .aload 0, .sipush 1, .iaload, .irem, .iload 3, .if_icmp .ge 25, .sipush 0, .goto 26]),
  (25, [.sipush 1, .jsr 26]),
  (26, [.ireturn])]
def ex_b100 : List (Nat × List Instr) := [(0, [.aload 0, .sipush 0, .iaload, .aload 0, .sipush 1, .iaload, .imul, .istore 7, .sipush 0, .istore 8, .jsr 12]),
  (12, [.iload 8, .sipush 24, .if_icmp .ge 43, .aload 6, .iload 8, .iload 8, .iload 2, .if_icmp .ne 33, .sipush 0, .goto 36]),
  (33, [.sipush 9999, .jsr 36]),
  (36, [.iastore, .iinc 8 1, .goto 12]),
  (43, [.sipush 0, .istore 8, .jsr 46]),
  (46, [.iload 8, .iload 7, .if_icmp .ge 235, .sipush 0, .istore 9, .jsr 56]),
  (56, [.iload 9, .iload 7, .if_icmp .ge 229, .sipush 0, .istore 10, .jsr 66]),
  (66, [.iload 10, .sipush 4, .if_icmp .ge 223, .aload 1, .iload 9, .iaload, .sipush 1, .if_icmp .eq 223, .iload 9, .iload 3, .if_icmp .eq 102, .iload 9, .iload 2, .if_icmp .eq 223, .iload 4, .iload 9, .ishr, .sipush 1, .iand, .ifCond .ne 223, .jsr 102]),
  (102, [.aload 0, .iload 9, .iload 10, .invokestatic 1555, .istore 11, .iload 11, .ifCond .lt 145, .aload 1, .iload 11, .iaload, .sipush 1, .if_icmp .eq 145, .iload 11, .iload 2, .if_icmp .eq 141, .iload 4, .iload 11, .ishr, .sipush 1, .iand, .ifCond .ne 145, .jsr 141]),
  (141, [.sipush 1, .goto 146]),
  (145, [.sipush 0, .jsr 146]),
  (146, [.istore 12, .iload 12, .ifCond .eq 187, .aload 6, .iload 11, .iaload, .sipush 1, .iadd, .aload 0, .iload 9, .sipush 0, .invokestatic 1587, .aload 0, .iload 11, .sipush 0, .invokestatic 1587, .if_icmp .ne 181, .sipush 0, .goto 183]),
  (181, [.iload 5, .jsr 183]),
  (183, [.iadd, .goto 190]),
  (187, [.sipush 9999, .jsr 190]),
  (190, [.istore 13, .aload 6, .iload 9, .iload 13, .aload 6, .iload 9, .iaload, .if_icmp .ge 211, .iload 13, .goto 216]),
  (211, [.aload 6, .iload 9, .iaload, .jsr 216]),
  (216, [.iastore, .iinc 10 1, .goto 66]),
  (223, [.iinc 9 1, .goto 56]),
  (229, [.iinc 8 1, .goto 46]),
  (235, [.return_])]
def ex_b101 : List (Nat × List Instr) := [(0, [.sipush 24, .anewarray 51, .astore 3, .sipush (-1), .istore 4, .aload 1, .iload 2, .iaload, .sipush 1, .if_icmp .ne 17, .sipush (-1), .ireturn]),
  (17, [.aload 0, .aload 1, .iload 2, .sipush (-1), .sipush 0, .sipush 0, .aload 3, .invokestatic 1607, .aload 0, .sipush 0, .iaload, .aload 0, .sipush 1, .iaload, .imul, .sipush 1, .isub, .istore 5, .jsr 38]),
  (38, [.iload 5, .ifCond .lt 92, .aload 1, .iload 5, .iaload, .sipush 2, .if_icmp .ne 82, .aload 3, .iload 5, .iaload, .sipush 9999, .if_icmp .ge 82, .iload 4, .ifCond .lt 77, .aload 3, .iload 5, .iaload, .aload 3, .iload 4, .iaload, .if_icmp .gt 82, .jsr 77]),
  (77, [.iload 5, .goto 84]),
  (82, [.iload 4, .jsr 84]),
  (84, [.istore 4, .iinc 5 (-1), .goto 38]),
  (92, [.iload 4, .ireturn])]
def ex_b102 : List (Nat × List Instr) := [(0, [.sipush 0, .istore 3, .jsr 2]),
  (2, [.iload 3, .aload 0, .sipush 0, .iaload, .aload 0, .sipush 1, .iaload, .imul, .if_icmp .ge 41, .aload 0, .aload 1, .iload 3, .invokestatic 1619, .istore 4, .aload 2, .iload 3, .iload 4, .ifCond .ge 32, .iload 3, .goto 34]),
  (32, [.iload 4, .jsr 34]),
  (34, [.iastore, .iinc 3 1, .goto 2]),
  (41, [.return_])]
def ex_b103 : List (Nat × List Instr) := [(0, [.sipush 0, .istore 11, .aload 0, .aload 1, .iload 9, .iload 10, .invokestatic 1572, .istore 12, .sipush 0, .istore 13, .jsr 17]),
  (17, [.iload 13, .iload 4, .if_icmp .ge 330, .aload 3, .sipush 5, .iload 13, .imul, .sipush 2, .iadd, .iaload, .istore 14, .aload 3, .sipush 5, .iload 13, .imul, .sipush 3, .iadd, .iaload, .istore 15, .iload 14, .iload 15, .if_icmp .eq 76, .iload 7, .iload 14, .isub, .sipush 24, .iadd, .sipush 24, .irem, .iload 15, .iload 14, .isub, .sipush 24, .iadd, .sipush 24, .irem, .if_icmp .ge 80, .jsr 76]),
  (76, [.sipush 1, .goto 81]),
  (80, [.sipush 0, .jsr 81]),
  (81, [.istore 16, .aload 3, .sipush 5, .iload 13, .imul, .iaload, .istore 17, .aload 0, .iload 9, .iload 5, .invokestatic 1587, .iload 17, .if_icmp .ne 108, .sipush 1, .goto 109]),
  (108, [.sipush 0, .jsr 109]),
  (109, [.istore 18, .aload 0, .iload 8, .sipush 1, .if_icmp .ne 123, .iload 12, .goto 125]),
  (123, [.iload 9, .jsr 125]),
  (125, [.iload 5, .invokestatic 1587, .iload 17, .if_icmp .ne 139, .sipush 1, .goto 140]),
  (139, [.sipush 0, .jsr 140]),
  (140, [.istore 19, .aload 0, .iload 8, .ifCond .ne 153, .iload 9, .goto 155]),
  (153, [.iload 12, .jsr 155]),
  (155, [.iload 5, .invokestatic 1587, .iload 17, .if_icmp .ne 169, .sipush 1, .goto 170]),
  (169, [.sipush 0, .jsr 170]),
  (170, [.istore 20, .aload 0, .iload 8, .ifCond .ne 183, .iload 12, .goto 185]),
  (183, [.iload 9, .jsr 185]),
  (185, [.iload 5, .invokestatic 1587, .iload 17, .if_icmp .ne 199, .sipush 1, .goto 200]),
  (199, [.sipush 0, .jsr 200]),
  (200, [.istore 21, .aload 3, .sipush 5, .iload 13, .imul, .sipush 4, .iadd, .iaload, .istore 22, .iload 22, .ifCond .eq 281, .iload 22, .sipush 1, .if_icmp .ne 228, .iload 18, .ifCond .ne 281, .jsr 228]),
  (228, [.iload 22, .sipush 2, .if_icmp .ne 239, .iload 21, .ifCond .ne 281, .jsr 239]),
  (239, [.iload 22, .sipush 3, .if_icmp .ne 260, .iload 18, .ifCond .eq 260, .iload 19, .ifCond .eq 260, .iload 20, .ifCond .ne 281, .jsr 260]),
  (260, [.iload 22, .sipush 4, .if_icmp .ne 285, .aload 0, .aload 2, .iload 9, .iaload, .iload 5, .invokestatic 1587, .iload 17, .if_icmp .ne 285, .jsr 281]),
  (281, [.sipush 1, .goto 286]),
  (285, [.sipush 0, .jsr 286]),
  (286, [.istore 23, .iload 11, .iload 16, .ifCond .eq 320, .iload 23, .ifCond .eq 320, .iload 6, .aload 3, .sipush 5, .iload 13, .imul, .sipush 1, .iadd, .iaload, .if_icmp .ne 320, .sipush 1, .iload 13, .ishl, .goto 321]),
  (320, [.sipush 0, .jsr 321]),
  (321, [.ior, .istore 11, .iinc 13 1, .goto 17]),
  (330, [.iload 11, .ireturn])]
def ex_b104 : List (Nat × List Instr) := [(30, [.aload 1, .aload 0, .sipush 0, .aload 2, .aload 3, .invokestatic 1525, .ifCond .ne 43, .sipush 0, .areturn]),
  (43, [.aload 2, .sipush 0, .iaload, .aload 2, .sipush 1, .iaload, .imul, .istore 6, .aload 2, .aload 3, .aload 4, .invokestatic 1635, .sipush 0, .istore 7, .jsr 62]),
  (62, [.iload 7, .iload 6, .if_icmp .ge 136, .aload 1, .iload 7, .sipush 0, .invokevirtual 1170, .aload 3, .iload 7, .iaload, .if_icmp .ne 128, .aload 1, .iload 7, .sipush 1, .invokevirtual 1170, .aload 2, .iload 7, .sipush 0, .invokestatic 1587, .if_icmp .ne 128, .aload 1, .iload 7, .sipush 2, .invokevirtual 1170, .sipush (-1), .if_icmp .ne 128, .aload 1, .iload 7, .sipush 3, .invokevirtual 1170, .aload 2, .aload 3, .iload 7, .invokestatic 1619, .if_icmp .eq 130, .jsr 128]),
  (128, [.sipush 0, .areturn]),
  (130, [.iinc 7 1, .goto 62]),
  (136, [.aload 0, .sipush 4, .invokestatic 1474, .sipush 9, .irem, .istore 7, .sipush 0, .istore 8, .jsr 149]),
  (149, [.iload 8, .iload 7, .if_icmp .ge 273, .aload 1, .aload 0, .sipush 5, .iload 8, .iadd, .invokestatic 1474, .iload 8, .aload 5, .invokestatic 1540, .ifCond .ne 177, .sipush 0, .areturn]),
  (177, [.sipush 0, .istore 9, .jsr 180]),
  (180, [.iload 9, .sipush 5, .if_icmp .ge 267, .aload 5, .sipush 5, .iload 8, .imul, .sipush 4, .iadd, .iaload, .istore 10, .aload 1, .iload 8, .iload 9, .invokevirtual 1138, .aload 5, .sipush 5, .iload 8, .imul, .iload 9, .iadd, .iaload, .if_icmp .ne 259, .aload 1, .iload 8, .iload 9, .invokevirtual 1154, .iload 9, .ifCond .eq 250, .iload 9, .iload 10, .if_icmp .eq 250, .iload 9, .sipush 1, .if_icmp .ne 255, .iload 10, .sipush 3, .if_icmp .ne 255, .jsr 250]),
  (250, [.iload 8, .goto 256]),
  (255, [.sipush (-1), .jsr 256]),
  (256, [.if_icmp .eq 261, .jsr 259]),
  (259, [.sipush 0, .areturn]),
  (261, [.iinc 9 1, .goto 180]),
  (267, [.iinc 8 1, .goto 149]),
  (273, [.sipush 60, .anewarray 50, .astore 8, .sipush 0, .istore 9, .sipush (-1), .istore 10, .sipush (-1), .istore 11, .sipush 0, .istore 12, .jsr 291]),
  (291, [.iload 12, .sipush 14, .if_icmp .ge 910, .aload 0, .sipush 13, .iload 12, .iadd, .invokestatic 1474, .istore 13, .iload 13, .iload 6, .irem, .istore 14, .iload 13, .sipush 32, .idiv, .sipush 4, .irem, .istore 15, .iload 13, .sipush 128, .idiv, .sipush 3, .irem, .istore 16, .iload 13, .sipush 512, .idiv, .sipush 24, .irem, .istore 17, .iload 7, .ifCond .le 380, .iload 13, .sipush 16384, .idiv, .sipush 3, .irem, .ifCond .le 380, .jsr 362]),
  (362, [.aload 5, .sipush 5, .iload 13, .sipush 65536, .idiv, .iload 7, .irem, .imul, .sipush 1, .iadd, .iaload, .goto 388]),
  (380, [.iload 13, .sipush 65536, .idiv, .sipush 6, .irem, .jsr 388]),
  (388, [.istore 18, .aload 3, .iload 14, .iaload, .sipush 1, .if_icmp .ne 454, .aload 1, .iload 16, .iload 14, .iload 15, .sipush 0, .invokevirtual 1188, .sipush (-101), .if_icmp .ne 452, .aload 1, .iload 18, .iload 17, .iload 16, .iload 14, .iload 15, .invokevirtual 1205, .sipush (-101), .if_icmp .ne 452, .aload 1, .iload 17, .iload 18, .iload 16, .iload 14, .iload 15, .invokevirtual 1221, .sipush (-101), .if_icmp .eq 746, .jsr 452]),
  (452, [.sipush 0, .areturn]),
  (454, [.aload 2, .aload 3, .iload 14, .iload 15, .invokestatic 1572, .istore 19, .aload 1, .iload 16, .iload 14, .iload 15, .sipush 0, .invokevirtual 1188, .iload 14, .if_icmp .ne 560, .aload 1, .iload 16, .iload 14, .iload 15, .sipush 1, .invokevirtual 1188, .iload 16, .ifCond .ne 502, .iload 19, .goto 504]),
  (502, [.iload 14, .jsr 504]),
  (504, [.if_icmp .ne 560, .aload 1, .iload 16, .iload 14, .iload 15, .sipush 2, .invokevirtual 1188, .iload 16, .sipush 1, .if_icmp .ne 529, .iload 19, .goto 531]),
  (529, [.iload 14, .jsr 531]),
  (531, [.if_icmp .ne 560, .aload 1, .iload 16, .iload 14, .iload 15, .sipush 3, .invokevirtual 1188, .iload 16, .ifCond .ne 555, .iload 14, .goto 557]),
  (555, [.iload 19, .jsr 557]),
  (557, [.if_icmp .eq 562, .jsr 560]),
  (560, [.sipush 0, .areturn]),
  (562, [.aload 2, .aload 3, .aload 4, .aload 5, .iload 7, .sipush 0, .iload 18, .iload 17, .iload 16, .iload 14, .iload 15, .invokestatic 1659, .istore 20, .aload 1, .iload 18, .iload 17, .iload 16, .iload 14, .iload 15, .invokevirtual 1205, .iload 20, .if_icmp .ne 636, .aload 1, .iload 17, .iload 18, .iload 16, .iload 14, .iload 15, .invokevirtual 1221, .iload 9, .sipush 12, .if_icmp .ne 631, .sipush (-104), .goto 633]),
  (631, [.iload 9, .jsr 633]),
  (633, [.if_icmp .eq 638, .jsr 636]),
  (636, [.sipush 0, .areturn]),
  (638, [.iload 9, .sipush 12, .if_icmp .ge 746, .iload 20, .ifCond .eq 690, .iload 10, .ifCond .lt 667, .iload 17, .aload 8, .sipush 5, .iload 10, .imul, .iaload, .if_icmp .ge 690, .jsr 667]),
  (667, [.iload 9, .istore 10, .sipush 0, .istore 11, .jsr 674]),
  (674, [.iload 20, .iload 11, .ishr, .sipush 1, .iand, .ifCond .ne 690, .iinc 11 1, .goto 674]),
  (690, [.aload 8, .sipush 5, .iload 9, .imul, .iload 17, .iastore, .aload 8, .sipush 5, .iload 9, .imul, .sipush 1, .iadd, .iload 18, .iastore, .aload 8, .sipush 5, .iload 9, .imul, .sipush 2, .iadd, .iload 16, .iastore, .aload 8, .sipush 5, .iload 9, .imul, .sipush 3, .iadd, .iload 14, .iastore, .aload 8, .sipush 5, .iload 9, .imul, .sipush 4, .iadd, .iload 15, .iastore, .iinc 9 1, .jsr 746]),
  (746, [.sipush 3, .anewarray 52, .astore 19, .sipush 0, .istore 20, .jsr 754]),
  (754, [.iload 20, .iload 6, .if_icmp .ge 867, .sipush 0, .istore 21, .sipush 0, .istore 22, .jsr 767]),
  (767, [.iload 22, .sipush 4, .if_icmp .ge 822, .aload 3, .iload 20, .iaload, .sipush 1, .if_icmp .eq 822, .iload 21, .aload 2, .aload 3, .aload 4, .aload 5, .iload 7, .sipush 0, .iload 18, .iload 17, .iload 16, .iload 20, .iload 22, .invokestatic 1659, .ifCond .ne 812, .sipush 0, .goto 813]),
  (812, [.sipush 1, .jsr 813]),
  (813, [.iadd, .istore 21, .iinc 22 1, .goto 767]),
  (822, [.aload 19, .iload 21, .ifCond .ne 833, .sipush 0, .goto 844]),
  (833, [.iload 21, .sipush 4, .if_icmp .ge 843, .sipush 1, .goto 844]),
  (843, [.sipush 2, .jsr 844]),
  (844, [.dup2, .iaload, .aload 3, .iload 20, .iaload, .sipush 1, .if_icmp .ne 858, .sipush 0, .goto 859]),
  (858, [.sipush 1, .jsr 859]),
  (859, [.iadd, .iastore, .iinc 20 1, .goto 754]),
  (867, [.sipush 0, .istore 20, .jsr 870]),
  (870, [.iload 20, .sipush 3, .if_icmp .ge 904, .aload 1, .iload 18, .iload 17, .iload 16, .iload 20, .invokevirtual 1252, .aload 19, .iload 20, .iaload, .if_icmp .eq 898, .sipush 0, .areturn]),
  (898, [.iinc 20 1, .goto 870]),
  (904, [.iinc 12 1, .goto 291]),
  (910, [.aload 1, .sipush 0, .invokevirtual 1233, .iload 10, .if_icmp .ne 940, .aload 1, .sipush 1, .invokevirtual 1233, .iload 11, .if_icmp .ne 940, .aload 1, .sipush 2, .invokevirtual 1313, .iload 9, .if_icmp .eq 942, .jsr 940]),
  (940, [.sipush 0, .areturn]),
  (942, [.sipush (-3), .istore 12, .jsr 946]),
  (946, [.iload 12, .sipush 4, .if_icmp .ge 1062, .sipush 0, .istore 13, .sipush 0, .istore 14, .jsr 958]),
  (958, [.iload 14, .iload 9, .if_icmp .ge 1043, .iload 13, .aload 2, .aload 3, .aload 4, .aload 5, .iload 7, .iload 12, .aload 8, .sipush 5, .iload 14, .imul, .sipush 1, .iadd, .iaload, .aload 8, .sipush 5, .iload 14, .imul, .iaload, .aload 8, .sipush 5, .iload 14, .imul, .sipush 2, .iadd, .iaload, .aload 8, .sipush 5, .iload 14, .imul, .sipush 3, .iadd, .iaload, .aload 8, .sipush 5, .iload 14, .imul, .sipush 4, .iadd, .iaload, .invokestatic 1659, .ifCond .ne 1030, .jsr 1026]),
  (1026, [.sipush 0, .goto 1034]),
  (1030, [.sipush 1, .iload 14, .ishl, .jsr 1034]),
  (1034, [.ior, .istore 13, .iinc 14 1, .goto 958]),
  (1043, [.aload 1, .iload 12, .invokevirtual 1265, .iload 13, .if_icmp .eq 1056, .sipush 0, .areturn]),
  (1056, [.iinc 12 1, .goto 946]),
  (1062, [.sipush 127, .istore 12, .aload 0, .sipush 27, .invokestatic 1474, .sipush 7, .irem, .sipush 3, .isub, .istore 13, .aload 0, .sipush 28, .invokestatic 1474, .sipush 11, .irem, .istore 14, .sipush 0, .istore 15, .jsr 1093]),
  (1093, [.iload 15, .iload 14, .if_icmp .ge 1220, .aload 0, .sipush 29, .iload 15, .iadd, .invokestatic 1474, .istore 16, .iload 16, .iload 6, .irem, .istore 17, .iload 16, .sipush 32, .idiv, .sipush 9, .irem, .ifCond .ne 1140, .iload 16, .sipush 512, .idiv, .sipush 2, .irem, .goto 1148]),
  (1140, [.aload 2, .iload 17, .iload 13, .invokestatic 1587, .jsr 1148]),
  (1148, [.istore 18, .aload 1, .iload 17, .iload 18, .invokevirtual 1282, .iload 15, .sipush 1, .iadd, .if_icmp .eq 1167, .sipush 0, .areturn]),
  (1167, [.sipush (-3), .istore 19, .jsr 1171]),
  (1171, [.iload 19, .sipush 4, .if_icmp .ge 1214, .iload 12, .aload 2, .iload 17, .iload 19, .invokestatic 1587, .iload 18, .if_icmp .ne 1197, .sipush 127, .goto 1205]),
  (1197, [.sipush 1, .iload 19, .sipush 3, .iadd, .ishl, .sipush (-1), .ixor, .jsr 1205]),
  (1205, [.iand, .istore 12, .iinc 19 1, .goto 1171]),
  (1214, [.iinc 15 1, .goto 1093]),
  (1220, [.aload 1, .invokevirtual 1296, .iload 12, .if_icmp .ne 1546, .aload 1, .iload 6, .sipush 0, .invokevirtual 1170, .sipush (-101), .if_icmp .ne 1546, .aload 1, .sipush 0, .sipush 4, .invokevirtual 1170, .sipush (-102), .if_icmp .ne 1546, .aload 1, .sipush 3, .sipush 0, .sipush 0, .sipush 0, .invokevirtual 1188, .sipush (-102), .if_icmp .ne 1546, .aload 1, .sipush 0, .sipush 0, .sipush 4, .sipush 0, .invokevirtual 1188, .sipush (-102), .if_icmp .ne 1546, .aload 1, .sipush 0, .sipush 0, .sipush 0, .sipush 4, .invokevirtual 1188, .sipush (-102), .if_icmp .ne 1546, .jsr 1291]),
  (1291, [.aload 1, .sipush 0, .iload 6, .sipush 0, .sipush 0, .invokevirtual 1188, .sipush (-101), .if_icmp .ne 1546, .aload 1, .sipush 6, .sipush 0, .sipush 0, .sipush 0, .sipush 0, .invokevirtual 1205, .sipush (-102), .if_icmp .ne 1546, .aload 1, .sipush 0, .sipush 24, .sipush 0, .sipush 0, .sipush 0, .invokevirtual 1205, .sipush (-102), .if_icmp .ne 1546, .aload 1, .sipush 0, .sipush 0, .sipush 3, .sipush 0, .sipush 0, .invokevirtual 1205, .sipush (-102), .if_icmp .ne 1546, .aload 1, .sipush 0, .sipush 0, .sipush 0, .sipush 0, .sipush (-1), .invokevirtual 1205, .sipush (-102), .if_icmp .ne 1546, .jsr 1363]),
  (1363, [.aload 1, .sipush 24, .sipush 0, .sipush 0, .sipush 0, .sipush 0, .invokevirtual 1221, .sipush (-102), .if_icmp .ne 1546, .aload 1, .sipush 0, .sipush (-1), .sipush 0, .sipush 0, .sipush 0, .invokevirtual 1221, .sipush (-102), .if_icmp .ne 1546, .aload 1, .sipush 2, .invokevirtual 1233, .sipush (-102), .if_icmp .ne 1546, .aload 1, .sipush 6, .sipush 0, .sipush 0, .sipush 0, .invokevirtual 1252, .sipush (-102), .if_icmp .ne 1546, .aload 1, .sipush 0, .sipush 0, .sipush 0, .sipush 3, .invokevirtual 1252, .sipush (-102), .if_icmp .ne 1546, .jsr 1429]),
  (1429, [.aload 1, .sipush 4, .invokevirtual 1265, .sipush (-102), .if_icmp .ne 1546, .aload 1, .sipush (-4), .invokevirtual 1265, .sipush (-102), .if_icmp .ne 1546, .aload 1, .iload 6, .sipush 0, .invokevirtual 1282, .sipush (-101), .if_icmp .ne 1546, .aload 1, .sipush 0, .sipush 2, .invokevirtual 1282, .sipush (-102), .if_icmp .ne 1546, .iload 14, .sipush 10, .if_icmp .lt 1491, .aload 1, .sipush 0, .sipush 0, .invokevirtual 1282, .sipush (-104), .if_icmp .ne 1546, .jsr 1491]),
  (1491, [.aload 1, .iload 7, .sipush 0, .invokevirtual 1138, .sipush (-101), .if_icmp .ne 1546, .aload 1, .iload 7, .sipush 0, .invokevirtual 1154, .sipush (-101), .if_icmp .ne 1546, .iload 7, .ifCond .eq 1542, .aload 1, .sipush 0, .sipush 5, .invokevirtual 1138, .sipush (-102), .if_icmp .ne 1546, .aload 1, .sipush 0, .sipush 5, .invokevirtual 1154, .sipush (-102), .if_icmp .ne 1546, .jsr 1542]),
  (1542, [.sipush 1, .goto 1547]),
  (1546, [.sipush 0, .jsr 1547]),
  (1547, [.areturn])]
def ex_bs0 : List (List (Nat × List Instr)) := [ex_b0, ex_b1, ex_b2, ex_b3, ex_b4, ex_b5, ex_b6, ex_b7, ex_b8, ex_b9, ex_b10, ex_b11, ex_b12, ex_b13, ex_b14, ex_b15, ex_b16, ex_b17, ex_b18, ex_b19, ex_b20, ex_b21, ex_b22, ex_b23, ex_b24, ex_b25, ex_b26, ex_b27, ex_b28, ex_b29, ex_b30, ex_b31, ex_b32, ex_b33, ex_b34, ex_b35, ex_b36, ex_b37, ex_b38, ex_b39]
def ex_bs1 : List (List (Nat × List Instr)) := [ex_b40, ex_b41, ex_b42, ex_b43, ex_b44, ex_b45, ex_b46, ex_b47, ex_b48, ex_b49, ex_b50, ex_b51, ex_b52, ex_b53, ex_b54, ex_b55, ex_b56, ex_b57, ex_b58, ex_b59, ex_b60, ex_b61, ex_b62, ex_b63, ex_b64, ex_b65, ex_b66, ex_b67, ex_b68, ex_b69, ex_b70, ex_b71, ex_b72, ex_b73, ex_b74, ex_b75, ex_b76, ex_b77, ex_b78, ex_b79]
def ex_bs2 : List (List (Nat × List Instr)) := [ex_b80, ex_b81, ex_b82, ex_b83, ex_b84, ex_b85, ex_b86, ex_b87, ex_b88, ex_b89, ex_b90, ex_b91, ex_b92, ex_b93, ex_b94, ex_b95, ex_b96, ex_b97, ex_b98, ex_b99, ex_b100, ex_b101, ex_b102, ex_b103, ex_b104]
def ex_bs : List (List (Nat × List Instr)) := ex_bs0 ++ ex_bs1 ++ ex_bs2
