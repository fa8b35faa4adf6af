/-! the tables' words, by their places (printed by wip/whole/gen7.py) -/
def ex_tb : List Jvm.Cond := lw_tbl.filter goodWord
theorem ex_in {i : Nat} {w : Jvm.Cond} (h : lw_tbl[i]? = some w) (g : goodWord w = true) : w ∈ ex_tb := List.mem_filter.mpr ⟨List.mem_of_getElem? h, g⟩
theorem kt_1 : (Jvm.Cond.laysFinal "BorderThroughBed$Day" "BorderThroughBed$Day" "things" "LBorderThroughBed$Table;") ∈ ex_tb := ex_in (i := 273) (by decide +kernel) (by decide +kernel)
theorem kt_2 : (Jvm.Cond.laysFinal "BorderThroughBed$Day" "BorderThroughBed$Day" "events" "LBorderThroughBed$Table;") ∈ ex_tb := ex_in (i := 275) (by decide +kernel) (by decide +kernel)
theorem kt_3 : (Jvm.Cond.laysFinal "BorderThroughBed$Day" "BorderThroughBed$Day" "habits" "LBorderThroughBed$Table;") ∈ ex_tb := ex_in (i := 277) (by decide +kernel) (by decide +kernel)
theorem kt_4 : (Jvm.Cond.laysFinal "BorderThroughBed$Day" "BorderThroughBed$Day" "judgments" "LBorderThroughBed$Table;") ∈ ex_tb := ex_in (i := 279) (by decide +kernel) (by decide +kernel)
theorem ku_0 : ∀ w ∈ u_ws (ex_Rn 0) (ex_T 0) (ex_N 0), w ∈ ex_tb := List.forall_mem_cons.mpr ⟨kt_1, List.forall_mem_cons.mpr ⟨kt_2, List.forall_mem_cons.mpr ⟨kt_3, List.forall_mem_cons.mpr ⟨kt_4, fun _ h => absurd h List.not_mem_nil⟩⟩⟩⟩
theorem kn_0 : ∀ a, a < ex_N 0 → ∀ b, b < ex_N 0 → a ≠ b → (ex_T 0 a).2.1 ≠ (ex_T 0 b).2.1 := by decide +kernel
theorem kp_0 : ∀ k, k < ex_N 0 → parseFieldDescriptor (ex_T 0 k).2.2.1 = some (ex_ty 0 k) := by decide +kernel
theorem kt_5 : (Jvm.Cond.laysFinal "BorderThroughBed$House" "BorderThroughBed$House" "kinds" "[I") ∈ ex_tb := ex_in (i := 200) (by decide +kernel) (by decide +kernel)
theorem kt_6 : (Jvm.Cond.laysFinal "BorderThroughBed$House" "BorderThroughBed$House" "rowOf" "[I") ∈ ex_tb := ex_in (i := 202) (by decide +kernel) (by decide +kernel)
theorem kt_7 : (Jvm.Cond.laysFinal "BorderThroughBed$House" "BorderThroughBed$House" "columnOf" "[I") ∈ ex_tb := ex_in (i := 204) (by decide +kernel) (by decide +kernel)
theorem kt_8 : (Jvm.Cond.laysFinal "BorderThroughBed$House" "BorderThroughBed$House" "lines" "[I") ∈ ex_tb := ex_in (i := 206) (by decide +kernel) (by decide +kernel)
theorem kt_9 : (Jvm.Cond.laysFinal "BorderThroughBed$House" "BorderThroughBed$House" "beside" "[I") ∈ ex_tb := ex_in (i := 208) (by decide +kernel) (by decide +kernel)
theorem kt_10 : (Jvm.Cond.laysFinal "BorderThroughBed$House" "BorderThroughBed$House" "ahead" "[I") ∈ ex_tb := ex_in (i := 210) (by decide +kernel) (by decide +kernel)
theorem kt_11 : (Jvm.Cond.laysFinal "BorderThroughBed$House" "BorderThroughBed$House" "bedSpots" "[I") ∈ ex_tb := ex_in (i := 212) (by decide +kernel) (by decide +kernel)
theorem kt_12 : (Jvm.Cond.laysFinal "BorderThroughBed$House" "BorderThroughBed$House" "otherSpots" "[I") ∈ ex_tb := ex_in (i := 214) (by decide +kernel) (by decide +kernel)
theorem kt_13 : (Jvm.Cond.laysFinal "BorderThroughBed$House" "BorderThroughBed$House" "doors" "[I") ∈ ex_tb := ex_in (i := 216) (by decide +kernel) (by decide +kernel)
theorem kt_14 : (Jvm.Cond.laysFinal "BorderThroughBed$House" "BorderThroughBed$House" "doorSteps" "[I") ∈ ex_tb := ex_in (i := 218) (by decide +kernel) (by decide +kernel)
theorem kt_15 : (Jvm.Cond.laysFinal "BorderThroughBed$House" "BorderThroughBed$House" "costs" "[I") ∈ ex_tb := ex_in (i := 220) (by decide +kernel) (by decide +kernel)
theorem kt_16 : (Jvm.Cond.lays "BorderThroughBed$House" "BorderThroughBed$House" "cells" "I") ∈ ex_tb := ex_in (i := 222) (by decide +kernel) (by decide +kernel)
theorem kt_17 : (Jvm.Cond.lays "BorderThroughBed$House" "BorderThroughBed$House" "rows" "I") ∈ ex_tb := ex_in (i := 224) (by decide +kernel) (by decide +kernel)
theorem kt_18 : (Jvm.Cond.lays "BorderThroughBed$House" "BorderThroughBed$House" "width" "I") ∈ ex_tb := ex_in (i := 226) (by decide +kernel) (by decide +kernel)
theorem ku_1 : ∀ w ∈ u_ws (ex_Rn 1) (ex_T 1) (ex_N 1), w ∈ ex_tb := List.forall_mem_cons.mpr ⟨kt_5, List.forall_mem_cons.mpr ⟨kt_6, List.forall_mem_cons.mpr ⟨kt_7, List.forall_mem_cons.mpr ⟨kt_8, List.forall_mem_cons.mpr ⟨kt_9, List.forall_mem_cons.mpr ⟨kt_10, List.forall_mem_cons.mpr ⟨kt_11, List.forall_mem_cons.mpr ⟨kt_12, List.forall_mem_cons.mpr ⟨kt_13, List.forall_mem_cons.mpr ⟨kt_14, List.forall_mem_cons.mpr ⟨kt_15, List.forall_mem_cons.mpr ⟨kt_16, List.forall_mem_cons.mpr ⟨kt_17, List.forall_mem_cons.mpr ⟨kt_18, fun _ h => absurd h List.not_mem_nil⟩⟩⟩⟩⟩⟩⟩⟩⟩⟩⟩⟩⟩⟩
theorem kn_1 : ∀ a, a < ex_N 1 → ∀ b, b < ex_N 1 → a ≠ b → (ex_T 1 a).2.1 ≠ (ex_T 1 b).2.1 := by decide +kernel
theorem kp_1 : ∀ k, k < ex_N 1 → parseFieldDescriptor (ex_T 1 k).2.2.1 = some (ex_ty 1 k) := by decide +kernel
theorem kt_19 : (Jvm.Cond.lays "BorderThroughBed$HouseText" "BorderThroughBed$HouseText" "row" "I") ∈ ex_tb := ex_in (i := 143) (by decide +kernel) (by decide +kernel)
theorem kt_20 : (Jvm.Cond.lays "BorderThroughBed$HouseText" "BorderThroughBed$HouseText" "width" "I") ∈ ex_tb := ex_in (i := 145) (by decide +kernel) (by decide +kernel)
theorem kt_21 : (Jvm.Cond.lays "BorderThroughBed$HouseText" "BorderThroughBed$HouseText" "column" "I") ∈ ex_tb := ex_in (i := 147) (by decide +kernel) (by decide +kernel)
theorem kt_22 : (Jvm.Cond.lays "BorderThroughBed$HouseText" "BorderThroughBed$HouseText" "hasLine" "Z") ∈ ex_tb := ex_in (i := 149) (by decide +kernel) (by decide +kernel)
theorem ku_2 : ∀ w ∈ u_ws (ex_Rn 2) (ex_T 2) (ex_N 2), w ∈ ex_tb := List.forall_mem_cons.mpr ⟨kt_19, List.forall_mem_cons.mpr ⟨kt_20, List.forall_mem_cons.mpr ⟨kt_21, List.forall_mem_cons.mpr ⟨kt_22, fun _ h => absurd h List.not_mem_nil⟩⟩⟩⟩
theorem kn_2 : ∀ a, a < ex_N 2 → ∀ b, b < ex_N 2 → a ≠ b → (ex_T 2 a).2.1 ≠ (ex_T 2 b).2.1 := by decide +kernel
theorem kp_2 : ∀ k, k < ex_N 2 → parseFieldDescriptor (ex_T 2 k).2.2.1 = some (ex_ty 2 k) := by decide +kernel
theorem kt_23 : (Jvm.Cond.laysFinal "BorderThroughBed$Keeping" "BorderThroughBed$Keeping" "acts" "[I") ∈ ex_tb := ex_in (i := 291) (by decide +kernel) (by decide +kernel)
theorem kt_24 : (Jvm.Cond.laysFinal "BorderThroughBed$Keeping" "BorderThroughBed$Keeping" "good" "[I") ∈ ex_tb := ex_in (i := 293) (by decide +kernel) (by decide +kernel)
theorem kt_25 : (Jvm.Cond.lays "BorderThroughBed$Keeping" "BorderThroughBed$Keeping" "size" "I") ∈ ex_tb := ex_in (i := 295) (by decide +kernel) (by decide +kernel)
theorem ku_3 : ∀ w ∈ u_ws (ex_Rn 3) (ex_T 3) (ex_N 3), w ∈ ex_tb := List.forall_mem_cons.mpr ⟨kt_23, List.forall_mem_cons.mpr ⟨kt_24, List.forall_mem_cons.mpr ⟨kt_25, fun _ h => absurd h List.not_mem_nil⟩⟩⟩
theorem kn_3 : ∀ a, a < ex_N 3 → ∀ b, b < ex_N 3 → a ≠ b → (ex_T 3 a).2.1 ≠ (ex_T 3 b).2.1 := by decide +kernel
theorem kp_3 : ∀ k, k < ex_N 3 → parseFieldDescriptor (ex_T 3 k).2.2.1 = some (ex_ty 3 k) := by decide +kernel
theorem kt_26 : (Jvm.Cond.lays "BorderThroughBed$LawText" "BorderThroughBed$LawText" "side" "I") ∈ ex_tb := ex_in (i := 165) (by decide +kernel) (by decide +kernel)
theorem kt_27 : (Jvm.Cond.lays "BorderThroughBed$LawText" "BorderThroughBed$LawText" "act" "I") ∈ ex_tb := ex_in (i := 167) (by decide +kernel) (by decide +kernel)
theorem kt_28 : (Jvm.Cond.lays "BorderThroughBed$LawText" "BorderThroughBed$LawText" "from" "I") ∈ ex_tb := ex_in (i := 169) (by decide +kernel) (by decide +kernel)
theorem kt_29 : (Jvm.Cond.lays "BorderThroughBed$LawText" "BorderThroughBed$LawText" "to" "I") ∈ ex_tb := ex_in (i := 171) (by decide +kernel) (by decide +kernel)
theorem kt_30 : (Jvm.Cond.lays "BorderThroughBed$LawText" "BorderThroughBed$LawText" "kind" "I") ∈ ex_tb := ex_in (i := 173) (by decide +kernel) (by decide +kernel)
theorem kt_31 : (Jvm.Cond.lays "BorderThroughBed$LawText" "BorderThroughBed$LawText" "stage" "I") ∈ ex_tb := ex_in (i := 175) (by decide +kernel) (by decide +kernel)
theorem kt_32 : (Jvm.Cond.lays "BorderThroughBed$LawText" "BorderThroughBed$LawText" "digits" "I") ∈ ex_tb := ex_in (i := 177) (by decide +kernel) (by decide +kernel)
theorem ku_4 : ∀ w ∈ u_ws (ex_Rn 4) (ex_T 4) (ex_N 4), w ∈ ex_tb := List.forall_mem_cons.mpr ⟨kt_26, List.forall_mem_cons.mpr ⟨kt_27, List.forall_mem_cons.mpr ⟨kt_28, List.forall_mem_cons.mpr ⟨kt_29, List.forall_mem_cons.mpr ⟨kt_30, List.forall_mem_cons.mpr ⟨kt_31, List.forall_mem_cons.mpr ⟨kt_32, fun _ h => absurd h List.not_mem_nil⟩⟩⟩⟩⟩⟩⟩
theorem kn_4 : ∀ a, a < ex_N 4 → ∀ b, b < ex_N 4 → a ≠ b → (ex_T 4 a).2.1 ≠ (ex_T 4 b).2.1 := by decide +kernel
theorem kp_4 : ∀ k, k < ex_N 4 → parseFieldDescriptor (ex_T 4 k).2.2.1 = some (ex_ty 4 k) := by decide +kernel
theorem kt_33 : (Jvm.Cond.laysFinal "BorderThroughBed$Laws" "BorderThroughBed$Laws" "laws" "LBorderThroughBed$Table;") ∈ ex_tb := ex_in (i := 252) (by decide +kernel) (by decide +kernel)
theorem ku_5 : ∀ w ∈ u_ws (ex_Rn 5) (ex_T 5) (ex_N 5), w ∈ ex_tb := List.forall_mem_cons.mpr ⟨kt_33, fun _ h => absurd h List.not_mem_nil⟩
theorem kn_5 : ∀ a, a < ex_N 5 → ∀ b, b < ex_N 5 → a ≠ b → (ex_T 5 a).2.1 ≠ (ex_T 5 b).2.1 := by decide +kernel
theorem kp_5 : ∀ k, k < ex_N 5 → parseFieldDescriptor (ex_T 5 k).2.2.1 = some (ex_ty 5 k) := by decide +kernel
theorem kt_34 : (Jvm.Cond.laysFinal "BorderThroughBed$Mover" "BorderThroughBed$Mover" "kinds" "[I") ∈ ex_tb := ex_in (i := 310) (by decide +kernel) (by decide +kernel)
theorem kt_35 : (Jvm.Cond.laysFinal "BorderThroughBed$Mover" "BorderThroughBed$Mover" "places" "[I") ∈ ex_tb := ex_in (i := 312) (by decide +kernel) (by decide +kernel)
theorem kt_36 : (Jvm.Cond.laysFinal "BorderThroughBed$Mover" "BorderThroughBed$Mover" "spots" "[I") ∈ ex_tb := ex_in (i := 314) (by decide +kernel) (by decide +kernel)
theorem kt_37 : (Jvm.Cond.laysFinal "BorderThroughBed$Mover" "BorderThroughBed$Mover" "answer" "[I") ∈ ex_tb := ex_in (i := 316) (by decide +kernel) (by decide +kernel)
theorem kt_38 : (Jvm.Cond.lays "BorderThroughBed$Mover" "BorderThroughBed$Mover" "size" "I") ∈ ex_tb := ex_in (i := 318) (by decide +kernel) (by decide +kernel)
theorem kt_39 : (Jvm.Cond.lays "BorderThroughBed$Mover" "BorderThroughBed$Mover" "hardest" "I") ∈ ex_tb := ex_in (i := 320) (by decide +kernel) (by decide +kernel)
theorem ku_6 : ∀ w ∈ u_ws (ex_Rn 6) (ex_T 6) (ex_N 6), w ∈ ex_tb := List.forall_mem_cons.mpr ⟨kt_34, List.forall_mem_cons.mpr ⟨kt_35, List.forall_mem_cons.mpr ⟨kt_36, List.forall_mem_cons.mpr ⟨kt_37, List.forall_mem_cons.mpr ⟨kt_38, List.forall_mem_cons.mpr ⟨kt_39, fun _ h => absurd h List.not_mem_nil⟩⟩⟩⟩⟩⟩
theorem kn_6 : ∀ a, a < ex_N 6 → ∀ b, b < ex_N 6 → a ≠ b → (ex_T 6 a).2.1 ≠ (ex_T 6 b).2.1 := by decide +kernel
theorem kp_6 : ∀ k, k < ex_N 6 → parseFieldDescriptor (ex_T 6 k).2.2.1 = some (ex_ty 6 k) := by decide +kernel
theorem kt_40 : (Jvm.Cond.laysFinal "BorderThroughBed$Page" "BorderThroughBed$Page" "codes" "[I") ∈ ex_tb := ex_in (i := 124) (by decide +kernel) (by decide +kernel)
theorem kt_41 : (Jvm.Cond.lays "BorderThroughBed$Page" "BorderThroughBed$Page" "size" "I") ∈ ex_tb := ex_in (i := 126) (by decide +kernel) (by decide +kernel)
theorem ku_7 : ∀ w ∈ u_ws (ex_Rn 7) (ex_T 7) (ex_N 7), w ∈ ex_tb := List.forall_mem_cons.mpr ⟨kt_40, List.forall_mem_cons.mpr ⟨kt_41, fun _ h => absurd h List.not_mem_nil⟩⟩
theorem kn_7 : ∀ a, a < ex_N 7 → ∀ b, b < ex_N 7 → a ≠ b → (ex_T 7 a).2.1 ≠ (ex_T 7 b).2.1 := by decide +kernel
theorem kp_7 : ∀ k, k < ex_N 7 → parseFieldDescriptor (ex_T 7 k).2.2.1 = some (ex_ty 7 k) := by decide +kernel
theorem kt_42 : (Jvm.Cond.laysFinal "BorderThroughBed$Table" "BorderThroughBed$Table" "numbers" "[I") ∈ ex_tb := ex_in (i := 244) (by decide +kernel) (by decide +kernel)
theorem kt_43 : (Jvm.Cond.laysFinal "BorderThroughBed$Table" "BorderThroughBed$Table" "most" "I") ∈ ex_tb := ex_in (i := 246) (by decide +kernel) (by decide +kernel)
theorem kt_44 : (Jvm.Cond.lays "BorderThroughBed$Table" "BorderThroughBed$Table" "size" "I") ∈ ex_tb := ex_in (i := 248) (by decide +kernel) (by decide +kernel)
theorem ku_8 : ∀ w ∈ u_ws (ex_Rn 8) (ex_T 8) (ex_N 8), w ∈ ex_tb := List.forall_mem_cons.mpr ⟨kt_42, List.forall_mem_cons.mpr ⟨kt_43, List.forall_mem_cons.mpr ⟨kt_44, fun _ h => absurd h List.not_mem_nil⟩⟩⟩
theorem kn_8 : ∀ a, a < ex_N 8 → ∀ b, b < ex_N 8 → a ≠ b → (ex_T 8 a).2.1 ≠ (ex_T 8 b).2.1 := by decide +kernel
theorem kp_8 : ∀ k, k < ex_N 8 → parseFieldDescriptor (ex_T 8 k).2.2.1 = some (ex_ty 8 k) := by decide +kernel
theorem ku_9 : ∀ w ∈ u_ws (ex_Rn 9) (ex_T 9) (ex_N 9), w ∈ ex_tb := fun _ h => absurd h List.not_mem_nil
theorem kn_9 : ∀ a, a < ex_N 9 → ∀ b, b < ex_N 9 → a ≠ b → (ex_T 9 a).2.1 ≠ (ex_T 9 b).2.1 := by decide +kernel
theorem kp_9 : ∀ k, k < ex_N 9 → parseFieldDescriptor (ex_T 9 k).2.2.1 = some (ex_ty 9 k) := by decide +kernel
theorem kt_45 : (Jvm.Cond.laysFinal "BorderThroughBed" "BorderThroughBed" "page" "LBorderThroughBed$Page;") ∈ ex_tb := ex_in (i := 335) (by decide +kernel) (by decide +kernel)
theorem kt_46 : (Jvm.Cond.laysFinal "BorderThroughBed" "BorderThroughBed" "houseText" "LBorderThroughBed$HouseText;") ∈ ex_tb := ex_in (i := 337) (by decide +kernel) (by decide +kernel)
theorem kt_47 : (Jvm.Cond.laysFinal "BorderThroughBed" "BorderThroughBed" "lawText" "LBorderThroughBed$LawText;") ∈ ex_tb := ex_in (i := 339) (by decide +kernel) (by decide +kernel)
theorem kt_48 : (Jvm.Cond.laysFinal "BorderThroughBed" "BorderThroughBed" "house" "LBorderThroughBed$House;") ∈ ex_tb := ex_in (i := 341) (by decide +kernel) (by decide +kernel)
theorem kt_49 : (Jvm.Cond.laysFinal "BorderThroughBed" "BorderThroughBed" "laws" "LBorderThroughBed$Laws;") ∈ ex_tb := ex_in (i := 343) (by decide +kernel) (by decide +kernel)
theorem kt_50 : (Jvm.Cond.laysFinal "BorderThroughBed" "BorderThroughBed" "now" "LBorderThroughBed$Day;") ∈ ex_tb := ex_in (i := 345) (by decide +kernel) (by decide +kernel)
theorem kt_51 : (Jvm.Cond.laysFinal "BorderThroughBed" "BorderThroughBed" "imageDay" "LBorderThroughBed$Day;") ∈ ex_tb := ex_in (i := 347) (by decide +kernel) (by decide +kernel)
theorem kt_52 : (Jvm.Cond.laysFinal "BorderThroughBed" "BorderThroughBed" "keeping" "LBorderThroughBed$Keeping;") ∈ ex_tb := ex_in (i := 349) (by decide +kernel) (by decide +kernel)
theorem kt_53 : (Jvm.Cond.laysFinal "BorderThroughBed" "BorderThroughBed" "mover" "LBorderThroughBed$Mover;") ∈ ex_tb := ex_in (i := 351) (by decide +kernel) (by decide +kernel)
theorem kt_54 : (Jvm.Cond.lays "BorderThroughBed" "BorderThroughBed" "imageIsKept" "Z") ∈ ex_tb := ex_in (i := 353) (by decide +kernel) (by decide +kernel)
theorem kt_55 : (Jvm.Cond.lays "BorderThroughBed" "BorderThroughBed" "housesRead" "I") ∈ ex_tb := ex_in (i := 355) (by decide +kernel) (by decide +kernel)
theorem kt_56 : (Jvm.Cond.lays "BorderThroughBed" "BorderThroughBed" "movesDone" "I") ∈ ex_tb := ex_in (i := 357) (by decide +kernel) (by decide +kernel)
theorem ku_10 : ∀ w ∈ u_ws (ex_Rn 10) (ex_T 10) (ex_N 10), w ∈ ex_tb := List.forall_mem_cons.mpr ⟨kt_45, List.forall_mem_cons.mpr ⟨kt_46, List.forall_mem_cons.mpr ⟨kt_47, List.forall_mem_cons.mpr ⟨kt_48, List.forall_mem_cons.mpr ⟨kt_49, List.forall_mem_cons.mpr ⟨kt_50, List.forall_mem_cons.mpr ⟨kt_51, List.forall_mem_cons.mpr ⟨kt_52, List.forall_mem_cons.mpr ⟨kt_53, List.forall_mem_cons.mpr ⟨kt_54, List.forall_mem_cons.mpr ⟨kt_55, List.forall_mem_cons.mpr ⟨kt_56, fun _ h => absurd h List.not_mem_nil⟩⟩⟩⟩⟩⟩⟩⟩⟩⟩⟩⟩
theorem kn_10 : ∀ a, a < ex_N 10 → ∀ b, b < ex_N 10 → a ≠ b → (ex_T 10 a).2.1 ≠ (ex_T 10 b).2.1 := by decide +kernel
theorem kp_10 : ∀ k, k < ex_N 10 → parseFieldDescriptor (ex_T 10 k).2.2.1 = some (ex_ty 10 k) := by decide +kernel
theorem kt_57 : (Jvm.Cond.lays "BorderThroughBedModel" "BorderThroughBedModel" "rows" "I") ∈ ex_tb := ex_in (i := 1080) (by decide +kernel) (by decide +kernel)
theorem kt_58 : (Jvm.Cond.lays "BorderThroughBedModel" "BorderThroughBedModel" "columns" "I") ∈ ex_tb := ex_in (i := 1082) (by decide +kernel) (by decide +kernel)
theorem kt_59 : (Jvm.Cond.lays "BorderThroughBedModel" "BorderThroughBedModel" "houses" "I") ∈ ex_tb := ex_in (i := 1084) (by decide +kernel) (by decide +kernel)
theorem kt_60 : (Jvm.Cond.laysFinal "BorderThroughBedModel" "BorderThroughBedModel" "sort" "[I") ∈ ex_tb := ex_in (i := 1086) (by decide +kernel) (by decide +kernel)
theorem kt_61 : (Jvm.Cond.laysFinal "BorderThroughBedModel" "BorderThroughBedModel" "line" "[I") ∈ ex_tb := ex_in (i := 1088) (by decide +kernel) (by decide +kernel)
theorem kt_62 : (Jvm.Cond.lays "BorderThroughBedModel" "BorderThroughBedModel" "laws" "I") ∈ ex_tb := ex_in (i := 1090) (by decide +kernel) (by decide +kernel)
theorem kt_63 : (Jvm.Cond.laysFinal "BorderThroughBedModel" "BorderThroughBedModel" "lawSide" "[I") ∈ ex_tb := ex_in (i := 1092) (by decide +kernel) (by decide +kernel)
theorem kt_64 : (Jvm.Cond.laysFinal "BorderThroughBedModel" "BorderThroughBedModel" "lawAct" "[I") ∈ ex_tb := ex_in (i := 1094) (by decide +kernel) (by decide +kernel)
theorem kt_65 : (Jvm.Cond.laysFinal "BorderThroughBedModel" "BorderThroughBedModel" "lawFrom" "[I") ∈ ex_tb := ex_in (i := 1096) (by decide +kernel) (by decide +kernel)
theorem kt_66 : (Jvm.Cond.laysFinal "BorderThroughBedModel" "BorderThroughBedModel" "lawTo" "[I") ∈ ex_tb := ex_in (i := 1098) (by decide +kernel) (by decide +kernel)
theorem kt_67 : (Jvm.Cond.laysFinal "BorderThroughBedModel" "BorderThroughBedModel" "lawKind" "[I") ∈ ex_tb := ex_in (i := 1100) (by decide +kernel) (by decide +kernel)
theorem kt_68 : (Jvm.Cond.lays "BorderThroughBedModel" "BorderThroughBedModel" "events" "I") ∈ ex_tb := ex_in (i := 1102) (by decide +kernel) (by decide +kernel)
theorem kt_69 : (Jvm.Cond.laysFinal "BorderThroughBedModel" "BorderThroughBedModel" "eventOf" "[I") ∈ ex_tb := ex_in (i := 1104) (by decide +kernel) (by decide +kernel)
theorem kt_70 : (Jvm.Cond.lays "BorderThroughBedModel" "BorderThroughBedModel" "things" "I") ∈ ex_tb := ex_in (i := 1106) (by decide +kernel) (by decide +kernel)
theorem kt_71 : (Jvm.Cond.laysFinal "BorderThroughBedModel" "BorderThroughBedModel" "thingKind" "[I") ∈ ex_tb := ex_in (i := 1108) (by decide +kernel) (by decide +kernel)
theorem kt_72 : (Jvm.Cond.laysFinal "BorderThroughBedModel" "BorderThroughBedModel" "thingCell" "[I") ∈ ex_tb := ex_in (i := 1110) (by decide +kernel) (by decide +kernel)
theorem kt_73 : (Jvm.Cond.laysFinal "BorderThroughBedModel" "BorderThroughBedModel" "thingWay" "[I") ∈ ex_tb := ex_in (i := 1112) (by decide +kernel) (by decide +kernel)
theorem kt_74 : (Jvm.Cond.lays "BorderThroughBedModel" "BorderThroughBedModel" "habits" "I") ∈ ex_tb := ex_in (i := 1114) (by decide +kernel) (by decide +kernel)
theorem kt_75 : (Jvm.Cond.laysFinal "BorderThroughBedModel" "BorderThroughBedModel" "habitAct" "[I") ∈ ex_tb := ex_in (i := 1116) (by decide +kernel) (by decide +kernel)
theorem kt_76 : (Jvm.Cond.laysFinal "BorderThroughBedModel" "BorderThroughBedModel" "habitHour" "[I") ∈ ex_tb := ex_in (i := 1118) (by decide +kernel) (by decide +kernel)
theorem kt_77 : (Jvm.Cond.lays "BorderThroughBedModel" "BorderThroughBedModel" "judgments" "I") ∈ ex_tb := ex_in (i := 1120) (by decide +kernel) (by decide +kernel)
theorem kt_78 : (Jvm.Cond.laysFinal "BorderThroughBedModel" "BorderThroughBedModel" "judgedCell" "[I") ∈ ex_tb := ex_in (i := 1122) (by decide +kernel) (by decide +kernel)
theorem kt_79 : (Jvm.Cond.laysFinal "BorderThroughBedModel" "BorderThroughBedModel" "judgedSide" "[I") ∈ ex_tb := ex_in (i := 1124) (by decide +kernel) (by decide +kernel)
theorem kt_80 : (Jvm.Cond.lays "BorderThroughBedModel" "BorderThroughBedModel" "asks" "I") ∈ ex_tb := ex_in (i := 1126) (by decide +kernel) (by decide +kernel)
theorem kt_81 : (Jvm.Cond.lays "BorderThroughBedModel" "BorderThroughBedModel" "pageLength" "I") ∈ ex_tb := ex_in (i := 1128) (by decide +kernel) (by decide +kernel)
theorem kt_82 : (Jvm.Cond.laysFinal "BorderThroughBedModel" "BorderThroughBedModel" "page" "[B") ∈ ex_tb := ex_in (i := 1130) (by decide +kernel) (by decide +kernel)
theorem kt_83 : (Jvm.Cond.lays "BorderThroughBedModel" "BorderThroughBedModel" "isKept" "Z") ∈ ex_tb := ex_in (i := 1132) (by decide +kernel) (by decide +kernel)
theorem kt_84 : (Jvm.Cond.lays "BorderThroughBedModel" "BorderThroughBedModel" "keptHouse" "I") ∈ ex_tb := ex_in (i := 1134) (by decide +kernel) (by decide +kernel)
theorem kt_85 : (Jvm.Cond.lays "BorderThroughBedModel" "BorderThroughBedModel" "keptThings" "I") ∈ ex_tb := ex_in (i := 1136) (by decide +kernel) (by decide +kernel)
theorem kt_86 : (Jvm.Cond.lays "BorderThroughBedModel" "BorderThroughBedModel" "keptEvents" "I") ∈ ex_tb := ex_in (i := 1138) (by decide +kernel) (by decide +kernel)
theorem kt_87 : (Jvm.Cond.lays "BorderThroughBedModel" "BorderThroughBedModel" "keptHabits" "I") ∈ ex_tb := ex_in (i := 1140) (by decide +kernel) (by decide +kernel)
theorem kt_88 : (Jvm.Cond.lays "BorderThroughBedModel" "BorderThroughBedModel" "keptJudgments" "I") ∈ ex_tb := ex_in (i := 1142) (by decide +kernel) (by decide +kernel)
theorem kt_89 : (Jvm.Cond.laysFinal "BorderThroughBedModel" "BorderThroughBedModel" "keptThing" "[I") ∈ ex_tb := ex_in (i := 1144) (by decide +kernel) (by decide +kernel)
theorem kt_90 : (Jvm.Cond.laysFinal "BorderThroughBedModel" "BorderThroughBedModel" "keptEvent" "[I") ∈ ex_tb := ex_in (i := 1146) (by decide +kernel) (by decide +kernel)
theorem kt_91 : (Jvm.Cond.laysFinal "BorderThroughBedModel" "BorderThroughBedModel" "keptHabit" "[I") ∈ ex_tb := ex_in (i := 1148) (by decide +kernel) (by decide +kernel)
theorem kt_92 : (Jvm.Cond.laysFinal "BorderThroughBedModel" "BorderThroughBedModel" "keptJudged" "[I") ∈ ex_tb := ex_in (i := 1150) (by decide +kernel) (by decide +kernel)
theorem kt_93 : (Jvm.Cond.lays "BorderThroughBedModel" "BorderThroughBedModel" "faultAt" "I") ∈ ex_tb := ex_in (i := 1152) (by decide +kernel) (by decide +kernel)
theorem kt_94 : (Jvm.Cond.lays "BorderThroughBedModel" "BorderThroughBedModel" "isWhole" "Z") ∈ ex_tb := ex_in (i := 1154) (by decide +kernel) (by decide +kernel)
theorem kt_95 : (Jvm.Cond.lays "BorderThroughBedModel" "BorderThroughBedModel" "newRows" "I") ∈ ex_tb := ex_in (i := 1156) (by decide +kernel) (by decide +kernel)
theorem kt_96 : (Jvm.Cond.lays "BorderThroughBedModel" "BorderThroughBedModel" "newColumns" "I") ∈ ex_tb := ex_in (i := 1158) (by decide +kernel) (by decide +kernel)
theorem kt_97 : (Jvm.Cond.lays "BorderThroughBedModel" "BorderThroughBedModel" "newHere" "I") ∈ ex_tb := ex_in (i := 1160) (by decide +kernel) (by decide +kernel)
theorem kt_98 : (Jvm.Cond.lays "BorderThroughBedModel" "BorderThroughBedModel" "hasLine" "Z") ∈ ex_tb := ex_in (i := 1162) (by decide +kernel) (by decide +kernel)
theorem kt_99 : (Jvm.Cond.laysFinal "BorderThroughBedModel" "BorderThroughBedModel" "newSort" "[I") ∈ ex_tb := ex_in (i := 1164) (by decide +kernel) (by decide +kernel)
theorem kt_100 : (Jvm.Cond.laysFinal "BorderThroughBedModel" "BorderThroughBedModel" "newLine" "[I") ∈ ex_tb := ex_in (i := 1166) (by decide +kernel) (by decide +kernel)
theorem kt_101 : (Jvm.Cond.lays "BorderThroughBedModel" "BorderThroughBedModel" "newSide" "I") ∈ ex_tb := ex_in (i := 1168) (by decide +kernel) (by decide +kernel)
theorem kt_102 : (Jvm.Cond.lays "BorderThroughBedModel" "BorderThroughBedModel" "newAct" "I") ∈ ex_tb := ex_in (i := 1170) (by decide +kernel) (by decide +kernel)
theorem kt_103 : (Jvm.Cond.lays "BorderThroughBedModel" "BorderThroughBedModel" "newFrom" "I") ∈ ex_tb := ex_in (i := 1172) (by decide +kernel) (by decide +kernel)
theorem kt_104 : (Jvm.Cond.lays "BorderThroughBedModel" "BorderThroughBedModel" "newTo" "I") ∈ ex_tb := ex_in (i := 1174) (by decide +kernel) (by decide +kernel)
theorem kt_105 : (Jvm.Cond.lays "BorderThroughBedModel" "BorderThroughBedModel" "newKind" "I") ∈ ex_tb := ex_in (i := 1176) (by decide +kernel) (by decide +kernel)
theorem kt_106 : (Jvm.Cond.lays "BorderThroughBedModel" "BorderThroughBedModel" "shift" "I") ∈ ex_tb := ex_in (i := 1178) (by decide +kernel) (by decide +kernel)
theorem kt_107 : (Jvm.Cond.laysFinal "BorderThroughBedModel" "BorderThroughBedModel" "far" "[I") ∈ ex_tb := ex_in (i := 1180) (by decide +kernel) (by decide +kernel)
theorem kt_108 : (Jvm.Cond.laysFinal "BorderThroughBedModel" "BorderThroughBedModel" "queue" "[I") ∈ ex_tb := ex_in (i := 1182) (by decide +kernel) (by decide +kernel)
theorem kt_109 : (Jvm.Cond.lays "BorderThroughBedModel" "BorderThroughBedModel" "movedMany" "I") ∈ ex_tb := ex_in (i := 1184) (by decide +kernel) (by decide +kernel)
theorem kt_110 : (Jvm.Cond.lays "BorderThroughBedModel" "BorderThroughBedModel" "movedFirst" "I") ∈ ex_tb := ex_in (i := 1186) (by decide +kernel) (by decide +kernel)
theorem kt_111 : (Jvm.Cond.lays "BorderThroughBedModel" "BorderThroughBedModel" "placeFirst" "I") ∈ ex_tb := ex_in (i := 1188) (by decide +kernel) (by decide +kernel)
theorem kt_112 : (Jvm.Cond.lays "BorderThroughBedModel" "BorderThroughBedModel" "movedSecond" "I") ∈ ex_tb := ex_in (i := 1190) (by decide +kernel) (by decide +kernel)
theorem kt_113 : (Jvm.Cond.lays "BorderThroughBedModel" "BorderThroughBedModel" "placeSecond" "I") ∈ ex_tb := ex_in (i := 1192) (by decide +kernel) (by decide +kernel)
theorem kt_114 : (Jvm.Cond.lays "BorderThroughBedModel" "BorderThroughBedModel" "h" "J") ∈ ex_tb := ex_in (i := 1194) (by decide +kernel) (by decide +kernel)
theorem ku_11 : ∀ w ∈ u_ws (ex_Rn 11) (ex_T 11) (ex_N 11), w ∈ ex_tb := List.forall_mem_cons.mpr ⟨kt_57, List.forall_mem_cons.mpr ⟨kt_58, List.forall_mem_cons.mpr ⟨kt_59, List.forall_mem_cons.mpr ⟨kt_60, List.forall_mem_cons.mpr ⟨kt_61, List.forall_mem_cons.mpr ⟨kt_62, List.forall_mem_cons.mpr ⟨kt_63, List.forall_mem_cons.mpr ⟨kt_64, List.forall_mem_cons.mpr ⟨kt_65, List.forall_mem_cons.mpr ⟨kt_66, List.forall_mem_cons.mpr ⟨kt_67, List.forall_mem_cons.mpr ⟨kt_68, List.forall_mem_cons.mpr ⟨kt_69, List.forall_mem_cons.mpr ⟨kt_70, List.forall_mem_cons.mpr ⟨kt_71, List.forall_mem_cons.mpr ⟨kt_72, List.forall_mem_cons.mpr ⟨kt_73, List.forall_mem_cons.mpr ⟨kt_74, List.forall_mem_cons.mpr ⟨kt_75, List.forall_mem_cons.mpr ⟨kt_76, List.forall_mem_cons.mpr ⟨kt_77, List.forall_mem_cons.mpr ⟨kt_78, List.forall_mem_cons.mpr ⟨kt_79, List.forall_mem_cons.mpr ⟨kt_80, List.forall_mem_cons.mpr ⟨kt_81, List.forall_mem_cons.mpr ⟨kt_82, List.forall_mem_cons.mpr ⟨kt_83, List.forall_mem_cons.mpr ⟨kt_84, List.forall_mem_cons.mpr ⟨kt_85, List.forall_mem_cons.mpr ⟨kt_86, List.forall_mem_cons.mpr ⟨kt_87, List.forall_mem_cons.mpr ⟨kt_88, List.forall_mem_cons.mpr ⟨kt_89, List.forall_mem_cons.mpr ⟨kt_90, List.forall_mem_cons.mpr ⟨kt_91, List.forall_mem_cons.mpr ⟨kt_92, List.forall_mem_cons.mpr ⟨kt_93, List.forall_mem_cons.mpr ⟨kt_94, List.forall_mem_cons.mpr ⟨kt_95, List.forall_mem_cons.mpr ⟨kt_96, List.forall_mem_cons.mpr ⟨kt_97, List.forall_mem_cons.mpr ⟨kt_98, List.forall_mem_cons.mpr ⟨kt_99, List.forall_mem_cons.mpr ⟨kt_100, List.forall_mem_cons.mpr ⟨kt_101, List.forall_mem_cons.mpr ⟨kt_102, List.forall_mem_cons.mpr ⟨kt_103, List.forall_mem_cons.mpr ⟨kt_104, List.forall_mem_cons.mpr ⟨kt_105, List.forall_mem_cons.mpr ⟨kt_106, List.forall_mem_cons.mpr ⟨kt_107, List.forall_mem_cons.mpr ⟨kt_108, List.forall_mem_cons.mpr ⟨kt_109, List.forall_mem_cons.mpr ⟨kt_110, List.forall_mem_cons.mpr ⟨kt_111, List.forall_mem_cons.mpr ⟨kt_112, List.forall_mem_cons.mpr ⟨kt_113, List.forall_mem_cons.mpr ⟨kt_114, fun _ h => absurd h List.not_mem_nil⟩⟩⟩⟩⟩⟩⟩⟩⟩⟩⟩⟩⟩⟩⟩⟩⟩⟩⟩⟩⟩⟩⟩⟩⟩⟩⟩⟩⟩⟩⟩⟩⟩⟩⟩⟩⟩⟩⟩⟩⟩⟩⟩⟩⟩⟩⟩⟩⟩⟩⟩⟩⟩⟩⟩⟩⟩⟩
theorem kn_11 : ∀ a, a < ex_N 11 → ∀ b, b < ex_N 11 → a ≠ b → (ex_T 11 a).2.1 ≠ (ex_T 11 b).2.1 := by decide +kernel
theorem kp_11 : ∀ k, k < ex_N 11 → parseFieldDescriptor (ex_T 11 k).2.2.1 = some (ex_ty 11 k) := by decide +kernel
theorem ku_all {c : Nat} (hc : c < 12) : ∀ w ∈ u_ws (ex_Rn c) (ex_T c) (ex_N c), w ∈ ex_tb := by
  match c, hc with
  | 0, _ => exact ku_0
  | 1, _ => exact ku_1
  | 2, _ => exact ku_2
  | 3, _ => exact ku_3
  | 4, _ => exact ku_4
  | 5, _ => exact ku_5
  | 6, _ => exact ku_6
  | 7, _ => exact ku_7
  | 8, _ => exact ku_8
  | 9, _ => exact ku_9
  | 10, _ => exact ku_10
  | 11, _ => exact ku_11
theorem kn_all {c : Nat} (hc : c < 12) : ∀ a, a < ex_N c → ∀ b, b < ex_N c → a ≠ b → (ex_T c a).2.1 ≠ (ex_T c b).2.1 := by
  match c, hc with
  | 0, _ => exact kn_0
  | 1, _ => exact kn_1
  | 2, _ => exact kn_2
  | 3, _ => exact kn_3
  | 4, _ => exact kn_4
  | 5, _ => exact kn_5
  | 6, _ => exact kn_6
  | 7, _ => exact kn_7
  | 8, _ => exact kn_8
  | 9, _ => exact kn_9
  | 10, _ => exact kn_10
  | 11, _ => exact kn_11
theorem kp_all {c : Nat} (hc : c < 12) : ∀ k, k < ex_N c → parseFieldDescriptor (ex_T c k).2.2.1 = some (ex_ty c k) := by
  match c, hc with
  | 0, _ => exact kp_0
  | 1, _ => exact kp_1
  | 2, _ => exact kp_2
  | 3, _ => exact kp_3
  | 4, _ => exact kp_4
  | 5, _ => exact kp_5
  | 6, _ => exact kp_6
  | 7, _ => exact kp_7
  | 8, _ => exact kp_8
  | 9, _ => exact kp_9
  | 10, _ => exact kp_10
  | 11, _ => exact kp_11
def ex_PF (c a e : Nat) : Prop := Jvm.Cond.fieldLink (ex_Rn c) a (ex_Rn (e / 64)) (ex_T (e / 64) (e % 64)).2.1 (ex_T (e / 64) (e % 64)).2.2.1 ∈ ex_tb ∧ e / 64 < 12 ∧ e % 64 < ex_N (e / 64)
theorem kt_115 : (Jvm.Cond.fieldLink "BorderThroughBed$Day" 14 "BorderThroughBed$Day" "things" "LBorderThroughBed$Table;") ∈ ex_tb := ex_in (i := 263) (by decide +kernel) (by decide +kernel)
theorem kt_116 : (Jvm.Cond.fieldLink "BorderThroughBed$Day" 20 "BorderThroughBed$Day" "events" "LBorderThroughBed$Table;") ∈ ex_tb := ex_in (i := 266) (by decide +kernel) (by decide +kernel)
theorem kt_117 : (Jvm.Cond.fieldLink "BorderThroughBed$Day" 23 "BorderThroughBed$Day" "habits" "LBorderThroughBed$Table;") ∈ ex_tb := ex_in (i := 268) (by decide +kernel) (by decide +kernel)
theorem kt_118 : (Jvm.Cond.fieldLink "BorderThroughBed$Day" 26 "BorderThroughBed$Day" "judgments" "LBorderThroughBed$Table;") ∈ ex_tb := ex_in (i := 271) (by decide +kernel) (by decide +kernel)
theorem kq_F_0 : ∀ q ∈ ex_cF.getD 0 [], ex_PF 0 q.1 q.2 := List.forall_mem_cons.mpr ⟨⟨kt_115, by decide, by decide +kernel⟩, List.forall_mem_cons.mpr ⟨⟨kt_116, by decide, by decide +kernel⟩, List.forall_mem_cons.mpr ⟨⟨kt_117, by decide, by decide +kernel⟩, List.forall_mem_cons.mpr ⟨⟨kt_118, by decide, by decide +kernel⟩, fun _ h => absurd h List.not_mem_nil⟩⟩⟩⟩
theorem kt_119 : (Jvm.Cond.fieldLink "BorderThroughBed$House" 9 "BorderThroughBed$House" "kinds" "[I") ∈ ex_tb := ex_in (i := 186) (by decide +kernel) (by decide +kernel)
theorem kt_120 : (Jvm.Cond.fieldLink "BorderThroughBed$House" 15 "BorderThroughBed$House" "rowOf" "[I") ∈ ex_tb := ex_in (i := 187) (by decide +kernel) (by decide +kernel)
theorem kt_121 : (Jvm.Cond.fieldLink "BorderThroughBed$House" 18 "BorderThroughBed$House" "columnOf" "[I") ∈ ex_tb := ex_in (i := 188) (by decide +kernel) (by decide +kernel)
theorem kt_122 : (Jvm.Cond.fieldLink "BorderThroughBed$House" 21 "BorderThroughBed$House" "lines" "[I") ∈ ex_tb := ex_in (i := 189) (by decide +kernel) (by decide +kernel)
theorem kt_123 : (Jvm.Cond.fieldLink "BorderThroughBed$House" 24 "BorderThroughBed$House" "beside" "[I") ∈ ex_tb := ex_in (i := 190) (by decide +kernel) (by decide +kernel)
theorem kt_124 : (Jvm.Cond.fieldLink "BorderThroughBed$House" 27 "BorderThroughBed$House" "ahead" "[I") ∈ ex_tb := ex_in (i := 191) (by decide +kernel) (by decide +kernel)
theorem kt_125 : (Jvm.Cond.fieldLink "BorderThroughBed$House" 30 "BorderThroughBed$House" "bedSpots" "[I") ∈ ex_tb := ex_in (i := 192) (by decide +kernel) (by decide +kernel)
theorem kt_126 : (Jvm.Cond.fieldLink "BorderThroughBed$House" 33 "BorderThroughBed$House" "otherSpots" "[I") ∈ ex_tb := ex_in (i := 193) (by decide +kernel) (by decide +kernel)
theorem kt_127 : (Jvm.Cond.fieldLink "BorderThroughBed$House" 36 "BorderThroughBed$House" "doors" "[I") ∈ ex_tb := ex_in (i := 194) (by decide +kernel) (by decide +kernel)
theorem kt_128 : (Jvm.Cond.fieldLink "BorderThroughBed$House" 39 "BorderThroughBed$House" "doorSteps" "[I") ∈ ex_tb := ex_in (i := 195) (by decide +kernel) (by decide +kernel)
theorem kt_129 : (Jvm.Cond.fieldLink "BorderThroughBed$House" 42 "BorderThroughBed$House" "costs" "[I") ∈ ex_tb := ex_in (i := 196) (by decide +kernel) (by decide +kernel)
theorem kt_130 : (Jvm.Cond.fieldLink "BorderThroughBed$House" 45 "BorderThroughBed$House" "cells" "I") ∈ ex_tb := ex_in (i := 197) (by decide +kernel) (by decide +kernel)
theorem kt_131 : (Jvm.Cond.fieldLink "BorderThroughBed$House" 67 "BorderThroughBed$House" "rows" "I") ∈ ex_tb := ex_in (i := 198) (by decide +kernel) (by decide +kernel)
theorem kt_132 : (Jvm.Cond.fieldLink "BorderThroughBed$House" 70 "BorderThroughBed$House" "width" "I") ∈ ex_tb := ex_in (i := 199) (by decide +kernel) (by decide +kernel)
theorem kq_F_1 : ∀ q ∈ ex_cF.getD 1 [], ex_PF 1 q.1 q.2 := List.forall_mem_cons.mpr ⟨⟨kt_119, by decide, by decide +kernel⟩, List.forall_mem_cons.mpr ⟨⟨kt_120, by decide, by decide +kernel⟩, List.forall_mem_cons.mpr ⟨⟨kt_121, by decide, by decide +kernel⟩, List.forall_mem_cons.mpr ⟨⟨kt_122, by decide, by decide +kernel⟩, List.forall_mem_cons.mpr ⟨⟨kt_123, by decide, by decide +kernel⟩, List.forall_mem_cons.mpr ⟨⟨kt_124, by decide, by decide +kernel⟩, List.forall_mem_cons.mpr ⟨⟨kt_125, by decide, by decide +kernel⟩, List.forall_mem_cons.mpr ⟨⟨kt_126, by decide, by decide +kernel⟩, List.forall_mem_cons.mpr ⟨⟨kt_127, by decide, by decide +kernel⟩, List.forall_mem_cons.mpr ⟨⟨kt_128, by decide, by decide +kernel⟩, List.forall_mem_cons.mpr ⟨⟨kt_129, by decide, by decide +kernel⟩, List.forall_mem_cons.mpr ⟨⟨kt_130, by decide, by decide +kernel⟩, List.forall_mem_cons.mpr ⟨⟨kt_131, by decide, by decide +kernel⟩, List.forall_mem_cons.mpr ⟨⟨kt_132, by decide, by decide +kernel⟩, fun _ h => absurd h List.not_mem_nil⟩⟩⟩⟩⟩⟩⟩⟩⟩⟩⟩⟩⟩⟩
theorem kt_133 : (Jvm.Cond.fieldLink "BorderThroughBed$HouseText" 9 "BorderThroughBed$HouseText" "row" "I") ∈ ex_tb := ex_in (i := 139) (by decide +kernel) (by decide +kernel)
theorem kt_134 : (Jvm.Cond.fieldLink "BorderThroughBed$HouseText" 15 "BorderThroughBed$HouseText" "width" "I") ∈ ex_tb := ex_in (i := 140) (by decide +kernel) (by decide +kernel)
theorem kt_135 : (Jvm.Cond.fieldLink "BorderThroughBed$HouseText" 18 "BorderThroughBed$HouseText" "column" "I") ∈ ex_tb := ex_in (i := 141) (by decide +kernel) (by decide +kernel)
theorem kt_136 : (Jvm.Cond.fieldLink "BorderThroughBed$HouseText" 21 "BorderThroughBed$HouseText" "hasLine" "Z") ∈ ex_tb := ex_in (i := 142) (by decide +kernel) (by decide +kernel)
theorem kq_F_2 : ∀ q ∈ ex_cF.getD 2 [], ex_PF 2 q.1 q.2 := List.forall_mem_cons.mpr ⟨⟨kt_133, by decide, by decide +kernel⟩, List.forall_mem_cons.mpr ⟨⟨kt_134, by decide, by decide +kernel⟩, List.forall_mem_cons.mpr ⟨⟨kt_135, by decide, by decide +kernel⟩, List.forall_mem_cons.mpr ⟨⟨kt_136, by decide, by decide +kernel⟩, fun _ h => absurd h List.not_mem_nil⟩⟩⟩⟩
theorem kt_137 : (Jvm.Cond.fieldLink "BorderThroughBed$Keeping" 9 "BorderThroughBed$Keeping" "acts" "[I") ∈ ex_tb := ex_in (i := 288) (by decide +kernel) (by decide +kernel)
theorem kt_138 : (Jvm.Cond.fieldLink "BorderThroughBed$Keeping" 15 "BorderThroughBed$Keeping" "good" "[I") ∈ ex_tb := ex_in (i := 289) (by decide +kernel) (by decide +kernel)
theorem kt_139 : (Jvm.Cond.fieldLink "BorderThroughBed$Keeping" 18 "BorderThroughBed$Day" "habits" "LBorderThroughBed$Table;") ∈ ex_tb := ex_in (i := 269) (by decide +kernel) (by decide +kernel)
theorem kt_140 : (Jvm.Cond.fieldLink "BorderThroughBed$Keeping" 36 "BorderThroughBed$Keeping" "size" "I") ∈ ex_tb := ex_in (i := 290) (by decide +kernel) (by decide +kernel)
theorem kq_F_3 : ∀ q ∈ ex_cF.getD 3 [], ex_PF 3 q.1 q.2 := List.forall_mem_cons.mpr ⟨⟨kt_137, by decide, by decide +kernel⟩, List.forall_mem_cons.mpr ⟨⟨kt_138, by decide, by decide +kernel⟩, List.forall_mem_cons.mpr ⟨⟨kt_139, by decide, by decide +kernel⟩, List.forall_mem_cons.mpr ⟨⟨kt_140, by decide, by decide +kernel⟩, fun _ h => absurd h List.not_mem_nil⟩⟩⟩⟩
theorem kt_141 : (Jvm.Cond.fieldLink "BorderThroughBed$LawText" 9 "BorderThroughBed$LawText" "side" "I") ∈ ex_tb := ex_in (i := 158) (by decide +kernel) (by decide +kernel)
theorem kt_142 : (Jvm.Cond.fieldLink "BorderThroughBed$LawText" 15 "BorderThroughBed$LawText" "act" "I") ∈ ex_tb := ex_in (i := 159) (by decide +kernel) (by decide +kernel)
theorem kt_143 : (Jvm.Cond.fieldLink "BorderThroughBed$LawText" 18 "BorderThroughBed$LawText" "from" "I") ∈ ex_tb := ex_in (i := 160) (by decide +kernel) (by decide +kernel)
theorem kt_144 : (Jvm.Cond.fieldLink "BorderThroughBed$LawText" 21 "BorderThroughBed$LawText" "to" "I") ∈ ex_tb := ex_in (i := 161) (by decide +kernel) (by decide +kernel)
theorem kt_145 : (Jvm.Cond.fieldLink "BorderThroughBed$LawText" 24 "BorderThroughBed$LawText" "kind" "I") ∈ ex_tb := ex_in (i := 162) (by decide +kernel) (by decide +kernel)
theorem kt_146 : (Jvm.Cond.fieldLink "BorderThroughBed$LawText" 27 "BorderThroughBed$LawText" "stage" "I") ∈ ex_tb := ex_in (i := 163) (by decide +kernel) (by decide +kernel)
theorem kt_147 : (Jvm.Cond.fieldLink "BorderThroughBed$LawText" 30 "BorderThroughBed$LawText" "digits" "I") ∈ ex_tb := ex_in (i := 164) (by decide +kernel) (by decide +kernel)
theorem kq_F_4 : ∀ q ∈ ex_cF.getD 4 [], ex_PF 4 q.1 q.2 := List.forall_mem_cons.mpr ⟨⟨kt_141, by decide, by decide +kernel⟩, List.forall_mem_cons.mpr ⟨⟨kt_142, by decide, by decide +kernel⟩, List.forall_mem_cons.mpr ⟨⟨kt_143, by decide, by decide +kernel⟩, List.forall_mem_cons.mpr ⟨⟨kt_144, by decide, by decide +kernel⟩, List.forall_mem_cons.mpr ⟨⟨kt_145, by decide, by decide +kernel⟩, List.forall_mem_cons.mpr ⟨⟨kt_146, by decide, by decide +kernel⟩, List.forall_mem_cons.mpr ⟨⟨kt_147, by decide, by decide +kernel⟩, fun _ h => absurd h List.not_mem_nil⟩⟩⟩⟩⟩⟩⟩
theorem kt_148 : (Jvm.Cond.fieldLink "BorderThroughBed$Laws" 14 "BorderThroughBed$Laws" "laws" "LBorderThroughBed$Table;") ∈ ex_tb := ex_in (i := 251) (by decide +kernel) (by decide +kernel)
theorem kq_F_5 : ∀ q ∈ ex_cF.getD 5 [], ex_PF 5 q.1 q.2 := List.forall_mem_cons.mpr ⟨⟨kt_148, by decide, by decide +kernel⟩, fun _ h => absurd h List.not_mem_nil⟩
theorem kt_149 : (Jvm.Cond.fieldLink "BorderThroughBed$Mover" 9 "BorderThroughBed$Mover" "kinds" "[I") ∈ ex_tb := ex_in (i := 304) (by decide +kernel) (by decide +kernel)
theorem kt_150 : (Jvm.Cond.fieldLink "BorderThroughBed$Mover" 15 "BorderThroughBed$Mover" "places" "[I") ∈ ex_tb := ex_in (i := 305) (by decide +kernel) (by decide +kernel)
theorem kt_151 : (Jvm.Cond.fieldLink "BorderThroughBed$Mover" 18 "BorderThroughBed$Mover" "spots" "[I") ∈ ex_tb := ex_in (i := 306) (by decide +kernel) (by decide +kernel)
theorem kt_152 : (Jvm.Cond.fieldLink "BorderThroughBed$Mover" 21 "BorderThroughBed$Mover" "answer" "[I") ∈ ex_tb := ex_in (i := 307) (by decide +kernel) (by decide +kernel)
theorem kt_153 : (Jvm.Cond.fieldLink "BorderThroughBed$Mover" 24 "BorderThroughBed$Day" "things" "LBorderThroughBed$Table;") ∈ ex_tb := ex_in (i := 264) (by decide +kernel) (by decide +kernel)
theorem kt_154 : (Jvm.Cond.fieldLink "BorderThroughBed$Mover" 42 "BorderThroughBed$Mover" "size" "I") ∈ ex_tb := ex_in (i := 308) (by decide +kernel) (by decide +kernel)
theorem kt_155 : (Jvm.Cond.fieldLink "BorderThroughBed$Mover" 45 "BorderThroughBed$Mover" "hardest" "I") ∈ ex_tb := ex_in (i := 309) (by decide +kernel) (by decide +kernel)
theorem kq_F_6 : ∀ q ∈ ex_cF.getD 6 [], ex_PF 6 q.1 q.2 := List.forall_mem_cons.mpr ⟨⟨kt_149, by decide, by decide +kernel⟩, List.forall_mem_cons.mpr ⟨⟨kt_150, by decide, by decide +kernel⟩, List.forall_mem_cons.mpr ⟨⟨kt_151, by decide, by decide +kernel⟩, List.forall_mem_cons.mpr ⟨⟨kt_152, by decide, by decide +kernel⟩, List.forall_mem_cons.mpr ⟨⟨kt_153, by decide, by decide +kernel⟩, List.forall_mem_cons.mpr ⟨⟨kt_154, by decide, by decide +kernel⟩, List.forall_mem_cons.mpr ⟨⟨kt_155, by decide, by decide +kernel⟩, fun _ h => absurd h List.not_mem_nil⟩⟩⟩⟩⟩⟩⟩
theorem kt_156 : (Jvm.Cond.fieldLink "BorderThroughBed$Page" 11 "BorderThroughBed$Page" "codes" "[I") ∈ ex_tb := ex_in (i := 122) (by decide +kernel) (by decide +kernel)
theorem kt_157 : (Jvm.Cond.fieldLink "BorderThroughBed$Page" 19 "BorderThroughBed$Page" "size" "I") ∈ ex_tb := ex_in (i := 123) (by decide +kernel) (by decide +kernel)
theorem kq_F_7 : ∀ q ∈ ex_cF.getD 7 [], ex_PF 7 q.1 q.2 := List.forall_mem_cons.mpr ⟨⟨kt_156, by decide, by decide +kernel⟩, List.forall_mem_cons.mpr ⟨⟨kt_157, by decide, by decide +kernel⟩, fun _ h => absurd h List.not_mem_nil⟩⟩
theorem kt_158 : (Jvm.Cond.fieldLink "BorderThroughBed$Table" 11 "BorderThroughBed$Table" "numbers" "[I") ∈ ex_tb := ex_in (i := 241) (by decide +kernel) (by decide +kernel)
theorem kt_159 : (Jvm.Cond.fieldLink "BorderThroughBed$Table" 15 "BorderThroughBed$Table" "most" "I") ∈ ex_tb := ex_in (i := 242) (by decide +kernel) (by decide +kernel)
theorem kt_160 : (Jvm.Cond.fieldLink "BorderThroughBed$Table" 19 "BorderThroughBed$Table" "size" "I") ∈ ex_tb := ex_in (i := 243) (by decide +kernel) (by decide +kernel)
theorem kq_F_8 : ∀ q ∈ ex_cF.getD 8 [], ex_PF 8 q.1 q.2 := List.forall_mem_cons.mpr ⟨⟨kt_158, by decide, by decide +kernel⟩, List.forall_mem_cons.mpr ⟨⟨kt_159, by decide, by decide +kernel⟩, List.forall_mem_cons.mpr ⟨⟨kt_160, by decide, by decide +kernel⟩, fun _ h => absurd h List.not_mem_nil⟩⟩⟩
theorem kq_F_9 : ∀ q ∈ ex_cF.getD 9 [], ex_PF 9 q.1 q.2 := fun _ h => absurd h List.not_mem_nil
theorem kt_161 : (Jvm.Cond.fieldLink "BorderThroughBed" 10 "BorderThroughBed" "page" "LBorderThroughBed$Page;") ∈ ex_tb := ex_in (i := 323) (by decide +kernel) (by decide +kernel)
theorem kt_162 : (Jvm.Cond.fieldLink "BorderThroughBed" 19 "BorderThroughBed" "houseText" "LBorderThroughBed$HouseText;") ∈ ex_tb := ex_in (i := 324) (by decide +kernel) (by decide +kernel)
theorem kt_163 : (Jvm.Cond.fieldLink "BorderThroughBed" 26 "BorderThroughBed" "lawText" "LBorderThroughBed$LawText;") ∈ ex_tb := ex_in (i := 325) (by decide +kernel) (by decide +kernel)
theorem kt_164 : (Jvm.Cond.fieldLink "BorderThroughBed" 33 "BorderThroughBed" "house" "LBorderThroughBed$House;") ∈ ex_tb := ex_in (i := 326) (by decide +kernel) (by decide +kernel)
theorem kt_165 : (Jvm.Cond.fieldLink "BorderThroughBed" 40 "BorderThroughBed" "laws" "LBorderThroughBed$Laws;") ∈ ex_tb := ex_in (i := 327) (by decide +kernel) (by decide +kernel)
theorem kt_166 : (Jvm.Cond.fieldLink "BorderThroughBed" 47 "BorderThroughBed" "now" "LBorderThroughBed$Day;") ∈ ex_tb := ex_in (i := 328) (by decide +kernel) (by decide +kernel)
theorem kt_167 : (Jvm.Cond.fieldLink "BorderThroughBed" 51 "BorderThroughBed" "imageDay" "LBorderThroughBed$Day;") ∈ ex_tb := ex_in (i := 329) (by decide +kernel) (by decide +kernel)
theorem kt_168 : (Jvm.Cond.fieldLink "BorderThroughBed" 57 "BorderThroughBed" "keeping" "LBorderThroughBed$Keeping;") ∈ ex_tb := ex_in (i := 330) (by decide +kernel) (by decide +kernel)
theorem kt_169 : (Jvm.Cond.fieldLink "BorderThroughBed" 64 "BorderThroughBed" "mover" "LBorderThroughBed$Mover;") ∈ ex_tb := ex_in (i := 331) (by decide +kernel) (by decide +kernel)
theorem kt_170 : (Jvm.Cond.fieldLink "BorderThroughBed" 101 "BorderThroughBed" "imageIsKept" "Z") ∈ ex_tb := ex_in (i := 332) (by decide +kernel) (by decide +kernel)
theorem kt_171 : (Jvm.Cond.fieldLink "BorderThroughBed" 105 "BorderThroughBed" "housesRead" "I") ∈ ex_tb := ex_in (i := 333) (by decide +kernel) (by decide +kernel)
theorem kt_172 : (Jvm.Cond.fieldLink "BorderThroughBed" 151 "BorderThroughBed$Day" "events" "LBorderThroughBed$Table;") ∈ ex_tb := ex_in (i := 267) (by decide +kernel) (by decide +kernel)
theorem kt_173 : (Jvm.Cond.fieldLink "BorderThroughBed" 187 "BorderThroughBed$Day" "things" "LBorderThroughBed$Table;") ∈ ex_tb := ex_in (i := 265) (by decide +kernel) (by decide +kernel)
theorem kt_174 : (Jvm.Cond.fieldLink "BorderThroughBed" 205 "BorderThroughBed$Day" "habits" "LBorderThroughBed$Table;") ∈ ex_tb := ex_in (i := 270) (by decide +kernel) (by decide +kernel)
theorem kt_175 : (Jvm.Cond.fieldLink "BorderThroughBed" 220 "BorderThroughBed" "movesDone" "I") ∈ ex_tb := ex_in (i := 334) (by decide +kernel) (by decide +kernel)
theorem kt_176 : (Jvm.Cond.fieldLink "BorderThroughBed" 262 "BorderThroughBed$Day" "judgments" "LBorderThroughBed$Table;") ∈ ex_tb := ex_in (i := 272) (by decide +kernel) (by decide +kernel)
theorem kq_F_10 : ∀ q ∈ ex_cF.getD 10 [], ex_PF 10 q.1 q.2 := List.forall_mem_cons.mpr ⟨⟨kt_161, by decide, by decide +kernel⟩, List.forall_mem_cons.mpr ⟨⟨kt_162, by decide, by decide +kernel⟩, List.forall_mem_cons.mpr ⟨⟨kt_163, by decide, by decide +kernel⟩, List.forall_mem_cons.mpr ⟨⟨kt_164, by decide, by decide +kernel⟩, List.forall_mem_cons.mpr ⟨⟨kt_165, by decide, by decide +kernel⟩, List.forall_mem_cons.mpr ⟨⟨kt_166, by decide, by decide +kernel⟩, List.forall_mem_cons.mpr ⟨⟨kt_167, by decide, by decide +kernel⟩, List.forall_mem_cons.mpr ⟨⟨kt_168, by decide, by decide +kernel⟩, List.forall_mem_cons.mpr ⟨⟨kt_169, by decide, by decide +kernel⟩, List.forall_mem_cons.mpr ⟨⟨kt_170, by decide, by decide +kernel⟩, List.forall_mem_cons.mpr ⟨⟨kt_171, by decide, by decide +kernel⟩, List.forall_mem_cons.mpr ⟨⟨kt_172, by decide, by decide +kernel⟩, List.forall_mem_cons.mpr ⟨⟨kt_173, by decide, by decide +kernel⟩, List.forall_mem_cons.mpr ⟨⟨kt_174, by decide, by decide +kernel⟩, List.forall_mem_cons.mpr ⟨⟨kt_175, by decide, by decide +kernel⟩, List.forall_mem_cons.mpr ⟨⟨kt_176, by decide, by decide +kernel⟩, fun _ h => absurd h List.not_mem_nil⟩⟩⟩⟩⟩⟩⟩⟩⟩⟩⟩⟩⟩⟩⟩⟩
theorem kt_177 : (Jvm.Cond.fieldLink "BorderThroughBedModel" 7 "BorderThroughBedModel" "sort" "[I") ∈ ex_tb := ex_in (i := 1025) (by decide +kernel) (by decide +kernel)
theorem kt_178 : (Jvm.Cond.fieldLink "BorderThroughBedModel" 13 "BorderThroughBedModel" "line" "[I") ∈ ex_tb := ex_in (i := 1026) (by decide +kernel) (by decide +kernel)
theorem kt_179 : (Jvm.Cond.fieldLink "BorderThroughBedModel" 16 "BorderThroughBedModel" "lawSide" "[I") ∈ ex_tb := ex_in (i := 1028) (by decide +kernel) (by decide +kernel)
theorem kt_180 : (Jvm.Cond.fieldLink "BorderThroughBedModel" 19 "BorderThroughBedModel" "lawAct" "[I") ∈ ex_tb := ex_in (i := 1029) (by decide +kernel) (by decide +kernel)
theorem kt_181 : (Jvm.Cond.fieldLink "BorderThroughBedModel" 22 "BorderThroughBedModel" "lawFrom" "[I") ∈ ex_tb := ex_in (i := 1030) (by decide +kernel) (by decide +kernel)
theorem kt_182 : (Jvm.Cond.fieldLink "BorderThroughBedModel" 25 "BorderThroughBedModel" "lawTo" "[I") ∈ ex_tb := ex_in (i := 1031) (by decide +kernel) (by decide +kernel)
theorem kt_183 : (Jvm.Cond.fieldLink "BorderThroughBedModel" 28 "BorderThroughBedModel" "lawKind" "[I") ∈ ex_tb := ex_in (i := 1032) (by decide +kernel) (by decide +kernel)
theorem kt_184 : (Jvm.Cond.fieldLink "BorderThroughBedModel" 31 "BorderThroughBedModel" "eventOf" "[I") ∈ ex_tb := ex_in (i := 1034) (by decide +kernel) (by decide +kernel)
theorem kt_185 : (Jvm.Cond.fieldLink "BorderThroughBedModel" 34 "BorderThroughBedModel" "thingKind" "[I") ∈ ex_tb := ex_in (i := 1036) (by decide +kernel) (by decide +kernel)
theorem kt_186 : (Jvm.Cond.fieldLink "BorderThroughBedModel" 37 "BorderThroughBedModel" "thingCell" "[I") ∈ ex_tb := ex_in (i := 1037) (by decide +kernel) (by decide +kernel)
theorem kt_187 : (Jvm.Cond.fieldLink "BorderThroughBedModel" 40 "BorderThroughBedModel" "thingWay" "[I") ∈ ex_tb := ex_in (i := 1038) (by decide +kernel) (by decide +kernel)
theorem kt_188 : (Jvm.Cond.fieldLink "BorderThroughBedModel" 43 "BorderThroughBedModel" "habitAct" "[I") ∈ ex_tb := ex_in (i := 1040) (by decide +kernel) (by decide +kernel)
theorem kt_189 : (Jvm.Cond.fieldLink "BorderThroughBedModel" 46 "BorderThroughBedModel" "habitHour" "[I") ∈ ex_tb := ex_in (i := 1041) (by decide +kernel) (by decide +kernel)
theorem kt_190 : (Jvm.Cond.fieldLink "BorderThroughBedModel" 49 "BorderThroughBedModel" "judgedCell" "[I") ∈ ex_tb := ex_in (i := 1043) (by decide +kernel) (by decide +kernel)
theorem kt_191 : (Jvm.Cond.fieldLink "BorderThroughBedModel" 52 "BorderThroughBedModel" "judgedSide" "[I") ∈ ex_tb := ex_in (i := 1044) (by decide +kernel) (by decide +kernel)
theorem kt_192 : (Jvm.Cond.fieldLink "BorderThroughBedModel" 55 "BorderThroughBedModel" "page" "[B") ∈ ex_tb := ex_in (i := 1047) (by decide +kernel) (by decide +kernel)
theorem kt_193 : (Jvm.Cond.fieldLink "BorderThroughBedModel" 59 "BorderThroughBedModel" "keptThing" "[I") ∈ ex_tb := ex_in (i := 1054) (by decide +kernel) (by decide +kernel)
theorem kt_194 : (Jvm.Cond.fieldLink "BorderThroughBedModel" 62 "BorderThroughBedModel" "keptEvent" "[I") ∈ ex_tb := ex_in (i := 1055) (by decide +kernel) (by decide +kernel)
theorem kt_195 : (Jvm.Cond.fieldLink "BorderThroughBedModel" 65 "BorderThroughBedModel" "keptHabit" "[I") ∈ ex_tb := ex_in (i := 1056) (by decide +kernel) (by decide +kernel)
theorem kt_196 : (Jvm.Cond.fieldLink "BorderThroughBedModel" 68 "BorderThroughBedModel" "keptJudged" "[I") ∈ ex_tb := ex_in (i := 1057) (by decide +kernel) (by decide +kernel)
theorem kt_197 : (Jvm.Cond.fieldLink "BorderThroughBedModel" 71 "BorderThroughBedModel" "newSort" "[I") ∈ ex_tb := ex_in (i := 1064) (by decide +kernel) (by decide +kernel)
theorem kt_198 : (Jvm.Cond.fieldLink "BorderThroughBedModel" 74 "BorderThroughBedModel" "newLine" "[I") ∈ ex_tb := ex_in (i := 1065) (by decide +kernel) (by decide +kernel)
theorem kt_199 : (Jvm.Cond.fieldLink "BorderThroughBedModel" 77 "BorderThroughBedModel" "far" "[I") ∈ ex_tb := ex_in (i := 1072) (by decide +kernel) (by decide +kernel)
theorem kt_200 : (Jvm.Cond.fieldLink "BorderThroughBedModel" 80 "BorderThroughBedModel" "queue" "[I") ∈ ex_tb := ex_in (i := 1073) (by decide +kernel) (by decide +kernel)
theorem kt_201 : (Jvm.Cond.fieldLink "BorderThroughBedModel" 85 "BorderThroughBedModel" "pageLength" "I") ∈ ex_tb := ex_in (i := 1046) (by decide +kernel) (by decide +kernel)
theorem kt_202 : (Jvm.Cond.fieldLink "BorderThroughBedModel" 97 "BorderThroughBedModel" "newHere" "I") ∈ ex_tb := ex_in (i := 1062) (by decide +kernel) (by decide +kernel)
theorem kt_203 : (Jvm.Cond.fieldLink "BorderThroughBedModel" 100 "BorderThroughBedModel" "newRows" "I") ∈ ex_tb := ex_in (i := 1060) (by decide +kernel) (by decide +kernel)
theorem kt_204 : (Jvm.Cond.fieldLink "BorderThroughBedModel" 103 "BorderThroughBedModel" "newColumns" "I") ∈ ex_tb := ex_in (i := 1061) (by decide +kernel) (by decide +kernel)
theorem kt_205 : (Jvm.Cond.fieldLink "BorderThroughBedModel" 106 "BorderThroughBedModel" "hasLine" "Z") ∈ ex_tb := ex_in (i := 1063) (by decide +kernel) (by decide +kernel)
theorem kt_206 : (Jvm.Cond.fieldLink "BorderThroughBedModel" 114 "BorderThroughBedModel" "faultAt" "I") ∈ ex_tb := ex_in (i := 1058) (by decide +kernel) (by decide +kernel)
theorem kt_207 : (Jvm.Cond.fieldLink "BorderThroughBedModel" 117 "BorderThroughBedModel" "isWhole" "Z") ∈ ex_tb := ex_in (i := 1059) (by decide +kernel) (by decide +kernel)
theorem kt_208 : (Jvm.Cond.fieldLink "BorderThroughBedModel" 120 "BorderThroughBedModel" "newFrom" "I") ∈ ex_tb := ex_in (i := 1068) (by decide +kernel) (by decide +kernel)
theorem kt_209 : (Jvm.Cond.fieldLink "BorderThroughBedModel" 123 "BorderThroughBedModel" "newTo" "I") ∈ ex_tb := ex_in (i := 1069) (by decide +kernel) (by decide +kernel)
theorem kt_210 : (Jvm.Cond.fieldLink "BorderThroughBedModel" 139 "BorderThroughBedModel" "newKind" "I") ∈ ex_tb := ex_in (i := 1070) (by decide +kernel) (by decide +kernel)
theorem kt_211 : (Jvm.Cond.fieldLink "BorderThroughBedModel" 142 "BorderThroughBedModel" "newSide" "I") ∈ ex_tb := ex_in (i := 1066) (by decide +kernel) (by decide +kernel)
theorem kt_212 : (Jvm.Cond.fieldLink "BorderThroughBedModel" 145 "BorderThroughBedModel" "newAct" "I") ∈ ex_tb := ex_in (i := 1067) (by decide +kernel) (by decide +kernel)
theorem kt_213 : (Jvm.Cond.fieldLink "BorderThroughBedModel" 165 "BorderThroughBedModel" "rows" "I") ∈ ex_tb := ex_in (i := 1022) (by decide +kernel) (by decide +kernel)
theorem kt_214 : (Jvm.Cond.fieldLink "BorderThroughBedModel" 168 "BorderThroughBedModel" "columns" "I") ∈ ex_tb := ex_in (i := 1023) (by decide +kernel) (by decide +kernel)
theorem kt_215 : (Jvm.Cond.fieldLink "BorderThroughBedModel" 171 "BorderThroughBedModel" "houses" "I") ∈ ex_tb := ex_in (i := 1024) (by decide +kernel) (by decide +kernel)
theorem kt_216 : (Jvm.Cond.fieldLink "BorderThroughBedModel" 174 "BorderThroughBedModel" "things" "I") ∈ ex_tb := ex_in (i := 1035) (by decide +kernel) (by decide +kernel)
theorem kt_217 : (Jvm.Cond.fieldLink "BorderThroughBedModel" 177 "BorderThroughBedModel" "events" "I") ∈ ex_tb := ex_in (i := 1033) (by decide +kernel) (by decide +kernel)
theorem kt_218 : (Jvm.Cond.fieldLink "BorderThroughBedModel" 180 "BorderThroughBedModel" "habits" "I") ∈ ex_tb := ex_in (i := 1039) (by decide +kernel) (by decide +kernel)
theorem kt_219 : (Jvm.Cond.fieldLink "BorderThroughBedModel" 183 "BorderThroughBedModel" "judgments" "I") ∈ ex_tb := ex_in (i := 1042) (by decide +kernel) (by decide +kernel)
theorem kt_220 : (Jvm.Cond.fieldLink "BorderThroughBedModel" 186 "BorderThroughBedModel" "shift" "I") ∈ ex_tb := ex_in (i := 1071) (by decide +kernel) (by decide +kernel)
theorem kt_221 : (Jvm.Cond.fieldLink "BorderThroughBedModel" 189 "BorderThroughBedModel" "laws" "I") ∈ ex_tb := ex_in (i := 1027) (by decide +kernel) (by decide +kernel)
theorem kt_222 : (Jvm.Cond.fieldLink "BorderThroughBedModel" 311 "BorderThroughBedModel" "movedMany" "I") ∈ ex_tb := ex_in (i := 1074) (by decide +kernel) (by decide +kernel)
theorem kt_223 : (Jvm.Cond.fieldLink "BorderThroughBedModel" 314 "BorderThroughBedModel" "movedFirst" "I") ∈ ex_tb := ex_in (i := 1075) (by decide +kernel) (by decide +kernel)
theorem kt_224 : (Jvm.Cond.fieldLink "BorderThroughBedModel" 317 "BorderThroughBedModel" "placeFirst" "I") ∈ ex_tb := ex_in (i := 1076) (by decide +kernel) (by decide +kernel)
theorem kt_225 : (Jvm.Cond.fieldLink "BorderThroughBedModel" 320 "BorderThroughBedModel" "movedSecond" "I") ∈ ex_tb := ex_in (i := 1077) (by decide +kernel) (by decide +kernel)
theorem kt_226 : (Jvm.Cond.fieldLink "BorderThroughBedModel" 323 "BorderThroughBedModel" "placeSecond" "I") ∈ ex_tb := ex_in (i := 1078) (by decide +kernel) (by decide +kernel)
theorem kt_227 : (Jvm.Cond.fieldLink "BorderThroughBedModel" 335 "BorderThroughBedModel" "asks" "I") ∈ ex_tb := ex_in (i := 1045) (by decide +kernel) (by decide +kernel)
theorem kt_228 : (Jvm.Cond.fieldLink "BorderThroughBedModel" 344 "BorderThroughBedModel" "isKept" "Z") ∈ ex_tb := ex_in (i := 1048) (by decide +kernel) (by decide +kernel)
theorem kt_229 : (Jvm.Cond.fieldLink "BorderThroughBedModel" 347 "BorderThroughBedModel" "keptHouse" "I") ∈ ex_tb := ex_in (i := 1049) (by decide +kernel) (by decide +kernel)
theorem kt_230 : (Jvm.Cond.fieldLink "BorderThroughBedModel" 350 "BorderThroughBedModel" "keptThings" "I") ∈ ex_tb := ex_in (i := 1050) (by decide +kernel) (by decide +kernel)
theorem kt_231 : (Jvm.Cond.fieldLink "BorderThroughBedModel" 353 "BorderThroughBedModel" "keptEvents" "I") ∈ ex_tb := ex_in (i := 1051) (by decide +kernel) (by decide +kernel)
theorem kt_232 : (Jvm.Cond.fieldLink "BorderThroughBedModel" 356 "BorderThroughBedModel" "keptHabits" "I") ∈ ex_tb := ex_in (i := 1052) (by decide +kernel) (by decide +kernel)
theorem kt_233 : (Jvm.Cond.fieldLink "BorderThroughBedModel" 359 "BorderThroughBedModel" "keptJudgments" "I") ∈ ex_tb := ex_in (i := 1053) (by decide +kernel) (by decide +kernel)
theorem kt_234 : (Jvm.Cond.fieldLink "BorderThroughBedModel" 367 "BorderThroughBedModel" "h" "J") ∈ ex_tb := ex_in (i := 1079) (by decide +kernel) (by decide +kernel)
theorem kq_F_11 : ∀ q ∈ ex_cF.getD 11 [], ex_PF 11 q.1 q.2 := List.forall_mem_cons.mpr ⟨⟨kt_177, by decide, by decide +kernel⟩, List.forall_mem_cons.mpr ⟨⟨kt_178, by decide, by decide +kernel⟩, List.forall_mem_cons.mpr ⟨⟨kt_179, by decide, by decide +kernel⟩, List.forall_mem_cons.mpr ⟨⟨kt_180, by decide, by decide +kernel⟩, List.forall_mem_cons.mpr ⟨⟨kt_181, by decide, by decide +kernel⟩, List.forall_mem_cons.mpr ⟨⟨kt_182, by decide, by decide +kernel⟩, List.forall_mem_cons.mpr ⟨⟨kt_183, by decide, by decide +kernel⟩, List.forall_mem_cons.mpr ⟨⟨kt_184, by decide, by decide +kernel⟩, List.forall_mem_cons.mpr ⟨⟨kt_185, by decide, by decide +kernel⟩, List.forall_mem_cons.mpr ⟨⟨kt_186, by decide, by decide +kernel⟩, List.forall_mem_cons.mpr ⟨⟨kt_187, by decide, by decide +kernel⟩, List.forall_mem_cons.mpr ⟨⟨kt_188, by decide, by decide +kernel⟩, List.forall_mem_cons.mpr ⟨⟨kt_189, by decide, by decide +kernel⟩, List.forall_mem_cons.mpr ⟨⟨kt_190, by decide, by decide +kernel⟩, List.forall_mem_cons.mpr ⟨⟨kt_191, by decide, by decide +kernel⟩, List.forall_mem_cons.mpr ⟨⟨kt_192, by decide, by decide +kernel⟩, List.forall_mem_cons.mpr ⟨⟨kt_193, by decide, by decide +kernel⟩, List.forall_mem_cons.mpr ⟨⟨kt_194, by decide, by decide +kernel⟩, List.forall_mem_cons.mpr ⟨⟨kt_195, by decide, by decide +kernel⟩, List.forall_mem_cons.mpr ⟨⟨kt_196, by decide, by decide +kernel⟩, List.forall_mem_cons.mpr ⟨⟨kt_197, by decide, by decide +kernel⟩, List.forall_mem_cons.mpr ⟨⟨kt_198, by decide, by decide +kernel⟩, List.forall_mem_cons.mpr ⟨⟨kt_199, by decide, by decide +kernel⟩, List.forall_mem_cons.mpr ⟨⟨kt_200, by decide, by decide +kernel⟩, List.forall_mem_cons.mpr ⟨⟨kt_201, by decide, by decide +kernel⟩, List.forall_mem_cons.mpr ⟨⟨kt_202, by decide, by decide +kernel⟩, List.forall_mem_cons.mpr ⟨⟨kt_203, by decide, by decide +kernel⟩, List.forall_mem_cons.mpr ⟨⟨kt_204, by decide, by decide +kernel⟩, List.forall_mem_cons.mpr ⟨⟨kt_205, by decide, by decide +kernel⟩, List.forall_mem_cons.mpr ⟨⟨kt_206, by decide, by decide +kernel⟩, List.forall_mem_cons.mpr ⟨⟨kt_207, by decide, by decide +kernel⟩, List.forall_mem_cons.mpr ⟨⟨kt_208, by decide, by decide +kernel⟩, List.forall_mem_cons.mpr ⟨⟨kt_209, by decide, by decide +kernel⟩, List.forall_mem_cons.mpr ⟨⟨kt_210, by decide, by decide +kernel⟩, List.forall_mem_cons.mpr ⟨⟨kt_211, by decide, by decide +kernel⟩, List.forall_mem_cons.mpr ⟨⟨kt_212, by decide, by decide +kernel⟩, List.forall_mem_cons.mpr ⟨⟨kt_213, by decide, by decide +kernel⟩, List.forall_mem_cons.mpr ⟨⟨kt_214, by decide, by decide +kernel⟩, List.forall_mem_cons.mpr ⟨⟨kt_215, by decide, by decide +kernel⟩, List.forall_mem_cons.mpr ⟨⟨kt_216, by decide, by decide +kernel⟩, List.forall_mem_cons.mpr ⟨⟨kt_217, by decide, by decide +kernel⟩, List.forall_mem_cons.mpr ⟨⟨kt_218, by decide, by decide +kernel⟩, List.forall_mem_cons.mpr ⟨⟨kt_219, by decide, by decide +kernel⟩, List.forall_mem_cons.mpr ⟨⟨kt_220, by decide, by decide +kernel⟩, List.forall_mem_cons.mpr ⟨⟨kt_221, by decide, by decide +kernel⟩, List.forall_mem_cons.mpr ⟨⟨kt_222, by decide, by decide +kernel⟩, List.forall_mem_cons.mpr ⟨⟨kt_223, by decide, by decide +kernel⟩, List.forall_mem_cons.mpr ⟨⟨kt_224, by decide, by decide +kernel⟩, List.forall_mem_cons.mpr ⟨⟨kt_225, by decide, by decide +kernel⟩, List.forall_mem_cons.mpr ⟨⟨kt_226, by decide, by decide +kernel⟩, List.forall_mem_cons.mpr ⟨⟨kt_227, by decide, by decide +kernel⟩, List.forall_mem_cons.mpr ⟨⟨kt_228, by decide, by decide +kernel⟩, List.forall_mem_cons.mpr ⟨⟨kt_229, by decide, by decide +kernel⟩, List.forall_mem_cons.mpr ⟨⟨kt_230, by decide, by decide +kernel⟩, List.forall_mem_cons.mpr ⟨⟨kt_231, by decide, by decide +kernel⟩, List.forall_mem_cons.mpr ⟨⟨kt_232, by decide, by decide +kernel⟩, List.forall_mem_cons.mpr ⟨⟨kt_233, by decide, by decide +kernel⟩, List.forall_mem_cons.mpr ⟨⟨kt_234, by decide, by decide +kernel⟩, fun _ h => absurd h List.not_mem_nil⟩⟩⟩⟩⟩⟩⟩⟩⟩⟩⟩⟩⟩⟩⟩⟩⟩⟩⟩⟩⟩⟩⟩⟩⟩⟩⟩⟩⟩⟩⟩⟩⟩⟩⟩⟩⟩⟩⟩⟩⟩⟩⟩⟩⟩⟩⟩⟩⟩⟩⟩⟩⟩⟩⟩⟩⟩⟩
theorem kq_F {c : Nat} (hc : c < 12) : ∀ q ∈ ex_cF.getD c [], ex_PF c q.1 q.2 := by
  match c, hc with
  | 0, _ => exact kq_F_0
  | 1, _ => exact kq_F_1
  | 2, _ => exact kq_F_2
  | 3, _ => exact kq_F_3
  | 4, _ => exact kq_F_4
  | 5, _ => exact kq_F_5
  | 6, _ => exact kq_F_6
  | 7, _ => exact kq_F_7
  | 8, _ => exact kq_F_8
  | 9, _ => exact kq_F_9
  | 10, _ => exact kq_F_10
  | 11, _ => exact kq_F_11
def ex_PS (c a e : Nat) : Prop := (e = 1000 ∧ Jvm.Cond.fieldLink (ex_Rn c) a "BorderThroughBed$House" "DOWN" "[I" ∈ ex_tb) ∨ (e = 1001 ∧ Jvm.Cond.fieldLink (ex_Rn c) a "BorderThroughBed$House" "RIGHT" "[I" ∈ ex_tb)
theorem kq_S_0 : ∀ q ∈ ex_cS.getD 0 [], ex_PS 0 q.1 q.2 := fun _ h => absurd h List.not_mem_nil
theorem kt_235 : (Jvm.Cond.fieldLink "BorderThroughBed$House" 86 "BorderThroughBed$House" "DOWN" "[I") ∈ ex_tb := ex_in (i := 508) (by decide +kernel) (by decide +kernel)
theorem kt_236 : (Jvm.Cond.fieldLink "BorderThroughBed$House" 89 "BorderThroughBed$House" "RIGHT" "[I") ∈ ex_tb := ex_in (i := 510) (by decide +kernel) (by decide +kernel)
theorem kq_S_1 : ∀ q ∈ ex_cS.getD 1 [], ex_PS 1 q.1 q.2 := List.forall_mem_cons.mpr ⟨Or.inl ⟨rfl, kt_235⟩, List.forall_mem_cons.mpr ⟨Or.inr ⟨rfl, kt_236⟩, fun _ h => absurd h List.not_mem_nil⟩⟩
theorem kq_S_2 : ∀ q ∈ ex_cS.getD 2 [], ex_PS 2 q.1 q.2 := fun _ h => absurd h List.not_mem_nil
theorem kq_S_3 : ∀ q ∈ ex_cS.getD 3 [], ex_PS 3 q.1 q.2 := fun _ h => absurd h List.not_mem_nil
theorem kq_S_4 : ∀ q ∈ ex_cS.getD 4 [], ex_PS 4 q.1 q.2 := fun _ h => absurd h List.not_mem_nil
theorem kq_S_5 : ∀ q ∈ ex_cS.getD 5 [], ex_PS 5 q.1 q.2 := fun _ h => absurd h List.not_mem_nil
theorem kq_S_6 : ∀ q ∈ ex_cS.getD 6 [], ex_PS 6 q.1 q.2 := fun _ h => absurd h List.not_mem_nil
theorem kq_S_7 : ∀ q ∈ ex_cS.getD 7 [], ex_PS 7 q.1 q.2 := fun _ h => absurd h List.not_mem_nil
theorem kq_S_8 : ∀ q ∈ ex_cS.getD 8 [], ex_PS 8 q.1 q.2 := fun _ h => absurd h List.not_mem_nil
theorem kq_S_9 : ∀ q ∈ ex_cS.getD 9 [], ex_PS 9 q.1 q.2 := fun _ h => absurd h List.not_mem_nil
theorem kq_S_10 : ∀ q ∈ ex_cS.getD 10 [], ex_PS 10 q.1 q.2 := fun _ h => absurd h List.not_mem_nil
theorem kq_S_11 : ∀ q ∈ ex_cS.getD 11 [], ex_PS 11 q.1 q.2 := fun _ h => absurd h List.not_mem_nil
theorem kq_S {c : Nat} (hc : c < 12) : ∀ q ∈ ex_cS.getD c [], ex_PS c q.1 q.2 := by
  match c, hc with
  | 0, _ => exact kq_S_0
  | 1, _ => exact kq_S_1
  | 2, _ => exact kq_S_2
  | 3, _ => exact kq_S_3
  | 4, _ => exact kq_S_4
  | 5, _ => exact kq_S_5
  | 6, _ => exact kq_S_6
  | 7, _ => exact kq_S_7
  | 8, _ => exact kq_S_8
  | 9, _ => exact kq_S_9
  | 10, _ => exact kq_S_10
  | 11, _ => exact kq_S_11
def ex_PK (c a : Nat) (v : Int) : Prop := Jvm.Cond.constant (ex_Rn c) a (Int32.ofInt v) ∈ ex_tb
def ex_PL (c a : Nat) (v : Int) : Prop := Jvm.Cond.constantLong (ex_Rn c) a (Int64.ofInt v) ∈ ex_tb
theorem kq_K_0 : ∀ q ∈ ex_cK.getD 0 [], ex_PK 0 q.1 q.2 := fun _ h => absurd h List.not_mem_nil
theorem kt_237 : (Jvm.Cond.constant (ex_Rn 1) 103 (Int32.ofInt 1000000)) ∈ ex_tb := ex_in (i := 532) (by decide +kernel) (by decide +kernel)
theorem kq_K_1 : ∀ q ∈ ex_cK.getD 1 [], ex_PK 1 q.1 q.2 := List.forall_mem_cons.mpr ⟨kt_237, fun _ h => absurd h List.not_mem_nil⟩
theorem kq_K_2 : ∀ q ∈ ex_cK.getD 2 [], ex_PK 2 q.1 q.2 := fun _ h => absurd h List.not_mem_nil
theorem kq_K_3 : ∀ q ∈ ex_cK.getD 3 [], ex_PK 3 q.1 q.2 := fun _ h => absurd h List.not_mem_nil
theorem kq_K_4 : ∀ q ∈ ex_cK.getD 4 [], ex_PK 4 q.1 q.2 := fun _ h => absurd h List.not_mem_nil
theorem kq_K_5 : ∀ q ∈ ex_cK.getD 5 [], ex_PK 5 q.1 q.2 := fun _ h => absurd h List.not_mem_nil
theorem kq_K_6 : ∀ q ∈ ex_cK.getD 6 [], ex_PK 6 q.1 q.2 := fun _ h => absurd h List.not_mem_nil
theorem kq_K_7 : ∀ q ∈ ex_cK.getD 7 [], ex_PK 7 q.1 q.2 := fun _ h => absurd h List.not_mem_nil
theorem kq_K_8 : ∀ q ∈ ex_cK.getD 8 [], ex_PK 8 q.1 q.2 := fun _ h => absurd h List.not_mem_nil
theorem kq_K_9 : ∀ q ∈ ex_cK.getD 9 [], ex_PK 9 q.1 q.2 := fun _ h => absurd h List.not_mem_nil
theorem kq_K_10 : ∀ q ∈ ex_cK.getD 10 [], ex_PK 10 q.1 q.2 := fun _ h => absurd h List.not_mem_nil
theorem kt_238 : (Jvm.Cond.constant (ex_Rn 11) 214 (Int32.ofInt 268435456)) ∈ ex_tb := ex_in (i := 1324) (by decide +kernel) (by decide +kernel)
theorem kq_K_11 : ∀ q ∈ ex_cK.getD 11 [], ex_PK 11 q.1 q.2 := List.forall_mem_cons.mpr ⟨kt_238, fun _ h => absurd h List.not_mem_nil⟩
theorem kq_K {c : Nat} (hc : c < 12) : ∀ q ∈ ex_cK.getD c [], ex_PK c q.1 q.2 := by
  match c, hc with
  | 0, _ => exact kq_K_0
  | 1, _ => exact kq_K_1
  | 2, _ => exact kq_K_2
  | 3, _ => exact kq_K_3
  | 4, _ => exact kq_K_4
  | 5, _ => exact kq_K_5
  | 6, _ => exact kq_K_6
  | 7, _ => exact kq_K_7
  | 8, _ => exact kq_K_8
  | 9, _ => exact kq_K_9
  | 10, _ => exact kq_K_10
  | 11, _ => exact kq_K_11
theorem kq_L_0 : ∀ q ∈ ex_cL.getD 0 [], ex_PL 0 q.1 q.2 := fun _ h => absurd h List.not_mem_nil
theorem kq_L_1 : ∀ q ∈ ex_cL.getD 1 [], ex_PL 1 q.1 q.2 := fun _ h => absurd h List.not_mem_nil
theorem kq_L_2 : ∀ q ∈ ex_cL.getD 2 [], ex_PL 2 q.1 q.2 := fun _ h => absurd h List.not_mem_nil
theorem kq_L_3 : ∀ q ∈ ex_cL.getD 3 [], ex_PL 3 q.1 q.2 := fun _ h => absurd h List.not_mem_nil
theorem kq_L_4 : ∀ q ∈ ex_cL.getD 4 [], ex_PL 4 q.1 q.2 := fun _ h => absurd h List.not_mem_nil
theorem kq_L_5 : ∀ q ∈ ex_cL.getD 5 [], ex_PL 5 q.1 q.2 := fun _ h => absurd h List.not_mem_nil
theorem kq_L_6 : ∀ q ∈ ex_cL.getD 6 [], ex_PL 6 q.1 q.2 := fun _ h => absurd h List.not_mem_nil
theorem kq_L_7 : ∀ q ∈ ex_cL.getD 7 [], ex_PL 7 q.1 q.2 := fun _ h => absurd h List.not_mem_nil
theorem kq_L_8 : ∀ q ∈ ex_cL.getD 8 [], ex_PL 8 q.1 q.2 := fun _ h => absurd h List.not_mem_nil
theorem kq_L_9 : ∀ q ∈ ex_cL.getD 9 [], ex_PL 9 q.1 q.2 := fun _ h => absurd h List.not_mem_nil
theorem kt_239 : (Jvm.Cond.constantLong (ex_Rn 10) 272 (Int64.ofInt 521)) ∈ ex_tb := ex_in (i := 992) (by decide +kernel) (by decide +kernel)
theorem kt_240 : (Jvm.Cond.constantLong (ex_Rn 10) 291 (Int64.ofInt 31)) ∈ ex_tb := ex_in (i := 997) (by decide +kernel) (by decide +kernel)
theorem kq_L_10 : ∀ q ∈ ex_cL.getD 10 [], ex_PL 10 q.1 q.2 := List.forall_mem_cons.mpr ⟨kt_239, List.forall_mem_cons.mpr ⟨kt_240, fun _ h => absurd h List.not_mem_nil⟩⟩
theorem kt_241 : (Jvm.Cond.constantLong (ex_Rn 11) 83 (Int64.ofInt 255)) ∈ ex_tb := ex_in (i := 1202) (by decide +kernel) (by decide +kernel)
theorem kt_242 : (Jvm.Cond.constantLong (ex_Rn 11) 365 (Int64.ofInt 31)) ∈ ex_tb := ex_in (i := 1546) (by decide +kernel) (by decide +kernel)
theorem kt_243 : (Jvm.Cond.constantLong (ex_Rn 11) 375 (Int64.ofInt 521)) ∈ ex_tb := ex_in (i := 1537) (by decide +kernel) (by decide +kernel)
theorem kq_L_11 : ∀ q ∈ ex_cL.getD 11 [], ex_PL 11 q.1 q.2 := List.forall_mem_cons.mpr ⟨kt_241, List.forall_mem_cons.mpr ⟨kt_242, List.forall_mem_cons.mpr ⟨kt_243, fun _ h => absurd h List.not_mem_nil⟩⟩⟩
theorem kq_L {c : Nat} (hc : c < 12) : ∀ q ∈ ex_cL.getD c [], ex_PL c q.1 q.2 := by
  match c, hc with
  | 0, _ => exact kq_L_0
  | 1, _ => exact kq_L_1
  | 2, _ => exact kq_L_2
  | 3, _ => exact kq_L_3
  | 4, _ => exact kq_L_4
  | 5, _ => exact kq_L_5
  | 6, _ => exact kq_L_6
  | 7, _ => exact kq_L_7
  | 8, _ => exact kq_L_8
  | 9, _ => exact kq_L_9
  | 10, _ => exact kq_L_10
  | 11, _ => exact kq_L_11
def ex_Pm (y : Nat) : Prop := Jvm.Cond.code (ex_Y y) (ex_B y) (ex_L y) (ex_ret y) ∈ ex_tb ∧ Jvm.Cond.initialized (ex_Y y).cls ∈ ex_tb ∧ (ex_Y y).cls = ex_Rn (ex_C y) ∧ ex_C y < 12 ∧ plainName (ex_Y y).cls = true ∧ ((ex_Y y).cls ≠ "java/lang/invoke/MethodHandle" ∧ (ex_Y y).cls ≠ "java/lang/invoke/VarHandle") ∧ ex_L y ≤ 23
theorem kt_244 : (Jvm.Cond.initialized "BorderThroughBed$Day") ∈ ex_tb := ex_in (i := 102) (by decide +kernel) (by decide +kernel)
theorem kt_245 : (Jvm.Cond.initialized "BorderThroughBed$House") ∈ ex_tb := ex_in (i := 99) (by decide +kernel) (by decide +kernel)
theorem kt_246 : (Jvm.Cond.initialized "BorderThroughBed$HouseText") ∈ ex_tb := ex_in (i := 97) (by decide +kernel) (by decide +kernel)
theorem kt_247 : (Jvm.Cond.initialized "BorderThroughBed$Keeping") ∈ ex_tb := ex_in (i := 103) (by decide +kernel) (by decide +kernel)
theorem kt_248 : (Jvm.Cond.initialized "BorderThroughBed$LawText") ∈ ex_tb := ex_in (i := 98) (by decide +kernel) (by decide +kernel)
theorem kt_249 : (Jvm.Cond.initialized "BorderThroughBed$Laws") ∈ ex_tb := ex_in (i := 100) (by decide +kernel) (by decide +kernel)
theorem kt_250 : (Jvm.Cond.initialized "BorderThroughBed$Mover") ∈ ex_tb := ex_in (i := 104) (by decide +kernel) (by decide +kernel)
theorem kt_251 : (Jvm.Cond.initialized "BorderThroughBed$Page") ∈ ex_tb := ex_in (i := 95) (by decide +kernel) (by decide +kernel)
theorem kt_252 : (Jvm.Cond.initialized "BorderThroughBed$Table") ∈ ex_tb := ex_in (i := 101) (by decide +kernel) (by decide +kernel)
theorem kt_253 : (Jvm.Cond.initialized "BorderThroughBed$Text") ∈ ex_tb := ex_in (i := 96) (by decide +kernel) (by decide +kernel)
theorem kt_254 : (Jvm.Cond.initialized "BorderThroughBed") ∈ ex_tb := ex_in (i := 94) (by decide +kernel) (by decide +kernel)
theorem kt_255 : (Jvm.Cond.initialized "BorderThroughBedModel") ∈ ex_tb := ex_in (i := 105) (by decide +kernel) (by decide +kernel)
theorem kt_256 : (Jvm.Cond.code (ex_Y 0) (ex_B 0) (ex_L 0) (ex_ret 0)) ∈ ex_tb := ex_in (i := 556) (by decide +kernel) (by decide +kernel)
theorem kw_0 : ex_Pm 0 := ⟨kt_256, kt_244, by decide +kernel, by decide +kernel, by decide +kernel, by decide +kernel, by decide +kernel⟩
theorem kt_257 : (Jvm.Cond.code (ex_Y 1) (ex_B 1) (ex_L 1) (ex_ret 1)) ∈ ex_tb := ex_in (i := 972) (by decide +kernel) (by decide +kernel)
theorem kw_1 : ex_Pm 1 := ⟨kt_257, kt_244, by decide +kernel, by decide +kernel, by decide +kernel, by decide +kernel, by decide +kernel⟩
theorem kt_258 : (Jvm.Cond.code (ex_Y 2) (ex_B 2) (ex_L 2) (ex_ret 2)) ∈ ex_tb := ex_in (i := 763) (by decide +kernel) (by decide +kernel)
theorem kw_2 : ex_Pm 2 := ⟨kt_258, kt_244, by decide +kernel, by decide +kernel, by decide +kernel, by decide +kernel, by decide +kernel⟩
theorem kt_259 : (Jvm.Cond.code (ex_Y 3) (ex_B 3) (ex_L 3) (ex_ret 3)) ∈ ex_tb := ex_in (i := 647) (by decide +kernel) (by decide +kernel)
theorem kw_3 : ex_Pm 3 := ⟨kt_259, kt_244, by decide +kernel, by decide +kernel, by decide +kernel, by decide +kernel, by decide +kernel⟩
theorem kt_260 : (Jvm.Cond.code (ex_Y 4) (ex_B 4) (ex_L 4) (ex_ret 4)) ∈ ex_tb := ex_in (i := 656) (by decide +kernel) (by decide +kernel)
theorem kw_4 : ex_Pm 4 := ⟨kt_260, kt_244, by decide +kernel, by decide +kernel, by decide +kernel, by decide +kernel, by decide +kernel⟩
theorem kt_261 : (Jvm.Cond.code (ex_Y 5) (ex_B 5) (ex_L 5) (ex_ret 5)) ∈ ex_tb := ex_in (i := 660) (by decide +kernel) (by decide +kernel)
theorem kw_5 : ex_Pm 5 := ⟨kt_261, kt_244, by decide +kernel, by decide +kernel, by decide +kernel, by decide +kernel, by decide +kernel⟩
theorem kt_262 : (Jvm.Cond.code (ex_Y 6) (ex_B 6) (ex_L 6) (ex_ret 6)) ∈ ex_tb := ex_in (i := 652) (by decide +kernel) (by decide +kernel)
theorem kw_6 : ex_Pm 6 := ⟨kt_262, kt_244, by decide +kernel, by decide +kernel, by decide +kernel, by decide +kernel, by decide +kernel⟩
theorem kt_263 : (Jvm.Cond.code (ex_Y 7) (ex_B 7) (ex_L 7) (ex_ret 7)) ∈ ex_tb := ex_in (i := 787) (by decide +kernel) (by decide +kernel)
theorem kw_7 : ex_Pm 7 := ⟨kt_263, kt_244, by decide +kernel, by decide +kernel, by decide +kernel, by decide +kernel, by decide +kernel⟩
theorem kt_264 : (Jvm.Cond.code (ex_Y 8) (ex_B 8) (ex_L 8) (ex_ret 8)) ∈ ex_tb := ex_in (i := 777) (by decide +kernel) (by decide +kernel)
theorem kw_8 : ex_Pm 8 := ⟨kt_264, kt_244, by decide +kernel, by decide +kernel, by decide +kernel, by decide +kernel, by decide +kernel⟩
theorem kt_265 : (Jvm.Cond.code (ex_Y 9) (ex_B 9) (ex_L 9) (ex_ret 9)) ∈ ex_tb := ex_in (i := 755) (by decide +kernel) (by decide +kernel)
theorem kw_9 : ex_Pm 9 := ⟨kt_265, kt_244, by decide +kernel, by decide +kernel, by decide +kernel, by decide +kernel, by decide +kernel⟩
theorem kt_266 : (Jvm.Cond.code (ex_Y 10) (ex_B 10) (ex_L 10) (ex_ret 10)) ∈ ex_tb := ex_in (i := 642) (by decide +kernel) (by decide +kernel)
theorem kw_10 : ex_Pm 10 := ⟨kt_266, kt_244, by decide +kernel, by decide +kernel, by decide +kernel, by decide +kernel, by decide +kernel⟩
theorem kt_267 : (Jvm.Cond.code (ex_Y 11) (ex_B 11) (ex_L 11) (ex_ret 11)) ∈ ex_tb := ex_in (i := 488) (by decide +kernel) (by decide +kernel)
theorem kw_11 : ex_Pm 11 := ⟨kt_267, kt_245, by decide +kernel, by decide +kernel, by decide +kernel, by decide +kernel, by decide +kernel⟩
theorem kt_268 : (Jvm.Cond.code (ex_Y 12) (ex_B 12) (ex_L 12) (ex_ret 12)) ∈ ex_tb := ex_in (i := 494) (by decide +kernel) (by decide +kernel)
theorem kw_12 : ex_Pm 12 := ⟨kt_268, kt_245, by decide +kernel, by decide +kernel, by decide +kernel, by decide +kernel, by decide +kernel⟩
theorem kt_269 : (Jvm.Cond.code (ex_Y 13) (ex_B 13) (ex_L 13) (ex_ret 13)) ∈ ex_tb := ex_in (i := 499) (by decide +kernel) (by decide +kernel)
theorem kw_13 : ex_Pm 13 := ⟨kt_269, kt_245, by decide +kernel, by decide +kernel, by decide +kernel, by decide +kernel, by decide +kernel⟩
theorem kt_270 : (Jvm.Cond.code (ex_Y 14) (ex_B 14) (ex_L 14) (ex_ret 14)) ∈ ex_tb := ex_in (i := 503) (by decide +kernel) (by decide +kernel)
theorem kw_14 : ex_Pm 14 := ⟨kt_270, kt_245, by decide +kernel, by decide +kernel, by decide +kernel, by decide +kernel, by decide +kernel⟩
theorem kt_271 : (Jvm.Cond.code (ex_Y 15) (ex_B 15) (ex_L 15) (ex_ret 15)) ∈ ex_tb := ex_in (i := 507) (by decide +kernel) (by decide +kernel)
theorem kw_15 : ex_Pm 15 := ⟨kt_271, kt_245, by decide +kernel, by decide +kernel, by decide +kernel, by decide +kernel, by decide +kernel⟩
theorem kt_272 : (Jvm.Cond.code (ex_Y 16) (ex_B 16) (ex_L 16) (ex_ret 16)) ∈ ex_tb := ex_in (i := 515) (by decide +kernel) (by decide +kernel)
theorem kw_16 : ex_Pm 16 := ⟨kt_272, kt_245, by decide +kernel, by decide +kernel, by decide +kernel, by decide +kernel, by decide +kernel⟩
theorem kt_273 : (Jvm.Cond.code (ex_Y 17) (ex_B 17) (ex_L 17) (ex_ret 17)) ∈ ex_tb := ex_in (i := 531) (by decide +kernel) (by decide +kernel)
theorem kw_17 : ex_Pm 17 := ⟨kt_273, kt_245, by decide +kernel, by decide +kernel, by decide +kernel, by decide +kernel, by decide +kernel⟩
theorem kt_274 : (Jvm.Cond.code (ex_Y 18) (ex_B 18) (ex_L 18) (ex_ret 18)) ∈ ex_tb := ex_in (i := 536) (by decide +kernel) (by decide +kernel)
theorem kw_18 : ex_Pm 18 := ⟨kt_274, kt_245, by decide +kernel, by decide +kernel, by decide +kernel, by decide +kernel, by decide +kernel⟩
theorem kt_275 : (Jvm.Cond.code (ex_Y 19) (ex_B 19) (ex_L 19) (ex_ret 19)) ∈ ex_tb := ex_in (i := 734) (by decide +kernel) (by decide +kernel)
theorem kw_19 : ex_Pm 19 := ⟨kt_275, kt_245, by decide +kernel, by decide +kernel, by decide +kernel, by decide +kernel, by decide +kernel⟩
theorem kt_276 : (Jvm.Cond.code (ex_Y 20) (ex_B 20) (ex_L 20) (ex_ret 20)) ∈ ex_tb := ex_in (i := 564) (by decide +kernel) (by decide +kernel)
theorem kw_20 : ex_Pm 20 := ⟨kt_276, kt_245, by decide +kernel, by decide +kernel, by decide +kernel, by decide +kernel, by decide +kernel⟩
theorem kt_277 : (Jvm.Cond.code (ex_Y 21) (ex_B 21) (ex_L 21) (ex_ret 21)) ∈ ex_tb := ex_in (i := 632) (by decide +kernel) (by decide +kernel)
theorem kw_21 : ex_Pm 21 := ⟨kt_277, kt_245, by decide +kernel, by decide +kernel, by decide +kernel, by decide +kernel, by decide +kernel⟩
theorem kt_278 : (Jvm.Cond.code (ex_Y 22) (ex_B 22) (ex_L 22) (ex_ret 22)) ∈ ex_tb := ex_in (i := 523) (by decide +kernel) (by decide +kernel)
theorem kw_22 : ex_Pm 22 := ⟨kt_278, kt_245, by decide +kernel, by decide +kernel, by decide +kernel, by decide +kernel, by decide +kernel⟩
theorem kt_279 : (Jvm.Cond.code (ex_Y 23) (ex_B 23) (ex_L 23) (ex_ret 23)) ∈ ex_tb := ex_in (i := 519) (by decide +kernel) (by decide +kernel)
theorem kw_23 : ex_Pm 23 := ⟨kt_279, kt_245, by decide +kernel, by decide +kernel, by decide +kernel, by decide +kernel, by decide +kernel⟩
theorem kt_280 : (Jvm.Cond.code (ex_Y 24) (ex_B 24) (ex_L 24) (ex_ret 24)) ∈ ex_tb := ex_in (i := 527) (by decide +kernel) (by decide +kernel)
theorem kw_24 : ex_Pm 24 := ⟨kt_280, kt_245, by decide +kernel, by decide +kernel, by decide +kernel, by decide +kernel, by decide +kernel⟩
theorem kt_281 : (Jvm.Cond.code (ex_Y 25) (ex_B 25) (ex_L 25) (ex_ret 25)) ∈ ex_tb := ex_in (i := 552) (by decide +kernel) (by decide +kernel)
theorem kw_25 : ex_Pm 25 := ⟨kt_281, kt_245, by decide +kernel, by decide +kernel, by decide +kernel, by decide +kernel, by decide +kernel⟩
theorem kt_282 : (Jvm.Cond.code (ex_Y 26) (ex_B 26) (ex_L 26) (ex_ret 26)) ∈ ex_tb := ex_in (i := 548) (by decide +kernel) (by decide +kernel)
theorem kw_26 : ex_Pm 26 := ⟨kt_282, kt_245, by decide +kernel, by decide +kernel, by decide +kernel, by decide +kernel, by decide +kernel⟩
theorem kt_283 : (Jvm.Cond.code (ex_Y 27) (ex_B 27) (ex_L 27) (ex_ret 27)) ∈ ex_tb := ex_in (i := 677) (by decide +kernel) (by decide +kernel)
theorem kw_27 : ex_Pm 27 := ⟨kt_283, kt_245, by decide +kernel, by decide +kernel, by decide +kernel, by decide +kernel, by decide +kernel⟩
theorem kt_284 : (Jvm.Cond.code (ex_Y 28) (ex_B 28) (ex_L 28) (ex_ret 28)) ∈ ex_tb := ex_in (i := 668) (by decide +kernel) (by decide +kernel)
theorem kw_28 : ex_Pm 28 := ⟨kt_284, kt_245, by decide +kernel, by decide +kernel, by decide +kernel, by decide +kernel, by decide +kernel⟩
theorem kt_285 : (Jvm.Cond.code (ex_Y 29) (ex_B 29) (ex_L 29) (ex_ret 29)) ∈ ex_tb := ex_in (i := 702) (by decide +kernel) (by decide +kernel)
theorem kw_29 : ex_Pm 29 := ⟨kt_285, kt_245, by decide +kernel, by decide +kernel, by decide +kernel, by decide +kernel, by decide +kernel⟩
theorem kt_286 : (Jvm.Cond.code (ex_Y 30) (ex_B 30) (ex_L 30) (ex_ret 30)) ∈ ex_tb := ex_in (i := 664) (by decide +kernel) (by decide +kernel)
theorem kw_30 : ex_Pm 30 := ⟨kt_286, kt_245, by decide +kernel, by decide +kernel, by decide +kernel, by decide +kernel, by decide +kernel⟩
theorem kt_287 : (Jvm.Cond.code (ex_Y 31) (ex_B 31) (ex_L 31) (ex_ret 31)) ∈ ex_tb := ex_in (i := 925) (by decide +kernel) (by decide +kernel)
theorem kw_31 : ex_Pm 31 := ⟨kt_287, kt_245, by decide +kernel, by decide +kernel, by decide +kernel, by decide +kernel, by decide +kernel⟩
theorem kt_288 : (Jvm.Cond.code (ex_Y 32) (ex_B 32) (ex_L 32) (ex_ret 32)) ∈ ex_tb := ex_in (i := 540) (by decide +kernel) (by decide +kernel)
theorem kw_32 : ex_Pm 32 := ⟨kt_288, kt_245, by decide +kernel, by decide +kernel, by decide +kernel, by decide +kernel, by decide +kernel⟩
theorem kt_289 : (Jvm.Cond.code (ex_Y 33) (ex_B 33) (ex_L 33) (ex_ret 33)) ∈ ex_tb := ex_in (i := 544) (by decide +kernel) (by decide +kernel)
theorem kw_33 : ex_Pm 33 := ⟨kt_289, kt_245, by decide +kernel, by decide +kernel, by decide +kernel, by decide +kernel, by decide +kernel⟩
theorem kt_290 : (Jvm.Cond.code (ex_Y 34) (ex_B 34) (ex_L 34) (ex_ret 34)) ∈ ex_tb := ex_in (i := 404) (by decide +kernel) (by decide +kernel)
theorem kw_34 : ex_Pm 34 := ⟨kt_290, kt_246, by decide +kernel, by decide +kernel, by decide +kernel, by decide +kernel, by decide +kernel⟩
theorem kt_291 : (Jvm.Cond.code (ex_Y 35) (ex_B 35) (ex_L 35) (ex_ret 35)) ∈ ex_tb := ex_in (i := 419) (by decide +kernel) (by decide +kernel)
theorem kw_35 : ex_Pm 35 := ⟨kt_291, kt_246, by decide +kernel, by decide +kernel, by decide +kernel, by decide +kernel, by decide +kernel⟩
theorem kt_292 : (Jvm.Cond.code (ex_Y 36) (ex_B 36) (ex_L 36) (ex_ret 36)) ∈ ex_tb := ex_in (i := 423) (by decide +kernel) (by decide +kernel)
theorem kw_36 : ex_Pm 36 := ⟨kt_292, kt_246, by decide +kernel, by decide +kernel, by decide +kernel, by decide +kernel, by decide +kernel⟩
theorem kt_293 : (Jvm.Cond.code (ex_Y 37) (ex_B 37) (ex_L 37) (ex_ret 37)) ∈ ex_tb := ex_in (i := 427) (by decide +kernel) (by decide +kernel)
theorem kw_37 : ex_Pm 37 := ⟨kt_293, kt_246, by decide +kernel, by decide +kernel, by decide +kernel, by decide +kernel, by decide +kernel⟩
theorem kt_294 : (Jvm.Cond.code (ex_Y 38) (ex_B 38) (ex_L 38) (ex_ret 38)) ∈ ex_tb := ex_in (i := 435) (by decide +kernel) (by decide +kernel)
theorem kw_38 : ex_Pm 38 := ⟨kt_294, kt_246, by decide +kernel, by decide +kernel, by decide +kernel, by decide +kernel, by decide +kernel⟩
theorem kt_295 : (Jvm.Cond.code (ex_Y 39) (ex_B 39) (ex_L 39) (ex_ret 39)) ∈ ex_tb := ex_in (i := 431) (by decide +kernel) (by decide +kernel)
theorem kw_39 : ex_Pm 39 := ⟨kt_295, kt_246, by decide +kernel, by decide +kernel, by decide +kernel, by decide +kernel, by decide +kernel⟩
theorem kt_296 : (Jvm.Cond.code (ex_Y 40) (ex_B 40) (ex_L 40) (ex_ret 40)) ∈ ex_tb := ex_in (i := 481) (by decide +kernel) (by decide +kernel)
theorem kw_40 : ex_Pm 40 := ⟨kt_296, kt_246, by decide +kernel, by decide +kernel, by decide +kernel, by decide +kernel, by decide +kernel⟩
theorem kt_297 : (Jvm.Cond.code (ex_Y 41) (ex_B 41) (ex_L 41) (ex_ret 41)) ∈ ex_tb := ex_in (i := 800) (by decide +kernel) (by decide +kernel)
theorem kw_41 : ex_Pm 41 := ⟨kt_297, kt_247, by decide +kernel, by decide +kernel, by decide +kernel, by decide +kernel, by decide +kernel⟩
theorem kt_298 : (Jvm.Cond.code (ex_Y 42) (ex_B 42) (ex_L 42) (ex_ret 42)) ∈ ex_tb := ex_in (i := 809) (by decide +kernel) (by decide +kernel)
theorem kw_42 : ex_Pm 42 := ⟨kt_298, kt_247, by decide +kernel, by decide +kernel, by decide +kernel, by decide +kernel, by decide +kernel⟩
theorem kt_299 : (Jvm.Cond.code (ex_Y 43) (ex_B 43) (ex_L 43) (ex_ret 43)) ∈ ex_tb := ex_in (i := 816) (by decide +kernel) (by decide +kernel)
theorem kw_43 : ex_Pm 43 := ⟨kt_299, kt_247, by decide +kernel, by decide +kernel, by decide +kernel, by decide +kernel, by decide +kernel⟩
theorem kt_300 : (Jvm.Cond.code (ex_Y 44) (ex_B 44) (ex_L 44) (ex_ret 44)) ∈ ex_tb := ex_in (i := 823) (by decide +kernel) (by decide +kernel)
theorem kw_44 : ex_Pm 44 := ⟨kt_300, kt_247, by decide +kernel, by decide +kernel, by decide +kernel, by decide +kernel, by decide +kernel⟩
theorem kt_301 : (Jvm.Cond.code (ex_Y 45) (ex_B 45) (ex_L 45) (ex_ret 45)) ∈ ex_tb := ex_in (i := 827) (by decide +kernel) (by decide +kernel)
theorem kw_45 : ex_Pm 45 := ⟨kt_301, kt_247, by decide +kernel, by decide +kernel, by decide +kernel, by decide +kernel, by decide +kernel⟩
theorem kt_302 : (Jvm.Cond.code (ex_Y 46) (ex_B 46) (ex_L 46) (ex_ret 46)) ∈ ex_tb := ex_in (i := 884) (by decide +kernel) (by decide +kernel)
theorem kw_46 : ex_Pm 46 := ⟨kt_302, kt_247, by decide +kernel, by decide +kernel, by decide +kernel, by decide +kernel, by decide +kernel⟩
theorem kt_303 : (Jvm.Cond.code (ex_Y 47) (ex_B 47) (ex_L 47) (ex_ret 47)) ∈ ex_tb := ex_in (i := 813) (by decide +kernel) (by decide +kernel)
theorem kw_47 : ex_Pm 47 := ⟨kt_303, kt_247, by decide +kernel, by decide +kernel, by decide +kernel, by decide +kernel, by decide +kernel⟩
theorem kt_304 : (Jvm.Cond.code (ex_Y 48) (ex_B 48) (ex_L 48) (ex_ret 48)) ∈ ex_tb := ex_in (i := 855) (by decide +kernel) (by decide +kernel)
theorem kw_48 : ex_Pm 48 := ⟨kt_304, kt_247, by decide +kernel, by decide +kernel, by decide +kernel, by decide +kernel, by decide +kernel⟩
theorem kt_305 : (Jvm.Cond.code (ex_Y 49) (ex_B 49) (ex_L 49) (ex_ret 49)) ∈ ex_tb := ex_in (i := 867) (by decide +kernel) (by decide +kernel)
theorem kw_49 : ex_Pm 49 := ⟨kt_305, kt_247, by decide +kernel, by decide +kernel, by decide +kernel, by decide +kernel, by decide +kernel⟩
theorem kt_306 : (Jvm.Cond.code (ex_Y 50) (ex_B 50) (ex_L 50) (ex_ret 50)) ∈ ex_tb := ex_in (i := 859) (by decide +kernel) (by decide +kernel)
theorem kw_50 : ex_Pm 50 := ⟨kt_306, kt_247, by decide +kernel, by decide +kernel, by decide +kernel, by decide +kernel, by decide +kernel⟩
theorem kt_307 : (Jvm.Cond.code (ex_Y 51) (ex_B 51) (ex_L 51) (ex_ret 51)) ∈ ex_tb := ex_in (i := 863) (by decide +kernel) (by decide +kernel)
theorem kw_51 : ex_Pm 51 := ⟨kt_307, kt_247, by decide +kernel, by decide +kernel, by decide +kernel, by decide +kernel, by decide +kernel⟩
theorem kt_308 : (Jvm.Cond.code (ex_Y 52) (ex_B 52) (ex_L 52) (ex_ret 52)) ∈ ex_tb := ex_in (i := 897) (by decide +kernel) (by decide +kernel)
theorem kw_52 : ex_Pm 52 := ⟨kt_308, kt_247, by decide +kernel, by decide +kernel, by decide +kernel, by decide +kernel, by decide +kernel⟩
theorem kt_309 : (Jvm.Cond.code (ex_Y 53) (ex_B 53) (ex_L 53) (ex_ret 53)) ∈ ex_tb := ex_in (i := 407) (by decide +kernel) (by decide +kernel)
theorem kw_53 : ex_Pm 53 := ⟨kt_309, kt_248, by decide +kernel, by decide +kernel, by decide +kernel, by decide +kernel, by decide +kernel⟩
theorem kt_310 : (Jvm.Cond.code (ex_Y 54) (ex_B 54) (ex_L 54) (ex_ret 54)) ∈ ex_tb := ex_in (i := 438) (by decide +kernel) (by decide +kernel)
theorem kw_54 : ex_Pm 54 := ⟨kt_310, kt_248, by decide +kernel, by decide +kernel, by decide +kernel, by decide +kernel, by decide +kernel⟩
theorem kt_311 : (Jvm.Cond.code (ex_Y 55) (ex_B 55) (ex_L 55) (ex_ret 55)) ∈ ex_tb := ex_in (i := 442) (by decide +kernel) (by decide +kernel)
theorem kw_55 : ex_Pm 55 := ⟨kt_311, kt_248, by decide +kernel, by decide +kernel, by decide +kernel, by decide +kernel, by decide +kernel⟩
theorem kt_312 : (Jvm.Cond.code (ex_Y 56) (ex_B 56) (ex_L 56) (ex_ret 56)) ∈ ex_tb := ex_in (i := 446) (by decide +kernel) (by decide +kernel)
theorem kw_56 : ex_Pm 56 := ⟨kt_312, kt_248, by decide +kernel, by decide +kernel, by decide +kernel, by decide +kernel, by decide +kernel⟩
theorem kt_313 : (Jvm.Cond.code (ex_Y 57) (ex_B 57) (ex_L 57) (ex_ret 57)) ∈ ex_tb := ex_in (i := 450) (by decide +kernel) (by decide +kernel)
theorem kw_57 : ex_Pm 57 := ⟨kt_313, kt_248, by decide +kernel, by decide +kernel, by decide +kernel, by decide +kernel, by decide +kernel⟩
theorem kt_314 : (Jvm.Cond.code (ex_Y 58) (ex_B 58) (ex_L 58) (ex_ret 58)) ∈ ex_tb := ex_in (i := 458) (by decide +kernel) (by decide +kernel)
theorem kw_58 : ex_Pm 58 := ⟨kt_314, kt_248, by decide +kernel, by decide +kernel, by decide +kernel, by decide +kernel, by decide +kernel⟩
theorem kt_315 : (Jvm.Cond.code (ex_Y 59) (ex_B 59) (ex_L 59) (ex_ret 59)) ∈ ex_tb := ex_in (i := 454) (by decide +kernel) (by decide +kernel)
theorem kw_59 : ex_Pm 59 := ⟨kt_315, kt_248, by decide +kernel, by decide +kernel, by decide +kernel, by decide +kernel, by decide +kernel⟩
theorem kt_316 : (Jvm.Cond.code (ex_Y 60) (ex_B 60) (ex_L 60) (ex_ret 60)) ∈ ex_tb := ex_in (i := 461) (by decide +kernel) (by decide +kernel)
theorem kw_60 : ex_Pm 60 := ⟨kt_316, kt_248, by decide +kernel, by decide +kernel, by decide +kernel, by decide +kernel, by decide +kernel⟩
theorem kt_317 : (Jvm.Cond.code (ex_Y 61) (ex_B 61) (ex_L 61) (ex_ret 61)) ∈ ex_tb := ex_in (i := 484) (by decide +kernel) (by decide +kernel)
theorem kw_61 : ex_Pm 61 := ⟨kt_317, kt_248, by decide +kernel, by decide +kernel, by decide +kernel, by decide +kernel, by decide +kernel⟩
theorem kt_318 : (Jvm.Cond.code (ex_Y 62) (ex_B 62) (ex_L 62) (ex_ret 62)) ∈ ex_tb := ex_in (i := 587) (by decide +kernel) (by decide +kernel)
theorem kw_62 : ex_Pm 62 := ⟨kt_318, kt_248, by decide +kernel, by decide +kernel, by decide +kernel, by decide +kernel, by decide +kernel⟩
theorem kt_319 : (Jvm.Cond.code (ex_Y 63) (ex_B 63) (ex_L 63) (ex_ret 63)) ∈ ex_tb := ex_in (i := 624) (by decide +kernel) (by decide +kernel)
theorem kw_63 : ex_Pm 63 := ⟨kt_319, kt_249, by decide +kernel, by decide +kernel, by decide +kernel, by decide +kernel, by decide +kernel⟩
theorem kt_320 : (Jvm.Cond.code (ex_Y 64) (ex_B 64) (ex_L 64) (ex_ret 64)) ∈ ex_tb := ex_in (i := 605) (by decide +kernel) (by decide +kernel)
theorem kw_64 : ex_Pm 64 := ⟨kt_320, kt_249, by decide +kernel, by decide +kernel, by decide +kernel, by decide +kernel, by decide +kernel⟩
theorem kt_321 : (Jvm.Cond.code (ex_Y 65) (ex_B 65) (ex_L 65) (ex_ret 65)) ∈ ex_tb := ex_in (i := 575) (by decide +kernel) (by decide +kernel)
theorem kw_65 : ex_Pm 65 := ⟨kt_321, kt_249, by decide +kernel, by decide +kernel, by decide +kernel, by decide +kernel, by decide +kernel⟩
theorem kt_322 : (Jvm.Cond.code (ex_Y 66) (ex_B 66) (ex_L 66) (ex_ret 66)) ∈ ex_tb := ex_in (i := 583) (by decide +kernel) (by decide +kernel)
theorem kw_66 : ex_Pm 66 := ⟨kt_322, kt_249, by decide +kernel, by decide +kernel, by decide +kernel, by decide +kernel, by decide +kernel⟩
theorem kt_323 : (Jvm.Cond.code (ex_Y 67) (ex_B 67) (ex_L 67) (ex_ret 67)) ∈ ex_tb := ex_in (i := 613) (by decide +kernel) (by decide +kernel)
theorem kw_67 : ex_Pm 67 := ⟨kt_323, kt_249, by decide +kernel, by decide +kernel, by decide +kernel, by decide +kernel, by decide +kernel⟩
theorem kt_324 : (Jvm.Cond.code (ex_Y 68) (ex_B 68) (ex_L 68) (ex_ret 68)) ∈ ex_tb := ex_in (i := 688) (by decide +kernel) (by decide +kernel)
theorem kw_68 : ex_Pm 68 := ⟨kt_324, kt_249, by decide +kernel, by decide +kernel, by decide +kernel, by decide +kernel, by decide +kernel⟩
theorem kt_325 : (Jvm.Cond.code (ex_Y 69) (ex_B 69) (ex_L 69) (ex_ret 69)) ∈ ex_tb := ex_in (i := 692) (by decide +kernel) (by decide +kernel)
theorem kw_69 : ex_Pm 69 := ⟨kt_325, kt_249, by decide +kernel, by decide +kernel, by decide +kernel, by decide +kernel, by decide +kernel⟩
theorem kt_326 : (Jvm.Cond.code (ex_Y 70) (ex_B 70) (ex_L 70) (ex_ret 70)) ∈ ex_tb := ex_in (i := 696) (by decide +kernel) (by decide +kernel)
theorem kw_70 : ex_Pm 70 := ⟨kt_326, kt_249, by decide +kernel, by decide +kernel, by decide +kernel, by decide +kernel, by decide +kernel⟩
theorem kt_327 : (Jvm.Cond.code (ex_Y 71) (ex_B 71) (ex_L 71) (ex_ret 71)) ∈ ex_tb := ex_in (i := 834) (by decide +kernel) (by decide +kernel)
theorem kw_71 : ex_Pm 71 := ⟨kt_327, kt_250, by decide +kernel, by decide +kernel, by decide +kernel, by decide +kernel, by decide +kernel⟩
theorem kt_328 : (Jvm.Cond.code (ex_Y 72) (ex_B 72) (ex_L 72) (ex_ret 72)) ∈ ex_tb := ex_in (i := 917) (by decide +kernel) (by decide +kernel)
theorem kw_72 : ex_Pm 72 := ⟨kt_328, kt_250, by decide +kernel, by decide +kernel, by decide +kernel, by decide +kernel, by decide +kernel⟩
theorem kt_329 : (Jvm.Cond.code (ex_Y 73) (ex_B 73) (ex_L 73) (ex_ret 73)) ∈ ex_tb := ex_in (i := 876) (by decide +kernel) (by decide +kernel)
theorem kw_73 : ex_Pm 73 := ⟨kt_329, kt_250, by decide +kernel, by decide +kernel, by decide +kernel, by decide +kernel, by decide +kernel⟩
theorem kt_330 : (Jvm.Cond.code (ex_Y 74) (ex_B 74) (ex_L 74) (ex_ret 74)) ∈ ex_tb := ex_in (i := 888) (by decide +kernel) (by decide +kernel)
theorem kw_74 : ex_Pm 74 := ⟨kt_330, kt_250, by decide +kernel, by decide +kernel, by decide +kernel, by decide +kernel, by decide +kernel⟩
theorem kt_331 : (Jvm.Cond.code (ex_Y 75) (ex_B 75) (ex_L 75) (ex_ret 75)) ∈ ex_tb := ex_in (i := 892) (by decide +kernel) (by decide +kernel)
theorem kw_75 : ex_Pm 75 := ⟨kt_331, kt_250, by decide +kernel, by decide +kernel, by decide +kernel, by decide +kernel, by decide +kernel⟩
theorem kt_332 : (Jvm.Cond.code (ex_Y 76) (ex_B 76) (ex_L 76) (ex_ret 76)) ∈ ex_tb := ex_in (i := 901) (by decide +kernel) (by decide +kernel)
theorem kw_76 : ex_Pm 76 := ⟨kt_332, kt_250, by decide +kernel, by decide +kernel, by decide +kernel, by decide +kernel, by decide +kernel⟩
theorem kt_333 : (Jvm.Cond.code (ex_Y 77) (ex_B 77) (ex_L 77) (ex_ret 77)) ∈ ex_tb := ex_in (i := 905) (by decide +kernel) (by decide +kernel)
theorem kw_77 : ex_Pm 77 := ⟨kt_333, kt_250, by decide +kernel, by decide +kernel, by decide +kernel, by decide +kernel, by decide +kernel⟩
theorem kt_334 : (Jvm.Cond.code (ex_Y 78) (ex_B 78) (ex_L 78) (ex_ret 78)) ∈ ex_tb := ex_in (i := 909) (by decide +kernel) (by decide +kernel)
theorem kw_78 : ex_Pm 78 := ⟨kt_334, kt_250, by decide +kernel, by decide +kernel, by decide +kernel, by decide +kernel, by decide +kernel⟩
theorem kt_335 : (Jvm.Cond.code (ex_Y 79) (ex_B 79) (ex_L 79) (ex_ret 79)) ∈ ex_tb := ex_in (i := 913) (by decide +kernel) (by decide +kernel)
theorem kw_79 : ex_Pm 79 := ⟨kt_335, kt_250, by decide +kernel, by decide +kernel, by decide +kernel, by decide +kernel, by decide +kernel⟩
theorem kt_336 : (Jvm.Cond.code (ex_Y 80) (ex_B 80) (ex_L 80) (ex_ret 80)) ∈ ex_tb := ex_in (i := 847) (by decide +kernel) (by decide +kernel)
theorem kw_80 : ex_Pm 80 := ⟨kt_336, kt_250, by decide +kernel, by decide +kernel, by decide +kernel, by decide +kernel, by decide +kernel⟩
theorem kt_337 : (Jvm.Cond.code (ex_Y 81) (ex_B 81) (ex_L 81) (ex_ret 81)) ∈ ex_tb := ex_in (i := 880) (by decide +kernel) (by decide +kernel)
theorem kw_81 : ex_Pm 81 := ⟨kt_337, kt_250, by decide +kernel, by decide +kernel, by decide +kernel, by decide +kernel, by decide +kernel⟩
theorem kt_338 : (Jvm.Cond.code (ex_Y 82) (ex_B 82) (ex_L 82) (ex_ret 82)) ∈ ex_tb := ex_in (i := 843) (by decide +kernel) (by decide +kernel)
theorem kw_82 : ex_Pm 82 := ⟨kt_338, kt_250, by decide +kernel, by decide +kernel, by decide +kernel, by decide +kernel, by decide +kernel⟩
theorem kt_339 : (Jvm.Cond.code (ex_Y 83) (ex_B 83) (ex_L 83) (ex_ret 83)) ∈ ex_tb := ex_in (i := 851) (by decide +kernel) (by decide +kernel)
theorem kw_83 : ex_Pm 83 := ⟨kt_339, kt_250, by decide +kernel, by decide +kernel, by decide +kernel, by decide +kernel, by decide +kernel⟩
theorem kt_340 : (Jvm.Cond.code (ex_Y 84) (ex_B 84) (ex_L 84) (ex_ret 84)) ∈ ex_tb := ex_in (i := 366) (by decide +kernel) (by decide +kernel)
theorem kw_84 : ex_Pm 84 := ⟨kt_340, kt_251, by decide +kernel, by decide +kernel, by decide +kernel, by decide +kernel, by decide +kernel⟩
theorem kt_341 : (Jvm.Cond.code (ex_Y 85) (ex_B 85) (ex_L 85) (ex_ret 85)) ∈ ex_tb := ex_in (i := 369) (by decide +kernel) (by decide +kernel)
theorem kw_85 : ex_Pm 85 := ⟨kt_341, kt_251, by decide +kernel, by decide +kernel, by decide +kernel, by decide +kernel, by decide +kernel⟩
theorem kt_342 : (Jvm.Cond.code (ex_Y 86) (ex_B 86) (ex_L 86) (ex_ret 86)) ∈ ex_tb := ex_in (i := 377) (by decide +kernel) (by decide +kernel)
theorem kw_86 : ex_Pm 86 := ⟨kt_342, kt_251, by decide +kernel, by decide +kernel, by decide +kernel, by decide +kernel, by decide +kernel⟩
theorem kt_343 : (Jvm.Cond.code (ex_Y 87) (ex_B 87) (ex_L 87) (ex_ret 87)) ∈ ex_tb := ex_in (i := 373) (by decide +kernel) (by decide +kernel)
theorem kw_87 : ex_Pm 87 := ⟨kt_343, kt_251, by decide +kernel, by decide +kernel, by decide +kernel, by decide +kernel, by decide +kernel⟩
theorem kt_344 : (Jvm.Cond.code (ex_Y 88) (ex_B 88) (ex_L 88) (ex_ret 88)) ∈ ex_tb := ex_in (i := 412) (by decide +kernel) (by decide +kernel)
theorem kw_88 : ex_Pm 88 := ⟨kt_344, kt_251, by decide +kernel, by decide +kernel, by decide +kernel, by decide +kernel, by decide +kernel⟩
theorem kt_345 : (Jvm.Cond.code (ex_Y 89) (ex_B 89) (ex_L 89) (ex_ret 89)) ∈ ex_tb := ex_in (i := 385) (by decide +kernel) (by decide +kernel)
theorem kw_89 : ex_Pm 89 := ⟨kt_345, kt_251, by decide +kernel, by decide +kernel, by decide +kernel, by decide +kernel, by decide +kernel⟩
theorem kt_346 : (Jvm.Cond.code (ex_Y 90) (ex_B 90) (ex_L 90) (ex_ret 90)) ∈ ex_tb := ex_in (i := 609) (by decide +kernel) (by decide +kernel)
theorem kw_90 : ex_Pm 90 := ⟨kt_346, kt_252, by decide +kernel, by decide +kernel, by decide +kernel, by decide +kernel, by decide +kernel⟩
theorem kt_347 : (Jvm.Cond.code (ex_Y 91) (ex_B 91) (ex_L 91) (ex_ret 91)) ∈ ex_tb := ex_in (i := 579) (by decide +kernel) (by decide +kernel)
theorem kw_91 : ex_Pm 91 := ⟨kt_347, kt_252, by decide +kernel, by decide +kernel, by decide +kernel, by decide +kernel, by decide +kernel⟩
theorem kt_348 : (Jvm.Cond.code (ex_Y 92) (ex_B 92) (ex_L 92) (ex_ret 92)) ∈ ex_tb := ex_in (i := 591) (by decide +kernel) (by decide +kernel)
theorem kw_92 : ex_Pm 92 := ⟨kt_348, kt_252, by decide +kernel, by decide +kernel, by decide +kernel, by decide +kernel, by decide +kernel⟩
theorem kt_349 : (Jvm.Cond.code (ex_Y 93) (ex_B 93) (ex_L 93) (ex_ret 93)) ∈ ex_tb := ex_in (i := 617) (by decide +kernel) (by decide +kernel)
theorem kw_93 : ex_Pm 93 := ⟨kt_349, kt_252, by decide +kernel, by decide +kernel, by decide +kernel, by decide +kernel, by decide +kernel⟩
theorem kt_350 : (Jvm.Cond.code (ex_Y 94) (ex_B 94) (ex_L 94) (ex_ret 94)) ∈ ex_tb := ex_in (i := 596) (by decide +kernel) (by decide +kernel)
theorem kw_94 : ex_Pm 94 := ⟨kt_350, kt_252, by decide +kernel, by decide +kernel, by decide +kernel, by decide +kernel, by decide +kernel⟩
theorem kt_351 : (Jvm.Cond.code (ex_Y 95) (ex_B 95) (ex_L 95) (ex_ret 95)) ∈ ex_tb := ex_in (i := 560) (by decide +kernel) (by decide +kernel)
theorem kw_95 : ex_Pm 95 := ⟨kt_351, kt_252, by decide +kernel, by decide +kernel, by decide +kernel, by decide +kernel, by decide +kernel⟩
theorem kt_352 : (Jvm.Cond.code (ex_Y 96) (ex_B 96) (ex_L 96) (ex_ret 96)) ∈ ex_tb := ex_in (i := 976) (by decide +kernel) (by decide +kernel)
theorem kw_96 : ex_Pm 96 := ⟨kt_352, kt_252, by decide +kernel, by decide +kernel, by decide +kernel, by decide +kernel, by decide +kernel⟩
theorem kt_353 : (Jvm.Cond.code (ex_Y 97) (ex_B 97) (ex_L 97) (ex_ret 97)) ∈ ex_tb := ex_in (i := 398) (by decide +kernel) (by decide +kernel)
theorem kw_97 : ex_Pm 97 := ⟨kt_353, kt_253, by decide +kernel, by decide +kernel, by decide +kernel, by decide +kernel, by decide +kernel⟩
theorem kt_354 : (Jvm.Cond.code (ex_Y 98) (ex_B 98) (ex_L 98) (ex_ret 98)) ∈ ex_tb := ex_in (i := 474) (by decide +kernel) (by decide +kernel)
theorem kw_98 : ex_Pm 98 := ⟨kt_354, kt_253, by decide +kernel, by decide +kernel, by decide +kernel, by decide +kernel, by decide +kernel⟩
theorem kt_355 : (Jvm.Cond.code (ex_Y 99) (ex_B 99) (ex_L 99) (ex_ret 99)) ∈ ex_tb := ex_in (i := 363) (by decide +kernel) (by decide +kernel)
theorem kw_99 : ex_Pm 99 := ⟨kt_355, kt_254, by decide +kernel, by decide +kernel, by decide +kernel, by decide +kernel, by decide +kernel⟩
theorem kt_356 : (Jvm.Cond.code (ex_Y 100) (ex_B 100) (ex_L 100) (ex_ret 100)) ∈ ex_tb := ex_in (i := 381) (by decide +kernel) (by decide +kernel)
theorem kw_100 : ex_Pm 100 := ⟨kt_356, kt_254, by decide +kernel, by decide +kernel, by decide +kernel, by decide +kernel, by decide +kernel⟩
theorem kt_357 : (Jvm.Cond.code (ex_Y 101) (ex_B 101) (ex_L 101) (ex_ret 101)) ∈ ex_tb := ex_in (i := 389) (by decide +kernel) (by decide +kernel)
theorem kw_101 : ex_Pm 101 := ⟨kt_357, kt_254, by decide +kernel, by decide +kernel, by decide +kernel, by decide +kernel, by decide +kernel⟩
theorem kt_358 : (Jvm.Cond.code (ex_Y 102) (ex_B 102) (ex_L 102) (ex_ret 102)) ∈ ex_tb := ex_in (i := 468) (by decide +kernel) (by decide +kernel)
theorem kw_102 : ex_Pm 102 := ⟨kt_358, kt_254, by decide +kernel, by decide +kernel, by decide +kernel, by decide +kernel, by decide +kernel⟩
theorem kt_359 : (Jvm.Cond.code (ex_Y 103) (ex_B 103) (ex_L 103) (ex_ret 103)) ∈ ex_tb := ex_in (i := 568) (by decide +kernel) (by decide +kernel)
theorem kw_103 : ex_Pm 103 := ⟨kt_359, kt_254, by decide +kernel, by decide +kernel, by decide +kernel, by decide +kernel, by decide +kernel⟩
theorem kt_360 : (Jvm.Cond.code (ex_Y 104) (ex_B 104) (ex_L 104) (ex_ret 104)) ∈ ex_tb := ex_in (i := 601) (by decide +kernel) (by decide +kernel)
theorem kw_104 : ex_Pm 104 := ⟨kt_360, kt_254, by decide +kernel, by decide +kernel, by decide +kernel, by decide +kernel, by decide +kernel⟩
theorem kt_361 : (Jvm.Cond.code (ex_Y 105) (ex_B 105) (ex_L 105) (ex_ret 105)) ∈ ex_tb := ex_in (i := 621) (by decide +kernel) (by decide +kernel)
theorem kw_105 : ex_Pm 105 := ⟨kt_361, kt_254, by decide +kernel, by decide +kernel, by decide +kernel, by decide +kernel, by decide +kernel⟩
theorem kt_362 : (Jvm.Cond.code (ex_Y 106) (ex_B 106) (ex_L 106) (ex_ret 106)) ∈ ex_tb := ex_in (i := 628) (by decide +kernel) (by decide +kernel)
theorem kw_106 : ex_Pm 106 := ⟨kt_362, kt_254, by decide +kernel, by decide +kernel, by decide +kernel, by decide +kernel, by decide +kernel⟩
theorem kt_363 : (Jvm.Cond.code (ex_Y 107) (ex_B 107) (ex_L 107) (ex_ret 107)) ∈ ex_tb := ex_in (i := 672) (by decide +kernel) (by decide +kernel)
theorem kw_107 : ex_Pm 107 := ⟨kt_363, kt_254, by decide +kernel, by decide +kernel, by decide +kernel, by decide +kernel, by decide +kernel⟩
theorem kt_364 : (Jvm.Cond.code (ex_Y 108) (ex_B 108) (ex_L 108) (ex_ret 108)) ∈ ex_tb := ex_in (i := 681) (by decide +kernel) (by decide +kernel)
theorem kw_108 : ex_Pm 108 := ⟨kt_364, kt_254, by decide +kernel, by decide +kernel, by decide +kernel, by decide +kernel, by decide +kernel⟩
theorem kt_365 : (Jvm.Cond.code (ex_Y 109) (ex_B 109) (ex_L 109) (ex_ret 109)) ∈ ex_tb := ex_in (i := 707) (by decide +kernel) (by decide +kernel)
theorem kw_109 : ex_Pm 109 := ⟨kt_365, kt_254, by decide +kernel, by decide +kernel, by decide +kernel, by decide +kernel, by decide +kernel⟩
theorem kt_366 : (Jvm.Cond.code (ex_Y 110) (ex_B 110) (ex_L 110) (ex_ret 110)) ∈ ex_tb := ex_in (i := 713) (by decide +kernel) (by decide +kernel)
theorem kw_110 : ex_Pm 110 := ⟨kt_366, kt_254, by decide +kernel, by decide +kernel, by decide +kernel, by decide +kernel, by decide +kernel⟩
theorem kt_367 : (Jvm.Cond.code (ex_Y 111) (ex_B 111) (ex_L 111) (ex_ret 111)) ∈ ex_tb := ex_in (i := 730) (by decide +kernel) (by decide +kernel)
theorem kw_111 : ex_Pm 111 := ⟨kt_367, kt_254, by decide +kernel, by decide +kernel, by decide +kernel, by decide +kernel, by decide +kernel⟩
theorem kt_368 : (Jvm.Cond.code (ex_Y 112) (ex_B 112) (ex_L 112) (ex_ret 112)) ∈ ex_tb := ex_in (i := 742) (by decide +kernel) (by decide +kernel)
theorem kw_112 : ex_Pm 112 := ⟨kt_368, kt_254, by decide +kernel, by decide +kernel, by decide +kernel, by decide +kernel, by decide +kernel⟩
theorem kt_369 : (Jvm.Cond.code (ex_Y 113) (ex_B 113) (ex_L 113) (ex_ret 113)) ∈ ex_tb := ex_in (i := 759) (by decide +kernel) (by decide +kernel)
theorem kw_113 : ex_Pm 113 := ⟨kt_369, kt_254, by decide +kernel, by decide +kernel, by decide +kernel, by decide +kernel, by decide +kernel⟩
theorem kt_370 : (Jvm.Cond.code (ex_Y 114) (ex_B 114) (ex_L 114) (ex_ret 114)) ∈ ex_tb := ex_in (i := 767) (by decide +kernel) (by decide +kernel)
theorem kw_114 : ex_Pm 114 := ⟨kt_370, kt_254, by decide +kernel, by decide +kernel, by decide +kernel, by decide +kernel, by decide +kernel⟩
theorem kt_371 : (Jvm.Cond.code (ex_Y 115) (ex_B 115) (ex_L 115) (ex_ret 115)) ∈ ex_tb := ex_in (i := 782) (by decide +kernel) (by decide +kernel)
theorem kw_115 : ex_Pm 115 := ⟨kt_371, kt_254, by decide +kernel, by decide +kernel, by decide +kernel, by decide +kernel, by decide +kernel⟩
theorem kt_372 : (Jvm.Cond.code (ex_Y 116) (ex_B 116) (ex_L 116) (ex_ret 116)) ∈ ex_tb := ex_in (i := 792) (by decide +kernel) (by decide +kernel)
theorem kw_116 : ex_Pm 116 := ⟨kt_372, kt_254, by decide +kernel, by decide +kernel, by decide +kernel, by decide +kernel, by decide +kernel⟩
theorem kt_373 : (Jvm.Cond.code (ex_Y 117) (ex_B 117) (ex_L 117) (ex_ret 117)) ∈ ex_tb := ex_in (i := 796) (by decide +kernel) (by decide +kernel)
theorem kw_117 : ex_Pm 117 := ⟨kt_373, kt_254, by decide +kernel, by decide +kernel, by decide +kernel, by decide +kernel, by decide +kernel⟩
theorem kt_374 : (Jvm.Cond.code (ex_Y 118) (ex_B 118) (ex_L 118) (ex_ret 118)) ∈ ex_tb := ex_in (i := 872) (by decide +kernel) (by decide +kernel)
theorem kw_118 : ex_Pm 118 := ⟨kt_374, kt_254, by decide +kernel, by decide +kernel, by decide +kernel, by decide +kernel, by decide +kernel⟩
theorem kt_375 : (Jvm.Cond.code (ex_Y 119) (ex_B 119) (ex_L 119) (ex_ret 119)) ∈ ex_tb := ex_in (i := 921) (by decide +kernel) (by decide +kernel)
theorem kw_119 : ex_Pm 119 := ⟨kt_375, kt_254, by decide +kernel, by decide +kernel, by decide +kernel, by decide +kernel, by decide +kernel⟩
theorem kt_376 : (Jvm.Cond.code (ex_Y 120) (ex_B 120) (ex_L 120) (ex_ret 120)) ∈ ex_tb := ex_in (i := 929) (by decide +kernel) (by decide +kernel)
theorem kw_120 : ex_Pm 120 := ⟨kt_376, kt_254, by decide +kernel, by decide +kernel, by decide +kernel, by decide +kernel, by decide +kernel⟩
theorem kt_377 : (Jvm.Cond.code (ex_Y 121) (ex_B 121) (ex_L 121) (ex_ret 121)) ∈ ex_tb := ex_in (i := 933) (by decide +kernel) (by decide +kernel)
theorem kw_121 : ex_Pm 121 := ⟨kt_377, kt_254, by decide +kernel, by decide +kernel, by decide +kernel, by decide +kernel, by decide +kernel⟩
theorem kt_378 : (Jvm.Cond.code (ex_Y 122) (ex_B 122) (ex_L 122) (ex_ret 122)) ∈ ex_tb := ex_in (i := 938) (by decide +kernel) (by decide +kernel)
theorem kw_122 : ex_Pm 122 := ⟨kt_378, kt_254, by decide +kernel, by decide +kernel, by decide +kernel, by decide +kernel, by decide +kernel⟩
theorem kt_379 : (Jvm.Cond.code (ex_Y 123) (ex_B 123) (ex_L 123) (ex_ret 123)) ∈ ex_tb := ex_in (i := 948) (by decide +kernel) (by decide +kernel)
theorem kw_123 : ex_Pm 123 := ⟨kt_379, kt_254, by decide +kernel, by decide +kernel, by decide +kernel, by decide +kernel, by decide +kernel⟩
theorem kt_380 : (Jvm.Cond.code (ex_Y 124) (ex_B 124) (ex_L 124) (ex_ret 124)) ∈ ex_tb := ex_in (i := 952) (by decide +kernel) (by decide +kernel)
theorem kw_124 : ex_Pm 124 := ⟨kt_380, kt_254, by decide +kernel, by decide +kernel, by decide +kernel, by decide +kernel, by decide +kernel⟩
theorem kt_381 : (Jvm.Cond.code (ex_Y 125) (ex_B 125) (ex_L 125) (ex_ret 125)) ∈ ex_tb := ex_in (i := 956) (by decide +kernel) (by decide +kernel)
theorem kw_125 : ex_Pm 125 := ⟨kt_381, kt_254, by decide +kernel, by decide +kernel, by decide +kernel, by decide +kernel, by decide +kernel⟩
theorem kt_382 : (Jvm.Cond.code (ex_Y 126) (ex_B 126) (ex_L 126) (ex_ret 126)) ∈ ex_tb := ex_in (i := 968) (by decide +kernel) (by decide +kernel)
theorem kw_126 : ex_Pm 126 := ⟨kt_382, kt_254, by decide +kernel, by decide +kernel, by decide +kernel, by decide +kernel, by decide +kernel⟩
theorem kt_383 : (Jvm.Cond.code (ex_Y 127) (ex_B 127) (ex_L 127) (ex_ret 127)) ∈ ex_tb := ex_in (i := 983) (by decide +kernel) (by decide +kernel)
theorem kw_127 : ex_Pm 127 := ⟨kt_383, kt_254, by decide +kernel, by decide +kernel, by decide +kernel, by decide +kernel, by decide +kernel⟩
theorem kt_384 : (Jvm.Cond.code (ex_Y 128) (ex_B 128) (ex_L 128) (ex_ret 128)) ∈ ex_tb := ex_in (i := 987) (by decide +kernel) (by decide +kernel)
theorem kw_128 : ex_Pm 128 := ⟨kt_384, kt_254, by decide +kernel, by decide +kernel, by decide +kernel, by decide +kernel, by decide +kernel⟩
theorem kt_385 : (Jvm.Cond.code (ex_Y 129) (ex_B 129) (ex_L 129) (ex_ret 129)) ∈ ex_tb := ex_in (i := 991) (by decide +kernel) (by decide +kernel)
theorem kw_129 : ex_Pm 129 := ⟨kt_385, kt_254, by decide +kernel, by decide +kernel, by decide +kernel, by decide +kernel, by decide +kernel⟩
theorem kt_386 : (Jvm.Cond.code (ex_Y 130) (ex_B 130) (ex_L 130) (ex_ret 130)) ∈ ex_tb := ex_in (i := 392) (by decide +kernel) (by decide +kernel)
theorem kw_130 : ex_Pm 130 := ⟨kt_386, kt_254, by decide +kernel, by decide +kernel, by decide +kernel, by decide +kernel, by decide +kernel⟩
theorem kt_387 : (Jvm.Cond.code (ex_Y 131) (ex_B 131) (ex_L 131) (ex_ret 131)) ∈ ex_tb := ex_in (i := 684) (by decide +kernel) (by decide +kernel)
theorem kw_131 : ex_Pm 131 := ⟨kt_387, kt_254, by decide +kernel, by decide +kernel, by decide +kernel, by decide +kernel, by decide +kernel⟩
theorem kt_388 : (Jvm.Cond.code (ex_Y 132) (ex_B 132) (ex_L 132) (ex_ret 132)) ∈ ex_tb := ex_in (i := 726) (by decide +kernel) (by decide +kernel)
theorem kw_132 : ex_Pm 132 := ⟨kt_388, kt_254, by decide +kernel, by decide +kernel, by decide +kernel, by decide +kernel, by decide +kernel⟩
theorem kt_389 : (Jvm.Cond.code (ex_Y 133) (ex_B 133) (ex_L 133) (ex_ret 133)) ∈ ex_tb := ex_in (i := 746) (by decide +kernel) (by decide +kernel)
theorem kw_133 : ex_Pm 133 := ⟨kt_389, kt_254, by decide +kernel, by decide +kernel, by decide +kernel, by decide +kernel, by decide +kernel⟩
theorem kt_390 : (Jvm.Cond.code (ex_Y 134) (ex_B 134) (ex_L 134) (ex_ret 134)) ∈ ex_tb := ex_in (i := 941) (by decide +kernel) (by decide +kernel)
theorem kw_134 : ex_Pm 134 := ⟨kt_390, kt_254, by decide +kernel, by decide +kernel, by decide +kernel, by decide +kernel, by decide +kernel⟩
theorem kt_391 : (Jvm.Cond.code (ex_Y 135) (ex_B 135) (ex_L 135) (ex_ret 135)) ∈ ex_tb := ex_in (i := 636) (by decide +kernel) (by decide +kernel)
theorem kw_135 : ex_Pm 135 := ⟨kt_391, kt_254, by decide +kernel, by decide +kernel, by decide +kernel, by decide +kernel, by decide +kernel⟩
theorem kt_392 : (Jvm.Cond.code (ex_Y 136) (ex_B 136) (ex_L 136) (ex_ret 136)) ∈ ex_tb := ex_in (i := 771) (by decide +kernel) (by decide +kernel)
theorem kw_136 : ex_Pm 136 := ⟨kt_392, kt_254, by decide +kernel, by decide +kernel, by decide +kernel, by decide +kernel, by decide +kernel⟩
theorem kt_393 : (Jvm.Cond.code (ex_Y 137) (ex_B 137) (ex_L 137) (ex_ret 137)) ∈ ex_tb := ex_in (i := 750) (by decide +kernel) (by decide +kernel)
theorem kw_137 : ex_Pm 137 := ⟨kt_393, kt_254, by decide +kernel, by decide +kernel, by decide +kernel, by decide +kernel, by decide +kernel⟩
theorem kt_394 : (Jvm.Cond.code (ex_Y 138) (ex_B 138) (ex_L 138) (ex_ret 138)) ∈ ex_tb := ex_in (i := 723) (by decide +kernel) (by decide +kernel)
theorem kw_138 : ex_Pm 138 := ⟨kt_394, kt_254, by decide +kernel, by decide +kernel, by decide +kernel, by decide +kernel, by decide +kernel⟩
theorem kt_395 : (Jvm.Cond.code (ex_Y 139) (ex_B 139) (ex_L 139) (ex_ret 139)) ∈ ex_tb := ex_in (i := 717) (by decide +kernel) (by decide +kernel)
theorem kw_139 : ex_Pm 139 := ⟨kt_395, kt_254, by decide +kernel, by decide +kernel, by decide +kernel, by decide +kernel, by decide +kernel⟩
theorem kt_396 : (Jvm.Cond.code (ex_Y 140) (ex_B 140) (ex_L 140) (ex_ret 140)) ∈ ex_tb := ex_in (i := 738) (by decide +kernel) (by decide +kernel)
theorem kw_140 : ex_Pm 140 := ⟨kt_396, kt_254, by decide +kernel, by decide +kernel, by decide +kernel, by decide +kernel, by decide +kernel⟩
theorem kt_397 : (Jvm.Cond.code (ex_Y 141) (ex_B 141) (ex_L 141) (ex_ret 141)) ∈ ex_tb := ex_in (i := 960) (by decide +kernel) (by decide +kernel)
theorem kw_141 : ex_Pm 141 := ⟨kt_397, kt_254, by decide +kernel, by decide +kernel, by decide +kernel, by decide +kernel, by decide +kernel⟩
theorem kt_398 : (Jvm.Cond.code (ex_Y 142) (ex_B 142) (ex_L 142) (ex_ret 142)) ∈ ex_tb := ex_in (i := 964) (by decide +kernel) (by decide +kernel)
theorem kw_142 : ex_Pm 142 := ⟨kt_398, kt_254, by decide +kernel, by decide +kernel, by decide +kernel, by decide +kernel, by decide +kernel⟩
theorem kt_399 : (Jvm.Cond.code (ex_Y 143) (ex_B 143) (ex_L 143) (ex_ret 143)) ∈ ex_tb := ex_in (i := 996) (by decide +kernel) (by decide +kernel)
theorem kw_143 : ex_Pm 143 := ⟨kt_399, kt_254, by decide +kernel, by decide +kernel, by decide +kernel, by decide +kernel, by decide +kernel⟩
theorem kt_400 : (Jvm.Cond.code (ex_Y 144) (ex_B 144) (ex_L 144) (ex_ret 144)) ∈ ex_tb := ex_in (i := 1001) (by decide +kernel) (by decide +kernel)
theorem kw_144 : ex_Pm 144 := ⟨kt_400, kt_254, by decide +kernel, by decide +kernel, by decide +kernel, by decide +kernel, by decide +kernel⟩
theorem kt_401 : (Jvm.Cond.code (ex_Y 145) (ex_B 145) (ex_L 145) (ex_ret 145)) ∈ ex_tb := ex_in (i := 1005) (by decide +kernel) (by decide +kernel)
theorem kw_145 : ex_Pm 145 := ⟨kt_401, kt_254, by decide +kernel, by decide +kernel, by decide +kernel, by decide +kernel, by decide +kernel⟩
theorem kt_402 : (Jvm.Cond.code (ex_Y 146) (ex_B 146) (ex_L 146) (ex_ret 146)) ∈ ex_tb := ex_in (i := 1009) (by decide +kernel) (by decide +kernel)
theorem kw_146 : ex_Pm 146 := ⟨kt_402, kt_254, by decide +kernel, by decide +kernel, by decide +kernel, by decide +kernel, by decide +kernel⟩
theorem kt_403 : (Jvm.Cond.code (ex_Y 147) (ex_B 147) (ex_L 147) (ex_ret 147)) ∈ ex_tb := ex_in (i := 1012) (by decide +kernel) (by decide +kernel)
theorem kw_147 : ex_Pm 147 := ⟨kt_403, kt_254, by decide +kernel, by decide +kernel, by decide +kernel, by decide +kernel, by decide +kernel⟩
theorem kt_404 : (Jvm.Cond.code (ex_Y 148) (ex_B 148) (ex_L 148) (ex_ret 148)) ∈ ex_tb := ex_in (i := 1213) (by decide +kernel) (by decide +kernel)
theorem kw_148 : ex_Pm 148 := ⟨kt_404, kt_255, by decide +kernel, by decide +kernel, by decide +kernel, by decide +kernel, by decide +kernel⟩
theorem kt_405 : (Jvm.Cond.code (ex_Y 149) (ex_B 149) (ex_L 149) (ex_ret 149)) ∈ ex_tb := ex_in (i := 1201) (by decide +kernel) (by decide +kernel)
theorem kw_149 : ex_Pm 149 := ⟨kt_405, kt_255, by decide +kernel, by decide +kernel, by decide +kernel, by decide +kernel, by decide +kernel⟩
theorem kt_406 : (Jvm.Cond.code (ex_Y 150) (ex_B 150) (ex_L 150) (ex_ret 150)) ∈ ex_tb := ex_in (i := 1206) (by decide +kernel) (by decide +kernel)
theorem kw_150 : ex_Pm 150 := ⟨kt_406, kt_255, by decide +kernel, by decide +kernel, by decide +kernel, by decide +kernel, by decide +kernel⟩
theorem kt_407 : (Jvm.Cond.code (ex_Y 151) (ex_B 151) (ex_L 151) (ex_ret 151)) ∈ ex_tb := ex_in (i := 1235) (by decide +kernel) (by decide +kernel)
theorem kw_151 : ex_Pm 151 := ⟨kt_407, kt_255, by decide +kernel, by decide +kernel, by decide +kernel, by decide +kernel, by decide +kernel⟩
theorem kt_408 : (Jvm.Cond.code (ex_Y 152) (ex_B 152) (ex_L 152) (ex_ret 152)) ∈ ex_tb := ex_in (i := 1224) (by decide +kernel) (by decide +kernel)
theorem kw_152 : ex_Pm 152 := ⟨kt_408, kt_255, by decide +kernel, by decide +kernel, by decide +kernel, by decide +kernel, by decide +kernel⟩
theorem kt_409 : (Jvm.Cond.code (ex_Y 153) (ex_B 153) (ex_L 153) (ex_ret 153)) ∈ ex_tb := ex_in (i := 1221) (by decide +kernel) (by decide +kernel)
theorem kw_153 : ex_Pm 153 := ⟨kt_409, kt_255, by decide +kernel, by decide +kernel, by decide +kernel, by decide +kernel, by decide +kernel⟩
theorem kt_410 : (Jvm.Cond.code (ex_Y 154) (ex_B 154) (ex_L 154) (ex_ret 154)) ∈ ex_tb := ex_in (i := 1217) (by decide +kernel) (by decide +kernel)
theorem kw_154 : ex_Pm 154 := ⟨kt_410, kt_255, by decide +kernel, by decide +kernel, by decide +kernel, by decide +kernel, by decide +kernel⟩
theorem kt_411 : (Jvm.Cond.code (ex_Y 155) (ex_B 155) (ex_L 155) (ex_ret 155)) ∈ ex_tb := ex_in (i := 1243) (by decide +kernel) (by decide +kernel)
theorem kw_155 : ex_Pm 155 := ⟨kt_411, kt_255, by decide +kernel, by decide +kernel, by decide +kernel, by decide +kernel, by decide +kernel⟩
theorem kt_412 : (Jvm.Cond.code (ex_Y 156) (ex_B 156) (ex_L 156) (ex_ret 156)) ∈ ex_tb := ex_in (i := 1247) (by decide +kernel) (by decide +kernel)
theorem kw_156 : ex_Pm 156 := ⟨kt_412, kt_255, by decide +kernel, by decide +kernel, by decide +kernel, by decide +kernel, by decide +kernel⟩
theorem kt_413 : (Jvm.Cond.code (ex_Y 157) (ex_B 157) (ex_L 157) (ex_ret 157)) ∈ ex_tb := ex_in (i := 1239) (by decide +kernel) (by decide +kernel)
theorem kw_157 : ex_Pm 157 := ⟨kt_413, kt_255, by decide +kernel, by decide +kernel, by decide +kernel, by decide +kernel, by decide +kernel⟩
theorem kt_414 : (Jvm.Cond.code (ex_Y 158) (ex_B 158) (ex_L 158) (ex_ret 158)) ∈ ex_tb := ex_in (i := 1255) (by decide +kernel) (by decide +kernel)
theorem kw_158 : ex_Pm 158 := ⟨kt_414, kt_255, by decide +kernel, by decide +kernel, by decide +kernel, by decide +kernel, by decide +kernel⟩
theorem kt_415 : (Jvm.Cond.code (ex_Y 159) (ex_B 159) (ex_L 159) (ex_ret 159)) ∈ ex_tb := ex_in (i := 1251) (by decide +kernel) (by decide +kernel)
theorem kw_159 : ex_Pm 159 := ⟨kt_415, kt_255, by decide +kernel, by decide +kernel, by decide +kernel, by decide +kernel, by decide +kernel⟩
theorem kt_416 : (Jvm.Cond.code (ex_Y 160) (ex_B 160) (ex_L 160) (ex_ret 160)) ∈ ex_tb := ex_in (i := 1232) (by decide +kernel) (by decide +kernel)
theorem kw_160 : ex_Pm 160 := ⟨kt_416, kt_255, by decide +kernel, by decide +kernel, by decide +kernel, by decide +kernel, by decide +kernel⟩
theorem kt_417 : (Jvm.Cond.code (ex_Y 161) (ex_B 161) (ex_L 161) (ex_ret 161)) ∈ ex_tb := ex_in (i := 1228) (by decide +kernel) (by decide +kernel)
theorem kw_161 : ex_Pm 161 := ⟨kt_417, kt_255, by decide +kernel, by decide +kernel, by decide +kernel, by decide +kernel, by decide +kernel⟩
theorem kt_418 : (Jvm.Cond.code (ex_Y 162) (ex_B 162) (ex_L 162) (ex_ret 162)) ∈ ex_tb := ex_in (i := 1210) (by decide +kernel) (by decide +kernel)
theorem kw_162 : ex_Pm 162 := ⟨kt_418, kt_255, by decide +kernel, by decide +kernel, by decide +kernel, by decide +kernel, by decide +kernel⟩
theorem kt_419 : (Jvm.Cond.code (ex_Y 163) (ex_B 163) (ex_L 163) (ex_ret 163)) ∈ ex_tb := ex_in (i := 1259) (by decide +kernel) (by decide +kernel)
theorem kw_163 : ex_Pm 163 := ⟨kt_419, kt_255, by decide +kernel, by decide +kernel, by decide +kernel, by decide +kernel, by decide +kernel⟩
theorem kt_420 : (Jvm.Cond.code (ex_Y 164) (ex_B 164) (ex_L 164) (ex_ret 164)) ∈ ex_tb := ex_in (i := 1263) (by decide +kernel) (by decide +kernel)
theorem kw_164 : ex_Pm 164 := ⟨kt_420, kt_255, by decide +kernel, by decide +kernel, by decide +kernel, by decide +kernel, by decide +kernel⟩
theorem kt_421 : (Jvm.Cond.code (ex_Y 165) (ex_B 165) (ex_L 165) (ex_ret 165)) ∈ ex_tb := ex_in (i := 1275) (by decide +kernel) (by decide +kernel)
theorem kw_165 : ex_Pm 165 := ⟨kt_421, kt_255, by decide +kernel, by decide +kernel, by decide +kernel, by decide +kernel, by decide +kernel⟩
theorem kt_422 : (Jvm.Cond.code (ex_Y 166) (ex_B 166) (ex_L 166) (ex_ret 166)) ∈ ex_tb := ex_in (i := 1271) (by decide +kernel) (by decide +kernel)
theorem kw_166 : ex_Pm 166 := ⟨kt_422, kt_255, by decide +kernel, by decide +kernel, by decide +kernel, by decide +kernel, by decide +kernel⟩
theorem kt_423 : (Jvm.Cond.code (ex_Y 167) (ex_B 167) (ex_L 167) (ex_ret 167)) ∈ ex_tb := ex_in (i := 1267) (by decide +kernel) (by decide +kernel)
theorem kw_167 : ex_Pm 167 := ⟨kt_423, kt_255, by decide +kernel, by decide +kernel, by decide +kernel, by decide +kernel, by decide +kernel⟩
theorem kt_424 : (Jvm.Cond.code (ex_Y 168) (ex_B 168) (ex_L 168) (ex_ret 168)) ∈ ex_tb := ex_in (i := 1279) (by decide +kernel) (by decide +kernel)
theorem kw_168 : ex_Pm 168 := ⟨kt_424, kt_255, by decide +kernel, by decide +kernel, by decide +kernel, by decide +kernel, by decide +kernel⟩
theorem kt_425 : (Jvm.Cond.code (ex_Y 169) (ex_B 169) (ex_L 169) (ex_ret 169)) ∈ ex_tb := ex_in (i := 1291) (by decide +kernel) (by decide +kernel)
theorem kw_169 : ex_Pm 169 := ⟨kt_425, kt_255, by decide +kernel, by decide +kernel, by decide +kernel, by decide +kernel, by decide +kernel⟩
theorem kt_426 : (Jvm.Cond.code (ex_Y 170) (ex_B 170) (ex_L 170) (ex_ret 170)) ∈ ex_tb := ex_in (i := 1287) (by decide +kernel) (by decide +kernel)
theorem kw_170 : ex_Pm 170 := ⟨kt_426, kt_255, by decide +kernel, by decide +kernel, by decide +kernel, by decide +kernel, by decide +kernel⟩
theorem kt_427 : (Jvm.Cond.code (ex_Y 171) (ex_B 171) (ex_L 171) (ex_ret 171)) ∈ ex_tb := ex_in (i := 1332) (by decide +kernel) (by decide +kernel)
theorem kw_171 : ex_Pm 171 := ⟨kt_427, kt_255, by decide +kernel, by decide +kernel, by decide +kernel, by decide +kernel, by decide +kernel⟩
theorem kt_428 : (Jvm.Cond.code (ex_Y 172) (ex_B 172) (ex_L 172) (ex_ret 172)) ∈ ex_tb := ex_in (i := 1299) (by decide +kernel) (by decide +kernel)
theorem kw_172 : ex_Pm 172 := ⟨kt_428, kt_255, by decide +kernel, by decide +kernel, by decide +kernel, by decide +kernel, by decide +kernel⟩
theorem kt_429 : (Jvm.Cond.code (ex_Y 173) (ex_B 173) (ex_L 173) (ex_ret 173)) ∈ ex_tb := ex_in (i := 1315) (by decide +kernel) (by decide +kernel)
theorem kw_173 : ex_Pm 173 := ⟨kt_429, kt_255, by decide +kernel, by decide +kernel, by decide +kernel, by decide +kernel, by decide +kernel⟩
theorem kt_430 : (Jvm.Cond.code (ex_Y 174) (ex_B 174) (ex_L 174) (ex_ret 174)) ∈ ex_tb := ex_in (i := 1311) (by decide +kernel) (by decide +kernel)
theorem kw_174 : ex_Pm 174 := ⟨kt_430, kt_255, by decide +kernel, by decide +kernel, by decide +kernel, by decide +kernel, by decide +kernel⟩
theorem kt_431 : (Jvm.Cond.code (ex_Y 175) (ex_B 175) (ex_L 175) (ex_ret 175)) ∈ ex_tb := ex_in (i := 1307) (by decide +kernel) (by decide +kernel)
theorem kw_175 : ex_Pm 175 := ⟨kt_431, kt_255, by decide +kernel, by decide +kernel, by decide +kernel, by decide +kernel, by decide +kernel⟩
theorem kt_432 : (Jvm.Cond.code (ex_Y 176) (ex_B 176) (ex_L 176) (ex_ret 176)) ∈ ex_tb := ex_in (i := 1303) (by decide +kernel) (by decide +kernel)
theorem kw_176 : ex_Pm 176 := ⟨kt_432, kt_255, by decide +kernel, by decide +kernel, by decide +kernel, by decide +kernel, by decide +kernel⟩
theorem kt_433 : (Jvm.Cond.code (ex_Y 177) (ex_B 177) (ex_L 177) (ex_ret 177)) ∈ ex_tb := ex_in (i := 1323) (by decide +kernel) (by decide +kernel)
theorem kw_177 : ex_Pm 177 := ⟨kt_433, kt_255, by decide +kernel, by decide +kernel, by decide +kernel, by decide +kernel, by decide +kernel⟩
theorem kt_434 : (Jvm.Cond.code (ex_Y 178) (ex_B 178) (ex_L 178) (ex_ret 178)) ∈ ex_tb := ex_in (i := 1319) (by decide +kernel) (by decide +kernel)
theorem kw_178 : ex_Pm 178 := ⟨kt_434, kt_255, by decide +kernel, by decide +kernel, by decide +kernel, by decide +kernel, by decide +kernel⟩
theorem kt_435 : (Jvm.Cond.code (ex_Y 179) (ex_B 179) (ex_L 179) (ex_ret 179)) ∈ ex_tb := ex_in (i := 1295) (by decide +kernel) (by decide +kernel)
theorem kw_179 : ex_Pm 179 := ⟨kt_435, kt_255, by decide +kernel, by decide +kernel, by decide +kernel, by decide +kernel, by decide +kernel⟩
theorem kt_436 : (Jvm.Cond.code (ex_Y 180) (ex_B 180) (ex_L 180) (ex_ret 180)) ∈ ex_tb := ex_in (i := 1283) (by decide +kernel) (by decide +kernel)
theorem kw_180 : ex_Pm 180 := ⟨kt_436, kt_255, by decide +kernel, by decide +kernel, by decide +kernel, by decide +kernel, by decide +kernel⟩
theorem kt_437 : (Jvm.Cond.code (ex_Y 181) (ex_B 181) (ex_L 181) (ex_ret 181)) ∈ ex_tb := ex_in (i := 1339) (by decide +kernel) (by decide +kernel)
theorem kw_181 : ex_Pm 181 := ⟨kt_437, kt_255, by decide +kernel, by decide +kernel, by decide +kernel, by decide +kernel, by decide +kernel⟩
theorem kt_438 : (Jvm.Cond.code (ex_Y 182) (ex_B 182) (ex_L 182) (ex_ret 182)) ∈ ex_tb := ex_in (i := 1335) (by decide +kernel) (by decide +kernel)
theorem kw_182 : ex_Pm 182 := ⟨kt_438, kt_255, by decide +kernel, by decide +kernel, by decide +kernel, by decide +kernel, by decide +kernel⟩
theorem kt_439 : (Jvm.Cond.code (ex_Y 183) (ex_B 183) (ex_L 183) (ex_ret 183)) ∈ ex_tb := ex_in (i := 1328) (by decide +kernel) (by decide +kernel)
theorem kw_183 : ex_Pm 183 := ⟨kt_439, kt_255, by decide +kernel, by decide +kernel, by decide +kernel, by decide +kernel, by decide +kernel⟩
theorem kt_440 : (Jvm.Cond.code (ex_Y 184) (ex_B 184) (ex_L 184) (ex_ret 184)) ∈ ex_tb := ex_in (i := 1354) (by decide +kernel) (by decide +kernel)
theorem kw_184 : ex_Pm 184 := ⟨kt_440, kt_255, by decide +kernel, by decide +kernel, by decide +kernel, by decide +kernel, by decide +kernel⟩
theorem kt_441 : (Jvm.Cond.code (ex_Y 185) (ex_B 185) (ex_L 185) (ex_ret 185)) ∈ ex_tb := ex_in (i := 1358) (by decide +kernel) (by decide +kernel)
theorem kw_185 : ex_Pm 185 := ⟨kt_441, kt_255, by decide +kernel, by decide +kernel, by decide +kernel, by decide +kernel, by decide +kernel⟩
theorem kt_442 : (Jvm.Cond.code (ex_Y 186) (ex_B 186) (ex_L 186) (ex_ret 186)) ∈ ex_tb := ex_in (i := 1350) (by decide +kernel) (by decide +kernel)
theorem kw_186 : ex_Pm 186 := ⟨kt_442, kt_255, by decide +kernel, by decide +kernel, by decide +kernel, by decide +kernel, by decide +kernel⟩
theorem kt_443 : (Jvm.Cond.code (ex_Y 187) (ex_B 187) (ex_L 187) (ex_ret 187)) ∈ ex_tb := ex_in (i := 1346) (by decide +kernel) (by decide +kernel)
theorem kw_187 : ex_Pm 187 := ⟨kt_443, kt_255, by decide +kernel, by decide +kernel, by decide +kernel, by decide +kernel, by decide +kernel⟩
theorem kt_444 : (Jvm.Cond.code (ex_Y 188) (ex_B 188) (ex_L 188) (ex_ret 188)) ∈ ex_tb := ex_in (i := 1343) (by decide +kernel) (by decide +kernel)
theorem kw_188 : ex_Pm 188 := ⟨kt_444, kt_255, by decide +kernel, by decide +kernel, by decide +kernel, by decide +kernel, by decide +kernel⟩
theorem kt_445 : (Jvm.Cond.code (ex_Y 189) (ex_B 189) (ex_L 189) (ex_ret 189)) ∈ ex_tb := ex_in (i := 1362) (by decide +kernel) (by decide +kernel)
theorem kw_189 : ex_Pm 189 := ⟨kt_445, kt_255, by decide +kernel, by decide +kernel, by decide +kernel, by decide +kernel, by decide +kernel⟩
theorem kt_446 : (Jvm.Cond.code (ex_Y 190) (ex_B 190) (ex_L 190) (ex_ret 190)) ∈ ex_tb := ex_in (i := 1370) (by decide +kernel) (by decide +kernel)
theorem kw_190 : ex_Pm 190 := ⟨kt_446, kt_255, by decide +kernel, by decide +kernel, by decide +kernel, by decide +kernel, by decide +kernel⟩
theorem kt_447 : (Jvm.Cond.code (ex_Y 191) (ex_B 191) (ex_L 191) (ex_ret 191)) ∈ ex_tb := ex_in (i := 1373) (by decide +kernel) (by decide +kernel)
theorem kw_191 : ex_Pm 191 := ⟨kt_447, kt_255, by decide +kernel, by decide +kernel, by decide +kernel, by decide +kernel, by decide +kernel⟩
theorem kt_448 : (Jvm.Cond.code (ex_Y 192) (ex_B 192) (ex_L 192) (ex_ret 192)) ∈ ex_tb := ex_in (i := 1366) (by decide +kernel) (by decide +kernel)
theorem kw_192 : ex_Pm 192 := ⟨kt_448, kt_255, by decide +kernel, by decide +kernel, by decide +kernel, by decide +kernel, by decide +kernel⟩
theorem kt_449 : (Jvm.Cond.code (ex_Y 193) (ex_B 193) (ex_L 193) (ex_ret 193)) ∈ ex_tb := ex_in (i := 1377) (by decide +kernel) (by decide +kernel)
theorem kw_193 : ex_Pm 193 := ⟨kt_449, kt_255, by decide +kernel, by decide +kernel, by decide +kernel, by decide +kernel, by decide +kernel⟩
theorem kt_450 : (Jvm.Cond.code (ex_Y 194) (ex_B 194) (ex_L 194) (ex_ret 194)) ∈ ex_tb := ex_in (i := 1385) (by decide +kernel) (by decide +kernel)
theorem kw_194 : ex_Pm 194 := ⟨kt_450, kt_255, by decide +kernel, by decide +kernel, by decide +kernel, by decide +kernel, by decide +kernel⟩
theorem kt_451 : (Jvm.Cond.code (ex_Y 195) (ex_B 195) (ex_L 195) (ex_ret 195)) ∈ ex_tb := ex_in (i := 1396) (by decide +kernel) (by decide +kernel)
theorem kw_195 : ex_Pm 195 := ⟨kt_451, kt_255, by decide +kernel, by decide +kernel, by decide +kernel, by decide +kernel, by decide +kernel⟩
theorem kt_452 : (Jvm.Cond.code (ex_Y 196) (ex_B 196) (ex_L 196) (ex_ret 196)) ∈ ex_tb := ex_in (i := 1408) (by decide +kernel) (by decide +kernel)
theorem kw_196 : ex_Pm 196 := ⟨kt_452, kt_255, by decide +kernel, by decide +kernel, by decide +kernel, by decide +kernel, by decide +kernel⟩
theorem kt_453 : (Jvm.Cond.code (ex_Y 197) (ex_B 197) (ex_L 197) (ex_ret 197)) ∈ ex_tb := ex_in (i := 1404) (by decide +kernel) (by decide +kernel)
theorem kw_197 : ex_Pm 197 := ⟨kt_453, kt_255, by decide +kernel, by decide +kernel, by decide +kernel, by decide +kernel, by decide +kernel⟩
theorem kt_454 : (Jvm.Cond.code (ex_Y 198) (ex_B 198) (ex_L 198) (ex_ret 198)) ∈ ex_tb := ex_in (i := 1400) (by decide +kernel) (by decide +kernel)
theorem kw_198 : ex_Pm 198 := ⟨kt_454, kt_255, by decide +kernel, by decide +kernel, by decide +kernel, by decide +kernel, by decide +kernel⟩
theorem kt_455 : (Jvm.Cond.code (ex_Y 199) (ex_B 199) (ex_L 199) (ex_ret 199)) ∈ ex_tb := ex_in (i := 1388) (by decide +kernel) (by decide +kernel)
theorem kw_199 : ex_Pm 199 := ⟨kt_455, kt_255, by decide +kernel, by decide +kernel, by decide +kernel, by decide +kernel, by decide +kernel⟩
theorem kt_456 : (Jvm.Cond.code (ex_Y 200) (ex_B 200) (ex_L 200) (ex_ret 200)) ∈ ex_tb := ex_in (i := 1381) (by decide +kernel) (by decide +kernel)
theorem kw_200 : ex_Pm 200 := ⟨kt_456, kt_255, by decide +kernel, by decide +kernel, by decide +kernel, by decide +kernel, by decide +kernel⟩
theorem kt_457 : (Jvm.Cond.code (ex_Y 201) (ex_B 201) (ex_L 201) (ex_ret 201)) ∈ ex_tb := ex_in (i := 1392) (by decide +kernel) (by decide +kernel)
theorem kw_201 : ex_Pm 201 := ⟨kt_457, kt_255, by decide +kernel, by decide +kernel, by decide +kernel, by decide +kernel, by decide +kernel⟩
theorem kt_458 : (Jvm.Cond.code (ex_Y 202) (ex_B 202) (ex_L 202) (ex_ret 202)) ∈ ex_tb := ex_in (i := 1416) (by decide +kernel) (by decide +kernel)
theorem kw_202 : ex_Pm 202 := ⟨kt_458, kt_255, by decide +kernel, by decide +kernel, by decide +kernel, by decide +kernel, by decide +kernel⟩
theorem kt_459 : (Jvm.Cond.code (ex_Y 203) (ex_B 203) (ex_L 203) (ex_ret 203)) ∈ ex_tb := ex_in (i := 1412) (by decide +kernel) (by decide +kernel)
theorem kw_203 : ex_Pm 203 := ⟨kt_459, kt_255, by decide +kernel, by decide +kernel, by decide +kernel, by decide +kernel, by decide +kernel⟩
theorem kt_460 : (Jvm.Cond.code (ex_Y 204) (ex_B 204) (ex_L 204) (ex_ret 204)) ∈ ex_tb := ex_in (i := 1424) (by decide +kernel) (by decide +kernel)
theorem kw_204 : ex_Pm 204 := ⟨kt_460, kt_255, by decide +kernel, by decide +kernel, by decide +kernel, by decide +kernel, by decide +kernel⟩
theorem kt_461 : (Jvm.Cond.code (ex_Y 205) (ex_B 205) (ex_L 205) (ex_ret 205)) ∈ ex_tb := ex_in (i := 1420) (by decide +kernel) (by decide +kernel)
theorem kw_205 : ex_Pm 205 := ⟨kt_461, kt_255, by decide +kernel, by decide +kernel, by decide +kernel, by decide +kernel, by decide +kernel⟩
theorem kt_462 : (Jvm.Cond.code (ex_Y 206) (ex_B 206) (ex_L 206) (ex_ret 206)) ∈ ex_tb := ex_in (i := 1428) (by decide +kernel) (by decide +kernel)
theorem kw_206 : ex_Pm 206 := ⟨kt_462, kt_255, by decide +kernel, by decide +kernel, by decide +kernel, by decide +kernel, by decide +kernel⟩
theorem kt_463 : (Jvm.Cond.code (ex_Y 207) (ex_B 207) (ex_L 207) (ex_ret 207)) ∈ ex_tb := ex_in (i := 1432) (by decide +kernel) (by decide +kernel)
theorem kw_207 : ex_Pm 207 := ⟨kt_463, kt_255, by decide +kernel, by decide +kernel, by decide +kernel, by decide +kernel, by decide +kernel⟩
theorem kt_464 : (Jvm.Cond.code (ex_Y 208) (ex_B 208) (ex_L 208) (ex_ret 208)) ∈ ex_tb := ex_in (i := 1448) (by decide +kernel) (by decide +kernel)
theorem kw_208 : ex_Pm 208 := ⟨kt_464, kt_255, by decide +kernel, by decide +kernel, by decide +kernel, by decide +kernel, by decide +kernel⟩
theorem kt_465 : (Jvm.Cond.code (ex_Y 209) (ex_B 209) (ex_L 209) (ex_ret 209)) ∈ ex_tb := ex_in (i := 1452) (by decide +kernel) (by decide +kernel)
theorem kw_209 : ex_Pm 209 := ⟨kt_465, kt_255, by decide +kernel, by decide +kernel, by decide +kernel, by decide +kernel, by decide +kernel⟩
theorem kt_466 : (Jvm.Cond.code (ex_Y 210) (ex_B 210) (ex_L 210) (ex_ret 210)) ∈ ex_tb := ex_in (i := 1456) (by decide +kernel) (by decide +kernel)
theorem kw_210 : ex_Pm 210 := ⟨kt_466, kt_255, by decide +kernel, by decide +kernel, by decide +kernel, by decide +kernel, by decide +kernel⟩
theorem kt_467 : (Jvm.Cond.code (ex_Y 211) (ex_B 211) (ex_L 211) (ex_ret 211)) ∈ ex_tb := ex_in (i := 1444) (by decide +kernel) (by decide +kernel)
theorem kw_211 : ex_Pm 211 := ⟨kt_467, kt_255, by decide +kernel, by decide +kernel, by decide +kernel, by decide +kernel, by decide +kernel⟩
theorem kt_468 : (Jvm.Cond.code (ex_Y 212) (ex_B 212) (ex_L 212) (ex_ret 212)) ∈ ex_tb := ex_in (i := 1440) (by decide +kernel) (by decide +kernel)
theorem kw_212 : ex_Pm 212 := ⟨kt_468, kt_255, by decide +kernel, by decide +kernel, by decide +kernel, by decide +kernel, by decide +kernel⟩
theorem kt_469 : (Jvm.Cond.code (ex_Y 213) (ex_B 213) (ex_L 213) (ex_ret 213)) ∈ ex_tb := ex_in (i := 1436) (by decide +kernel) (by decide +kernel)
theorem kw_213 : ex_Pm 213 := ⟨kt_469, kt_255, by decide +kernel, by decide +kernel, by decide +kernel, by decide +kernel, by decide +kernel⟩
theorem kt_470 : (Jvm.Cond.code (ex_Y 214) (ex_B 214) (ex_L 214) (ex_ret 214)) ∈ ex_tb := ex_in (i := 1468) (by decide +kernel) (by decide +kernel)
theorem kw_214 : ex_Pm 214 := ⟨kt_470, kt_255, by decide +kernel, by decide +kernel, by decide +kernel, by decide +kernel, by decide +kernel⟩
theorem kt_471 : (Jvm.Cond.code (ex_Y 215) (ex_B 215) (ex_L 215) (ex_ret 215)) ∈ ex_tb := ex_in (i := 1476) (by decide +kernel) (by decide +kernel)
theorem kw_215 : ex_Pm 215 := ⟨kt_471, kt_255, by decide +kernel, by decide +kernel, by decide +kernel, by decide +kernel, by decide +kernel⟩
theorem kt_472 : (Jvm.Cond.code (ex_Y 216) (ex_B 216) (ex_L 216) (ex_ret 216)) ∈ ex_tb := ex_in (i := 1472) (by decide +kernel) (by decide +kernel)
theorem kw_216 : ex_Pm 216 := ⟨kt_472, kt_255, by decide +kernel, by decide +kernel, by decide +kernel, by decide +kernel, by decide +kernel⟩
theorem kt_473 : (Jvm.Cond.code (ex_Y 217) (ex_B 217) (ex_L 217) (ex_ret 217)) ∈ ex_tb := ex_in (i := 1484) (by decide +kernel) (by decide +kernel)
theorem kw_217 : ex_Pm 217 := ⟨kt_473, kt_255, by decide +kernel, by decide +kernel, by decide +kernel, by decide +kernel, by decide +kernel⟩
theorem kt_474 : (Jvm.Cond.code (ex_Y 218) (ex_B 218) (ex_L 218) (ex_ret 218)) ∈ ex_tb := ex_in (i := 1480) (by decide +kernel) (by decide +kernel)
theorem kw_218 : ex_Pm 218 := ⟨kt_474, kt_255, by decide +kernel, by decide +kernel, by decide +kernel, by decide +kernel, by decide +kernel⟩
theorem kt_475 : (Jvm.Cond.code (ex_Y 219) (ex_B 219) (ex_L 219) (ex_ret 219)) ∈ ex_tb := ex_in (i := 1464) (by decide +kernel) (by decide +kernel)
theorem kw_219 : ex_Pm 219 := ⟨kt_475, kt_255, by decide +kernel, by decide +kernel, by decide +kernel, by decide +kernel, by decide +kernel⟩
theorem kt_476 : (Jvm.Cond.code (ex_Y 220) (ex_B 220) (ex_L 220) (ex_ret 220)) ∈ ex_tb := ex_in (i := 1460) (by decide +kernel) (by decide +kernel)
theorem kw_220 : ex_Pm 220 := ⟨kt_476, kt_255, by decide +kernel, by decide +kernel, by decide +kernel, by decide +kernel, by decide +kernel⟩
theorem kt_477 : (Jvm.Cond.code (ex_Y 221) (ex_B 221) (ex_L 221) (ex_ret 221)) ∈ ex_tb := ex_in (i := 1488) (by decide +kernel) (by decide +kernel)
theorem kw_221 : ex_Pm 221 := ⟨kt_477, kt_255, by decide +kernel, by decide +kernel, by decide +kernel, by decide +kernel, by decide +kernel⟩
theorem kt_478 : (Jvm.Cond.code (ex_Y 222) (ex_B 222) (ex_L 222) (ex_ret 222)) ∈ ex_tb := ex_in (i := 1492) (by decide +kernel) (by decide +kernel)
theorem kw_222 : ex_Pm 222 := ⟨kt_478, kt_255, by decide +kernel, by decide +kernel, by decide +kernel, by decide +kernel, by decide +kernel⟩
theorem kt_479 : (Jvm.Cond.code (ex_Y 223) (ex_B 223) (ex_L 223) (ex_ret 223)) ∈ ex_tb := ex_in (i := 1496) (by decide +kernel) (by decide +kernel)
theorem kw_223 : ex_Pm 223 := ⟨kt_479, kt_255, by decide +kernel, by decide +kernel, by decide +kernel, by decide +kernel, by decide +kernel⟩
theorem kt_480 : (Jvm.Cond.code (ex_Y 224) (ex_B 224) (ex_L 224) (ex_ret 224)) ∈ ex_tb := ex_in (i := 1500) (by decide +kernel) (by decide +kernel)
theorem kw_224 : ex_Pm 224 := ⟨kt_480, kt_255, by decide +kernel, by decide +kernel, by decide +kernel, by decide +kernel, by decide +kernel⟩
theorem kt_481 : (Jvm.Cond.code (ex_Y 225) (ex_B 225) (ex_L 225) (ex_ret 225)) ∈ ex_tb := ex_in (i := 1504) (by decide +kernel) (by decide +kernel)
theorem kw_225 : ex_Pm 225 := ⟨kt_481, kt_255, by decide +kernel, by decide +kernel, by decide +kernel, by decide +kernel, by decide +kernel⟩
theorem kt_482 : (Jvm.Cond.code (ex_Y 226) (ex_B 226) (ex_L 226) (ex_ret 226)) ∈ ex_tb := ex_in (i := 1508) (by decide +kernel) (by decide +kernel)
theorem kw_226 : ex_Pm 226 := ⟨kt_482, kt_255, by decide +kernel, by decide +kernel, by decide +kernel, by decide +kernel, by decide +kernel⟩
theorem kt_483 : (Jvm.Cond.code (ex_Y 227) (ex_B 227) (ex_L 227) (ex_ret 227)) ∈ ex_tb := ex_in (i := 1516) (by decide +kernel) (by decide +kernel)
theorem kw_227 : ex_Pm 227 := ⟨kt_483, kt_255, by decide +kernel, by decide +kernel, by decide +kernel, by decide +kernel, by decide +kernel⟩
theorem kt_484 : (Jvm.Cond.code (ex_Y 228) (ex_B 228) (ex_L 228) (ex_ret 228)) ∈ ex_tb := ex_in (i := 1512) (by decide +kernel) (by decide +kernel)
theorem kw_228 : ex_Pm 228 := ⟨kt_484, kt_255, by decide +kernel, by decide +kernel, by decide +kernel, by decide +kernel, by decide +kernel⟩
theorem kt_485 : (Jvm.Cond.code (ex_Y 229) (ex_B 229) (ex_L 229) (ex_ret 229)) ∈ ex_tb := ex_in (i := 1520) (by decide +kernel) (by decide +kernel)
theorem kw_229 : ex_Pm 229 := ⟨kt_485, kt_255, by decide +kernel, by decide +kernel, by decide +kernel, by decide +kernel, by decide +kernel⟩
theorem kt_486 : (Jvm.Cond.code (ex_Y 230) (ex_B 230) (ex_L 230) (ex_ret 230)) ∈ ex_tb := ex_in (i := 1524) (by decide +kernel) (by decide +kernel)
theorem kw_230 : ex_Pm 230 := ⟨kt_486, kt_255, by decide +kernel, by decide +kernel, by decide +kernel, by decide +kernel, by decide +kernel⟩
theorem kt_487 : (Jvm.Cond.code (ex_Y 231) (ex_B 231) (ex_L 231) (ex_ret 231)) ∈ ex_tb := ex_in (i := 1532) (by decide +kernel) (by decide +kernel)
theorem kw_231 : ex_Pm 231 := ⟨kt_487, kt_255, by decide +kernel, by decide +kernel, by decide +kernel, by decide +kernel, by decide +kernel⟩
theorem kt_488 : (Jvm.Cond.code (ex_Y 232) (ex_B 232) (ex_L 232) (ex_ret 232)) ∈ ex_tb := ex_in (i := 1528) (by decide +kernel) (by decide +kernel)
theorem kw_232 : ex_Pm 232 := ⟨kt_488, kt_255, by decide +kernel, by decide +kernel, by decide +kernel, by decide +kernel, by decide +kernel⟩
theorem kt_489 : (Jvm.Cond.code (ex_Y 233) (ex_B 233) (ex_L 233) (ex_ret 233)) ∈ ex_tb := ex_in (i := 1545) (by decide +kernel) (by decide +kernel)
theorem kw_233 : ex_Pm 233 := ⟨kt_489, kt_255, by decide +kernel, by decide +kernel, by decide +kernel, by decide +kernel, by decide +kernel⟩
theorem kt_490 : (Jvm.Cond.code (ex_Y 234) (ex_B 234) (ex_L 234) (ex_ret 234)) ∈ ex_tb := ex_in (i := 1541) (by decide +kernel) (by decide +kernel)
theorem kw_234 : ex_Pm 234 := ⟨kt_490, kt_255, by decide +kernel, by decide +kernel, by decide +kernel, by decide +kernel, by decide +kernel⟩
theorem kt_491 : (Jvm.Cond.code (ex_Y 235) (ex_B 235) (ex_L 235) (ex_ret 235)) ∈ ex_tb := ex_in (i := 1536) (by decide +kernel) (by decide +kernel)
theorem kw_235 : ex_Pm 235 := ⟨kt_491, kt_255, by decide +kernel, by decide +kernel, by decide +kernel, by decide +kernel, by decide +kernel⟩
theorem kw_all {y : Nat} (hy : y < 236) : ex_Pm y := by
  rcases Nat.eq_or_lt_of_le (show 0 ≤ y from Nat.zero_le y) with h | h0
  · subst h; exact kw_0
  rcases Nat.eq_or_lt_of_le (show 1 ≤ y from h0) with h | h1
  · subst h; exact kw_1
  rcases Nat.eq_or_lt_of_le (show 2 ≤ y from h1) with h | h2
  · subst h; exact kw_2
  rcases Nat.eq_or_lt_of_le (show 3 ≤ y from h2) with h | h3
  · subst h; exact kw_3
  rcases Nat.eq_or_lt_of_le (show 4 ≤ y from h3) with h | h4
  · subst h; exact kw_4
  rcases Nat.eq_or_lt_of_le (show 5 ≤ y from h4) with h | h5
  · subst h; exact kw_5
  rcases Nat.eq_or_lt_of_le (show 6 ≤ y from h5) with h | h6
  · subst h; exact kw_6
  rcases Nat.eq_or_lt_of_le (show 7 ≤ y from h6) with h | h7
  · subst h; exact kw_7
  rcases Nat.eq_or_lt_of_le (show 8 ≤ y from h7) with h | h8
  · subst h; exact kw_8
  rcases Nat.eq_or_lt_of_le (show 9 ≤ y from h8) with h | h9
  · subst h; exact kw_9
  rcases Nat.eq_or_lt_of_le (show 10 ≤ y from h9) with h | h10
  · subst h; exact kw_10
  rcases Nat.eq_or_lt_of_le (show 11 ≤ y from h10) with h | h11
  · subst h; exact kw_11
  rcases Nat.eq_or_lt_of_le (show 12 ≤ y from h11) with h | h12
  · subst h; exact kw_12
  rcases Nat.eq_or_lt_of_le (show 13 ≤ y from h12) with h | h13
  · subst h; exact kw_13
  rcases Nat.eq_or_lt_of_le (show 14 ≤ y from h13) with h | h14
  · subst h; exact kw_14
  rcases Nat.eq_or_lt_of_le (show 15 ≤ y from h14) with h | h15
  · subst h; exact kw_15
  rcases Nat.eq_or_lt_of_le (show 16 ≤ y from h15) with h | h16
  · subst h; exact kw_16
  rcases Nat.eq_or_lt_of_le (show 17 ≤ y from h16) with h | h17
  · subst h; exact kw_17
  rcases Nat.eq_or_lt_of_le (show 18 ≤ y from h17) with h | h18
  · subst h; exact kw_18
  rcases Nat.eq_or_lt_of_le (show 19 ≤ y from h18) with h | h19
  · subst h; exact kw_19
  rcases Nat.eq_or_lt_of_le (show 20 ≤ y from h19) with h | h20
  · subst h; exact kw_20
  rcases Nat.eq_or_lt_of_le (show 21 ≤ y from h20) with h | h21
  · subst h; exact kw_21
  rcases Nat.eq_or_lt_of_le (show 22 ≤ y from h21) with h | h22
  · subst h; exact kw_22
  rcases Nat.eq_or_lt_of_le (show 23 ≤ y from h22) with h | h23
  · subst h; exact kw_23
  rcases Nat.eq_or_lt_of_le (show 24 ≤ y from h23) with h | h24
  · subst h; exact kw_24
  rcases Nat.eq_or_lt_of_le (show 25 ≤ y from h24) with h | h25
  · subst h; exact kw_25
  rcases Nat.eq_or_lt_of_le (show 26 ≤ y from h25) with h | h26
  · subst h; exact kw_26
  rcases Nat.eq_or_lt_of_le (show 27 ≤ y from h26) with h | h27
  · subst h; exact kw_27
  rcases Nat.eq_or_lt_of_le (show 28 ≤ y from h27) with h | h28
  · subst h; exact kw_28
  rcases Nat.eq_or_lt_of_le (show 29 ≤ y from h28) with h | h29
  · subst h; exact kw_29
  rcases Nat.eq_or_lt_of_le (show 30 ≤ y from h29) with h | h30
  · subst h; exact kw_30
  rcases Nat.eq_or_lt_of_le (show 31 ≤ y from h30) with h | h31
  · subst h; exact kw_31
  rcases Nat.eq_or_lt_of_le (show 32 ≤ y from h31) with h | h32
  · subst h; exact kw_32
  rcases Nat.eq_or_lt_of_le (show 33 ≤ y from h32) with h | h33
  · subst h; exact kw_33
  rcases Nat.eq_or_lt_of_le (show 34 ≤ y from h33) with h | h34
  · subst h; exact kw_34
  rcases Nat.eq_or_lt_of_le (show 35 ≤ y from h34) with h | h35
  · subst h; exact kw_35
  rcases Nat.eq_or_lt_of_le (show 36 ≤ y from h35) with h | h36
  · subst h; exact kw_36
  rcases Nat.eq_or_lt_of_le (show 37 ≤ y from h36) with h | h37
  · subst h; exact kw_37
  rcases Nat.eq_or_lt_of_le (show 38 ≤ y from h37) with h | h38
  · subst h; exact kw_38
  rcases Nat.eq_or_lt_of_le (show 39 ≤ y from h38) with h | h39
  · subst h; exact kw_39
  rcases Nat.eq_or_lt_of_le (show 40 ≤ y from h39) with h | h40
  · subst h; exact kw_40
  rcases Nat.eq_or_lt_of_le (show 41 ≤ y from h40) with h | h41
  · subst h; exact kw_41
  rcases Nat.eq_or_lt_of_le (show 42 ≤ y from h41) with h | h42
  · subst h; exact kw_42
  rcases Nat.eq_or_lt_of_le (show 43 ≤ y from h42) with h | h43
  · subst h; exact kw_43
  rcases Nat.eq_or_lt_of_le (show 44 ≤ y from h43) with h | h44
  · subst h; exact kw_44
  rcases Nat.eq_or_lt_of_le (show 45 ≤ y from h44) with h | h45
  · subst h; exact kw_45
  rcases Nat.eq_or_lt_of_le (show 46 ≤ y from h45) with h | h46
  · subst h; exact kw_46
  rcases Nat.eq_or_lt_of_le (show 47 ≤ y from h46) with h | h47
  · subst h; exact kw_47
  rcases Nat.eq_or_lt_of_le (show 48 ≤ y from h47) with h | h48
  · subst h; exact kw_48
  rcases Nat.eq_or_lt_of_le (show 49 ≤ y from h48) with h | h49
  · subst h; exact kw_49
  rcases Nat.eq_or_lt_of_le (show 50 ≤ y from h49) with h | h50
  · subst h; exact kw_50
  rcases Nat.eq_or_lt_of_le (show 51 ≤ y from h50) with h | h51
  · subst h; exact kw_51
  rcases Nat.eq_or_lt_of_le (show 52 ≤ y from h51) with h | h52
  · subst h; exact kw_52
  rcases Nat.eq_or_lt_of_le (show 53 ≤ y from h52) with h | h53
  · subst h; exact kw_53
  rcases Nat.eq_or_lt_of_le (show 54 ≤ y from h53) with h | h54
  · subst h; exact kw_54
  rcases Nat.eq_or_lt_of_le (show 55 ≤ y from h54) with h | h55
  · subst h; exact kw_55
  rcases Nat.eq_or_lt_of_le (show 56 ≤ y from h55) with h | h56
  · subst h; exact kw_56
  rcases Nat.eq_or_lt_of_le (show 57 ≤ y from h56) with h | h57
  · subst h; exact kw_57
  rcases Nat.eq_or_lt_of_le (show 58 ≤ y from h57) with h | h58
  · subst h; exact kw_58
  rcases Nat.eq_or_lt_of_le (show 59 ≤ y from h58) with h | h59
  · subst h; exact kw_59
  rcases Nat.eq_or_lt_of_le (show 60 ≤ y from h59) with h | h60
  · subst h; exact kw_60
  rcases Nat.eq_or_lt_of_le (show 61 ≤ y from h60) with h | h61
  · subst h; exact kw_61
  rcases Nat.eq_or_lt_of_le (show 62 ≤ y from h61) with h | h62
  · subst h; exact kw_62
  rcases Nat.eq_or_lt_of_le (show 63 ≤ y from h62) with h | h63
  · subst h; exact kw_63
  rcases Nat.eq_or_lt_of_le (show 64 ≤ y from h63) with h | h64
  · subst h; exact kw_64
  rcases Nat.eq_or_lt_of_le (show 65 ≤ y from h64) with h | h65
  · subst h; exact kw_65
  rcases Nat.eq_or_lt_of_le (show 66 ≤ y from h65) with h | h66
  · subst h; exact kw_66
  rcases Nat.eq_or_lt_of_le (show 67 ≤ y from h66) with h | h67
  · subst h; exact kw_67
  rcases Nat.eq_or_lt_of_le (show 68 ≤ y from h67) with h | h68
  · subst h; exact kw_68
  rcases Nat.eq_or_lt_of_le (show 69 ≤ y from h68) with h | h69
  · subst h; exact kw_69
  rcases Nat.eq_or_lt_of_le (show 70 ≤ y from h69) with h | h70
  · subst h; exact kw_70
  rcases Nat.eq_or_lt_of_le (show 71 ≤ y from h70) with h | h71
  · subst h; exact kw_71
  rcases Nat.eq_or_lt_of_le (show 72 ≤ y from h71) with h | h72
  · subst h; exact kw_72
  rcases Nat.eq_or_lt_of_le (show 73 ≤ y from h72) with h | h73
  · subst h; exact kw_73
  rcases Nat.eq_or_lt_of_le (show 74 ≤ y from h73) with h | h74
  · subst h; exact kw_74
  rcases Nat.eq_or_lt_of_le (show 75 ≤ y from h74) with h | h75
  · subst h; exact kw_75
  rcases Nat.eq_or_lt_of_le (show 76 ≤ y from h75) with h | h76
  · subst h; exact kw_76
  rcases Nat.eq_or_lt_of_le (show 77 ≤ y from h76) with h | h77
  · subst h; exact kw_77
  rcases Nat.eq_or_lt_of_le (show 78 ≤ y from h77) with h | h78
  · subst h; exact kw_78
  rcases Nat.eq_or_lt_of_le (show 79 ≤ y from h78) with h | h79
  · subst h; exact kw_79
  rcases Nat.eq_or_lt_of_le (show 80 ≤ y from h79) with h | h80
  · subst h; exact kw_80
  rcases Nat.eq_or_lt_of_le (show 81 ≤ y from h80) with h | h81
  · subst h; exact kw_81
  rcases Nat.eq_or_lt_of_le (show 82 ≤ y from h81) with h | h82
  · subst h; exact kw_82
  rcases Nat.eq_or_lt_of_le (show 83 ≤ y from h82) with h | h83
  · subst h; exact kw_83
  rcases Nat.eq_or_lt_of_le (show 84 ≤ y from h83) with h | h84
  · subst h; exact kw_84
  rcases Nat.eq_or_lt_of_le (show 85 ≤ y from h84) with h | h85
  · subst h; exact kw_85
  rcases Nat.eq_or_lt_of_le (show 86 ≤ y from h85) with h | h86
  · subst h; exact kw_86
  rcases Nat.eq_or_lt_of_le (show 87 ≤ y from h86) with h | h87
  · subst h; exact kw_87
  rcases Nat.eq_or_lt_of_le (show 88 ≤ y from h87) with h | h88
  · subst h; exact kw_88
  rcases Nat.eq_or_lt_of_le (show 89 ≤ y from h88) with h | h89
  · subst h; exact kw_89
  rcases Nat.eq_or_lt_of_le (show 90 ≤ y from h89) with h | h90
  · subst h; exact kw_90
  rcases Nat.eq_or_lt_of_le (show 91 ≤ y from h90) with h | h91
  · subst h; exact kw_91
  rcases Nat.eq_or_lt_of_le (show 92 ≤ y from h91) with h | h92
  · subst h; exact kw_92
  rcases Nat.eq_or_lt_of_le (show 93 ≤ y from h92) with h | h93
  · subst h; exact kw_93
  rcases Nat.eq_or_lt_of_le (show 94 ≤ y from h93) with h | h94
  · subst h; exact kw_94
  rcases Nat.eq_or_lt_of_le (show 95 ≤ y from h94) with h | h95
  · subst h; exact kw_95
  rcases Nat.eq_or_lt_of_le (show 96 ≤ y from h95) with h | h96
  · subst h; exact kw_96
  rcases Nat.eq_or_lt_of_le (show 97 ≤ y from h96) with h | h97
  · subst h; exact kw_97
  rcases Nat.eq_or_lt_of_le (show 98 ≤ y from h97) with h | h98
  · subst h; exact kw_98
  rcases Nat.eq_or_lt_of_le (show 99 ≤ y from h98) with h | h99
  · subst h; exact kw_99
  rcases Nat.eq_or_lt_of_le (show 100 ≤ y from h99) with h | h100
  · subst h; exact kw_100
  rcases Nat.eq_or_lt_of_le (show 101 ≤ y from h100) with h | h101
  · subst h; exact kw_101
  rcases Nat.eq_or_lt_of_le (show 102 ≤ y from h101) with h | h102
  · subst h; exact kw_102
  rcases Nat.eq_or_lt_of_le (show 103 ≤ y from h102) with h | h103
  · subst h; exact kw_103
  rcases Nat.eq_or_lt_of_le (show 104 ≤ y from h103) with h | h104
  · subst h; exact kw_104
  rcases Nat.eq_or_lt_of_le (show 105 ≤ y from h104) with h | h105
  · subst h; exact kw_105
  rcases Nat.eq_or_lt_of_le (show 106 ≤ y from h105) with h | h106
  · subst h; exact kw_106
  rcases Nat.eq_or_lt_of_le (show 107 ≤ y from h106) with h | h107
  · subst h; exact kw_107
  rcases Nat.eq_or_lt_of_le (show 108 ≤ y from h107) with h | h108
  · subst h; exact kw_108
  rcases Nat.eq_or_lt_of_le (show 109 ≤ y from h108) with h | h109
  · subst h; exact kw_109
  rcases Nat.eq_or_lt_of_le (show 110 ≤ y from h109) with h | h110
  · subst h; exact kw_110
  rcases Nat.eq_or_lt_of_le (show 111 ≤ y from h110) with h | h111
  · subst h; exact kw_111
  rcases Nat.eq_or_lt_of_le (show 112 ≤ y from h111) with h | h112
  · subst h; exact kw_112
  rcases Nat.eq_or_lt_of_le (show 113 ≤ y from h112) with h | h113
  · subst h; exact kw_113
  rcases Nat.eq_or_lt_of_le (show 114 ≤ y from h113) with h | h114
  · subst h; exact kw_114
  rcases Nat.eq_or_lt_of_le (show 115 ≤ y from h114) with h | h115
  · subst h; exact kw_115
  rcases Nat.eq_or_lt_of_le (show 116 ≤ y from h115) with h | h116
  · subst h; exact kw_116
  rcases Nat.eq_or_lt_of_le (show 117 ≤ y from h116) with h | h117
  · subst h; exact kw_117
  rcases Nat.eq_or_lt_of_le (show 118 ≤ y from h117) with h | h118
  · subst h; exact kw_118
  rcases Nat.eq_or_lt_of_le (show 119 ≤ y from h118) with h | h119
  · subst h; exact kw_119
  rcases Nat.eq_or_lt_of_le (show 120 ≤ y from h119) with h | h120
  · subst h; exact kw_120
  rcases Nat.eq_or_lt_of_le (show 121 ≤ y from h120) with h | h121
  · subst h; exact kw_121
  rcases Nat.eq_or_lt_of_le (show 122 ≤ y from h121) with h | h122
  · subst h; exact kw_122
  rcases Nat.eq_or_lt_of_le (show 123 ≤ y from h122) with h | h123
  · subst h; exact kw_123
  rcases Nat.eq_or_lt_of_le (show 124 ≤ y from h123) with h | h124
  · subst h; exact kw_124
  rcases Nat.eq_or_lt_of_le (show 125 ≤ y from h124) with h | h125
  · subst h; exact kw_125
  rcases Nat.eq_or_lt_of_le (show 126 ≤ y from h125) with h | h126
  · subst h; exact kw_126
  rcases Nat.eq_or_lt_of_le (show 127 ≤ y from h126) with h | h127
  · subst h; exact kw_127
  rcases Nat.eq_or_lt_of_le (show 128 ≤ y from h127) with h | h128
  · subst h; exact kw_128
  rcases Nat.eq_or_lt_of_le (show 129 ≤ y from h128) with h | h129
  · subst h; exact kw_129
  rcases Nat.eq_or_lt_of_le (show 130 ≤ y from h129) with h | h130
  · subst h; exact kw_130
  rcases Nat.eq_or_lt_of_le (show 131 ≤ y from h130) with h | h131
  · subst h; exact kw_131
  rcases Nat.eq_or_lt_of_le (show 132 ≤ y from h131) with h | h132
  · subst h; exact kw_132
  rcases Nat.eq_or_lt_of_le (show 133 ≤ y from h132) with h | h133
  · subst h; exact kw_133
  rcases Nat.eq_or_lt_of_le (show 134 ≤ y from h133) with h | h134
  · subst h; exact kw_134
  rcases Nat.eq_or_lt_of_le (show 135 ≤ y from h134) with h | h135
  · subst h; exact kw_135
  rcases Nat.eq_or_lt_of_le (show 136 ≤ y from h135) with h | h136
  · subst h; exact kw_136
  rcases Nat.eq_or_lt_of_le (show 137 ≤ y from h136) with h | h137
  · subst h; exact kw_137
  rcases Nat.eq_or_lt_of_le (show 138 ≤ y from h137) with h | h138
  · subst h; exact kw_138
  rcases Nat.eq_or_lt_of_le (show 139 ≤ y from h138) with h | h139
  · subst h; exact kw_139
  rcases Nat.eq_or_lt_of_le (show 140 ≤ y from h139) with h | h140
  · subst h; exact kw_140
  rcases Nat.eq_or_lt_of_le (show 141 ≤ y from h140) with h | h141
  · subst h; exact kw_141
  rcases Nat.eq_or_lt_of_le (show 142 ≤ y from h141) with h | h142
  · subst h; exact kw_142
  rcases Nat.eq_or_lt_of_le (show 143 ≤ y from h142) with h | h143
  · subst h; exact kw_143
  rcases Nat.eq_or_lt_of_le (show 144 ≤ y from h143) with h | h144
  · subst h; exact kw_144
  rcases Nat.eq_or_lt_of_le (show 145 ≤ y from h144) with h | h145
  · subst h; exact kw_145
  rcases Nat.eq_or_lt_of_le (show 146 ≤ y from h145) with h | h146
  · subst h; exact kw_146
  rcases Nat.eq_or_lt_of_le (show 147 ≤ y from h146) with h | h147
  · subst h; exact kw_147
  rcases Nat.eq_or_lt_of_le (show 148 ≤ y from h147) with h | h148
  · subst h; exact kw_148
  rcases Nat.eq_or_lt_of_le (show 149 ≤ y from h148) with h | h149
  · subst h; exact kw_149
  rcases Nat.eq_or_lt_of_le (show 150 ≤ y from h149) with h | h150
  · subst h; exact kw_150
  rcases Nat.eq_or_lt_of_le (show 151 ≤ y from h150) with h | h151
  · subst h; exact kw_151
  rcases Nat.eq_or_lt_of_le (show 152 ≤ y from h151) with h | h152
  · subst h; exact kw_152
  rcases Nat.eq_or_lt_of_le (show 153 ≤ y from h152) with h | h153
  · subst h; exact kw_153
  rcases Nat.eq_or_lt_of_le (show 154 ≤ y from h153) with h | h154
  · subst h; exact kw_154
  rcases Nat.eq_or_lt_of_le (show 155 ≤ y from h154) with h | h155
  · subst h; exact kw_155
  rcases Nat.eq_or_lt_of_le (show 156 ≤ y from h155) with h | h156
  · subst h; exact kw_156
  rcases Nat.eq_or_lt_of_le (show 157 ≤ y from h156) with h | h157
  · subst h; exact kw_157
  rcases Nat.eq_or_lt_of_le (show 158 ≤ y from h157) with h | h158
  · subst h; exact kw_158
  rcases Nat.eq_or_lt_of_le (show 159 ≤ y from h158) with h | h159
  · subst h; exact kw_159
  rcases Nat.eq_or_lt_of_le (show 160 ≤ y from h159) with h | h160
  · subst h; exact kw_160
  rcases Nat.eq_or_lt_of_le (show 161 ≤ y from h160) with h | h161
  · subst h; exact kw_161
  rcases Nat.eq_or_lt_of_le (show 162 ≤ y from h161) with h | h162
  · subst h; exact kw_162
  rcases Nat.eq_or_lt_of_le (show 163 ≤ y from h162) with h | h163
  · subst h; exact kw_163
  rcases Nat.eq_or_lt_of_le (show 164 ≤ y from h163) with h | h164
  · subst h; exact kw_164
  rcases Nat.eq_or_lt_of_le (show 165 ≤ y from h164) with h | h165
  · subst h; exact kw_165
  rcases Nat.eq_or_lt_of_le (show 166 ≤ y from h165) with h | h166
  · subst h; exact kw_166
  rcases Nat.eq_or_lt_of_le (show 167 ≤ y from h166) with h | h167
  · subst h; exact kw_167
  rcases Nat.eq_or_lt_of_le (show 168 ≤ y from h167) with h | h168
  · subst h; exact kw_168
  rcases Nat.eq_or_lt_of_le (show 169 ≤ y from h168) with h | h169
  · subst h; exact kw_169
  rcases Nat.eq_or_lt_of_le (show 170 ≤ y from h169) with h | h170
  · subst h; exact kw_170
  rcases Nat.eq_or_lt_of_le (show 171 ≤ y from h170) with h | h171
  · subst h; exact kw_171
  rcases Nat.eq_or_lt_of_le (show 172 ≤ y from h171) with h | h172
  · subst h; exact kw_172
  rcases Nat.eq_or_lt_of_le (show 173 ≤ y from h172) with h | h173
  · subst h; exact kw_173
  rcases Nat.eq_or_lt_of_le (show 174 ≤ y from h173) with h | h174
  · subst h; exact kw_174
  rcases Nat.eq_or_lt_of_le (show 175 ≤ y from h174) with h | h175
  · subst h; exact kw_175
  rcases Nat.eq_or_lt_of_le (show 176 ≤ y from h175) with h | h176
  · subst h; exact kw_176
  rcases Nat.eq_or_lt_of_le (show 177 ≤ y from h176) with h | h177
  · subst h; exact kw_177
  rcases Nat.eq_or_lt_of_le (show 178 ≤ y from h177) with h | h178
  · subst h; exact kw_178
  rcases Nat.eq_or_lt_of_le (show 179 ≤ y from h178) with h | h179
  · subst h; exact kw_179
  rcases Nat.eq_or_lt_of_le (show 180 ≤ y from h179) with h | h180
  · subst h; exact kw_180
  rcases Nat.eq_or_lt_of_le (show 181 ≤ y from h180) with h | h181
  · subst h; exact kw_181
  rcases Nat.eq_or_lt_of_le (show 182 ≤ y from h181) with h | h182
  · subst h; exact kw_182
  rcases Nat.eq_or_lt_of_le (show 183 ≤ y from h182) with h | h183
  · subst h; exact kw_183
  rcases Nat.eq_or_lt_of_le (show 184 ≤ y from h183) with h | h184
  · subst h; exact kw_184
  rcases Nat.eq_or_lt_of_le (show 185 ≤ y from h184) with h | h185
  · subst h; exact kw_185
  rcases Nat.eq_or_lt_of_le (show 186 ≤ y from h185) with h | h186
  · subst h; exact kw_186
  rcases Nat.eq_or_lt_of_le (show 187 ≤ y from h186) with h | h187
  · subst h; exact kw_187
  rcases Nat.eq_or_lt_of_le (show 188 ≤ y from h187) with h | h188
  · subst h; exact kw_188
  rcases Nat.eq_or_lt_of_le (show 189 ≤ y from h188) with h | h189
  · subst h; exact kw_189
  rcases Nat.eq_or_lt_of_le (show 190 ≤ y from h189) with h | h190
  · subst h; exact kw_190
  rcases Nat.eq_or_lt_of_le (show 191 ≤ y from h190) with h | h191
  · subst h; exact kw_191
  rcases Nat.eq_or_lt_of_le (show 192 ≤ y from h191) with h | h192
  · subst h; exact kw_192
  rcases Nat.eq_or_lt_of_le (show 193 ≤ y from h192) with h | h193
  · subst h; exact kw_193
  rcases Nat.eq_or_lt_of_le (show 194 ≤ y from h193) with h | h194
  · subst h; exact kw_194
  rcases Nat.eq_or_lt_of_le (show 195 ≤ y from h194) with h | h195
  · subst h; exact kw_195
  rcases Nat.eq_or_lt_of_le (show 196 ≤ y from h195) with h | h196
  · subst h; exact kw_196
  rcases Nat.eq_or_lt_of_le (show 197 ≤ y from h196) with h | h197
  · subst h; exact kw_197
  rcases Nat.eq_or_lt_of_le (show 198 ≤ y from h197) with h | h198
  · subst h; exact kw_198
  rcases Nat.eq_or_lt_of_le (show 199 ≤ y from h198) with h | h199
  · subst h; exact kw_199
  rcases Nat.eq_or_lt_of_le (show 200 ≤ y from h199) with h | h200
  · subst h; exact kw_200
  rcases Nat.eq_or_lt_of_le (show 201 ≤ y from h200) with h | h201
  · subst h; exact kw_201
  rcases Nat.eq_or_lt_of_le (show 202 ≤ y from h201) with h | h202
  · subst h; exact kw_202
  rcases Nat.eq_or_lt_of_le (show 203 ≤ y from h202) with h | h203
  · subst h; exact kw_203
  rcases Nat.eq_or_lt_of_le (show 204 ≤ y from h203) with h | h204
  · subst h; exact kw_204
  rcases Nat.eq_or_lt_of_le (show 205 ≤ y from h204) with h | h205
  · subst h; exact kw_205
  rcases Nat.eq_or_lt_of_le (show 206 ≤ y from h205) with h | h206
  · subst h; exact kw_206
  rcases Nat.eq_or_lt_of_le (show 207 ≤ y from h206) with h | h207
  · subst h; exact kw_207
  rcases Nat.eq_or_lt_of_le (show 208 ≤ y from h207) with h | h208
  · subst h; exact kw_208
  rcases Nat.eq_or_lt_of_le (show 209 ≤ y from h208) with h | h209
  · subst h; exact kw_209
  rcases Nat.eq_or_lt_of_le (show 210 ≤ y from h209) with h | h210
  · subst h; exact kw_210
  rcases Nat.eq_or_lt_of_le (show 211 ≤ y from h210) with h | h211
  · subst h; exact kw_211
  rcases Nat.eq_or_lt_of_le (show 212 ≤ y from h211) with h | h212
  · subst h; exact kw_212
  rcases Nat.eq_or_lt_of_le (show 213 ≤ y from h212) with h | h213
  · subst h; exact kw_213
  rcases Nat.eq_or_lt_of_le (show 214 ≤ y from h213) with h | h214
  · subst h; exact kw_214
  rcases Nat.eq_or_lt_of_le (show 215 ≤ y from h214) with h | h215
  · subst h; exact kw_215
  rcases Nat.eq_or_lt_of_le (show 216 ≤ y from h215) with h | h216
  · subst h; exact kw_216
  rcases Nat.eq_or_lt_of_le (show 217 ≤ y from h216) with h | h217
  · subst h; exact kw_217
  rcases Nat.eq_or_lt_of_le (show 218 ≤ y from h217) with h | h218
  · subst h; exact kw_218
  rcases Nat.eq_or_lt_of_le (show 219 ≤ y from h218) with h | h219
  · subst h; exact kw_219
  rcases Nat.eq_or_lt_of_le (show 220 ≤ y from h219) with h | h220
  · subst h; exact kw_220
  rcases Nat.eq_or_lt_of_le (show 221 ≤ y from h220) with h | h221
  · subst h; exact kw_221
  rcases Nat.eq_or_lt_of_le (show 222 ≤ y from h221) with h | h222
  · subst h; exact kw_222
  rcases Nat.eq_or_lt_of_le (show 223 ≤ y from h222) with h | h223
  · subst h; exact kw_223
  rcases Nat.eq_or_lt_of_le (show 224 ≤ y from h223) with h | h224
  · subst h; exact kw_224
  rcases Nat.eq_or_lt_of_le (show 225 ≤ y from h224) with h | h225
  · subst h; exact kw_225
  rcases Nat.eq_or_lt_of_le (show 226 ≤ y from h225) with h | h226
  · subst h; exact kw_226
  rcases Nat.eq_or_lt_of_le (show 227 ≤ y from h226) with h | h227
  · subst h; exact kw_227
  rcases Nat.eq_or_lt_of_le (show 228 ≤ y from h227) with h | h228
  · subst h; exact kw_228
  rcases Nat.eq_or_lt_of_le (show 229 ≤ y from h228) with h | h229
  · subst h; exact kw_229
  rcases Nat.eq_or_lt_of_le (show 230 ≤ y from h229) with h | h230
  · subst h; exact kw_230
  rcases Nat.eq_or_lt_of_le (show 231 ≤ y from h230) with h | h231
  · subst h; exact kw_231
  rcases Nat.eq_or_lt_of_le (show 232 ≤ y from h231) with h | h232
  · subst h; exact kw_232
  rcases Nat.eq_or_lt_of_le (show 233 ≤ y from h232) with h | h233
  · subst h; exact kw_233
  rcases Nat.eq_or_lt_of_le (show 234 ≤ y from h233) with h | h234
  · subst h; exact kw_234
  obtain rfl : y = 235 := Nat.le_antisymm (Nat.le_of_lt_succ hy) h234
  exact kw_235
def ex_nw : List Jvm.Cond := [Jvm.Cond.methodLinkNest "BorderThroughBed" 9 ⟨"BorderThroughBed$Page", "<init>", "()V"⟩ "BorderThroughBed", Jvm.Cond.methodLinkNest "BorderThroughBed" 18 ⟨"BorderThroughBed$HouseText", "<init>", "()V"⟩ "BorderThroughBed", Jvm.Cond.methodLinkNest "BorderThroughBed$HouseText" 3 ⟨"BorderThroughBed$Text", "<init>", "()V"⟩ "BorderThroughBed", Jvm.Cond.methodLinkNest "BorderThroughBed" 25 ⟨"BorderThroughBed$LawText", "<init>", "()V"⟩ "BorderThroughBed", Jvm.Cond.methodLinkNest "BorderThroughBed$LawText" 3 ⟨"BorderThroughBed$Text", "<init>", "()V"⟩ "BorderThroughBed", Jvm.Cond.methodLinkNest "BorderThroughBed" 32 ⟨"BorderThroughBed$House", "<init>", "()V"⟩ "BorderThroughBed", Jvm.Cond.methodLinkNest "BorderThroughBed" 39 ⟨"BorderThroughBed$Laws", "<init>", "()V"⟩ "BorderThroughBed", Jvm.Cond.methodLinkNest "BorderThroughBed" 46 ⟨"BorderThroughBed$Day", "<init>", "()V"⟩ "BorderThroughBed", Jvm.Cond.methodLinkNest "BorderThroughBed" 56 ⟨"BorderThroughBed$Keeping", "<init>", "()V"⟩ "BorderThroughBed", Jvm.Cond.methodLinkNest "BorderThroughBed" 63 ⟨"BorderThroughBed$Mover", "<init>", "()V"⟩ "BorderThroughBed", Jvm.Cond.methodLinkNest "BorderThroughBed$Page" 23 ⟨"BorderThroughBed", "below", "(II)Z"⟩ "BorderThroughBed", Jvm.Cond.methodLinkNest "BorderThroughBed$House" 79 ⟨"BorderThroughBed", "below", "(II)Z"⟩ "BorderThroughBed", Jvm.Cond.methodLinkNest "BorderThroughBed$Table" 30 ⟨"BorderThroughBed", "below", "(II)Z"⟩ "BorderThroughBed", Jvm.Cond.methodLinkNest "BorderThroughBed$Keeping" 82 ⟨"BorderThroughBed", "below", "(II)Z"⟩ "BorderThroughBed", Jvm.Cond.methodLinkNest "BorderThroughBed$Mover" 60 ⟨"BorderThroughBed", "below", "(II)Z"⟩ "BorderThroughBed", Jvm.Cond.declares ⟨"BorderThroughBed$Text", "taken", "(LBorderThroughBed$Page;)I"⟩, Jvm.Cond.declares ⟨"BorderThroughBed$Text", "begin", "()V"⟩, Jvm.Cond.declares ⟨"BorderThroughBed$Text", "takes", "(I)Z"⟩, Jvm.Cond.declares ⟨"BorderThroughBed$Text", "isOn", "(LBorderThroughBed$Page;)Z"⟩, Jvm.Cond.declares ⟨"BorderThroughBed$Text", "isWhole", "()Z"⟩]
theorem ex_nw_in : ∀ w ∈ ex_nw, w ∈ tables_1 := by
  exact List.forall_mem_cons.mpr ⟨List.mem_of_getElem? (i := 25) (by decide +kernel), List.forall_mem_cons.mpr ⟨List.mem_of_getElem? (i := 39) (by decide +kernel), List.forall_mem_cons.mpr ⟨List.mem_of_getElem? (i := 42) (by decide +kernel), List.forall_mem_cons.mpr ⟨List.mem_of_getElem? (i := 61) (by decide +kernel), List.forall_mem_cons.mpr ⟨List.mem_of_getElem? (i := 64) (by decide +kernel), List.forall_mem_cons.mpr ⟨List.mem_of_getElem? (i := 89) (by decide +kernel), List.forall_mem_cons.mpr ⟨List.mem_of_getElem? (i := 138) (by decide +kernel), List.forall_mem_cons.mpr ⟨List.mem_of_getElem? (i := 164) (by decide +kernel), List.forall_mem_cons.mpr ⟨List.mem_of_getElem? (i := 191) (by decide +kernel), List.forall_mem_cons.mpr ⟨List.mem_of_getElem? (i := 207) (by decide +kernel), List.forall_mem_cons.mpr ⟨List.mem_of_getElem? (i := 320) (by decide +kernel), List.forall_mem_cons.mpr ⟨List.mem_of_getElem? (i := 402) (by decide +kernel), List.forall_mem_cons.mpr ⟨List.mem_of_getElem? (i := 504) (by decide +kernel), List.forall_mem_cons.mpr ⟨List.mem_of_getElem? (i := 735) (by decide +kernel), List.forall_mem_cons.mpr ⟨List.mem_of_getElem? (i := 800) (by decide +kernel), List.forall_mem_cons.mpr ⟨List.mem_of_getElem? (i := 302) (by decide +kernel), List.forall_mem_cons.mpr ⟨List.mem_of_getElem? (i := 307) (by decide +kernel), List.forall_mem_cons.mpr ⟨List.mem_of_getElem? (i := 322) (by decide +kernel), List.forall_mem_cons.mpr ⟨List.mem_of_getElem? (i := 378) (by decide +kernel), List.forall_mem_cons.mpr ⟨List.mem_of_getElem? (i := 384) (by decide +kernel), fun _ h => absurd h List.not_mem_nil⟩⟩⟩⟩⟩⟩⟩⟩⟩⟩⟩⟩⟩⟩⟩⟩⟩⟩⟩⟩
def ex_ar (y n : Nat) : Prop := (parseMethodDescriptor (ex_Y y).desc).map (fun d => d.parameters.length) = some n
def ex_PT (c a e : Nat) : Prop := e / 8 < 236 ∧ ex_ar (e / 8) (e % 8) ∧ Jvm.Cond.static (ex_Y (e / 8)) ∈ ex_tb ∧ (Jvm.Cond.methodLink (ex_Rn c) a (ex_Y (e / 8)) ∈ ex_tb ∨ Jvm.Cond.methodLinkNest (ex_Rn c) a (ex_Y (e / 8)) "BorderThroughBed" ∈ ex_nw)
theorem kq_T_0 : ∀ q ∈ ex_cT.getD 0 [], ex_PT 0 q.1 q.2 := fun _ h => absurd h List.not_mem_nil
theorem kt_492 : (Jvm.Cond.static (ex_Y 130)) ∈ ex_tb := ex_in (i := 391) (by decide +kernel) (by decide +kernel)
theorem kq_T_1 : ∀ q ∈ ex_cT.getD 1 [], ex_PT 1 q.1 q.2 := List.forall_mem_cons.mpr ⟨⟨by decide, by unfold ex_ar; decide +kernel, kt_492, Or.inr (List.mem_of_getElem? (i := 11) (by decide +kernel))⟩, fun _ h => absurd h List.not_mem_nil⟩
theorem kq_T_2 : ∀ q ∈ ex_cT.getD 2 [], ex_PT 2 q.1 q.2 := fun _ h => absurd h List.not_mem_nil
theorem kt_493 : (Jvm.Cond.static (ex_Y 43)) ∈ ex_tb := ex_in (i := 815) (by decide +kernel) (by decide +kernel)
theorem kt_494 : (Jvm.Cond.methodLink (ex_Rn 3) 50 (ex_Y 43)) ∈ ex_tb := ex_in (i := 814) (by decide +kernel) (by decide +kernel)
theorem kt_495 : (Jvm.Cond.static (ex_Y 2)) ∈ ex_tb := ex_in (i := 762) (by decide +kernel) (by decide +kernel)
theorem kt_496 : (Jvm.Cond.methodLink (ex_Rn 3) 86 (ex_Y 2)) ∈ ex_tb := ex_in (i := 868) (by decide +kernel) (by decide +kernel)
theorem kq_T_3 : ∀ q ∈ ex_cT.getD 3 [], ex_PT 3 q.1 q.2 := List.forall_mem_cons.mpr ⟨⟨by decide, by unfold ex_ar; decide +kernel, kt_493, Or.inl kt_494⟩, List.forall_mem_cons.mpr ⟨⟨by decide, by unfold ex_ar; decide +kernel, kt_492, Or.inr (List.mem_of_getElem? (i := 13) (by decide +kernel))⟩, List.forall_mem_cons.mpr ⟨⟨by decide, by unfold ex_ar; decide +kernel, kt_495, Or.inl kt_496⟩, fun _ h => absurd h List.not_mem_nil⟩⟩⟩
theorem kt_497 : (Jvm.Cond.static (ex_Y 60)) ∈ ex_tb := ex_in (i := 460) (by decide +kernel) (by decide +kernel)
theorem kt_498 : (Jvm.Cond.methodLink (ex_Rn 4) 50 (ex_Y 60)) ∈ ex_tb := ex_in (i := 459) (by decide +kernel) (by decide +kernel)
theorem kq_T_4 : ∀ q ∈ ex_cT.getD 4 [], ex_PT 4 q.1 q.2 := List.forall_mem_cons.mpr ⟨⟨by decide, by unfold ex_ar; decide +kernel, kt_497, Or.inl kt_498⟩, fun _ h => absurd h List.not_mem_nil⟩
theorem kq_T_5 : ∀ q ∈ ex_cT.getD 5 [], ex_PT 5 q.1 q.2 := fun _ h => absurd h List.not_mem_nil
theorem kq_T_6 : ∀ q ∈ ex_cT.getD 6 [], ex_PT 6 q.1 q.2 := List.forall_mem_cons.mpr ⟨⟨by decide, by unfold ex_ar; decide +kernel, kt_492, Or.inr (List.mem_of_getElem? (i := 14) (by decide +kernel))⟩, fun _ h => absurd h List.not_mem_nil⟩
theorem kt_499 : (Jvm.Cond.static (ex_Y 85)) ∈ ex_tb := ex_in (i := 368) (by decide +kernel) (by decide +kernel)
theorem kt_500 : (Jvm.Cond.methodLink (ex_Rn 7) 15 (ex_Y 85)) ∈ ex_tb := ex_in (i := 367) (by decide +kernel) (by decide +kernel)
theorem kq_T_7 : ∀ q ∈ ex_cT.getD 7 [], ex_PT 7 q.1 q.2 := List.forall_mem_cons.mpr ⟨⟨by decide, by unfold ex_ar; decide +kernel, kt_499, Or.inl kt_500⟩, List.forall_mem_cons.mpr ⟨⟨by decide, by unfold ex_ar; decide +kernel, kt_492, Or.inr (List.mem_of_getElem? (i := 10) (by decide +kernel))⟩, fun _ h => absurd h List.not_mem_nil⟩⟩
theorem kq_T_8 : ∀ q ∈ ex_cT.getD 8 [], ex_PT 8 q.1 q.2 := List.forall_mem_cons.mpr ⟨⟨by decide, by unfold ex_ar; decide +kernel, kt_492, Or.inr (List.mem_of_getElem? (i := 12) (by decide +kernel))⟩, fun _ h => absurd h List.not_mem_nil⟩
theorem kq_T_9 : ∀ q ∈ ex_cT.getD 9 [], ex_PT 9 q.1 q.2 := fun _ h => absurd h List.not_mem_nil
theorem kt_501 : (Jvm.Cond.static (ex_Y 84)) ∈ ex_tb := ex_in (i := 365) (by decide +kernel) (by decide +kernel)
theorem kt_502 : (Jvm.Cond.methodLink (ex_Rn 10) 68 (ex_Y 84)) ∈ ex_tb := ex_in (i := 364) (by decide +kernel) (by decide +kernel)
theorem kt_503 : (Jvm.Cond.methodLink (ex_Rn 10) 83 (ex_Y 130)) ∈ ex_tb := ex_in (i := 390) (by decide +kernel) (by decide +kernel)
theorem kt_504 : (Jvm.Cond.static (ex_Y 63)) ∈ ex_tb := ex_in (i := 623) (by decide +kernel) (by decide +kernel)
theorem kt_505 : (Jvm.Cond.methodLink (ex_Rn 10) 126 (ex_Y 63)) ∈ ex_tb := ex_in (i := 622) (by decide +kernel) (by decide +kernel)
theorem kt_506 : (Jvm.Cond.static (ex_Y 131)) ∈ ex_tb := ex_in (i := 683) (by decide +kernel) (by decide +kernel)
theorem kt_507 : (Jvm.Cond.methodLink (ex_Rn 10) 143 (ex_Y 131)) ∈ ex_tb := ex_in (i := 682) (by decide +kernel) (by decide +kernel)
theorem kt_508 : (Jvm.Cond.static (ex_Y 132)) ∈ ex_tb := ex_in (i := 725) (by decide +kernel) (by decide +kernel)
theorem kt_509 : (Jvm.Cond.methodLink (ex_Rn 10) 167 (ex_Y 132)) ∈ ex_tb := ex_in (i := 724) (by decide +kernel) (by decide +kernel)
theorem kt_510 : (Jvm.Cond.static (ex_Y 133)) ∈ ex_tb := ex_in (i := 745) (by decide +kernel) (by decide +kernel)
theorem kt_511 : (Jvm.Cond.methodLink (ex_Rn 10) 181 (ex_Y 133)) ∈ ex_tb := ex_in (i := 744) (by decide +kernel) (by decide +kernel)
theorem kt_512 : (Jvm.Cond.methodLink (ex_Rn 10) 194 (ex_Y 2)) ∈ ex_tb := ex_in (i := 761) (by decide +kernel) (by decide +kernel)
theorem kt_513 : (Jvm.Cond.static (ex_Y 134)) ∈ ex_tb := ex_in (i := 940) (by decide +kernel) (by decide +kernel)
theorem kt_514 : (Jvm.Cond.methodLink (ex_Rn 10) 259 (ex_Y 134)) ∈ ex_tb := ex_in (i := 939) (by decide +kernel) (by decide +kernel)
theorem kt_515 : (Jvm.Cond.static (ex_Y 147)) ∈ ex_tb := ex_in (i := 1011) (by decide +kernel) (by decide +kernel)
theorem kt_516 : (Jvm.Cond.methodLink (ex_Rn 10) 287 (ex_Y 147)) ∈ ex_tb := ex_in (i := 1010) (by decide +kernel) (by decide +kernel)
theorem kq_T_10 : ∀ q ∈ ex_cT.getD 10 [], ex_PT 10 q.1 q.2 := List.forall_mem_cons.mpr ⟨⟨by decide, by unfold ex_ar; decide +kernel, kt_501, Or.inl kt_502⟩, List.forall_mem_cons.mpr ⟨⟨by decide, by unfold ex_ar; decide +kernel, kt_492, Or.inl kt_503⟩, List.forall_mem_cons.mpr ⟨⟨by decide, by unfold ex_ar; decide +kernel, kt_504, Or.inl kt_505⟩, List.forall_mem_cons.mpr ⟨⟨by decide, by unfold ex_ar; decide +kernel, kt_506, Or.inl kt_507⟩, List.forall_mem_cons.mpr ⟨⟨by decide, by unfold ex_ar; decide +kernel, kt_508, Or.inl kt_509⟩, List.forall_mem_cons.mpr ⟨⟨by decide, by unfold ex_ar; decide +kernel, kt_510, Or.inl kt_511⟩, List.forall_mem_cons.mpr ⟨⟨by decide, by unfold ex_ar; decide +kernel, kt_495, Or.inl kt_512⟩, List.forall_mem_cons.mpr ⟨⟨by decide, by unfold ex_ar; decide +kernel, kt_513, Or.inl kt_514⟩, List.forall_mem_cons.mpr ⟨⟨by decide, by unfold ex_ar; decide +kernel, kt_515, Or.inl kt_516⟩, fun _ h => absurd h List.not_mem_nil⟩⟩⟩⟩⟩⟩⟩⟩⟩
theorem kt_517 : (Jvm.Cond.static (ex_Y 148)) ∈ ex_tb := ex_in (i := 1212) (by decide +kernel) (by decide +kernel)
theorem kt_518 : (Jvm.Cond.methodLink (ex_Rn 11) 89 (ex_Y 148)) ∈ ex_tb := ex_in (i := 1211) (by decide +kernel) (by decide +kernel)
theorem kt_519 : (Jvm.Cond.static (ex_Y 152)) ∈ ex_tb := ex_in (i := 1223) (by decide +kernel) (by decide +kernel)
theorem kt_520 : (Jvm.Cond.methodLink (ex_Rn 11) 93 (ex_Y 152)) ∈ ex_tb := ex_in (i := 1222) (by decide +kernel) (by decide +kernel)
theorem kt_521 : (Jvm.Cond.static (ex_Y 151)) ∈ ex_tb := ex_in (i := 1234) (by decide +kernel) (by decide +kernel)
theorem kt_522 : (Jvm.Cond.methodLink (ex_Rn 11) 126 (ex_Y 151)) ∈ ex_tb := ex_in (i := 1233) (by decide +kernel) (by decide +kernel)
theorem kt_523 : (Jvm.Cond.static (ex_Y 182)) ∈ ex_tb := ex_in (i := 1334) (by decide +kernel) (by decide +kernel)
theorem kt_524 : (Jvm.Cond.methodLink (ex_Rn 11) 234 (ex_Y 182)) ∈ ex_tb := ex_in (i := 1333) (by decide +kernel) (by decide +kernel)
theorem kt_525 : (Jvm.Cond.static (ex_Y 187)) ∈ ex_tb := ex_in (i := 1345) (by decide +kernel) (by decide +kernel)
theorem kt_526 : (Jvm.Cond.methodLink (ex_Rn 11) 248 (ex_Y 187)) ∈ ex_tb := ex_in (i := 1344) (by decide +kernel) (by decide +kernel)
theorem kt_527 : (Jvm.Cond.static (ex_Y 191)) ∈ ex_tb := ex_in (i := 1372) (by decide +kernel) (by decide +kernel)
theorem kt_528 : (Jvm.Cond.methodLink (ex_Rn 11) 258 (ex_Y 191)) ∈ ex_tb := ex_in (i := 1371) (by decide +kernel) (by decide +kernel)
theorem kt_529 : (Jvm.Cond.static (ex_Y 199)) ∈ ex_tb := ex_in (i := 1387) (by decide +kernel) (by decide +kernel)
theorem kt_530 : (Jvm.Cond.methodLink (ex_Rn 11) 270 (ex_Y 199)) ∈ ex_tb := ex_in (i := 1386) (by decide +kernel) (by decide +kernel)
theorem kq_T_11 : ∀ q ∈ ex_cT.getD 11 [], ex_PT 11 q.1 q.2 := List.forall_mem_cons.mpr ⟨⟨by decide, by unfold ex_ar; decide +kernel, kt_517, Or.inl kt_518⟩, List.forall_mem_cons.mpr ⟨⟨by decide, by unfold ex_ar; decide +kernel, kt_519, Or.inl kt_520⟩, List.forall_mem_cons.mpr ⟨⟨by decide, by unfold ex_ar; decide +kernel, kt_521, Or.inl kt_522⟩, List.forall_mem_cons.mpr ⟨⟨by decide, by unfold ex_ar; decide +kernel, kt_523, Or.inl kt_524⟩, List.forall_mem_cons.mpr ⟨⟨by decide, by unfold ex_ar; decide +kernel, kt_525, Or.inl kt_526⟩, List.forall_mem_cons.mpr ⟨⟨by decide, by unfold ex_ar; decide +kernel, kt_527, Or.inl kt_528⟩, List.forall_mem_cons.mpr ⟨⟨by decide, by unfold ex_ar; decide +kernel, kt_529, Or.inl kt_530⟩, fun _ h => absurd h List.not_mem_nil⟩⟩⟩⟩⟩⟩⟩
theorem kq_T {c : Nat} (hc : c < 12) : ∀ q ∈ ex_cT.getD c [], ex_PT c q.1 q.2 := by
  match c, hc with
  | 0, _ => exact kq_T_0
  | 1, _ => exact kq_T_1
  | 2, _ => exact kq_T_2
  | 3, _ => exact kq_T_3
  | 4, _ => exact kq_T_4
  | 5, _ => exact kq_T_5
  | 6, _ => exact kq_T_6
  | 7, _ => exact kq_T_7
  | 8, _ => exact kq_T_8
  | 9, _ => exact kq_T_9
  | 10, _ => exact kq_T_10
  | 11, _ => exact kq_T_11
def ex_PV (c a e : Nat) : Prop := e / 8 < 236 ∧ ex_ar (e / 8) (e % 8) ∧ Jvm.Cond.instanceMethod (ex_Y (e / 8)) ∈ ex_tb ∧ Jvm.Cond.selects (ex_Y (e / 8)).cls (ex_Y (e / 8)) (ex_Y (e / 8)) ∈ ex_tb ∧ Jvm.Cond.methodLink (ex_Rn c) a (ex_Y (e / 8)) ∈ ex_tb ∧ ex_C (e / 8) ≠ 9
theorem kt_531 : (Jvm.Cond.instanceMethod (ex_Y 95)) ∈ ex_tb := ex_in (i := 558) (by decide +kernel) (by decide +kernel)
theorem kt_532 : (Jvm.Cond.selects (ex_Y 95).cls (ex_Y 95) (ex_Y 95)) ∈ ex_tb := ex_in (i := 559) (by decide +kernel) (by decide +kernel)
theorem kt_533 : (Jvm.Cond.methodLink (ex_Rn 0) 29 (ex_Y 95)) ∈ ex_tb := ex_in (i := 557) (by decide +kernel) (by decide +kernel)
theorem kt_534 : (Jvm.Cond.instanceMethod (ex_Y 96)) ∈ ex_tb := ex_in (i := 974) (by decide +kernel) (by decide +kernel)
theorem kt_535 : (Jvm.Cond.selects (ex_Y 96).cls (ex_Y 96) (ex_Y 96)) ∈ ex_tb := ex_in (i := 975) (by decide +kernel) (by decide +kernel)
theorem kt_536 : (Jvm.Cond.methodLink (ex_Rn 0) 32 (ex_Y 96)) ∈ ex_tb := ex_in (i := 973) (by decide +kernel) (by decide +kernel)
theorem kt_537 : (Jvm.Cond.instanceMethod (ex_Y 93)) ∈ ex_tb := ex_in (i := 615) (by decide +kernel) (by decide +kernel)
theorem kt_538 : (Jvm.Cond.selects (ex_Y 93).cls (ex_Y 93) (ex_Y 93)) ∈ ex_tb := ex_in (i := 616) (by decide +kernel) (by decide +kernel)
theorem kt_539 : (Jvm.Cond.methodLink (ex_Rn 0) 36 (ex_Y 93)) ∈ ex_tb := ex_in (i := 648) (by decide +kernel) (by decide +kernel)
theorem kt_540 : (Jvm.Cond.instanceMethod (ex_Y 4)) ∈ ex_tb := ex_in (i := 654) (by decide +kernel) (by decide +kernel)
theorem kt_541 : (Jvm.Cond.selects (ex_Y 4).cls (ex_Y 4) (ex_Y 4)) ∈ ex_tb := ex_in (i := 655) (by decide +kernel) (by decide +kernel)
theorem kt_542 : (Jvm.Cond.methodLink (ex_Rn 0) 40 (ex_Y 4)) ∈ ex_tb := ex_in (i := 653) (by decide +kernel) (by decide +kernel)
theorem kt_543 : (Jvm.Cond.instanceMethod (ex_Y 5)) ∈ ex_tb := ex_in (i := 658) (by decide +kernel) (by decide +kernel)
theorem kt_544 : (Jvm.Cond.selects (ex_Y 5).cls (ex_Y 5) (ex_Y 5)) ∈ ex_tb := ex_in (i := 659) (by decide +kernel) (by decide +kernel)
theorem kt_545 : (Jvm.Cond.methodLink (ex_Rn 0) 44 (ex_Y 5)) ∈ ex_tb := ex_in (i := 657) (by decide +kernel) (by decide +kernel)
theorem kt_546 : (Jvm.Cond.instanceMethod (ex_Y 94)) ∈ ex_tb := ex_in (i := 594) (by decide +kernel) (by decide +kernel)
theorem kt_547 : (Jvm.Cond.selects (ex_Y 94).cls (ex_Y 94) (ex_Y 94)) ∈ ex_tb := ex_in (i := 595) (by decide +kernel) (by decide +kernel)
theorem kt_548 : (Jvm.Cond.methodLink (ex_Rn 0) 47 (ex_Y 94)) ∈ ex_tb := ex_in (i := 788) (by decide +kernel) (by decide +kernel)
theorem kt_549 : (Jvm.Cond.instanceMethod (ex_Y 3)) ∈ ex_tb := ex_in (i := 645) (by decide +kernel) (by decide +kernel)
theorem kt_550 : (Jvm.Cond.selects (ex_Y 3).cls (ex_Y 3) (ex_Y 3)) ∈ ex_tb := ex_in (i := 646) (by decide +kernel) (by decide +kernel)
theorem kt_551 : (Jvm.Cond.methodLink (ex_Rn 0) 51 (ex_Y 3)) ∈ ex_tb := ex_in (i := 644) (by decide +kernel) (by decide +kernel)
theorem kt_552 : (Jvm.Cond.instanceMethod (ex_Y 26)) ∈ ex_tb := ex_in (i := 546) (by decide +kernel) (by decide +kernel)
theorem kt_553 : (Jvm.Cond.selects (ex_Y 26).cls (ex_Y 26) (ex_Y 26)) ∈ ex_tb := ex_in (i := 547) (by decide +kernel) (by decide +kernel)
theorem kt_554 : (Jvm.Cond.methodLink (ex_Rn 0) 54 (ex_Y 26)) ∈ ex_tb := ex_in (i := 778) (by decide +kernel) (by decide +kernel)
theorem kt_555 : (Jvm.Cond.instanceMethod (ex_Y 90)) ∈ ex_tb := ex_in (i := 607) (by decide +kernel) (by decide +kernel)
theorem kt_556 : (Jvm.Cond.selects (ex_Y 90).cls (ex_Y 90) (ex_Y 90)) ∈ ex_tb := ex_in (i := 608) (by decide +kernel) (by decide +kernel)
theorem kt_557 : (Jvm.Cond.methodLink (ex_Rn 0) 59 (ex_Y 90)) ∈ ex_tb := ex_in (i := 643) (by decide +kernel) (by decide +kernel)
theorem kt_558 : (Jvm.Cond.instanceMethod (ex_Y 6)) ∈ ex_tb := ex_in (i := 650) (by decide +kernel) (by decide +kernel)
theorem kt_559 : (Jvm.Cond.selects (ex_Y 6).cls (ex_Y 6) (ex_Y 6)) ∈ ex_tb := ex_in (i := 651) (by decide +kernel) (by decide +kernel)
theorem kt_560 : (Jvm.Cond.methodLink (ex_Rn 0) 63 (ex_Y 6)) ∈ ex_tb := ex_in (i := 649) (by decide +kernel) (by decide +kernel)
theorem kt_561 : (Jvm.Cond.instanceMethod (ex_Y 30)) ∈ ex_tb := ex_in (i := 662) (by decide +kernel) (by decide +kernel)
theorem kt_562 : (Jvm.Cond.selects (ex_Y 30).cls (ex_Y 30) (ex_Y 30)) ∈ ex_tb := ex_in (i := 663) (by decide +kernel) (by decide +kernel)
theorem kt_563 : (Jvm.Cond.methodLink (ex_Rn 0) 66 (ex_Y 30)) ∈ ex_tb := ex_in (i := 661) (by decide +kernel) (by decide +kernel)
theorem kq_V_0 : ∀ q ∈ ex_cV.getD 0 [], ex_PV 0 q.1 q.2 := List.forall_mem_cons.mpr ⟨⟨by decide, by unfold ex_ar; decide +kernel, kt_531, kt_532, kt_533, by decide +kernel⟩, List.forall_mem_cons.mpr ⟨⟨by decide, by unfold ex_ar; decide +kernel, kt_534, kt_535, kt_536, by decide +kernel⟩, List.forall_mem_cons.mpr ⟨⟨by decide, by unfold ex_ar; decide +kernel, kt_537, kt_538, kt_539, by decide +kernel⟩, List.forall_mem_cons.mpr ⟨⟨by decide, by unfold ex_ar; decide +kernel, kt_540, kt_541, kt_542, by decide +kernel⟩, List.forall_mem_cons.mpr ⟨⟨by decide, by unfold ex_ar; decide +kernel, kt_543, kt_544, kt_545, by decide +kernel⟩, List.forall_mem_cons.mpr ⟨⟨by decide, by unfold ex_ar; decide +kernel, kt_546, kt_547, kt_548, by decide +kernel⟩, List.forall_mem_cons.mpr ⟨⟨by decide, by unfold ex_ar; decide +kernel, kt_549, kt_550, kt_551, by decide +kernel⟩, List.forall_mem_cons.mpr ⟨⟨by decide, by unfold ex_ar; decide +kernel, kt_552, kt_553, kt_554, by decide +kernel⟩, List.forall_mem_cons.mpr ⟨⟨by decide, by unfold ex_ar; decide +kernel, kt_555, kt_556, kt_557, by decide +kernel⟩, List.forall_mem_cons.mpr ⟨⟨by decide, by unfold ex_ar; decide +kernel, kt_558, kt_559, kt_560, by decide +kernel⟩, List.forall_mem_cons.mpr ⟨⟨by decide, by unfold ex_ar; decide +kernel, kt_561, kt_562, kt_563, by decide +kernel⟩, fun _ h => absurd h List.not_mem_nil⟩⟩⟩⟩⟩⟩⟩⟩⟩⟩⟩
theorem kt_564 : (Jvm.Cond.instanceMethod (ex_Y 87)) ∈ ex_tb := ex_in (i := 371) (by decide +kernel) (by decide +kernel)
theorem kt_565 : (Jvm.Cond.selects (ex_Y 87).cls (ex_Y 87) (ex_Y 87)) ∈ ex_tb := ex_in (i := 372) (by decide +kernel) (by decide +kernel)
theorem kt_566 : (Jvm.Cond.methodLink (ex_Rn 1) 49 (ex_Y 87)) ∈ ex_tb := ex_in (i := 489) (by decide +kernel) (by decide +kernel)
theorem kt_567 : (Jvm.Cond.instanceMethod (ex_Y 88)) ∈ ex_tb := ex_in (i := 410) (by decide +kernel) (by decide +kernel)
theorem kt_568 : (Jvm.Cond.selects (ex_Y 88).cls (ex_Y 88) (ex_Y 88)) ∈ ex_tb := ex_in (i := 411) (by decide +kernel) (by decide +kernel)
theorem kt_569 : (Jvm.Cond.methodLink (ex_Rn 1) 55 (ex_Y 88)) ∈ ex_tb := ex_in (i := 490) (by decide +kernel) (by decide +kernel)
theorem kt_570 : (Jvm.Cond.instanceMethod (ex_Y 12)) ∈ ex_tb := ex_in (i := 493) (by decide +kernel) (by decide +kernel)
theorem kt_571 : (Jvm.Cond.selects (ex_Y 12).cls (ex_Y 12) (ex_Y 12)) ∈ ex_tb := ex_in (i := 9) (by decide +kernel) (by decide +kernel)
theorem kt_572 : (Jvm.Cond.methodLink (ex_Rn 1) 59 (ex_Y 12)) ∈ ex_tb := ex_in (i := 491) (by decide +kernel) (by decide +kernel)
theorem kt_573 : (Jvm.Cond.instanceMethod (ex_Y 13)) ∈ ex_tb := ex_in (i := 498) (by decide +kernel) (by decide +kernel)
theorem kt_574 : (Jvm.Cond.selects (ex_Y 13).cls (ex_Y 13) (ex_Y 13)) ∈ ex_tb := ex_in (i := 10) (by decide +kernel) (by decide +kernel)
theorem kt_575 : (Jvm.Cond.methodLink (ex_Rn 1) 63 (ex_Y 13)) ∈ ex_tb := ex_in (i := 496) (by decide +kernel) (by decide +kernel)
theorem kt_576 : (Jvm.Cond.instanceMethod (ex_Y 14)) ∈ ex_tb := ex_in (i := 502) (by decide +kernel) (by decide +kernel)
theorem kt_577 : (Jvm.Cond.selects (ex_Y 14).cls (ex_Y 14) (ex_Y 14)) ∈ ex_tb := ex_in (i := 11) (by decide +kernel) (by decide +kernel)
theorem kt_578 : (Jvm.Cond.methodLink (ex_Rn 1) 73 (ex_Y 14)) ∈ ex_tb := ex_in (i := 500) (by decide +kernel) (by decide +kernel)
theorem kt_579 : (Jvm.Cond.instanceMethod (ex_Y 17)) ∈ ex_tb := ex_in (i := 530) (by decide +kernel) (by decide +kernel)
theorem kt_580 : (Jvm.Cond.selects (ex_Y 17).cls (ex_Y 17) (ex_Y 17)) ∈ ex_tb := ex_in (i := 14) (by decide +kernel) (by decide +kernel)
theorem kt_581 : (Jvm.Cond.methodLink (ex_Rn 1) 76 (ex_Y 17)) ∈ ex_tb := ex_in (i := 528) (by decide +kernel) (by decide +kernel)
theorem kt_582 : (Jvm.Cond.instanceMethod (ex_Y 15)) ∈ ex_tb := ex_in (i := 506) (by decide +kernel) (by decide +kernel)
theorem kt_583 : (Jvm.Cond.selects (ex_Y 15).cls (ex_Y 15) (ex_Y 15)) ∈ ex_tb := ex_in (i := 12) (by decide +kernel) (by decide +kernel)
theorem kt_584 : (Jvm.Cond.methodLink (ex_Rn 1) 83 (ex_Y 15)) ∈ ex_tb := ex_in (i := 504) (by decide +kernel) (by decide +kernel)
theorem kt_585 : (Jvm.Cond.instanceMethod (ex_Y 16)) ∈ ex_tb := ex_in (i := 514) (by decide +kernel) (by decide +kernel)
theorem kt_586 : (Jvm.Cond.selects (ex_Y 16).cls (ex_Y 16) (ex_Y 16)) ∈ ex_tb := ex_in (i := 13) (by decide +kernel) (by decide +kernel)
theorem kt_587 : (Jvm.Cond.methodLink (ex_Rn 1) 92 (ex_Y 16)) ∈ ex_tb := ex_in (i := 512) (by decide +kernel) (by decide +kernel)
theorem kt_588 : (Jvm.Cond.instanceMethod (ex_Y 23)) ∈ ex_tb := ex_in (i := 517) (by decide +kernel) (by decide +kernel)
theorem kt_589 : (Jvm.Cond.selects (ex_Y 23).cls (ex_Y 23) (ex_Y 23)) ∈ ex_tb := ex_in (i := 518) (by decide +kernel) (by decide +kernel)
theorem kt_590 : (Jvm.Cond.methodLink (ex_Rn 1) 96 (ex_Y 23)) ∈ ex_tb := ex_in (i := 516) (by decide +kernel) (by decide +kernel)
theorem kt_591 : (Jvm.Cond.instanceMethod (ex_Y 24)) ∈ ex_tb := ex_in (i := 525) (by decide +kernel) (by decide +kernel)
theorem kt_592 : (Jvm.Cond.selects (ex_Y 24).cls (ex_Y 24) (ex_Y 24)) ∈ ex_tb := ex_in (i := 526) (by decide +kernel) (by decide +kernel)
theorem kt_593 : (Jvm.Cond.methodLink (ex_Rn 1) 100 (ex_Y 24)) ∈ ex_tb := ex_in (i := 524) (by decide +kernel) (by decide +kernel)
theorem kt_594 : (Jvm.Cond.instanceMethod (ex_Y 18)) ∈ ex_tb := ex_in (i := 535) (by decide +kernel) (by decide +kernel)
theorem kt_595 : (Jvm.Cond.selects (ex_Y 18).cls (ex_Y 18) (ex_Y 18)) ∈ ex_tb := ex_in (i := 15) (by decide +kernel) (by decide +kernel)
theorem kt_596 : (Jvm.Cond.methodLink (ex_Rn 1) 104 (ex_Y 18)) ∈ ex_tb := ex_in (i := 533) (by decide +kernel) (by decide +kernel)
theorem kt_597 : (Jvm.Cond.instanceMethod (ex_Y 32)) ∈ ex_tb := ex_in (i := 539) (by decide +kernel) (by decide +kernel)
theorem kt_598 : (Jvm.Cond.selects (ex_Y 32).cls (ex_Y 32) (ex_Y 32)) ∈ ex_tb := ex_in (i := 16) (by decide +kernel) (by decide +kernel)
theorem kt_599 : (Jvm.Cond.methodLink (ex_Rn 1) 108 (ex_Y 32)) ∈ ex_tb := ex_in (i := 537) (by decide +kernel) (by decide +kernel)
theorem kt_600 : (Jvm.Cond.instanceMethod (ex_Y 22)) ∈ ex_tb := ex_in (i := 521) (by decide +kernel) (by decide +kernel)
theorem kt_601 : (Jvm.Cond.selects (ex_Y 22).cls (ex_Y 22) (ex_Y 22)) ∈ ex_tb := ex_in (i := 522) (by decide +kernel) (by decide +kernel)
theorem kt_602 : (Jvm.Cond.methodLink (ex_Rn 1) 111 (ex_Y 22)) ∈ ex_tb := ex_in (i := 520) (by decide +kernel) (by decide +kernel)
theorem kt_603 : (Jvm.Cond.instanceMethod (ex_Y 28)) ∈ ex_tb := ex_in (i := 666) (by decide +kernel) (by decide +kernel)
theorem kt_604 : (Jvm.Cond.selects (ex_Y 28).cls (ex_Y 28) (ex_Y 28)) ∈ ex_tb := ex_in (i := 667) (by decide +kernel) (by decide +kernel)
theorem kt_605 : (Jvm.Cond.methodLink (ex_Rn 1) 114 (ex_Y 28)) ∈ ex_tb := ex_in (i := 703) (by decide +kernel) (by decide +kernel)
theorem kt_606 : (Jvm.Cond.instanceMethod (ex_Y 33)) ∈ ex_tb := ex_in (i := 543) (by decide +kernel) (by decide +kernel)
theorem kt_607 : (Jvm.Cond.selects (ex_Y 33).cls (ex_Y 33) (ex_Y 33)) ∈ ex_tb := ex_in (i := 17) (by decide +kernel) (by decide +kernel)
theorem kt_608 : (Jvm.Cond.methodLink (ex_Rn 1) 117 (ex_Y 33)) ∈ ex_tb := ex_in (i := 541) (by decide +kernel) (by decide +kernel)
theorem kt_609 : (Jvm.Cond.methodLink (ex_Rn 1) 120 (ex_Y 26)) ∈ ex_tb := ex_in (i := 545) (by decide +kernel) (by decide +kernel)
theorem kt_610 : (Jvm.Cond.instanceMethod (ex_Y 25)) ∈ ex_tb := ex_in (i := 550) (by decide +kernel) (by decide +kernel)
theorem kt_611 : (Jvm.Cond.selects (ex_Y 25).cls (ex_Y 25) (ex_Y 25)) ∈ ex_tb := ex_in (i := 551) (by decide +kernel) (by decide +kernel)
theorem kt_612 : (Jvm.Cond.methodLink (ex_Rn 1) 123 (ex_Y 25)) ∈ ex_tb := ex_in (i := 549) (by decide +kernel) (by decide +kernel)
theorem kq_V_1 : ∀ q ∈ ex_cV.getD 1 [], ex_PV 1 q.1 q.2 := List.forall_mem_cons.mpr ⟨⟨by decide, by unfold ex_ar; decide +kernel, kt_564, kt_565, kt_566, by decide +kernel⟩, List.forall_mem_cons.mpr ⟨⟨by decide, by unfold ex_ar; decide +kernel, kt_567, kt_568, kt_569, by decide +kernel⟩, List.forall_mem_cons.mpr ⟨⟨by decide, by unfold ex_ar; decide +kernel, kt_570, kt_571, kt_572, by decide +kernel⟩, List.forall_mem_cons.mpr ⟨⟨by decide, by unfold ex_ar; decide +kernel, kt_573, kt_574, kt_575, by decide +kernel⟩, List.forall_mem_cons.mpr ⟨⟨by decide, by unfold ex_ar; decide +kernel, kt_576, kt_577, kt_578, by decide +kernel⟩, List.forall_mem_cons.mpr ⟨⟨by decide, by unfold ex_ar; decide +kernel, kt_579, kt_580, kt_581, by decide +kernel⟩, List.forall_mem_cons.mpr ⟨⟨by decide, by unfold ex_ar; decide +kernel, kt_582, kt_583, kt_584, by decide +kernel⟩, List.forall_mem_cons.mpr ⟨⟨by decide, by unfold ex_ar; decide +kernel, kt_585, kt_586, kt_587, by decide +kernel⟩, List.forall_mem_cons.mpr ⟨⟨by decide, by unfold ex_ar; decide +kernel, kt_588, kt_589, kt_590, by decide +kernel⟩, List.forall_mem_cons.mpr ⟨⟨by decide, by unfold ex_ar; decide +kernel, kt_591, kt_592, kt_593, by decide +kernel⟩, List.forall_mem_cons.mpr ⟨⟨by decide, by unfold ex_ar; decide +kernel, kt_594, kt_595, kt_596, by decide +kernel⟩, List.forall_mem_cons.mpr ⟨⟨by decide, by unfold ex_ar; decide +kernel, kt_597, kt_598, kt_599, by decide +kernel⟩, List.forall_mem_cons.mpr ⟨⟨by decide, by unfold ex_ar; decide +kernel, kt_600, kt_601, kt_602, by decide +kernel⟩, List.forall_mem_cons.mpr ⟨⟨by decide, by unfold ex_ar; decide +kernel, kt_603, kt_604, kt_605, by decide +kernel⟩, List.forall_mem_cons.mpr ⟨⟨by decide, by unfold ex_ar; decide +kernel, kt_606, kt_607, kt_608, by decide +kernel⟩, List.forall_mem_cons.mpr ⟨⟨by decide, by unfold ex_ar; decide +kernel, kt_552, kt_553, kt_609, by decide +kernel⟩, List.forall_mem_cons.mpr ⟨⟨by decide, by unfold ex_ar; decide +kernel, kt_610, kt_611, kt_612, by decide +kernel⟩, fun _ h => absurd h List.not_mem_nil⟩⟩⟩⟩⟩⟩⟩⟩⟩⟩⟩⟩⟩⟩⟩⟩⟩
theorem kt_613 : (Jvm.Cond.instanceMethod (ex_Y 36)) ∈ ex_tb := ex_in (i := 422) (by decide +kernel) (by decide +kernel)
theorem kt_614 : (Jvm.Cond.selects (ex_Y 36).cls (ex_Y 36) (ex_Y 36)) ∈ ex_tb := ex_in (i := 0) (by decide +kernel) (by decide +kernel)
theorem kt_615 : (Jvm.Cond.methodLink (ex_Rn 2) 25 (ex_Y 36)) ∈ ex_tb := ex_in (i := 420) (by decide +kernel) (by decide +kernel)
theorem kt_616 : (Jvm.Cond.instanceMethod (ex_Y 37)) ∈ ex_tb := ex_in (i := 426) (by decide +kernel) (by decide +kernel)
theorem kt_617 : (Jvm.Cond.selects (ex_Y 37).cls (ex_Y 37) (ex_Y 37)) ∈ ex_tb := ex_in (i := 1) (by decide +kernel) (by decide +kernel)
theorem kt_618 : (Jvm.Cond.methodLink (ex_Rn 2) 29 (ex_Y 37)) ∈ ex_tb := ex_in (i := 424) (by decide +kernel) (by decide +kernel)
theorem kt_619 : (Jvm.Cond.instanceMethod (ex_Y 38)) ∈ ex_tb := ex_in (i := 434) (by decide +kernel) (by decide +kernel)
theorem kt_620 : (Jvm.Cond.selects (ex_Y 38).cls (ex_Y 38) (ex_Y 38)) ∈ ex_tb := ex_in (i := 3) (by decide +kernel) (by decide +kernel)
theorem kt_621 : (Jvm.Cond.methodLink (ex_Rn 2) 32 (ex_Y 38)) ∈ ex_tb := ex_in (i := 432) (by decide +kernel) (by decide +kernel)
theorem kt_622 : (Jvm.Cond.instanceMethod (ex_Y 39)) ∈ ex_tb := ex_in (i := 430) (by decide +kernel) (by decide +kernel)
theorem kt_623 : (Jvm.Cond.selects (ex_Y 39).cls (ex_Y 39) (ex_Y 39)) ∈ ex_tb := ex_in (i := 2) (by decide +kernel) (by decide +kernel)
theorem kt_624 : (Jvm.Cond.methodLink (ex_Rn 2) 35 (ex_Y 39)) ∈ ex_tb := ex_in (i := 428) (by decide +kernel) (by decide +kernel)
theorem kq_V_2 : ∀ q ∈ ex_cV.getD 2 [], ex_PV 2 q.1 q.2 := List.forall_mem_cons.mpr ⟨⟨by decide, by unfold ex_ar; decide +kernel, kt_613, kt_614, kt_615, by decide +kernel⟩, List.forall_mem_cons.mpr ⟨⟨by decide, by unfold ex_ar; decide +kernel, kt_616, kt_617, kt_618, by decide +kernel⟩, List.forall_mem_cons.mpr ⟨⟨by decide, by unfold ex_ar; decide +kernel, kt_619, kt_620, kt_621, by decide +kernel⟩, List.forall_mem_cons.mpr ⟨⟨by decide, by unfold ex_ar; decide +kernel, kt_622, kt_623, kt_624, by decide +kernel⟩, fun _ h => absurd h List.not_mem_nil⟩⟩⟩⟩
theorem kt_625 : (Jvm.Cond.methodLink (ex_Rn 3) 24 (ex_Y 90)) ∈ ex_tb := ex_in (i := 801) (by decide +kernel) (by decide +kernel)
theorem kt_626 : (Jvm.Cond.methodLink (ex_Rn 3) 39 (ex_Y 93)) ∈ ex_tb := ex_in (i := 805) (by decide +kernel) (by decide +kernel)
theorem kt_627 : (Jvm.Cond.instanceMethod (ex_Y 42)) ∈ ex_tb := ex_in (i := 808) (by decide +kernel) (by decide +kernel)
theorem kt_628 : (Jvm.Cond.selects (ex_Y 42).cls (ex_Y 42) (ex_Y 42)) ∈ ex_tb := ex_in (i := 26) (by decide +kernel) (by decide +kernel)
theorem kt_629 : (Jvm.Cond.methodLink (ex_Rn 3) 42 (ex_Y 42)) ∈ ex_tb := ex_in (i := 806) (by decide +kernel) (by decide +kernel)
theorem kt_630 : (Jvm.Cond.instanceMethod (ex_Y 47)) ∈ ex_tb := ex_in (i := 811) (by decide +kernel) (by decide +kernel)
theorem kt_631 : (Jvm.Cond.selects (ex_Y 47).cls (ex_Y 47) (ex_Y 47)) ∈ ex_tb := ex_in (i := 812) (by decide +kernel) (by decide +kernel)
theorem kt_632 : (Jvm.Cond.methodLink (ex_Rn 3) 46 (ex_Y 47)) ∈ ex_tb := ex_in (i := 810) (by decide +kernel) (by decide +kernel)
theorem kt_633 : (Jvm.Cond.instanceMethod (ex_Y 20)) ∈ ex_tb := ex_in (i := 562) (by decide +kernel) (by decide +kernel)
theorem kt_634 : (Jvm.Cond.selects (ex_Y 20).cls (ex_Y 20) (ex_Y 20)) ∈ ex_tb := ex_in (i := 563) (by decide +kernel) (by decide +kernel)
theorem kt_635 : (Jvm.Cond.methodLink (ex_Rn 3) 53 (ex_Y 20)) ∈ ex_tb := ex_in (i := 817) (by decide +kernel) (by decide +kernel)
theorem kt_636 : (Jvm.Cond.methodLink (ex_Rn 3) 58 (ex_Y 23)) ∈ ex_tb := ex_in (i := 818) (by decide +kernel) (by decide +kernel)
theorem kt_637 : (Jvm.Cond.instanceMethod (ex_Y 68)) ∈ ex_tb := ex_in (i := 686) (by decide +kernel) (by decide +kernel)
theorem kt_638 : (Jvm.Cond.selects (ex_Y 68).cls (ex_Y 68) (ex_Y 68)) ∈ ex_tb := ex_in (i := 687) (by decide +kernel) (by decide +kernel)
theorem kt_639 : (Jvm.Cond.methodLink (ex_Rn 3) 62 (ex_Y 68)) ∈ ex_tb := ex_in (i := 819) (by decide +kernel) (by decide +kernel)
theorem kt_640 : (Jvm.Cond.instanceMethod (ex_Y 44)) ∈ ex_tb := ex_in (i := 822) (by decide +kernel) (by decide +kernel)
theorem kt_641 : (Jvm.Cond.selects (ex_Y 44).cls (ex_Y 44) (ex_Y 44)) ∈ ex_tb := ex_in (i := 27) (by decide +kernel) (by decide +kernel)
theorem kt_642 : (Jvm.Cond.methodLink (ex_Rn 3) 68 (ex_Y 44)) ∈ ex_tb := ex_in (i := 820) (by decide +kernel) (by decide +kernel)
theorem kt_643 : (Jvm.Cond.instanceMethod (ex_Y 45)) ∈ ex_tb := ex_in (i := 826) (by decide +kernel) (by decide +kernel)
theorem kt_644 : (Jvm.Cond.selects (ex_Y 45).cls (ex_Y 45) (ex_Y 45)) ∈ ex_tb := ex_in (i := 28) (by decide +kernel) (by decide +kernel)
theorem kt_645 : (Jvm.Cond.methodLink (ex_Rn 3) 72 (ex_Y 45)) ∈ ex_tb := ex_in (i := 824) (by decide +kernel) (by decide +kernel)
theorem kt_646 : (Jvm.Cond.methodLink (ex_Rn 3) 76 (ex_Y 26)) ∈ ex_tb := ex_in (i := 829) (by decide +kernel) (by decide +kernel)
theorem kt_647 : (Jvm.Cond.methodLink (ex_Rn 3) 79 (ex_Y 30)) ∈ ex_tb := ex_in (i := 830) (by decide +kernel) (by decide +kernel)
theorem kt_648 : (Jvm.Cond.instanceMethod (ex_Y 51)) ∈ ex_tb := ex_in (i := 862) (by decide +kernel) (by decide +kernel)
theorem kt_649 : (Jvm.Cond.selects (ex_Y 51).cls (ex_Y 51) (ex_Y 51)) ∈ ex_tb := ex_in (i := 31) (by decide +kernel) (by decide +kernel)
theorem kt_650 : (Jvm.Cond.methodLink (ex_Rn 3) 89 (ex_Y 51)) ∈ ex_tb := ex_in (i := 860) (by decide +kernel) (by decide +kernel)
theorem kq_V_3 : ∀ q ∈ ex_cV.getD 3 [], ex_PV 3 q.1 q.2 := List.forall_mem_cons.mpr ⟨⟨by decide, by unfold ex_ar; decide +kernel, kt_555, kt_556, kt_625, by decide +kernel⟩, List.forall_mem_cons.mpr ⟨⟨by decide, by unfold ex_ar; decide +kernel, kt_537, kt_538, kt_626, by decide +kernel⟩, List.forall_mem_cons.mpr ⟨⟨by decide, by unfold ex_ar; decide +kernel, kt_627, kt_628, kt_629, by decide +kernel⟩, List.forall_mem_cons.mpr ⟨⟨by decide, by unfold ex_ar; decide +kernel, kt_630, kt_631, kt_632, by decide +kernel⟩, List.forall_mem_cons.mpr ⟨⟨by decide, by unfold ex_ar; decide +kernel, kt_633, kt_634, kt_635, by decide +kernel⟩, List.forall_mem_cons.mpr ⟨⟨by decide, by unfold ex_ar; decide +kernel, kt_588, kt_589, kt_636, by decide +kernel⟩, List.forall_mem_cons.mpr ⟨⟨by decide, by unfold ex_ar; decide +kernel, kt_637, kt_638, kt_639, by decide +kernel⟩, List.forall_mem_cons.mpr ⟨⟨by decide, by unfold ex_ar; decide +kernel, kt_640, kt_641, kt_642, by decide +kernel⟩, List.forall_mem_cons.mpr ⟨⟨by decide, by unfold ex_ar; decide +kernel, kt_643, kt_644, kt_645, by decide +kernel⟩, List.forall_mem_cons.mpr ⟨⟨by decide, by unfold ex_ar; decide +kernel, kt_552, kt_553, kt_646, by decide +kernel⟩, List.forall_mem_cons.mpr ⟨⟨by decide, by unfold ex_ar; decide +kernel, kt_561, kt_562, kt_647, by decide +kernel⟩, List.forall_mem_cons.mpr ⟨⟨by decide, by unfold ex_ar; decide +kernel, kt_648, kt_649, kt_650, by decide +kernel⟩, fun _ h => absurd h List.not_mem_nil⟩⟩⟩⟩⟩⟩⟩⟩⟩⟩⟩⟩
theorem kt_651 : (Jvm.Cond.instanceMethod (ex_Y 55)) ∈ ex_tb := ex_in (i := 441) (by decide +kernel) (by decide +kernel)
theorem kt_652 : (Jvm.Cond.selects (ex_Y 55).cls (ex_Y 55) (ex_Y 55)) ∈ ex_tb := ex_in (i := 4) (by decide +kernel) (by decide +kernel)
theorem kt_653 : (Jvm.Cond.methodLink (ex_Rn 4) 33 (ex_Y 55)) ∈ ex_tb := ex_in (i := 439) (by decide +kernel) (by decide +kernel)
theorem kt_654 : (Jvm.Cond.instanceMethod (ex_Y 56)) ∈ ex_tb := ex_in (i := 445) (by decide +kernel) (by decide +kernel)
theorem kt_655 : (Jvm.Cond.selects (ex_Y 56).cls (ex_Y 56) (ex_Y 56)) ∈ ex_tb := ex_in (i := 5) (by decide +kernel) (by decide +kernel)
theorem kt_656 : (Jvm.Cond.methodLink (ex_Rn 4) 37 (ex_Y 56)) ∈ ex_tb := ex_in (i := 443) (by decide +kernel) (by decide +kernel)
theorem kt_657 : (Jvm.Cond.instanceMethod (ex_Y 57)) ∈ ex_tb := ex_in (i := 449) (by decide +kernel) (by decide +kernel)
theorem kt_658 : (Jvm.Cond.selects (ex_Y 57).cls (ex_Y 57) (ex_Y 57)) ∈ ex_tb := ex_in (i := 6) (by decide +kernel) (by decide +kernel)
theorem kt_659 : (Jvm.Cond.methodLink (ex_Rn 4) 40 (ex_Y 57)) ∈ ex_tb := ex_in (i := 447) (by decide +kernel) (by decide +kernel)
theorem kt_660 : (Jvm.Cond.instanceMethod (ex_Y 58)) ∈ ex_tb := ex_in (i := 457) (by decide +kernel) (by decide +kernel)
theorem kt_661 : (Jvm.Cond.selects (ex_Y 58).cls (ex_Y 58) (ex_Y 58)) ∈ ex_tb := ex_in (i := 8) (by decide +kernel) (by decide +kernel)
theorem kt_662 : (Jvm.Cond.methodLink (ex_Rn 4) 43 (ex_Y 58)) ∈ ex_tb := ex_in (i := 455) (by decide +kernel) (by decide +kernel)
theorem kt_663 : (Jvm.Cond.instanceMethod (ex_Y 59)) ∈ ex_tb := ex_in (i := 453) (by decide +kernel) (by decide +kernel)
theorem kt_664 : (Jvm.Cond.selects (ex_Y 59).cls (ex_Y 59) (ex_Y 59)) ∈ ex_tb := ex_in (i := 7) (by decide +kernel) (by decide +kernel)
theorem kt_665 : (Jvm.Cond.methodLink (ex_Rn 4) 46 (ex_Y 59)) ∈ ex_tb := ex_in (i := 451) (by decide +kernel) (by decide +kernel)
theorem kq_V_4 : ∀ q ∈ ex_cV.getD 4 [], ex_PV 4 q.1 q.2 := List.forall_mem_cons.mpr ⟨⟨by decide, by unfold ex_ar; decide +kernel, kt_651, kt_652, kt_653, by decide +kernel⟩, List.forall_mem_cons.mpr ⟨⟨by decide, by unfold ex_ar; decide +kernel, kt_654, kt_655, kt_656, by decide +kernel⟩, List.forall_mem_cons.mpr ⟨⟨by decide, by unfold ex_ar; decide +kernel, kt_657, kt_658, kt_659, by decide +kernel⟩, List.forall_mem_cons.mpr ⟨⟨by decide, by unfold ex_ar; decide +kernel, kt_660, kt_661, kt_662, by decide +kernel⟩, List.forall_mem_cons.mpr ⟨⟨by decide, by unfold ex_ar; decide +kernel, kt_663, kt_664, kt_665, by decide +kernel⟩, fun _ h => absurd h List.not_mem_nil⟩⟩⟩⟩⟩
theorem kt_666 : (Jvm.Cond.methodLink (ex_Rn 5) 20 (ex_Y 90)) ∈ ex_tb := ex_in (i := 606) (by decide +kernel) (by decide +kernel)
theorem kt_667 : (Jvm.Cond.instanceMethod (ex_Y 91)) ∈ ex_tb := ex_in (i := 577) (by decide +kernel) (by decide +kernel)
theorem kt_668 : (Jvm.Cond.selects (ex_Y 91).cls (ex_Y 91) (ex_Y 91)) ∈ ex_tb := ex_in (i := 578) (by decide +kernel) (by decide +kernel)
theorem kt_669 : (Jvm.Cond.methodLink (ex_Rn 5) 24 (ex_Y 91)) ∈ ex_tb := ex_in (i := 576) (by decide +kernel) (by decide +kernel)
theorem kt_670 : (Jvm.Cond.instanceMethod (ex_Y 62)) ∈ ex_tb := ex_in (i := 585) (by decide +kernel) (by decide +kernel)
theorem kt_671 : (Jvm.Cond.selects (ex_Y 62).cls (ex_Y 62) (ex_Y 62)) ∈ ex_tb := ex_in (i := 586) (by decide +kernel) (by decide +kernel)
theorem kt_672 : (Jvm.Cond.methodLink (ex_Rn 5) 28 (ex_Y 62)) ∈ ex_tb := ex_in (i := 584) (by decide +kernel) (by decide +kernel)
theorem kt_673 : (Jvm.Cond.instanceMethod (ex_Y 92)) ∈ ex_tb := ex_in (i := 589) (by decide +kernel) (by decide +kernel)
theorem kt_674 : (Jvm.Cond.selects (ex_Y 92).cls (ex_Y 92) (ex_Y 92)) ∈ ex_tb := ex_in (i := 590) (by decide +kernel) (by decide +kernel)
theorem kt_675 : (Jvm.Cond.methodLink (ex_Rn 5) 34 (ex_Y 92)) ∈ ex_tb := ex_in (i := 588) (by decide +kernel) (by decide +kernel)
theorem kt_676 : (Jvm.Cond.methodLink (ex_Rn 5) 38 (ex_Y 93)) ∈ ex_tb := ex_in (i := 614) (by decide +kernel) (by decide +kernel)
theorem kt_677 : (Jvm.Cond.instanceMethod (ex_Y 69)) ∈ ex_tb := ex_in (i := 691) (by decide +kernel) (by decide +kernel)
theorem kt_678 : (Jvm.Cond.selects (ex_Y 69).cls (ex_Y 69) (ex_Y 69)) ∈ ex_tb := ex_in (i := 19) (by decide +kernel) (by decide +kernel)
theorem kt_679 : (Jvm.Cond.methodLink (ex_Rn 5) 42 (ex_Y 69)) ∈ ex_tb := ex_in (i := 689) (by decide +kernel) (by decide +kernel)
theorem kt_680 : (Jvm.Cond.instanceMethod (ex_Y 70)) ∈ ex_tb := ex_in (i := 695) (by decide +kernel) (by decide +kernel)
theorem kt_681 : (Jvm.Cond.selects (ex_Y 70).cls (ex_Y 70) (ex_Y 70)) ∈ ex_tb := ex_in (i := 20) (by decide +kernel) (by decide +kernel)
theorem kt_682 : (Jvm.Cond.methodLink (ex_Rn 5) 46 (ex_Y 70)) ∈ ex_tb := ex_in (i := 693) (by decide +kernel) (by decide +kernel)
theorem kt_683 : (Jvm.Cond.methodLink (ex_Rn 5) 50 (ex_Y 25)) ∈ ex_tb := ex_in (i := 697) (by decide +kernel) (by decide +kernel)
theorem kt_684 : (Jvm.Cond.instanceMethod (ex_Y 27)) ∈ ex_tb := ex_in (i := 675) (by decide +kernel) (by decide +kernel)
theorem kt_685 : (Jvm.Cond.selects (ex_Y 27).cls (ex_Y 27) (ex_Y 27)) ∈ ex_tb := ex_in (i := 676) (by decide +kernel) (by decide +kernel)
theorem kt_686 : (Jvm.Cond.methodLink (ex_Rn 5) 55 (ex_Y 27)) ∈ ex_tb := ex_in (i := 698) (by decide +kernel) (by decide +kernel)
theorem kt_687 : (Jvm.Cond.instanceMethod (ex_Y 29)) ∈ ex_tb := ex_in (i := 700) (by decide +kernel) (by decide +kernel)
theorem kt_688 : (Jvm.Cond.selects (ex_Y 29).cls (ex_Y 29) (ex_Y 29)) ∈ ex_tb := ex_in (i := 701) (by decide +kernel) (by decide +kernel)
theorem kt_689 : (Jvm.Cond.methodLink (ex_Rn 5) 59 (ex_Y 29)) ∈ ex_tb := ex_in (i := 699) (by decide +kernel) (by decide +kernel)
theorem kq_V_5 : ∀ q ∈ ex_cV.getD 5 [], ex_PV 5 q.1 q.2 := List.forall_mem_cons.mpr ⟨⟨by decide, by unfold ex_ar; decide +kernel, kt_555, kt_556, kt_666, by decide +kernel⟩, List.forall_mem_cons.mpr ⟨⟨by decide, by unfold ex_ar; decide +kernel, kt_667, kt_668, kt_669, by decide +kernel⟩, List.forall_mem_cons.mpr ⟨⟨by decide, by unfold ex_ar; decide +kernel, kt_670, kt_671, kt_672, by decide +kernel⟩, List.forall_mem_cons.mpr ⟨⟨by decide, by unfold ex_ar; decide +kernel, kt_673, kt_674, kt_675, by decide +kernel⟩, List.forall_mem_cons.mpr ⟨⟨by decide, by unfold ex_ar; decide +kernel, kt_537, kt_538, kt_676, by decide +kernel⟩, List.forall_mem_cons.mpr ⟨⟨by decide, by unfold ex_ar; decide +kernel, kt_677, kt_678, kt_679, by decide +kernel⟩, List.forall_mem_cons.mpr ⟨⟨by decide, by unfold ex_ar; decide +kernel, kt_680, kt_681, kt_682, by decide +kernel⟩, List.forall_mem_cons.mpr ⟨⟨by decide, by unfold ex_ar; decide +kernel, kt_610, kt_611, kt_683, by decide +kernel⟩, List.forall_mem_cons.mpr ⟨⟨by decide, by unfold ex_ar; decide +kernel, kt_684, kt_685, kt_686, by decide +kernel⟩, List.forall_mem_cons.mpr ⟨⟨by decide, by unfold ex_ar; decide +kernel, kt_687, kt_688, kt_689, by decide +kernel⟩, fun _ h => absurd h List.not_mem_nil⟩⟩⟩⟩⟩⟩⟩⟩⟩⟩
theorem kt_690 : (Jvm.Cond.methodLink (ex_Rn 6) 30 (ex_Y 90)) ∈ ex_tb := ex_in (i := 835) (by decide +kernel) (by decide +kernel)
theorem kt_691 : (Jvm.Cond.methodLink (ex_Rn 6) 48 (ex_Y 3)) ∈ ex_tb := ex_in (i := 837) (by decide +kernel) (by decide +kernel)
theorem kt_692 : (Jvm.Cond.methodLink (ex_Rn 6) 52 (ex_Y 6)) ∈ ex_tb := ex_in (i := 838) (by decide +kernel) (by decide +kernel)
theorem kt_693 : (Jvm.Cond.methodLink (ex_Rn 6) 55 (ex_Y 30)) ∈ ex_tb := ex_in (i := 839) (by decide +kernel) (by decide +kernel)
theorem kt_694 : (Jvm.Cond.instanceMethod (ex_Y 80)) ∈ ex_tb := ex_in (i := 846) (by decide +kernel) (by decide +kernel)
theorem kt_695 : (Jvm.Cond.selects (ex_Y 80).cls (ex_Y 80) (ex_Y 80)) ∈ ex_tb := ex_in (i := 29) (by decide +kernel) (by decide +kernel)
theorem kt_696 : (Jvm.Cond.methodLink (ex_Rn 6) 64 (ex_Y 80)) ∈ ex_tb := ex_in (i := 844) (by decide +kernel) (by decide +kernel)
theorem kt_697 : (Jvm.Cond.instanceMethod (ex_Y 81)) ∈ ex_tb := ex_in (i := 879) (by decide +kernel) (by decide +kernel)
theorem kt_698 : (Jvm.Cond.selects (ex_Y 81).cls (ex_Y 81) (ex_Y 81)) ∈ ex_tb := ex_in (i := 32) (by decide +kernel) (by decide +kernel)
theorem kt_699 : (Jvm.Cond.methodLink (ex_Rn 6) 67 (ex_Y 81)) ∈ ex_tb := ex_in (i := 877) (by decide +kernel) (by decide +kernel)
theorem kt_700 : (Jvm.Cond.instanceMethod (ex_Y 74)) ∈ ex_tb := ex_in (i := 887) (by decide +kernel) (by decide +kernel)
theorem kt_701 : (Jvm.Cond.selects (ex_Y 74).cls (ex_Y 74) (ex_Y 74)) ∈ ex_tb := ex_in (i := 33) (by decide +kernel) (by decide +kernel)
theorem kt_702 : (Jvm.Cond.methodLink (ex_Rn 6) 71 (ex_Y 74)) ∈ ex_tb := ex_in (i := 885) (by decide +kernel) (by decide +kernel)
theorem kt_703 : (Jvm.Cond.instanceMethod (ex_Y 75)) ∈ ex_tb := ex_in (i := 891) (by decide +kernel) (by decide +kernel)
theorem kt_704 : (Jvm.Cond.selects (ex_Y 75).cls (ex_Y 75) (ex_Y 75)) ∈ ex_tb := ex_in (i := 34) (by decide +kernel) (by decide +kernel)
theorem kt_705 : (Jvm.Cond.methodLink (ex_Rn 6) 75 (ex_Y 75)) ∈ ex_tb := ex_in (i := 889) (by decide +kernel) (by decide +kernel)
theorem kt_706 : (Jvm.Cond.instanceMethod (ex_Y 77)) ∈ ex_tb := ex_in (i := 904) (by decide +kernel) (by decide +kernel)
theorem kt_707 : (Jvm.Cond.selects (ex_Y 77).cls (ex_Y 77) (ex_Y 77)) ∈ ex_tb := ex_in (i := 35) (by decide +kernel) (by decide +kernel)
theorem kt_708 : (Jvm.Cond.methodLink (ex_Rn 6) 76 (ex_Y 77)) ∈ ex_tb := ex_in (i := 902) (by decide +kernel) (by decide +kernel)
theorem kt_709 : (Jvm.Cond.instanceMethod (ex_Y 79)) ∈ ex_tb := ex_in (i := 912) (by decide +kernel) (by decide +kernel)
theorem kt_710 : (Jvm.Cond.selects (ex_Y 79).cls (ex_Y 79) (ex_Y 79)) ∈ ex_tb := ex_in (i := 36) (by decide +kernel) (by decide +kernel)
theorem kt_711 : (Jvm.Cond.methodLink (ex_Rn 6) 80 (ex_Y 79)) ∈ ex_tb := ex_in (i := 910) (by decide +kernel) (by decide +kernel)
theorem kt_712 : (Jvm.Cond.instanceMethod (ex_Y 46)) ∈ ex_tb := ex_in (i := 882) (by decide +kernel) (by decide +kernel)
theorem kt_713 : (Jvm.Cond.selects (ex_Y 46).cls (ex_Y 46) (ex_Y 46)) ∈ ex_tb := ex_in (i := 883) (by decide +kernel) (by decide +kernel)
theorem kt_714 : (Jvm.Cond.methodLink (ex_Rn 6) 83 (ex_Y 46)) ∈ ex_tb := ex_in (i := 881) (by decide +kernel) (by decide +kernel)
theorem kt_715 : (Jvm.Cond.instanceMethod (ex_Y 83)) ∈ ex_tb := ex_in (i := 850) (by decide +kernel) (by decide +kernel)
theorem kt_716 : (Jvm.Cond.selects (ex_Y 83).cls (ex_Y 83) (ex_Y 83)) ∈ ex_tb := ex_in (i := 30) (by decide +kernel) (by decide +kernel)
theorem kt_717 : (Jvm.Cond.methodLink (ex_Rn 6) 86 (ex_Y 83)) ∈ ex_tb := ex_in (i := 848) (by decide +kernel) (by decide +kernel)
theorem kt_718 : (Jvm.Cond.instanceMethod (ex_Y 48)) ∈ ex_tb := ex_in (i := 853) (by decide +kernel) (by decide +kernel)
theorem kt_719 : (Jvm.Cond.selects (ex_Y 48).cls (ex_Y 48) (ex_Y 48)) ∈ ex_tb := ex_in (i := 854) (by decide +kernel) (by decide +kernel)
theorem kt_720 : (Jvm.Cond.methodLink (ex_Rn 6) 90 (ex_Y 48)) ∈ ex_tb := ex_in (i := 852) (by decide +kernel) (by decide +kernel)
theorem kt_721 : (Jvm.Cond.instanceMethod (ex_Y 50)) ∈ ex_tb := ex_in (i := 857) (by decide +kernel) (by decide +kernel)
theorem kt_722 : (Jvm.Cond.selects (ex_Y 50).cls (ex_Y 50) (ex_Y 50)) ∈ ex_tb := ex_in (i := 858) (by decide +kernel) (by decide +kernel)
theorem kt_723 : (Jvm.Cond.methodLink (ex_Rn 6) 94 (ex_Y 50)) ∈ ex_tb := ex_in (i := 856) (by decide +kernel) (by decide +kernel)
theorem kt_724 : (Jvm.Cond.instanceMethod (ex_Y 49)) ∈ ex_tb := ex_in (i := 865) (by decide +kernel) (by decide +kernel)
theorem kt_725 : (Jvm.Cond.selects (ex_Y 49).cls (ex_Y 49) (ex_Y 49)) ∈ ex_tb := ex_in (i := 866) (by decide +kernel) (by decide +kernel)
theorem kt_726 : (Jvm.Cond.methodLink (ex_Rn 6) 97 (ex_Y 49)) ∈ ex_tb := ex_in (i := 864) (by decide +kernel) (by decide +kernel)
theorem kq_V_6 : ∀ q ∈ ex_cV.getD 6 [], ex_PV 6 q.1 q.2 := List.forall_mem_cons.mpr ⟨⟨by decide, by unfold ex_ar; decide +kernel, kt_555, kt_556, kt_690, by decide +kernel⟩, List.forall_mem_cons.mpr ⟨⟨by decide, by unfold ex_ar; decide +kernel, kt_549, kt_550, kt_691, by decide +kernel⟩, List.forall_mem_cons.mpr ⟨⟨by decide, by unfold ex_ar; decide +kernel, kt_558, kt_559, kt_692, by decide +kernel⟩, List.forall_mem_cons.mpr ⟨⟨by decide, by unfold ex_ar; decide +kernel, kt_561, kt_562, kt_693, by decide +kernel⟩, List.forall_mem_cons.mpr ⟨⟨by decide, by unfold ex_ar; decide +kernel, kt_694, kt_695, kt_696, by decide +kernel⟩, List.forall_mem_cons.mpr ⟨⟨by decide, by unfold ex_ar; decide +kernel, kt_697, kt_698, kt_699, by decide +kernel⟩, List.forall_mem_cons.mpr ⟨⟨by decide, by unfold ex_ar; decide +kernel, kt_700, kt_701, kt_702, by decide +kernel⟩, List.forall_mem_cons.mpr ⟨⟨by decide, by unfold ex_ar; decide +kernel, kt_703, kt_704, kt_705, by decide +kernel⟩, List.forall_mem_cons.mpr ⟨⟨by decide, by unfold ex_ar; decide +kernel, kt_706, kt_707, kt_708, by decide +kernel⟩, List.forall_mem_cons.mpr ⟨⟨by decide, by unfold ex_ar; decide +kernel, kt_709, kt_710, kt_711, by decide +kernel⟩, List.forall_mem_cons.mpr ⟨⟨by decide, by unfold ex_ar; decide +kernel, kt_712, kt_713, kt_714, by decide +kernel⟩, List.forall_mem_cons.mpr ⟨⟨by decide, by unfold ex_ar; decide +kernel, kt_715, kt_716, kt_717, by decide +kernel⟩, List.forall_mem_cons.mpr ⟨⟨by decide, by unfold ex_ar; decide +kernel, kt_718, kt_719, kt_720, by decide +kernel⟩, List.forall_mem_cons.mpr ⟨⟨by decide, by unfold ex_ar; decide +kernel, kt_721, kt_722, kt_723, by decide +kernel⟩, List.forall_mem_cons.mpr ⟨⟨by decide, by unfold ex_ar; decide +kernel, kt_724, kt_725, kt_726, by decide +kernel⟩, fun _ h => absurd h List.not_mem_nil⟩⟩⟩⟩⟩⟩⟩⟩⟩⟩⟩⟩⟩⟩⟩
theorem kq_V_7 : ∀ q ∈ ex_cV.getD 7 [], ex_PV 7 q.1 q.2 := fun _ h => absurd h List.not_mem_nil
theorem kt_727 : (Jvm.Cond.methodLink (ex_Rn 8) 22 (ex_Y 91)) ∈ ex_tb := ex_in (i := 592) (by decide +kernel) (by decide +kernel)
theorem kt_728 : (Jvm.Cond.methodLink (ex_Rn 8) 26 (ex_Y 94)) ∈ ex_tb := ex_in (i := 593) (by decide +kernel) (by decide +kernel)
theorem kq_V_8 : ∀ q ∈ ex_cV.getD 8 [], ex_PV 8 q.1 q.2 := List.forall_mem_cons.mpr ⟨⟨by decide, by unfold ex_ar; decide +kernel, kt_667, kt_668, kt_727, by decide +kernel⟩, List.forall_mem_cons.mpr ⟨⟨by decide, by unfold ex_ar; decide +kernel, kt_546, kt_547, kt_728, by decide +kernel⟩, fun _ h => absurd h List.not_mem_nil⟩⟩
theorem kt_729 : (Jvm.Cond.methodLink (ex_Rn 9) 12 (ex_Y 87)) ∈ ex_tb := ex_in (i := 408) (by decide +kernel) (by decide +kernel)
theorem kt_730 : (Jvm.Cond.methodLink (ex_Rn 9) 18 (ex_Y 88)) ∈ ex_tb := ex_in (i := 409) (by decide +kernel) (by decide +kernel)
theorem kq_V_9 : ∀ q ∈ ex_cV.getD 9 [], ex_PV 9 q.1 q.2 := List.forall_mem_cons.mpr ⟨⟨by decide, by unfold ex_ar; decide +kernel, kt_564, kt_565, kt_729, by decide +kernel⟩, List.forall_mem_cons.mpr ⟨⟨by decide, by unfold ex_ar; decide +kernel, kt_567, kt_568, kt_730, by decide +kernel⟩, fun _ h => absurd h List.not_mem_nil⟩⟩
theorem kt_731 : (Jvm.Cond.methodLink (ex_Rn 10) 72 (ex_Y 87)) ∈ ex_tb := ex_in (i := 370) (by decide +kernel) (by decide +kernel)
theorem kt_732 : (Jvm.Cond.instanceMethod (ex_Y 86)) ∈ ex_tb := ex_in (i := 375) (by decide +kernel) (by decide +kernel)
theorem kt_733 : (Jvm.Cond.selects (ex_Y 86).cls (ex_Y 86) (ex_Y 86)) ∈ ex_tb := ex_in (i := 376) (by decide +kernel) (by decide +kernel)
theorem kt_734 : (Jvm.Cond.methodLink (ex_Rn 10) 76 (ex_Y 86)) ∈ ex_tb := ex_in (i := 374) (by decide +kernel) (by decide +kernel)
theorem kt_735 : (Jvm.Cond.instanceMethod (ex_Y 89)) ∈ ex_tb := ex_in (i := 383) (by decide +kernel) (by decide +kernel)
theorem kt_736 : (Jvm.Cond.selects (ex_Y 89).cls (ex_Y 89) (ex_Y 89)) ∈ ex_tb := ex_in (i := 384) (by decide +kernel) (by decide +kernel)
theorem kt_737 : (Jvm.Cond.methodLink (ex_Rn 10) 80 (ex_Y 89)) ∈ ex_tb := ex_in (i := 382) (by decide +kernel) (by decide +kernel)
theorem kt_738 : (Jvm.Cond.instanceMethod (ex_Y 11)) ∈ ex_tb := ex_in (i := 486) (by decide +kernel) (by decide +kernel)
theorem kt_739 : (Jvm.Cond.selects (ex_Y 11).cls (ex_Y 11) (ex_Y 11)) ∈ ex_tb := ex_in (i := 487) (by decide +kernel) (by decide +kernel)
theorem kt_740 : (Jvm.Cond.methodLink (ex_Rn 10) 96 (ex_Y 11)) ∈ ex_tb := ex_in (i := 485) (by decide +kernel) (by decide +kernel)
theorem kt_741 : (Jvm.Cond.instanceMethod (ex_Y 0)) ∈ ex_tb := ex_in (i := 554) (by decide +kernel) (by decide +kernel)
theorem kt_742 : (Jvm.Cond.selects (ex_Y 0).cls (ex_Y 0) (ex_Y 0)) ∈ ex_tb := ex_in (i := 555) (by decide +kernel) (by decide +kernel)
theorem kt_743 : (Jvm.Cond.methodLink (ex_Rn 10) 100 (ex_Y 0)) ∈ ex_tb := ex_in (i := 553) (by decide +kernel) (by decide +kernel)
theorem kt_744 : (Jvm.Cond.methodLink (ex_Rn 10) 109 (ex_Y 20)) ∈ ex_tb := ex_in (i := 561) (by decide +kernel) (by decide +kernel)
theorem kt_745 : (Jvm.Cond.instanceMethod (ex_Y 65)) ∈ ex_tb := ex_in (i := 573) (by decide +kernel) (by decide +kernel)
theorem kt_746 : (Jvm.Cond.selects (ex_Y 65).cls (ex_Y 65) (ex_Y 65)) ∈ ex_tb := ex_in (i := 574) (by decide +kernel) (by decide +kernel)
theorem kt_747 : (Jvm.Cond.methodLink (ex_Rn 10) 113 (ex_Y 65)) ∈ ex_tb := ex_in (i := 572) (by decide +kernel) (by decide +kernel)
theorem kt_748 : (Jvm.Cond.instanceMethod (ex_Y 66)) ∈ ex_tb := ex_in (i := 581) (by decide +kernel) (by decide +kernel)
theorem kt_749 : (Jvm.Cond.selects (ex_Y 66).cls (ex_Y 66) (ex_Y 66)) ∈ ex_tb := ex_in (i := 582) (by decide +kernel) (by decide +kernel)
theorem kt_750 : (Jvm.Cond.methodLink (ex_Rn 10) 117 (ex_Y 66)) ∈ ex_tb := ex_in (i := 580) (by decide +kernel) (by decide +kernel)
theorem kt_751 : (Jvm.Cond.instanceMethod (ex_Y 64)) ∈ ex_tb := ex_in (i := 603) (by decide +kernel) (by decide +kernel)
theorem kt_752 : (Jvm.Cond.selects (ex_Y 64).cls (ex_Y 64) (ex_Y 64)) ∈ ex_tb := ex_in (i := 604) (by decide +kernel) (by decide +kernel)
theorem kt_753 : (Jvm.Cond.methodLink (ex_Rn 10) 121 (ex_Y 64)) ∈ ex_tb := ex_in (i := 602) (by decide +kernel) (by decide +kernel)
theorem kt_754 : (Jvm.Cond.instanceMethod (ex_Y 67)) ∈ ex_tb := ex_in (i := 611) (by decide +kernel) (by decide +kernel)
theorem kt_755 : (Jvm.Cond.selects (ex_Y 67).cls (ex_Y 67) (ex_Y 67)) ∈ ex_tb := ex_in (i := 612) (by decide +kernel) (by decide +kernel)
theorem kt_756 : (Jvm.Cond.methodLink (ex_Rn 10) 122 (ex_Y 67)) ∈ ex_tb := ex_in (i := 610) (by decide +kernel) (by decide +kernel)
theorem kt_757 : (Jvm.Cond.instanceMethod (ex_Y 21)) ∈ ex_tb := ex_in (i := 630) (by decide +kernel) (by decide +kernel)
theorem kt_758 : (Jvm.Cond.selects (ex_Y 21).cls (ex_Y 21) (ex_Y 21)) ∈ ex_tb := ex_in (i := 631) (by decide +kernel) (by decide +kernel)
theorem kt_759 : (Jvm.Cond.methodLink (ex_Rn 10) 129 (ex_Y 21)) ∈ ex_tb := ex_in (i := 629) (by decide +kernel) (by decide +kernel)
theorem kt_760 : (Jvm.Cond.instanceMethod (ex_Y 135)) ∈ ex_tb := ex_in (i := 635) (by decide +kernel) (by decide +kernel)
theorem kt_761 : (Jvm.Cond.selects (ex_Y 135).cls (ex_Y 135) (ex_Y 135)) ∈ ex_tb := ex_in (i := 18) (by decide +kernel) (by decide +kernel)
theorem kt_762 : (Jvm.Cond.methodLink (ex_Rn 10) 133 (ex_Y 135)) ∈ ex_tb := ex_in (i := 633) (by decide +kernel) (by decide +kernel)
theorem kt_763 : (Jvm.Cond.methodLink (ex_Rn 10) 136 (ex_Y 23)) ∈ ex_tb := ex_in (i := 673) (by decide +kernel) (by decide +kernel)
theorem kt_764 : (Jvm.Cond.methodLink (ex_Rn 10) 139 (ex_Y 27)) ∈ ex_tb := ex_in (i := 674) (by decide +kernel) (by decide +kernel)
theorem kt_765 : (Jvm.Cond.methodLink (ex_Rn 10) 147 (ex_Y 68)) ∈ ex_tb := ex_in (i := 685) (by decide +kernel) (by decide +kernel)
theorem kt_766 : (Jvm.Cond.methodLink (ex_Rn 10) 155 (ex_Y 91)) ∈ ex_tb := ex_in (i := 708) (by decide +kernel) (by decide +kernel)
theorem kt_767 : (Jvm.Cond.methodLink (ex_Rn 10) 158 (ex_Y 92)) ∈ ex_tb := ex_in (i := 709) (by decide +kernel) (by decide +kernel)
theorem kt_768 : (Jvm.Cond.instanceMethod (ex_Y 139)) ∈ ex_tb := ex_in (i := 716) (by decide +kernel) (by decide +kernel)
theorem kt_769 : (Jvm.Cond.selects (ex_Y 139).cls (ex_Y 139) (ex_Y 139)) ∈ ex_tb := ex_in (i := 21) (by decide +kernel) (by decide +kernel)
theorem kt_770 : (Jvm.Cond.methodLink (ex_Rn 10) 161 (ex_Y 139)) ∈ ex_tb := ex_in (i := 714) (by decide +kernel) (by decide +kernel)
theorem kt_771 : (Jvm.Cond.instanceMethod (ex_Y 138)) ∈ ex_tb := ex_in (i := 722) (by decide +kernel) (by decide +kernel)
theorem kt_772 : (Jvm.Cond.selects (ex_Y 138).cls (ex_Y 138) (ex_Y 138)) ∈ ex_tb := ex_in (i := 22) (by decide +kernel) (by decide +kernel)
theorem kt_773 : (Jvm.Cond.methodLink (ex_Rn 10) 164 (ex_Y 138)) ∈ ex_tb := ex_in (i := 720) (by decide +kernel) (by decide +kernel)
theorem kt_774 : (Jvm.Cond.instanceMethod (ex_Y 19)) ∈ ex_tb := ex_in (i := 732) (by decide +kernel) (by decide +kernel)
theorem kt_775 : (Jvm.Cond.selects (ex_Y 19).cls (ex_Y 19) (ex_Y 19)) ∈ ex_tb := ex_in (i := 733) (by decide +kernel) (by decide +kernel)
theorem kt_776 : (Jvm.Cond.methodLink (ex_Rn 10) 171 (ex_Y 19)) ∈ ex_tb := ex_in (i := 731) (by decide +kernel) (by decide +kernel)
theorem kt_777 : (Jvm.Cond.instanceMethod (ex_Y 140)) ∈ ex_tb := ex_in (i := 737) (by decide +kernel) (by decide +kernel)
theorem kt_778 : (Jvm.Cond.selects (ex_Y 140).cls (ex_Y 140) (ex_Y 140)) ∈ ex_tb := ex_in (i := 23) (by decide +kernel) (by decide +kernel)
theorem kt_779 : (Jvm.Cond.methodLink (ex_Rn 10) 174 (ex_Y 140)) ∈ ex_tb := ex_in (i := 735) (by decide +kernel) (by decide +kernel)
theorem kt_780 : (Jvm.Cond.methodLink (ex_Rn 10) 178 (ex_Y 24)) ∈ ex_tb := ex_in (i := 743) (by decide +kernel) (by decide +kernel)
theorem kt_781 : (Jvm.Cond.instanceMethod (ex_Y 137)) ∈ ex_tb := ex_in (i := 749) (by decide +kernel) (by decide +kernel)
theorem kt_782 : (Jvm.Cond.selects (ex_Y 137).cls (ex_Y 137) (ex_Y 137)) ∈ ex_tb := ex_in (i := 24) (by decide +kernel) (by decide +kernel)
theorem kt_783 : (Jvm.Cond.methodLink (ex_Rn 10) 184 (ex_Y 137)) ∈ ex_tb := ex_in (i := 747) (by decide +kernel) (by decide +kernel)
theorem kt_784 : (Jvm.Cond.methodLink (ex_Rn 10) 190 (ex_Y 90)) ∈ ex_tb := ex_in (i := 718) (by decide +kernel) (by decide +kernel)
theorem kt_785 : (Jvm.Cond.methodLink (ex_Rn 10) 191 (ex_Y 3)) ∈ ex_tb := ex_in (i := 760) (by decide +kernel) (by decide +kernel)
theorem kt_786 : (Jvm.Cond.instanceMethod (ex_Y 136)) ∈ ex_tb := ex_in (i := 770) (by decide +kernel) (by decide +kernel)
theorem kt_787 : (Jvm.Cond.selects (ex_Y 136).cls (ex_Y 136) (ex_Y 136)) ∈ ex_tb := ex_in (i := 25) (by decide +kernel) (by decide +kernel)
theorem kt_788 : (Jvm.Cond.methodLink (ex_Rn 10) 195 (ex_Y 136)) ∈ ex_tb := ex_in (i := 768) (by decide +kernel) (by decide +kernel)
theorem kt_789 : (Jvm.Cond.methodLink (ex_Rn 10) 198 (ex_Y 6)) ∈ ex_tb := ex_in (i := 783) (by decide +kernel) (by decide +kernel)
theorem kt_790 : (Jvm.Cond.instanceMethod (ex_Y 7)) ∈ ex_tb := ex_in (i := 785) (by decide +kernel) (by decide +kernel)
theorem kt_791 : (Jvm.Cond.selects (ex_Y 7).cls (ex_Y 7) (ex_Y 7)) ∈ ex_tb := ex_in (i := 786) (by decide +kernel) (by decide +kernel)
theorem kt_792 : (Jvm.Cond.methodLink (ex_Rn 10) 201 (ex_Y 7)) ∈ ex_tb := ex_in (i := 784) (by decide +kernel) (by decide +kernel)
theorem kt_793 : (Jvm.Cond.instanceMethod (ex_Y 41)) ∈ ex_tb := ex_in (i := 798) (by decide +kernel) (by decide +kernel)
theorem kt_794 : (Jvm.Cond.selects (ex_Y 41).cls (ex_Y 41) (ex_Y 41)) ∈ ex_tb := ex_in (i := 799) (by decide +kernel) (by decide +kernel)
theorem kt_795 : (Jvm.Cond.methodLink (ex_Rn 10) 208 (ex_Y 41)) ∈ ex_tb := ex_in (i := 797) (by decide +kernel) (by decide +kernel)
theorem kt_796 : (Jvm.Cond.instanceMethod (ex_Y 71)) ∈ ex_tb := ex_in (i := 832) (by decide +kernel) (by decide +kernel)
theorem kt_797 : (Jvm.Cond.selects (ex_Y 71).cls (ex_Y 71) (ex_Y 71)) ∈ ex_tb := ex_in (i := 833) (by decide +kernel) (by decide +kernel)
theorem kt_798 : (Jvm.Cond.methodLink (ex_Rn 10) 212 (ex_Y 71)) ∈ ex_tb := ex_in (i := 831) (by decide +kernel) (by decide +kernel)
theorem kt_799 : (Jvm.Cond.instanceMethod (ex_Y 82)) ∈ ex_tb := ex_in (i := 841) (by decide +kernel) (by decide +kernel)
theorem kt_800 : (Jvm.Cond.selects (ex_Y 82).cls (ex_Y 82) (ex_Y 82)) ∈ ex_tb := ex_in (i := 842) (by decide +kernel) (by decide +kernel)
theorem kt_801 : (Jvm.Cond.methodLink (ex_Rn 10) 216 (ex_Y 82)) ∈ ex_tb := ex_in (i := 840) (by decide +kernel) (by decide +kernel)
theorem kt_802 : (Jvm.Cond.instanceMethod (ex_Y 73)) ∈ ex_tb := ex_in (i := 874) (by decide +kernel) (by decide +kernel)
theorem kt_803 : (Jvm.Cond.selects (ex_Y 73).cls (ex_Y 73) (ex_Y 73)) ∈ ex_tb := ex_in (i := 875) (by decide +kernel) (by decide +kernel)
theorem kt_804 : (Jvm.Cond.methodLink (ex_Rn 10) 223 (ex_Y 73)) ∈ ex_tb := ex_in (i := 873) (by decide +kernel) (by decide +kernel)
theorem kt_805 : (Jvm.Cond.instanceMethod (ex_Y 52)) ∈ ex_tb := ex_in (i := 895) (by decide +kernel) (by decide +kernel)
theorem kt_806 : (Jvm.Cond.selects (ex_Y 52).cls (ex_Y 52) (ex_Y 52)) ∈ ex_tb := ex_in (i := 896) (by decide +kernel) (by decide +kernel)
theorem kt_807 : (Jvm.Cond.methodLink (ex_Rn 10) 227 (ex_Y 52)) ∈ ex_tb := ex_in (i := 894) (by decide +kernel) (by decide +kernel)
theorem kt_808 : (Jvm.Cond.instanceMethod (ex_Y 76)) ∈ ex_tb := ex_in (i := 899) (by decide +kernel) (by decide +kernel)
theorem kt_809 : (Jvm.Cond.selects (ex_Y 76).cls (ex_Y 76) (ex_Y 76)) ∈ ex_tb := ex_in (i := 900) (by decide +kernel) (by decide +kernel)
theorem kt_810 : (Jvm.Cond.methodLink (ex_Rn 10) 230 (ex_Y 76)) ∈ ex_tb := ex_in (i := 898) (by decide +kernel) (by decide +kernel)
theorem kt_811 : (Jvm.Cond.instanceMethod (ex_Y 78)) ∈ ex_tb := ex_in (i := 907) (by decide +kernel) (by decide +kernel)
theorem kt_812 : (Jvm.Cond.selects (ex_Y 78).cls (ex_Y 78) (ex_Y 78)) ∈ ex_tb := ex_in (i := 908) (by decide +kernel) (by decide +kernel)
theorem kt_813 : (Jvm.Cond.methodLink (ex_Rn 10) 234 (ex_Y 78)) ∈ ex_tb := ex_in (i := 906) (by decide +kernel) (by decide +kernel)
theorem kt_814 : (Jvm.Cond.instanceMethod (ex_Y 72)) ∈ ex_tb := ex_in (i := 915) (by decide +kernel) (by decide +kernel)
theorem kt_815 : (Jvm.Cond.selects (ex_Y 72).cls (ex_Y 72) (ex_Y 72)) ∈ ex_tb := ex_in (i := 916) (by decide +kernel) (by decide +kernel)
theorem kt_816 : (Jvm.Cond.methodLink (ex_Rn 10) 238 (ex_Y 72)) ∈ ex_tb := ex_in (i := 914) (by decide +kernel) (by decide +kernel)
theorem kt_817 : (Jvm.Cond.instanceMethod (ex_Y 9)) ∈ ex_tb := ex_in (i := 753) (by decide +kernel) (by decide +kernel)
theorem kt_818 : (Jvm.Cond.selects (ex_Y 9).cls (ex_Y 9) (ex_Y 9)) ∈ ex_tb := ex_in (i := 754) (by decide +kernel) (by decide +kernel)
theorem kt_819 : (Jvm.Cond.methodLink (ex_Rn 10) 240 (ex_Y 9)) ∈ ex_tb := ex_in (i := 752) (by decide +kernel) (by decide +kernel)
theorem kt_820 : (Jvm.Cond.instanceMethod (ex_Y 31)) ∈ ex_tb := ex_in (i := 923) (by decide +kernel) (by decide +kernel)
theorem kt_821 : (Jvm.Cond.selects (ex_Y 31).cls (ex_Y 31) (ex_Y 31)) ∈ ex_tb := ex_in (i := 924) (by decide +kernel) (by decide +kernel)
theorem kt_822 : (Jvm.Cond.methodLink (ex_Rn 10) 244 (ex_Y 31)) ∈ ex_tb := ex_in (i := 922) (by decide +kernel) (by decide +kernel)
theorem kt_823 : (Jvm.Cond.methodLink (ex_Rn 10) 247 (ex_Y 4)) ∈ ex_tb := ex_in (i := 772) (by decide +kernel) (by decide +kernel)
theorem kt_824 : (Jvm.Cond.methodLink (ex_Rn 10) 250 (ex_Y 25)) ∈ ex_tb := ex_in (i := 638) (by decide +kernel) (by decide +kernel)
theorem kt_825 : (Jvm.Cond.instanceMethod (ex_Y 8)) ∈ ex_tb := ex_in (i := 775) (by decide +kernel) (by decide +kernel)
theorem kt_826 : (Jvm.Cond.selects (ex_Y 8).cls (ex_Y 8) (ex_Y 8)) ∈ ex_tb := ex_in (i := 776) (by decide +kernel) (by decide +kernel)
theorem kt_827 : (Jvm.Cond.methodLink (ex_Rn 10) 253 (ex_Y 8)) ∈ ex_tb := ex_in (i := 774) (by decide +kernel) (by decide +kernel)
theorem kt_828 : (Jvm.Cond.methodLink (ex_Rn 10) 256 (ex_Y 29)) ∈ ex_tb := ex_in (i := 934) (by decide +kernel) (by decide +kernel)
theorem kt_829 : (Jvm.Cond.instanceMethod (ex_Y 141)) ∈ ex_tb := ex_in (i := 959) (by decide +kernel) (by decide +kernel)
theorem kt_830 : (Jvm.Cond.selects (ex_Y 141).cls (ex_Y 141) (ex_Y 141)) ∈ ex_tb := ex_in (i := 37) (by decide +kernel) (by decide +kernel)
theorem kt_831 : (Jvm.Cond.methodLink (ex_Rn 10) 265 (ex_Y 141)) ∈ ex_tb := ex_in (i := 957) (by decide +kernel) (by decide +kernel)
theorem kt_832 : (Jvm.Cond.instanceMethod (ex_Y 1)) ∈ ex_tb := ex_in (i := 970) (by decide +kernel) (by decide +kernel)
theorem kt_833 : (Jvm.Cond.selects (ex_Y 1).cls (ex_Y 1) (ex_Y 1)) ∈ ex_tb := ex_in (i := 971) (by decide +kernel) (by decide +kernel)
theorem kt_834 : (Jvm.Cond.methodLink (ex_Rn 10) 268 (ex_Y 1)) ∈ ex_tb := ex_in (i := 969) (by decide +kernel) (by decide +kernel)
theorem kt_835 : (Jvm.Cond.instanceMethod (ex_Y 143)) ∈ ex_tb := ex_in (i := 995) (by decide +kernel) (by decide +kernel)
theorem kt_836 : (Jvm.Cond.selects (ex_Y 143).cls (ex_Y 143) (ex_Y 143)) ∈ ex_tb := ex_in (i := 39) (by decide +kernel) (by decide +kernel)
theorem kt_837 : (Jvm.Cond.methodLink (ex_Rn 10) 274 (ex_Y 143)) ∈ ex_tb := ex_in (i := 993) (by decide +kernel) (by decide +kernel)
theorem kt_838 : (Jvm.Cond.instanceMethod (ex_Y 144)) ∈ ex_tb := ex_in (i := 1000) (by decide +kernel) (by decide +kernel)
theorem kt_839 : (Jvm.Cond.selects (ex_Y 144).cls (ex_Y 144) (ex_Y 144)) ∈ ex_tb := ex_in (i := 40) (by decide +kernel) (by decide +kernel)
theorem kt_840 : (Jvm.Cond.methodLink (ex_Rn 10) 278 (ex_Y 144)) ∈ ex_tb := ex_in (i := 998) (by decide +kernel) (by decide +kernel)
theorem kt_841 : (Jvm.Cond.instanceMethod (ex_Y 145)) ∈ ex_tb := ex_in (i := 1004) (by decide +kernel) (by decide +kernel)
theorem kt_842 : (Jvm.Cond.selects (ex_Y 145).cls (ex_Y 145) (ex_Y 145)) ∈ ex_tb := ex_in (i := 41) (by decide +kernel) (by decide +kernel)
theorem kt_843 : (Jvm.Cond.methodLink (ex_Rn 10) 281 (ex_Y 145)) ∈ ex_tb := ex_in (i := 1002) (by decide +kernel) (by decide +kernel)
theorem kt_844 : (Jvm.Cond.instanceMethod (ex_Y 146)) ∈ ex_tb := ex_in (i := 1008) (by decide +kernel) (by decide +kernel)
theorem kt_845 : (Jvm.Cond.selects (ex_Y 146).cls (ex_Y 146) (ex_Y 146)) ∈ ex_tb := ex_in (i := 42) (by decide +kernel) (by decide +kernel)
theorem kt_846 : (Jvm.Cond.methodLink (ex_Rn 10) 284 (ex_Y 146)) ∈ ex_tb := ex_in (i := 1006) (by decide +kernel) (by decide +kernel)
theorem kt_847 : (Jvm.Cond.instanceMethod (ex_Y 117)) ∈ ex_tb := ex_in (i := 794) (by decide +kernel) (by decide +kernel)
theorem kt_848 : (Jvm.Cond.selects (ex_Y 117).cls (ex_Y 117) (ex_Y 117)) ∈ ex_tb := ex_in (i := 795) (by decide +kernel) (by decide +kernel)
theorem kt_849 : (Jvm.Cond.methodLink (ex_Rn 10) 293 (ex_Y 117)) ∈ ex_tb := ex_in (i := 1013) (by decide +kernel) (by decide +kernel)
theorem kt_850 : (Jvm.Cond.methodLink (ex_Rn 10) 296 (ex_Y 88)) ∈ ex_tb := ex_in (i := 1014) (by decide +kernel) (by decide +kernel)
theorem kt_851 : (Jvm.Cond.instanceMethod (ex_Y 128)) ∈ ex_tb := ex_in (i := 985) (by decide +kernel) (by decide +kernel)
theorem kt_852 : (Jvm.Cond.selects (ex_Y 128).cls (ex_Y 128) (ex_Y 128)) ∈ ex_tb := ex_in (i := 986) (by decide +kernel) (by decide +kernel)
theorem kt_853 : (Jvm.Cond.methodLink (ex_Rn 10) 299 (ex_Y 128)) ∈ ex_tb := ex_in (i := 1015) (by decide +kernel) (by decide +kernel)
theorem kt_854 : (Jvm.Cond.methodLink (ex_Rn 10) 307 (ex_Y 22)) ∈ ex_tb := ex_in (i := 637) (by decide +kernel) (by decide +kernel)
theorem kt_855 : (Jvm.Cond.instanceMethod (ex_Y 10)) ∈ ex_tb := ex_in (i := 640) (by decide +kernel) (by decide +kernel)
theorem kt_856 : (Jvm.Cond.selects (ex_Y 10).cls (ex_Y 10) (ex_Y 10)) ∈ ex_tb := ex_in (i := 641) (by decide +kernel) (by decide +kernel)
theorem kt_857 : (Jvm.Cond.methodLink (ex_Rn 10) 308 (ex_Y 10)) ∈ ex_tb := ex_in (i := 639) (by decide +kernel) (by decide +kernel)
theorem kt_858 : (Jvm.Cond.methodLink (ex_Rn 10) 311 (ex_Y 28)) ∈ ex_tb := ex_in (i := 665) (by decide +kernel) (by decide +kernel)
theorem kt_859 : (Jvm.Cond.methodLink (ex_Rn 10) 314 (ex_Y 5)) ∈ ex_tb := ex_in (i := 773) (by decide +kernel) (by decide +kernel)
theorem kt_860 : (Jvm.Cond.methodLink (ex_Rn 10) 317 (ex_Y 30)) ∈ ex_tb := ex_in (i := 751) (by decide +kernel) (by decide +kernel)
theorem kt_861 : (Jvm.Cond.methodLink (ex_Rn 10) 320 (ex_Y 93)) ∈ ex_tb := ex_in (i := 719) (by decide +kernel) (by decide +kernel)
theorem kt_862 : (Jvm.Cond.instanceMethod (ex_Y 142)) ∈ ex_tb := ex_in (i := 963) (by decide +kernel) (by decide +kernel)
theorem kt_863 : (Jvm.Cond.selects (ex_Y 142).cls (ex_Y 142) (ex_Y 142)) ∈ ex_tb := ex_in (i := 38) (by decide +kernel) (by decide +kernel)
theorem kt_864 : (Jvm.Cond.methodLink (ex_Rn 10) 323 (ex_Y 142)) ∈ ex_tb := ex_in (i := 961) (by decide +kernel) (by decide +kernel)
theorem kq_V_10 : ∀ q ∈ ex_cV.getD 10 [], ex_PV 10 q.1 q.2 := List.forall_mem_cons.mpr ⟨⟨by decide, by unfold ex_ar; decide +kernel, kt_564, kt_565, kt_731, by decide +kernel⟩, List.forall_mem_cons.mpr ⟨⟨by decide, by unfold ex_ar; decide +kernel, kt_732, kt_733, kt_734, by decide +kernel⟩, List.forall_mem_cons.mpr ⟨⟨by decide, by unfold ex_ar; decide +kernel, kt_735, kt_736, kt_737, by decide +kernel⟩, List.forall_mem_cons.mpr ⟨⟨by decide, by unfold ex_ar; decide +kernel, kt_738, kt_739, kt_740, by decide +kernel⟩, List.forall_mem_cons.mpr ⟨⟨by decide, by unfold ex_ar; decide +kernel, kt_741, kt_742, kt_743, by decide +kernel⟩, List.forall_mem_cons.mpr ⟨⟨by decide, by unfold ex_ar; decide +kernel, kt_633, kt_634, kt_744, by decide +kernel⟩, List.forall_mem_cons.mpr ⟨⟨by decide, by unfold ex_ar; decide +kernel, kt_745, kt_746, kt_747, by decide +kernel⟩, List.forall_mem_cons.mpr ⟨⟨by decide, by unfold ex_ar; decide +kernel, kt_748, kt_749, kt_750, by decide +kernel⟩, List.forall_mem_cons.mpr ⟨⟨by decide, by unfold ex_ar; decide +kernel, kt_751, kt_752, kt_753, by decide +kernel⟩, List.forall_mem_cons.mpr ⟨⟨by decide, by unfold ex_ar; decide +kernel, kt_754, kt_755, kt_756, by decide +kernel⟩, List.forall_mem_cons.mpr ⟨⟨by decide, by unfold ex_ar; decide +kernel, kt_757, kt_758, kt_759, by decide +kernel⟩, List.forall_mem_cons.mpr ⟨⟨by decide, by unfold ex_ar; decide +kernel, kt_760, kt_761, kt_762, by decide +kernel⟩, List.forall_mem_cons.mpr ⟨⟨by decide, by unfold ex_ar; decide +kernel, kt_588, kt_589, kt_763, by decide +kernel⟩, List.forall_mem_cons.mpr ⟨⟨by decide, by unfold ex_ar; decide +kernel, kt_684, kt_685, kt_764, by decide +kernel⟩, List.forall_mem_cons.mpr ⟨⟨by decide, by unfold ex_ar; decide +kernel, kt_637, kt_638, kt_765, by decide +kernel⟩, List.forall_mem_cons.mpr ⟨⟨by decide, by unfold ex_ar; decide +kernel, kt_667, kt_668, kt_766, by decide +kernel⟩, List.forall_mem_cons.mpr ⟨⟨by decide, by unfold ex_ar; decide +kernel, kt_673, kt_674, kt_767, by decide +kernel⟩, List.forall_mem_cons.mpr ⟨⟨by decide, by unfold ex_ar; decide +kernel, kt_768, kt_769, kt_770, by decide +kernel⟩, List.forall_mem_cons.mpr ⟨⟨by decide, by unfold ex_ar; decide +kernel, kt_771, kt_772, kt_773, by decide +kernel⟩, List.forall_mem_cons.mpr ⟨⟨by decide, by unfold ex_ar; decide +kernel, kt_774, kt_775, kt_776, by decide +kernel⟩, List.forall_mem_cons.mpr ⟨⟨by decide, by unfold ex_ar; decide +kernel, kt_777, kt_778, kt_779, by decide +kernel⟩, List.forall_mem_cons.mpr ⟨⟨by decide, by unfold ex_ar; decide +kernel, kt_591, kt_592, kt_780, by decide +kernel⟩, List.forall_mem_cons.mpr ⟨⟨by decide, by unfold ex_ar; decide +kernel, kt_781, kt_782, kt_783, by decide +kernel⟩, List.forall_mem_cons.mpr ⟨⟨by decide, by unfold ex_ar; decide +kernel, kt_555, kt_556, kt_784, by decide +kernel⟩, List.forall_mem_cons.mpr ⟨⟨by decide, by unfold ex_ar; decide +kernel, kt_549, kt_550, kt_785, by decide +kernel⟩, List.forall_mem_cons.mpr ⟨⟨by decide, by unfold ex_ar; decide +kernel, kt_786, kt_787, kt_788, by decide +kernel⟩, List.forall_mem_cons.mpr ⟨⟨by decide, by unfold ex_ar; decide +kernel, kt_558, kt_559, kt_789, by decide +kernel⟩, List.forall_mem_cons.mpr ⟨⟨by decide, by unfold ex_ar; decide +kernel, kt_790, kt_791, kt_792, by decide +kernel⟩, List.forall_mem_cons.mpr ⟨⟨by decide, by unfold ex_ar; decide +kernel, kt_793, kt_794, kt_795, by decide +kernel⟩, List.forall_mem_cons.mpr ⟨⟨by decide, by unfold ex_ar; decide +kernel, kt_796, kt_797, kt_798, by decide +kernel⟩, List.forall_mem_cons.mpr ⟨⟨by decide, by unfold ex_ar; decide +kernel, kt_799, kt_800, kt_801, by decide +kernel⟩, List.forall_mem_cons.mpr ⟨⟨by decide, by unfold ex_ar; decide +kernel, kt_802, kt_803, kt_804, by decide +kernel⟩, List.forall_mem_cons.mpr ⟨⟨by decide, by unfold ex_ar; decide +kernel, kt_805, kt_806, kt_807, by decide +kernel⟩, List.forall_mem_cons.mpr ⟨⟨by decide, by unfold ex_ar; decide +kernel, kt_808, kt_809, kt_810, by decide +kernel⟩, List.forall_mem_cons.mpr ⟨⟨by decide, by unfold ex_ar; decide +kernel, kt_811, kt_812, kt_813, by decide +kernel⟩, List.forall_mem_cons.mpr ⟨⟨by decide, by unfold ex_ar; decide +kernel, kt_814, kt_815, kt_816, by decide +kernel⟩, List.forall_mem_cons.mpr ⟨⟨by decide, by unfold ex_ar; decide +kernel, kt_817, kt_818, kt_819, by decide +kernel⟩, List.forall_mem_cons.mpr ⟨⟨by decide, by unfold ex_ar; decide +kernel, kt_820, kt_821, kt_822, by decide +kernel⟩, List.forall_mem_cons.mpr ⟨⟨by decide, by unfold ex_ar; decide +kernel, kt_540, kt_541, kt_823, by decide +kernel⟩, List.forall_mem_cons.mpr ⟨⟨by decide, by unfold ex_ar; decide +kernel, kt_610, kt_611, kt_824, by decide +kernel⟩, List.forall_mem_cons.mpr ⟨⟨by decide, by unfold ex_ar; decide +kernel, kt_825, kt_826, kt_827, by decide +kernel⟩, List.forall_mem_cons.mpr ⟨⟨by decide, by unfold ex_ar; decide +kernel, kt_687, kt_688, kt_828, by decide +kernel⟩, List.forall_mem_cons.mpr ⟨⟨by decide, by unfold ex_ar; decide +kernel, kt_829, kt_830, kt_831, by decide +kernel⟩, List.forall_mem_cons.mpr ⟨⟨by decide, by unfold ex_ar; decide +kernel, kt_832, kt_833, kt_834, by decide +kernel⟩, List.forall_mem_cons.mpr ⟨⟨by decide, by unfold ex_ar; decide +kernel, kt_835, kt_836, kt_837, by decide +kernel⟩, List.forall_mem_cons.mpr ⟨⟨by decide, by unfold ex_ar; decide +kernel, kt_838, kt_839, kt_840, by decide +kernel⟩, List.forall_mem_cons.mpr ⟨⟨by decide, by unfold ex_ar; decide +kernel, kt_841, kt_842, kt_843, by decide +kernel⟩, List.forall_mem_cons.mpr ⟨⟨by decide, by unfold ex_ar; decide +kernel, kt_844, kt_845, kt_846, by decide +kernel⟩, List.forall_mem_cons.mpr ⟨⟨by decide, by unfold ex_ar; decide +kernel, kt_847, kt_848, kt_849, by decide +kernel⟩, List.forall_mem_cons.mpr ⟨⟨by decide, by unfold ex_ar; decide +kernel, kt_567, kt_568, kt_850, by decide +kernel⟩, List.forall_mem_cons.mpr ⟨⟨by decide, by unfold ex_ar; decide +kernel, kt_851, kt_852, kt_853, by decide +kernel⟩, List.forall_mem_cons.mpr ⟨⟨by decide, by unfold ex_ar; decide +kernel, kt_600, kt_601, kt_854, by decide +kernel⟩, List.forall_mem_cons.mpr ⟨⟨by decide, by unfold ex_ar; decide +kernel, kt_855, kt_856, kt_857, by decide +kernel⟩, List.forall_mem_cons.mpr ⟨⟨by decide, by unfold ex_ar; decide +kernel, kt_603, kt_604, kt_858, by decide +kernel⟩, List.forall_mem_cons.mpr ⟨⟨by decide, by unfold ex_ar; decide +kernel, kt_543, kt_544, kt_859, by decide +kernel⟩, List.forall_mem_cons.mpr ⟨⟨by decide, by unfold ex_ar; decide +kernel, kt_561, kt_562, kt_860, by decide +kernel⟩, List.forall_mem_cons.mpr ⟨⟨by decide, by unfold ex_ar; decide +kernel, kt_537, kt_538, kt_861, by decide +kernel⟩, List.forall_mem_cons.mpr ⟨⟨by decide, by unfold ex_ar; decide +kernel, kt_862, kt_863, kt_864, by decide +kernel⟩, fun _ h => absurd h List.not_mem_nil⟩⟩⟩⟩⟩⟩⟩⟩⟩⟩⟩⟩⟩⟩⟩⟩⟩⟩⟩⟩⟩⟩⟩⟩⟩⟩⟩⟩⟩⟩⟩⟩⟩⟩⟩⟩⟩⟩⟩⟩⟩⟩⟩⟩⟩⟩⟩⟩⟩⟩⟩⟩⟩⟩⟩⟩⟩⟩
theorem kt_865 : (Jvm.Cond.instanceMethod (ex_Y 153)) ∈ ex_tb := ex_in (i := 1220) (by decide +kernel) (by decide +kernel)
theorem kt_866 : (Jvm.Cond.selects (ex_Y 153).cls (ex_Y 153) (ex_Y 153)) ∈ ex_tb := ex_in (i := 44) (by decide +kernel) (by decide +kernel)
theorem kt_867 : (Jvm.Cond.methodLink (ex_Rn 11) 110 (ex_Y 153)) ∈ ex_tb := ex_in (i := 1218) (by decide +kernel) (by decide +kernel)
theorem kt_868 : (Jvm.Cond.instanceMethod (ex_Y 155)) ∈ ex_tb := ex_in (i := 1242) (by decide +kernel) (by decide +kernel)
theorem kt_869 : (Jvm.Cond.selects (ex_Y 155).cls (ex_Y 155) (ex_Y 155)) ∈ ex_tb := ex_in (i := 48) (by decide +kernel) (by decide +kernel)
theorem kt_870 : (Jvm.Cond.methodLink (ex_Rn 11) 129 (ex_Y 155)) ∈ ex_tb := ex_in (i := 1240) (by decide +kernel) (by decide +kernel)
theorem kt_871 : (Jvm.Cond.instanceMethod (ex_Y 156)) ∈ ex_tb := ex_in (i := 1246) (by decide +kernel) (by decide +kernel)
theorem kt_872 : (Jvm.Cond.selects (ex_Y 156).cls (ex_Y 156) (ex_Y 156)) ∈ ex_tb := ex_in (i := 49) (by decide +kernel) (by decide +kernel)
theorem kt_873 : (Jvm.Cond.methodLink (ex_Rn 11) 132 (ex_Y 156)) ∈ ex_tb := ex_in (i := 1244) (by decide +kernel) (by decide +kernel)
theorem kt_874 : (Jvm.Cond.instanceMethod (ex_Y 158)) ∈ ex_tb := ex_in (i := 1254) (by decide +kernel) (by decide +kernel)
theorem kt_875 : (Jvm.Cond.selects (ex_Y 158).cls (ex_Y 158) (ex_Y 158)) ∈ ex_tb := ex_in (i := 51) (by decide +kernel) (by decide +kernel)
theorem kt_876 : (Jvm.Cond.methodLink (ex_Rn 11) 136 (ex_Y 158)) ∈ ex_tb := ex_in (i := 1252) (by decide +kernel) (by decide +kernel)
theorem kt_877 : (Jvm.Cond.instanceMethod (ex_Y 157)) ∈ ex_tb := ex_in (i := 1238) (by decide +kernel) (by decide +kernel)
theorem kt_878 : (Jvm.Cond.selects (ex_Y 157).cls (ex_Y 157) (ex_Y 157)) ∈ ex_tb := ex_in (i := 47) (by decide +kernel) (by decide +kernel)
theorem kt_879 : (Jvm.Cond.methodLink (ex_Rn 11) 148 (ex_Y 157)) ∈ ex_tb := ex_in (i := 1236) (by decide +kernel) (by decide +kernel)
theorem kt_880 : (Jvm.Cond.instanceMethod (ex_Y 159)) ∈ ex_tb := ex_in (i := 1250) (by decide +kernel) (by decide +kernel)
theorem kt_881 : (Jvm.Cond.selects (ex_Y 159).cls (ex_Y 159) (ex_Y 159)) ∈ ex_tb := ex_in (i := 50) (by decide +kernel) (by decide +kernel)
theorem kt_882 : (Jvm.Cond.methodLink (ex_Rn 11) 152 (ex_Y 159)) ∈ ex_tb := ex_in (i := 1248) (by decide +kernel) (by decide +kernel)
theorem kt_883 : (Jvm.Cond.instanceMethod (ex_Y 160)) ∈ ex_tb := ex_in (i := 1231) (by decide +kernel) (by decide +kernel)
theorem kt_884 : (Jvm.Cond.selects (ex_Y 160).cls (ex_Y 160) (ex_Y 160)) ∈ ex_tb := ex_in (i := 46) (by decide +kernel) (by decide +kernel)
theorem kt_885 : (Jvm.Cond.methodLink (ex_Rn 11) 155 (ex_Y 160)) ∈ ex_tb := ex_in (i := 1229) (by decide +kernel) (by decide +kernel)
theorem kt_886 : (Jvm.Cond.instanceMethod (ex_Y 154)) ∈ ex_tb := ex_in (i := 1216) (by decide +kernel) (by decide +kernel)
theorem kt_887 : (Jvm.Cond.selects (ex_Y 154).cls (ex_Y 154) (ex_Y 154)) ∈ ex_tb := ex_in (i := 43) (by decide +kernel) (by decide +kernel)
theorem kt_888 : (Jvm.Cond.methodLink (ex_Rn 11) 159 (ex_Y 154)) ∈ ex_tb := ex_in (i := 1214) (by decide +kernel) (by decide +kernel)
theorem kt_889 : (Jvm.Cond.instanceMethod (ex_Y 161)) ∈ ex_tb := ex_in (i := 1227) (by decide +kernel) (by decide +kernel)
theorem kt_890 : (Jvm.Cond.selects (ex_Y 161).cls (ex_Y 161) (ex_Y 161)) ∈ ex_tb := ex_in (i := 45) (by decide +kernel) (by decide +kernel)
theorem kt_891 : (Jvm.Cond.methodLink (ex_Rn 11) 162 (ex_Y 161)) ∈ ex_tb := ex_in (i := 1225) (by decide +kernel) (by decide +kernel)
theorem kt_892 : (Jvm.Cond.instanceMethod (ex_Y 166)) ∈ ex_tb := ex_in (i := 1270) (by decide +kernel) (by decide +kernel)
theorem kt_893 : (Jvm.Cond.selects (ex_Y 166).cls (ex_Y 166) (ex_Y 166)) ∈ ex_tb := ex_in (i := 52) (by decide +kernel) (by decide +kernel)
theorem kt_894 : (Jvm.Cond.methodLink (ex_Rn 11) 192 (ex_Y 166)) ∈ ex_tb := ex_in (i := 1268) (by decide +kernel) (by decide +kernel)
theorem kt_895 : (Jvm.Cond.instanceMethod (ex_Y 165)) ∈ ex_tb := ex_in (i := 1274) (by decide +kernel) (by decide +kernel)
theorem kt_896 : (Jvm.Cond.selects (ex_Y 165).cls (ex_Y 165) (ex_Y 165)) ∈ ex_tb := ex_in (i := 53) (by decide +kernel) (by decide +kernel)
theorem kt_897 : (Jvm.Cond.methodLink (ex_Rn 11) 195 (ex_Y 165)) ∈ ex_tb := ex_in (i := 1272) (by decide +kernel) (by decide +kernel)
theorem kt_898 : (Jvm.Cond.instanceMethod (ex_Y 169)) ∈ ex_tb := ex_in (i := 1290) (by decide +kernel) (by decide +kernel)
theorem kt_899 : (Jvm.Cond.selects (ex_Y 169).cls (ex_Y 169) (ex_Y 169)) ∈ ex_tb := ex_in (i := 55) (by decide +kernel) (by decide +kernel)
theorem kt_900 : (Jvm.Cond.methodLink (ex_Rn 11) 198 (ex_Y 169)) ∈ ex_tb := ex_in (i := 1288) (by decide +kernel) (by decide +kernel)
theorem kt_901 : (Jvm.Cond.instanceMethod (ex_Y 170)) ∈ ex_tb := ex_in (i := 1286) (by decide +kernel) (by decide +kernel)
theorem kt_902 : (Jvm.Cond.selects (ex_Y 170).cls (ex_Y 170) (ex_Y 170)) ∈ ex_tb := ex_in (i := 54) (by decide +kernel) (by decide +kernel)
theorem kt_903 : (Jvm.Cond.methodLink (ex_Rn 11) 202 (ex_Y 170)) ∈ ex_tb := ex_in (i := 1284) (by decide +kernel) (by decide +kernel)
theorem kt_904 : (Jvm.Cond.instanceMethod (ex_Y 173)) ∈ ex_tb := ex_in (i := 1314) (by decide +kernel) (by decide +kernel)
theorem kt_905 : (Jvm.Cond.selects (ex_Y 173).cls (ex_Y 173) (ex_Y 173)) ∈ ex_tb := ex_in (i := 61) (by decide +kernel) (by decide +kernel)
theorem kt_906 : (Jvm.Cond.methodLink (ex_Rn 11) 205 (ex_Y 173)) ∈ ex_tb := ex_in (i := 1312) (by decide +kernel) (by decide +kernel)
theorem kt_907 : (Jvm.Cond.instanceMethod (ex_Y 174)) ∈ ex_tb := ex_in (i := 1310) (by decide +kernel) (by decide +kernel)
theorem kt_908 : (Jvm.Cond.selects (ex_Y 174).cls (ex_Y 174) (ex_Y 174)) ∈ ex_tb := ex_in (i := 60) (by decide +kernel) (by decide +kernel)
theorem kt_909 : (Jvm.Cond.methodLink (ex_Rn 11) 208 (ex_Y 174)) ∈ ex_tb := ex_in (i := 1308) (by decide +kernel) (by decide +kernel)
theorem kt_910 : (Jvm.Cond.instanceMethod (ex_Y 175)) ∈ ex_tb := ex_in (i := 1306) (by decide +kernel) (by decide +kernel)
theorem kt_911 : (Jvm.Cond.selects (ex_Y 175).cls (ex_Y 175) (ex_Y 175)) ∈ ex_tb := ex_in (i := 59) (by decide +kernel) (by decide +kernel)
theorem kt_912 : (Jvm.Cond.methodLink (ex_Rn 11) 211 (ex_Y 175)) ∈ ex_tb := ex_in (i := 1304) (by decide +kernel) (by decide +kernel)
theorem kt_913 : (Jvm.Cond.instanceMethod (ex_Y 176)) ∈ ex_tb := ex_in (i := 1302) (by decide +kernel) (by decide +kernel)
theorem kt_914 : (Jvm.Cond.selects (ex_Y 176).cls (ex_Y 176) (ex_Y 176)) ∈ ex_tb := ex_in (i := 58) (by decide +kernel) (by decide +kernel)
theorem kt_915 : (Jvm.Cond.methodLink (ex_Rn 11) 215 (ex_Y 176)) ∈ ex_tb := ex_in (i := 1300) (by decide +kernel) (by decide +kernel)
theorem kt_916 : (Jvm.Cond.instanceMethod (ex_Y 177)) ∈ ex_tb := ex_in (i := 1322) (by decide +kernel) (by decide +kernel)
theorem kt_917 : (Jvm.Cond.selects (ex_Y 177).cls (ex_Y 177) (ex_Y 177)) ∈ ex_tb := ex_in (i := 63) (by decide +kernel) (by decide +kernel)
theorem kt_918 : (Jvm.Cond.methodLink (ex_Rn 11) 218 (ex_Y 177)) ∈ ex_tb := ex_in (i := 1320) (by decide +kernel) (by decide +kernel)
theorem kt_919 : (Jvm.Cond.instanceMethod (ex_Y 172)) ∈ ex_tb := ex_in (i := 1298) (by decide +kernel) (by decide +kernel)
theorem kt_920 : (Jvm.Cond.selects (ex_Y 172).cls (ex_Y 172) (ex_Y 172)) ∈ ex_tb := ex_in (i := 57) (by decide +kernel) (by decide +kernel)
theorem kt_921 : (Jvm.Cond.methodLink (ex_Rn 11) 222 (ex_Y 172)) ∈ ex_tb := ex_in (i := 1296) (by decide +kernel) (by decide +kernel)
theorem kt_922 : (Jvm.Cond.instanceMethod (ex_Y 178)) ∈ ex_tb := ex_in (i := 1318) (by decide +kernel) (by decide +kernel)
theorem kt_923 : (Jvm.Cond.selects (ex_Y 178).cls (ex_Y 178) (ex_Y 178)) ∈ ex_tb := ex_in (i := 62) (by decide +kernel) (by decide +kernel)
theorem kt_924 : (Jvm.Cond.methodLink (ex_Rn 11) 225 (ex_Y 178)) ∈ ex_tb := ex_in (i := 1316) (by decide +kernel) (by decide +kernel)
theorem kt_925 : (Jvm.Cond.instanceMethod (ex_Y 179)) ∈ ex_tb := ex_in (i := 1294) (by decide +kernel) (by decide +kernel)
theorem kt_926 : (Jvm.Cond.selects (ex_Y 179).cls (ex_Y 179) (ex_Y 179)) ∈ ex_tb := ex_in (i := 56) (by decide +kernel) (by decide +kernel)
theorem kt_927 : (Jvm.Cond.methodLink (ex_Rn 11) 228 (ex_Y 179)) ∈ ex_tb := ex_in (i := 1292) (by decide +kernel) (by decide +kernel)
theorem kt_928 : (Jvm.Cond.instanceMethod (ex_Y 171)) ∈ ex_tb := ex_in (i := 1331) (by decide +kernel) (by decide +kernel)
theorem kt_929 : (Jvm.Cond.selects (ex_Y 171).cls (ex_Y 171) (ex_Y 171)) ∈ ex_tb := ex_in (i := 64) (by decide +kernel) (by decide +kernel)
theorem kt_930 : (Jvm.Cond.methodLink (ex_Rn 11) 231 (ex_Y 171)) ∈ ex_tb := ex_in (i := 1329) (by decide +kernel) (by decide +kernel)
theorem kt_931 : (Jvm.Cond.instanceMethod (ex_Y 181)) ∈ ex_tb := ex_in (i := 1338) (by decide +kernel) (by decide +kernel)
theorem kt_932 : (Jvm.Cond.selects (ex_Y 181).cls (ex_Y 181) (ex_Y 181)) ∈ ex_tb := ex_in (i := 65) (by decide +kernel) (by decide +kernel)
theorem kt_933 : (Jvm.Cond.methodLink (ex_Rn 11) 237 (ex_Y 181)) ∈ ex_tb := ex_in (i := 1336) (by decide +kernel) (by decide +kernel)
theorem kt_934 : (Jvm.Cond.instanceMethod (ex_Y 184)) ∈ ex_tb := ex_in (i := 1353) (by decide +kernel) (by decide +kernel)
theorem kt_935 : (Jvm.Cond.selects (ex_Y 184).cls (ex_Y 184) (ex_Y 184)) ∈ ex_tb := ex_in (i := 67) (by decide +kernel) (by decide +kernel)
theorem kt_936 : (Jvm.Cond.methodLink (ex_Rn 11) 241 (ex_Y 184)) ∈ ex_tb := ex_in (i := 1351) (by decide +kernel) (by decide +kernel)
theorem kt_937 : (Jvm.Cond.instanceMethod (ex_Y 185)) ∈ ex_tb := ex_in (i := 1357) (by decide +kernel) (by decide +kernel)
theorem kt_938 : (Jvm.Cond.selects (ex_Y 185).cls (ex_Y 185) (ex_Y 185)) ∈ ex_tb := ex_in (i := 68) (by decide +kernel) (by decide +kernel)
theorem kt_939 : (Jvm.Cond.methodLink (ex_Rn 11) 244 (ex_Y 185)) ∈ ex_tb := ex_in (i := 1355) (by decide +kernel) (by decide +kernel)
theorem kt_940 : (Jvm.Cond.instanceMethod (ex_Y 186)) ∈ ex_tb := ex_in (i := 1349) (by decide +kernel) (by decide +kernel)
theorem kt_941 : (Jvm.Cond.selects (ex_Y 186).cls (ex_Y 186) (ex_Y 186)) ∈ ex_tb := ex_in (i := 66) (by decide +kernel) (by decide +kernel)
theorem kt_942 : (Jvm.Cond.methodLink (ex_Rn 11) 251 (ex_Y 186)) ∈ ex_tb := ex_in (i := 1347) (by decide +kernel) (by decide +kernel)
theorem kt_943 : (Jvm.Cond.instanceMethod (ex_Y 190)) ∈ ex_tb := ex_in (i := 1369) (by decide +kernel) (by decide +kernel)
theorem kt_944 : (Jvm.Cond.selects (ex_Y 190).cls (ex_Y 190) (ex_Y 190)) ∈ ex_tb := ex_in (i := 69) (by decide +kernel) (by decide +kernel)
theorem kt_945 : (Jvm.Cond.methodLink (ex_Rn 11) 255 (ex_Y 190)) ∈ ex_tb := ex_in (i := 1367) (by decide +kernel) (by decide +kernel)
theorem kt_946 : (Jvm.Cond.instanceMethod (ex_Y 195)) ∈ ex_tb := ex_in (i := 1395) (by decide +kernel) (by decide +kernel)
theorem kt_947 : (Jvm.Cond.selects (ex_Y 195).cls (ex_Y 195) (ex_Y 195)) ∈ ex_tb := ex_in (i := 72) (by decide +kernel) (by decide +kernel)
theorem kt_948 : (Jvm.Cond.methodLink (ex_Rn 11) 261 (ex_Y 195)) ∈ ex_tb := ex_in (i := 1393) (by decide +kernel) (by decide +kernel)
theorem kt_949 : (Jvm.Cond.instanceMethod (ex_Y 196)) ∈ ex_tb := ex_in (i := 1407) (by decide +kernel) (by decide +kernel)
theorem kt_950 : (Jvm.Cond.selects (ex_Y 196).cls (ex_Y 196) (ex_Y 196)) ∈ ex_tb := ex_in (i := 75) (by decide +kernel) (by decide +kernel)
theorem kt_951 : (Jvm.Cond.methodLink (ex_Rn 11) 264 (ex_Y 196)) ∈ ex_tb := ex_in (i := 1405) (by decide +kernel) (by decide +kernel)
theorem kt_952 : (Jvm.Cond.instanceMethod (ex_Y 194)) ∈ ex_tb := ex_in (i := 1384) (by decide +kernel) (by decide +kernel)
theorem kt_953 : (Jvm.Cond.selects (ex_Y 194).cls (ex_Y 194) (ex_Y 194)) ∈ ex_tb := ex_in (i := 70) (by decide +kernel) (by decide +kernel)
theorem kt_954 : (Jvm.Cond.methodLink (ex_Rn 11) 267 (ex_Y 194)) ∈ ex_tb := ex_in (i := 1382) (by decide +kernel) (by decide +kernel)
theorem kt_955 : (Jvm.Cond.instanceMethod (ex_Y 201)) ∈ ex_tb := ex_in (i := 1391) (by decide +kernel) (by decide +kernel)
theorem kt_956 : (Jvm.Cond.selects (ex_Y 201).cls (ex_Y 201) (ex_Y 201)) ∈ ex_tb := ex_in (i := 71) (by decide +kernel) (by decide +kernel)
theorem kt_957 : (Jvm.Cond.methodLink (ex_Rn 11) 273 (ex_Y 201)) ∈ ex_tb := ex_in (i := 1389) (by decide +kernel) (by decide +kernel)
theorem kt_958 : (Jvm.Cond.instanceMethod (ex_Y 198)) ∈ ex_tb := ex_in (i := 1399) (by decide +kernel) (by decide +kernel)
theorem kt_959 : (Jvm.Cond.selects (ex_Y 198).cls (ex_Y 198) (ex_Y 198)) ∈ ex_tb := ex_in (i := 73) (by decide +kernel) (by decide +kernel)
theorem kt_960 : (Jvm.Cond.methodLink (ex_Rn 11) 276 (ex_Y 198)) ∈ ex_tb := ex_in (i := 1397) (by decide +kernel) (by decide +kernel)
theorem kt_961 : (Jvm.Cond.instanceMethod (ex_Y 197)) ∈ ex_tb := ex_in (i := 1403) (by decide +kernel) (by decide +kernel)
theorem kt_962 : (Jvm.Cond.selects (ex_Y 197).cls (ex_Y 197) (ex_Y 197)) ∈ ex_tb := ex_in (i := 74) (by decide +kernel) (by decide +kernel)
theorem kt_963 : (Jvm.Cond.methodLink (ex_Rn 11) 280 (ex_Y 197)) ∈ ex_tb := ex_in (i := 1401) (by decide +kernel) (by decide +kernel)
theorem kt_964 : (Jvm.Cond.instanceMethod (ex_Y 202)) ∈ ex_tb := ex_in (i := 1415) (by decide +kernel) (by decide +kernel)
theorem kt_965 : (Jvm.Cond.selects (ex_Y 202).cls (ex_Y 202) (ex_Y 202)) ∈ ex_tb := ex_in (i := 76) (by decide +kernel) (by decide +kernel)
theorem kt_966 : (Jvm.Cond.methodLink (ex_Rn 11) 284 (ex_Y 202)) ∈ ex_tb := ex_in (i := 1413) (by decide +kernel) (by decide +kernel)
theorem kt_967 : (Jvm.Cond.instanceMethod (ex_Y 204)) ∈ ex_tb := ex_in (i := 1423) (by decide +kernel) (by decide +kernel)
theorem kt_968 : (Jvm.Cond.selects (ex_Y 204).cls (ex_Y 204) (ex_Y 204)) ∈ ex_tb := ex_in (i := 77) (by decide +kernel) (by decide +kernel)
theorem kt_969 : (Jvm.Cond.methodLink (ex_Rn 11) 287 (ex_Y 204)) ∈ ex_tb := ex_in (i := 1421) (by decide +kernel) (by decide +kernel)
theorem kt_970 : (Jvm.Cond.instanceMethod (ex_Y 208)) ∈ ex_tb := ex_in (i := 1447) (by decide +kernel) (by decide +kernel)
theorem kt_971 : (Jvm.Cond.selects (ex_Y 208).cls (ex_Y 208) (ex_Y 208)) ∈ ex_tb := ex_in (i := 80) (by decide +kernel) (by decide +kernel)
theorem kt_972 : (Jvm.Cond.methodLink (ex_Rn 11) 290 (ex_Y 208)) ∈ ex_tb := ex_in (i := 1445) (by decide +kernel) (by decide +kernel)
theorem kt_973 : (Jvm.Cond.instanceMethod (ex_Y 209)) ∈ ex_tb := ex_in (i := 1451) (by decide +kernel) (by decide +kernel)
theorem kt_974 : (Jvm.Cond.selects (ex_Y 209).cls (ex_Y 209) (ex_Y 209)) ∈ ex_tb := ex_in (i := 81) (by decide +kernel) (by decide +kernel)
theorem kt_975 : (Jvm.Cond.methodLink (ex_Rn 11) 293 (ex_Y 209)) ∈ ex_tb := ex_in (i := 1449) (by decide +kernel) (by decide +kernel)
theorem kt_976 : (Jvm.Cond.instanceMethod (ex_Y 210)) ∈ ex_tb := ex_in (i := 1455) (by decide +kernel) (by decide +kernel)
theorem kt_977 : (Jvm.Cond.selects (ex_Y 210).cls (ex_Y 210) (ex_Y 210)) ∈ ex_tb := ex_in (i := 82) (by decide +kernel) (by decide +kernel)
theorem kt_978 : (Jvm.Cond.methodLink (ex_Rn 11) 296 (ex_Y 210)) ∈ ex_tb := ex_in (i := 1453) (by decide +kernel) (by decide +kernel)
theorem kt_979 : (Jvm.Cond.instanceMethod (ex_Y 211)) ∈ ex_tb := ex_in (i := 1443) (by decide +kernel) (by decide +kernel)
theorem kt_980 : (Jvm.Cond.selects (ex_Y 211).cls (ex_Y 211) (ex_Y 211)) ∈ ex_tb := ex_in (i := 79) (by decide +kernel) (by decide +kernel)
theorem kt_981 : (Jvm.Cond.methodLink (ex_Rn 11) 299 (ex_Y 211)) ∈ ex_tb := ex_in (i := 1441) (by decide +kernel) (by decide +kernel)
theorem kt_982 : (Jvm.Cond.instanceMethod (ex_Y 212)) ∈ ex_tb := ex_in (i := 1439) (by decide +kernel) (by decide +kernel)
theorem kt_983 : (Jvm.Cond.selects (ex_Y 212).cls (ex_Y 212) (ex_Y 212)) ∈ ex_tb := ex_in (i := 78) (by decide +kernel) (by decide +kernel)
theorem kt_984 : (Jvm.Cond.methodLink (ex_Rn 11) 302 (ex_Y 212)) ∈ ex_tb := ex_in (i := 1437) (by decide +kernel) (by decide +kernel)
theorem kt_985 : (Jvm.Cond.instanceMethod (ex_Y 215)) ∈ ex_tb := ex_in (i := 1475) (by decide +kernel) (by decide +kernel)
theorem kt_986 : (Jvm.Cond.selects (ex_Y 215).cls (ex_Y 215) (ex_Y 215)) ∈ ex_tb := ex_in (i := 86) (by decide +kernel) (by decide +kernel)
theorem kt_987 : (Jvm.Cond.methodLink (ex_Rn 11) 305 (ex_Y 215)) ∈ ex_tb := ex_in (i := 1473) (by decide +kernel) (by decide +kernel)
theorem kt_988 : (Jvm.Cond.instanceMethod (ex_Y 214)) ∈ ex_tb := ex_in (i := 1467) (by decide +kernel) (by decide +kernel)
theorem kt_989 : (Jvm.Cond.selects (ex_Y 214).cls (ex_Y 214) (ex_Y 214)) ∈ ex_tb := ex_in (i := 84) (by decide +kernel) (by decide +kernel)
theorem kt_990 : (Jvm.Cond.methodLink (ex_Rn 11) 308 (ex_Y 214)) ∈ ex_tb := ex_in (i := 1465) (by decide +kernel) (by decide +kernel)
theorem kt_991 : (Jvm.Cond.instanceMethod (ex_Y 217)) ∈ ex_tb := ex_in (i := 1483) (by decide +kernel) (by decide +kernel)
theorem kt_992 : (Jvm.Cond.selects (ex_Y 217).cls (ex_Y 217) (ex_Y 217)) ∈ ex_tb := ex_in (i := 88) (by decide +kernel) (by decide +kernel)
theorem kt_993 : (Jvm.Cond.methodLink (ex_Rn 11) 326 (ex_Y 217)) ∈ ex_tb := ex_in (i := 1481) (by decide +kernel) (by decide +kernel)
theorem kt_994 : (Jvm.Cond.instanceMethod (ex_Y 216)) ∈ ex_tb := ex_in (i := 1471) (by decide +kernel) (by decide +kernel)
theorem kt_995 : (Jvm.Cond.selects (ex_Y 216).cls (ex_Y 216) (ex_Y 216)) ∈ ex_tb := ex_in (i := 85) (by decide +kernel) (by decide +kernel)
theorem kt_996 : (Jvm.Cond.methodLink (ex_Rn 11) 329 (ex_Y 216)) ∈ ex_tb := ex_in (i := 1469) (by decide +kernel) (by decide +kernel)
theorem kt_997 : (Jvm.Cond.instanceMethod (ex_Y 218)) ∈ ex_tb := ex_in (i := 1479) (by decide +kernel) (by decide +kernel)
theorem kt_998 : (Jvm.Cond.selects (ex_Y 218).cls (ex_Y 218) (ex_Y 218)) ∈ ex_tb := ex_in (i := 87) (by decide +kernel) (by decide +kernel)
theorem kt_999 : (Jvm.Cond.methodLink (ex_Rn 11) 332 (ex_Y 218)) ∈ ex_tb := ex_in (i := 1477) (by decide +kernel) (by decide +kernel)
theorem kt_1000 : (Jvm.Cond.instanceMethod (ex_Y 219)) ∈ ex_tb := ex_in (i := 1463) (by decide +kernel) (by decide +kernel)
theorem kt_1001 : (Jvm.Cond.selects (ex_Y 219).cls (ex_Y 219) (ex_Y 219)) ∈ ex_tb := ex_in (i := 83) (by decide +kernel) (by decide +kernel)
theorem kt_1002 : (Jvm.Cond.methodLink (ex_Rn 11) 338 (ex_Y 219)) ∈ ex_tb := ex_in (i := 1461) (by decide +kernel) (by decide +kernel)
theorem kt_1003 : (Jvm.Cond.instanceMethod (ex_Y 227)) ∈ ex_tb := ex_in (i := 1515) (by decide +kernel) (by decide +kernel)
theorem kt_1004 : (Jvm.Cond.selects (ex_Y 227).cls (ex_Y 227) (ex_Y 227)) ∈ ex_tb := ex_in (i := 89) (by decide +kernel) (by decide +kernel)
theorem kt_1005 : (Jvm.Cond.methodLink (ex_Rn 11) 341 (ex_Y 227)) ∈ ex_tb := ex_in (i := 1513) (by decide +kernel) (by decide +kernel)
theorem kt_1006 : (Jvm.Cond.instanceMethod (ex_Y 231)) ∈ ex_tb := ex_in (i := 1531) (by decide +kernel) (by decide +kernel)
theorem kt_1007 : (Jvm.Cond.selects (ex_Y 231).cls (ex_Y 231) (ex_Y 231)) ∈ ex_tb := ex_in (i := 90) (by decide +kernel) (by decide +kernel)
theorem kt_1008 : (Jvm.Cond.methodLink (ex_Rn 11) 362 (ex_Y 231)) ∈ ex_tb := ex_in (i := 1529) (by decide +kernel) (by decide +kernel)
theorem kt_1009 : (Jvm.Cond.instanceMethod (ex_Y 233)) ∈ ex_tb := ex_in (i := 1544) (by decide +kernel) (by decide +kernel)
theorem kt_1010 : (Jvm.Cond.selects (ex_Y 233).cls (ex_Y 233) (ex_Y 233)) ∈ ex_tb := ex_in (i := 92) (by decide +kernel) (by decide +kernel)
theorem kt_1011 : (Jvm.Cond.methodLink (ex_Rn 11) 371 (ex_Y 233)) ∈ ex_tb := ex_in (i := 1542) (by decide +kernel) (by decide +kernel)
theorem kt_1012 : (Jvm.Cond.instanceMethod (ex_Y 234)) ∈ ex_tb := ex_in (i := 1540) (by decide +kernel) (by decide +kernel)
theorem kt_1013 : (Jvm.Cond.selects (ex_Y 234).cls (ex_Y 234) (ex_Y 234)) ∈ ex_tb := ex_in (i := 91) (by decide +kernel) (by decide +kernel)
theorem kt_1014 : (Jvm.Cond.methodLink (ex_Rn 11) 377 (ex_Y 234)) ∈ ex_tb := ex_in (i := 1538) (by decide +kernel) (by decide +kernel)
theorem kq_V_11 : ∀ q ∈ ex_cV.getD 11 [], ex_PV 11 q.1 q.2 := List.forall_mem_cons.mpr ⟨⟨by decide, by unfold ex_ar; decide +kernel, kt_865, kt_866, kt_867, by decide +kernel⟩, List.forall_mem_cons.mpr ⟨⟨by decide, by unfold ex_ar; decide +kernel, kt_868, kt_869, kt_870, by decide +kernel⟩, List.forall_mem_cons.mpr ⟨⟨by decide, by unfold ex_ar; decide +kernel, kt_871, kt_872, kt_873, by decide +kernel⟩, List.forall_mem_cons.mpr ⟨⟨by decide, by unfold ex_ar; decide +kernel, kt_874, kt_875, kt_876, by decide +kernel⟩, List.forall_mem_cons.mpr ⟨⟨by decide, by unfold ex_ar; decide +kernel, kt_877, kt_878, kt_879, by decide +kernel⟩, List.forall_mem_cons.mpr ⟨⟨by decide, by unfold ex_ar; decide +kernel, kt_880, kt_881, kt_882, by decide +kernel⟩, List.forall_mem_cons.mpr ⟨⟨by decide, by unfold ex_ar; decide +kernel, kt_883, kt_884, kt_885, by decide +kernel⟩, List.forall_mem_cons.mpr ⟨⟨by decide, by unfold ex_ar; decide +kernel, kt_886, kt_887, kt_888, by decide +kernel⟩, List.forall_mem_cons.mpr ⟨⟨by decide, by unfold ex_ar; decide +kernel, kt_889, kt_890, kt_891, by decide +kernel⟩, List.forall_mem_cons.mpr ⟨⟨by decide, by unfold ex_ar; decide +kernel, kt_892, kt_893, kt_894, by decide +kernel⟩, List.forall_mem_cons.mpr ⟨⟨by decide, by unfold ex_ar; decide +kernel, kt_895, kt_896, kt_897, by decide +kernel⟩, List.forall_mem_cons.mpr ⟨⟨by decide, by unfold ex_ar; decide +kernel, kt_898, kt_899, kt_900, by decide +kernel⟩, List.forall_mem_cons.mpr ⟨⟨by decide, by unfold ex_ar; decide +kernel, kt_901, kt_902, kt_903, by decide +kernel⟩, List.forall_mem_cons.mpr ⟨⟨by decide, by unfold ex_ar; decide +kernel, kt_904, kt_905, kt_906, by decide +kernel⟩, List.forall_mem_cons.mpr ⟨⟨by decide, by unfold ex_ar; decide +kernel, kt_907, kt_908, kt_909, by decide +kernel⟩, List.forall_mem_cons.mpr ⟨⟨by decide, by unfold ex_ar; decide +kernel, kt_910, kt_911, kt_912, by decide +kernel⟩, List.forall_mem_cons.mpr ⟨⟨by decide, by unfold ex_ar; decide +kernel, kt_913, kt_914, kt_915, by decide +kernel⟩, List.forall_mem_cons.mpr ⟨⟨by decide, by unfold ex_ar; decide +kernel, kt_916, kt_917, kt_918, by decide +kernel⟩, List.forall_mem_cons.mpr ⟨⟨by decide, by unfold ex_ar; decide +kernel, kt_919, kt_920, kt_921, by decide +kernel⟩, List.forall_mem_cons.mpr ⟨⟨by decide, by unfold ex_ar; decide +kernel, kt_922, kt_923, kt_924, by decide +kernel⟩, List.forall_mem_cons.mpr ⟨⟨by decide, by unfold ex_ar; decide +kernel, kt_925, kt_926, kt_927, by decide +kernel⟩, List.forall_mem_cons.mpr ⟨⟨by decide, by unfold ex_ar; decide +kernel, kt_928, kt_929, kt_930, by decide +kernel⟩, List.forall_mem_cons.mpr ⟨⟨by decide, by unfold ex_ar; decide +kernel, kt_931, kt_932, kt_933, by decide +kernel⟩, List.forall_mem_cons.mpr ⟨⟨by decide, by unfold ex_ar; decide +kernel, kt_934, kt_935, kt_936, by decide +kernel⟩, List.forall_mem_cons.mpr ⟨⟨by decide, by unfold ex_ar; decide +kernel, kt_937, kt_938, kt_939, by decide +kernel⟩, List.forall_mem_cons.mpr ⟨⟨by decide, by unfold ex_ar; decide +kernel, kt_940, kt_941, kt_942, by decide +kernel⟩, List.forall_mem_cons.mpr ⟨⟨by decide, by unfold ex_ar; decide +kernel, kt_943, kt_944, kt_945, by decide +kernel⟩, List.forall_mem_cons.mpr ⟨⟨by decide, by unfold ex_ar; decide +kernel, kt_946, kt_947, kt_948, by decide +kernel⟩, List.forall_mem_cons.mpr ⟨⟨by decide, by unfold ex_ar; decide +kernel, kt_949, kt_950, kt_951, by decide +kernel⟩, List.forall_mem_cons.mpr ⟨⟨by decide, by unfold ex_ar; decide +kernel, kt_952, kt_953, kt_954, by decide +kernel⟩, List.forall_mem_cons.mpr ⟨⟨by decide, by unfold ex_ar; decide +kernel, kt_955, kt_956, kt_957, by decide +kernel⟩, List.forall_mem_cons.mpr ⟨⟨by decide, by unfold ex_ar; decide +kernel, kt_958, kt_959, kt_960, by decide +kernel⟩, List.forall_mem_cons.mpr ⟨⟨by decide, by unfold ex_ar; decide +kernel, kt_961, kt_962, kt_963, by decide +kernel⟩, List.forall_mem_cons.mpr ⟨⟨by decide, by unfold ex_ar; decide +kernel, kt_964, kt_965, kt_966, by decide +kernel⟩, List.forall_mem_cons.mpr ⟨⟨by decide, by unfold ex_ar; decide +kernel, kt_967, kt_968, kt_969, by decide +kernel⟩, List.forall_mem_cons.mpr ⟨⟨by decide, by unfold ex_ar; decide +kernel, kt_970, kt_971, kt_972, by decide +kernel⟩, List.forall_mem_cons.mpr ⟨⟨by decide, by unfold ex_ar; decide +kernel, kt_973, kt_974, kt_975, by decide +kernel⟩, List.forall_mem_cons.mpr ⟨⟨by decide, by unfold ex_ar; decide +kernel, kt_976, kt_977, kt_978, by decide +kernel⟩, List.forall_mem_cons.mpr ⟨⟨by decide, by unfold ex_ar; decide +kernel, kt_979, kt_980, kt_981, by decide +kernel⟩, List.forall_mem_cons.mpr ⟨⟨by decide, by unfold ex_ar; decide +kernel, kt_982, kt_983, kt_984, by decide +kernel⟩, List.forall_mem_cons.mpr ⟨⟨by decide, by unfold ex_ar; decide +kernel, kt_985, kt_986, kt_987, by decide +kernel⟩, List.forall_mem_cons.mpr ⟨⟨by decide, by unfold ex_ar; decide +kernel, kt_988, kt_989, kt_990, by decide +kernel⟩, List.forall_mem_cons.mpr ⟨⟨by decide, by unfold ex_ar; decide +kernel, kt_991, kt_992, kt_993, by decide +kernel⟩, List.forall_mem_cons.mpr ⟨⟨by decide, by unfold ex_ar; decide +kernel, kt_994, kt_995, kt_996, by decide +kernel⟩, List.forall_mem_cons.mpr ⟨⟨by decide, by unfold ex_ar; decide +kernel, kt_997, kt_998, kt_999, by decide +kernel⟩, List.forall_mem_cons.mpr ⟨⟨by decide, by unfold ex_ar; decide +kernel, kt_1000, kt_1001, kt_1002, by decide +kernel⟩, List.forall_mem_cons.mpr ⟨⟨by decide, by unfold ex_ar; decide +kernel, kt_1003, kt_1004, kt_1005, by decide +kernel⟩, List.forall_mem_cons.mpr ⟨⟨by decide, by unfold ex_ar; decide +kernel, kt_1006, kt_1007, kt_1008, by decide +kernel⟩, List.forall_mem_cons.mpr ⟨⟨by decide, by unfold ex_ar; decide +kernel, kt_1009, kt_1010, kt_1011, by decide +kernel⟩, List.forall_mem_cons.mpr ⟨⟨by decide, by unfold ex_ar; decide +kernel, kt_1012, kt_1013, kt_1014, by decide +kernel⟩, fun _ h => absurd h List.not_mem_nil⟩⟩⟩⟩⟩⟩⟩⟩⟩⟩⟩⟩⟩⟩⟩⟩⟩⟩⟩⟩⟩⟩⟩⟩⟩⟩⟩⟩⟩⟩⟩⟩⟩⟩⟩⟩⟩⟩⟩⟩⟩⟩⟩⟩⟩⟩⟩⟩⟩⟩
theorem kq_V {c : Nat} (hc : c < 12) : ∀ q ∈ ex_cV.getD c [], ex_PV c q.1 q.2 := by
  match c, hc with
  | 0, _ => exact kq_V_0
  | 1, _ => exact kq_V_1
  | 2, _ => exact kq_V_2
  | 3, _ => exact kq_V_3
  | 4, _ => exact kq_V_4
  | 5, _ => exact kq_V_5
  | 6, _ => exact kq_V_6
  | 7, _ => exact kq_V_7
  | 8, _ => exact kq_V_8
  | 9, _ => exact kq_V_9
  | 10, _ => exact kq_V_10
  | 11, _ => exact kq_V_11
def ex_PJ (c a e : Nat) : Prop := (e = 0 ∧ Jvm.Cond.methodLink (ex_Rn c) a Lib.Math.max.name ∈ ex_tb) ∨ (e = 1 ∧ Jvm.Cond.methodLink (ex_Rn c) a Lib.Math.min.name ∈ ex_tb) ∨ (e = 2 ∧ Jvm.Cond.methodLink (ex_Rn c) a arraycopyName ∈ ex_tb)
theorem kq_J_0 : ∀ q ∈ ex_cJ.getD 0 [], ex_PJ 0 q.1 q.2 := fun _ h => absurd h List.not_mem_nil
theorem kq_J_1 : ∀ q ∈ ex_cJ.getD 1 [], ex_PJ 1 q.1 q.2 := fun _ h => absurd h List.not_mem_nil
theorem kq_J_2 : ∀ q ∈ ex_cJ.getD 2 [], ex_PJ 2 q.1 q.2 := fun _ h => absurd h List.not_mem_nil
theorem kt_1015 : (Jvm.Cond.methodLink (ex_Rn 3) 30 Lib.Math.min.name) ∈ ex_tb := ex_in (i := 802) (by decide +kernel) (by decide +kernel)
theorem kq_J_3 : ∀ q ∈ ex_cJ.getD 3 [], ex_PJ 3 q.1 q.2 := List.forall_mem_cons.mpr ⟨Or.inr (Or.inl ⟨rfl, kt_1015⟩), fun _ h => absurd h List.not_mem_nil⟩
theorem kq_J_4 : ∀ q ∈ ex_cJ.getD 4 [], ex_PJ 4 q.1 q.2 := fun _ h => absurd h List.not_mem_nil
theorem kq_J_5 : ∀ q ∈ ex_cJ.getD 5 [], ex_PJ 5 q.1 q.2 := fun _ h => absurd h List.not_mem_nil
theorem kt_1016 : (Jvm.Cond.methodLink (ex_Rn 6) 36 Lib.Math.min.name) ∈ ex_tb := ex_in (i := 836) (by decide +kernel) (by decide +kernel)
theorem kq_J_6 : ∀ q ∈ ex_cJ.getD 6 [], ex_PJ 6 q.1 q.2 := List.forall_mem_cons.mpr ⟨Or.inr (Or.inl ⟨rfl, kt_1016⟩), fun _ h => absurd h List.not_mem_nil⟩
theorem kq_J_7 : ∀ q ∈ ex_cJ.getD 7 [], ex_PJ 7 q.1 q.2 := fun _ h => absurd h List.not_mem_nil
theorem kt_1017 : (Jvm.Cond.methodLink (ex_Rn 8) 34 arraycopyName) ∈ ex_tb := ex_in (i := 977) (by decide +kernel) (by decide +kernel)
theorem kq_J_8 : ∀ q ∈ ex_cJ.getD 8 [], ex_PJ 8 q.1 q.2 := List.forall_mem_cons.mpr ⟨Or.inr (Or.inr ⟨rfl, kt_1017⟩), fun _ h => absurd h List.not_mem_nil⟩
theorem kq_J_9 : ∀ q ∈ ex_cJ.getD 9 [], ex_PJ 9 q.1 q.2 := fun _ h => absurd h List.not_mem_nil
theorem kt_1018 : (Jvm.Cond.methodLink (ex_Rn 10) 302 Lib.Math.max.name) ∈ ex_tb := ex_in (i := 942) (by decide +kernel) (by decide +kernel)
theorem kq_J_10 : ∀ q ∈ ex_cJ.getD 10 [], ex_PJ 10 q.1 q.2 := List.forall_mem_cons.mpr ⟨Or.inl ⟨rfl, kt_1018⟩, fun _ h => absurd h List.not_mem_nil⟩
theorem kq_J_11 : ∀ q ∈ ex_cJ.getD 11 [], ex_PJ 11 q.1 q.2 := fun _ h => absurd h List.not_mem_nil
theorem kq_J {c : Nat} (hc : c < 12) : ∀ q ∈ ex_cJ.getD c [], ex_PJ c q.1 q.2 := by
  match c, hc with
  | 0, _ => exact kq_J_0
  | 1, _ => exact kq_J_1
  | 2, _ => exact kq_J_2
  | 3, _ => exact kq_J_3
  | 4, _ => exact kq_J_4
  | 5, _ => exact kq_J_5
  | 6, _ => exact kq_J_6
  | 7, _ => exact kq_J_7
  | 8, _ => exact kq_J_8
  | 9, _ => exact kq_J_9
  | 10, _ => exact kq_J_10
  | 11, _ => exact kq_J_11
theorem kt_1019 : (Jvm.Cond.static Lib.Math.max.name) ∈ ex_tb := ex_in (i := 943) (by decide +kernel) (by decide +kernel)
theorem kt_1020 : (Jvm.Cond.code Lib.Math.max.name Lib.Math.max.code 2 (some .int)) ∈ ex_tb := ex_in (i := 944) (by decide +kernel) (by decide +kernel)
theorem ks_max : Jvm.Cond.static Lib.Math.max.name ∈ ex_tb ∧ Jvm.Cond.code Lib.Math.max.name Lib.Math.max.code 2 (some .int) ∈ ex_tb := ⟨kt_1019, kt_1020⟩
theorem kt_1021 : (Jvm.Cond.static Lib.Math.min.name) ∈ ex_tb := ex_in (i := 803) (by decide +kernel) (by decide +kernel)
theorem kt_1022 : (Jvm.Cond.code Lib.Math.min.name Lib.Math.min.code 2 (some .int)) ∈ ex_tb := ex_in (i := 804) (by decide +kernel) (by decide +kernel)
theorem ks_min : Jvm.Cond.static Lib.Math.min.name ∈ ex_tb ∧ Jvm.Cond.code Lib.Math.min.name Lib.Math.min.code 2 (some .int) ∈ ex_tb := ⟨kt_1021, kt_1022⟩
theorem kt_1023 : (Jvm.Cond.initialized "java/lang/Math") ∈ ex_tb := ex_in (i := 106) (by decide +kernel) (by decide +kernel)
theorem ks_math : Jvm.Cond.initialized "java/lang/Math" ∈ ex_tb := kt_1023
theorem kt_1024 : (Jvm.Cond.native arraycopyName) ∈ ex_tb := ex_in (i := 979) (by decide +kernel) (by decide +kernel)
theorem kt_1025 : (Jvm.Cond.static arraycopyName) ∈ ex_tb := ex_in (i := 978) (by decide +kernel) (by decide +kernel)
theorem kt_1026 : (Jvm.Cond.initialized "java/lang/System") ∈ ex_tb := ex_in (i := 107) (by decide +kernel) (by decide +kernel)
theorem ks_copy : Jvm.Cond.native arraycopyName ∈ ex_tb ∧ Jvm.Cond.static arraycopyName ∈ ex_tb ∧ Jvm.Cond.initialized "java/lang/System" ∈ ex_tb := ⟨kt_1024, kt_1025, kt_1026⟩
def ex_X : List (MethodName × String) := [(⟨"BorderThroughBed$HouseText", "taken", "(LBorderThroughBed$Page;)I"⟩, "BorderThroughBed$Text"), (⟨"BorderThroughBed$Text", "begin", "()V"⟩, "BorderThroughBed$Text"), (⟨"BorderThroughBed$Text", "takes", "(I)Z"⟩, "BorderThroughBed$Text"), (⟨"BorderThroughBed$LawText", "taken", "(LBorderThroughBed$Page;)I"⟩, "BorderThroughBed$Text"), (⟨"BorderThroughBed$HouseText", "isOn", "(LBorderThroughBed$Page;)Z"⟩, "BorderThroughBed$Text"), (⟨"BorderThroughBed$Text", "taken", "(LBorderThroughBed$Page;)I"⟩, "BorderThroughBed$Text"), (⟨"BorderThroughBed$Text", "isWhole", "()Z"⟩, "BorderThroughBed$Text"), (⟨"BorderThroughBed$LawText", "isOn", "(LBorderThroughBed$Page;)Z"⟩, "BorderThroughBed$Text")]
def ex_Xm (x : Nat) : MethodName := (ex_X.getD x (⟨"", "", ""⟩, "")).1
/-- a site of dispatch: the class of the receiver C, the method y: what stands in the tables -/
def ex_PD (c a x n C y : Nat) : Prop := y < 236 ∧ C < 9 ∧ (parseMethodDescriptor (ex_Xm x).desc).map (fun d => d.parameters.length) = some n ∧ Jvm.Cond.methodLink (ex_Rn c) a (ex_Xm x) ∈ ex_tb ∧ Jvm.Cond.sameMethod (ex_Xm x).cls "BorderThroughBed$Text" (ex_Xm x).name (ex_Xm x).desc ∈ ex_tb ∧ Jvm.Cond.declares ⟨"BorderThroughBed$Text", (ex_Xm x).name, (ex_Xm x).desc⟩ ∈ ex_nw ∧ Jvm.Cond.selects (ex_Rn C) (ex_Xm x) (ex_Y y) ∈ ex_tb ∧ Jvm.Cond.instanceMethod (ex_Y y) ∈ ex_tb ∧ (C = ex_C y ∨ (ex_C y = 9 ∧ (C = 2 ∨ C = 4)))
theorem kt_1027 : (Jvm.Cond.methodLink (ex_Rn 10) 87 (ex_Xm 0)) ∈ ex_tb := ex_in (i := 393) (by decide +kernel) (by decide +kernel)
theorem kt_1028 : (Jvm.Cond.sameMethod (ex_Xm 0).cls "BorderThroughBed$Text" (ex_Xm 0).name (ex_Xm 0).desc) ∈ ex_tb := ex_in (i := 394) (by decide +kernel) (by decide +kernel)
theorem kt_1029 : (Jvm.Cond.instanceMethod (ex_Y 97)) ∈ ex_tb := ex_in (i := 397) (by decide +kernel) (by decide +kernel)
theorem kt_1030 : (Jvm.Cond.selects (ex_Rn 2) (ex_Xm 0) (ex_Y 97)) ∈ ex_tb := ex_in (i := 396) (by decide +kernel) (by decide +kernel)
theorem kx_0_2 : ex_PD 10 87 0 1 2 97 := ⟨by decide, by decide, by decide +kernel, kt_1027, kt_1028, List.mem_of_getElem? (i := 15) (by decide +kernel), kt_1030, kt_1029, by decide +kernel⟩
theorem kt_1031 : (Jvm.Cond.methodLink (ex_Rn 9) 7 (ex_Xm 1)) ∈ ex_tb := ex_in (i := 399) (by decide +kernel) (by decide +kernel)
theorem kt_1032 : (Jvm.Cond.sameMethod (ex_Xm 1).cls "BorderThroughBed$Text" (ex_Xm 1).name (ex_Xm 1).desc) ∈ ex_tb := ex_in (i := 401) (by decide +kernel) (by decide +kernel)
theorem kt_1033 : (Jvm.Cond.instanceMethod (ex_Y 34)) ∈ ex_tb := ex_in (i := 403) (by decide +kernel) (by decide +kernel)
theorem kt_1034 : (Jvm.Cond.selects (ex_Rn 2) (ex_Xm 1) (ex_Y 34)) ∈ ex_tb := ex_in (i := 402) (by decide +kernel) (by decide +kernel)
theorem kt_1035 : (Jvm.Cond.instanceMethod (ex_Y 53)) ∈ ex_tb := ex_in (i := 406) (by decide +kernel) (by decide +kernel)
theorem kt_1036 : (Jvm.Cond.selects (ex_Rn 4) (ex_Xm 1) (ex_Y 53)) ∈ ex_tb := ex_in (i := 405) (by decide +kernel) (by decide +kernel)
theorem kx_1_2 : ex_PD 9 7 1 0 2 34 := ⟨by decide, by decide, by decide +kernel, kt_1031, kt_1032, List.mem_of_getElem? (i := 16) (by decide +kernel), kt_1034, kt_1033, by decide +kernel⟩
theorem kx_1_4 : ex_PD 9 7 1 0 4 53 := ⟨by decide, by decide, by decide +kernel, kt_1031, kt_1032, List.mem_of_getElem? (i := 16) (by decide +kernel), kt_1036, kt_1035, by decide +kernel⟩
theorem kt_1037 : (Jvm.Cond.methodLink (ex_Rn 9) 22 (ex_Xm 2)) ∈ ex_tb := ex_in (i := 414) (by decide +kernel) (by decide +kernel)
theorem kt_1038 : (Jvm.Cond.sameMethod (ex_Xm 2).cls "BorderThroughBed$Text" (ex_Xm 2).name (ex_Xm 2).desc) ∈ ex_tb := ex_in (i := 416) (by decide +kernel) (by decide +kernel)
theorem kt_1039 : (Jvm.Cond.instanceMethod (ex_Y 35)) ∈ ex_tb := ex_in (i := 418) (by decide +kernel) (by decide +kernel)
theorem kt_1040 : (Jvm.Cond.selects (ex_Rn 2) (ex_Xm 2) (ex_Y 35)) ∈ ex_tb := ex_in (i := 417) (by decide +kernel) (by decide +kernel)
theorem kt_1041 : (Jvm.Cond.instanceMethod (ex_Y 54)) ∈ ex_tb := ex_in (i := 437) (by decide +kernel) (by decide +kernel)
theorem kt_1042 : (Jvm.Cond.selects (ex_Rn 4) (ex_Xm 2) (ex_Y 54)) ∈ ex_tb := ex_in (i := 436) (by decide +kernel) (by decide +kernel)
theorem kx_2_2 : ex_PD 9 22 2 1 2 35 := ⟨by decide, by decide, by decide +kernel, kt_1037, kt_1038, List.mem_of_getElem? (i := 17) (by decide +kernel), kt_1040, kt_1039, by decide +kernel⟩
theorem kx_2_4 : ex_PD 9 22 2 1 4 54 := ⟨by decide, by decide, by decide +kernel, kt_1037, kt_1038, List.mem_of_getElem? (i := 17) (by decide +kernel), kt_1042, kt_1041, by decide +kernel⟩
theorem kt_1043 : (Jvm.Cond.methodLink (ex_Rn 10) 91 (ex_Xm 3)) ∈ ex_tb := ex_in (i := 462) (by decide +kernel) (by decide +kernel)
theorem kt_1044 : (Jvm.Cond.sameMethod (ex_Xm 3).cls "BorderThroughBed$Text" (ex_Xm 3).name (ex_Xm 3).desc) ∈ ex_tb := ex_in (i := 463) (by decide +kernel) (by decide +kernel)
theorem kt_1045 : (Jvm.Cond.selects (ex_Rn 4) (ex_Xm 3) (ex_Y 97)) ∈ ex_tb := ex_in (i := 464) (by decide +kernel) (by decide +kernel)
theorem kx_3_4 : ex_PD 10 91 3 1 4 97 := ⟨by decide, by decide, by decide +kernel, kt_1043, kt_1044, List.mem_of_getElem? (i := 15) (by decide +kernel), kt_1045, kt_1029, by decide +kernel⟩
theorem kt_1046 : (Jvm.Cond.methodLink (ex_Rn 10) 92 (ex_Xm 4)) ∈ ex_tb := ex_in (i := 469) (by decide +kernel) (by decide +kernel)
theorem kt_1047 : (Jvm.Cond.sameMethod (ex_Xm 4).cls "BorderThroughBed$Text" (ex_Xm 4).name (ex_Xm 4).desc) ∈ ex_tb := ex_in (i := 470) (by decide +kernel) (by decide +kernel)
theorem kt_1048 : (Jvm.Cond.instanceMethod (ex_Y 98)) ∈ ex_tb := ex_in (i := 473) (by decide +kernel) (by decide +kernel)
theorem kt_1049 : (Jvm.Cond.selects (ex_Rn 2) (ex_Xm 4) (ex_Y 98)) ∈ ex_tb := ex_in (i := 472) (by decide +kernel) (by decide +kernel)
theorem kx_4_2 : ex_PD 10 92 4 1 2 98 := ⟨by decide, by decide, by decide +kernel, kt_1046, kt_1047, List.mem_of_getElem? (i := 18) (by decide +kernel), kt_1049, kt_1048, by decide +kernel⟩
theorem kt_1050 : (Jvm.Cond.methodLink (ex_Rn 9) 26 (ex_Xm 5)) ∈ ex_tb := ex_in (i := 475) (by decide +kernel) (by decide +kernel)
theorem kt_1051 : (Jvm.Cond.sameMethod (ex_Xm 5).cls "BorderThroughBed$Text" (ex_Xm 5).name (ex_Xm 5).desc) ∈ ex_tb := ex_in (i := 1548) (by decide +kernel) (by decide +kernel)
theorem kt_1052 : (Jvm.Cond.selects (ex_Rn 2) (ex_Xm 5) (ex_Y 97)) ∈ ex_tb := ex_in (i := 1549) (by decide +kernel) (by decide +kernel)
theorem kt_1053 : (Jvm.Cond.selects (ex_Rn 4) (ex_Xm 5) (ex_Y 97)) ∈ ex_tb := ex_in (i := 1550) (by decide +kernel) (by decide +kernel)
theorem kx_5_2 : ex_PD 9 26 5 1 2 97 := ⟨by decide, by decide, by decide +kernel, kt_1050, kt_1051, List.mem_of_getElem? (i := 15) (by decide +kernel), kt_1052, kt_1029, by decide +kernel⟩
theorem kx_5_4 : ex_PD 9 26 5 1 4 97 := ⟨by decide, by decide, by decide +kernel, kt_1050, kt_1051, List.mem_of_getElem? (i := 15) (by decide +kernel), kt_1053, kt_1029, by decide +kernel⟩
theorem kt_1054 : (Jvm.Cond.methodLink (ex_Rn 9) 30 (ex_Xm 6)) ∈ ex_tb := ex_in (i := 476) (by decide +kernel) (by decide +kernel)
theorem kt_1055 : (Jvm.Cond.sameMethod (ex_Xm 6).cls "BorderThroughBed$Text" (ex_Xm 6).name (ex_Xm 6).desc) ∈ ex_tb := ex_in (i := 478) (by decide +kernel) (by decide +kernel)
theorem kt_1056 : (Jvm.Cond.instanceMethod (ex_Y 40)) ∈ ex_tb := ex_in (i := 480) (by decide +kernel) (by decide +kernel)
theorem kt_1057 : (Jvm.Cond.selects (ex_Rn 2) (ex_Xm 6) (ex_Y 40)) ∈ ex_tb := ex_in (i := 479) (by decide +kernel) (by decide +kernel)
theorem kt_1058 : (Jvm.Cond.instanceMethod (ex_Y 61)) ∈ ex_tb := ex_in (i := 483) (by decide +kernel) (by decide +kernel)
theorem kt_1059 : (Jvm.Cond.selects (ex_Rn 4) (ex_Xm 6) (ex_Y 61)) ∈ ex_tb := ex_in (i := 482) (by decide +kernel) (by decide +kernel)
theorem kx_6_2 : ex_PD 9 30 6 0 2 40 := ⟨by decide, by decide, by decide +kernel, kt_1054, kt_1055, List.mem_of_getElem? (i := 19) (by decide +kernel), kt_1057, kt_1056, by decide +kernel⟩
theorem kx_6_4 : ex_PD 9 30 6 0 4 61 := ⟨by decide, by decide, by decide +kernel, kt_1054, kt_1055, List.mem_of_getElem? (i := 19) (by decide +kernel), kt_1059, kt_1058, by decide +kernel⟩
theorem kt_1060 : (Jvm.Cond.methodLink (ex_Rn 10) 112 (ex_Xm 7)) ∈ ex_tb := ex_in (i := 569) (by decide +kernel) (by decide +kernel)
theorem kt_1061 : (Jvm.Cond.sameMethod (ex_Xm 7).cls "BorderThroughBed$Text" (ex_Xm 7).name (ex_Xm 7).desc) ∈ ex_tb := ex_in (i := 570) (by decide +kernel) (by decide +kernel)
theorem kt_1062 : (Jvm.Cond.selects (ex_Rn 4) (ex_Xm 7) (ex_Y 98)) ∈ ex_tb := ex_in (i := 571) (by decide +kernel) (by decide +kernel)
theorem kx_7_4 : ex_PD 10 112 7 1 4 98 := ⟨by decide, by decide, by decide +kernel, kt_1060, kt_1061, List.mem_of_getElem? (i := 18) (by decide +kernel), kt_1062, kt_1048, by decide +kernel⟩
theorem ex_lk {α : Type} {l : List (Nat × α)} {a : Nat} {v : α} (h : l.lookup a = some v) : (a, v) ∈ l := by
  induction l with
  | nil => cases h
  | cons q r ih =>
    obtain ⟨k, u⟩ := q
    rw [List.lookup_cons] at h
    by_cases hk : a = k
    · subst hk
      simp at h
      subst h
      exact List.mem_cons_self
    · have : (a == k) = false := by simpa using hk
      rw [this] at h
      exact List.mem_cons_of_mem _ (ih h)
def ex_cWall : List (Nat × Nat × Nat × Nat) := (List.range 12).flatMap fun c => (ex_cW.getD c []).map fun q => (c, q.1, q.2.1, q.2.2)
def ex_Dall : List (Nat × Nat × Nat) := (List.range 8).flatMap fun x => (ex_D.getD x []).map fun q => (x, q.1, q.2)
theorem ex_cWall_in {c a x n : Nat} (h : (ex_cW.getD c []).lookup a = some (x, n)) : (c, a, x, n) ∈ ex_cWall := by
  have hm := ex_lk h
  have hc : c < 12 := by
    rcases Nat.lt_or_ge c 12 with q | q
    · exact q
    · have e : ex_cW[c]? = none := List.getElem?_eq_none (show ex_cW.length ≤ c from q)
      rw [List.getD_eq_getElem?_getD, e] at hm
      cases hm
  exact List.mem_flatMap.mpr ⟨c, List.mem_range.mpr hc, List.mem_map.mpr ⟨_, hm, rfl⟩⟩
theorem ex_Dall_in {x C y : Nat} (h : ex_dsp x C = some y) : (x, C, y) ∈ ex_Dall := by
  have hm := ex_lk h
  have hc : x < 8 := by
    rcases Nat.lt_or_ge x 8 with q | q
    · exact q
    · have e : ex_D[x]? = none := List.getElem?_eq_none (show ex_D.length ≤ x from q)
      rw [List.getD_eq_getElem?_getD, e] at hm
      cases hm
  exact List.mem_flatMap.mpr ⟨x, List.mem_range.mpr hc, List.mem_map.mpr ⟨_, hm, rfl⟩⟩
theorem kx_pairs (c a x n C y : Nat) (hm : (c, a, x, n) ∈ ex_cWall) (hd : (x, C, y) ∈ ex_Dall) : ex_PD c a x n C y := by
  have e1 : ex_cWall = [(9, 7, 1, 0), (9, 22, 2, 1), (9, 26, 5, 1), (9, 30, 6, 0), (10, 87, 0, 1), (10, 91, 3, 1), (10, 92, 4, 1), (10, 112, 7, 1)] := by decide +kernel
  have e2 : ex_Dall = [(0, 2, 97), (1, 2, 34), (1, 4, 53), (2, 2, 35), (2, 4, 54), (3, 4, 97), (4, 2, 98), (5, 2, 97), (5, 4, 97), (6, 2, 40), (6, 4, 61), (7, 4, 98)] := by decide +kernel
  rw [e1] at hm
  rw [e2] at hd
  simp only [List.mem_cons, Prod.mk.injEq, List.not_mem_nil, or_false] at hm hd
  rcases hm with ⟨rfl, rfl, rfl, rfl⟩ | ⟨rfl, rfl, rfl, rfl⟩ | ⟨rfl, rfl, rfl, rfl⟩ | ⟨rfl, rfl, rfl, rfl⟩ | ⟨rfl, rfl, rfl, rfl⟩ | ⟨rfl, rfl, rfl, rfl⟩ | ⟨rfl, rfl, rfl, rfl⟩ | ⟨rfl, rfl, rfl, rfl⟩ <;> rcases hd with ⟨h, rfl, rfl⟩ | ⟨h, rfl, rfl⟩ | ⟨h, rfl, rfl⟩ | ⟨h, rfl, rfl⟩ | ⟨h, rfl, rfl⟩ | ⟨h, rfl, rfl⟩ | ⟨h, rfl, rfl⟩ | ⟨h, rfl, rfl⟩ | ⟨h, rfl, rfl⟩ | ⟨h, rfl, rfl⟩ | ⟨h, rfl, rfl⟩ | ⟨h, rfl, rfl⟩ <;> first | (exfalso; revert h; decide) | skip
  · exact kx_1_2
  · exact kx_1_4
  · exact kx_2_2
  · exact kx_2_4
  · exact kx_5_2
  · exact kx_5_4
  · exact kx_6_2
  · exact kx_6_4
  · exact kx_0_2
  · exact kx_3_4
  · exact kx_4_2
  · exact kx_7_4
theorem kx_all {c a x n C y : Nat} (h : (ex_cW.getD c []).lookup a = some (x, n)) (h2 : ex_dsp x C = some y) : ex_PD c a x n C y := by
  have hm : (c, a, x, n) ∈ ex_cWall := ex_cWall_in h
  have hd : (x, C, y) ∈ ex_Dall := ex_Dall_in h2
  exact kx_pairs c a x n C y hm hd
