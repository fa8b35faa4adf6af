/-! the tables' words, by their places (printed by wip/p34/gen7.py) -/
def ex_tb : List Jvm.Cond := lw_tbl.filter goodWord
theorem ex_in {i : Nat} {w : Jvm.Cond} (h : lw_tbl[i]? = some w) (g : goodWord w = true) : w ∈ ex_tb := List.mem_filter.mpr ⟨List.mem_of_getElem? h, g⟩
theorem kt_1 : (Jvm.Cond.laysFinal "BorderThroughBed$Day" "BorderThroughBed$Day" "things" "LBorderThroughBed$Table;") ∈ ex_tb := ex_in (i := 201) (by decide +kernel) (by decide +kernel)
theorem kt_2 : (Jvm.Cond.laysFinal "BorderThroughBed$Day" "BorderThroughBed$Day" "events" "LBorderThroughBed$Table;") ∈ ex_tb := ex_in (i := 203) (by decide +kernel) (by decide +kernel)
theorem kt_3 : (Jvm.Cond.laysFinal "BorderThroughBed$Day" "BorderThroughBed$Day" "habits" "LBorderThroughBed$Table;") ∈ ex_tb := ex_in (i := 205) (by decide +kernel) (by decide +kernel)
theorem kt_4 : (Jvm.Cond.laysFinal "BorderThroughBed$Day" "BorderThroughBed$Day" "judgments" "LBorderThroughBed$Table;") ∈ ex_tb := ex_in (i := 207) (by decide +kernel) (by decide +kernel)
theorem ku_0 : ∀ w ∈ u_ws (ex_Rn 0) (ex_T 0) (ex_N 0), w ∈ ex_tb := List.forall_mem_cons.mpr ⟨kt_1, List.forall_mem_cons.mpr ⟨kt_2, List.forall_mem_cons.mpr ⟨kt_3, List.forall_mem_cons.mpr ⟨kt_4, fun _ h => absurd h List.not_mem_nil⟩⟩⟩⟩
theorem kn_0 : ∀ a, a < ex_N 0 → ∀ b, b < ex_N 0 → a ≠ b → (ex_T 0 a).2.1 ≠ (ex_T 0 b).2.1 := by decide +kernel
theorem kp_0 : ∀ k, k < ex_N 0 → parseFieldDescriptor (ex_T 0 k).2.2.1 = some (ex_ty 0 k) := by decide +kernel
theorem kt_5 : (Jvm.Cond.laysFinal "BorderThroughBed$House" "BorderThroughBed$House" "kinds" "[I") ∈ ex_tb := ex_in (i := 130) (by decide +kernel) (by decide +kernel)
theorem kt_6 : (Jvm.Cond.laysFinal "BorderThroughBed$House" "BorderThroughBed$House" "rowOf" "[I") ∈ ex_tb := ex_in (i := 132) (by decide +kernel) (by decide +kernel)
theorem kt_7 : (Jvm.Cond.laysFinal "BorderThroughBed$House" "BorderThroughBed$House" "columnOf" "[I") ∈ ex_tb := ex_in (i := 134) (by decide +kernel) (by decide +kernel)
theorem kt_8 : (Jvm.Cond.laysFinal "BorderThroughBed$House" "BorderThroughBed$House" "lines" "[I") ∈ ex_tb := ex_in (i := 136) (by decide +kernel) (by decide +kernel)
theorem kt_9 : (Jvm.Cond.laysFinal "BorderThroughBed$House" "BorderThroughBed$House" "beside" "[I") ∈ ex_tb := ex_in (i := 138) (by decide +kernel) (by decide +kernel)
theorem kt_10 : (Jvm.Cond.laysFinal "BorderThroughBed$House" "BorderThroughBed$House" "ahead" "[I") ∈ ex_tb := ex_in (i := 140) (by decide +kernel) (by decide +kernel)
theorem kt_11 : (Jvm.Cond.laysFinal "BorderThroughBed$House" "BorderThroughBed$House" "bedSpots" "[I") ∈ ex_tb := ex_in (i := 142) (by decide +kernel) (by decide +kernel)
theorem kt_12 : (Jvm.Cond.laysFinal "BorderThroughBed$House" "BorderThroughBed$House" "otherSpots" "[I") ∈ ex_tb := ex_in (i := 144) (by decide +kernel) (by decide +kernel)
theorem kt_13 : (Jvm.Cond.laysFinal "BorderThroughBed$House" "BorderThroughBed$House" "doors" "[I") ∈ ex_tb := ex_in (i := 146) (by decide +kernel) (by decide +kernel)
theorem kt_14 : (Jvm.Cond.laysFinal "BorderThroughBed$House" "BorderThroughBed$House" "doorSteps" "[I") ∈ ex_tb := ex_in (i := 148) (by decide +kernel) (by decide +kernel)
theorem kt_15 : (Jvm.Cond.laysFinal "BorderThroughBed$House" "BorderThroughBed$House" "costs" "[I") ∈ ex_tb := ex_in (i := 150) (by decide +kernel) (by decide +kernel)
theorem kt_16 : (Jvm.Cond.lays "BorderThroughBed$House" "BorderThroughBed$House" "cells" "I") ∈ ex_tb := ex_in (i := 152) (by decide +kernel) (by decide +kernel)
theorem kt_17 : (Jvm.Cond.lays "BorderThroughBed$House" "BorderThroughBed$House" "rows" "I") ∈ ex_tb := ex_in (i := 154) (by decide +kernel) (by decide +kernel)
theorem kt_18 : (Jvm.Cond.lays "BorderThroughBed$House" "BorderThroughBed$House" "width" "I") ∈ ex_tb := ex_in (i := 156) (by decide +kernel) (by decide +kernel)
theorem ku_1 : ∀ w ∈ u_ws (ex_Rn 1) (ex_T 1) (ex_N 1), w ∈ ex_tb := List.forall_mem_cons.mpr ⟨kt_5, List.forall_mem_cons.mpr ⟨kt_6, List.forall_mem_cons.mpr ⟨kt_7, List.forall_mem_cons.mpr ⟨kt_8, List.forall_mem_cons.mpr ⟨kt_9, List.forall_mem_cons.mpr ⟨kt_10, List.forall_mem_cons.mpr ⟨kt_11, List.forall_mem_cons.mpr ⟨kt_12, List.forall_mem_cons.mpr ⟨kt_13, List.forall_mem_cons.mpr ⟨kt_14, List.forall_mem_cons.mpr ⟨kt_15, List.forall_mem_cons.mpr ⟨kt_16, List.forall_mem_cons.mpr ⟨kt_17, List.forall_mem_cons.mpr ⟨kt_18, fun _ h => absurd h List.not_mem_nil⟩⟩⟩⟩⟩⟩⟩⟩⟩⟩⟩⟩⟩⟩
theorem kn_1 : ∀ a, a < ex_N 1 → ∀ b, b < ex_N 1 → a ≠ b → (ex_T 1 a).2.1 ≠ (ex_T 1 b).2.1 := by decide +kernel
theorem kp_1 : ∀ k, k < ex_N 1 → parseFieldDescriptor (ex_T 1 k).2.2.1 = some (ex_ty 1 k) := by decide +kernel
theorem kt_19 : (Jvm.Cond.lays "BorderThroughBed$HouseText" "BorderThroughBed$HouseText" "row" "I") ∈ ex_tb := ex_in (i := 73) (by decide +kernel) (by decide +kernel)
theorem kt_20 : (Jvm.Cond.lays "BorderThroughBed$HouseText" "BorderThroughBed$HouseText" "width" "I") ∈ ex_tb := ex_in (i := 75) (by decide +kernel) (by decide +kernel)
theorem kt_21 : (Jvm.Cond.lays "BorderThroughBed$HouseText" "BorderThroughBed$HouseText" "column" "I") ∈ ex_tb := ex_in (i := 77) (by decide +kernel) (by decide +kernel)
theorem kt_22 : (Jvm.Cond.lays "BorderThroughBed$HouseText" "BorderThroughBed$HouseText" "hasLine" "Z") ∈ ex_tb := ex_in (i := 79) (by decide +kernel) (by decide +kernel)
theorem ku_2 : ∀ w ∈ u_ws (ex_Rn 2) (ex_T 2) (ex_N 2), w ∈ ex_tb := List.forall_mem_cons.mpr ⟨kt_19, List.forall_mem_cons.mpr ⟨kt_20, List.forall_mem_cons.mpr ⟨kt_21, List.forall_mem_cons.mpr ⟨kt_22, fun _ h => absurd h List.not_mem_nil⟩⟩⟩⟩
theorem kn_2 : ∀ a, a < ex_N 2 → ∀ b, b < ex_N 2 → a ≠ b → (ex_T 2 a).2.1 ≠ (ex_T 2 b).2.1 := by decide +kernel
theorem kp_2 : ∀ k, k < ex_N 2 → parseFieldDescriptor (ex_T 2 k).2.2.1 = some (ex_ty 2 k) := by decide +kernel
theorem kt_23 : (Jvm.Cond.laysFinal "BorderThroughBed$Keeping" "BorderThroughBed$Keeping" "acts" "[I") ∈ ex_tb := ex_in (i := 218) (by decide +kernel) (by decide +kernel)
theorem kt_24 : (Jvm.Cond.laysFinal "BorderThroughBed$Keeping" "BorderThroughBed$Keeping" "good" "[I") ∈ ex_tb := ex_in (i := 220) (by decide +kernel) (by decide +kernel)
theorem kt_25 : (Jvm.Cond.lays "BorderThroughBed$Keeping" "BorderThroughBed$Keeping" "size" "I") ∈ ex_tb := ex_in (i := 222) (by decide +kernel) (by decide +kernel)
theorem ku_3 : ∀ w ∈ u_ws (ex_Rn 3) (ex_T 3) (ex_N 3), w ∈ ex_tb := List.forall_mem_cons.mpr ⟨kt_23, List.forall_mem_cons.mpr ⟨kt_24, List.forall_mem_cons.mpr ⟨kt_25, fun _ h => absurd h List.not_mem_nil⟩⟩⟩
theorem kn_3 : ∀ a, a < ex_N 3 → ∀ b, b < ex_N 3 → a ≠ b → (ex_T 3 a).2.1 ≠ (ex_T 3 b).2.1 := by decide +kernel
theorem kp_3 : ∀ k, k < ex_N 3 → parseFieldDescriptor (ex_T 3 k).2.2.1 = some (ex_ty 3 k) := by decide +kernel
theorem kt_26 : (Jvm.Cond.lays "BorderThroughBed$LawText" "BorderThroughBed$LawText" "side" "I") ∈ ex_tb := ex_in (i := 95) (by decide +kernel) (by decide +kernel)
theorem kt_27 : (Jvm.Cond.lays "BorderThroughBed$LawText" "BorderThroughBed$LawText" "act" "I") ∈ ex_tb := ex_in (i := 97) (by decide +kernel) (by decide +kernel)
theorem kt_28 : (Jvm.Cond.lays "BorderThroughBed$LawText" "BorderThroughBed$LawText" "from" "I") ∈ ex_tb := ex_in (i := 99) (by decide +kernel) (by decide +kernel)
theorem kt_29 : (Jvm.Cond.lays "BorderThroughBed$LawText" "BorderThroughBed$LawText" "to" "I") ∈ ex_tb := ex_in (i := 101) (by decide +kernel) (by decide +kernel)
theorem kt_30 : (Jvm.Cond.lays "BorderThroughBed$LawText" "BorderThroughBed$LawText" "kind" "I") ∈ ex_tb := ex_in (i := 103) (by decide +kernel) (by decide +kernel)
theorem kt_31 : (Jvm.Cond.lays "BorderThroughBed$LawText" "BorderThroughBed$LawText" "stage" "I") ∈ ex_tb := ex_in (i := 105) (by decide +kernel) (by decide +kernel)
theorem kt_32 : (Jvm.Cond.lays "BorderThroughBed$LawText" "BorderThroughBed$LawText" "digits" "I") ∈ ex_tb := ex_in (i := 107) (by decide +kernel) (by decide +kernel)
theorem ku_4 : ∀ w ∈ u_ws (ex_Rn 4) (ex_T 4) (ex_N 4), w ∈ ex_tb := List.forall_mem_cons.mpr ⟨kt_26, List.forall_mem_cons.mpr ⟨kt_27, List.forall_mem_cons.mpr ⟨kt_28, List.forall_mem_cons.mpr ⟨kt_29, List.forall_mem_cons.mpr ⟨kt_30, List.forall_mem_cons.mpr ⟨kt_31, List.forall_mem_cons.mpr ⟨kt_32, fun _ h => absurd h List.not_mem_nil⟩⟩⟩⟩⟩⟩⟩
theorem kn_4 : ∀ a, a < ex_N 4 → ∀ b, b < ex_N 4 → a ≠ b → (ex_T 4 a).2.1 ≠ (ex_T 4 b).2.1 := by decide +kernel
theorem kp_4 : ∀ k, k < ex_N 4 → parseFieldDescriptor (ex_T 4 k).2.2.1 = some (ex_ty 4 k) := by decide +kernel
theorem kt_33 : (Jvm.Cond.laysFinal "BorderThroughBed$Laws" "BorderThroughBed$Laws" "laws" "LBorderThroughBed$Table;") ∈ ex_tb := ex_in (i := 182) (by decide +kernel) (by decide +kernel)
theorem ku_5 : ∀ w ∈ u_ws (ex_Rn 5) (ex_T 5) (ex_N 5), w ∈ ex_tb := List.forall_mem_cons.mpr ⟨kt_33, fun _ h => absurd h List.not_mem_nil⟩
theorem kn_5 : ∀ a, a < ex_N 5 → ∀ b, b < ex_N 5 → a ≠ b → (ex_T 5 a).2.1 ≠ (ex_T 5 b).2.1 := by decide +kernel
theorem kp_5 : ∀ k, k < ex_N 5 → parseFieldDescriptor (ex_T 5 k).2.2.1 = some (ex_ty 5 k) := by decide +kernel
theorem kt_34 : (Jvm.Cond.laysFinal "BorderThroughBed$Mover" "BorderThroughBed$Mover" "kinds" "[I") ∈ ex_tb := ex_in (i := 235) (by decide +kernel) (by decide +kernel)
theorem kt_35 : (Jvm.Cond.laysFinal "BorderThroughBed$Mover" "BorderThroughBed$Mover" "places" "[I") ∈ ex_tb := ex_in (i := 237) (by decide +kernel) (by decide +kernel)
theorem kt_36 : (Jvm.Cond.laysFinal "BorderThroughBed$Mover" "BorderThroughBed$Mover" "spots" "[I") ∈ ex_tb := ex_in (i := 239) (by decide +kernel) (by decide +kernel)
theorem kt_37 : (Jvm.Cond.laysFinal "BorderThroughBed$Mover" "BorderThroughBed$Mover" "answer" "[I") ∈ ex_tb := ex_in (i := 241) (by decide +kernel) (by decide +kernel)
theorem kt_38 : (Jvm.Cond.lays "BorderThroughBed$Mover" "BorderThroughBed$Mover" "size" "I") ∈ ex_tb := ex_in (i := 243) (by decide +kernel) (by decide +kernel)
theorem kt_39 : (Jvm.Cond.lays "BorderThroughBed$Mover" "BorderThroughBed$Mover" "hardest" "I") ∈ ex_tb := ex_in (i := 245) (by decide +kernel) (by decide +kernel)
theorem ku_6 : ∀ w ∈ u_ws (ex_Rn 6) (ex_T 6) (ex_N 6), w ∈ ex_tb := List.forall_mem_cons.mpr ⟨kt_34, List.forall_mem_cons.mpr ⟨kt_35, List.forall_mem_cons.mpr ⟨kt_36, List.forall_mem_cons.mpr ⟨kt_37, List.forall_mem_cons.mpr ⟨kt_38, List.forall_mem_cons.mpr ⟨kt_39, fun _ h => absurd h List.not_mem_nil⟩⟩⟩⟩⟩⟩
theorem kn_6 : ∀ a, a < ex_N 6 → ∀ b, b < ex_N 6 → a ≠ b → (ex_T 6 a).2.1 ≠ (ex_T 6 b).2.1 := by decide +kernel
theorem kp_6 : ∀ k, k < ex_N 6 → parseFieldDescriptor (ex_T 6 k).2.2.1 = some (ex_ty 6 k) := by decide +kernel
theorem kt_40 : (Jvm.Cond.laysFinal "BorderThroughBed$Page" "BorderThroughBed$Page" "codes" "[I") ∈ ex_tb := ex_in (i := 54) (by decide +kernel) (by decide +kernel)
theorem kt_41 : (Jvm.Cond.lays "BorderThroughBed$Page" "BorderThroughBed$Page" "size" "I") ∈ ex_tb := ex_in (i := 56) (by decide +kernel) (by decide +kernel)
theorem ku_7 : ∀ w ∈ u_ws (ex_Rn 7) (ex_T 7) (ex_N 7), w ∈ ex_tb := List.forall_mem_cons.mpr ⟨kt_40, List.forall_mem_cons.mpr ⟨kt_41, fun _ h => absurd h List.not_mem_nil⟩⟩
theorem kn_7 : ∀ a, a < ex_N 7 → ∀ b, b < ex_N 7 → a ≠ b → (ex_T 7 a).2.1 ≠ (ex_T 7 b).2.1 := by decide +kernel
theorem kp_7 : ∀ k, k < ex_N 7 → parseFieldDescriptor (ex_T 7 k).2.2.1 = some (ex_ty 7 k) := by decide +kernel
theorem kt_42 : (Jvm.Cond.laysFinal "BorderThroughBed$Table" "BorderThroughBed$Table" "numbers" "[I") ∈ ex_tb := ex_in (i := 174) (by decide +kernel) (by decide +kernel)
theorem kt_43 : (Jvm.Cond.laysFinal "BorderThroughBed$Table" "BorderThroughBed$Table" "most" "I") ∈ ex_tb := ex_in (i := 176) (by decide +kernel) (by decide +kernel)
theorem kt_44 : (Jvm.Cond.lays "BorderThroughBed$Table" "BorderThroughBed$Table" "size" "I") ∈ ex_tb := ex_in (i := 178) (by decide +kernel) (by decide +kernel)
theorem ku_8 : ∀ w ∈ u_ws (ex_Rn 8) (ex_T 8) (ex_N 8), w ∈ ex_tb := List.forall_mem_cons.mpr ⟨kt_42, List.forall_mem_cons.mpr ⟨kt_43, List.forall_mem_cons.mpr ⟨kt_44, fun _ h => absurd h List.not_mem_nil⟩⟩⟩
theorem kn_8 : ∀ a, a < ex_N 8 → ∀ b, b < ex_N 8 → a ≠ b → (ex_T 8 a).2.1 ≠ (ex_T 8 b).2.1 := by decide +kernel
theorem kp_8 : ∀ k, k < ex_N 8 → parseFieldDescriptor (ex_T 8 k).2.2.1 = some (ex_ty 8 k) := by decide +kernel
theorem ku_9 : ∀ w ∈ u_ws (ex_Rn 9) (ex_T 9) (ex_N 9), w ∈ ex_tb := fun _ h => absurd h List.not_mem_nil
theorem kn_9 : ∀ a, a < ex_N 9 → ∀ b, b < ex_N 9 → a ≠ b → (ex_T 9 a).2.1 ≠ (ex_T 9 b).2.1 := by decide +kernel
theorem kp_9 : ∀ k, k < ex_N 9 → parseFieldDescriptor (ex_T 9 k).2.2.1 = some (ex_ty 9 k) := by decide +kernel
theorem kt_45 : (Jvm.Cond.laysFinal "BorderThroughBed" "BorderThroughBed" "page" "LBorderThroughBed$Page;") ∈ ex_tb := ex_in (i := 260) (by decide +kernel) (by decide +kernel)
theorem kt_46 : (Jvm.Cond.laysFinal "BorderThroughBed" "BorderThroughBed" "houseText" "LBorderThroughBed$HouseText;") ∈ ex_tb := ex_in (i := 262) (by decide +kernel) (by decide +kernel)
theorem kt_47 : (Jvm.Cond.laysFinal "BorderThroughBed" "BorderThroughBed" "lawText" "LBorderThroughBed$LawText;") ∈ ex_tb := ex_in (i := 264) (by decide +kernel) (by decide +kernel)
theorem kt_48 : (Jvm.Cond.laysFinal "BorderThroughBed" "BorderThroughBed" "house" "LBorderThroughBed$House;") ∈ ex_tb := ex_in (i := 266) (by decide +kernel) (by decide +kernel)
theorem kt_49 : (Jvm.Cond.laysFinal "BorderThroughBed" "BorderThroughBed" "laws" "LBorderThroughBed$Laws;") ∈ ex_tb := ex_in (i := 268) (by decide +kernel) (by decide +kernel)
theorem kt_50 : (Jvm.Cond.laysFinal "BorderThroughBed" "BorderThroughBed" "now" "LBorderThroughBed$Day;") ∈ ex_tb := ex_in (i := 270) (by decide +kernel) (by decide +kernel)
theorem kt_51 : (Jvm.Cond.laysFinal "BorderThroughBed" "BorderThroughBed" "imageDay" "LBorderThroughBed$Day;") ∈ ex_tb := ex_in (i := 272) (by decide +kernel) (by decide +kernel)
theorem kt_52 : (Jvm.Cond.laysFinal "BorderThroughBed" "BorderThroughBed" "keeping" "LBorderThroughBed$Keeping;") ∈ ex_tb := ex_in (i := 274) (by decide +kernel) (by decide +kernel)
theorem kt_53 : (Jvm.Cond.laysFinal "BorderThroughBed" "BorderThroughBed" "mover" "LBorderThroughBed$Mover;") ∈ ex_tb := ex_in (i := 276) (by decide +kernel) (by decide +kernel)
theorem kt_54 : (Jvm.Cond.lays "BorderThroughBed" "BorderThroughBed" "imageIsKept" "Z") ∈ ex_tb := ex_in (i := 278) (by decide +kernel) (by decide +kernel)
theorem kt_55 : (Jvm.Cond.lays "BorderThroughBed" "BorderThroughBed" "housesRead" "I") ∈ ex_tb := ex_in (i := 280) (by decide +kernel) (by decide +kernel)
theorem kt_56 : (Jvm.Cond.lays "BorderThroughBed" "BorderThroughBed" "movesDone" "I") ∈ ex_tb := ex_in (i := 282) (by decide +kernel) (by decide +kernel)
theorem ku_10 : ∀ w ∈ u_ws (ex_Rn 10) (ex_T 10) (ex_N 10), w ∈ ex_tb := List.forall_mem_cons.mpr ⟨kt_45, List.forall_mem_cons.mpr ⟨kt_46, List.forall_mem_cons.mpr ⟨kt_47, List.forall_mem_cons.mpr ⟨kt_48, List.forall_mem_cons.mpr ⟨kt_49, List.forall_mem_cons.mpr ⟨kt_50, List.forall_mem_cons.mpr ⟨kt_51, List.forall_mem_cons.mpr ⟨kt_52, List.forall_mem_cons.mpr ⟨kt_53, List.forall_mem_cons.mpr ⟨kt_54, List.forall_mem_cons.mpr ⟨kt_55, List.forall_mem_cons.mpr ⟨kt_56, fun _ h => absurd h List.not_mem_nil⟩⟩⟩⟩⟩⟩⟩⟩⟩⟩⟩⟩
theorem kn_10 : ∀ a, a < ex_N 10 → ∀ b, b < ex_N 10 → a ≠ b → (ex_T 10 a).2.1 ≠ (ex_T 10 b).2.1 := by decide +kernel
theorem kp_10 : ∀ k, k < ex_N 10 → parseFieldDescriptor (ex_T 10 k).2.2.1 = some (ex_ty 10 k) := by decide +kernel
theorem ku_11 : ∀ w ∈ u_ws (ex_Rn 11) (ex_T 11) (ex_N 11), w ∈ ex_tb := fun _ h => absurd h List.not_mem_nil
theorem kn_11 : ∀ a, a < ex_N 11 → ∀ b, b < ex_N 11 → a ≠ b → (ex_T 11 a).2.1 ≠ (ex_T 11 b).2.1 := by decide +kernel
theorem kp_11 : ∀ k, k < ex_N 11 → parseFieldDescriptor (ex_T 11 k).2.2.1 = some (ex_ty 11 k) := by decide +kernel
theorem ku_all {c : Nat} (hc : c < 12) : ∀ w ∈ u_ws (ex_Rn c) (ex_T c) (ex_N c), w ∈ ex_tb := by
  match c, hc with
  | 0, _ => exact ku_0
  | 1, _ => exact ku_1
  | 2, _ => exact ku_2
  | 3, _ => exact ku_3
  | 4, _ => exact ku_4
  | 5, _ => exact ku_5
  | 6, _ => exact ku_6
  | 7, _ => exact ku_7
  | 8, _ => exact ku_8
  | 9, _ => exact ku_9
  | 10, _ => exact ku_10
  | 11, _ => exact ku_11
theorem kn_all {c : Nat} (hc : c < 12) : ∀ a, a < ex_N c → ∀ b, b < ex_N c → a ≠ b → (ex_T c a).2.1 ≠ (ex_T c b).2.1 := by
  match c, hc with
  | 0, _ => exact kn_0
  | 1, _ => exact kn_1
  | 2, _ => exact kn_2
  | 3, _ => exact kn_3
  | 4, _ => exact kn_4
  | 5, _ => exact kn_5
  | 6, _ => exact kn_6
  | 7, _ => exact kn_7
  | 8, _ => exact kn_8
  | 9, _ => exact kn_9
  | 10, _ => exact kn_10
  | 11, _ => exact kn_11
theorem kp_all {c : Nat} (hc : c < 12) : ∀ k, k < ex_N c → parseFieldDescriptor (ex_T c k).2.2.1 = some (ex_ty c k) := by
  match c, hc with
  | 0, _ => exact kp_0
  | 1, _ => exact kp_1
  | 2, _ => exact kp_2
  | 3, _ => exact kp_3
  | 4, _ => exact kp_4
  | 5, _ => exact kp_5
  | 6, _ => exact kp_6
  | 7, _ => exact kp_7
  | 8, _ => exact kp_8
  | 9, _ => exact kp_9
  | 10, _ => exact kp_10
  | 11, _ => exact kp_11
def ex_PF (c a e : Nat) : Prop := Jvm.Cond.fieldLink (ex_Rn c) a (ex_Rn (e / 64)) (ex_T (e / 64) (e % 64)).2.1 (ex_T (e / 64) (e % 64)).2.2.1 ∈ ex_tb ∧ e / 64 < 12 ∧ e % 64 < ex_N (e / 64)
theorem kt_57 : (Jvm.Cond.fieldLink "BorderThroughBed$Day" 14 "BorderThroughBed$Day" "things" "LBorderThroughBed$Table;") ∈ ex_tb := ex_in (i := 193) (by decide +kernel) (by decide +kernel)
theorem kt_58 : (Jvm.Cond.fieldLink "BorderThroughBed$Day" 20 "BorderThroughBed$Day" "events" "LBorderThroughBed$Table;") ∈ ex_tb := ex_in (i := 195) (by decide +kernel) (by decide +kernel)
theorem kt_59 : (Jvm.Cond.fieldLink "BorderThroughBed$Day" 23 "BorderThroughBed$Day" "habits" "LBorderThroughBed$Table;") ∈ ex_tb := ex_in (i := 197) (by decide +kernel) (by decide +kernel)
theorem kt_60 : (Jvm.Cond.fieldLink "BorderThroughBed$Day" 26 "BorderThroughBed$Day" "judgments" "LBorderThroughBed$Table;") ∈ ex_tb := ex_in (i := 199) (by decide +kernel) (by decide +kernel)
theorem kq_F_0 : ∀ q ∈ ex_cF.getD 0 [], ex_PF 0 q.1 q.2 := List.forall_mem_cons.mpr ⟨⟨kt_57, by decide, by decide +kernel⟩, List.forall_mem_cons.mpr ⟨⟨kt_58, by decide, by decide +kernel⟩, List.forall_mem_cons.mpr ⟨⟨kt_59, by decide, by decide +kernel⟩, List.forall_mem_cons.mpr ⟨⟨kt_60, by decide, by decide +kernel⟩, fun _ h => absurd h List.not_mem_nil⟩⟩⟩⟩
theorem kt_61 : (Jvm.Cond.fieldLink "BorderThroughBed$House" 9 "BorderThroughBed$House" "kinds" "[I") ∈ ex_tb := ex_in (i := 116) (by decide +kernel) (by decide +kernel)
theorem kt_62 : (Jvm.Cond.fieldLink "BorderThroughBed$House" 15 "BorderThroughBed$House" "rowOf" "[I") ∈ ex_tb := ex_in (i := 117) (by decide +kernel) (by decide +kernel)
theorem kt_63 : (Jvm.Cond.fieldLink "BorderThroughBed$House" 18 "BorderThroughBed$House" "columnOf" "[I") ∈ ex_tb := ex_in (i := 118) (by decide +kernel) (by decide +kernel)
theorem kt_64 : (Jvm.Cond.fieldLink "BorderThroughBed$House" 21 "BorderThroughBed$House" "lines" "[I") ∈ ex_tb := ex_in (i := 119) (by decide +kernel) (by decide +kernel)
theorem kt_65 : (Jvm.Cond.fieldLink "BorderThroughBed$House" 24 "BorderThroughBed$House" "beside" "[I") ∈ ex_tb := ex_in (i := 120) (by decide +kernel) (by decide +kernel)
theorem kt_66 : (Jvm.Cond.fieldLink "BorderThroughBed$House" 27 "BorderThroughBed$House" "ahead" "[I") ∈ ex_tb := ex_in (i := 121) (by decide +kernel) (by decide +kernel)
theorem kt_67 : (Jvm.Cond.fieldLink "BorderThroughBed$House" 30 "BorderThroughBed$House" "bedSpots" "[I") ∈ ex_tb := ex_in (i := 122) (by decide +kernel) (by decide +kernel)
theorem kt_68 : (Jvm.Cond.fieldLink "BorderThroughBed$House" 33 "BorderThroughBed$House" "otherSpots" "[I") ∈ ex_tb := ex_in (i := 123) (by decide +kernel) (by decide +kernel)
theorem kt_69 : (Jvm.Cond.fieldLink "BorderThroughBed$House" 36 "BorderThroughBed$House" "doors" "[I") ∈ ex_tb := ex_in (i := 124) (by decide +kernel) (by decide +kernel)
theorem kt_70 : (Jvm.Cond.fieldLink "BorderThroughBed$House" 39 "BorderThroughBed$House" "doorSteps" "[I") ∈ ex_tb := ex_in (i := 125) (by decide +kernel) (by decide +kernel)
theorem kt_71 : (Jvm.Cond.fieldLink "BorderThroughBed$House" 42 "BorderThroughBed$House" "costs" "[I") ∈ ex_tb := ex_in (i := 126) (by decide +kernel) (by decide +kernel)
theorem kt_72 : (Jvm.Cond.fieldLink "BorderThroughBed$House" 45 "BorderThroughBed$House" "cells" "I") ∈ ex_tb := ex_in (i := 127) (by decide +kernel) (by decide +kernel)
theorem kt_73 : (Jvm.Cond.fieldLink "BorderThroughBed$House" 67 "BorderThroughBed$House" "rows" "I") ∈ ex_tb := ex_in (i := 128) (by decide +kernel) (by decide +kernel)
theorem kt_74 : (Jvm.Cond.fieldLink "BorderThroughBed$House" 70 "BorderThroughBed$House" "width" "I") ∈ ex_tb := ex_in (i := 129) (by decide +kernel) (by decide +kernel)
theorem kq_F_1 : ∀ q ∈ ex_cF.getD 1 [], ex_PF 1 q.1 q.2 := List.forall_mem_cons.mpr ⟨⟨kt_61, by decide, by decide +kernel⟩, List.forall_mem_cons.mpr ⟨⟨kt_62, by decide, by decide +kernel⟩, List.forall_mem_cons.mpr ⟨⟨kt_63, by decide, by decide +kernel⟩, List.forall_mem_cons.mpr ⟨⟨kt_64, by decide, by decide +kernel⟩, List.forall_mem_cons.mpr ⟨⟨kt_65, by decide, by decide +kernel⟩, List.forall_mem_cons.mpr ⟨⟨kt_66, by decide, by decide +kernel⟩, List.forall_mem_cons.mpr ⟨⟨kt_67, by decide, by decide +kernel⟩, List.forall_mem_cons.mpr ⟨⟨kt_68, by decide, by decide +kernel⟩, List.forall_mem_cons.mpr ⟨⟨kt_69, by decide, by decide +kernel⟩, List.forall_mem_cons.mpr ⟨⟨kt_70, by decide, by decide +kernel⟩, List.forall_mem_cons.mpr ⟨⟨kt_71, by decide, by decide +kernel⟩, List.forall_mem_cons.mpr ⟨⟨kt_72, by decide, by decide +kernel⟩, List.forall_mem_cons.mpr ⟨⟨kt_73, by decide, by decide +kernel⟩, List.forall_mem_cons.mpr ⟨⟨kt_74, by decide, by decide +kernel⟩, fun _ h => absurd h List.not_mem_nil⟩⟩⟩⟩⟩⟩⟩⟩⟩⟩⟩⟩⟩⟩
theorem kt_75 : (Jvm.Cond.fieldLink "BorderThroughBed$HouseText" 9 "BorderThroughBed$HouseText" "row" "I") ∈ ex_tb := ex_in (i := 69) (by decide +kernel) (by decide +kernel)
theorem kt_76 : (Jvm.Cond.fieldLink "BorderThroughBed$HouseText" 15 "BorderThroughBed$HouseText" "width" "I") ∈ ex_tb := ex_in (i := 70) (by decide +kernel) (by decide +kernel)
theorem kt_77 : (Jvm.Cond.fieldLink "BorderThroughBed$HouseText" 18 "BorderThroughBed$HouseText" "column" "I") ∈ ex_tb := ex_in (i := 71) (by decide +kernel) (by decide +kernel)
theorem kt_78 : (Jvm.Cond.fieldLink "BorderThroughBed$HouseText" 21 "BorderThroughBed$HouseText" "hasLine" "Z") ∈ ex_tb := ex_in (i := 72) (by decide +kernel) (by decide +kernel)
theorem kq_F_2 : ∀ q ∈ ex_cF.getD 2 [], ex_PF 2 q.1 q.2 := List.forall_mem_cons.mpr ⟨⟨kt_75, by decide, by decide +kernel⟩, List.forall_mem_cons.mpr ⟨⟨kt_76, by decide, by decide +kernel⟩, List.forall_mem_cons.mpr ⟨⟨kt_77, by decide, by decide +kernel⟩, List.forall_mem_cons.mpr ⟨⟨kt_78, by decide, by decide +kernel⟩, fun _ h => absurd h List.not_mem_nil⟩⟩⟩⟩
theorem kt_79 : (Jvm.Cond.fieldLink "BorderThroughBed$Keeping" 9 "BorderThroughBed$Keeping" "acts" "[I") ∈ ex_tb := ex_in (i := 216) (by decide +kernel) (by decide +kernel)
theorem kt_80 : (Jvm.Cond.fieldLink "BorderThroughBed$Keeping" 15 "BorderThroughBed$Keeping" "good" "[I") ∈ ex_tb := ex_in (i := 217) (by decide +kernel) (by decide +kernel)
theorem kq_F_3 : ∀ q ∈ ex_cF.getD 3 [], ex_PF 3 q.1 q.2 := List.forall_mem_cons.mpr ⟨⟨kt_79, by decide, by decide +kernel⟩, List.forall_mem_cons.mpr ⟨⟨kt_80, by decide, by decide +kernel⟩, fun _ h => absurd h List.not_mem_nil⟩⟩
theorem kt_81 : (Jvm.Cond.fieldLink "BorderThroughBed$LawText" 9 "BorderThroughBed$LawText" "side" "I") ∈ ex_tb := ex_in (i := 88) (by decide +kernel) (by decide +kernel)
theorem kt_82 : (Jvm.Cond.fieldLink "BorderThroughBed$LawText" 15 "BorderThroughBed$LawText" "act" "I") ∈ ex_tb := ex_in (i := 89) (by decide +kernel) (by decide +kernel)
theorem kt_83 : (Jvm.Cond.fieldLink "BorderThroughBed$LawText" 18 "BorderThroughBed$LawText" "from" "I") ∈ ex_tb := ex_in (i := 90) (by decide +kernel) (by decide +kernel)
theorem kt_84 : (Jvm.Cond.fieldLink "BorderThroughBed$LawText" 21 "BorderThroughBed$LawText" "to" "I") ∈ ex_tb := ex_in (i := 91) (by decide +kernel) (by decide +kernel)
theorem kt_85 : (Jvm.Cond.fieldLink "BorderThroughBed$LawText" 24 "BorderThroughBed$LawText" "kind" "I") ∈ ex_tb := ex_in (i := 92) (by decide +kernel) (by decide +kernel)
theorem kt_86 : (Jvm.Cond.fieldLink "BorderThroughBed$LawText" 27 "BorderThroughBed$LawText" "stage" "I") ∈ ex_tb := ex_in (i := 93) (by decide +kernel) (by decide +kernel)
theorem kt_87 : (Jvm.Cond.fieldLink "BorderThroughBed$LawText" 30 "BorderThroughBed$LawText" "digits" "I") ∈ ex_tb := ex_in (i := 94) (by decide +kernel) (by decide +kernel)
theorem kq_F_4 : ∀ q ∈ ex_cF.getD 4 [], ex_PF 4 q.1 q.2 := List.forall_mem_cons.mpr ⟨⟨kt_81, by decide, by decide +kernel⟩, List.forall_mem_cons.mpr ⟨⟨kt_82, by decide, by decide +kernel⟩, List.forall_mem_cons.mpr ⟨⟨kt_83, by decide, by decide +kernel⟩, List.forall_mem_cons.mpr ⟨⟨kt_84, by decide, by decide +kernel⟩, List.forall_mem_cons.mpr ⟨⟨kt_85, by decide, by decide +kernel⟩, List.forall_mem_cons.mpr ⟨⟨kt_86, by decide, by decide +kernel⟩, List.forall_mem_cons.mpr ⟨⟨kt_87, by decide, by decide +kernel⟩, fun _ h => absurd h List.not_mem_nil⟩⟩⟩⟩⟩⟩⟩
theorem kt_88 : (Jvm.Cond.fieldLink "BorderThroughBed$Laws" 14 "BorderThroughBed$Laws" "laws" "LBorderThroughBed$Table;") ∈ ex_tb := ex_in (i := 181) (by decide +kernel) (by decide +kernel)
theorem kq_F_5 : ∀ q ∈ ex_cF.getD 5 [], ex_PF 5 q.1 q.2 := List.forall_mem_cons.mpr ⟨⟨kt_88, by decide, by decide +kernel⟩, fun _ h => absurd h List.not_mem_nil⟩
theorem kt_89 : (Jvm.Cond.fieldLink "BorderThroughBed$Mover" 9 "BorderThroughBed$Mover" "kinds" "[I") ∈ ex_tb := ex_in (i := 231) (by decide +kernel) (by decide +kernel)
theorem kt_90 : (Jvm.Cond.fieldLink "BorderThroughBed$Mover" 15 "BorderThroughBed$Mover" "places" "[I") ∈ ex_tb := ex_in (i := 232) (by decide +kernel) (by decide +kernel)
theorem kt_91 : (Jvm.Cond.fieldLink "BorderThroughBed$Mover" 18 "BorderThroughBed$Mover" "spots" "[I") ∈ ex_tb := ex_in (i := 233) (by decide +kernel) (by decide +kernel)
theorem kt_92 : (Jvm.Cond.fieldLink "BorderThroughBed$Mover" 21 "BorderThroughBed$Mover" "answer" "[I") ∈ ex_tb := ex_in (i := 234) (by decide +kernel) (by decide +kernel)
theorem kq_F_6 : ∀ q ∈ ex_cF.getD 6 [], ex_PF 6 q.1 q.2 := List.forall_mem_cons.mpr ⟨⟨kt_89, by decide, by decide +kernel⟩, List.forall_mem_cons.mpr ⟨⟨kt_90, by decide, by decide +kernel⟩, List.forall_mem_cons.mpr ⟨⟨kt_91, by decide, by decide +kernel⟩, List.forall_mem_cons.mpr ⟨⟨kt_92, by decide, by decide +kernel⟩, fun _ h => absurd h List.not_mem_nil⟩⟩⟩⟩
theorem kt_93 : (Jvm.Cond.fieldLink "BorderThroughBed$Page" 11 "BorderThroughBed$Page" "codes" "[I") ∈ ex_tb := ex_in (i := 52) (by decide +kernel) (by decide +kernel)
theorem kt_94 : (Jvm.Cond.fieldLink "BorderThroughBed$Page" 19 "BorderThroughBed$Page" "size" "I") ∈ ex_tb := ex_in (i := 53) (by decide +kernel) (by decide +kernel)
theorem kq_F_7 : ∀ q ∈ ex_cF.getD 7 [], ex_PF 7 q.1 q.2 := List.forall_mem_cons.mpr ⟨⟨kt_93, by decide, by decide +kernel⟩, List.forall_mem_cons.mpr ⟨⟨kt_94, by decide, by decide +kernel⟩, fun _ h => absurd h List.not_mem_nil⟩⟩
theorem kt_95 : (Jvm.Cond.fieldLink "BorderThroughBed$Table" 11 "BorderThroughBed$Table" "numbers" "[I") ∈ ex_tb := ex_in (i := 171) (by decide +kernel) (by decide +kernel)
theorem kt_96 : (Jvm.Cond.fieldLink "BorderThroughBed$Table" 15 "BorderThroughBed$Table" "most" "I") ∈ ex_tb := ex_in (i := 172) (by decide +kernel) (by decide +kernel)
theorem kt_97 : (Jvm.Cond.fieldLink "BorderThroughBed$Table" 19 "BorderThroughBed$Table" "size" "I") ∈ ex_tb := ex_in (i := 173) (by decide +kernel) (by decide +kernel)
theorem kq_F_8 : ∀ q ∈ ex_cF.getD 8 [], ex_PF 8 q.1 q.2 := List.forall_mem_cons.mpr ⟨⟨kt_95, by decide, by decide +kernel⟩, List.forall_mem_cons.mpr ⟨⟨kt_96, by decide, by decide +kernel⟩, List.forall_mem_cons.mpr ⟨⟨kt_97, by decide, by decide +kernel⟩, fun _ h => absurd h List.not_mem_nil⟩⟩⟩
theorem kq_F_9 : ∀ q ∈ ex_cF.getD 9 [], ex_PF 9 q.1 q.2 := fun _ h => absurd h List.not_mem_nil
theorem kt_98 : (Jvm.Cond.fieldLink "BorderThroughBed" 10 "BorderThroughBed" "page" "LBorderThroughBed$Page;") ∈ ex_tb := ex_in (i := 248) (by decide +kernel) (by decide +kernel)
theorem kt_99 : (Jvm.Cond.fieldLink "BorderThroughBed" 19 "BorderThroughBed" "houseText" "LBorderThroughBed$HouseText;") ∈ ex_tb := ex_in (i := 249) (by decide +kernel) (by decide +kernel)
theorem kt_100 : (Jvm.Cond.fieldLink "BorderThroughBed" 26 "BorderThroughBed" "lawText" "LBorderThroughBed$LawText;") ∈ ex_tb := ex_in (i := 250) (by decide +kernel) (by decide +kernel)
theorem kt_101 : (Jvm.Cond.fieldLink "BorderThroughBed" 33 "BorderThroughBed" "house" "LBorderThroughBed$House;") ∈ ex_tb := ex_in (i := 251) (by decide +kernel) (by decide +kernel)
theorem kt_102 : (Jvm.Cond.fieldLink "BorderThroughBed" 40 "BorderThroughBed" "laws" "LBorderThroughBed$Laws;") ∈ ex_tb := ex_in (i := 252) (by decide +kernel) (by decide +kernel)
theorem kt_103 : (Jvm.Cond.fieldLink "BorderThroughBed" 47 "BorderThroughBed" "now" "LBorderThroughBed$Day;") ∈ ex_tb := ex_in (i := 253) (by decide +kernel) (by decide +kernel)
theorem kt_104 : (Jvm.Cond.fieldLink "BorderThroughBed" 51 "BorderThroughBed" "imageDay" "LBorderThroughBed$Day;") ∈ ex_tb := ex_in (i := 254) (by decide +kernel) (by decide +kernel)
theorem kt_105 : (Jvm.Cond.fieldLink "BorderThroughBed" 57 "BorderThroughBed" "keeping" "LBorderThroughBed$Keeping;") ∈ ex_tb := ex_in (i := 255) (by decide +kernel) (by decide +kernel)
theorem kt_106 : (Jvm.Cond.fieldLink "BorderThroughBed" 64 "BorderThroughBed" "mover" "LBorderThroughBed$Mover;") ∈ ex_tb := ex_in (i := 256) (by decide +kernel) (by decide +kernel)
theorem kt_107 : (Jvm.Cond.fieldLink "BorderThroughBed" 101 "BorderThroughBed" "imageIsKept" "Z") ∈ ex_tb := ex_in (i := 257) (by decide +kernel) (by decide +kernel)
theorem kt_108 : (Jvm.Cond.fieldLink "BorderThroughBed" 105 "BorderThroughBed" "housesRead" "I") ∈ ex_tb := ex_in (i := 258) (by decide +kernel) (by decide +kernel)
theorem kt_109 : (Jvm.Cond.fieldLink "BorderThroughBed" 151 "BorderThroughBed$Day" "events" "LBorderThroughBed$Table;") ∈ ex_tb := ex_in (i := 196) (by decide +kernel) (by decide +kernel)
theorem kt_110 : (Jvm.Cond.fieldLink "BorderThroughBed" 187 "BorderThroughBed$Day" "things" "LBorderThroughBed$Table;") ∈ ex_tb := ex_in (i := 194) (by decide +kernel) (by decide +kernel)
theorem kt_111 : (Jvm.Cond.fieldLink "BorderThroughBed" 205 "BorderThroughBed$Day" "habits" "LBorderThroughBed$Table;") ∈ ex_tb := ex_in (i := 198) (by decide +kernel) (by decide +kernel)
theorem kt_112 : (Jvm.Cond.fieldLink "BorderThroughBed" 220 "BorderThroughBed" "movesDone" "I") ∈ ex_tb := ex_in (i := 259) (by decide +kernel) (by decide +kernel)
theorem kt_113 : (Jvm.Cond.fieldLink "BorderThroughBed" 262 "BorderThroughBed$Day" "judgments" "LBorderThroughBed$Table;") ∈ ex_tb := ex_in (i := 200) (by decide +kernel) (by decide +kernel)
theorem kq_F_10 : ∀ q ∈ ex_cF.getD 10 [], ex_PF 10 q.1 q.2 := List.forall_mem_cons.mpr ⟨⟨kt_98, by decide, by decide +kernel⟩, List.forall_mem_cons.mpr ⟨⟨kt_99, by decide, by decide +kernel⟩, List.forall_mem_cons.mpr ⟨⟨kt_100, by decide, by decide +kernel⟩, List.forall_mem_cons.mpr ⟨⟨kt_101, by decide, by decide +kernel⟩, List.forall_mem_cons.mpr ⟨⟨kt_102, by decide, by decide +kernel⟩, List.forall_mem_cons.mpr ⟨⟨kt_103, by decide, by decide +kernel⟩, List.forall_mem_cons.mpr ⟨⟨kt_104, by decide, by decide +kernel⟩, List.forall_mem_cons.mpr ⟨⟨kt_105, by decide, by decide +kernel⟩, List.forall_mem_cons.mpr ⟨⟨kt_106, by decide, by decide +kernel⟩, List.forall_mem_cons.mpr ⟨⟨kt_107, by decide, by decide +kernel⟩, List.forall_mem_cons.mpr ⟨⟨kt_108, by decide, by decide +kernel⟩, List.forall_mem_cons.mpr ⟨⟨kt_109, by decide, by decide +kernel⟩, List.forall_mem_cons.mpr ⟨⟨kt_110, by decide, by decide +kernel⟩, List.forall_mem_cons.mpr ⟨⟨kt_111, by decide, by decide +kernel⟩, List.forall_mem_cons.mpr ⟨⟨kt_112, by decide, by decide +kernel⟩, List.forall_mem_cons.mpr ⟨⟨kt_113, by decide, by decide +kernel⟩, fun _ h => absurd h List.not_mem_nil⟩⟩⟩⟩⟩⟩⟩⟩⟩⟩⟩⟩⟩⟩⟩⟩
theorem kq_F_11 : ∀ q ∈ ex_cF.getD 11 [], ex_PF 11 q.1 q.2 := fun _ h => absurd h List.not_mem_nil
theorem kq_F {c : Nat} (hc : c < 12) : ∀ q ∈ ex_cF.getD c [], ex_PF c q.1 q.2 := by
  match c, hc with
  | 0, _ => exact kq_F_0
  | 1, _ => exact kq_F_1
  | 2, _ => exact kq_F_2
  | 3, _ => exact kq_F_3
  | 4, _ => exact kq_F_4
  | 5, _ => exact kq_F_5
  | 6, _ => exact kq_F_6
  | 7, _ => exact kq_F_7
  | 8, _ => exact kq_F_8
  | 9, _ => exact kq_F_9
  | 10, _ => exact kq_F_10
  | 11, _ => exact kq_F_11
def ex_PS (c a e : Nat) : Prop := (e = 1000 ∧ Jvm.Cond.fieldLink (ex_Rn c) a "BorderThroughBed$House" "DOWN" "[I" ∈ ex_tb) ∨ (e = 1001 ∧ Jvm.Cond.fieldLink (ex_Rn c) a "BorderThroughBed$House" "RIGHT" "[I" ∈ ex_tb)
theorem kq_S_0 : ∀ q ∈ ex_cS.getD 0 [], ex_PS 0 q.1 q.2 := fun _ h => absurd h List.not_mem_nil
theorem kt_114 : (Jvm.Cond.fieldLink "BorderThroughBed$House" 86 "BorderThroughBed$House" "DOWN" "[I") ∈ ex_tb := ex_in (i := 627) (by decide +kernel) (by decide +kernel)
theorem kt_115 : (Jvm.Cond.fieldLink "BorderThroughBed$House" 89 "BorderThroughBed$House" "RIGHT" "[I") ∈ ex_tb := ex_in (i := 629) (by decide +kernel) (by decide +kernel)
theorem kq_S_1 : ∀ q ∈ ex_cS.getD 1 [], ex_PS 1 q.1 q.2 := List.forall_mem_cons.mpr ⟨Or.inl ⟨rfl, kt_114⟩, List.forall_mem_cons.mpr ⟨Or.inr ⟨rfl, kt_115⟩, fun _ h => absurd h List.not_mem_nil⟩⟩
theorem kq_S_2 : ∀ q ∈ ex_cS.getD 2 [], ex_PS 2 q.1 q.2 := fun _ h => absurd h List.not_mem_nil
theorem kq_S_3 : ∀ q ∈ ex_cS.getD 3 [], ex_PS 3 q.1 q.2 := fun _ h => absurd h List.not_mem_nil
theorem kq_S_4 : ∀ q ∈ ex_cS.getD 4 [], ex_PS 4 q.1 q.2 := fun _ h => absurd h List.not_mem_nil
theorem kq_S_5 : ∀ q ∈ ex_cS.getD 5 [], ex_PS 5 q.1 q.2 := fun _ h => absurd h List.not_mem_nil
theorem kq_S_6 : ∀ q ∈ ex_cS.getD 6 [], ex_PS 6 q.1 q.2 := fun _ h => absurd h List.not_mem_nil
theorem kq_S_7 : ∀ q ∈ ex_cS.getD 7 [], ex_PS 7 q.1 q.2 := fun _ h => absurd h List.not_mem_nil
theorem kq_S_8 : ∀ q ∈ ex_cS.getD 8 [], ex_PS 8 q.1 q.2 := fun _ h => absurd h List.not_mem_nil
theorem kq_S_9 : ∀ q ∈ ex_cS.getD 9 [], ex_PS 9 q.1 q.2 := fun _ h => absurd h List.not_mem_nil
theorem kq_S_10 : ∀ q ∈ ex_cS.getD 10 [], ex_PS 10 q.1 q.2 := fun _ h => absurd h List.not_mem_nil
theorem kq_S_11 : ∀ q ∈ ex_cS.getD 11 [], ex_PS 11 q.1 q.2 := fun _ h => absurd h List.not_mem_nil
theorem kq_S {c : Nat} (hc : c < 12) : ∀ q ∈ ex_cS.getD c [], ex_PS c q.1 q.2 := by
  match c, hc with
  | 0, _ => exact kq_S_0
  | 1, _ => exact kq_S_1
  | 2, _ => exact kq_S_2
  | 3, _ => exact kq_S_3
  | 4, _ => exact kq_S_4
  | 5, _ => exact kq_S_5
  | 6, _ => exact kq_S_6
  | 7, _ => exact kq_S_7
  | 8, _ => exact kq_S_8
  | 9, _ => exact kq_S_9
  | 10, _ => exact kq_S_10
  | 11, _ => exact kq_S_11
def ex_PK (c a : Nat) (v : Int) : Prop := Jvm.Cond.constant (ex_Rn c) a (Int32.ofInt v) ∈ ex_tb
def ex_PL (c a : Nat) (v : Int) : Prop := Jvm.Cond.constantLong (ex_Rn c) a (Int64.ofInt v) ∈ ex_tb
theorem kq_K_0 : ∀ q ∈ ex_cK.getD 0 [], ex_PK 0 q.1 q.2 := fun _ h => absurd h List.not_mem_nil
theorem kt_116 : (Jvm.Cond.constant (ex_Rn 1) 103 (Int32.ofInt 1000000)) ∈ ex_tb := ex_in (i := 644) (by decide +kernel) (by decide +kernel)
theorem kq_K_1 : ∀ q ∈ ex_cK.getD 1 [], ex_PK 1 q.1 q.2 := List.forall_mem_cons.mpr ⟨kt_116, fun _ h => absurd h List.not_mem_nil⟩
theorem kq_K_2 : ∀ q ∈ ex_cK.getD 2 [], ex_PK 2 q.1 q.2 := fun _ h => absurd h List.not_mem_nil
theorem kq_K_3 : ∀ q ∈ ex_cK.getD 3 [], ex_PK 3 q.1 q.2 := fun _ h => absurd h List.not_mem_nil
theorem kq_K_4 : ∀ q ∈ ex_cK.getD 4 [], ex_PK 4 q.1 q.2 := fun _ h => absurd h List.not_mem_nil
theorem kq_K_5 : ∀ q ∈ ex_cK.getD 5 [], ex_PK 5 q.1 q.2 := fun _ h => absurd h List.not_mem_nil
theorem kq_K_6 : ∀ q ∈ ex_cK.getD 6 [], ex_PK 6 q.1 q.2 := fun _ h => absurd h List.not_mem_nil
theorem kq_K_7 : ∀ q ∈ ex_cK.getD 7 [], ex_PK 7 q.1 q.2 := fun _ h => absurd h List.not_mem_nil
theorem kq_K_8 : ∀ q ∈ ex_cK.getD 8 [], ex_PK 8 q.1 q.2 := fun _ h => absurd h List.not_mem_nil
theorem kq_K_9 : ∀ q ∈ ex_cK.getD 9 [], ex_PK 9 q.1 q.2 := fun _ h => absurd h List.not_mem_nil
theorem kq_K_10 : ∀ q ∈ ex_cK.getD 10 [], ex_PK 10 q.1 q.2 := fun _ h => absurd h List.not_mem_nil
theorem kt_117 : (Jvm.Cond.constant (ex_Rn 11) 7 (Int32.ofInt 2147483647)) ∈ ex_tb := ex_in (i := 487) (by decide +kernel) (by decide +kernel)
theorem kt_118 : (Jvm.Cond.constant (ex_Rn 11) 24 (Int32.ofInt 32768)) ∈ ex_tb := ex_in (i := 491) (by decide +kernel) (by decide +kernel)
theorem kt_119 : (Jvm.Cond.constant (ex_Rn 11) 82 (Int32.ofInt 65536)) ∈ ex_tb := ex_in (i := 722) (by decide +kernel) (by decide +kernel)
theorem kq_K_11 : ∀ q ∈ ex_cK.getD 11 [], ex_PK 11 q.1 q.2 := List.forall_mem_cons.mpr ⟨kt_117, List.forall_mem_cons.mpr ⟨kt_118, List.forall_mem_cons.mpr ⟨kt_119, fun _ h => absurd h List.not_mem_nil⟩⟩⟩
theorem kq_K {c : Nat} (hc : c < 12) : ∀ q ∈ ex_cK.getD c [], ex_PK c q.1 q.2 := by
  match c, hc with
  | 0, _ => exact kq_K_0
  | 1, _ => exact kq_K_1
  | 2, _ => exact kq_K_2
  | 3, _ => exact kq_K_3
  | 4, _ => exact kq_K_4
  | 5, _ => exact kq_K_5
  | 6, _ => exact kq_K_6
  | 7, _ => exact kq_K_7
  | 8, _ => exact kq_K_8
  | 9, _ => exact kq_K_9
  | 10, _ => exact kq_K_10
  | 11, _ => exact kq_K_11
theorem kq_L_0 : ∀ q ∈ ex_cL.getD 0 [], ex_PL 0 q.1 q.2 := fun _ h => absurd h List.not_mem_nil
theorem kq_L_1 : ∀ q ∈ ex_cL.getD 1 [], ex_PL 1 q.1 q.2 := fun _ h => absurd h List.not_mem_nil
theorem kq_L_2 : ∀ q ∈ ex_cL.getD 2 [], ex_PL 2 q.1 q.2 := fun _ h => absurd h List.not_mem_nil
theorem kq_L_3 : ∀ q ∈ ex_cL.getD 3 [], ex_PL 3 q.1 q.2 := fun _ h => absurd h List.not_mem_nil
theorem kq_L_4 : ∀ q ∈ ex_cL.getD 4 [], ex_PL 4 q.1 q.2 := fun _ h => absurd h List.not_mem_nil
theorem kq_L_5 : ∀ q ∈ ex_cL.getD 5 [], ex_PL 5 q.1 q.2 := fun _ h => absurd h List.not_mem_nil
theorem kq_L_6 : ∀ q ∈ ex_cL.getD 6 [], ex_PL 6 q.1 q.2 := fun _ h => absurd h List.not_mem_nil
theorem kq_L_7 : ∀ q ∈ ex_cL.getD 7 [], ex_PL 7 q.1 q.2 := fun _ h => absurd h List.not_mem_nil
theorem kq_L_8 : ∀ q ∈ ex_cL.getD 8 [], ex_PL 8 q.1 q.2 := fun _ h => absurd h List.not_mem_nil
theorem kq_L_9 : ∀ q ∈ ex_cL.getD 9 [], ex_PL 9 q.1 q.2 := fun _ h => absurd h List.not_mem_nil
theorem kq_L_10 : ∀ q ∈ ex_cL.getD 10 [], ex_PL 10 q.1 q.2 := fun _ h => absurd h List.not_mem_nil
theorem kq_L_11 : ∀ q ∈ ex_cL.getD 11 [], ex_PL 11 q.1 q.2 := fun _ h => absurd h List.not_mem_nil
theorem kq_L {c : Nat} (hc : c < 12) : ∀ q ∈ ex_cL.getD c [], ex_PL c q.1 q.2 := by
  match c, hc with
  | 0, _ => exact kq_L_0
  | 1, _ => exact kq_L_1
  | 2, _ => exact kq_L_2
  | 3, _ => exact kq_L_3
  | 4, _ => exact kq_L_4
  | 5, _ => exact kq_L_5
  | 6, _ => exact kq_L_6
  | 7, _ => exact kq_L_7
  | 8, _ => exact kq_L_8
  | 9, _ => exact kq_L_9
  | 10, _ => exact kq_L_10
  | 11, _ => exact kq_L_11
def ex_Pm (y : Nat) : Prop := Jvm.Cond.code (ex_Y y) (ex_B y) (ex_L y) (ex_ret y) ∈ ex_tb ∧ Jvm.Cond.initialized (ex_Y y).cls ∈ ex_tb ∧ (ex_Y y).cls = ex_Rn (ex_C y) ∧ ex_C y < 12 ∧ plainName (ex_Y y).cls = true ∧ ((ex_Y y).cls ≠ "java/lang/invoke/MethodHandle" ∧ (ex_Y y).cls ≠ "java/lang/invoke/VarHandle") ∧ ex_L y ≤ 24
theorem kt_120 : (Jvm.Cond.initialized "BorderThroughBed$Day") ∈ ex_tb := ex_in (i := 35) (by decide +kernel) (by decide +kernel)
theorem kt_121 : (Jvm.Cond.initialized "BorderThroughBed$House") ∈ ex_tb := ex_in (i := 32) (by decide +kernel) (by decide +kernel)
theorem kt_122 : (Jvm.Cond.initialized "BorderThroughBed$HouseText") ∈ ex_tb := ex_in (i := 30) (by decide +kernel) (by decide +kernel)
theorem kt_123 : (Jvm.Cond.initialized "BorderThroughBed$Keeping") ∈ ex_tb := ex_in (i := 36) (by decide +kernel) (by decide +kernel)
theorem kt_124 : (Jvm.Cond.initialized "BorderThroughBed$LawText") ∈ ex_tb := ex_in (i := 31) (by decide +kernel) (by decide +kernel)
theorem kt_125 : (Jvm.Cond.initialized "BorderThroughBed$Laws") ∈ ex_tb := ex_in (i := 33) (by decide +kernel) (by decide +kernel)
theorem kt_126 : (Jvm.Cond.initialized "BorderThroughBed$Mover") ∈ ex_tb := ex_in (i := 37) (by decide +kernel) (by decide +kernel)
theorem kt_127 : (Jvm.Cond.initialized "BorderThroughBed$Page") ∈ ex_tb := ex_in (i := 28) (by decide +kernel) (by decide +kernel)
theorem kt_128 : (Jvm.Cond.initialized "BorderThroughBed$Table") ∈ ex_tb := ex_in (i := 34) (by decide +kernel) (by decide +kernel)
theorem kt_129 : (Jvm.Cond.initialized "BorderThroughBed$Text") ∈ ex_tb := ex_in (i := 29) (by decide +kernel) (by decide +kernel)
theorem kt_130 : (Jvm.Cond.initialized "BorderThroughBed") ∈ ex_tb := ex_in (i := 27) (by decide +kernel) (by decide +kernel)
theorem kt_131 : (Jvm.Cond.initialized "BorderThroughBedLaw") ∈ ex_tb := ex_in (i := 26) (by decide +kernel) (by decide +kernel)
theorem kt_132 : (Jvm.Cond.code (ex_Y 0) (ex_B 0) (ex_L 0) (ex_ret 0)) ∈ ex_tb := ex_in (i := 669) (by decide +kernel) (by decide +kernel)
theorem kw_0 : ex_Pm 0 := ⟨kt_132, kt_120, by decide +kernel, by decide +kernel, by decide +kernel, by decide +kernel, by decide +kernel⟩
theorem kt_133 : (Jvm.Cond.code (ex_Y 1) (ex_B 1) (ex_L 1) (ex_ret 1)) ∈ ex_tb := ex_in (i := 345) (by decide +kernel) (by decide +kernel)
theorem kw_1 : ex_Pm 1 := ⟨kt_133, kt_120, by decide +kernel, by decide +kernel, by decide +kernel, by decide +kernel, by decide +kernel⟩
theorem kt_134 : (Jvm.Cond.code (ex_Y 2) (ex_B 2) (ex_L 2) (ex_ret 2)) ∈ ex_tb := ex_in (i := 354) (by decide +kernel) (by decide +kernel)
theorem kw_2 : ex_Pm 2 := ⟨kt_134, kt_120, by decide +kernel, by decide +kernel, by decide +kernel, by decide +kernel, by decide +kernel⟩
theorem kt_135 : (Jvm.Cond.code (ex_Y 3) (ex_B 3) (ex_L 3) (ex_ret 3)) ∈ ex_tb := ex_in (i := 358) (by decide +kernel) (by decide +kernel)
theorem kw_3 : ex_Pm 3 := ⟨kt_135, kt_120, by decide +kernel, by decide +kernel, by decide +kernel, by decide +kernel, by decide +kernel⟩
theorem kt_136 : (Jvm.Cond.code (ex_Y 4) (ex_B 4) (ex_L 4) (ex_ret 4)) ∈ ex_tb := ex_in (i := 350) (by decide +kernel) (by decide +kernel)
theorem kw_4 : ex_Pm 4 := ⟨kt_136, kt_120, by decide +kernel, by decide +kernel, by decide +kernel, by decide +kernel, by decide +kernel⟩
theorem kt_137 : (Jvm.Cond.code (ex_Y 5) (ex_B 5) (ex_L 5) (ex_ret 5)) ∈ ex_tb := ex_in (i := 340) (by decide +kernel) (by decide +kernel)
theorem kw_5 : ex_Pm 5 := ⟨kt_137, kt_120, by decide +kernel, by decide +kernel, by decide +kernel, by decide +kernel, by decide +kernel⟩
theorem kt_138 : (Jvm.Cond.code (ex_Y 6) (ex_B 6) (ex_L 6) (ex_ret 6)) ∈ ex_tb := ex_in (i := 608) (by decide +kernel) (by decide +kernel)
theorem kw_6 : ex_Pm 6 := ⟨kt_138, kt_121, by decide +kernel, by decide +kernel, by decide +kernel, by decide +kernel, by decide +kernel⟩
theorem kt_139 : (Jvm.Cond.code (ex_Y 7) (ex_B 7) (ex_L 7) (ex_ret 7)) ∈ ex_tb := ex_in (i := 614) (by decide +kernel) (by decide +kernel)
theorem kw_7 : ex_Pm 7 := ⟨kt_139, kt_121, by decide +kernel, by decide +kernel, by decide +kernel, by decide +kernel, by decide +kernel⟩
theorem kt_140 : (Jvm.Cond.code (ex_Y 8) (ex_B 8) (ex_L 8) (ex_ret 8)) ∈ ex_tb := ex_in (i := 618) (by decide +kernel) (by decide +kernel)
theorem kw_8 : ex_Pm 8 := ⟨kt_140, kt_121, by decide +kernel, by decide +kernel, by decide +kernel, by decide +kernel, by decide +kernel⟩
theorem kt_141 : (Jvm.Cond.code (ex_Y 9) (ex_B 9) (ex_L 9) (ex_ret 9)) ∈ ex_tb := ex_in (i := 622) (by decide +kernel) (by decide +kernel)
theorem kw_9 : ex_Pm 9 := ⟨kt_141, kt_121, by decide +kernel, by decide +kernel, by decide +kernel, by decide +kernel, by decide +kernel⟩
theorem kt_142 : (Jvm.Cond.code (ex_Y 10) (ex_B 10) (ex_L 10) (ex_ret 10)) ∈ ex_tb := ex_in (i := 626) (by decide +kernel) (by decide +kernel)
theorem kw_10 : ex_Pm 10 := ⟨kt_142, kt_121, by decide +kernel, by decide +kernel, by decide +kernel, by decide +kernel, by decide +kernel⟩
theorem kt_143 : (Jvm.Cond.code (ex_Y 11) (ex_B 11) (ex_L 11) (ex_ret 11)) ∈ ex_tb := ex_in (i := 634) (by decide +kernel) (by decide +kernel)
theorem kw_11 : ex_Pm 11 := ⟨kt_143, kt_121, by decide +kernel, by decide +kernel, by decide +kernel, by decide +kernel, by decide +kernel⟩
theorem kt_144 : (Jvm.Cond.code (ex_Y 12) (ex_B 12) (ex_L 12) (ex_ret 12)) ∈ ex_tb := ex_in (i := 643) (by decide +kernel) (by decide +kernel)
theorem kw_12 : ex_Pm 12 := ⟨kt_144, kt_121, by decide +kernel, by decide +kernel, by decide +kernel, by decide +kernel, by decide +kernel⟩
theorem kt_145 : (Jvm.Cond.code (ex_Y 13) (ex_B 13) (ex_L 13) (ex_ret 13)) ∈ ex_tb := ex_in (i := 648) (by decide +kernel) (by decide +kernel)
theorem kw_13 : ex_Pm 13 := ⟨kt_145, kt_121, by decide +kernel, by decide +kernel, by decide +kernel, by decide +kernel, by decide +kernel⟩
theorem kt_146 : (Jvm.Cond.code (ex_Y 14) (ex_B 14) (ex_L 14) (ex_ret 14)) ∈ ex_tb := ex_in (i := 447) (by decide +kernel) (by decide +kernel)
theorem kw_14 : ex_Pm 14 := ⟨kt_146, kt_121, by decide +kernel, by decide +kernel, by decide +kernel, by decide +kernel, by decide +kernel⟩
theorem kt_147 : (Jvm.Cond.code (ex_Y 15) (ex_B 15) (ex_L 15) (ex_ret 15)) ∈ ex_tb := ex_in (i := 451) (by decide +kernel) (by decide +kernel)
theorem kw_15 : ex_Pm 15 := ⟨kt_147, kt_121, by decide +kernel, by decide +kernel, by decide +kernel, by decide +kernel, by decide +kernel⟩
theorem kt_148 : (Jvm.Cond.code (ex_Y 16) (ex_B 16) (ex_L 16) (ex_ret 16)) ∈ ex_tb := ex_in (i := 323) (by decide +kernel) (by decide +kernel)
theorem kw_16 : ex_Pm 16 := ⟨kt_148, kt_121, by decide +kernel, by decide +kernel, by decide +kernel, by decide +kernel, by decide +kernel⟩
theorem kt_149 : (Jvm.Cond.code (ex_Y 17) (ex_B 17) (ex_L 17) (ex_ret 17)) ∈ ex_tb := ex_in (i := 332) (by decide +kernel) (by decide +kernel)
theorem kw_17 : ex_Pm 17 := ⟨kt_149, kt_121, by decide +kernel, by decide +kernel, by decide +kernel, by decide +kernel, by decide +kernel⟩
theorem kt_150 : (Jvm.Cond.code (ex_Y 18) (ex_B 18) (ex_L 18) (ex_ret 18)) ∈ ex_tb := ex_in (i := 374) (by decide +kernel) (by decide +kernel)
theorem kw_18 : ex_Pm 18 := ⟨kt_150, kt_121, by decide +kernel, by decide +kernel, by decide +kernel, by decide +kernel, by decide +kernel⟩
theorem kt_151 : (Jvm.Cond.code (ex_Y 19) (ex_B 19) (ex_L 19) (ex_ret 19)) ∈ ex_tb := ex_in (i := 639) (by decide +kernel) (by decide +kernel)
theorem kw_19 : ex_Pm 19 := ⟨kt_151, kt_121, by decide +kernel, by decide +kernel, by decide +kernel, by decide +kernel, by decide +kernel⟩
theorem kt_152 : (Jvm.Cond.code (ex_Y 20) (ex_B 20) (ex_L 20) (ex_ret 20)) ∈ ex_tb := ex_in (i := 336) (by decide +kernel) (by decide +kernel)
theorem kw_20 : ex_Pm 20 := ⟨kt_152, kt_121, by decide +kernel, by decide +kernel, by decide +kernel, by decide +kernel, by decide +kernel⟩
theorem kt_153 : (Jvm.Cond.code (ex_Y 21) (ex_B 21) (ex_L 21) (ex_ret 21)) ∈ ex_tb := ex_in (i := 660) (by decide +kernel) (by decide +kernel)
theorem kw_21 : ex_Pm 21 := ⟨kt_153, kt_121, by decide +kernel, by decide +kernel, by decide +kernel, by decide +kernel, by decide +kernel⟩
theorem kt_154 : (Jvm.Cond.code (ex_Y 22) (ex_B 22) (ex_L 22) (ex_ret 22)) ∈ ex_tb := ex_in (i := 379) (by decide +kernel) (by decide +kernel)
theorem kw_22 : ex_Pm 22 := ⟨kt_154, kt_121, by decide +kernel, by decide +kernel, by decide +kernel, by decide +kernel, by decide +kernel⟩
theorem kt_155 : (Jvm.Cond.code (ex_Y 23) (ex_B 23) (ex_L 23) (ex_ret 23)) ∈ ex_tb := ex_in (i := 366) (by decide +kernel) (by decide +kernel)
theorem kw_23 : ex_Pm 23 := ⟨kt_155, kt_121, by decide +kernel, by decide +kernel, by decide +kernel, by decide +kernel, by decide +kernel⟩
theorem kt_156 : (Jvm.Cond.code (ex_Y 24) (ex_B 24) (ex_L 24) (ex_ret 24)) ∈ ex_tb := ex_in (i := 404) (by decide +kernel) (by decide +kernel)
theorem kw_24 : ex_Pm 24 := ⟨kt_156, kt_121, by decide +kernel, by decide +kernel, by decide +kernel, by decide +kernel, by decide +kernel⟩
theorem kt_157 : (Jvm.Cond.code (ex_Y 25) (ex_B 25) (ex_L 25) (ex_ret 25)) ∈ ex_tb := ex_in (i := 362) (by decide +kernel) (by decide +kernel)
theorem kw_25 : ex_Pm 25 := ⟨kt_157, kt_121, by decide +kernel, by decide +kernel, by decide +kernel, by decide +kernel, by decide +kernel⟩
theorem kt_158 : (Jvm.Cond.code (ex_Y 26) (ex_B 26) (ex_L 26) (ex_ret 26)) ∈ ex_tb := ex_in (i := 652) (by decide +kernel) (by decide +kernel)
theorem kw_26 : ex_Pm 26 := ⟨kt_158, kt_121, by decide +kernel, by decide +kernel, by decide +kernel, by decide +kernel, by decide +kernel⟩
theorem kt_159 : (Jvm.Cond.code (ex_Y 27) (ex_B 27) (ex_L 27) (ex_ret 27)) ∈ ex_tb := ex_in (i := 656) (by decide +kernel) (by decide +kernel)
theorem kw_27 : ex_Pm 27 := ⟨kt_159, kt_121, by decide +kernel, by decide +kernel, by decide +kernel, by decide +kernel, by decide +kernel⟩
theorem kt_160 : (Jvm.Cond.code (ex_Y 28) (ex_B 28) (ex_L 28) (ex_ret 28)) ∈ ex_tb := ex_in (i := 524) (by decide +kernel) (by decide +kernel)
theorem kw_28 : ex_Pm 28 := ⟨kt_160, kt_122, by decide +kernel, by decide +kernel, by decide +kernel, by decide +kernel, by decide +kernel⟩
theorem kt_161 : (Jvm.Cond.code (ex_Y 29) (ex_B 29) (ex_L 29) (ex_ret 29)) ∈ ex_tb := ex_in (i := 539) (by decide +kernel) (by decide +kernel)
theorem kw_29 : ex_Pm 29 := ⟨kt_161, kt_122, by decide +kernel, by decide +kernel, by decide +kernel, by decide +kernel, by decide +kernel⟩
theorem kt_162 : (Jvm.Cond.code (ex_Y 30) (ex_B 30) (ex_L 30) (ex_ret 30)) ∈ ex_tb := ex_in (i := 543) (by decide +kernel) (by decide +kernel)
theorem kw_30 : ex_Pm 30 := ⟨kt_162, kt_122, by decide +kernel, by decide +kernel, by decide +kernel, by decide +kernel, by decide +kernel⟩
theorem kt_163 : (Jvm.Cond.code (ex_Y 31) (ex_B 31) (ex_L 31) (ex_ret 31)) ∈ ex_tb := ex_in (i := 547) (by decide +kernel) (by decide +kernel)
theorem kw_31 : ex_Pm 31 := ⟨kt_163, kt_122, by decide +kernel, by decide +kernel, by decide +kernel, by decide +kernel, by decide +kernel⟩
theorem kt_164 : (Jvm.Cond.code (ex_Y 32) (ex_B 32) (ex_L 32) (ex_ret 32)) ∈ ex_tb := ex_in (i := 555) (by decide +kernel) (by decide +kernel)
theorem kw_32 : ex_Pm 32 := ⟨kt_164, kt_122, by decide +kernel, by decide +kernel, by decide +kernel, by decide +kernel, by decide +kernel⟩
theorem kt_165 : (Jvm.Cond.code (ex_Y 33) (ex_B 33) (ex_L 33) (ex_ret 33)) ∈ ex_tb := ex_in (i := 551) (by decide +kernel) (by decide +kernel)
theorem kw_33 : ex_Pm 33 := ⟨kt_165, kt_122, by decide +kernel, by decide +kernel, by decide +kernel, by decide +kernel, by decide +kernel⟩
theorem kt_166 : (Jvm.Cond.code (ex_Y 34) (ex_B 34) (ex_L 34) (ex_ret 34)) ∈ ex_tb := ex_in (i := 601) (by decide +kernel) (by decide +kernel)
theorem kw_34 : ex_Pm 34 := ⟨kt_166, kt_122, by decide +kernel, by decide +kernel, by decide +kernel, by decide +kernel, by decide +kernel⟩
theorem kt_167 : (Jvm.Cond.code (ex_Y 35) (ex_B 35) (ex_L 35) (ex_ret 35)) ∈ ex_tb := ex_in (i := 527) (by decide +kernel) (by decide +kernel)
theorem kw_35 : ex_Pm 35 := ⟨kt_167, kt_124, by decide +kernel, by decide +kernel, by decide +kernel, by decide +kernel, by decide +kernel⟩
theorem kt_168 : (Jvm.Cond.code (ex_Y 36) (ex_B 36) (ex_L 36) (ex_ret 36)) ∈ ex_tb := ex_in (i := 558) (by decide +kernel) (by decide +kernel)
theorem kw_36 : ex_Pm 36 := ⟨kt_168, kt_124, by decide +kernel, by decide +kernel, by decide +kernel, by decide +kernel, by decide +kernel⟩
theorem kt_169 : (Jvm.Cond.code (ex_Y 37) (ex_B 37) (ex_L 37) (ex_ret 37)) ∈ ex_tb := ex_in (i := 562) (by decide +kernel) (by decide +kernel)
theorem kw_37 : ex_Pm 37 := ⟨kt_169, kt_124, by decide +kernel, by decide +kernel, by decide +kernel, by decide +kernel, by decide +kernel⟩
theorem kt_170 : (Jvm.Cond.code (ex_Y 38) (ex_B 38) (ex_L 38) (ex_ret 38)) ∈ ex_tb := ex_in (i := 566) (by decide +kernel) (by decide +kernel)
theorem kw_38 : ex_Pm 38 := ⟨kt_170, kt_124, by decide +kernel, by decide +kernel, by decide +kernel, by decide +kernel, by decide +kernel⟩
theorem kt_171 : (Jvm.Cond.code (ex_Y 39) (ex_B 39) (ex_L 39) (ex_ret 39)) ∈ ex_tb := ex_in (i := 570) (by decide +kernel) (by decide +kernel)
theorem kw_39 : ex_Pm 39 := ⟨kt_171, kt_124, by decide +kernel, by decide +kernel, by decide +kernel, by decide +kernel, by decide +kernel⟩
theorem kt_172 : (Jvm.Cond.code (ex_Y 40) (ex_B 40) (ex_L 40) (ex_ret 40)) ∈ ex_tb := ex_in (i := 578) (by decide +kernel) (by decide +kernel)
theorem kw_40 : ex_Pm 40 := ⟨kt_172, kt_124, by decide +kernel, by decide +kernel, by decide +kernel, by decide +kernel, by decide +kernel⟩
theorem kt_173 : (Jvm.Cond.code (ex_Y 41) (ex_B 41) (ex_L 41) (ex_ret 41)) ∈ ex_tb := ex_in (i := 574) (by decide +kernel) (by decide +kernel)
theorem kw_41 : ex_Pm 41 := ⟨kt_173, kt_124, by decide +kernel, by decide +kernel, by decide +kernel, by decide +kernel, by decide +kernel⟩
theorem kt_174 : (Jvm.Cond.code (ex_Y 42) (ex_B 42) (ex_L 42) (ex_ret 42)) ∈ ex_tb := ex_in (i := 581) (by decide +kernel) (by decide +kernel)
theorem kw_42 : ex_Pm 42 := ⟨kt_174, kt_124, by decide +kernel, by decide +kernel, by decide +kernel, by decide +kernel, by decide +kernel⟩
theorem kt_175 : (Jvm.Cond.code (ex_Y 43) (ex_B 43) (ex_L 43) (ex_ret 43)) ∈ ex_tb := ex_in (i := 604) (by decide +kernel) (by decide +kernel)
theorem kw_43 : ex_Pm 43 := ⟨kt_175, kt_124, by decide +kernel, by decide +kernel, by decide +kernel, by decide +kernel, by decide +kernel⟩
theorem kt_176 : (Jvm.Cond.code (ex_Y 44) (ex_B 44) (ex_L 44) (ex_ret 44)) ∈ ex_tb := ex_in (i := 699) (by decide +kernel) (by decide +kernel)
theorem kw_44 : ex_Pm 44 := ⟨kt_176, kt_124, by decide +kernel, by decide +kernel, by decide +kernel, by decide +kernel, by decide +kernel⟩
theorem kt_177 : (Jvm.Cond.code (ex_Y 45) (ex_B 45) (ex_L 45) (ex_ret 45)) ∈ ex_tb := ex_in (i := 315) (by decide +kernel) (by decide +kernel)
theorem kw_45 : ex_Pm 45 := ⟨kt_177, kt_125, by decide +kernel, by decide +kernel, by decide +kernel, by decide +kernel, by decide +kernel⟩
theorem kt_178 : (Jvm.Cond.code (ex_Y 46) (ex_B 46) (ex_L 46) (ex_ret 46)) ∈ ex_tb := ex_in (i := 292) (by decide +kernel) (by decide +kernel)
theorem kw_46 : ex_Pm 46 := ⟨kt_178, kt_125, by decide +kernel, by decide +kernel, by decide +kernel, by decide +kernel, by decide +kernel⟩
theorem kt_179 : (Jvm.Cond.code (ex_Y 47) (ex_B 47) (ex_L 47) (ex_ret 47)) ∈ ex_tb := ex_in (i := 690) (by decide +kernel) (by decide +kernel)
theorem kw_47 : ex_Pm 47 := ⟨kt_179, kt_125, by decide +kernel, by decide +kernel, by decide +kernel, by decide +kernel, by decide +kernel⟩
theorem kt_180 : (Jvm.Cond.code (ex_Y 48) (ex_B 48) (ex_L 48) (ex_ret 48)) ∈ ex_tb := ex_in (i := 695) (by decide +kernel) (by decide +kernel)
theorem kw_48 : ex_Pm 48 := ⟨kt_180, kt_125, by decide +kernel, by decide +kernel, by decide +kernel, by decide +kernel, by decide +kernel⟩
theorem kt_181 : (Jvm.Cond.code (ex_Y 49) (ex_B 49) (ex_L 49) (ex_ret 49)) ∈ ex_tb := ex_in (i := 303) (by decide +kernel) (by decide +kernel)
theorem kw_49 : ex_Pm 49 := ⟨kt_181, kt_125, by decide +kernel, by decide +kernel, by decide +kernel, by decide +kernel, by decide +kernel⟩
theorem kt_182 : (Jvm.Cond.code (ex_Y 50) (ex_B 50) (ex_L 50) (ex_ret 50)) ∈ ex_tb := ex_in (i := 390) (by decide +kernel) (by decide +kernel)
theorem kw_50 : ex_Pm 50 := ⟨kt_182, kt_125, by decide +kernel, by decide +kernel, by decide +kernel, by decide +kernel, by decide +kernel⟩
theorem kt_183 : (Jvm.Cond.code (ex_Y 51) (ex_B 51) (ex_L 51) (ex_ret 51)) ∈ ex_tb := ex_in (i := 394) (by decide +kernel) (by decide +kernel)
theorem kw_51 : ex_Pm 51 := ⟨kt_183, kt_125, by decide +kernel, by decide +kernel, by decide +kernel, by decide +kernel, by decide +kernel⟩
theorem kt_184 : (Jvm.Cond.code (ex_Y 52) (ex_B 52) (ex_L 52) (ex_ret 52)) ∈ ex_tb := ex_in (i := 398) (by decide +kernel) (by decide +kernel)
theorem kw_52 : ex_Pm 52 := ⟨kt_184, kt_125, by decide +kernel, by decide +kernel, by decide +kernel, by decide +kernel, by decide +kernel⟩
theorem kt_185 : (Jvm.Cond.code (ex_Y 53) (ex_B 53) (ex_L 53) (ex_ret 53)) ∈ ex_tb := ex_in (i := 501) (by decide +kernel) (by decide +kernel)
theorem kw_53 : ex_Pm 53 := ⟨kt_185, kt_127, by decide +kernel, by decide +kernel, by decide +kernel, by decide +kernel, by decide +kernel⟩
theorem kt_186 : (Jvm.Cond.code (ex_Y 54) (ex_B 54) (ex_L 54) (ex_ret 54)) ∈ ex_tb := ex_in (i := 504) (by decide +kernel) (by decide +kernel)
theorem kw_54 : ex_Pm 54 := ⟨kt_186, kt_127, by decide +kernel, by decide +kernel, by decide +kernel, by decide +kernel, by decide +kernel⟩
theorem kt_187 : (Jvm.Cond.code (ex_Y 55) (ex_B 55) (ex_L 55) (ex_ret 55)) ∈ ex_tb := ex_in (i := 508) (by decide +kernel) (by decide +kernel)
theorem kw_55 : ex_Pm 55 := ⟨kt_187, kt_127, by decide +kernel, by decide +kernel, by decide +kernel, by decide +kernel, by decide +kernel⟩
theorem kt_188 : (Jvm.Cond.code (ex_Y 56) (ex_B 56) (ex_L 56) (ex_ret 56)) ∈ ex_tb := ex_in (i := 483) (by decide +kernel) (by decide +kernel)
theorem kw_56 : ex_Pm 56 := ⟨kt_188, kt_127, by decide +kernel, by decide +kernel, by decide +kernel, by decide +kernel, by decide +kernel⟩
theorem kt_189 : (Jvm.Cond.code (ex_Y 57) (ex_B 57) (ex_L 57) (ex_ret 57)) ∈ ex_tb := ex_in (i := 532) (by decide +kernel) (by decide +kernel)
theorem kw_57 : ex_Pm 57 := ⟨kt_189, kt_127, by decide +kernel, by decide +kernel, by decide +kernel, by decide +kernel, by decide +kernel⟩
theorem kt_190 : (Jvm.Cond.code (ex_Y 58) (ex_B 58) (ex_L 58) (ex_ret 58)) ∈ ex_tb := ex_in (i := 665) (by decide +kernel) (by decide +kernel)
theorem kw_58 : ex_Pm 58 := ⟨kt_190, kt_127, by decide +kernel, by decide +kernel, by decide +kernel, by decide +kernel, by decide +kernel⟩
theorem kt_191 : (Jvm.Cond.code (ex_Y 59) (ex_B 59) (ex_L 59) (ex_ret 59)) ∈ ex_tb := ex_in (i := 296) (by decide +kernel) (by decide +kernel)
theorem kw_59 : ex_Pm 59 := ⟨kt_191, kt_128, by decide +kernel, by decide +kernel, by decide +kernel, by decide +kernel, by decide +kernel⟩
theorem kt_192 : (Jvm.Cond.code (ex_Y 60) (ex_B 60) (ex_L 60) (ex_ret 60)) ∈ ex_tb := ex_in (i := 413) (by decide +kernel) (by decide +kernel)
theorem kw_60 : ex_Pm 60 := ⟨kt_192, kt_128, by decide +kernel, by decide +kernel, by decide +kernel, by decide +kernel, by decide +kernel⟩
theorem kt_193 : (Jvm.Cond.code (ex_Y 61) (ex_B 61) (ex_L 61) (ex_ret 61)) ∈ ex_tb := ex_in (i := 417) (by decide +kernel) (by decide +kernel)
theorem kw_61 : ex_Pm 61 := ⟨kt_193, kt_128, by decide +kernel, by decide +kernel, by decide +kernel, by decide +kernel, by decide +kernel⟩
theorem kt_194 : (Jvm.Cond.code (ex_Y 62) (ex_B 62) (ex_L 62) (ex_ret 62)) ∈ ex_tb := ex_in (i := 307) (by decide +kernel) (by decide +kernel)
theorem kw_62 : ex_Pm 62 := ⟨kt_194, kt_128, by decide +kernel, by decide +kernel, by decide +kernel, by decide +kernel, by decide +kernel⟩
theorem kt_195 : (Jvm.Cond.code (ex_Y 63) (ex_B 63) (ex_L 63) (ex_ret 63)) ∈ ex_tb := ex_in (i := 422) (by decide +kernel) (by decide +kernel)
theorem kw_63 : ex_Pm 63 := ⟨kt_195, kt_128, by decide +kernel, by decide +kernel, by decide +kernel, by decide +kernel, by decide +kernel⟩
theorem kt_196 : (Jvm.Cond.code (ex_Y 64) (ex_B 64) (ex_L 64) (ex_ret 64)) ∈ ex_tb := ex_in (i := 673) (by decide +kernel) (by decide +kernel)
theorem kw_64 : ex_Pm 64 := ⟨kt_196, kt_128, by decide +kernel, by decide +kernel, by decide +kernel, by decide +kernel, by decide +kernel⟩
theorem kt_197 : (Jvm.Cond.code (ex_Y 65) (ex_B 65) (ex_L 65) (ex_ret 65)) ∈ ex_tb := ex_in (i := 518) (by decide +kernel) (by decide +kernel)
theorem kw_65 : ex_Pm 65 := ⟨kt_197, kt_129, by decide +kernel, by decide +kernel, by decide +kernel, by decide +kernel, by decide +kernel⟩
theorem kt_198 : (Jvm.Cond.code (ex_Y 66) (ex_B 66) (ex_L 66) (ex_ret 66)) ∈ ex_tb := ex_in (i := 594) (by decide +kernel) (by decide +kernel)
theorem kw_66 : ex_Pm 66 := ⟨kt_198, kt_129, by decide +kernel, by decide +kernel, by decide +kernel, by decide +kernel, by decide +kernel⟩
theorem kt_199 : (Jvm.Cond.code (ex_Y 67) (ex_B 67) (ex_L 67) (ex_ret 67)) ∈ ex_tb := ex_in (i := 498) (by decide +kernel) (by decide +kernel)
theorem kw_67 : ex_Pm 67 := ⟨kt_199, kt_130, by decide +kernel, by decide +kernel, by decide +kernel, by decide +kernel, by decide +kernel⟩
theorem kt_200 : (Jvm.Cond.code (ex_Y 68) (ex_B 68) (ex_L 68) (ex_ret 68)) ∈ ex_tb := ex_in (i := 512) (by decide +kernel) (by decide +kernel)
theorem kw_68 : ex_Pm 68 := ⟨kt_200, kt_130, by decide +kernel, by decide +kernel, by decide +kernel, by decide +kernel, by decide +kernel⟩
theorem kt_201 : (Jvm.Cond.code (ex_Y 69) (ex_B 69) (ex_L 69) (ex_ret 69)) ∈ ex_tb := ex_in (i := 588) (by decide +kernel) (by decide +kernel)
theorem kw_69 : ex_Pm 69 := ⟨kt_201, kt_130, by decide +kernel, by decide +kernel, by decide +kernel, by decide +kernel, by decide +kernel⟩
theorem kt_202 : (Jvm.Cond.code (ex_Y 70) (ex_B 70) (ex_L 70) (ex_ret 70)) ∈ ex_tb := ex_in (i := 683) (by decide +kernel) (by decide +kernel)
theorem kw_70 : ex_Pm 70 := ⟨kt_202, kt_130, by decide +kernel, by decide +kernel, by decide +kernel, by decide +kernel, by decide +kernel⟩
theorem kt_203 : (Jvm.Cond.code (ex_Y 71) (ex_B 71) (ex_L 71) (ex_ret 71)) ∈ ex_tb := ex_in (i := 288) (by decide +kernel) (by decide +kernel)
theorem kw_71 : ex_Pm 71 := ⟨kt_203, kt_130, by decide +kernel, by decide +kernel, by decide +kernel, by decide +kernel, by decide +kernel⟩
theorem kt_204 : (Jvm.Cond.code (ex_Y 72) (ex_B 72) (ex_L 72) (ex_ret 72)) ∈ ex_tb := ex_in (i := 312) (by decide +kernel) (by decide +kernel)
theorem kw_72 : ex_Pm 72 := ⟨kt_204, kt_130, by decide +kernel, by decide +kernel, by decide +kernel, by decide +kernel, by decide +kernel⟩
theorem kt_205 : (Jvm.Cond.code (ex_Y 73) (ex_B 73) (ex_L 73) (ex_ret 73)) ∈ ex_tb := ex_in (i := 319) (by decide +kernel) (by decide +kernel)
theorem kw_73 : ex_Pm 73 := ⟨kt_205, kt_130, by decide +kernel, by decide +kernel, by decide +kernel, by decide +kernel, by decide +kernel⟩
theorem kt_206 : (Jvm.Cond.code (ex_Y 74) (ex_B 74) (ex_L 74) (ex_ret 74)) ∈ ex_tb := ex_in (i := 370) (by decide +kernel) (by decide +kernel)
theorem kw_74 : ex_Pm 74 := ⟨kt_206, kt_130, by decide +kernel, by decide +kernel, by decide +kernel, by decide +kernel, by decide +kernel⟩
theorem kt_207 : (Jvm.Cond.code (ex_Y 75) (ex_B 75) (ex_L 75) (ex_ret 75)) ∈ ex_tb := ex_in (i := 383) (by decide +kernel) (by decide +kernel)
theorem kw_75 : ex_Pm 75 := ⟨kt_207, kt_130, by decide +kernel, by decide +kernel, by decide +kernel, by decide +kernel, by decide +kernel⟩
theorem kt_208 : (Jvm.Cond.code (ex_Y 76) (ex_B 76) (ex_L 76) (ex_ret 76)) ∈ ex_tb := ex_in (i := 409) (by decide +kernel) (by decide +kernel)
theorem kw_76 : ex_Pm 76 := ⟨kt_208, kt_130, by decide +kernel, by decide +kernel, by decide +kernel, by decide +kernel, by decide +kernel⟩
theorem kt_209 : (Jvm.Cond.code (ex_Y 77) (ex_B 77) (ex_L 77) (ex_ret 77)) ∈ ex_tb := ex_in (i := 426) (by decide +kernel) (by decide +kernel)
theorem kw_77 : ex_Pm 77 := ⟨kt_209, kt_130, by decide +kernel, by decide +kernel, by decide +kernel, by decide +kernel, by decide +kernel⟩
theorem kt_210 : (Jvm.Cond.code (ex_Y 78) (ex_B 78) (ex_L 78) (ex_ret 78)) ∈ ex_tb := ex_in (i := 443) (by decide +kernel) (by decide +kernel)
theorem kw_78 : ex_Pm 78 := ⟨kt_210, kt_130, by decide +kernel, by decide +kernel, by decide +kernel, by decide +kernel, by decide +kernel⟩
theorem kt_211 : (Jvm.Cond.code (ex_Y 79) (ex_B 79) (ex_L 79) (ex_ret 79)) ∈ ex_tb := ex_in (i := 459) (by decide +kernel) (by decide +kernel)
theorem kw_79 : ex_Pm 79 := ⟨kt_211, kt_130, by decide +kernel, by decide +kernel, by decide +kernel, by decide +kernel, by decide +kernel⟩
theorem kt_212 : (Jvm.Cond.code (ex_Y 80) (ex_B 80) (ex_L 80) (ex_ret 80)) ∈ ex_tb := ex_in (i := 463) (by decide +kernel) (by decide +kernel)
theorem kw_80 : ex_Pm 80 := ⟨kt_212, kt_130, by decide +kernel, by decide +kernel, by decide +kernel, by decide +kernel, by decide +kernel⟩
theorem kt_213 : (Jvm.Cond.code (ex_Y 81) (ex_B 81) (ex_L 81) (ex_ret 81)) ∈ ex_tb := ex_in (i := 467) (by decide +kernel) (by decide +kernel)
theorem kw_81 : ex_Pm 81 := ⟨kt_213, kt_130, by decide +kernel, by decide +kernel, by decide +kernel, by decide +kernel, by decide +kernel⟩
theorem kt_214 : (Jvm.Cond.code (ex_Y 82) (ex_B 82) (ex_L 82) (ex_ret 82)) ∈ ex_tb := ex_in (i := 479) (by decide +kernel) (by decide +kernel)
theorem kw_82 : ex_Pm 82 := ⟨kt_214, kt_130, by decide +kernel, by decide +kernel, by decide +kernel, by decide +kernel, by decide +kernel⟩
theorem kt_215 : (Jvm.Cond.code (ex_Y 83) (ex_B 83) (ex_L 83) (ex_ret 83)) ∈ ex_tb := ex_in (i := 299) (by decide +kernel) (by decide +kernel)
theorem kw_83 : ex_Pm 83 := ⟨kt_215, kt_130, by decide +kernel, by decide +kernel, by decide +kernel, by decide +kernel, by decide +kernel⟩
theorem kt_216 : (Jvm.Cond.code (ex_Y 84) (ex_B 84) (ex_L 84) (ex_ret 84)) ∈ ex_tb := ex_in (i := 386) (by decide +kernel) (by decide +kernel)
theorem kw_84 : ex_Pm 84 := ⟨kt_216, kt_130, by decide +kernel, by decide +kernel, by decide +kernel, by decide +kernel, by decide +kernel⟩
theorem kt_217 : (Jvm.Cond.code (ex_Y 85) (ex_B 85) (ex_L 85) (ex_ret 85)) ∈ ex_tb := ex_in (i := 439) (by decide +kernel) (by decide +kernel)
theorem kw_85 : ex_Pm 85 := ⟨kt_217, kt_130, by decide +kernel, by decide +kernel, by decide +kernel, by decide +kernel, by decide +kernel⟩
theorem kt_218 : (Jvm.Cond.code (ex_Y 86) (ex_B 86) (ex_L 86) (ex_ret 86)) ∈ ex_tb := ex_in (i := 328) (by decide +kernel) (by decide +kernel)
theorem kw_86 : ex_Pm 86 := ⟨kt_218, kt_130, by decide +kernel, by decide +kernel, by decide +kernel, by decide +kernel, by decide +kernel⟩
theorem kt_219 : (Jvm.Cond.code (ex_Y 87) (ex_B 87) (ex_L 87) (ex_ret 87)) ∈ ex_tb := ex_in (i := 436) (by decide +kernel) (by decide +kernel)
theorem kw_87 : ex_Pm 87 := ⟨kt_219, kt_130, by decide +kernel, by decide +kernel, by decide +kernel, by decide +kernel, by decide +kernel⟩
theorem kt_220 : (Jvm.Cond.code (ex_Y 88) (ex_B 88) (ex_L 88) (ex_ret 88)) ∈ ex_tb := ex_in (i := 430) (by decide +kernel) (by decide +kernel)
theorem kw_88 : ex_Pm 88 := ⟨kt_220, kt_130, by decide +kernel, by decide +kernel, by decide +kernel, by decide +kernel, by decide +kernel⟩
theorem kt_221 : (Jvm.Cond.code (ex_Y 89) (ex_B 89) (ex_L 89) (ex_ret 89)) ∈ ex_tb := ex_in (i := 455) (by decide +kernel) (by decide +kernel)
theorem kw_89 : ex_Pm 89 := ⟨kt_221, kt_130, by decide +kernel, by decide +kernel, by decide +kernel, by decide +kernel, by decide +kernel⟩
theorem kt_222 : (Jvm.Cond.code (ex_Y 90) (ex_B 90) (ex_L 90) (ex_ret 90)) ∈ ex_tb := ex_in (i := 471) (by decide +kernel) (by decide +kernel)
theorem kw_90 : ex_Pm 90 := ⟨kt_222, kt_130, by decide +kernel, by decide +kernel, by decide +kernel, by decide +kernel, by decide +kernel⟩
theorem kt_223 : (Jvm.Cond.code (ex_Y 91) (ex_B 91) (ex_L 91) (ex_ret 91)) ∈ ex_tb := ex_in (i := 475) (by decide +kernel) (by decide +kernel)
theorem kw_91 : ex_Pm 91 := ⟨kt_223, kt_130, by decide +kernel, by decide +kernel, by decide +kernel, by decide +kernel, by decide +kernel⟩
theorem kt_224 : (Jvm.Cond.code (ex_Y 92) (ex_B 92) (ex_L 92) (ex_ret 92)) ∈ ex_tb := ex_in (i := 486) (by decide +kernel) (by decide +kernel)
theorem kw_92 : ex_Pm 92 := ⟨kt_224, kt_131, by decide +kernel, by decide +kernel, by decide +kernel, by decide +kernel, by decide +kernel⟩
theorem kt_225 : (Jvm.Cond.code (ex_Y 93) (ex_B 93) (ex_L 93) (ex_ret 93)) ∈ ex_tb := ex_in (i := 494) (by decide +kernel) (by decide +kernel)
theorem kw_93 : ex_Pm 93 := ⟨kt_225, kt_131, by decide +kernel, by decide +kernel, by decide +kernel, by decide +kernel, by decide +kernel⟩
theorem kt_226 : (Jvm.Cond.code (ex_Y 94) (ex_B 94) (ex_L 94) (ex_ret 94)) ∈ ex_tb := ex_in (i := 679) (by decide +kernel) (by decide +kernel)
theorem kw_94 : ex_Pm 94 := ⟨kt_226, kt_131, by decide +kernel, by decide +kernel, by decide +kernel, by decide +kernel, by decide +kernel⟩
theorem kt_227 : (Jvm.Cond.code (ex_Y 95) (ex_B 95) (ex_L 95) (ex_ret 95)) ∈ ex_tb := ex_in (i := 490) (by decide +kernel) (by decide +kernel)
theorem kw_95 : ex_Pm 95 := ⟨kt_227, kt_131, by decide +kernel, by decide +kernel, by decide +kernel, by decide +kernel, by decide +kernel⟩
theorem kt_228 : (Jvm.Cond.code (ex_Y 96) (ex_B 96) (ex_L 96) (ex_ret 96)) ∈ ex_tb := ex_in (i := 676) (by decide +kernel) (by decide +kernel)
theorem kw_96 : ex_Pm 96 := ⟨kt_228, kt_131, by decide +kernel, by decide +kernel, by decide +kernel, by decide +kernel, by decide +kernel⟩
theorem kt_229 : (Jvm.Cond.code (ex_Y 97) (ex_B 97) (ex_L 97) (ex_ret 97)) ∈ ex_tb := ex_in (i := 706) (by decide +kernel) (by decide +kernel)
theorem kw_97 : ex_Pm 97 := ⟨kt_229, kt_131, by decide +kernel, by decide +kernel, by decide +kernel, by decide +kernel, by decide +kernel⟩
theorem kt_230 : (Jvm.Cond.code (ex_Y 98) (ex_B 98) (ex_L 98) (ex_ret 98)) ∈ ex_tb := ex_in (i := 703) (by decide +kernel) (by decide +kernel)
theorem kw_98 : ex_Pm 98 := ⟨kt_230, kt_131, by decide +kernel, by decide +kernel, by decide +kernel, by decide +kernel, by decide +kernel⟩
theorem kt_231 : (Jvm.Cond.code (ex_Y 99) (ex_B 99) (ex_L 99) (ex_ret 99)) ∈ ex_tb := ex_in (i := 709) (by decide +kernel) (by decide +kernel)
theorem kw_99 : ex_Pm 99 := ⟨kt_231, kt_131, by decide +kernel, by decide +kernel, by decide +kernel, by decide +kernel, by decide +kernel⟩
theorem kt_232 : (Jvm.Cond.code (ex_Y 100) (ex_B 100) (ex_L 100) (ex_ret 100)) ∈ ex_tb := ex_in (i := 715) (by decide +kernel) (by decide +kernel)
theorem kw_100 : ex_Pm 100 := ⟨kt_232, kt_131, by decide +kernel, by decide +kernel, by decide +kernel, by decide +kernel, by decide +kernel⟩
theorem kt_233 : (Jvm.Cond.code (ex_Y 101) (ex_B 101) (ex_L 101) (ex_ret 101)) ∈ ex_tb := ex_in (i := 712) (by decide +kernel) (by decide +kernel)
theorem kw_101 : ex_Pm 101 := ⟨kt_233, kt_131, by decide +kernel, by decide +kernel, by decide +kernel, by decide +kernel, by decide +kernel⟩
theorem kt_234 : (Jvm.Cond.code (ex_Y 102) (ex_B 102) (ex_L 102) (ex_ret 102)) ∈ ex_tb := ex_in (i := 718) (by decide +kernel) (by decide +kernel)
theorem kw_102 : ex_Pm 102 := ⟨kt_234, kt_131, by decide +kernel, by decide +kernel, by decide +kernel, by decide +kernel, by decide +kernel⟩
theorem kt_235 : (Jvm.Cond.code (ex_Y 103) (ex_B 103) (ex_L 103) (ex_ret 103)) ∈ ex_tb := ex_in (i := 721) (by decide +kernel) (by decide +kernel)
theorem kw_103 : ex_Pm 103 := ⟨kt_235, kt_131, by decide +kernel, by decide +kernel, by decide +kernel, by decide +kernel, by decide +kernel⟩
theorem kw_all {y : Nat} (hy : y < 104) : ex_Pm y := by
  rcases Nat.eq_or_lt_of_le (show 0 ≤ y from Nat.zero_le y) with h | h0
  · subst h; exact kw_0
  rcases Nat.eq_or_lt_of_le (show 1 ≤ y from h0) with h | h1
  · subst h; exact kw_1
  rcases Nat.eq_or_lt_of_le (show 2 ≤ y from h1) with h | h2
  · subst h; exact kw_2
  rcases Nat.eq_or_lt_of_le (show 3 ≤ y from h2) with h | h3
  · subst h; exact kw_3
  rcases Nat.eq_or_lt_of_le (show 4 ≤ y from h3) with h | h4
  · subst h; exact kw_4
  rcases Nat.eq_or_lt_of_le (show 5 ≤ y from h4) with h | h5
  · subst h; exact kw_5
  rcases Nat.eq_or_lt_of_le (show 6 ≤ y from h5) with h | h6
  · subst h; exact kw_6
  rcases Nat.eq_or_lt_of_le (show 7 ≤ y from h6) with h | h7
  · subst h; exact kw_7
  rcases Nat.eq_or_lt_of_le (show 8 ≤ y from h7) with h | h8
  · subst h; exact kw_8
  rcases Nat.eq_or_lt_of_le (show 9 ≤ y from h8) with h | h9
  · subst h; exact kw_9
  rcases Nat.eq_or_lt_of_le (show 10 ≤ y from h9) with h | h10
  · subst h; exact kw_10
  rcases Nat.eq_or_lt_of_le (show 11 ≤ y from h10) with h | h11
  · subst h; exact kw_11
  rcases Nat.eq_or_lt_of_le (show 12 ≤ y from h11) with h | h12
  · subst h; exact kw_12
  rcases Nat.eq_or_lt_of_le (show 13 ≤ y from h12) with h | h13
  · subst h; exact kw_13
  rcases Nat.eq_or_lt_of_le (show 14 ≤ y from h13) with h | h14
  · subst h; exact kw_14
  rcases Nat.eq_or_lt_of_le (show 15 ≤ y from h14) with h | h15
  · subst h; exact kw_15
  rcases Nat.eq_or_lt_of_le (show 16 ≤ y from h15) with h | h16
  · subst h; exact kw_16
  rcases Nat.eq_or_lt_of_le (show 17 ≤ y from h16) with h | h17
  · subst h; exact kw_17
  rcases Nat.eq_or_lt_of_le (show 18 ≤ y from h17) with h | h18
  · subst h; exact kw_18
  rcases Nat.eq_or_lt_of_le (show 19 ≤ y from h18) with h | h19
  · subst h; exact kw_19
  rcases Nat.eq_or_lt_of_le (show 20 ≤ y from h19) with h | h20
  · subst h; exact kw_20
  rcases Nat.eq_or_lt_of_le (show 21 ≤ y from h20) with h | h21
  · subst h; exact kw_21
  rcases Nat.eq_or_lt_of_le (show 22 ≤ y from h21) with h | h22
  · subst h; exact kw_22
  rcases Nat.eq_or_lt_of_le (show 23 ≤ y from h22) with h | h23
  · subst h; exact kw_23
  rcases Nat.eq_or_lt_of_le (show 24 ≤ y from h23) with h | h24
  · subst h; exact kw_24
  rcases Nat.eq_or_lt_of_le (show 25 ≤ y from h24) with h | h25
  · subst h; exact kw_25
  rcases Nat.eq_or_lt_of_le (show 26 ≤ y from h25) with h | h26
  · subst h; exact kw_26
  rcases Nat.eq_or_lt_of_le (show 27 ≤ y from h26) with h | h27
  · subst h; exact kw_27
  rcases Nat.eq_or_lt_of_le (show 28 ≤ y from h27) with h | h28
  · subst h; exact kw_28
  rcases Nat.eq_or_lt_of_le (show 29 ≤ y from h28) with h | h29
  · subst h; exact kw_29
  rcases Nat.eq_or_lt_of_le (show 30 ≤ y from h29) with h | h30
  · subst h; exact kw_30
  rcases Nat.eq_or_lt_of_le (show 31 ≤ y from h30) with h | h31
  · subst h; exact kw_31
  rcases Nat.eq_or_lt_of_le (show 32 ≤ y from h31) with h | h32
  · subst h; exact kw_32
  rcases Nat.eq_or_lt_of_le (show 33 ≤ y from h32) with h | h33
  · subst h; exact kw_33
  rcases Nat.eq_or_lt_of_le (show 34 ≤ y from h33) with h | h34
  · subst h; exact kw_34
  rcases Nat.eq_or_lt_of_le (show 35 ≤ y from h34) with h | h35
  · subst h; exact kw_35
  rcases Nat.eq_or_lt_of_le (show 36 ≤ y from h35) with h | h36
  · subst h; exact kw_36
  rcases Nat.eq_or_lt_of_le (show 37 ≤ y from h36) with h | h37
  · subst h; exact kw_37
  rcases Nat.eq_or_lt_of_le (show 38 ≤ y from h37) with h | h38
  · subst h; exact kw_38
  rcases Nat.eq_or_lt_of_le (show 39 ≤ y from h38) with h | h39
  · subst h; exact kw_39
  rcases Nat.eq_or_lt_of_le (show 40 ≤ y from h39) with h | h40
  · subst h; exact kw_40
  rcases Nat.eq_or_lt_of_le (show 41 ≤ y from h40) with h | h41
  · subst h; exact kw_41
  rcases Nat.eq_or_lt_of_le (show 42 ≤ y from h41) with h | h42
  · subst h; exact kw_42
  rcases Nat.eq_or_lt_of_le (show 43 ≤ y from h42) with h | h43
  · subst h; exact kw_43
  rcases Nat.eq_or_lt_of_le (show 44 ≤ y from h43) with h | h44
  · subst h; exact kw_44
  rcases Nat.eq_or_lt_of_le (show 45 ≤ y from h44) with h | h45
  · subst h; exact kw_45
  rcases Nat.eq_or_lt_of_le (show 46 ≤ y from h45) with h | h46
  · subst h; exact kw_46
  rcases Nat.eq_or_lt_of_le (show 47 ≤ y from h46) with h | h47
  · subst h; exact kw_47
  rcases Nat.eq_or_lt_of_le (show 48 ≤ y from h47) with h | h48
  · subst h; exact kw_48
  rcases Nat.eq_or_lt_of_le (show 49 ≤ y from h48) with h | h49
  · subst h; exact kw_49
  rcases Nat.eq_or_lt_of_le (show 50 ≤ y from h49) with h | h50
  · subst h; exact kw_50
  rcases Nat.eq_or_lt_of_le (show 51 ≤ y from h50) with h | h51
  · subst h; exact kw_51
  rcases Nat.eq_or_lt_of_le (show 52 ≤ y from h51) with h | h52
  · subst h; exact kw_52
  rcases Nat.eq_or_lt_of_le (show 53 ≤ y from h52) with h | h53
  · subst h; exact kw_53
  rcases Nat.eq_or_lt_of_le (show 54 ≤ y from h53) with h | h54
  · subst h; exact kw_54
  rcases Nat.eq_or_lt_of_le (show 55 ≤ y from h54) with h | h55
  · subst h; exact kw_55
  rcases Nat.eq_or_lt_of_le (show 56 ≤ y from h55) with h | h56
  · subst h; exact kw_56
  rcases Nat.eq_or_lt_of_le (show 57 ≤ y from h56) with h | h57
  · subst h; exact kw_57
  rcases Nat.eq_or_lt_of_le (show 58 ≤ y from h57) with h | h58
  · subst h; exact kw_58
  rcases Nat.eq_or_lt_of_le (show 59 ≤ y from h58) with h | h59
  · subst h; exact kw_59
  rcases Nat.eq_or_lt_of_le (show 60 ≤ y from h59) with h | h60
  · subst h; exact kw_60
  rcases Nat.eq_or_lt_of_le (show 61 ≤ y from h60) with h | h61
  · subst h; exact kw_61
  rcases Nat.eq_or_lt_of_le (show 62 ≤ y from h61) with h | h62
  · subst h; exact kw_62
  rcases Nat.eq_or_lt_of_le (show 63 ≤ y from h62) with h | h63
  · subst h; exact kw_63
  rcases Nat.eq_or_lt_of_le (show 64 ≤ y from h63) with h | h64
  · subst h; exact kw_64
  rcases Nat.eq_or_lt_of_le (show 65 ≤ y from h64) with h | h65
  · subst h; exact kw_65
  rcases Nat.eq_or_lt_of_le (show 66 ≤ y from h65) with h | h66
  · subst h; exact kw_66
  rcases Nat.eq_or_lt_of_le (show 67 ≤ y from h66) with h | h67
  · subst h; exact kw_67
  rcases Nat.eq_or_lt_of_le (show 68 ≤ y from h67) with h | h68
  · subst h; exact kw_68
  rcases Nat.eq_or_lt_of_le (show 69 ≤ y from h68) with h | h69
  · subst h; exact kw_69
  rcases Nat.eq_or_lt_of_le (show 70 ≤ y from h69) with h | h70
  · subst h; exact kw_70
  rcases Nat.eq_or_lt_of_le (show 71 ≤ y from h70) with h | h71
  · subst h; exact kw_71
  rcases Nat.eq_or_lt_of_le (show 72 ≤ y from h71) with h | h72
  · subst h; exact kw_72
  rcases Nat.eq_or_lt_of_le (show 73 ≤ y from h72) with h | h73
  · subst h; exact kw_73
  rcases Nat.eq_or_lt_of_le (show 74 ≤ y from h73) with h | h74
  · subst h; exact kw_74
  rcases Nat.eq_or_lt_of_le (show 75 ≤ y from h74) with h | h75
  · subst h; exact kw_75
  rcases Nat.eq_or_lt_of_le (show 76 ≤ y from h75) with h | h76
  · subst h; exact kw_76
  rcases Nat.eq_or_lt_of_le (show 77 ≤ y from h76) with h | h77
  · subst h; exact kw_77
  rcases Nat.eq_or_lt_of_le (show 78 ≤ y from h77) with h | h78
  · subst h; exact kw_78
  rcases Nat.eq_or_lt_of_le (show 79 ≤ y from h78) with h | h79
  · subst h; exact kw_79
  rcases Nat.eq_or_lt_of_le (show 80 ≤ y from h79) with h | h80
  · subst h; exact kw_80
  rcases Nat.eq_or_lt_of_le (show 81 ≤ y from h80) with h | h81
  · subst h; exact kw_81
  rcases Nat.eq_or_lt_of_le (show 82 ≤ y from h81) with h | h82
  · subst h; exact kw_82
  rcases Nat.eq_or_lt_of_le (show 83 ≤ y from h82) with h | h83
  · subst h; exact kw_83
  rcases Nat.eq_or_lt_of_le (show 84 ≤ y from h83) with h | h84
  · subst h; exact kw_84
  rcases Nat.eq_or_lt_of_le (show 85 ≤ y from h84) with h | h85
  · subst h; exact kw_85
  rcases Nat.eq_or_lt_of_le (show 86 ≤ y from h85) with h | h86
  · subst h; exact kw_86
  rcases Nat.eq_or_lt_of_le (show 87 ≤ y from h86) with h | h87
  · subst h; exact kw_87
  rcases Nat.eq_or_lt_of_le (show 88 ≤ y from h87) with h | h88
  · subst h; exact kw_88
  rcases Nat.eq_or_lt_of_le (show 89 ≤ y from h88) with h | h89
  · subst h; exact kw_89
  rcases Nat.eq_or_lt_of_le (show 90 ≤ y from h89) with h | h90
  · subst h; exact kw_90
  rcases Nat.eq_or_lt_of_le (show 91 ≤ y from h90) with h | h91
  · subst h; exact kw_91
  rcases Nat.eq_or_lt_of_le (show 92 ≤ y from h91) with h | h92
  · subst h; exact kw_92
  rcases Nat.eq_or_lt_of_le (show 93 ≤ y from h92) with h | h93
  · subst h; exact kw_93
  rcases Nat.eq_or_lt_of_le (show 94 ≤ y from h93) with h | h94
  · subst h; exact kw_94
  rcases Nat.eq_or_lt_of_le (show 95 ≤ y from h94) with h | h95
  · subst h; exact kw_95
  rcases Nat.eq_or_lt_of_le (show 96 ≤ y from h95) with h | h96
  · subst h; exact kw_96
  rcases Nat.eq_or_lt_of_le (show 97 ≤ y from h96) with h | h97
  · subst h; exact kw_97
  rcases Nat.eq_or_lt_of_le (show 98 ≤ y from h97) with h | h98
  · subst h; exact kw_98
  rcases Nat.eq_or_lt_of_le (show 99 ≤ y from h98) with h | h99
  · subst h; exact kw_99
  rcases Nat.eq_or_lt_of_le (show 100 ≤ y from h99) with h | h100
  · subst h; exact kw_100
  rcases Nat.eq_or_lt_of_le (show 101 ≤ y from h100) with h | h101
  · subst h; exact kw_101
  rcases Nat.eq_or_lt_of_le (show 102 ≤ y from h101) with h | h102
  · subst h; exact kw_102
  obtain rfl : y = 103 := Nat.le_antisymm (Nat.le_of_lt_succ hy) h102
  exact kw_103
def ex_nw : List Jvm.Cond := [Jvm.Cond.methodLinkNest "BorderThroughBed" 9 ⟨"BorderThroughBed$Page", "<init>", "()V"⟩ "BorderThroughBed", Jvm.Cond.methodLinkNest "BorderThroughBed" 18 ⟨"BorderThroughBed$HouseText", "<init>", "()V"⟩ "BorderThroughBed", Jvm.Cond.methodLinkNest "BorderThroughBed$HouseText" 3 ⟨"BorderThroughBed$Text", "<init>", "()V"⟩ "BorderThroughBed", Jvm.Cond.methodLinkNest "BorderThroughBed" 25 ⟨"BorderThroughBed$LawText", "<init>", "()V"⟩ "BorderThroughBed", Jvm.Cond.methodLinkNest "BorderThroughBed$LawText" 3 ⟨"BorderThroughBed$Text", "<init>", "()V"⟩ "BorderThroughBed", Jvm.Cond.methodLinkNest "BorderThroughBed" 32 ⟨"BorderThroughBed$House", "<init>", "()V"⟩ "BorderThroughBed", Jvm.Cond.methodLinkNest "BorderThroughBed" 39 ⟨"BorderThroughBed$Laws", "<init>", "()V"⟩ "BorderThroughBed", Jvm.Cond.methodLinkNest "BorderThroughBed" 46 ⟨"BorderThroughBed$Day", "<init>", "()V"⟩ "BorderThroughBed", Jvm.Cond.methodLinkNest "BorderThroughBed" 56 ⟨"BorderThroughBed$Keeping", "<init>", "()V"⟩ "BorderThroughBed", Jvm.Cond.methodLinkNest "BorderThroughBed" 63 ⟨"BorderThroughBed$Mover", "<init>", "()V"⟩ "BorderThroughBed", Jvm.Cond.methodLinkNest "BorderThroughBed$Table" 30 ⟨"BorderThroughBed", "below", "(II)Z"⟩ "BorderThroughBed", Jvm.Cond.methodLinkNest "BorderThroughBed$House" 79 ⟨"BorderThroughBed", "below", "(II)Z"⟩ "BorderThroughBed", Jvm.Cond.methodLinkNest "BorderThroughBed$Page" 23 ⟨"BorderThroughBed", "below", "(II)Z"⟩ "BorderThroughBed", Jvm.Cond.declares ⟨"BorderThroughBed$Text", "taken", "(LBorderThroughBed$Page;)I"⟩, Jvm.Cond.declares ⟨"BorderThroughBed$Text", "begin", "()V"⟩, Jvm.Cond.declares ⟨"BorderThroughBed$Text", "takes", "(I)Z"⟩, Jvm.Cond.declares ⟨"BorderThroughBed$Text", "isOn", "(LBorderThroughBed$Page;)Z"⟩, Jvm.Cond.declares ⟨"BorderThroughBed$Text", "isWhole", "()Z"⟩]
theorem ex_nw_in : ∀ w ∈ ex_nw, w ∈ tables_1 := by
  exact List.forall_mem_cons.mpr ⟨List.mem_of_getElem? (i := 22) (by decide +kernel), List.forall_mem_cons.mpr ⟨List.mem_of_getElem? (i := 36) (by decide +kernel), List.forall_mem_cons.mpr ⟨List.mem_of_getElem? (i := 39) (by decide +kernel), List.forall_mem_cons.mpr ⟨List.mem_of_getElem? (i := 58) (by decide +kernel), List.forall_mem_cons.mpr ⟨List.mem_of_getElem? (i := 61) (by decide +kernel), List.forall_mem_cons.mpr ⟨List.mem_of_getElem? (i := 86) (by decide +kernel), List.forall_mem_cons.mpr ⟨List.mem_of_getElem? (i := 135) (by decide +kernel), List.forall_mem_cons.mpr ⟨List.mem_of_getElem? (i := 161) (by decide +kernel), List.forall_mem_cons.mpr ⟨List.mem_of_getElem? (i := 186) (by decide +kernel), List.forall_mem_cons.mpr ⟨List.mem_of_getElem? (i := 201) (by decide +kernel), List.forall_mem_cons.mpr ⟨List.mem_of_getElem? (i := 282) (by decide +kernel), List.forall_mem_cons.mpr ⟨List.mem_of_getElem? (i := 298) (by decide +kernel), List.forall_mem_cons.mpr ⟨List.mem_of_getElem? (i := 507) (by decide +kernel), List.forall_mem_cons.mpr ⟨List.mem_of_getElem? (i := 489) (by decide +kernel), List.forall_mem_cons.mpr ⟨List.mem_of_getElem? (i := 494) (by decide +kernel), List.forall_mem_cons.mpr ⟨List.mem_of_getElem? (i := 509) (by decide +kernel), List.forall_mem_cons.mpr ⟨List.mem_of_getElem? (i := 565) (by decide +kernel), List.forall_mem_cons.mpr ⟨List.mem_of_getElem? (i := 571) (by decide +kernel), fun _ h => absurd h List.not_mem_nil⟩⟩⟩⟩⟩⟩⟩⟩⟩⟩⟩⟩⟩⟩⟩⟩⟩⟩
def ex_ar (y n : Nat) : Prop := (parseMethodDescriptor (ex_Y y).desc).map (fun d => d.parameters.length) = some n
def ex_PT (c a e : Nat) : Prop := e / 16 < 104 ∧ ex_ar (e / 16) (e % 16) ∧ Jvm.Cond.static (ex_Y (e / 16)) ∈ ex_tb ∧ (Jvm.Cond.methodLink (ex_Rn c) a (ex_Y (e / 16)) ∈ ex_tb ∨ Jvm.Cond.methodLinkNest (ex_Rn c) a (ex_Y (e / 16)) "BorderThroughBed" ∈ ex_nw)
theorem kq_T_0 : ∀ q ∈ ex_cT.getD 0 [], ex_PT 0 q.1 q.2 := fun _ h => absurd h List.not_mem_nil
theorem kt_236 : (Jvm.Cond.static (ex_Y 83)) ∈ ex_tb := ex_in (i := 298) (by decide +kernel) (by decide +kernel)
theorem kq_T_1 : ∀ q ∈ ex_cT.getD 1 [], ex_PT 1 q.1 q.2 := List.forall_mem_cons.mpr ⟨⟨by decide, by unfold ex_ar; decide +kernel, kt_236, Or.inr (List.mem_of_getElem? (i := 11) (by decide +kernel))⟩, fun _ h => absurd h List.not_mem_nil⟩
theorem kq_T_2 : ∀ q ∈ ex_cT.getD 2 [], ex_PT 2 q.1 q.2 := fun _ h => absurd h List.not_mem_nil
theorem kq_T_3 : ∀ q ∈ ex_cT.getD 3 [], ex_PT 3 q.1 q.2 := fun _ h => absurd h List.not_mem_nil
theorem kt_237 : (Jvm.Cond.static (ex_Y 42)) ∈ ex_tb := ex_in (i := 580) (by decide +kernel) (by decide +kernel)
theorem kt_238 : (Jvm.Cond.methodLink (ex_Rn 4) 50 (ex_Y 42)) ∈ ex_tb := ex_in (i := 579) (by decide +kernel) (by decide +kernel)
theorem kq_T_4 : ∀ q ∈ ex_cT.getD 4 [], ex_PT 4 q.1 q.2 := List.forall_mem_cons.mpr ⟨⟨by decide, by unfold ex_ar; decide +kernel, kt_237, Or.inl kt_238⟩, fun _ h => absurd h List.not_mem_nil⟩
theorem kq_T_5 : ∀ q ∈ ex_cT.getD 5 [], ex_PT 5 q.1 q.2 := fun _ h => absurd h List.not_mem_nil
theorem kq_T_6 : ∀ q ∈ ex_cT.getD 6 [], ex_PT 6 q.1 q.2 := fun _ h => absurd h List.not_mem_nil
theorem kt_239 : (Jvm.Cond.static (ex_Y 54)) ∈ ex_tb := ex_in (i := 503) (by decide +kernel) (by decide +kernel)
theorem kt_240 : (Jvm.Cond.methodLink (ex_Rn 7) 15 (ex_Y 54)) ∈ ex_tb := ex_in (i := 502) (by decide +kernel) (by decide +kernel)
theorem kq_T_7 : ∀ q ∈ ex_cT.getD 7 [], ex_PT 7 q.1 q.2 := List.forall_mem_cons.mpr ⟨⟨by decide, by unfold ex_ar; decide +kernel, kt_239, Or.inl kt_240⟩, List.forall_mem_cons.mpr ⟨⟨by decide, by unfold ex_ar; decide +kernel, kt_236, Or.inr (List.mem_of_getElem? (i := 12) (by decide +kernel))⟩, fun _ h => absurd h List.not_mem_nil⟩⟩
theorem kq_T_8 : ∀ q ∈ ex_cT.getD 8 [], ex_PT 8 q.1 q.2 := List.forall_mem_cons.mpr ⟨⟨by decide, by unfold ex_ar; decide +kernel, kt_236, Or.inr (List.mem_of_getElem? (i := 10) (by decide +kernel))⟩, fun _ h => absurd h List.not_mem_nil⟩
theorem kq_T_9 : ∀ q ∈ ex_cT.getD 9 [], ex_PT 9 q.1 q.2 := fun _ h => absurd h List.not_mem_nil
theorem kt_241 : (Jvm.Cond.static (ex_Y 53)) ∈ ex_tb := ex_in (i := 500) (by decide +kernel) (by decide +kernel)
theorem kt_242 : (Jvm.Cond.methodLink (ex_Rn 10) 68 (ex_Y 53)) ∈ ex_tb := ex_in (i := 499) (by decide +kernel) (by decide +kernel)
theorem kt_243 : (Jvm.Cond.methodLink (ex_Rn 10) 83 (ex_Y 83)) ∈ ex_tb := ex_in (i := 297) (by decide +kernel) (by decide +kernel)
theorem kt_244 : (Jvm.Cond.static (ex_Y 45)) ∈ ex_tb := ex_in (i := 314) (by decide +kernel) (by decide +kernel)
theorem kt_245 : (Jvm.Cond.methodLink (ex_Rn 10) 126 (ex_Y 45)) ∈ ex_tb := ex_in (i := 313) (by decide +kernel) (by decide +kernel)
theorem kt_246 : (Jvm.Cond.static (ex_Y 84)) ∈ ex_tb := ex_in (i := 385) (by decide +kernel) (by decide +kernel)
theorem kt_247 : (Jvm.Cond.methodLink (ex_Rn 10) 143 (ex_Y 84)) ∈ ex_tb := ex_in (i := 384) (by decide +kernel) (by decide +kernel)
theorem kt_248 : (Jvm.Cond.static (ex_Y 85)) ∈ ex_tb := ex_in (i := 438) (by decide +kernel) (by decide +kernel)
theorem kt_249 : (Jvm.Cond.methodLink (ex_Rn 10) 167 (ex_Y 85)) ∈ ex_tb := ex_in (i := 437) (by decide +kernel) (by decide +kernel)
theorem kq_T_10 : ∀ q ∈ ex_cT.getD 10 [], ex_PT 10 q.1 q.2 := List.forall_mem_cons.mpr ⟨⟨by decide, by unfold ex_ar; decide +kernel, kt_241, Or.inl kt_242⟩, List.forall_mem_cons.mpr ⟨⟨by decide, by unfold ex_ar; decide +kernel, kt_236, Or.inl kt_243⟩, List.forall_mem_cons.mpr ⟨⟨by decide, by unfold ex_ar; decide +kernel, kt_244, Or.inl kt_245⟩, List.forall_mem_cons.mpr ⟨⟨by decide, by unfold ex_ar; decide +kernel, kt_246, Or.inl kt_247⟩, List.forall_mem_cons.mpr ⟨⟨by decide, by unfold ex_ar; decide +kernel, kt_248, Or.inl kt_249⟩, fun _ h => absurd h List.not_mem_nil⟩⟩⟩⟩⟩
theorem kt_250 : (Jvm.Cond.static (ex_Y 93)) ∈ ex_tb := ex_in (i := 493) (by decide +kernel) (by decide +kernel)
theorem kt_251 : (Jvm.Cond.methodLink (ex_Rn 11) 14 (ex_Y 93)) ∈ ex_tb := ex_in (i := 492) (by decide +kernel) (by decide +kernel)
theorem kt_252 : (Jvm.Cond.static (ex_Y 92)) ∈ ex_tb := ex_in (i := 485) (by decide +kernel) (by decide +kernel)
theorem kt_253 : (Jvm.Cond.methodLink (ex_Rn 11) 20 (ex_Y 92)) ∈ ex_tb := ex_in (i := 484) (by decide +kernel) (by decide +kernel)
theorem kt_254 : (Jvm.Cond.static (ex_Y 94)) ∈ ex_tb := ex_in (i := 678) (by decide +kernel) (by decide +kernel)
theorem kt_255 : (Jvm.Cond.methodLink (ex_Rn 11) 36 (ex_Y 94)) ∈ ex_tb := ex_in (i := 677) (by decide +kernel) (by decide +kernel)
theorem kt_256 : (Jvm.Cond.static (ex_Y 97)) ∈ ex_tb := ex_in (i := 705) (by decide +kernel) (by decide +kernel)
theorem kt_257 : (Jvm.Cond.methodLink (ex_Rn 11) 42 (ex_Y 97)) ∈ ex_tb := ex_in (i := 704) (by decide +kernel) (by decide +kernel)
theorem kt_258 : (Jvm.Cond.static (ex_Y 99)) ∈ ex_tb := ex_in (i := 708) (by decide +kernel) (by decide +kernel)
theorem kt_259 : (Jvm.Cond.methodLink (ex_Rn 11) 46 (ex_Y 99)) ∈ ex_tb := ex_in (i := 707) (by decide +kernel) (by decide +kernel)
theorem kt_260 : (Jvm.Cond.static (ex_Y 100)) ∈ ex_tb := ex_in (i := 714) (by decide +kernel) (by decide +kernel)
theorem kt_261 : (Jvm.Cond.methodLink (ex_Rn 11) 49 (ex_Y 100)) ∈ ex_tb := ex_in (i := 713) (by decide +kernel) (by decide +kernel)
theorem kt_262 : (Jvm.Cond.static (ex_Y 101)) ∈ ex_tb := ex_in (i := 711) (by decide +kernel) (by decide +kernel)
theorem kt_263 : (Jvm.Cond.methodLink (ex_Rn 11) 53 (ex_Y 101)) ∈ ex_tb := ex_in (i := 710) (by decide +kernel) (by decide +kernel)
theorem kt_264 : (Jvm.Cond.static (ex_Y 98)) ∈ ex_tb := ex_in (i := 702) (by decide +kernel) (by decide +kernel)
theorem kt_265 : (Jvm.Cond.methodLink (ex_Rn 11) 57 (ex_Y 98)) ∈ ex_tb := ex_in (i := 701) (by decide +kernel) (by decide +kernel)
theorem kt_266 : (Jvm.Cond.static (ex_Y 95)) ∈ ex_tb := ex_in (i := 489) (by decide +kernel) (by decide +kernel)
theorem kt_267 : (Jvm.Cond.methodLink (ex_Rn 11) 62 (ex_Y 95)) ∈ ex_tb := ex_in (i := 488) (by decide +kernel) (by decide +kernel)
theorem kt_268 : (Jvm.Cond.static (ex_Y 102)) ∈ ex_tb := ex_in (i := 717) (by decide +kernel) (by decide +kernel)
theorem kt_269 : (Jvm.Cond.methodLink (ex_Rn 11) 65 (ex_Y 102)) ∈ ex_tb := ex_in (i := 716) (by decide +kernel) (by decide +kernel)
theorem kt_270 : (Jvm.Cond.static (ex_Y 96)) ∈ ex_tb := ex_in (i := 675) (by decide +kernel) (by decide +kernel)
theorem kt_271 : (Jvm.Cond.methodLink (ex_Rn 11) 72 (ex_Y 96)) ∈ ex_tb := ex_in (i := 674) (by decide +kernel) (by decide +kernel)
theorem kt_272 : (Jvm.Cond.static (ex_Y 103)) ∈ ex_tb := ex_in (i := 720) (by decide +kernel) (by decide +kernel)
theorem kt_273 : (Jvm.Cond.methodLink (ex_Rn 11) 94 (ex_Y 103)) ∈ ex_tb := ex_in (i := 719) (by decide +kernel) (by decide +kernel)
theorem kq_T_11 : ∀ q ∈ ex_cT.getD 11 [], ex_PT 11 q.1 q.2 := List.forall_mem_cons.mpr ⟨⟨by decide, by unfold ex_ar; decide +kernel, kt_250, Or.inl kt_251⟩, List.forall_mem_cons.mpr ⟨⟨by decide, by unfold ex_ar; decide +kernel, kt_252, Or.inl kt_253⟩, List.forall_mem_cons.mpr ⟨⟨by decide, by unfold ex_ar; decide +kernel, kt_254, Or.inl kt_255⟩, List.forall_mem_cons.mpr ⟨⟨by decide, by unfold ex_ar; decide +kernel, kt_256, Or.inl kt_257⟩, List.forall_mem_cons.mpr ⟨⟨by decide, by unfold ex_ar; decide +kernel, kt_258, Or.inl kt_259⟩, List.forall_mem_cons.mpr ⟨⟨by decide, by unfold ex_ar; decide +kernel, kt_260, Or.inl kt_261⟩, List.forall_mem_cons.mpr ⟨⟨by decide, by unfold ex_ar; decide +kernel, kt_262, Or.inl kt_263⟩, List.forall_mem_cons.mpr ⟨⟨by decide, by unfold ex_ar; decide +kernel, kt_264, Or.inl kt_265⟩, List.forall_mem_cons.mpr ⟨⟨by decide, by unfold ex_ar; decide +kernel, kt_266, Or.inl kt_267⟩, List.forall_mem_cons.mpr ⟨⟨by decide, by unfold ex_ar; decide +kernel, kt_268, Or.inl kt_269⟩, List.forall_mem_cons.mpr ⟨⟨by decide, by unfold ex_ar; decide +kernel, kt_270, Or.inl kt_271⟩, List.forall_mem_cons.mpr ⟨⟨by decide, by unfold ex_ar; decide +kernel, kt_272, Or.inl kt_273⟩, fun _ h => absurd h List.not_mem_nil⟩⟩⟩⟩⟩⟩⟩⟩⟩⟩⟩⟩
theorem kq_T {c : Nat} (hc : c < 12) : ∀ q ∈ ex_cT.getD c [], ex_PT c q.1 q.2 := by
  match c, hc with
  | 0, _ => exact kq_T_0
  | 1, _ => exact kq_T_1
  | 2, _ => exact kq_T_2
  | 3, _ => exact kq_T_3
  | 4, _ => exact kq_T_4
  | 5, _ => exact kq_T_5
  | 6, _ => exact kq_T_6
  | 7, _ => exact kq_T_7
  | 8, _ => exact kq_T_8
  | 9, _ => exact kq_T_9
  | 10, _ => exact kq_T_10
  | 11, _ => exact kq_T_11
def ex_PV (c a e : Nat) : Prop := e / 16 < 92 ∧ ex_ar (e / 16) (e % 16) ∧ Jvm.Cond.instanceMethod (ex_Y (e / 16)) ∈ ex_tb ∧ Jvm.Cond.selects (ex_Y (e / 16)).cls (ex_Y (e / 16)) (ex_Y (e / 16)) ∈ ex_tb ∧ Jvm.Cond.methodLink (ex_Rn c) a (ex_Y (e / 16)) ∈ ex_tb ∧ ex_C (e / 16) ≠ 9
theorem kt_274 : (Jvm.Cond.instanceMethod (ex_Y 64)) ∈ ex_tb := ex_in (i := 671) (by decide +kernel) (by decide +kernel)
theorem kt_275 : (Jvm.Cond.selects (ex_Y 64).cls (ex_Y 64) (ex_Y 64)) ∈ ex_tb := ex_in (i := 672) (by decide +kernel) (by decide +kernel)
theorem kt_276 : (Jvm.Cond.methodLink (ex_Rn 0) 29 (ex_Y 64)) ∈ ex_tb := ex_in (i := 670) (by decide +kernel) (by decide +kernel)
theorem kt_277 : (Jvm.Cond.instanceMethod (ex_Y 62)) ∈ ex_tb := ex_in (i := 305) (by decide +kernel) (by decide +kernel)
theorem kt_278 : (Jvm.Cond.selects (ex_Y 62).cls (ex_Y 62) (ex_Y 62)) ∈ ex_tb := ex_in (i := 306) (by decide +kernel) (by decide +kernel)
theorem kt_279 : (Jvm.Cond.methodLink (ex_Rn 0) 36 (ex_Y 62)) ∈ ex_tb := ex_in (i := 346) (by decide +kernel) (by decide +kernel)
theorem kt_280 : (Jvm.Cond.instanceMethod (ex_Y 2)) ∈ ex_tb := ex_in (i := 352) (by decide +kernel) (by decide +kernel)
theorem kt_281 : (Jvm.Cond.selects (ex_Y 2).cls (ex_Y 2) (ex_Y 2)) ∈ ex_tb := ex_in (i := 353) (by decide +kernel) (by decide +kernel)
theorem kt_282 : (Jvm.Cond.methodLink (ex_Rn 0) 40 (ex_Y 2)) ∈ ex_tb := ex_in (i := 351) (by decide +kernel) (by decide +kernel)
theorem kt_283 : (Jvm.Cond.instanceMethod (ex_Y 3)) ∈ ex_tb := ex_in (i := 356) (by decide +kernel) (by decide +kernel)
theorem kt_284 : (Jvm.Cond.selects (ex_Y 3).cls (ex_Y 3) (ex_Y 3)) ∈ ex_tb := ex_in (i := 357) (by decide +kernel) (by decide +kernel)
theorem kt_285 : (Jvm.Cond.methodLink (ex_Rn 0) 44 (ex_Y 3)) ∈ ex_tb := ex_in (i := 355) (by decide +kernel) (by decide +kernel)
theorem kt_286 : (Jvm.Cond.instanceMethod (ex_Y 1)) ∈ ex_tb := ex_in (i := 343) (by decide +kernel) (by decide +kernel)
theorem kt_287 : (Jvm.Cond.selects (ex_Y 1).cls (ex_Y 1) (ex_Y 1)) ∈ ex_tb := ex_in (i := 344) (by decide +kernel) (by decide +kernel)
theorem kt_288 : (Jvm.Cond.methodLink (ex_Rn 0) 51 (ex_Y 1)) ∈ ex_tb := ex_in (i := 342) (by decide +kernel) (by decide +kernel)
theorem kt_289 : (Jvm.Cond.instanceMethod (ex_Y 59)) ∈ ex_tb := ex_in (i := 294) (by decide +kernel) (by decide +kernel)
theorem kt_290 : (Jvm.Cond.selects (ex_Y 59).cls (ex_Y 59) (ex_Y 59)) ∈ ex_tb := ex_in (i := 295) (by decide +kernel) (by decide +kernel)
theorem kt_291 : (Jvm.Cond.methodLink (ex_Rn 0) 59 (ex_Y 59)) ∈ ex_tb := ex_in (i := 341) (by decide +kernel) (by decide +kernel)
theorem kt_292 : (Jvm.Cond.instanceMethod (ex_Y 4)) ∈ ex_tb := ex_in (i := 348) (by decide +kernel) (by decide +kernel)
theorem kt_293 : (Jvm.Cond.selects (ex_Y 4).cls (ex_Y 4) (ex_Y 4)) ∈ ex_tb := ex_in (i := 349) (by decide +kernel) (by decide +kernel)
theorem kt_294 : (Jvm.Cond.methodLink (ex_Rn 0) 63 (ex_Y 4)) ∈ ex_tb := ex_in (i := 347) (by decide +kernel) (by decide +kernel)
theorem kt_295 : (Jvm.Cond.instanceMethod (ex_Y 25)) ∈ ex_tb := ex_in (i := 360) (by decide +kernel) (by decide +kernel)
theorem kt_296 : (Jvm.Cond.selects (ex_Y 25).cls (ex_Y 25) (ex_Y 25)) ∈ ex_tb := ex_in (i := 361) (by decide +kernel) (by decide +kernel)
theorem kt_297 : (Jvm.Cond.methodLink (ex_Rn 0) 66 (ex_Y 25)) ∈ ex_tb := ex_in (i := 359) (by decide +kernel) (by decide +kernel)
theorem kq_V_0 : ∀ q ∈ ex_cV.getD 0 [], ex_PV 0 q.1 q.2 := List.forall_mem_cons.mpr ⟨⟨by decide, by unfold ex_ar; decide +kernel, kt_274, kt_275, kt_276, by decide +kernel⟩, List.forall_mem_cons.mpr ⟨⟨by decide, by unfold ex_ar; decide +kernel, kt_277, kt_278, kt_279, by decide +kernel⟩, List.forall_mem_cons.mpr ⟨⟨by decide, by unfold ex_ar; decide +kernel, kt_280, kt_281, kt_282, by decide +kernel⟩, List.forall_mem_cons.mpr ⟨⟨by decide, by unfold ex_ar; decide +kernel, kt_283, kt_284, kt_285, by decide +kernel⟩, List.forall_mem_cons.mpr ⟨⟨by decide, by unfold ex_ar; decide +kernel, kt_286, kt_287, kt_288, by decide +kernel⟩, List.forall_mem_cons.mpr ⟨⟨by decide, by unfold ex_ar; decide +kernel, kt_289, kt_290, kt_291, by decide +kernel⟩, List.forall_mem_cons.mpr ⟨⟨by decide, by unfold ex_ar; decide +kernel, kt_292, kt_293, kt_294, by decide +kernel⟩, List.forall_mem_cons.mpr ⟨⟨by decide, by unfold ex_ar; decide +kernel, kt_295, kt_296, kt_297, by decide +kernel⟩, fun _ h => absurd h List.not_mem_nil⟩⟩⟩⟩⟩⟩⟩⟩
theorem kt_298 : (Jvm.Cond.instanceMethod (ex_Y 56)) ∈ ex_tb := ex_in (i := 481) (by decide +kernel) (by decide +kernel)
theorem kt_299 : (Jvm.Cond.selects (ex_Y 56).cls (ex_Y 56) (ex_Y 56)) ∈ ex_tb := ex_in (i := 482) (by decide +kernel) (by decide +kernel)
theorem kt_300 : (Jvm.Cond.methodLink (ex_Rn 1) 49 (ex_Y 56)) ∈ ex_tb := ex_in (i := 609) (by decide +kernel) (by decide +kernel)
theorem kt_301 : (Jvm.Cond.instanceMethod (ex_Y 57)) ∈ ex_tb := ex_in (i := 530) (by decide +kernel) (by decide +kernel)
theorem kt_302 : (Jvm.Cond.selects (ex_Y 57).cls (ex_Y 57) (ex_Y 57)) ∈ ex_tb := ex_in (i := 531) (by decide +kernel) (by decide +kernel)
theorem kt_303 : (Jvm.Cond.methodLink (ex_Rn 1) 55 (ex_Y 57)) ∈ ex_tb := ex_in (i := 610) (by decide +kernel) (by decide +kernel)
theorem kt_304 : (Jvm.Cond.instanceMethod (ex_Y 7)) ∈ ex_tb := ex_in (i := 613) (by decide +kernel) (by decide +kernel)
theorem kt_305 : (Jvm.Cond.selects (ex_Y 7).cls (ex_Y 7) (ex_Y 7)) ∈ ex_tb := ex_in (i := 17) (by decide +kernel) (by decide +kernel)
theorem kt_306 : (Jvm.Cond.methodLink (ex_Rn 1) 59 (ex_Y 7)) ∈ ex_tb := ex_in (i := 611) (by decide +kernel) (by decide +kernel)
theorem kt_307 : (Jvm.Cond.instanceMethod (ex_Y 8)) ∈ ex_tb := ex_in (i := 617) (by decide +kernel) (by decide +kernel)
theorem kt_308 : (Jvm.Cond.selects (ex_Y 8).cls (ex_Y 8) (ex_Y 8)) ∈ ex_tb := ex_in (i := 18) (by decide +kernel) (by decide +kernel)
theorem kt_309 : (Jvm.Cond.methodLink (ex_Rn 1) 63 (ex_Y 8)) ∈ ex_tb := ex_in (i := 615) (by decide +kernel) (by decide +kernel)
theorem kt_310 : (Jvm.Cond.instanceMethod (ex_Y 9)) ∈ ex_tb := ex_in (i := 621) (by decide +kernel) (by decide +kernel)
theorem kt_311 : (Jvm.Cond.selects (ex_Y 9).cls (ex_Y 9) (ex_Y 9)) ∈ ex_tb := ex_in (i := 19) (by decide +kernel) (by decide +kernel)
theorem kt_312 : (Jvm.Cond.methodLink (ex_Rn 1) 73 (ex_Y 9)) ∈ ex_tb := ex_in (i := 619) (by decide +kernel) (by decide +kernel)
theorem kt_313 : (Jvm.Cond.instanceMethod (ex_Y 12)) ∈ ex_tb := ex_in (i := 642) (by decide +kernel) (by decide +kernel)
theorem kt_314 : (Jvm.Cond.selects (ex_Y 12).cls (ex_Y 12) (ex_Y 12)) ∈ ex_tb := ex_in (i := 22) (by decide +kernel) (by decide +kernel)
theorem kt_315 : (Jvm.Cond.methodLink (ex_Rn 1) 76 (ex_Y 12)) ∈ ex_tb := ex_in (i := 640) (by decide +kernel) (by decide +kernel)
theorem kt_316 : (Jvm.Cond.instanceMethod (ex_Y 10)) ∈ ex_tb := ex_in (i := 625) (by decide +kernel) (by decide +kernel)
theorem kt_317 : (Jvm.Cond.selects (ex_Y 10).cls (ex_Y 10) (ex_Y 10)) ∈ ex_tb := ex_in (i := 20) (by decide +kernel) (by decide +kernel)
theorem kt_318 : (Jvm.Cond.methodLink (ex_Rn 1) 83 (ex_Y 10)) ∈ ex_tb := ex_in (i := 623) (by decide +kernel) (by decide +kernel)
theorem kt_319 : (Jvm.Cond.instanceMethod (ex_Y 11)) ∈ ex_tb := ex_in (i := 633) (by decide +kernel) (by decide +kernel)
theorem kt_320 : (Jvm.Cond.selects (ex_Y 11).cls (ex_Y 11) (ex_Y 11)) ∈ ex_tb := ex_in (i := 21) (by decide +kernel) (by decide +kernel)
theorem kt_321 : (Jvm.Cond.methodLink (ex_Rn 1) 92 (ex_Y 11)) ∈ ex_tb := ex_in (i := 631) (by decide +kernel) (by decide +kernel)
theorem kt_322 : (Jvm.Cond.instanceMethod (ex_Y 18)) ∈ ex_tb := ex_in (i := 372) (by decide +kernel) (by decide +kernel)
theorem kt_323 : (Jvm.Cond.selects (ex_Y 18).cls (ex_Y 18) (ex_Y 18)) ∈ ex_tb := ex_in (i := 373) (by decide +kernel) (by decide +kernel)
theorem kt_324 : (Jvm.Cond.methodLink (ex_Rn 1) 96 (ex_Y 18)) ∈ ex_tb := ex_in (i := 635) (by decide +kernel) (by decide +kernel)
theorem kt_325 : (Jvm.Cond.instanceMethod (ex_Y 19)) ∈ ex_tb := ex_in (i := 637) (by decide +kernel) (by decide +kernel)
theorem kt_326 : (Jvm.Cond.selects (ex_Y 19).cls (ex_Y 19) (ex_Y 19)) ∈ ex_tb := ex_in (i := 638) (by decide +kernel) (by decide +kernel)
theorem kt_327 : (Jvm.Cond.methodLink (ex_Rn 1) 100 (ex_Y 19)) ∈ ex_tb := ex_in (i := 636) (by decide +kernel) (by decide +kernel)
theorem kt_328 : (Jvm.Cond.instanceMethod (ex_Y 13)) ∈ ex_tb := ex_in (i := 647) (by decide +kernel) (by decide +kernel)
theorem kt_329 : (Jvm.Cond.selects (ex_Y 13).cls (ex_Y 13) (ex_Y 13)) ∈ ex_tb := ex_in (i := 23) (by decide +kernel) (by decide +kernel)
theorem kt_330 : (Jvm.Cond.methodLink (ex_Rn 1) 104 (ex_Y 13)) ∈ ex_tb := ex_in (i := 645) (by decide +kernel) (by decide +kernel)
theorem kt_331 : (Jvm.Cond.instanceMethod (ex_Y 26)) ∈ ex_tb := ex_in (i := 651) (by decide +kernel) (by decide +kernel)
theorem kt_332 : (Jvm.Cond.selects (ex_Y 26).cls (ex_Y 26) (ex_Y 26)) ∈ ex_tb := ex_in (i := 24) (by decide +kernel) (by decide +kernel)
theorem kt_333 : (Jvm.Cond.methodLink (ex_Rn 1) 108 (ex_Y 26)) ∈ ex_tb := ex_in (i := 649) (by decide +kernel) (by decide +kernel)
theorem kt_334 : (Jvm.Cond.instanceMethod (ex_Y 17)) ∈ ex_tb := ex_in (i := 330) (by decide +kernel) (by decide +kernel)
theorem kt_335 : (Jvm.Cond.selects (ex_Y 17).cls (ex_Y 17) (ex_Y 17)) ∈ ex_tb := ex_in (i := 331) (by decide +kernel) (by decide +kernel)
theorem kt_336 : (Jvm.Cond.methodLink (ex_Rn 1) 111 (ex_Y 17)) ∈ ex_tb := ex_in (i := 375) (by decide +kernel) (by decide +kernel)
theorem kt_337 : (Jvm.Cond.instanceMethod (ex_Y 23)) ∈ ex_tb := ex_in (i := 364) (by decide +kernel) (by decide +kernel)
theorem kt_338 : (Jvm.Cond.selects (ex_Y 23).cls (ex_Y 23) (ex_Y 23)) ∈ ex_tb := ex_in (i := 365) (by decide +kernel) (by decide +kernel)
theorem kt_339 : (Jvm.Cond.methodLink (ex_Rn 1) 114 (ex_Y 23)) ∈ ex_tb := ex_in (i := 405) (by decide +kernel) (by decide +kernel)
theorem kt_340 : (Jvm.Cond.instanceMethod (ex_Y 27)) ∈ ex_tb := ex_in (i := 655) (by decide +kernel) (by decide +kernel)
theorem kt_341 : (Jvm.Cond.selects (ex_Y 27).cls (ex_Y 27) (ex_Y 27)) ∈ ex_tb := ex_in (i := 25) (by decide +kernel) (by decide +kernel)
theorem kt_342 : (Jvm.Cond.methodLink (ex_Rn 1) 117 (ex_Y 27)) ∈ ex_tb := ex_in (i := 653) (by decide +kernel) (by decide +kernel)
theorem kt_343 : (Jvm.Cond.instanceMethod (ex_Y 21)) ∈ ex_tb := ex_in (i := 658) (by decide +kernel) (by decide +kernel)
theorem kt_344 : (Jvm.Cond.selects (ex_Y 21).cls (ex_Y 21) (ex_Y 21)) ∈ ex_tb := ex_in (i := 659) (by decide +kernel) (by decide +kernel)
theorem kt_345 : (Jvm.Cond.methodLink (ex_Rn 1) 120 (ex_Y 21)) ∈ ex_tb := ex_in (i := 657) (by decide +kernel) (by decide +kernel)
theorem kt_346 : (Jvm.Cond.instanceMethod (ex_Y 20)) ∈ ex_tb := ex_in (i := 334) (by decide +kernel) (by decide +kernel)
theorem kt_347 : (Jvm.Cond.selects (ex_Y 20).cls (ex_Y 20) (ex_Y 20)) ∈ ex_tb := ex_in (i := 335) (by decide +kernel) (by decide +kernel)
theorem kt_348 : (Jvm.Cond.methodLink (ex_Rn 1) 123 (ex_Y 20)) ∈ ex_tb := ex_in (i := 661) (by decide +kernel) (by decide +kernel)
theorem kq_V_1 : ∀ q ∈ ex_cV.getD 1 [], ex_PV 1 q.1 q.2 := List.forall_mem_cons.mpr ⟨⟨by decide, by unfold ex_ar; decide +kernel, kt_298, kt_299, kt_300, by decide +kernel⟩, List.forall_mem_cons.mpr ⟨⟨by decide, by unfold ex_ar; decide +kernel, kt_301, kt_302, kt_303, by decide +kernel⟩, List.forall_mem_cons.mpr ⟨⟨by decide, by unfold ex_ar; decide +kernel, kt_304, kt_305, kt_306, by decide +kernel⟩, List.forall_mem_cons.mpr ⟨⟨by decide, by unfold ex_ar; decide +kernel, kt_307, kt_308, kt_309, by decide +kernel⟩, List.forall_mem_cons.mpr ⟨⟨by decide, by unfold ex_ar; decide +kernel, kt_310, kt_311, kt_312, by decide +kernel⟩, List.forall_mem_cons.mpr ⟨⟨by decide, by unfold ex_ar; decide +kernel, kt_313, kt_314, kt_315, by decide +kernel⟩, List.forall_mem_cons.mpr ⟨⟨by decide, by unfold ex_ar; decide +kernel, kt_316, kt_317, kt_318, by decide +kernel⟩, List.forall_mem_cons.mpr ⟨⟨by decide, by unfold ex_ar; decide +kernel, kt_319, kt_320, kt_321, by decide +kernel⟩, List.forall_mem_cons.mpr ⟨⟨by decide, by unfold ex_ar; decide +kernel, kt_322, kt_323, kt_324, by decide +kernel⟩, List.forall_mem_cons.mpr ⟨⟨by decide, by unfold ex_ar; decide +kernel, kt_325, kt_326, kt_327, by decide +kernel⟩, List.forall_mem_cons.mpr ⟨⟨by decide, by unfold ex_ar; decide +kernel, kt_328, kt_329, kt_330, by decide +kernel⟩, List.forall_mem_cons.mpr ⟨⟨by decide, by unfold ex_ar; decide +kernel, kt_331, kt_332, kt_333, by decide +kernel⟩, List.forall_mem_cons.mpr ⟨⟨by decide, by unfold ex_ar; decide +kernel, kt_334, kt_335, kt_336, by decide +kernel⟩, List.forall_mem_cons.mpr ⟨⟨by decide, by unfold ex_ar; decide +kernel, kt_337, kt_338, kt_339, by decide +kernel⟩, List.forall_mem_cons.mpr ⟨⟨by decide, by unfold ex_ar; decide +kernel, kt_340, kt_341, kt_342, by decide +kernel⟩, List.forall_mem_cons.mpr ⟨⟨by decide, by unfold ex_ar; decide +kernel, kt_343, kt_344, kt_345, by decide +kernel⟩, List.forall_mem_cons.mpr ⟨⟨by decide, by unfold ex_ar; decide +kernel, kt_346, kt_347, kt_348, by decide +kernel⟩, fun _ h => absurd h List.not_mem_nil⟩⟩⟩⟩⟩⟩⟩⟩⟩⟩⟩⟩⟩⟩⟩⟩⟩
theorem kt_349 : (Jvm.Cond.instanceMethod (ex_Y 30)) ∈ ex_tb := ex_in (i := 542) (by decide +kernel) (by decide +kernel)
theorem kt_350 : (Jvm.Cond.selects (ex_Y 30).cls (ex_Y 30) (ex_Y 30)) ∈ ex_tb := ex_in (i := 8) (by decide +kernel) (by decide +kernel)
theorem kt_351 : (Jvm.Cond.methodLink (ex_Rn 2) 25 (ex_Y 30)) ∈ ex_tb := ex_in (i := 540) (by decide +kernel) (by decide +kernel)
theorem kt_352 : (Jvm.Cond.instanceMethod (ex_Y 31)) ∈ ex_tb := ex_in (i := 546) (by decide +kernel) (by decide +kernel)
theorem kt_353 : (Jvm.Cond.selects (ex_Y 31).cls (ex_Y 31) (ex_Y 31)) ∈ ex_tb := ex_in (i := 9) (by decide +kernel) (by decide +kernel)
theorem kt_354 : (Jvm.Cond.methodLink (ex_Rn 2) 29 (ex_Y 31)) ∈ ex_tb := ex_in (i := 544) (by decide +kernel) (by decide +kernel)
theorem kt_355 : (Jvm.Cond.instanceMethod (ex_Y 32)) ∈ ex_tb := ex_in (i := 554) (by decide +kernel) (by decide +kernel)
theorem kt_356 : (Jvm.Cond.selects (ex_Y 32).cls (ex_Y 32) (ex_Y 32)) ∈ ex_tb := ex_in (i := 11) (by decide +kernel) (by decide +kernel)
theorem kt_357 : (Jvm.Cond.methodLink (ex_Rn 2) 32 (ex_Y 32)) ∈ ex_tb := ex_in (i := 552) (by decide +kernel) (by decide +kernel)
theorem kt_358 : (Jvm.Cond.instanceMethod (ex_Y 33)) ∈ ex_tb := ex_in (i := 550) (by decide +kernel) (by decide +kernel)
theorem kt_359 : (Jvm.Cond.selects (ex_Y 33).cls (ex_Y 33) (ex_Y 33)) ∈ ex_tb := ex_in (i := 10) (by decide +kernel) (by decide +kernel)
theorem kt_360 : (Jvm.Cond.methodLink (ex_Rn 2) 35 (ex_Y 33)) ∈ ex_tb := ex_in (i := 548) (by decide +kernel) (by decide +kernel)
theorem kq_V_2 : ∀ q ∈ ex_cV.getD 2 [], ex_PV 2 q.1 q.2 := List.forall_mem_cons.mpr ⟨⟨by decide, by unfold ex_ar; decide +kernel, kt_349, kt_350, kt_351, by decide +kernel⟩, List.forall_mem_cons.mpr ⟨⟨by decide, by unfold ex_ar; decide +kernel, kt_352, kt_353, kt_354, by decide +kernel⟩, List.forall_mem_cons.mpr ⟨⟨by decide, by unfold ex_ar; decide +kernel, kt_355, kt_356, kt_357, by decide +kernel⟩, List.forall_mem_cons.mpr ⟨⟨by decide, by unfold ex_ar; decide +kernel, kt_358, kt_359, kt_360, by decide +kernel⟩, fun _ h => absurd h List.not_mem_nil⟩⟩⟩⟩
theorem kq_V_3 : ∀ q ∈ ex_cV.getD 3 [], ex_PV 3 q.1 q.2 := fun _ h => absurd h List.not_mem_nil
theorem kt_361 : (Jvm.Cond.instanceMethod (ex_Y 37)) ∈ ex_tb := ex_in (i := 561) (by decide +kernel) (by decide +kernel)
theorem kt_362 : (Jvm.Cond.selects (ex_Y 37).cls (ex_Y 37) (ex_Y 37)) ∈ ex_tb := ex_in (i := 12) (by decide +kernel) (by decide +kernel)
theorem kt_363 : (Jvm.Cond.methodLink (ex_Rn 4) 33 (ex_Y 37)) ∈ ex_tb := ex_in (i := 559) (by decide +kernel) (by decide +kernel)
theorem kt_364 : (Jvm.Cond.instanceMethod (ex_Y 38)) ∈ ex_tb := ex_in (i := 565) (by decide +kernel) (by decide +kernel)
theorem kt_365 : (Jvm.Cond.selects (ex_Y 38).cls (ex_Y 38) (ex_Y 38)) ∈ ex_tb := ex_in (i := 13) (by decide +kernel) (by decide +kernel)
theorem kt_366 : (Jvm.Cond.methodLink (ex_Rn 4) 37 (ex_Y 38)) ∈ ex_tb := ex_in (i := 563) (by decide +kernel) (by decide +kernel)
theorem kt_367 : (Jvm.Cond.instanceMethod (ex_Y 39)) ∈ ex_tb := ex_in (i := 569) (by decide +kernel) (by decide +kernel)
theorem kt_368 : (Jvm.Cond.selects (ex_Y 39).cls (ex_Y 39) (ex_Y 39)) ∈ ex_tb := ex_in (i := 14) (by decide +kernel) (by decide +kernel)
theorem kt_369 : (Jvm.Cond.methodLink (ex_Rn 4) 40 (ex_Y 39)) ∈ ex_tb := ex_in (i := 567) (by decide +kernel) (by decide +kernel)
theorem kt_370 : (Jvm.Cond.instanceMethod (ex_Y 40)) ∈ ex_tb := ex_in (i := 577) (by decide +kernel) (by decide +kernel)
theorem kt_371 : (Jvm.Cond.selects (ex_Y 40).cls (ex_Y 40) (ex_Y 40)) ∈ ex_tb := ex_in (i := 16) (by decide +kernel) (by decide +kernel)
theorem kt_372 : (Jvm.Cond.methodLink (ex_Rn 4) 43 (ex_Y 40)) ∈ ex_tb := ex_in (i := 575) (by decide +kernel) (by decide +kernel)
theorem kt_373 : (Jvm.Cond.instanceMethod (ex_Y 41)) ∈ ex_tb := ex_in (i := 573) (by decide +kernel) (by decide +kernel)
theorem kt_374 : (Jvm.Cond.selects (ex_Y 41).cls (ex_Y 41) (ex_Y 41)) ∈ ex_tb := ex_in (i := 15) (by decide +kernel) (by decide +kernel)
theorem kt_375 : (Jvm.Cond.methodLink (ex_Rn 4) 46 (ex_Y 41)) ∈ ex_tb := ex_in (i := 571) (by decide +kernel) (by decide +kernel)
theorem kq_V_4 : ∀ q ∈ ex_cV.getD 4 [], ex_PV 4 q.1 q.2 := List.forall_mem_cons.mpr ⟨⟨by decide, by unfold ex_ar; decide +kernel, kt_361, kt_362, kt_363, by decide +kernel⟩, List.forall_mem_cons.mpr ⟨⟨by decide, by unfold ex_ar; decide +kernel, kt_364, kt_365, kt_366, by decide +kernel⟩, List.forall_mem_cons.mpr ⟨⟨by decide, by unfold ex_ar; decide +kernel, kt_367, kt_368, kt_369, by decide +kernel⟩, List.forall_mem_cons.mpr ⟨⟨by decide, by unfold ex_ar; decide +kernel, kt_370, kt_371, kt_372, by decide +kernel⟩, List.forall_mem_cons.mpr ⟨⟨by decide, by unfold ex_ar; decide +kernel, kt_373, kt_374, kt_375, by decide +kernel⟩, fun _ h => absurd h List.not_mem_nil⟩⟩⟩⟩⟩
theorem kt_376 : (Jvm.Cond.methodLink (ex_Rn 5) 20 (ex_Y 59)) ∈ ex_tb := ex_in (i := 293) (by decide +kernel) (by decide +kernel)
theorem kt_377 : (Jvm.Cond.instanceMethod (ex_Y 60)) ∈ ex_tb := ex_in (i := 411) (by decide +kernel) (by decide +kernel)
theorem kt_378 : (Jvm.Cond.selects (ex_Y 60).cls (ex_Y 60) (ex_Y 60)) ∈ ex_tb := ex_in (i := 412) (by decide +kernel) (by decide +kernel)
theorem kt_379 : (Jvm.Cond.methodLink (ex_Rn 5) 24 (ex_Y 60)) ∈ ex_tb := ex_in (i := 691) (by decide +kernel) (by decide +kernel)
theorem kt_380 : (Jvm.Cond.instanceMethod (ex_Y 44)) ∈ ex_tb := ex_in (i := 697) (by decide +kernel) (by decide +kernel)
theorem kt_381 : (Jvm.Cond.selects (ex_Y 44).cls (ex_Y 44) (ex_Y 44)) ∈ ex_tb := ex_in (i := 698) (by decide +kernel) (by decide +kernel)
theorem kt_382 : (Jvm.Cond.methodLink (ex_Rn 5) 28 (ex_Y 44)) ∈ ex_tb := ex_in (i := 696) (by decide +kernel) (by decide +kernel)
theorem kt_383 : (Jvm.Cond.instanceMethod (ex_Y 61)) ∈ ex_tb := ex_in (i := 415) (by decide +kernel) (by decide +kernel)
theorem kt_384 : (Jvm.Cond.selects (ex_Y 61).cls (ex_Y 61) (ex_Y 61)) ∈ ex_tb := ex_in (i := 416) (by decide +kernel) (by decide +kernel)
theorem kt_385 : (Jvm.Cond.methodLink (ex_Rn 5) 34 (ex_Y 61)) ∈ ex_tb := ex_in (i := 700) (by decide +kernel) (by decide +kernel)
theorem kt_386 : (Jvm.Cond.methodLink (ex_Rn 5) 38 (ex_Y 62)) ∈ ex_tb := ex_in (i := 304) (by decide +kernel) (by decide +kernel)
theorem kt_387 : (Jvm.Cond.instanceMethod (ex_Y 51)) ∈ ex_tb := ex_in (i := 393) (by decide +kernel) (by decide +kernel)
theorem kt_388 : (Jvm.Cond.selects (ex_Y 51).cls (ex_Y 51) (ex_Y 51)) ∈ ex_tb := ex_in (i := 1) (by decide +kernel) (by decide +kernel)
theorem kt_389 : (Jvm.Cond.methodLink (ex_Rn 5) 42 (ex_Y 51)) ∈ ex_tb := ex_in (i := 391) (by decide +kernel) (by decide +kernel)
theorem kt_390 : (Jvm.Cond.instanceMethod (ex_Y 52)) ∈ ex_tb := ex_in (i := 397) (by decide +kernel) (by decide +kernel)
theorem kt_391 : (Jvm.Cond.selects (ex_Y 52).cls (ex_Y 52) (ex_Y 52)) ∈ ex_tb := ex_in (i := 2) (by decide +kernel) (by decide +kernel)
theorem kt_392 : (Jvm.Cond.methodLink (ex_Rn 5) 46 (ex_Y 52)) ∈ ex_tb := ex_in (i := 395) (by decide +kernel) (by decide +kernel)
theorem kt_393 : (Jvm.Cond.methodLink (ex_Rn 5) 50 (ex_Y 20)) ∈ ex_tb := ex_in (i := 399) (by decide +kernel) (by decide +kernel)
theorem kt_394 : (Jvm.Cond.instanceMethod (ex_Y 22)) ∈ ex_tb := ex_in (i := 377) (by decide +kernel) (by decide +kernel)
theorem kt_395 : (Jvm.Cond.selects (ex_Y 22).cls (ex_Y 22) (ex_Y 22)) ∈ ex_tb := ex_in (i := 378) (by decide +kernel) (by decide +kernel)
theorem kt_396 : (Jvm.Cond.methodLink (ex_Rn 5) 55 (ex_Y 22)) ∈ ex_tb := ex_in (i := 400) (by decide +kernel) (by decide +kernel)
theorem kt_397 : (Jvm.Cond.instanceMethod (ex_Y 24)) ∈ ex_tb := ex_in (i := 402) (by decide +kernel) (by decide +kernel)
theorem kt_398 : (Jvm.Cond.selects (ex_Y 24).cls (ex_Y 24) (ex_Y 24)) ∈ ex_tb := ex_in (i := 403) (by decide +kernel) (by decide +kernel)
theorem kt_399 : (Jvm.Cond.methodLink (ex_Rn 5) 59 (ex_Y 24)) ∈ ex_tb := ex_in (i := 401) (by decide +kernel) (by decide +kernel)
theorem kq_V_5 : ∀ q ∈ ex_cV.getD 5 [], ex_PV 5 q.1 q.2 := List.forall_mem_cons.mpr ⟨⟨by decide, by unfold ex_ar; decide +kernel, kt_289, kt_290, kt_376, by decide +kernel⟩, List.forall_mem_cons.mpr ⟨⟨by decide, by unfold ex_ar; decide +kernel, kt_377, kt_378, kt_379, by decide +kernel⟩, List.forall_mem_cons.mpr ⟨⟨by decide, by unfold ex_ar; decide +kernel, kt_380, kt_381, kt_382, by decide +kernel⟩, List.forall_mem_cons.mpr ⟨⟨by decide, by unfold ex_ar; decide +kernel, kt_383, kt_384, kt_385, by decide +kernel⟩, List.forall_mem_cons.mpr ⟨⟨by decide, by unfold ex_ar; decide +kernel, kt_277, kt_278, kt_386, by decide +kernel⟩, List.forall_mem_cons.mpr ⟨⟨by decide, by unfold ex_ar; decide +kernel, kt_387, kt_388, kt_389, by decide +kernel⟩, List.forall_mem_cons.mpr ⟨⟨by decide, by unfold ex_ar; decide +kernel, kt_390, kt_391, kt_392, by decide +kernel⟩, List.forall_mem_cons.mpr ⟨⟨by decide, by unfold ex_ar; decide +kernel, kt_346, kt_347, kt_393, by decide +kernel⟩, List.forall_mem_cons.mpr ⟨⟨by decide, by unfold ex_ar; decide +kernel, kt_394, kt_395, kt_396, by decide +kernel⟩, List.forall_mem_cons.mpr ⟨⟨by decide, by unfold ex_ar; decide +kernel, kt_397, kt_398, kt_399, by decide +kernel⟩, fun _ h => absurd h List.not_mem_nil⟩⟩⟩⟩⟩⟩⟩⟩⟩⟩
theorem kq_V_6 : ∀ q ∈ ex_cV.getD 6 [], ex_PV 6 q.1 q.2 := fun _ h => absurd h List.not_mem_nil
theorem kq_V_7 : ∀ q ∈ ex_cV.getD 7 [], ex_PV 7 q.1 q.2 := fun _ h => absurd h List.not_mem_nil
theorem kt_400 : (Jvm.Cond.methodLink (ex_Rn 8) 22 (ex_Y 60)) ∈ ex_tb := ex_in (i := 418) (by decide +kernel) (by decide +kernel)
theorem kt_401 : (Jvm.Cond.instanceMethod (ex_Y 63)) ∈ ex_tb := ex_in (i := 420) (by decide +kernel) (by decide +kernel)
theorem kt_402 : (Jvm.Cond.selects (ex_Y 63).cls (ex_Y 63) (ex_Y 63)) ∈ ex_tb := ex_in (i := 421) (by decide +kernel) (by decide +kernel)
theorem kt_403 : (Jvm.Cond.methodLink (ex_Rn 8) 26 (ex_Y 63)) ∈ ex_tb := ex_in (i := 419) (by decide +kernel) (by decide +kernel)
theorem kq_V_8 : ∀ q ∈ ex_cV.getD 8 [], ex_PV 8 q.1 q.2 := List.forall_mem_cons.mpr ⟨⟨by decide, by unfold ex_ar; decide +kernel, kt_377, kt_378, kt_400, by decide +kernel⟩, List.forall_mem_cons.mpr ⟨⟨by decide, by unfold ex_ar; decide +kernel, kt_401, kt_402, kt_403, by decide +kernel⟩, fun _ h => absurd h List.not_mem_nil⟩⟩
theorem kt_404 : (Jvm.Cond.methodLink (ex_Rn 9) 12 (ex_Y 56)) ∈ ex_tb := ex_in (i := 528) (by decide +kernel) (by decide +kernel)
theorem kt_405 : (Jvm.Cond.methodLink (ex_Rn 9) 18 (ex_Y 57)) ∈ ex_tb := ex_in (i := 529) (by decide +kernel) (by decide +kernel)
theorem kq_V_9 : ∀ q ∈ ex_cV.getD 9 [], ex_PV 9 q.1 q.2 := List.forall_mem_cons.mpr ⟨⟨by decide, by unfold ex_ar; decide +kernel, kt_298, kt_299, kt_404, by decide +kernel⟩, List.forall_mem_cons.mpr ⟨⟨by decide, by unfold ex_ar; decide +kernel, kt_301, kt_302, kt_405, by decide +kernel⟩, fun _ h => absurd h List.not_mem_nil⟩⟩
theorem kt_406 : (Jvm.Cond.methodLink (ex_Rn 10) 72 (ex_Y 56)) ∈ ex_tb := ex_in (i := 480) (by decide +kernel) (by decide +kernel)
theorem kt_407 : (Jvm.Cond.instanceMethod (ex_Y 55)) ∈ ex_tb := ex_in (i := 506) (by decide +kernel) (by decide +kernel)
theorem kt_408 : (Jvm.Cond.selects (ex_Y 55).cls (ex_Y 55) (ex_Y 55)) ∈ ex_tb := ex_in (i := 507) (by decide +kernel) (by decide +kernel)
theorem kt_409 : (Jvm.Cond.methodLink (ex_Rn 10) 76 (ex_Y 55)) ∈ ex_tb := ex_in (i := 505) (by decide +kernel) (by decide +kernel)
theorem kt_410 : (Jvm.Cond.instanceMethod (ex_Y 58)) ∈ ex_tb := ex_in (i := 663) (by decide +kernel) (by decide +kernel)
theorem kt_411 : (Jvm.Cond.selects (ex_Y 58).cls (ex_Y 58) (ex_Y 58)) ∈ ex_tb := ex_in (i := 664) (by decide +kernel) (by decide +kernel)
theorem kt_412 : (Jvm.Cond.methodLink (ex_Rn 10) 80 (ex_Y 58)) ∈ ex_tb := ex_in (i := 662) (by decide +kernel) (by decide +kernel)
theorem kt_413 : (Jvm.Cond.instanceMethod (ex_Y 6)) ∈ ex_tb := ex_in (i := 606) (by decide +kernel) (by decide +kernel)
theorem kt_414 : (Jvm.Cond.selects (ex_Y 6).cls (ex_Y 6) (ex_Y 6)) ∈ ex_tb := ex_in (i := 607) (by decide +kernel) (by decide +kernel)
theorem kt_415 : (Jvm.Cond.methodLink (ex_Rn 10) 96 (ex_Y 6)) ∈ ex_tb := ex_in (i := 605) (by decide +kernel) (by decide +kernel)
theorem kt_416 : (Jvm.Cond.instanceMethod (ex_Y 0)) ∈ ex_tb := ex_in (i := 667) (by decide +kernel) (by decide +kernel)
theorem kt_417 : (Jvm.Cond.selects (ex_Y 0).cls (ex_Y 0) (ex_Y 0)) ∈ ex_tb := ex_in (i := 668) (by decide +kernel) (by decide +kernel)
theorem kt_418 : (Jvm.Cond.methodLink (ex_Rn 10) 100 (ex_Y 0)) ∈ ex_tb := ex_in (i := 666) (by decide +kernel) (by decide +kernel)
theorem kt_419 : (Jvm.Cond.instanceMethod (ex_Y 15)) ∈ ex_tb := ex_in (i := 449) (by decide +kernel) (by decide +kernel)
theorem kt_420 : (Jvm.Cond.selects (ex_Y 15).cls (ex_Y 15) (ex_Y 15)) ∈ ex_tb := ex_in (i := 450) (by decide +kernel) (by decide +kernel)
theorem kt_421 : (Jvm.Cond.methodLink (ex_Rn 10) 109 (ex_Y 15)) ∈ ex_tb := ex_in (i := 448) (by decide +kernel) (by decide +kernel)
theorem kt_422 : (Jvm.Cond.instanceMethod (ex_Y 47)) ∈ ex_tb := ex_in (i := 688) (by decide +kernel) (by decide +kernel)
theorem kt_423 : (Jvm.Cond.selects (ex_Y 47).cls (ex_Y 47) (ex_Y 47)) ∈ ex_tb := ex_in (i := 689) (by decide +kernel) (by decide +kernel)
theorem kt_424 : (Jvm.Cond.methodLink (ex_Rn 10) 113 (ex_Y 47)) ∈ ex_tb := ex_in (i := 687) (by decide +kernel) (by decide +kernel)
theorem kt_425 : (Jvm.Cond.instanceMethod (ex_Y 48)) ∈ ex_tb := ex_in (i := 693) (by decide +kernel) (by decide +kernel)
theorem kt_426 : (Jvm.Cond.selects (ex_Y 48).cls (ex_Y 48) (ex_Y 48)) ∈ ex_tb := ex_in (i := 694) (by decide +kernel) (by decide +kernel)
theorem kt_427 : (Jvm.Cond.methodLink (ex_Rn 10) 117 (ex_Y 48)) ∈ ex_tb := ex_in (i := 692) (by decide +kernel) (by decide +kernel)
theorem kt_428 : (Jvm.Cond.instanceMethod (ex_Y 46)) ∈ ex_tb := ex_in (i := 290) (by decide +kernel) (by decide +kernel)
theorem kt_429 : (Jvm.Cond.selects (ex_Y 46).cls (ex_Y 46) (ex_Y 46)) ∈ ex_tb := ex_in (i := 291) (by decide +kernel) (by decide +kernel)
theorem kt_430 : (Jvm.Cond.methodLink (ex_Rn 10) 121 (ex_Y 46)) ∈ ex_tb := ex_in (i := 289) (by decide +kernel) (by decide +kernel)
theorem kt_431 : (Jvm.Cond.instanceMethod (ex_Y 49)) ∈ ex_tb := ex_in (i := 301) (by decide +kernel) (by decide +kernel)
theorem kt_432 : (Jvm.Cond.selects (ex_Y 49).cls (ex_Y 49) (ex_Y 49)) ∈ ex_tb := ex_in (i := 302) (by decide +kernel) (by decide +kernel)
theorem kt_433 : (Jvm.Cond.methodLink (ex_Rn 10) 122 (ex_Y 49)) ∈ ex_tb := ex_in (i := 300) (by decide +kernel) (by decide +kernel)
theorem kt_434 : (Jvm.Cond.instanceMethod (ex_Y 16)) ∈ ex_tb := ex_in (i := 321) (by decide +kernel) (by decide +kernel)
theorem kt_435 : (Jvm.Cond.selects (ex_Y 16).cls (ex_Y 16) (ex_Y 16)) ∈ ex_tb := ex_in (i := 322) (by decide +kernel) (by decide +kernel)
theorem kt_436 : (Jvm.Cond.methodLink (ex_Rn 10) 129 (ex_Y 16)) ∈ ex_tb := ex_in (i := 320) (by decide +kernel) (by decide +kernel)
theorem kt_437 : (Jvm.Cond.instanceMethod (ex_Y 86)) ∈ ex_tb := ex_in (i := 327) (by decide +kernel) (by decide +kernel)
theorem kt_438 : (Jvm.Cond.selects (ex_Y 86).cls (ex_Y 86) (ex_Y 86)) ∈ ex_tb := ex_in (i := 0) (by decide +kernel) (by decide +kernel)
theorem kt_439 : (Jvm.Cond.methodLink (ex_Rn 10) 133 (ex_Y 86)) ∈ ex_tb := ex_in (i := 325) (by decide +kernel) (by decide +kernel)
theorem kt_440 : (Jvm.Cond.methodLink (ex_Rn 10) 136 (ex_Y 18)) ∈ ex_tb := ex_in (i := 371) (by decide +kernel) (by decide +kernel)
theorem kt_441 : (Jvm.Cond.methodLink (ex_Rn 10) 139 (ex_Y 22)) ∈ ex_tb := ex_in (i := 376) (by decide +kernel) (by decide +kernel)
theorem kt_442 : (Jvm.Cond.instanceMethod (ex_Y 50)) ∈ ex_tb := ex_in (i := 388) (by decide +kernel) (by decide +kernel)
theorem kt_443 : (Jvm.Cond.selects (ex_Y 50).cls (ex_Y 50) (ex_Y 50)) ∈ ex_tb := ex_in (i := 389) (by decide +kernel) (by decide +kernel)
theorem kt_444 : (Jvm.Cond.methodLink (ex_Rn 10) 147 (ex_Y 50)) ∈ ex_tb := ex_in (i := 387) (by decide +kernel) (by decide +kernel)
theorem kt_445 : (Jvm.Cond.methodLink (ex_Rn 10) 155 (ex_Y 60)) ∈ ex_tb := ex_in (i := 410) (by decide +kernel) (by decide +kernel)
theorem kt_446 : (Jvm.Cond.methodLink (ex_Rn 10) 158 (ex_Y 61)) ∈ ex_tb := ex_in (i := 414) (by decide +kernel) (by decide +kernel)
theorem kt_447 : (Jvm.Cond.instanceMethod (ex_Y 88)) ∈ ex_tb := ex_in (i := 429) (by decide +kernel) (by decide +kernel)
theorem kt_448 : (Jvm.Cond.selects (ex_Y 88).cls (ex_Y 88) (ex_Y 88)) ∈ ex_tb := ex_in (i := 3) (by decide +kernel) (by decide +kernel)
theorem kt_449 : (Jvm.Cond.methodLink (ex_Rn 10) 161 (ex_Y 88)) ∈ ex_tb := ex_in (i := 427) (by decide +kernel) (by decide +kernel)
theorem kt_450 : (Jvm.Cond.instanceMethod (ex_Y 87)) ∈ ex_tb := ex_in (i := 435) (by decide +kernel) (by decide +kernel)
theorem kt_451 : (Jvm.Cond.selects (ex_Y 87).cls (ex_Y 87) (ex_Y 87)) ∈ ex_tb := ex_in (i := 4) (by decide +kernel) (by decide +kernel)
theorem kt_452 : (Jvm.Cond.methodLink (ex_Rn 10) 164 (ex_Y 87)) ∈ ex_tb := ex_in (i := 433) (by decide +kernel) (by decide +kernel)
theorem kt_453 : (Jvm.Cond.instanceMethod (ex_Y 14)) ∈ ex_tb := ex_in (i := 445) (by decide +kernel) (by decide +kernel)
theorem kt_454 : (Jvm.Cond.selects (ex_Y 14).cls (ex_Y 14) (ex_Y 14)) ∈ ex_tb := ex_in (i := 446) (by decide +kernel) (by decide +kernel)
theorem kt_455 : (Jvm.Cond.methodLink (ex_Rn 10) 171 (ex_Y 14)) ∈ ex_tb := ex_in (i := 444) (by decide +kernel) (by decide +kernel)
theorem kt_456 : (Jvm.Cond.instanceMethod (ex_Y 89)) ∈ ex_tb := ex_in (i := 454) (by decide +kernel) (by decide +kernel)
theorem kt_457 : (Jvm.Cond.selects (ex_Y 89).cls (ex_Y 89) (ex_Y 89)) ∈ ex_tb := ex_in (i := 5) (by decide +kernel) (by decide +kernel)
theorem kt_458 : (Jvm.Cond.methodLink (ex_Rn 10) 174 (ex_Y 89)) ∈ ex_tb := ex_in (i := 452) (by decide +kernel) (by decide +kernel)
theorem kt_459 : (Jvm.Cond.methodLink (ex_Rn 10) 190 (ex_Y 59)) ∈ ex_tb := ex_in (i := 431) (by decide +kernel) (by decide +kernel)
theorem kt_460 : (Jvm.Cond.methodLink (ex_Rn 10) 250 (ex_Y 20)) ∈ ex_tb := ex_in (i := 333) (by decide +kernel) (by decide +kernel)
theorem kt_461 : (Jvm.Cond.instanceMethod (ex_Y 90)) ∈ ex_tb := ex_in (i := 470) (by decide +kernel) (by decide +kernel)
theorem kt_462 : (Jvm.Cond.selects (ex_Y 90).cls (ex_Y 90) (ex_Y 90)) ∈ ex_tb := ex_in (i := 6) (by decide +kernel) (by decide +kernel)
theorem kt_463 : (Jvm.Cond.methodLink (ex_Rn 10) 265 (ex_Y 90)) ∈ ex_tb := ex_in (i := 468) (by decide +kernel) (by decide +kernel)
theorem kt_464 : (Jvm.Cond.methodLink (ex_Rn 10) 307 (ex_Y 17)) ∈ ex_tb := ex_in (i := 329) (by decide +kernel) (by decide +kernel)
theorem kt_465 : (Jvm.Cond.instanceMethod (ex_Y 5)) ∈ ex_tb := ex_in (i := 338) (by decide +kernel) (by decide +kernel)
theorem kt_466 : (Jvm.Cond.selects (ex_Y 5).cls (ex_Y 5) (ex_Y 5)) ∈ ex_tb := ex_in (i := 339) (by decide +kernel) (by decide +kernel)
theorem kt_467 : (Jvm.Cond.methodLink (ex_Rn 10) 308 (ex_Y 5)) ∈ ex_tb := ex_in (i := 337) (by decide +kernel) (by decide +kernel)
theorem kt_468 : (Jvm.Cond.methodLink (ex_Rn 10) 311 (ex_Y 23)) ∈ ex_tb := ex_in (i := 363) (by decide +kernel) (by decide +kernel)
theorem kt_469 : (Jvm.Cond.methodLink (ex_Rn 10) 320 (ex_Y 62)) ∈ ex_tb := ex_in (i := 432) (by decide +kernel) (by decide +kernel)
theorem kt_470 : (Jvm.Cond.instanceMethod (ex_Y 91)) ∈ ex_tb := ex_in (i := 474) (by decide +kernel) (by decide +kernel)
theorem kt_471 : (Jvm.Cond.selects (ex_Y 91).cls (ex_Y 91) (ex_Y 91)) ∈ ex_tb := ex_in (i := 7) (by decide +kernel) (by decide +kernel)
theorem kt_472 : (Jvm.Cond.methodLink (ex_Rn 10) 323 (ex_Y 91)) ∈ ex_tb := ex_in (i := 472) (by decide +kernel) (by decide +kernel)
theorem kq_V_10 : ∀ q ∈ ex_cV.getD 10 [], ex_PV 10 q.1 q.2 := List.forall_mem_cons.mpr ⟨⟨by decide, by unfold ex_ar; decide +kernel, kt_298, kt_299, kt_406, by decide +kernel⟩, List.forall_mem_cons.mpr ⟨⟨by decide, by unfold ex_ar; decide +kernel, kt_407, kt_408, kt_409, by decide +kernel⟩, List.forall_mem_cons.mpr ⟨⟨by decide, by unfold ex_ar; decide +kernel, kt_410, kt_411, kt_412, by decide +kernel⟩, List.forall_mem_cons.mpr ⟨⟨by decide, by unfold ex_ar; decide +kernel, kt_413, kt_414, kt_415, by decide +kernel⟩, List.forall_mem_cons.mpr ⟨⟨by decide, by unfold ex_ar; decide +kernel, kt_416, kt_417, kt_418, by decide +kernel⟩, List.forall_mem_cons.mpr ⟨⟨by decide, by unfold ex_ar; decide +kernel, kt_419, kt_420, kt_421, by decide +kernel⟩, List.forall_mem_cons.mpr ⟨⟨by decide, by unfold ex_ar; decide +kernel, kt_422, kt_423, kt_424, by decide +kernel⟩, List.forall_mem_cons.mpr ⟨⟨by decide, by unfold ex_ar; decide +kernel, kt_425, kt_426, kt_427, by decide +kernel⟩, List.forall_mem_cons.mpr ⟨⟨by decide, by unfold ex_ar; decide +kernel, kt_428, kt_429, kt_430, by decide +kernel⟩, List.forall_mem_cons.mpr ⟨⟨by decide, by unfold ex_ar; decide +kernel, kt_431, kt_432, kt_433, by decide +kernel⟩, List.forall_mem_cons.mpr ⟨⟨by decide, by unfold ex_ar; decide +kernel, kt_434, kt_435, kt_436, by decide +kernel⟩, List.forall_mem_cons.mpr ⟨⟨by decide, by unfold ex_ar; decide +kernel, kt_437, kt_438, kt_439, by decide +kernel⟩, List.forall_mem_cons.mpr ⟨⟨by decide, by unfold ex_ar; decide +kernel, kt_322, kt_323, kt_440, by decide +kernel⟩, List.forall_mem_cons.mpr ⟨⟨by decide, by unfold ex_ar; decide +kernel, kt_394, kt_395, kt_441, by decide +kernel⟩, List.forall_mem_cons.mpr ⟨⟨by decide, by unfold ex_ar; decide +kernel, kt_442, kt_443, kt_444, by decide +kernel⟩, List.forall_mem_cons.mpr ⟨⟨by decide, by unfold ex_ar; decide +kernel, kt_377, kt_378, kt_445, by decide +kernel⟩, List.forall_mem_cons.mpr ⟨⟨by decide, by unfold ex_ar; decide +kernel, kt_383, kt_384, kt_446, by decide +kernel⟩, List.forall_mem_cons.mpr ⟨⟨by decide, by unfold ex_ar; decide +kernel, kt_447, kt_448, kt_449, by decide +kernel⟩, List.forall_mem_cons.mpr ⟨⟨by decide, by unfold ex_ar; decide +kernel, kt_450, kt_451, kt_452, by decide +kernel⟩, List.forall_mem_cons.mpr ⟨⟨by decide, by unfold ex_ar; decide +kernel, kt_453, kt_454, kt_455, by decide +kernel⟩, List.forall_mem_cons.mpr ⟨⟨by decide, by unfold ex_ar; decide +kernel, kt_456, kt_457, kt_458, by decide +kernel⟩, List.forall_mem_cons.mpr ⟨⟨by decide, by unfold ex_ar; decide +kernel, kt_289, kt_290, kt_459, by decide +kernel⟩, List.forall_mem_cons.mpr ⟨⟨by decide, by unfold ex_ar; decide +kernel, kt_346, kt_347, kt_460, by decide +kernel⟩, List.forall_mem_cons.mpr ⟨⟨by decide, by unfold ex_ar; decide +kernel, kt_461, kt_462, kt_463, by decide +kernel⟩, List.forall_mem_cons.mpr ⟨⟨by decide, by unfold ex_ar; decide +kernel, kt_334, kt_335, kt_464, by decide +kernel⟩, List.forall_mem_cons.mpr ⟨⟨by decide, by unfold ex_ar; decide +kernel, kt_465, kt_466, kt_467, by decide +kernel⟩, List.forall_mem_cons.mpr ⟨⟨by decide, by unfold ex_ar; decide +kernel, kt_337, kt_338, kt_468, by decide +kernel⟩, List.forall_mem_cons.mpr ⟨⟨by decide, by unfold ex_ar; decide +kernel, kt_277, kt_278, kt_469, by decide +kernel⟩, List.forall_mem_cons.mpr ⟨⟨by decide, by unfold ex_ar; decide +kernel, kt_470, kt_471, kt_472, by decide +kernel⟩, fun _ h => absurd h List.not_mem_nil⟩⟩⟩⟩⟩⟩⟩⟩⟩⟩⟩⟩⟩⟩⟩⟩⟩⟩⟩⟩⟩⟩⟩⟩⟩⟩⟩⟩⟩
theorem kt_473 : (Jvm.Cond.instanceMethod (ex_Y 67)) ∈ ex_tb := ex_in (i := 496) (by decide +kernel) (by decide +kernel)
theorem kt_474 : (Jvm.Cond.selects (ex_Y 67).cls (ex_Y 67) (ex_Y 67)) ∈ ex_tb := ex_in (i := 497) (by decide +kernel) (by decide +kernel)
theorem kt_475 : (Jvm.Cond.methodLink (ex_Rn 11) 8 (ex_Y 67)) ∈ ex_tb := ex_in (i := 495) (by decide +kernel) (by decide +kernel)
theorem kt_476 : (Jvm.Cond.instanceMethod (ex_Y 68)) ∈ ex_tb := ex_in (i := 510) (by decide +kernel) (by decide +kernel)
theorem kt_477 : (Jvm.Cond.selects (ex_Y 68).cls (ex_Y 68) (ex_Y 68)) ∈ ex_tb := ex_in (i := 511) (by decide +kernel) (by decide +kernel)
theorem kt_478 : (Jvm.Cond.methodLink (ex_Rn 11) 25 (ex_Y 68)) ∈ ex_tb := ex_in (i := 509) (by decide +kernel) (by decide +kernel)
theorem kt_479 : (Jvm.Cond.instanceMethod (ex_Y 82)) ∈ ex_tb := ex_in (i := 477) (by decide +kernel) (by decide +kernel)
theorem kt_480 : (Jvm.Cond.selects (ex_Y 82).cls (ex_Y 82) (ex_Y 82)) ∈ ex_tb := ex_in (i := 478) (by decide +kernel) (by decide +kernel)
theorem kt_481 : (Jvm.Cond.methodLink (ex_Rn 11) 29 (ex_Y 82)) ∈ ex_tb := ex_in (i := 476) (by decide +kernel) (by decide +kernel)
theorem kt_482 : (Jvm.Cond.instanceMethod (ex_Y 69)) ∈ ex_tb := ex_in (i := 586) (by decide +kernel) (by decide +kernel)
theorem kt_483 : (Jvm.Cond.selects (ex_Y 69).cls (ex_Y 69) (ex_Y 69)) ∈ ex_tb := ex_in (i := 587) (by decide +kernel) (by decide +kernel)
theorem kt_484 : (Jvm.Cond.methodLink (ex_Rn 11) 32 (ex_Y 69)) ∈ ex_tb := ex_in (i := 585) (by decide +kernel) (by decide +kernel)
theorem kt_485 : (Jvm.Cond.instanceMethod (ex_Y 70)) ∈ ex_tb := ex_in (i := 681) (by decide +kernel) (by decide +kernel)
theorem kt_486 : (Jvm.Cond.selects (ex_Y 70).cls (ex_Y 70) (ex_Y 70)) ∈ ex_tb := ex_in (i := 682) (by decide +kernel) (by decide +kernel)
theorem kt_487 : (Jvm.Cond.methodLink (ex_Rn 11) 39 (ex_Y 70)) ∈ ex_tb := ex_in (i := 680) (by decide +kernel) (by decide +kernel)
theorem kt_488 : (Jvm.Cond.instanceMethod (ex_Y 73)) ∈ ex_tb := ex_in (i := 317) (by decide +kernel) (by decide +kernel)
theorem kt_489 : (Jvm.Cond.selects (ex_Y 73).cls (ex_Y 73) (ex_Y 73)) ∈ ex_tb := ex_in (i := 318) (by decide +kernel) (by decide +kernel)
theorem kt_490 : (Jvm.Cond.methodLink (ex_Rn 11) 69 (ex_Y 73)) ∈ ex_tb := ex_in (i := 316) (by decide +kernel) (by decide +kernel)
theorem kt_491 : (Jvm.Cond.instanceMethod (ex_Y 71)) ∈ ex_tb := ex_in (i := 286) (by decide +kernel) (by decide +kernel)
theorem kt_492 : (Jvm.Cond.selects (ex_Y 71).cls (ex_Y 71) (ex_Y 71)) ∈ ex_tb := ex_in (i := 287) (by decide +kernel) (by decide +kernel)
theorem kt_493 : (Jvm.Cond.methodLink (ex_Rn 11) 76 (ex_Y 71)) ∈ ex_tb := ex_in (i := 285) (by decide +kernel) (by decide +kernel)
theorem kt_494 : (Jvm.Cond.instanceMethod (ex_Y 72)) ∈ ex_tb := ex_in (i := 310) (by decide +kernel) (by decide +kernel)
theorem kt_495 : (Jvm.Cond.selects (ex_Y 72).cls (ex_Y 72) (ex_Y 72)) ∈ ex_tb := ex_in (i := 311) (by decide +kernel) (by decide +kernel)
theorem kt_496 : (Jvm.Cond.methodLink (ex_Rn 11) 79 (ex_Y 72)) ∈ ex_tb := ex_in (i := 309) (by decide +kernel) (by decide +kernel)
theorem kt_497 : (Jvm.Cond.instanceMethod (ex_Y 74)) ∈ ex_tb := ex_in (i := 368) (by decide +kernel) (by decide +kernel)
theorem kt_498 : (Jvm.Cond.selects (ex_Y 74).cls (ex_Y 74) (ex_Y 74)) ∈ ex_tb := ex_in (i := 369) (by decide +kernel) (by decide +kernel)
theorem kt_499 : (Jvm.Cond.methodLink (ex_Rn 11) 83 (ex_Y 74)) ∈ ex_tb := ex_in (i := 367) (by decide +kernel) (by decide +kernel)
theorem kt_500 : (Jvm.Cond.instanceMethod (ex_Y 75)) ∈ ex_tb := ex_in (i := 381) (by decide +kernel) (by decide +kernel)
theorem kt_501 : (Jvm.Cond.selects (ex_Y 75).cls (ex_Y 75) (ex_Y 75)) ∈ ex_tb := ex_in (i := 382) (by decide +kernel) (by decide +kernel)
theorem kt_502 : (Jvm.Cond.methodLink (ex_Rn 11) 87 (ex_Y 75)) ∈ ex_tb := ex_in (i := 380) (by decide +kernel) (by decide +kernel)
theorem kt_503 : (Jvm.Cond.instanceMethod (ex_Y 76)) ∈ ex_tb := ex_in (i := 407) (by decide +kernel) (by decide +kernel)
theorem kt_504 : (Jvm.Cond.selects (ex_Y 76).cls (ex_Y 76) (ex_Y 76)) ∈ ex_tb := ex_in (i := 408) (by decide +kernel) (by decide +kernel)
theorem kt_505 : (Jvm.Cond.methodLink (ex_Rn 11) 91 (ex_Y 76)) ∈ ex_tb := ex_in (i := 406) (by decide +kernel) (by decide +kernel)
theorem kt_506 : (Jvm.Cond.instanceMethod (ex_Y 78)) ∈ ex_tb := ex_in (i := 441) (by decide +kernel) (by decide +kernel)
theorem kt_507 : (Jvm.Cond.selects (ex_Y 78).cls (ex_Y 78) (ex_Y 78)) ∈ ex_tb := ex_in (i := 442) (by decide +kernel) (by decide +kernel)
theorem kt_508 : (Jvm.Cond.methodLink (ex_Rn 11) 97 (ex_Y 78)) ∈ ex_tb := ex_in (i := 440) (by decide +kernel) (by decide +kernel)
theorem kt_509 : (Jvm.Cond.instanceMethod (ex_Y 77)) ∈ ex_tb := ex_in (i := 424) (by decide +kernel) (by decide +kernel)
theorem kt_510 : (Jvm.Cond.selects (ex_Y 77).cls (ex_Y 77) (ex_Y 77)) ∈ ex_tb := ex_in (i := 425) (by decide +kernel) (by decide +kernel)
theorem kt_511 : (Jvm.Cond.methodLink (ex_Rn 11) 100 (ex_Y 77)) ∈ ex_tb := ex_in (i := 423) (by decide +kernel) (by decide +kernel)
theorem kt_512 : (Jvm.Cond.instanceMethod (ex_Y 79)) ∈ ex_tb := ex_in (i := 457) (by decide +kernel) (by decide +kernel)
theorem kt_513 : (Jvm.Cond.selects (ex_Y 79).cls (ex_Y 79) (ex_Y 79)) ∈ ex_tb := ex_in (i := 458) (by decide +kernel) (by decide +kernel)
theorem kt_514 : (Jvm.Cond.methodLink (ex_Rn 11) 103 (ex_Y 79)) ∈ ex_tb := ex_in (i := 456) (by decide +kernel) (by decide +kernel)
theorem kt_515 : (Jvm.Cond.instanceMethod (ex_Y 80)) ∈ ex_tb := ex_in (i := 461) (by decide +kernel) (by decide +kernel)
theorem kt_516 : (Jvm.Cond.selects (ex_Y 80).cls (ex_Y 80) (ex_Y 80)) ∈ ex_tb := ex_in (i := 462) (by decide +kernel) (by decide +kernel)
theorem kt_517 : (Jvm.Cond.methodLink (ex_Rn 11) 106 (ex_Y 80)) ∈ ex_tb := ex_in (i := 460) (by decide +kernel) (by decide +kernel)
theorem kt_518 : (Jvm.Cond.instanceMethod (ex_Y 81)) ∈ ex_tb := ex_in (i := 465) (by decide +kernel) (by decide +kernel)
theorem kt_519 : (Jvm.Cond.selects (ex_Y 81).cls (ex_Y 81) (ex_Y 81)) ∈ ex_tb := ex_in (i := 466) (by decide +kernel) (by decide +kernel)
theorem kt_520 : (Jvm.Cond.methodLink (ex_Rn 11) 109 (ex_Y 81)) ∈ ex_tb := ex_in (i := 464) (by decide +kernel) (by decide +kernel)
theorem kq_V_11 : ∀ q ∈ ex_cV.getD 11 [], ex_PV 11 q.1 q.2 := List.forall_mem_cons.mpr ⟨⟨by decide, by unfold ex_ar; decide +kernel, kt_473, kt_474, kt_475, by decide +kernel⟩, List.forall_mem_cons.mpr ⟨⟨by decide, by unfold ex_ar; decide +kernel, kt_476, kt_477, kt_478, by decide +kernel⟩, List.forall_mem_cons.mpr ⟨⟨by decide, by unfold ex_ar; decide +kernel, kt_479, kt_480, kt_481, by decide +kernel⟩, List.forall_mem_cons.mpr ⟨⟨by decide, by unfold ex_ar; decide +kernel, kt_482, kt_483, kt_484, by decide +kernel⟩, List.forall_mem_cons.mpr ⟨⟨by decide, by unfold ex_ar; decide +kernel, kt_485, kt_486, kt_487, by decide +kernel⟩, List.forall_mem_cons.mpr ⟨⟨by decide, by unfold ex_ar; decide +kernel, kt_488, kt_489, kt_490, by decide +kernel⟩, List.forall_mem_cons.mpr ⟨⟨by decide, by unfold ex_ar; decide +kernel, kt_491, kt_492, kt_493, by decide +kernel⟩, List.forall_mem_cons.mpr ⟨⟨by decide, by unfold ex_ar; decide +kernel, kt_494, kt_495, kt_496, by decide +kernel⟩, List.forall_mem_cons.mpr ⟨⟨by decide, by unfold ex_ar; decide +kernel, kt_497, kt_498, kt_499, by decide +kernel⟩, List.forall_mem_cons.mpr ⟨⟨by decide, by unfold ex_ar; decide +kernel, kt_500, kt_501, kt_502, by decide +kernel⟩, List.forall_mem_cons.mpr ⟨⟨by decide, by unfold ex_ar; decide +kernel, kt_503, kt_504, kt_505, by decide +kernel⟩, List.forall_mem_cons.mpr ⟨⟨by decide, by unfold ex_ar; decide +kernel, kt_506, kt_507, kt_508, by decide +kernel⟩, List.forall_mem_cons.mpr ⟨⟨by decide, by unfold ex_ar; decide +kernel, kt_509, kt_510, kt_511, by decide +kernel⟩, List.forall_mem_cons.mpr ⟨⟨by decide, by unfold ex_ar; decide +kernel, kt_512, kt_513, kt_514, by decide +kernel⟩, List.forall_mem_cons.mpr ⟨⟨by decide, by unfold ex_ar; decide +kernel, kt_515, kt_516, kt_517, by decide +kernel⟩, List.forall_mem_cons.mpr ⟨⟨by decide, by unfold ex_ar; decide +kernel, kt_518, kt_519, kt_520, by decide +kernel⟩, fun _ h => absurd h List.not_mem_nil⟩⟩⟩⟩⟩⟩⟩⟩⟩⟩⟩⟩⟩⟩⟩⟩
theorem kq_V {c : Nat} (hc : c < 12) : ∀ q ∈ ex_cV.getD c [], ex_PV c q.1 q.2 := by
  match c, hc with
  | 0, _ => exact kq_V_0
  | 1, _ => exact kq_V_1
  | 2, _ => exact kq_V_2
  | 3, _ => exact kq_V_3
  | 4, _ => exact kq_V_4
  | 5, _ => exact kq_V_5
  | 6, _ => exact kq_V_6
  | 7, _ => exact kq_V_7
  | 8, _ => exact kq_V_8
  | 9, _ => exact kq_V_9
  | 10, _ => exact kq_V_10
  | 11, _ => exact kq_V_11
def ex_X : List (MethodName × String) := [(⟨"BorderThroughBed$HouseText", "taken", "(LBorderThroughBed$Page;)I"⟩, "BorderThroughBed$Text"), (⟨"BorderThroughBed$Text", "begin", "()V"⟩, "BorderThroughBed$Text"), (⟨"BorderThroughBed$Text", "takes", "(I)Z"⟩, "BorderThroughBed$Text"), (⟨"BorderThroughBed$LawText", "taken", "(LBorderThroughBed$Page;)I"⟩, "BorderThroughBed$Text"), (⟨"BorderThroughBed$HouseText", "isOn", "(LBorderThroughBed$Page;)Z"⟩, "BorderThroughBed$Text"), (⟨"BorderThroughBed$Text", "taken", "(LBorderThroughBed$Page;)I"⟩, "BorderThroughBed$Text"), (⟨"BorderThroughBed$Text", "isWhole", "()Z"⟩, "BorderThroughBed$Text"), (⟨"BorderThroughBed$LawText", "isOn", "(LBorderThroughBed$Page;)Z"⟩, "BorderThroughBed$Text")]
def ex_Xm (x : Nat) : MethodName := (ex_X.getD x (⟨"", "", ""⟩, "")).1
/-- a site of dispatch: the class of the receiver C, the method y: what stands in the tables -/
def ex_PD (c a x n C y : Nat) : Prop := y < 92 ∧ C < 9 ∧ (parseMethodDescriptor (ex_Xm x).desc).map (fun d => d.parameters.length) = some n ∧ Jvm.Cond.methodLink (ex_Rn c) a (ex_Xm x) ∈ ex_tb ∧ Jvm.Cond.sameMethod (ex_Xm x).cls "BorderThroughBed$Text" (ex_Xm x).name (ex_Xm x).desc ∈ ex_tb ∧ Jvm.Cond.declares ⟨"BorderThroughBed$Text", (ex_Xm x).name, (ex_Xm x).desc⟩ ∈ ex_nw ∧ Jvm.Cond.selects (ex_Rn C) (ex_Xm x) (ex_Y y) ∈ ex_tb ∧ Jvm.Cond.instanceMethod (ex_Y y) ∈ ex_tb ∧ (C = ex_C y ∨ (ex_C y = 9 ∧ (C = 2 ∨ C = 4)))
theorem kt_521 : (Jvm.Cond.methodLink (ex_Rn 10) 87 (ex_Xm 0)) ∈ ex_tb := ex_in (i := 513) (by decide +kernel) (by decide +kernel)
theorem kt_522 : (Jvm.Cond.sameMethod (ex_Xm 0).cls "BorderThroughBed$Text" (ex_Xm 0).name (ex_Xm 0).desc) ∈ ex_tb := ex_in (i := 514) (by decide +kernel) (by decide +kernel)
theorem kt_523 : (Jvm.Cond.instanceMethod (ex_Y 65)) ∈ ex_tb := ex_in (i := 517) (by decide +kernel) (by decide +kernel)
theorem kt_524 : (Jvm.Cond.selects (ex_Rn 2) (ex_Xm 0) (ex_Y 65)) ∈ ex_tb := ex_in (i := 516) (by decide +kernel) (by decide +kernel)
theorem kx_0_2 : ex_PD 10 87 0 1 2 65 := ⟨by decide, by decide, by decide +kernel, kt_521, kt_522, List.mem_of_getElem? (i := 13) (by decide +kernel), kt_524, kt_523, by decide +kernel⟩
theorem kt_525 : (Jvm.Cond.methodLink (ex_Rn 9) 7 (ex_Xm 1)) ∈ ex_tb := ex_in (i := 519) (by decide +kernel) (by decide +kernel)
theorem kt_526 : (Jvm.Cond.sameMethod (ex_Xm 1).cls "BorderThroughBed$Text" (ex_Xm 1).name (ex_Xm 1).desc) ∈ ex_tb := ex_in (i := 521) (by decide +kernel) (by decide +kernel)
theorem kt_527 : (Jvm.Cond.instanceMethod (ex_Y 28)) ∈ ex_tb := ex_in (i := 523) (by decide +kernel) (by decide +kernel)
theorem kt_528 : (Jvm.Cond.selects (ex_Rn 2) (ex_Xm 1) (ex_Y 28)) ∈ ex_tb := ex_in (i := 522) (by decide +kernel) (by decide +kernel)
theorem kt_529 : (Jvm.Cond.instanceMethod (ex_Y 35)) ∈ ex_tb := ex_in (i := 526) (by decide +kernel) (by decide +kernel)
theorem kt_530 : (Jvm.Cond.selects (ex_Rn 4) (ex_Xm 1) (ex_Y 35)) ∈ ex_tb := ex_in (i := 525) (by decide +kernel) (by decide +kernel)
theorem kx_1_2 : ex_PD 9 7 1 0 2 28 := ⟨by decide, by decide, by decide +kernel, kt_525, kt_526, List.mem_of_getElem? (i := 14) (by decide +kernel), kt_528, kt_527, by decide +kernel⟩
theorem kx_1_4 : ex_PD 9 7 1 0 4 35 := ⟨by decide, by decide, by decide +kernel, kt_525, kt_526, List.mem_of_getElem? (i := 14) (by decide +kernel), kt_530, kt_529, by decide +kernel⟩
theorem kt_531 : (Jvm.Cond.methodLink (ex_Rn 9) 22 (ex_Xm 2)) ∈ ex_tb := ex_in (i := 534) (by decide +kernel) (by decide +kernel)
theorem kt_532 : (Jvm.Cond.sameMethod (ex_Xm 2).cls "BorderThroughBed$Text" (ex_Xm 2).name (ex_Xm 2).desc) ∈ ex_tb := ex_in (i := 536) (by decide +kernel) (by decide +kernel)
theorem kt_533 : (Jvm.Cond.instanceMethod (ex_Y 29)) ∈ ex_tb := ex_in (i := 538) (by decide +kernel) (by decide +kernel)
theorem kt_534 : (Jvm.Cond.selects (ex_Rn 2) (ex_Xm 2) (ex_Y 29)) ∈ ex_tb := ex_in (i := 537) (by decide +kernel) (by decide +kernel)
theorem kt_535 : (Jvm.Cond.instanceMethod (ex_Y 36)) ∈ ex_tb := ex_in (i := 557) (by decide +kernel) (by decide +kernel)
theorem kt_536 : (Jvm.Cond.selects (ex_Rn 4) (ex_Xm 2) (ex_Y 36)) ∈ ex_tb := ex_in (i := 556) (by decide +kernel) (by decide +kernel)
theorem kx_2_2 : ex_PD 9 22 2 1 2 29 := ⟨by decide, by decide, by decide +kernel, kt_531, kt_532, List.mem_of_getElem? (i := 15) (by decide +kernel), kt_534, kt_533, by decide +kernel⟩
theorem kx_2_4 : ex_PD 9 22 2 1 4 36 := ⟨by decide, by decide, by decide +kernel, kt_531, kt_532, List.mem_of_getElem? (i := 15) (by decide +kernel), kt_536, kt_535, by decide +kernel⟩
theorem kt_537 : (Jvm.Cond.methodLink (ex_Rn 10) 91 (ex_Xm 3)) ∈ ex_tb := ex_in (i := 582) (by decide +kernel) (by decide +kernel)
theorem kt_538 : (Jvm.Cond.sameMethod (ex_Xm 3).cls "BorderThroughBed$Text" (ex_Xm 3).name (ex_Xm 3).desc) ∈ ex_tb := ex_in (i := 583) (by decide +kernel) (by decide +kernel)
theorem kt_539 : (Jvm.Cond.selects (ex_Rn 4) (ex_Xm 3) (ex_Y 65)) ∈ ex_tb := ex_in (i := 584) (by decide +kernel) (by decide +kernel)
theorem kx_3_4 : ex_PD 10 91 3 1 4 65 := ⟨by decide, by decide, by decide +kernel, kt_537, kt_538, List.mem_of_getElem? (i := 13) (by decide +kernel), kt_539, kt_523, by decide +kernel⟩
theorem kt_540 : (Jvm.Cond.methodLink (ex_Rn 10) 92 (ex_Xm 4)) ∈ ex_tb := ex_in (i := 589) (by decide +kernel) (by decide +kernel)
theorem kt_541 : (Jvm.Cond.sameMethod (ex_Xm 4).cls "BorderThroughBed$Text" (ex_Xm 4).name (ex_Xm 4).desc) ∈ ex_tb := ex_in (i := 590) (by decide +kernel) (by decide +kernel)
theorem kt_542 : (Jvm.Cond.instanceMethod (ex_Y 66)) ∈ ex_tb := ex_in (i := 593) (by decide +kernel) (by decide +kernel)
theorem kt_543 : (Jvm.Cond.selects (ex_Rn 2) (ex_Xm 4) (ex_Y 66)) ∈ ex_tb := ex_in (i := 592) (by decide +kernel) (by decide +kernel)
theorem kx_4_2 : ex_PD 10 92 4 1 2 66 := ⟨by decide, by decide, by decide +kernel, kt_540, kt_541, List.mem_of_getElem? (i := 16) (by decide +kernel), kt_543, kt_542, by decide +kernel⟩
theorem kt_544 : (Jvm.Cond.methodLink (ex_Rn 9) 26 (ex_Xm 5)) ∈ ex_tb := ex_in (i := 595) (by decide +kernel) (by decide +kernel)
theorem kt_545 : (Jvm.Cond.sameMethod (ex_Xm 5).cls "BorderThroughBed$Text" (ex_Xm 5).name (ex_Xm 5).desc) ∈ ex_tb := ex_in (i := 723) (by decide +kernel) (by decide +kernel)
theorem kt_546 : (Jvm.Cond.selects (ex_Rn 2) (ex_Xm 5) (ex_Y 65)) ∈ ex_tb := ex_in (i := 724) (by decide +kernel) (by decide +kernel)
theorem kt_547 : (Jvm.Cond.selects (ex_Rn 4) (ex_Xm 5) (ex_Y 65)) ∈ ex_tb := ex_in (i := 725) (by decide +kernel) (by decide +kernel)
theorem kx_5_2 : ex_PD 9 26 5 1 2 65 := ⟨by decide, by decide, by decide +kernel, kt_544, kt_545, List.mem_of_getElem? (i := 13) (by decide +kernel), kt_546, kt_523, by decide +kernel⟩
theorem kx_5_4 : ex_PD 9 26 5 1 4 65 := ⟨by decide, by decide, by decide +kernel, kt_544, kt_545, List.mem_of_getElem? (i := 13) (by decide +kernel), kt_547, kt_523, by decide +kernel⟩
theorem kt_548 : (Jvm.Cond.methodLink (ex_Rn 9) 30 (ex_Xm 6)) ∈ ex_tb := ex_in (i := 596) (by decide +kernel) (by decide +kernel)
theorem kt_549 : (Jvm.Cond.sameMethod (ex_Xm 6).cls "BorderThroughBed$Text" (ex_Xm 6).name (ex_Xm 6).desc) ∈ ex_tb := ex_in (i := 598) (by decide +kernel) (by decide +kernel)
theorem kt_550 : (Jvm.Cond.instanceMethod (ex_Y 34)) ∈ ex_tb := ex_in (i := 600) (by decide +kernel) (by decide +kernel)
theorem kt_551 : (Jvm.Cond.selects (ex_Rn 2) (ex_Xm 6) (ex_Y 34)) ∈ ex_tb := ex_in (i := 599) (by decide +kernel) (by decide +kernel)
theorem kt_552 : (Jvm.Cond.instanceMethod (ex_Y 43)) ∈ ex_tb := ex_in (i := 603) (by decide +kernel) (by decide +kernel)
theorem kt_553 : (Jvm.Cond.selects (ex_Rn 4) (ex_Xm 6) (ex_Y 43)) ∈ ex_tb := ex_in (i := 602) (by decide +kernel) (by decide +kernel)
theorem kx_6_2 : ex_PD 9 30 6 0 2 34 := ⟨by decide, by decide, by decide +kernel, kt_548, kt_549, List.mem_of_getElem? (i := 17) (by decide +kernel), kt_551, kt_550, by decide +kernel⟩
theorem kx_6_4 : ex_PD 9 30 6 0 4 43 := ⟨by decide, by decide, by decide +kernel, kt_548, kt_549, List.mem_of_getElem? (i := 17) (by decide +kernel), kt_553, kt_552, by decide +kernel⟩
theorem kt_554 : (Jvm.Cond.methodLink (ex_Rn 10) 112 (ex_Xm 7)) ∈ ex_tb := ex_in (i := 684) (by decide +kernel) (by decide +kernel)
theorem kt_555 : (Jvm.Cond.sameMethod (ex_Xm 7).cls "BorderThroughBed$Text" (ex_Xm 7).name (ex_Xm 7).desc) ∈ ex_tb := ex_in (i := 685) (by decide +kernel) (by decide +kernel)
theorem kt_556 : (Jvm.Cond.selects (ex_Rn 4) (ex_Xm 7) (ex_Y 66)) ∈ ex_tb := ex_in (i := 686) (by decide +kernel) (by decide +kernel)
theorem kx_7_4 : ex_PD 10 112 7 1 4 66 := ⟨by decide, by decide, by decide +kernel, kt_554, kt_555, List.mem_of_getElem? (i := 16) (by decide +kernel), kt_556, kt_542, by decide +kernel⟩
theorem ex_lk {α : Type} {l : List (Nat × α)} {a : Nat} {v : α} (h : l.lookup a = some v) : (a, v) ∈ l := by
  induction l with
  | nil => cases h
  | cons q r ih =>
    obtain ⟨k, u⟩ := q
    rw [List.lookup_cons] at h
    by_cases hk : a = k
    · subst hk
      simp at h
      subst h
      exact List.mem_cons_self
    · have : (a == k) = false := by simpa using hk
      rw [this] at h
      exact List.mem_cons_of_mem _ (ih h)
def ex_cWall : List (Nat × Nat × Nat × Nat) := (List.range 12).flatMap fun c => (ex_cW.getD c []).map fun q => (c, q.1, q.2.1, q.2.2)
def ex_Dall : List (Nat × Nat × Nat) := (List.range 8).flatMap fun x => (ex_D.getD x []).map fun q => (x, q.1, q.2)
theorem ex_cWall_in {c a x n : Nat} (h : (ex_cW.getD c []).lookup a = some (x, n)) : (c, a, x, n) ∈ ex_cWall := by
  have hm := ex_lk h
  have hc : c < 12 := by
    rcases Nat.lt_or_ge c 12 with q | q
    · exact q
    · have e : ex_cW[c]? = none := List.getElem?_eq_none (show ex_cW.length ≤ c from q)
      rw [List.getD_eq_getElem?_getD, e] at hm
      cases hm
  exact List.mem_flatMap.mpr ⟨c, List.mem_range.mpr hc, List.mem_map.mpr ⟨_, hm, rfl⟩⟩
theorem ex_Dall_in {x C y : Nat} (h : ex_dsp x C = some y) : (x, C, y) ∈ ex_Dall := by
  have hm := ex_lk h
  have hc : x < 8 := by
    rcases Nat.lt_or_ge x 8 with q | q
    · exact q
    · have e : ex_D[x]? = none := List.getElem?_eq_none (show ex_D.length ≤ x from q)
      rw [List.getD_eq_getElem?_getD, e] at hm
      cases hm
  exact List.mem_flatMap.mpr ⟨x, List.mem_range.mpr hc, List.mem_map.mpr ⟨_, hm, rfl⟩⟩
theorem kx_pairs (c a x n C y : Nat) (hm : (c, a, x, n) ∈ ex_cWall) (hd : (x, C, y) ∈ ex_Dall) : ex_PD c a x n C y := by
  have e1 : ex_cWall = [(9, 7, 1, 0), (9, 22, 2, 1), (9, 26, 5, 1), (9, 30, 6, 0), (10, 87, 0, 1), (10, 91, 3, 1), (10, 92, 4, 1), (10, 112, 7, 1)] := by decide +kernel
  have e2 : ex_Dall = [(0, 2, 65), (1, 2, 28), (1, 4, 35), (2, 2, 29), (2, 4, 36), (3, 4, 65), (4, 2, 66), (5, 2, 65), (5, 4, 65), (6, 2, 34), (6, 4, 43), (7, 4, 66)] := by decide +kernel
  rw [e1] at hm
  rw [e2] at hd
  simp only [List.mem_cons, Prod.mk.injEq, List.not_mem_nil, or_false] at hm hd
  rcases hm with ⟨rfl, rfl, rfl, rfl⟩ | ⟨rfl, rfl, rfl, rfl⟩ | ⟨rfl, rfl, rfl, rfl⟩ | ⟨rfl, rfl, rfl, rfl⟩ | ⟨rfl, rfl, rfl, rfl⟩ | ⟨rfl, rfl, rfl, rfl⟩ | ⟨rfl, rfl, rfl, rfl⟩ | ⟨rfl, rfl, rfl, rfl⟩ <;> rcases hd with ⟨h, rfl, rfl⟩ | ⟨h, rfl, rfl⟩ | ⟨h, rfl, rfl⟩ | ⟨h, rfl, rfl⟩ | ⟨h, rfl, rfl⟩ | ⟨h, rfl, rfl⟩ | ⟨h, rfl, rfl⟩ | ⟨h, rfl, rfl⟩ | ⟨h, rfl, rfl⟩ | ⟨h, rfl, rfl⟩ | ⟨h, rfl, rfl⟩ | ⟨h, rfl, rfl⟩ <;> first | (exfalso; revert h; decide) | skip
  · exact kx_1_2
  · exact kx_1_4
  · exact kx_2_2
  · exact kx_2_4
  · exact kx_5_2
  · exact kx_5_4
  · exact kx_6_2
  · exact kx_6_4
  · exact kx_0_2
  · exact kx_3_4
  · exact kx_4_2
  · exact kx_7_4
theorem kx_all {c a x n C y : Nat} (h : (ex_cW.getD c []).lookup a = some (x, n)) (h2 : ex_dsp x C = some y) : ex_PD c a x n C y := by
  have hm : (c, a, x, n) ∈ ex_cWall := ex_cWall_in h
  have hd : (x, C, y) ∈ ex_Dall := ex_Dall_in h2
  exact kx_pairs c a x n C y hm hd
