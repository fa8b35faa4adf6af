/-! the law: its words, its rows, its steps -/
def lx_W (idx y n : Nat) : Prop := ex_ar y n ∧ Jvm.Cond.instanceMethod (ex_Y y) ∈ ex_tb ∧ Jvm.Cond.selects (ex_Y y).cls (ex_Y y) (ex_Y y) ∈ ex_tb ∧ Jvm.Cond.methodLink "BorderThroughBedLaw" idx (ex_Y y) ∈ ex_tb
abbrev lx_G (pc k : Nat) : Prop := decode code pc = .ok (.aload_n 0, 1) ∧ decode code (pc + 1) = .ok (.iload_n 3, 1) ∧ decode code (pc + 2) = .ok (.iconst (k : Int), 1) ∧ decode code (pc + 3) = .ok (.iadd, 1) ∧ decode code (pc + 4) = .ok (.iaload, 1)
theorem lt_long : (Jvm.Cond.constantLong "BorderThroughBedLaw" 13 4294967295) ∈ ex_tb := ex_in (i := 1547) (by decide +kernel) (by decide +kernel)
theorem lt_1 : (Jvm.Cond.instanceMethod (ex_Y 99)) ∈ ex_tb := ex_in (i := 361) (by decide +kernel) (by decide +kernel)
theorem lt_2 : (Jvm.Cond.selects (ex_Y 99).cls (ex_Y 99) (ex_Y 99)) ∈ ex_tb := ex_in (i := 362) (by decide +kernel) (by decide +kernel)
theorem lt_3 : (Jvm.Cond.methodLink "BorderThroughBedLaw" 15 (ex_Y 99)) ∈ ex_tb := ex_in (i := 360) (by decide +kernel) (by decide +kernel)
theorem lw_c15 : lx_W 15 99 1 := ⟨by unfold ex_ar; decide +kernel, lt_1, lt_2, lt_3⟩
theorem lt_4 : (Jvm.Cond.instanceMethod (ex_Y 149)) ∈ ex_tb := ex_in (i := 1199) (by decide +kernel) (by decide +kernel)
theorem lt_5 : (Jvm.Cond.selects (ex_Y 149).cls (ex_Y 149) (ex_Y 149)) ∈ ex_tb := ex_in (i := 1200) (by decide +kernel) (by decide +kernel)
theorem lt_6 : (Jvm.Cond.methodLink "BorderThroughBedLaw" 19 (ex_Y 149)) ∈ ex_tb := ex_in (i := 1198) (by decide +kernel) (by decide +kernel)
theorem lw_c19 : lx_W 19 149 1 := ⟨by unfold ex_ar; decide +kernel, lt_4, lt_5, lt_6⟩
theorem lt_7 : (Jvm.Cond.instanceMethod (ex_Y 100)) ∈ ex_tb := ex_in (i := 379) (by decide +kernel) (by decide +kernel)
theorem lt_8 : (Jvm.Cond.selects (ex_Y 100).cls (ex_Y 100) (ex_Y 100)) ∈ ex_tb := ex_in (i := 380) (by decide +kernel) (by decide +kernel)
theorem lt_9 : (Jvm.Cond.methodLink "BorderThroughBedLaw" 20 (ex_Y 100)) ∈ ex_tb := ex_in (i := 378) (by decide +kernel) (by decide +kernel)
theorem lw_c20 : lx_W 20 100 0 := ⟨by unfold ex_ar; decide +kernel, lt_7, lt_8, lt_9⟩
theorem lt_10 : (Jvm.Cond.instanceMethod (ex_Y 150)) ∈ ex_tb := ex_in (i := 1204) (by decide +kernel) (by decide +kernel)
theorem lt_11 : (Jvm.Cond.selects (ex_Y 150).cls (ex_Y 150) (ex_Y 150)) ∈ ex_tb := ex_in (i := 1205) (by decide +kernel) (by decide +kernel)
theorem lt_12 : (Jvm.Cond.methodLink "BorderThroughBedLaw" 24 (ex_Y 150)) ∈ ex_tb := ex_in (i := 1203) (by decide +kernel) (by decide +kernel)
theorem lw_c24 : lx_W 24 150 0 := ⟨by unfold ex_ar; decide +kernel, lt_10, lt_11, lt_12⟩
theorem lt_13 : (Jvm.Cond.instanceMethod (ex_Y 101)) ∈ ex_tb := ex_in (i := 387) (by decide +kernel) (by decide +kernel)
theorem lt_14 : (Jvm.Cond.selects (ex_Y 101).cls (ex_Y 101) (ex_Y 101)) ∈ ex_tb := ex_in (i := 388) (by decide +kernel) (by decide +kernel)
theorem lt_15 : (Jvm.Cond.methodLink "BorderThroughBedLaw" 25 (ex_Y 101)) ∈ ex_tb := ex_in (i := 386) (by decide +kernel) (by decide +kernel)
theorem lw_c25 : lx_W 25 101 1 := ⟨by unfold ex_ar; decide +kernel, lt_13, lt_14, lt_15⟩
theorem lt_16 : (Jvm.Cond.instanceMethod (ex_Y 162)) ∈ ex_tb := ex_in (i := 1208) (by decide +kernel) (by decide +kernel)
theorem lt_17 : (Jvm.Cond.selects (ex_Y 162).cls (ex_Y 162) (ex_Y 162)) ∈ ex_tb := ex_in (i := 1209) (by decide +kernel) (by decide +kernel)
theorem lt_18 : (Jvm.Cond.methodLink "BorderThroughBedLaw" 29 (ex_Y 162)) ∈ ex_tb := ex_in (i := 1207) (by decide +kernel) (by decide +kernel)
theorem lw_c29 : lx_W 29 162 1 := ⟨by unfold ex_ar; decide +kernel, lt_16, lt_17, lt_18⟩
theorem lt_19 : (Jvm.Cond.instanceMethod (ex_Y 102)) ∈ ex_tb := ex_in (i := 466) (by decide +kernel) (by decide +kernel)
theorem lt_20 : (Jvm.Cond.selects (ex_Y 102).cls (ex_Y 102) (ex_Y 102)) ∈ ex_tb := ex_in (i := 467) (by decide +kernel) (by decide +kernel)
theorem lt_21 : (Jvm.Cond.methodLink "BorderThroughBedLaw" 30 (ex_Y 102)) ∈ ex_tb := ex_in (i := 465) (by decide +kernel) (by decide +kernel)
theorem lw_c30 : lx_W 30 102 0 := ⟨by unfold ex_ar; decide +kernel, lt_19, lt_20, lt_21⟩
theorem lt_22 : (Jvm.Cond.instanceMethod (ex_Y 163)) ∈ ex_tb := ex_in (i := 1257) (by decide +kernel) (by decide +kernel)
theorem lt_23 : (Jvm.Cond.selects (ex_Y 163).cls (ex_Y 163) (ex_Y 163)) ∈ ex_tb := ex_in (i := 1258) (by decide +kernel) (by decide +kernel)
theorem lt_24 : (Jvm.Cond.methodLink "BorderThroughBedLaw" 33 (ex_Y 163)) ∈ ex_tb := ex_in (i := 1256) (by decide +kernel) (by decide +kernel)
theorem lw_c33 : lx_W 33 163 0 := ⟨by unfold ex_ar; decide +kernel, lt_22, lt_23, lt_24⟩
theorem lt_25 : (Jvm.Cond.instanceMethod (ex_Y 103)) ∈ ex_tb := ex_in (i := 566) (by decide +kernel) (by decide +kernel)
theorem lt_26 : (Jvm.Cond.selects (ex_Y 103).cls (ex_Y 103) (ex_Y 103)) ∈ ex_tb := ex_in (i := 567) (by decide +kernel) (by decide +kernel)
theorem lt_27 : (Jvm.Cond.methodLink "BorderThroughBedLaw" 34 (ex_Y 103)) ∈ ex_tb := ex_in (i := 565) (by decide +kernel) (by decide +kernel)
theorem lw_c34 : lx_W 34 103 0 := ⟨by unfold ex_ar; decide +kernel, lt_25, lt_26, lt_27⟩
theorem lt_28 : (Jvm.Cond.instanceMethod (ex_Y 164)) ∈ ex_tb := ex_in (i := 1261) (by decide +kernel) (by decide +kernel)
theorem lt_29 : (Jvm.Cond.selects (ex_Y 164).cls (ex_Y 164) (ex_Y 164)) ∈ ex_tb := ex_in (i := 1262) (by decide +kernel) (by decide +kernel)
theorem lt_30 : (Jvm.Cond.methodLink "BorderThroughBedLaw" 37 (ex_Y 164)) ∈ ex_tb := ex_in (i := 1260) (by decide +kernel) (by decide +kernel)
theorem lw_c37 : lx_W 37 164 0 := ⟨by unfold ex_ar; decide +kernel, lt_28, lt_29, lt_30⟩
theorem lt_31 : (Jvm.Cond.instanceMethod (ex_Y 104)) ∈ ex_tb := ex_in (i := 599) (by decide +kernel) (by decide +kernel)
theorem lt_32 : (Jvm.Cond.selects (ex_Y 104).cls (ex_Y 104) (ex_Y 104)) ∈ ex_tb := ex_in (i := 600) (by decide +kernel) (by decide +kernel)
theorem lt_33 : (Jvm.Cond.methodLink "BorderThroughBedLaw" 38 (ex_Y 104)) ∈ ex_tb := ex_in (i := 598) (by decide +kernel) (by decide +kernel)
theorem lw_c38 : lx_W 38 104 2 := ⟨by unfold ex_ar; decide +kernel, lt_31, lt_32, lt_33⟩
theorem lt_34 : (Jvm.Cond.instanceMethod (ex_Y 167)) ∈ ex_tb := ex_in (i := 1265) (by decide +kernel) (by decide +kernel)
theorem lt_35 : (Jvm.Cond.selects (ex_Y 167).cls (ex_Y 167) (ex_Y 167)) ∈ ex_tb := ex_in (i := 1266) (by decide +kernel) (by decide +kernel)
theorem lt_36 : (Jvm.Cond.methodLink "BorderThroughBedLaw" 42 (ex_Y 167)) ∈ ex_tb := ex_in (i := 1264) (by decide +kernel) (by decide +kernel)
theorem lw_c42 : lx_W 42 167 2 := ⟨by unfold ex_ar; decide +kernel, lt_34, lt_35, lt_36⟩
theorem lt_37 : (Jvm.Cond.instanceMethod (ex_Y 105)) ∈ ex_tb := ex_in (i := 619) (by decide +kernel) (by decide +kernel)
theorem lt_38 : (Jvm.Cond.selects (ex_Y 105).cls (ex_Y 105) (ex_Y 105)) ∈ ex_tb := ex_in (i := 620) (by decide +kernel) (by decide +kernel)
theorem lt_39 : (Jvm.Cond.methodLink "BorderThroughBedLaw" 43 (ex_Y 105)) ∈ ex_tb := ex_in (i := 618) (by decide +kernel) (by decide +kernel)
theorem lw_c43 : lx_W 43 105 2 := ⟨by unfold ex_ar; decide +kernel, lt_37, lt_38, lt_39⟩
theorem lt_40 : (Jvm.Cond.instanceMethod (ex_Y 168)) ∈ ex_tb := ex_in (i := 1277) (by decide +kernel) (by decide +kernel)
theorem lt_41 : (Jvm.Cond.selects (ex_Y 168).cls (ex_Y 168) (ex_Y 168)) ∈ ex_tb := ex_in (i := 1278) (by decide +kernel) (by decide +kernel)
theorem lt_42 : (Jvm.Cond.methodLink "BorderThroughBedLaw" 46 (ex_Y 168)) ∈ ex_tb := ex_in (i := 1276) (by decide +kernel) (by decide +kernel)
theorem lw_c46 : lx_W 46 168 2 := ⟨by unfold ex_ar; decide +kernel, lt_40, lt_41, lt_42⟩
theorem lt_43 : (Jvm.Cond.instanceMethod (ex_Y 106)) ∈ ex_tb := ex_in (i := 626) (by decide +kernel) (by decide +kernel)
theorem lt_44 : (Jvm.Cond.selects (ex_Y 106).cls (ex_Y 106) (ex_Y 106)) ∈ ex_tb := ex_in (i := 627) (by decide +kernel) (by decide +kernel)
theorem lt_45 : (Jvm.Cond.methodLink "BorderThroughBedLaw" 47 (ex_Y 106)) ∈ ex_tb := ex_in (i := 625) (by decide +kernel) (by decide +kernel)
theorem lw_c47 : lx_W 47 106 2 := ⟨by unfold ex_ar; decide +kernel, lt_43, lt_44, lt_45⟩
theorem lt_46 : (Jvm.Cond.instanceMethod (ex_Y 180)) ∈ ex_tb := ex_in (i := 1281) (by decide +kernel) (by decide +kernel)
theorem lt_47 : (Jvm.Cond.selects (ex_Y 180).cls (ex_Y 180) (ex_Y 180)) ∈ ex_tb := ex_in (i := 1282) (by decide +kernel) (by decide +kernel)
theorem lt_48 : (Jvm.Cond.methodLink "BorderThroughBedLaw" 50 (ex_Y 180)) ∈ ex_tb := ex_in (i := 1280) (by decide +kernel) (by decide +kernel)
theorem lw_c50 : lx_W 50 180 2 := ⟨by unfold ex_ar; decide +kernel, lt_46, lt_47, lt_48⟩
theorem lt_49 : (Jvm.Cond.instanceMethod (ex_Y 107)) ∈ ex_tb := ex_in (i := 670) (by decide +kernel) (by decide +kernel)
theorem lt_50 : (Jvm.Cond.selects (ex_Y 107).cls (ex_Y 107) (ex_Y 107)) ∈ ex_tb := ex_in (i := 671) (by decide +kernel) (by decide +kernel)
theorem lt_51 : (Jvm.Cond.methodLink "BorderThroughBedLaw" 51 (ex_Y 107)) ∈ ex_tb := ex_in (i := 669) (by decide +kernel) (by decide +kernel)
theorem lw_c51 : lx_W 51 107 4 := ⟨by unfold ex_ar; decide +kernel, lt_49, lt_50, lt_51⟩
theorem lt_52 : (Jvm.Cond.instanceMethod (ex_Y 183)) ∈ ex_tb := ex_in (i := 1326) (by decide +kernel) (by decide +kernel)
theorem lt_53 : (Jvm.Cond.selects (ex_Y 183).cls (ex_Y 183) (ex_Y 183)) ∈ ex_tb := ex_in (i := 1327) (by decide +kernel) (by decide +kernel)
theorem lt_54 : (Jvm.Cond.methodLink "BorderThroughBedLaw" 55 (ex_Y 183)) ∈ ex_tb := ex_in (i := 1325) (by decide +kernel) (by decide +kernel)
theorem lw_c55 : lx_W 55 183 4 := ⟨by unfold ex_ar; decide +kernel, lt_52, lt_53, lt_54⟩
theorem lt_55 : (Jvm.Cond.instanceMethod (ex_Y 108)) ∈ ex_tb := ex_in (i := 679) (by decide +kernel) (by decide +kernel)
theorem lt_56 : (Jvm.Cond.selects (ex_Y 108).cls (ex_Y 108) (ex_Y 108)) ∈ ex_tb := ex_in (i := 680) (by decide +kernel) (by decide +kernel)
theorem lt_57 : (Jvm.Cond.methodLink "BorderThroughBedLaw" 56 (ex_Y 108)) ∈ ex_tb := ex_in (i := 678) (by decide +kernel) (by decide +kernel)
theorem lw_c56 : lx_W 56 108 5 := ⟨by unfold ex_ar; decide +kernel, lt_55, lt_56, lt_57⟩
theorem lt_58 : (Jvm.Cond.instanceMethod (ex_Y 188)) ∈ ex_tb := ex_in (i := 1341) (by decide +kernel) (by decide +kernel)
theorem lt_59 : (Jvm.Cond.selects (ex_Y 188).cls (ex_Y 188) (ex_Y 188)) ∈ ex_tb := ex_in (i := 1342) (by decide +kernel) (by decide +kernel)
theorem lt_60 : (Jvm.Cond.methodLink "BorderThroughBedLaw" 60 (ex_Y 188)) ∈ ex_tb := ex_in (i := 1340) (by decide +kernel) (by decide +kernel)
theorem lw_c60 : lx_W 60 188 5 := ⟨by unfold ex_ar; decide +kernel, lt_58, lt_59, lt_60⟩
theorem lt_61 : (Jvm.Cond.instanceMethod (ex_Y 109)) ∈ ex_tb := ex_in (i := 705) (by decide +kernel) (by decide +kernel)
theorem lt_62 : (Jvm.Cond.selects (ex_Y 109).cls (ex_Y 109) (ex_Y 109)) ∈ ex_tb := ex_in (i := 706) (by decide +kernel) (by decide +kernel)
theorem lt_63 : (Jvm.Cond.methodLink "BorderThroughBedLaw" 61 (ex_Y 109)) ∈ ex_tb := ex_in (i := 704) (by decide +kernel) (by decide +kernel)
theorem lw_c61 : lx_W 61 109 5 := ⟨by unfold ex_ar; decide +kernel, lt_61, lt_62, lt_63⟩
theorem lt_64 : (Jvm.Cond.instanceMethod (ex_Y 189)) ∈ ex_tb := ex_in (i := 1360) (by decide +kernel) (by decide +kernel)
theorem lt_65 : (Jvm.Cond.selects (ex_Y 189).cls (ex_Y 189) (ex_Y 189)) ∈ ex_tb := ex_in (i := 1361) (by decide +kernel) (by decide +kernel)
theorem lt_66 : (Jvm.Cond.methodLink "BorderThroughBedLaw" 64 (ex_Y 189)) ∈ ex_tb := ex_in (i := 1359) (by decide +kernel) (by decide +kernel)
theorem lw_c64 : lx_W 64 189 5 := ⟨by unfold ex_ar; decide +kernel, lt_64, lt_65, lt_66⟩
theorem lt_67 : (Jvm.Cond.instanceMethod (ex_Y 110)) ∈ ex_tb := ex_in (i := 711) (by decide +kernel) (by decide +kernel)
theorem lt_68 : (Jvm.Cond.selects (ex_Y 110).cls (ex_Y 110) (ex_Y 110)) ∈ ex_tb := ex_in (i := 712) (by decide +kernel) (by decide +kernel)
theorem lt_69 : (Jvm.Cond.methodLink "BorderThroughBedLaw" 65 (ex_Y 110)) ∈ ex_tb := ex_in (i := 710) (by decide +kernel) (by decide +kernel)
theorem lw_c65 : lx_W 65 110 1 := ⟨by unfold ex_ar; decide +kernel, lt_67, lt_68, lt_69⟩
theorem lt_70 : (Jvm.Cond.instanceMethod (ex_Y 192)) ∈ ex_tb := ex_in (i := 1364) (by decide +kernel) (by decide +kernel)
theorem lt_71 : (Jvm.Cond.selects (ex_Y 192).cls (ex_Y 192) (ex_Y 192)) ∈ ex_tb := ex_in (i := 1365) (by decide +kernel) (by decide +kernel)
theorem lt_72 : (Jvm.Cond.methodLink "BorderThroughBedLaw" 68 (ex_Y 192)) ∈ ex_tb := ex_in (i := 1363) (by decide +kernel) (by decide +kernel)
theorem lw_c68 : lx_W 68 192 1 := ⟨by unfold ex_ar; decide +kernel, lt_70, lt_71, lt_72⟩
theorem lt_73 : (Jvm.Cond.instanceMethod (ex_Y 111)) ∈ ex_tb := ex_in (i := 728) (by decide +kernel) (by decide +kernel)
theorem lt_74 : (Jvm.Cond.selects (ex_Y 111).cls (ex_Y 111) (ex_Y 111)) ∈ ex_tb := ex_in (i := 729) (by decide +kernel) (by decide +kernel)
theorem lt_75 : (Jvm.Cond.methodLink "BorderThroughBedLaw" 69 (ex_Y 111)) ∈ ex_tb := ex_in (i := 727) (by decide +kernel) (by decide +kernel)
theorem lw_c69 : lx_W 69 111 4 := ⟨by unfold ex_ar; decide +kernel, lt_73, lt_74, lt_75⟩
theorem lt_76 : (Jvm.Cond.instanceMethod (ex_Y 193)) ∈ ex_tb := ex_in (i := 1375) (by decide +kernel) (by decide +kernel)
theorem lt_77 : (Jvm.Cond.selects (ex_Y 193).cls (ex_Y 193) (ex_Y 193)) ∈ ex_tb := ex_in (i := 1376) (by decide +kernel) (by decide +kernel)
theorem lt_78 : (Jvm.Cond.methodLink "BorderThroughBedLaw" 72 (ex_Y 193)) ∈ ex_tb := ex_in (i := 1374) (by decide +kernel) (by decide +kernel)
theorem lw_c72 : lx_W 72 193 4 := ⟨by unfold ex_ar; decide +kernel, lt_76, lt_77, lt_78⟩
theorem lt_79 : (Jvm.Cond.instanceMethod (ex_Y 112)) ∈ ex_tb := ex_in (i := 740) (by decide +kernel) (by decide +kernel)
theorem lt_80 : (Jvm.Cond.selects (ex_Y 112).cls (ex_Y 112) (ex_Y 112)) ∈ ex_tb := ex_in (i := 741) (by decide +kernel) (by decide +kernel)
theorem lt_81 : (Jvm.Cond.methodLink "BorderThroughBedLaw" 73 (ex_Y 112)) ∈ ex_tb := ex_in (i := 739) (by decide +kernel) (by decide +kernel)
theorem lw_c73 : lx_W 73 112 3 := ⟨by unfold ex_ar; decide +kernel, lt_79, lt_80, lt_81⟩
theorem lt_82 : (Jvm.Cond.instanceMethod (ex_Y 200)) ∈ ex_tb := ex_in (i := 1379) (by decide +kernel) (by decide +kernel)
theorem lt_83 : (Jvm.Cond.selects (ex_Y 200).cls (ex_Y 200) (ex_Y 200)) ∈ ex_tb := ex_in (i := 1380) (by decide +kernel) (by decide +kernel)
theorem lt_84 : (Jvm.Cond.methodLink "BorderThroughBedLaw" 77 (ex_Y 200)) ∈ ex_tb := ex_in (i := 1378) (by decide +kernel) (by decide +kernel)
theorem lw_c77 : lx_W 77 200 3 := ⟨by unfold ex_ar; decide +kernel, lt_82, lt_83, lt_84⟩
theorem lt_85 : (Jvm.Cond.instanceMethod (ex_Y 113)) ∈ ex_tb := ex_in (i := 757) (by decide +kernel) (by decide +kernel)
theorem lt_86 : (Jvm.Cond.selects (ex_Y 113).cls (ex_Y 113) (ex_Y 113)) ∈ ex_tb := ex_in (i := 758) (by decide +kernel) (by decide +kernel)
theorem lt_87 : (Jvm.Cond.methodLink "BorderThroughBedLaw" 78 (ex_Y 113)) ∈ ex_tb := ex_in (i := 756) (by decide +kernel) (by decide +kernel)
theorem lw_c78 : lx_W 78 113 2 := ⟨by unfold ex_ar; decide +kernel, lt_85, lt_86, lt_87⟩
theorem lt_88 : (Jvm.Cond.instanceMethod (ex_Y 203)) ∈ ex_tb := ex_in (i := 1410) (by decide +kernel) (by decide +kernel)
theorem lt_89 : (Jvm.Cond.selects (ex_Y 203).cls (ex_Y 203) (ex_Y 203)) ∈ ex_tb := ex_in (i := 1411) (by decide +kernel) (by decide +kernel)
theorem lt_90 : (Jvm.Cond.methodLink "BorderThroughBedLaw" 81 (ex_Y 203)) ∈ ex_tb := ex_in (i := 1409) (by decide +kernel) (by decide +kernel)
theorem lw_c81 : lx_W 81 203 2 := ⟨by unfold ex_ar; decide +kernel, lt_88, lt_89, lt_90⟩
theorem lt_91 : (Jvm.Cond.instanceMethod (ex_Y 114)) ∈ ex_tb := ex_in (i := 765) (by decide +kernel) (by decide +kernel)
theorem lt_92 : (Jvm.Cond.selects (ex_Y 114).cls (ex_Y 114) (ex_Y 114)) ∈ ex_tb := ex_in (i := 766) (by decide +kernel) (by decide +kernel)
theorem lt_93 : (Jvm.Cond.methodLink "BorderThroughBedLaw" 82 (ex_Y 114)) ∈ ex_tb := ex_in (i := 764) (by decide +kernel) (by decide +kernel)
theorem lw_c82 : lx_W 82 114 2 := ⟨by unfold ex_ar; decide +kernel, lt_91, lt_92, lt_93⟩
theorem lt_94 : (Jvm.Cond.instanceMethod (ex_Y 205)) ∈ ex_tb := ex_in (i := 1418) (by decide +kernel) (by decide +kernel)
theorem lt_95 : (Jvm.Cond.selects (ex_Y 205).cls (ex_Y 205) (ex_Y 205)) ∈ ex_tb := ex_in (i := 1419) (by decide +kernel) (by decide +kernel)
theorem lt_96 : (Jvm.Cond.methodLink "BorderThroughBedLaw" 85 (ex_Y 205)) ∈ ex_tb := ex_in (i := 1417) (by decide +kernel) (by decide +kernel)
theorem lw_c85 : lx_W 85 205 2 := ⟨by unfold ex_ar; decide +kernel, lt_94, lt_95, lt_96⟩
theorem lt_97 : (Jvm.Cond.instanceMethod (ex_Y 115)) ∈ ex_tb := ex_in (i := 780) (by decide +kernel) (by decide +kernel)
theorem lt_98 : (Jvm.Cond.selects (ex_Y 115).cls (ex_Y 115) (ex_Y 115)) ∈ ex_tb := ex_in (i := 781) (by decide +kernel) (by decide +kernel)
theorem lt_99 : (Jvm.Cond.methodLink "BorderThroughBedLaw" 86 (ex_Y 115)) ∈ ex_tb := ex_in (i := 779) (by decide +kernel) (by decide +kernel)
theorem lw_c86 : lx_W 86 115 3 := ⟨by unfold ex_ar; decide +kernel, lt_97, lt_98, lt_99⟩
theorem lt_100 : (Jvm.Cond.instanceMethod (ex_Y 206)) ∈ ex_tb := ex_in (i := 1426) (by decide +kernel) (by decide +kernel)
theorem lt_101 : (Jvm.Cond.selects (ex_Y 206).cls (ex_Y 206) (ex_Y 206)) ∈ ex_tb := ex_in (i := 1427) (by decide +kernel) (by decide +kernel)
theorem lt_102 : (Jvm.Cond.methodLink "BorderThroughBedLaw" 89 (ex_Y 206)) ∈ ex_tb := ex_in (i := 1425) (by decide +kernel) (by decide +kernel)
theorem lw_c89 : lx_W 89 206 3 := ⟨by unfold ex_ar; decide +kernel, lt_100, lt_101, lt_102⟩
theorem lt_103 : (Jvm.Cond.instanceMethod (ex_Y 116)) ∈ ex_tb := ex_in (i := 790) (by decide +kernel) (by decide +kernel)
theorem lt_104 : (Jvm.Cond.selects (ex_Y 116).cls (ex_Y 116) (ex_Y 116)) ∈ ex_tb := ex_in (i := 791) (by decide +kernel) (by decide +kernel)
theorem lt_105 : (Jvm.Cond.methodLink "BorderThroughBedLaw" 90 (ex_Y 116)) ∈ ex_tb := ex_in (i := 789) (by decide +kernel) (by decide +kernel)
theorem lw_c90 : lx_W 90 116 2 := ⟨by unfold ex_ar; decide +kernel, lt_103, lt_104, lt_105⟩
theorem lt_106 : (Jvm.Cond.instanceMethod (ex_Y 207)) ∈ ex_tb := ex_in (i := 1430) (by decide +kernel) (by decide +kernel)
theorem lt_107 : (Jvm.Cond.selects (ex_Y 207).cls (ex_Y 207) (ex_Y 207)) ∈ ex_tb := ex_in (i := 1431) (by decide +kernel) (by decide +kernel)
theorem lt_108 : (Jvm.Cond.methodLink "BorderThroughBedLaw" 93 (ex_Y 207)) ∈ ex_tb := ex_in (i := 1429) (by decide +kernel) (by decide +kernel)
theorem lw_c93 : lx_W 93 207 2 := ⟨by unfold ex_ar; decide +kernel, lt_106, lt_107, lt_108⟩
theorem lt_109 : (Jvm.Cond.instanceMethod (ex_Y 117)) ∈ ex_tb := ex_in (i := 794) (by decide +kernel) (by decide +kernel)
theorem lt_110 : (Jvm.Cond.selects (ex_Y 117).cls (ex_Y 117) (ex_Y 117)) ∈ ex_tb := ex_in (i := 795) (by decide +kernel) (by decide +kernel)
theorem lt_111 : (Jvm.Cond.methodLink "BorderThroughBedLaw" 94 (ex_Y 117)) ∈ ex_tb := ex_in (i := 793) (by decide +kernel) (by decide +kernel)
theorem lw_c94 : lx_W 94 117 0 := ⟨by unfold ex_ar; decide +kernel, lt_109, lt_110, lt_111⟩
theorem lt_112 : (Jvm.Cond.instanceMethod (ex_Y 213)) ∈ ex_tb := ex_in (i := 1434) (by decide +kernel) (by decide +kernel)
theorem lt_113 : (Jvm.Cond.selects (ex_Y 213).cls (ex_Y 213) (ex_Y 213)) ∈ ex_tb := ex_in (i := 1435) (by decide +kernel) (by decide +kernel)
theorem lt_114 : (Jvm.Cond.methodLink "BorderThroughBedLaw" 97 (ex_Y 213)) ∈ ex_tb := ex_in (i := 1433) (by decide +kernel) (by decide +kernel)
theorem lw_c97 : lx_W 97 213 0 := ⟨by unfold ex_ar; decide +kernel, lt_112, lt_113, lt_114⟩
theorem lt_115 : (Jvm.Cond.instanceMethod (ex_Y 118)) ∈ ex_tb := ex_in (i := 870) (by decide +kernel) (by decide +kernel)
theorem lt_116 : (Jvm.Cond.selects (ex_Y 118).cls (ex_Y 118) (ex_Y 118)) ∈ ex_tb := ex_in (i := 871) (by decide +kernel) (by decide +kernel)
theorem lt_117 : (Jvm.Cond.methodLink "BorderThroughBedLaw" 98 (ex_Y 118)) ∈ ex_tb := ex_in (i := 869) (by decide +kernel) (by decide +kernel)
theorem lw_c98 : lx_W 98 118 1 := ⟨by unfold ex_ar; decide +kernel, lt_115, lt_116, lt_117⟩
theorem lt_118 : (Jvm.Cond.instanceMethod (ex_Y 220)) ∈ ex_tb := ex_in (i := 1458) (by decide +kernel) (by decide +kernel)
theorem lt_119 : (Jvm.Cond.selects (ex_Y 220).cls (ex_Y 220) (ex_Y 220)) ∈ ex_tb := ex_in (i := 1459) (by decide +kernel) (by decide +kernel)
theorem lt_120 : (Jvm.Cond.methodLink "BorderThroughBedLaw" 101 (ex_Y 220)) ∈ ex_tb := ex_in (i := 1457) (by decide +kernel) (by decide +kernel)
theorem lw_c101 : lx_W 101 220 1 := ⟨by unfold ex_ar; decide +kernel, lt_118, lt_119, lt_120⟩
theorem lt_121 : (Jvm.Cond.instanceMethod (ex_Y 119)) ∈ ex_tb := ex_in (i := 919) (by decide +kernel) (by decide +kernel)
theorem lt_122 : (Jvm.Cond.selects (ex_Y 119).cls (ex_Y 119) (ex_Y 119)) ∈ ex_tb := ex_in (i := 920) (by decide +kernel) (by decide +kernel)
theorem lt_123 : (Jvm.Cond.methodLink "BorderThroughBedLaw" 102 (ex_Y 119)) ∈ ex_tb := ex_in (i := 918) (by decide +kernel) (by decide +kernel)
theorem lw_c102 : lx_W 102 119 2 := ⟨by unfold ex_ar; decide +kernel, lt_121, lt_122, lt_123⟩
theorem lt_124 : (Jvm.Cond.instanceMethod (ex_Y 221)) ∈ ex_tb := ex_in (i := 1486) (by decide +kernel) (by decide +kernel)
theorem lt_125 : (Jvm.Cond.selects (ex_Y 221).cls (ex_Y 221) (ex_Y 221)) ∈ ex_tb := ex_in (i := 1487) (by decide +kernel) (by decide +kernel)
theorem lt_126 : (Jvm.Cond.methodLink "BorderThroughBedLaw" 105 (ex_Y 221)) ∈ ex_tb := ex_in (i := 1485) (by decide +kernel) (by decide +kernel)
theorem lw_c105 : lx_W 105 221 2 := ⟨by unfold ex_ar; decide +kernel, lt_124, lt_125, lt_126⟩
theorem lt_127 : (Jvm.Cond.instanceMethod (ex_Y 120)) ∈ ex_tb := ex_in (i := 927) (by decide +kernel) (by decide +kernel)
theorem lt_128 : (Jvm.Cond.selects (ex_Y 120).cls (ex_Y 120) (ex_Y 120)) ∈ ex_tb := ex_in (i := 928) (by decide +kernel) (by decide +kernel)
theorem lt_129 : (Jvm.Cond.methodLink "BorderThroughBedLaw" 106 (ex_Y 120)) ∈ ex_tb := ex_in (i := 926) (by decide +kernel) (by decide +kernel)
theorem lw_c106 : lx_W 106 120 3 := ⟨by unfold ex_ar; decide +kernel, lt_127, lt_128, lt_129⟩
theorem lt_130 : (Jvm.Cond.instanceMethod (ex_Y 222)) ∈ ex_tb := ex_in (i := 1490) (by decide +kernel) (by decide +kernel)
theorem lt_131 : (Jvm.Cond.selects (ex_Y 222).cls (ex_Y 222) (ex_Y 222)) ∈ ex_tb := ex_in (i := 1491) (by decide +kernel) (by decide +kernel)
theorem lt_132 : (Jvm.Cond.methodLink "BorderThroughBedLaw" 109 (ex_Y 222)) ∈ ex_tb := ex_in (i := 1489) (by decide +kernel) (by decide +kernel)
theorem lw_c109 : lx_W 109 222 3 := ⟨by unfold ex_ar; decide +kernel, lt_130, lt_131, lt_132⟩
theorem lt_133 : (Jvm.Cond.instanceMethod (ex_Y 121)) ∈ ex_tb := ex_in (i := 931) (by decide +kernel) (by decide +kernel)
theorem lt_134 : (Jvm.Cond.selects (ex_Y 121).cls (ex_Y 121) (ex_Y 121)) ∈ ex_tb := ex_in (i := 932) (by decide +kernel) (by decide +kernel)
theorem lt_135 : (Jvm.Cond.methodLink "BorderThroughBedLaw" 110 (ex_Y 121)) ∈ ex_tb := ex_in (i := 930) (by decide +kernel) (by decide +kernel)
theorem lw_c110 : lx_W 110 121 2 := ⟨by unfold ex_ar; decide +kernel, lt_133, lt_134, lt_135⟩
theorem lt_136 : (Jvm.Cond.instanceMethod (ex_Y 223)) ∈ ex_tb := ex_in (i := 1494) (by decide +kernel) (by decide +kernel)
theorem lt_137 : (Jvm.Cond.selects (ex_Y 223).cls (ex_Y 223) (ex_Y 223)) ∈ ex_tb := ex_in (i := 1495) (by decide +kernel) (by decide +kernel)
theorem lt_138 : (Jvm.Cond.methodLink "BorderThroughBedLaw" 113 (ex_Y 223)) ∈ ex_tb := ex_in (i := 1493) (by decide +kernel) (by decide +kernel)
theorem lw_c113 : lx_W 113 223 2 := ⟨by unfold ex_ar; decide +kernel, lt_136, lt_137, lt_138⟩
theorem lt_139 : (Jvm.Cond.instanceMethod (ex_Y 122)) ∈ ex_tb := ex_in (i := 936) (by decide +kernel) (by decide +kernel)
theorem lt_140 : (Jvm.Cond.selects (ex_Y 122).cls (ex_Y 122) (ex_Y 122)) ∈ ex_tb := ex_in (i := 937) (by decide +kernel) (by decide +kernel)
theorem lt_141 : (Jvm.Cond.methodLink "BorderThroughBedLaw" 114 (ex_Y 122)) ∈ ex_tb := ex_in (i := 935) (by decide +kernel) (by decide +kernel)
theorem lw_c114 : lx_W 114 122 5 := ⟨by unfold ex_ar; decide +kernel, lt_139, lt_140, lt_141⟩
theorem lt_142 : (Jvm.Cond.instanceMethod (ex_Y 224)) ∈ ex_tb := ex_in (i := 1498) (by decide +kernel) (by decide +kernel)
theorem lt_143 : (Jvm.Cond.selects (ex_Y 224).cls (ex_Y 224) (ex_Y 224)) ∈ ex_tb := ex_in (i := 1499) (by decide +kernel) (by decide +kernel)
theorem lt_144 : (Jvm.Cond.methodLink "BorderThroughBedLaw" 117 (ex_Y 224)) ∈ ex_tb := ex_in (i := 1497) (by decide +kernel) (by decide +kernel)
theorem lw_c117 : lx_W 117 224 5 := ⟨by unfold ex_ar; decide +kernel, lt_142, lt_143, lt_144⟩
theorem lt_145 : (Jvm.Cond.instanceMethod (ex_Y 123)) ∈ ex_tb := ex_in (i := 946) (by decide +kernel) (by decide +kernel)
theorem lt_146 : (Jvm.Cond.selects (ex_Y 123).cls (ex_Y 123) (ex_Y 123)) ∈ ex_tb := ex_in (i := 947) (by decide +kernel) (by decide +kernel)
theorem lt_147 : (Jvm.Cond.methodLink "BorderThroughBedLaw" 118 (ex_Y 123)) ∈ ex_tb := ex_in (i := 945) (by decide +kernel) (by decide +kernel)
theorem lw_c118 : lx_W 118 123 1 := ⟨by unfold ex_ar; decide +kernel, lt_145, lt_146, lt_147⟩
theorem lt_148 : (Jvm.Cond.instanceMethod (ex_Y 225)) ∈ ex_tb := ex_in (i := 1502) (by decide +kernel) (by decide +kernel)
theorem lt_149 : (Jvm.Cond.selects (ex_Y 225).cls (ex_Y 225) (ex_Y 225)) ∈ ex_tb := ex_in (i := 1503) (by decide +kernel) (by decide +kernel)
theorem lt_150 : (Jvm.Cond.methodLink "BorderThroughBedLaw" 121 (ex_Y 225)) ∈ ex_tb := ex_in (i := 1501) (by decide +kernel) (by decide +kernel)
theorem lw_c121 : lx_W 121 225 1 := ⟨by unfold ex_ar; decide +kernel, lt_148, lt_149, lt_150⟩
theorem lt_151 : (Jvm.Cond.instanceMethod (ex_Y 124)) ∈ ex_tb := ex_in (i := 950) (by decide +kernel) (by decide +kernel)
theorem lt_152 : (Jvm.Cond.selects (ex_Y 124).cls (ex_Y 124) (ex_Y 124)) ∈ ex_tb := ex_in (i := 951) (by decide +kernel) (by decide +kernel)
theorem lt_153 : (Jvm.Cond.methodLink "BorderThroughBedLaw" 122 (ex_Y 124)) ∈ ex_tb := ex_in (i := 949) (by decide +kernel) (by decide +kernel)
theorem lw_c122 : lx_W 122 124 2 := ⟨by unfold ex_ar; decide +kernel, lt_151, lt_152, lt_153⟩
theorem lt_154 : (Jvm.Cond.instanceMethod (ex_Y 226)) ∈ ex_tb := ex_in (i := 1506) (by decide +kernel) (by decide +kernel)
theorem lt_155 : (Jvm.Cond.selects (ex_Y 226).cls (ex_Y 226) (ex_Y 226)) ∈ ex_tb := ex_in (i := 1507) (by decide +kernel) (by decide +kernel)
theorem lt_156 : (Jvm.Cond.methodLink "BorderThroughBedLaw" 125 (ex_Y 226)) ∈ ex_tb := ex_in (i := 1505) (by decide +kernel) (by decide +kernel)
theorem lw_c125 : lx_W 125 226 2 := ⟨by unfold ex_ar; decide +kernel, lt_154, lt_155, lt_156⟩
theorem lt_157 : (Jvm.Cond.instanceMethod (ex_Y 125)) ∈ ex_tb := ex_in (i := 954) (by decide +kernel) (by decide +kernel)
theorem lt_158 : (Jvm.Cond.selects (ex_Y 125).cls (ex_Y 125) (ex_Y 125)) ∈ ex_tb := ex_in (i := 955) (by decide +kernel) (by decide +kernel)
theorem lt_159 : (Jvm.Cond.methodLink "BorderThroughBedLaw" 126 (ex_Y 125)) ∈ ex_tb := ex_in (i := 953) (by decide +kernel) (by decide +kernel)
theorem lw_c126 : lx_W 126 125 0 := ⟨by unfold ex_ar; decide +kernel, lt_157, lt_158, lt_159⟩
theorem lt_160 : (Jvm.Cond.instanceMethod (ex_Y 228)) ∈ ex_tb := ex_in (i := 1510) (by decide +kernel) (by decide +kernel)
theorem lt_161 : (Jvm.Cond.selects (ex_Y 228).cls (ex_Y 228) (ex_Y 228)) ∈ ex_tb := ex_in (i := 1511) (by decide +kernel) (by decide +kernel)
theorem lt_162 : (Jvm.Cond.methodLink "BorderThroughBedLaw" 129 (ex_Y 228)) ∈ ex_tb := ex_in (i := 1509) (by decide +kernel) (by decide +kernel)
theorem lw_c129 : lx_W 129 228 0 := ⟨by unfold ex_ar; decide +kernel, lt_160, lt_161, lt_162⟩
theorem lt_163 : (Jvm.Cond.instanceMethod (ex_Y 126)) ∈ ex_tb := ex_in (i := 966) (by decide +kernel) (by decide +kernel)
theorem lt_164 : (Jvm.Cond.selects (ex_Y 126).cls (ex_Y 126) (ex_Y 126)) ∈ ex_tb := ex_in (i := 967) (by decide +kernel) (by decide +kernel)
theorem lt_165 : (Jvm.Cond.methodLink "BorderThroughBedLaw" 130 (ex_Y 126)) ∈ ex_tb := ex_in (i := 965) (by decide +kernel) (by decide +kernel)
theorem lw_c130 : lx_W 130 126 0 := ⟨by unfold ex_ar; decide +kernel, lt_163, lt_164, lt_165⟩
theorem lt_166 : (Jvm.Cond.instanceMethod (ex_Y 229)) ∈ ex_tb := ex_in (i := 1518) (by decide +kernel) (by decide +kernel)
theorem lt_167 : (Jvm.Cond.selects (ex_Y 229).cls (ex_Y 229) (ex_Y 229)) ∈ ex_tb := ex_in (i := 1519) (by decide +kernel) (by decide +kernel)
theorem lt_168 : (Jvm.Cond.methodLink "BorderThroughBedLaw" 133 (ex_Y 229)) ∈ ex_tb := ex_in (i := 1517) (by decide +kernel) (by decide +kernel)
theorem lw_c133 : lx_W 133 229 0 := ⟨by unfold ex_ar; decide +kernel, lt_166, lt_167, lt_168⟩
theorem lt_169 : (Jvm.Cond.instanceMethod (ex_Y 127)) ∈ ex_tb := ex_in (i := 981) (by decide +kernel) (by decide +kernel)
theorem lt_170 : (Jvm.Cond.selects (ex_Y 127).cls (ex_Y 127) (ex_Y 127)) ∈ ex_tb := ex_in (i := 982) (by decide +kernel) (by decide +kernel)
theorem lt_171 : (Jvm.Cond.methodLink "BorderThroughBedLaw" 134 (ex_Y 127)) ∈ ex_tb := ex_in (i := 980) (by decide +kernel) (by decide +kernel)
theorem lw_c134 : lx_W 134 127 0 := ⟨by unfold ex_ar; decide +kernel, lt_169, lt_170, lt_171⟩
theorem lt_172 : (Jvm.Cond.instanceMethod (ex_Y 230)) ∈ ex_tb := ex_in (i := 1522) (by decide +kernel) (by decide +kernel)
theorem lt_173 : (Jvm.Cond.selects (ex_Y 230).cls (ex_Y 230) (ex_Y 230)) ∈ ex_tb := ex_in (i := 1523) (by decide +kernel) (by decide +kernel)
theorem lt_174 : (Jvm.Cond.methodLink "BorderThroughBedLaw" 137 (ex_Y 230)) ∈ ex_tb := ex_in (i := 1521) (by decide +kernel) (by decide +kernel)
theorem lw_c137 : lx_W 137 230 0 := ⟨by unfold ex_ar; decide +kernel, lt_172, lt_173, lt_174⟩
theorem lt_175 : (Jvm.Cond.instanceMethod (ex_Y 128)) ∈ ex_tb := ex_in (i := 985) (by decide +kernel) (by decide +kernel)
theorem lt_176 : (Jvm.Cond.selects (ex_Y 128).cls (ex_Y 128) (ex_Y 128)) ∈ ex_tb := ex_in (i := 986) (by decide +kernel) (by decide +kernel)
theorem lt_177 : (Jvm.Cond.methodLink "BorderThroughBedLaw" 138 (ex_Y 128)) ∈ ex_tb := ex_in (i := 984) (by decide +kernel) (by decide +kernel)
theorem lw_c138 : lx_W 138 128 1 := ⟨by unfold ex_ar; decide +kernel, lt_175, lt_176, lt_177⟩
theorem lt_178 : (Jvm.Cond.instanceMethod (ex_Y 232)) ∈ ex_tb := ex_in (i := 1526) (by decide +kernel) (by decide +kernel)
theorem lt_179 : (Jvm.Cond.selects (ex_Y 232).cls (ex_Y 232) (ex_Y 232)) ∈ ex_tb := ex_in (i := 1527) (by decide +kernel) (by decide +kernel)
theorem lt_180 : (Jvm.Cond.methodLink "BorderThroughBedLaw" 141 (ex_Y 232)) ∈ ex_tb := ex_in (i := 1525) (by decide +kernel) (by decide +kernel)
theorem lw_c141 : lx_W 141 232 1 := ⟨by unfold ex_ar; decide +kernel, lt_178, lt_179, lt_180⟩
theorem lt_181 : (Jvm.Cond.instanceMethod (ex_Y 129)) ∈ ex_tb := ex_in (i := 989) (by decide +kernel) (by decide +kernel)
theorem lt_182 : (Jvm.Cond.selects (ex_Y 129).cls (ex_Y 129) (ex_Y 129)) ∈ ex_tb := ex_in (i := 990) (by decide +kernel) (by decide +kernel)
theorem lt_183 : (Jvm.Cond.methodLink "BorderThroughBedLaw" 142 (ex_Y 129)) ∈ ex_tb := ex_in (i := 988) (by decide +kernel) (by decide +kernel)
theorem lw_c142 : lx_W 142 129 0 := ⟨by unfold ex_ar; decide +kernel, lt_181, lt_182, lt_183⟩
theorem lt_184 : (Jvm.Cond.instanceMethod (ex_Y 235)) ∈ ex_tb := ex_in (i := 1534) (by decide +kernel) (by decide +kernel)
theorem lt_185 : (Jvm.Cond.selects (ex_Y 235).cls (ex_Y 235) (ex_Y 235)) ∈ ex_tb := ex_in (i := 1535) (by decide +kernel) (by decide +kernel)
theorem lt_186 : (Jvm.Cond.methodLink "BorderThroughBedLaw" 146 (ex_Y 235)) ∈ ex_tb := ex_in (i := 1533) (by decide +kernel) (by decide +kernel)
theorem lw_c146 : lx_W 146 235 0 := ⟨by unfold ex_ar; decide +kernel, lt_184, lt_185, lt_186⟩
theorem dl_0 : decode code 0 = .ok (.new 7, 3) := by decide +kernel
theorem dl_3 : decode code 3 = .ok (.dup, 1) := by decide +kernel
theorem dl_4 : decode code 4 = .ok (.invokespecial 9, 3) := by decide +kernel
theorem dl_7 : decode code 7 = .ok (.astore_n 1, 1) := by decide +kernel
theorem dl_8 : decode code 8 = .ok (.new 10, 3) := by decide +kernel
theorem dl_11 : decode code 11 = .ok (.dup, 1) := by decide +kernel
theorem dl_12 : decode code 12 = .ok (.invokespecial 12, 3) := by decide +kernel
theorem dl_15 : decode code 15 = .ok (.astore_n 2, 1) := by decide +kernel
theorem dl_16 : decode code 16 = .ok (.iconst 0, 1) := by decide +kernel
theorem dl_17 : decode code 17 = .ok (.istore_n 3, 1) := by decide +kernel
theorem dl_18 : decode code 18 = .ok (.iload_n 3, 1) := by decide +kernel
theorem dl_19 : decode code 19 = .ok (.aload_n 0, 1) := by decide +kernel
theorem dl_20 : decode code 20 = .ok (.arraylength, 1) := by decide +kernel
theorem dl_21 : decode code 21 = .ok (.bipush 6, 2) := by decide +kernel
theorem dl_23 : decode code 23 = .ok (.isub, 1) := by decide +kernel
theorem dl_24 : decode code 24 = .ok (.if_icmp .gt 1148, 3) := by decide +kernel
theorem dl_27 : decode code 27 = .ok (.aload_n 0, 1) := by decide +kernel
theorem dl_28 : decode code 28 = .ok (.iload_n 3, 1) := by decide +kernel
theorem dl_29 : decode code 29 = .ok (.iaload, 1) := by decide +kernel
theorem dl_30 : decode code 30 = .ok (.bipush 31, 2) := by decide +kernel
theorem dl_32 : decode code 32 = .ok (.iand, 1) := by decide +kernel
theorem dl_33 : decode code 33 = .ok (.tableswitch 1133 0 30 #[139, 192, 205, 228, 241, 254, 287, 320, 353, 406, 469, 532, 555, 608, 651, 684, 717, 760, 793, 806, 829, 862, 905, 938, 1001, 1024, 1057, 1070, 1083, 1096, 1119], 139) := by decide +kernel
theorem dl_172 : decode code 172 = .ok (.aload_n 1, 1) := by decide +kernel
theorem dl_178 : decode code 178 = .ok (.i2l, 1) := by decide +kernel
theorem dl_179 : decode code 179 = .ok (.bipush 32, 2) := by decide +kernel
theorem dl_181 : decode code 181 = .ok (.lshl, 1) := by decide +kernel
theorem dl_187 : decode code 187 = .ok (.i2l, 1) := by decide +kernel
theorem dl_188 : decode code 188 = .ok (.ldc2_w 13, 3) := by decide +kernel
theorem dl_191 : decode code 191 = .ok (.land, 1) := by decide +kernel
theorem dl_192 : decode code 192 = .ok (.lor, 1) := by decide +kernel
theorem dl_193 : decode code 193 = .ok (.invokevirtual 15, 3) := by decide +kernel
theorem dl_196 : decode code 196 = .ok (.aload_n 2, 1) := by decide +kernel
theorem dl_202 : decode code 202 = .ok (.i2l, 1) := by decide +kernel
theorem dl_203 : decode code 203 = .ok (.bipush 32, 2) := by decide +kernel
theorem dl_205 : decode code 205 = .ok (.lshl, 1) := by decide +kernel
theorem dl_211 : decode code 211 = .ok (.i2l, 1) := by decide +kernel
theorem dl_212 : decode code 212 = .ok (.ldc2_w 13, 3) := by decide +kernel
theorem dl_215 : decode code 215 = .ok (.land, 1) := by decide +kernel
theorem dl_216 : decode code 216 = .ok (.lor, 1) := by decide +kernel
theorem dl_217 : decode code 217 = .ok (.invokevirtual 19, 3) := by decide +kernel
theorem dl_220 : decode code 220 = .ok (.if_icmp .eq 946, 3) := by decide +kernel
theorem dl_225 : decode code 225 = .ok (.aload_n 1, 1) := by decide +kernel
theorem dl_226 : decode code 226 = .ok (.invokevirtual 20, 3) := by decide +kernel
theorem dl_229 : decode code 229 = .ok (.aload_n 2, 1) := by decide +kernel
theorem dl_230 : decode code 230 = .ok (.invokevirtual 24, 3) := by decide +kernel
theorem dl_233 : decode code 233 = .ok (.if_icmp .eq 933, 3) := by decide +kernel
theorem dl_238 : decode code 238 = .ok (.aload_n 1, 1) := by decide +kernel
theorem dl_244 : decode code 244 = .ok (.invokevirtual 25, 3) := by decide +kernel
theorem dl_247 : decode code 247 = .ok (.aload_n 2, 1) := by decide +kernel
theorem dl_253 : decode code 253 = .ok (.invokevirtual 29, 3) := by decide +kernel
theorem dl_256 : decode code 256 = .ok (.if_icmp .eq 910, 3) := by decide +kernel
theorem dl_261 : decode code 261 = .ok (.aload_n 1, 1) := by decide +kernel
theorem dl_262 : decode code 262 = .ok (.invokevirtual 30, 3) := by decide +kernel
theorem dl_265 : decode code 265 = .ok (.aload_n 2, 1) := by decide +kernel
theorem dl_266 : decode code 266 = .ok (.invokevirtual 33, 3) := by decide +kernel
theorem dl_269 : decode code 269 = .ok (.if_icmp .eq 897, 3) := by decide +kernel
theorem dl_274 : decode code 274 = .ok (.aload_n 1, 1) := by decide +kernel
theorem dl_275 : decode code 275 = .ok (.invokevirtual 34, 3) := by decide +kernel
theorem dl_278 : decode code 278 = .ok (.aload_n 2, 1) := by decide +kernel
theorem dl_279 : decode code 279 = .ok (.invokevirtual 37, 3) := by decide +kernel
theorem dl_282 : decode code 282 = .ok (.if_icmp .eq 884, 3) := by decide +kernel
theorem dl_287 : decode code 287 = .ok (.aload_n 1, 1) := by decide +kernel
theorem dl_298 : decode code 298 = .ok (.invokevirtual 38, 3) := by decide +kernel
theorem dl_301 : decode code 301 = .ok (.aload_n 2, 1) := by decide +kernel
theorem dl_312 : decode code 312 = .ok (.invokevirtual 42, 3) := by decide +kernel
theorem dl_315 : decode code 315 = .ok (.if_icmp .eq 851, 3) := by decide +kernel
theorem dl_320 : decode code 320 = .ok (.aload_n 1, 1) := by decide +kernel
theorem dl_331 : decode code 331 = .ok (.invokevirtual 43, 3) := by decide +kernel
theorem dl_334 : decode code 334 = .ok (.aload_n 2, 1) := by decide +kernel
theorem dl_345 : decode code 345 = .ok (.invokevirtual 46, 3) := by decide +kernel
theorem dl_348 : decode code 348 = .ok (.if_icmp .eq 818, 3) := by decide +kernel
theorem dl_353 : decode code 353 = .ok (.aload_n 1, 1) := by decide +kernel
theorem dl_364 : decode code 364 = .ok (.invokevirtual 47, 3) := by decide +kernel
theorem dl_367 : decode code 367 = .ok (.aload_n 2, 1) := by decide +kernel
theorem dl_378 : decode code 378 = .ok (.invokevirtual 50, 3) := by decide +kernel
theorem dl_381 : decode code 381 = .ok (.if_icmp .eq 785, 3) := by decide +kernel
theorem dl_386 : decode code 386 = .ok (.aload_n 1, 1) := by decide +kernel
theorem dl_407 : decode code 407 = .ok (.invokevirtual 51, 3) := by decide +kernel
theorem dl_410 : decode code 410 = .ok (.aload_n 2, 1) := by decide +kernel
theorem dl_431 : decode code 431 = .ok (.invokevirtual 55, 3) := by decide +kernel
theorem dl_434 : decode code 434 = .ok (.if_icmp .eq 732, 3) := by decide +kernel
theorem dl_439 : decode code 439 = .ok (.aload_n 1, 1) := by decide +kernel
theorem dl_465 : decode code 465 = .ok (.invokevirtual 56, 3) := by decide +kernel
theorem dl_468 : decode code 468 = .ok (.aload_n 2, 1) := by decide +kernel
theorem dl_494 : decode code 494 = .ok (.invokevirtual 60, 3) := by decide +kernel
theorem dl_497 : decode code 497 = .ok (.if_icmp .eq 669, 3) := by decide +kernel
theorem dl_502 : decode code 502 = .ok (.aload_n 1, 1) := by decide +kernel
theorem dl_528 : decode code 528 = .ok (.invokevirtual 61, 3) := by decide +kernel
theorem dl_531 : decode code 531 = .ok (.aload_n 2, 1) := by decide +kernel
theorem dl_557 : decode code 557 = .ok (.invokevirtual 64, 3) := by decide +kernel
theorem dl_560 : decode code 560 = .ok (.if_icmp .eq 606, 3) := by decide +kernel
theorem dl_565 : decode code 565 = .ok (.aload_n 1, 1) := by decide +kernel
theorem dl_571 : decode code 571 = .ok (.invokevirtual 65, 3) := by decide +kernel
theorem dl_574 : decode code 574 = .ok (.aload_n 2, 1) := by decide +kernel
theorem dl_580 : decode code 580 = .ok (.invokevirtual 68, 3) := by decide +kernel
theorem dl_583 : decode code 583 = .ok (.if_icmp .eq 583, 3) := by decide +kernel
theorem dl_588 : decode code 588 = .ok (.aload_n 1, 1) := by decide +kernel
theorem dl_609 : decode code 609 = .ok (.invokevirtual 69, 3) := by decide +kernel
theorem dl_612 : decode code 612 = .ok (.aload_n 2, 1) := by decide +kernel
theorem dl_633 : decode code 633 = .ok (.invokevirtual 72, 3) := by decide +kernel
theorem dl_636 : decode code 636 = .ok (.if_icmp .eq 530, 3) := by decide +kernel
theorem dl_641 : decode code 641 = .ok (.aload_n 1, 1) := by decide +kernel
theorem dl_657 : decode code 657 = .ok (.invokevirtual 73, 3) := by decide +kernel
theorem dl_660 : decode code 660 = .ok (.aload_n 2, 1) := by decide +kernel
theorem dl_676 : decode code 676 = .ok (.invokevirtual 77, 3) := by decide +kernel
theorem dl_679 : decode code 679 = .ok (.if_icmp .eq 487, 3) := by decide +kernel
theorem dl_684 : decode code 684 = .ok (.aload_n 1, 1) := by decide +kernel
theorem dl_695 : decode code 695 = .ok (.invokevirtual 78, 3) := by decide +kernel
theorem dl_698 : decode code 698 = .ok (.aload_n 2, 1) := by decide +kernel
theorem dl_709 : decode code 709 = .ok (.invokevirtual 81, 3) := by decide +kernel
theorem dl_712 : decode code 712 = .ok (.if_icmp .eq 454, 3) := by decide +kernel
theorem dl_717 : decode code 717 = .ok (.aload_n 1, 1) := by decide +kernel
theorem dl_728 : decode code 728 = .ok (.invokevirtual 82, 3) := by decide +kernel
theorem dl_731 : decode code 731 = .ok (.aload_n 2, 1) := by decide +kernel
theorem dl_742 : decode code 742 = .ok (.invokevirtual 85, 3) := by decide +kernel
theorem dl_745 : decode code 745 = .ok (.if_icmp .eq 421, 3) := by decide +kernel
theorem dl_750 : decode code 750 = .ok (.aload_n 1, 1) := by decide +kernel
theorem dl_766 : decode code 766 = .ok (.invokevirtual 86, 3) := by decide +kernel
theorem dl_769 : decode code 769 = .ok (.aload_n 2, 1) := by decide +kernel
theorem dl_785 : decode code 785 = .ok (.invokevirtual 89, 3) := by decide +kernel
theorem dl_788 : decode code 788 = .ok (.if_icmp .eq 378, 3) := by decide +kernel
theorem dl_793 : decode code 793 = .ok (.aload_n 1, 1) := by decide +kernel
theorem dl_804 : decode code 804 = .ok (.invokevirtual 90, 3) := by decide +kernel
theorem dl_807 : decode code 807 = .ok (.aload_n 2, 1) := by decide +kernel
theorem dl_818 : decode code 818 = .ok (.invokevirtual 93, 3) := by decide +kernel
theorem dl_821 : decode code 821 = .ok (.if_icmp .eq 345, 3) := by decide +kernel
theorem dl_826 : decode code 826 = .ok (.aload_n 1, 1) := by decide +kernel
theorem dl_827 : decode code 827 = .ok (.invokevirtual 94, 3) := by decide +kernel
theorem dl_830 : decode code 830 = .ok (.aload_n 2, 1) := by decide +kernel
theorem dl_831 : decode code 831 = .ok (.invokevirtual 97, 3) := by decide +kernel
theorem dl_834 : decode code 834 = .ok (.if_icmp .eq 332, 3) := by decide +kernel
theorem dl_839 : decode code 839 = .ok (.aload_n 1, 1) := by decide +kernel
theorem dl_845 : decode code 845 = .ok (.invokevirtual 98, 3) := by decide +kernel
theorem dl_848 : decode code 848 = .ok (.aload_n 2, 1) := by decide +kernel
theorem dl_854 : decode code 854 = .ok (.invokevirtual 101, 3) := by decide +kernel
theorem dl_857 : decode code 857 = .ok (.if_icmp .eq 309, 3) := by decide +kernel
theorem dl_862 : decode code 862 = .ok (.aload_n 1, 1) := by decide +kernel
theorem dl_873 : decode code 873 = .ok (.invokevirtual 102, 3) := by decide +kernel
theorem dl_876 : decode code 876 = .ok (.aload_n 2, 1) := by decide +kernel
theorem dl_887 : decode code 887 = .ok (.invokevirtual 105, 3) := by decide +kernel
theorem dl_890 : decode code 890 = .ok (.if_icmp .eq 276, 3) := by decide +kernel
theorem dl_895 : decode code 895 = .ok (.aload_n 1, 1) := by decide +kernel
theorem dl_911 : decode code 911 = .ok (.invokevirtual 106, 3) := by decide +kernel
theorem dl_914 : decode code 914 = .ok (.aload_n 2, 1) := by decide +kernel
theorem dl_930 : decode code 930 = .ok (.invokevirtual 109, 3) := by decide +kernel
theorem dl_933 : decode code 933 = .ok (.if_icmp .eq 233, 3) := by decide +kernel
theorem dl_938 : decode code 938 = .ok (.aload_n 1, 1) := by decide +kernel
theorem dl_949 : decode code 949 = .ok (.invokevirtual 110, 3) := by decide +kernel
theorem dl_952 : decode code 952 = .ok (.aload_n 2, 1) := by decide +kernel
theorem dl_963 : decode code 963 = .ok (.invokevirtual 113, 3) := by decide +kernel
theorem dl_966 : decode code 966 = .ok (.if_icmp .eq 200, 3) := by decide +kernel
theorem dl_971 : decode code 971 = .ok (.aload_n 1, 1) := by decide +kernel
theorem dl_997 : decode code 997 = .ok (.invokevirtual 114, 3) := by decide +kernel
theorem dl_1000 : decode code 1000 = .ok (.aload_n 2, 1) := by decide +kernel
theorem dl_1026 : decode code 1026 = .ok (.invokevirtual 117, 3) := by decide +kernel
theorem dl_1029 : decode code 1029 = .ok (.if_icmp .eq 137, 3) := by decide +kernel
theorem dl_1034 : decode code 1034 = .ok (.aload_n 1, 1) := by decide +kernel
theorem dl_1040 : decode code 1040 = .ok (.invokevirtual 118, 3) := by decide +kernel
theorem dl_1043 : decode code 1043 = .ok (.aload_n 2, 1) := by decide +kernel
theorem dl_1049 : decode code 1049 = .ok (.invokevirtual 121, 3) := by decide +kernel
theorem dl_1052 : decode code 1052 = .ok (.if_icmp .eq 114, 3) := by decide +kernel
theorem dl_1057 : decode code 1057 = .ok (.aload_n 1, 1) := by decide +kernel
theorem dl_1068 : decode code 1068 = .ok (.invokevirtual 122, 3) := by decide +kernel
theorem dl_1071 : decode code 1071 = .ok (.aload_n 2, 1) := by decide +kernel
theorem dl_1082 : decode code 1082 = .ok (.invokevirtual 125, 3) := by decide +kernel
theorem dl_1085 : decode code 1085 = .ok (.if_icmp .eq 81, 3) := by decide +kernel
theorem dl_1090 : decode code 1090 = .ok (.aload_n 1, 1) := by decide +kernel
theorem dl_1091 : decode code 1091 = .ok (.invokevirtual 126, 3) := by decide +kernel
theorem dl_1094 : decode code 1094 = .ok (.aload_n 2, 1) := by decide +kernel
theorem dl_1095 : decode code 1095 = .ok (.invokevirtual 129, 3) := by decide +kernel
theorem dl_1098 : decode code 1098 = .ok (.if_icmp .eq 68, 3) := by decide +kernel
theorem dl_1103 : decode code 1103 = .ok (.aload_n 1, 1) := by decide +kernel
theorem dl_1104 : decode code 1104 = .ok (.invokevirtual 130, 3) := by decide +kernel
theorem dl_1107 : decode code 1107 = .ok (.aload_n 2, 1) := by decide +kernel
theorem dl_1108 : decode code 1108 = .ok (.invokevirtual 133, 3) := by decide +kernel
theorem dl_1111 : decode code 1111 = .ok (.if_icmp .eq 55, 3) := by decide +kernel
theorem dl_1116 : decode code 1116 = .ok (.aload_n 1, 1) := by decide +kernel
theorem dl_1117 : decode code 1117 = .ok (.invokevirtual 134, 3) := by decide +kernel
theorem dl_1120 : decode code 1120 = .ok (.aload_n 2, 1) := by decide +kernel
theorem dl_1121 : decode code 1121 = .ok (.invokevirtual 137, 3) := by decide +kernel
theorem dl_1124 : decode code 1124 = .ok (.if_icmp .eq 42, 3) := by decide +kernel
theorem dl_1129 : decode code 1129 = .ok (.aload_n 1, 1) := by decide +kernel
theorem dl_1135 : decode code 1135 = .ok (.invokevirtual 138, 3) := by decide +kernel
theorem dl_1138 : decode code 1138 = .ok (.aload_n 2, 1) := by decide +kernel
theorem dl_1144 : decode code 1144 = .ok (.invokevirtual 141, 3) := by decide +kernel
theorem dl_1147 : decode code 1147 = .ok (.if_icmp .eq 19, 3) := by decide +kernel
theorem dl_1152 : decode code 1152 = .ok (.aload_n 1, 1) := by decide +kernel
theorem dl_1153 : decode code 1153 = .ok (.invokevirtual 142, 3) := by decide +kernel
theorem dl_1156 : decode code 1156 = .ok (.aload_n 2, 1) := by decide +kernel
theorem dl_1157 : decode code 1157 = .ok (.invokevirtual 146, 3) := by decide +kernel
theorem dl_1160 : decode code 1160 = .ok (.lcmp, 1) := by decide +kernel
theorem dl_1161 : decode code 1161 = .ok (.ifCond .eq 5, 3) := by decide +kernel
theorem dl_1166 : decode code 1166 = .ok (.iinc 3 6, 3) := by decide +kernel
theorem dl_1169 : decode code 1169 = .ok (.goto (-1151), 3) := by decide +kernel
theorem dl_1172 : decode code 1172 = .ok (.iconst 1, 1) := by decide +kernel
theorem dl_1173 : decode code 1173 = .ok (.ireturn, 1) := by decide +kernel
theorem dg_173 : lx_G 173 1 := by decide +kernel
theorem dg_182 : lx_G 182 2 := by decide +kernel
theorem dg_197 : lx_G 197 1 := by decide +kernel
theorem dg_206 : lx_G 206 2 := by decide +kernel
theorem dg_239 : lx_G 239 1 := by decide +kernel
theorem dg_248 : lx_G 248 1 := by decide +kernel
theorem dg_288 : lx_G 288 1 := by decide +kernel
theorem dg_293 : lx_G 293 2 := by decide +kernel
theorem dg_302 : lx_G 302 1 := by decide +kernel
theorem dg_307 : lx_G 307 2 := by decide +kernel
theorem dg_321 : lx_G 321 1 := by decide +kernel
theorem dg_326 : lx_G 326 2 := by decide +kernel
theorem dg_335 : lx_G 335 1 := by decide +kernel
theorem dg_340 : lx_G 340 2 := by decide +kernel
theorem dg_354 : lx_G 354 1 := by decide +kernel
theorem dg_359 : lx_G 359 2 := by decide +kernel
theorem dg_368 : lx_G 368 1 := by decide +kernel
theorem dg_373 : lx_G 373 2 := by decide +kernel
theorem dg_387 : lx_G 387 1 := by decide +kernel
theorem dg_392 : lx_G 392 2 := by decide +kernel
theorem dg_397 : lx_G 397 3 := by decide +kernel
theorem dg_402 : lx_G 402 4 := by decide +kernel
theorem dg_411 : lx_G 411 1 := by decide +kernel
theorem dg_416 : lx_G 416 2 := by decide +kernel
theorem dg_421 : lx_G 421 3 := by decide +kernel
theorem dg_426 : lx_G 426 4 := by decide +kernel
theorem dg_440 : lx_G 440 1 := by decide +kernel
theorem dg_445 : lx_G 445 2 := by decide +kernel
theorem dg_450 : lx_G 450 3 := by decide +kernel
theorem dg_455 : lx_G 455 4 := by decide +kernel
theorem dg_460 : lx_G 460 5 := by decide +kernel
theorem dg_469 : lx_G 469 1 := by decide +kernel
theorem dg_474 : lx_G 474 2 := by decide +kernel
theorem dg_479 : lx_G 479 3 := by decide +kernel
theorem dg_484 : lx_G 484 4 := by decide +kernel
theorem dg_489 : lx_G 489 5 := by decide +kernel
theorem dg_503 : lx_G 503 1 := by decide +kernel
theorem dg_508 : lx_G 508 2 := by decide +kernel
theorem dg_513 : lx_G 513 3 := by decide +kernel
theorem dg_518 : lx_G 518 4 := by decide +kernel
theorem dg_523 : lx_G 523 5 := by decide +kernel
theorem dg_532 : lx_G 532 1 := by decide +kernel
theorem dg_537 : lx_G 537 2 := by decide +kernel
theorem dg_542 : lx_G 542 3 := by decide +kernel
theorem dg_547 : lx_G 547 4 := by decide +kernel
theorem dg_552 : lx_G 552 5 := by decide +kernel
theorem dg_566 : lx_G 566 1 := by decide +kernel
theorem dg_575 : lx_G 575 1 := by decide +kernel
theorem dg_589 : lx_G 589 1 := by decide +kernel
theorem dg_594 : lx_G 594 2 := by decide +kernel
theorem dg_599 : lx_G 599 3 := by decide +kernel
theorem dg_604 : lx_G 604 4 := by decide +kernel
theorem dg_613 : lx_G 613 1 := by decide +kernel
theorem dg_618 : lx_G 618 2 := by decide +kernel
theorem dg_623 : lx_G 623 3 := by decide +kernel
theorem dg_628 : lx_G 628 4 := by decide +kernel
theorem dg_642 : lx_G 642 1 := by decide +kernel
theorem dg_647 : lx_G 647 2 := by decide +kernel
theorem dg_652 : lx_G 652 3 := by decide +kernel
theorem dg_661 : lx_G 661 1 := by decide +kernel
theorem dg_666 : lx_G 666 2 := by decide +kernel
theorem dg_671 : lx_G 671 3 := by decide +kernel
theorem dg_685 : lx_G 685 1 := by decide +kernel
theorem dg_690 : lx_G 690 2 := by decide +kernel
theorem dg_699 : lx_G 699 1 := by decide +kernel
theorem dg_704 : lx_G 704 2 := by decide +kernel
theorem dg_718 : lx_G 718 1 := by decide +kernel
theorem dg_723 : lx_G 723 2 := by decide +kernel
theorem dg_732 : lx_G 732 1 := by decide +kernel
theorem dg_737 : lx_G 737 2 := by decide +kernel
theorem dg_751 : lx_G 751 1 := by decide +kernel
theorem dg_756 : lx_G 756 2 := by decide +kernel
theorem dg_761 : lx_G 761 3 := by decide +kernel
theorem dg_770 : lx_G 770 1 := by decide +kernel
theorem dg_775 : lx_G 775 2 := by decide +kernel
theorem dg_780 : lx_G 780 3 := by decide +kernel
theorem dg_794 : lx_G 794 1 := by decide +kernel
theorem dg_799 : lx_G 799 2 := by decide +kernel
theorem dg_808 : lx_G 808 1 := by decide +kernel
theorem dg_813 : lx_G 813 2 := by decide +kernel
theorem dg_840 : lx_G 840 1 := by decide +kernel
theorem dg_849 : lx_G 849 1 := by decide +kernel
theorem dg_863 : lx_G 863 1 := by decide +kernel
theorem dg_868 : lx_G 868 2 := by decide +kernel
theorem dg_877 : lx_G 877 1 := by decide +kernel
theorem dg_882 : lx_G 882 2 := by decide +kernel
theorem dg_896 : lx_G 896 1 := by decide +kernel
theorem dg_901 : lx_G 901 2 := by decide +kernel
theorem dg_906 : lx_G 906 3 := by decide +kernel
theorem dg_915 : lx_G 915 1 := by decide +kernel
theorem dg_920 : lx_G 920 2 := by decide +kernel
theorem dg_925 : lx_G 925 3 := by decide +kernel
theorem dg_939 : lx_G 939 1 := by decide +kernel
theorem dg_944 : lx_G 944 2 := by decide +kernel
theorem dg_953 : lx_G 953 1 := by decide +kernel
theorem dg_958 : lx_G 958 2 := by decide +kernel
theorem dg_972 : lx_G 972 1 := by decide +kernel
theorem dg_977 : lx_G 977 2 := by decide +kernel
theorem dg_982 : lx_G 982 3 := by decide +kernel
theorem dg_987 : lx_G 987 4 := by decide +kernel
theorem dg_992 : lx_G 992 5 := by decide +kernel
theorem dg_1001 : lx_G 1001 1 := by decide +kernel
theorem dg_1006 : lx_G 1006 2 := by decide +kernel
theorem dg_1011 : lx_G 1011 3 := by decide +kernel
theorem dg_1016 : lx_G 1016 4 := by decide +kernel
theorem dg_1021 : lx_G 1021 5 := by decide +kernel
theorem dg_1035 : lx_G 1035 1 := by decide +kernel
theorem dg_1044 : lx_G 1044 1 := by decide +kernel
theorem dg_1058 : lx_G 1058 1 := by decide +kernel
theorem dg_1063 : lx_G 1063 2 := by decide +kernel
theorem dg_1072 : lx_G 1072 1 := by decide +kernel
theorem dg_1077 : lx_G 1077 2 := by decide +kernel
theorem dg_1130 : lx_G 1130 1 := by decide +kernel
theorem dg_1139 : lx_G 1139 1 := by decide +kernel
theorem lx_cmp {x : Int64} : lg_cmp x x = 0 := by
  unfold lg_cmp
  rw [if_neg (by simp), if_pos rfl]
theorem lx_and31 (x : Int32) : ∃ k : Nat, k < 32 ∧ x &&& 31 = Int32.ofNat k := by
  refine ⟨(x &&& 31).toBitVec.toNat, ?_, ?_⟩
  · have h : (x &&& 31).toBitVec.toNat = x.toBitVec.toNat &&& 31 := rfl
    rw [h]
    have := Nat.and_le_right (n := x.toBitVec.toNat) (m := 31)
    omega
  · apply Int32.toBitVec_inj.mp
    apply BitVec.eq_of_toNat_eq
    show _ = (BitVec.ofNat 32 _).toNat
    rw [BitVec.toNat_ofNat, Nat.mod_eq_of_lt (x &&& 31).toBitVec.isLt]
def lx_Fix (p : Program) (l : Launch) (e : Env) (s : State) (m : MethodId) (args : Array Value) (below : List Frame) (meth : Method) (c : Code) (b L : Nat) (xs : Nat → Int32) (dC : Nat → ClassId) (dI : Nat → Nat → Nat) (ad : Nat → Nat) (cI cB : ClassId) : Prop :=
  p.tables.exec = Jvm.exec ∧ c.code = code ∧ c.maxLocals = 4 ∧ s.vm.findClass "BorderThroughBedLaw" = some m.cls ∧ (∀ w ∈ ex_tb, w.before args s = true) ∧ ex_Cx dC dI ad cI cB (ex_AA ad s.heap.size) s s.heap ∧ ex_In ad ∧ va_X b L xs s s.heap ∧ b < s.heap.size ∧ ¬ ex_AA ad s.heap.size b ∧ L ≤ 3072
def lx_K (p : Program) (l : Launch) (e : Env) (s : State) (m : MethodId) (args : Array Value) (below : List Frame) (meth : Method) (c : Code) (Q : State → Prop) (dC : Nat → ClassId) (dI : Nat → Nat → Nat) (ad : Nat → Nat) (cI cB : ClassId) (A : AS) (ls : Array Slot) : Prop :=
  ∀ (A' : AS) (w' : PW) (H' : Heap) (locs' : List Loc), q_V A' → rC A' w' → rM A' w' → A' 0 2 ≤ A 0 2 + 1 → va_P (dC, dI) ex_cl (ex_cel ad cI cB w') H' → va_S (ex_AA ad s.heap.size) s.heap H' locs' → W p l e room_1 s m args below meth c H' locs' 71 1804 Q (F0 m 1166 ls [])
section LX
variable {p : Program} {l : Launch} {e : Env} {s : State} {m : MethodId} {args : Array Value} {below : List Frame} {meth : Method} {c : Code} {b L : Nat} {xs : Nat → Int32} {dC : Nat → ClassId} {dI : Nat → Nat → Nat} {ad : Nat → Nat} {cI cB : ClassId} {Q : State → Prop}
theorem lx_arg (C : lx_Fix p l e s m args below meth c b L xs dC dI ad cI cB) {pc k i a1 a2 : Nat} {v : Int32} {H : Heap} {locs : List Loc} {ls : Array Slot} {rest : List Value} (hd : lx_G pc k) (hk : k < 6) (hi : i + k < L) (hv : xs (i + k) = v) (hl : lv_has ls 4 [(0, .ref b), (1, .ref a1), (2, .ref a2), (3, .int (nI i))]) (hS : va_S (ex_AA ad s.heap.size) s.heap H locs)
    (kk : W p l e room_1 s m args below meth c H locs 71 1804 Q (F0 m (pc + 5) ls (.int v :: rest))) : W p l e room_1 s m args below meth c H locs 71 1804 Q (F0 m pc ls rest) := by
  obtain ⟨hx, hb, hml, hown, hts, hCx, hIn, hX, hbl, hbA, hL⟩ := C
  obtain ⟨d0, d1, d2, d3, d4⟩ := hd
  refine lv_aload_n hx hb d0 rfl (lv_at hl 0 rfl) ?_
  refine lv_iload_n hx hb d1 rfl (lv_at hl 3 rfl) ?_
  refine lv_iconst (v := nI k) hx hb d2 ?_ ?_
  · match k, hk with
    | 0, _ => decide
    | 1, _ => decide
    | 2, _ => decide
    | 3, _ => decide
    | 4, _ => decide
    | 5, _ => decide
    | n + 6, h => exact absurd h (by omega)
  refine lv_iadd hx hb d3 ?_
  refine W.eq (g2 := F0 m (pc + 4) ls (.int (nI (i + k)) :: .ref b :: rest)) (by rw [nI_add]) ?_
  refine va_sld hx hb hX hbl hbA hS (vp_in_nI hi (by omega)) d4 ?_
  rw [nI_clamp (by omega), hv]
  exact kk
theorem lx_back {pc : Nat} {H : Heap} {locs : List Loc} {ls : Array Slot} {st0 rest : List Value} {a : Array Value} {r : Value} {w1 : PW}
    (hr : va_Run p l e room_1 s m args below meth c H locs 71 1804 0 0 (F0 m pc ls st0) rest (ex_Post dC dI ad cI cB H.size (some r) w1 a) (ex_AA ad H.size)) (hS : va_S (ex_AA ad s.heap.size) s.heap H locs)
    (kk : ∀ (H1 : Heap) (locs1 : List Loc), va_P (dC, dI) ex_cl (ex_cel ad cI cB w1) H1 → va_S (ex_AA ad s.heap.size) s.heap H1 locs1 → W p l e room_1 s m args below meth c H1 locs1 71 1804 Q (F0 m (pc + 3) ls (ex_tv ad r :: rest))) : W p l e room_1 s m args below meth c H locs 71 1804 Q (F0 m pc ls st0) := by
  intro T hT X
  obtain ⟨v, st₀, t, T', Ln, h0, X', hLn, e1, e2, ⟨hv, hp, hz, hk⟩, st⟩ := hr T hT X
  rw [h0] at hz hk
  have hA := ex_AA_le (ad := ad) hS.1
  have hv2 : v = some (ex_tv ad r) := by cases hv; rfl
  subst hv2
  have hS1 : va_S (ex_AA ad s.heap.size) s.heap T'.heap (locs ++ Ln) :=
    ⟨Nat.le_trans hS.1 (by rw [e1]; exact hz), fun q h1 h2 => by rw [e1, hk q (Nat.lt_of_lt_of_le h1 hS.1) (fun z => h2 (hA q z))]; exact hS.2.1 q h1 h2, fun q hq => by
      rcases List.mem_append.mp hq with h | h
      · exact hS.2.2 q h
      · exact hA _ (hLn q h)⟩
  obtain ⟨t2, a1, b1⟩ := kk T'.heap (locs ++ Ln) (by rw [e1]; exact hp) hS1 T' rfl X'
  exact ⟨t2, st t2 a1, b1⟩
theorem lx_call (C : lx_Fix p l e s m args below meth c b L xs dC dI ad cI cB) {pc idx y o : Nat} {as rest : List Value} {w w1 : PW} {r : Value} {H : Heap} {locs : List Loc} {ls : Array Slot} (hy : y < 236) (hw : lx_W idx y as.length) (ho : ex_cls o = ex_C y) (hcal : ex_cal 16 y (.ref o :: as) w = some (some r, w1)) (hd : decode code pc = .ok (.invokevirtual idx, 3)) (hsize : ls.size = 4) (hroom : (rest.map fun v => v.category).sum ≤ 8)
    (hP : va_P (dC, dI) ex_cl (ex_cel ad cI cB w) H) (hS : va_S (ex_AA ad s.heap.size) s.heap H locs)
    (kk : ∀ (H1 : Heap) (locs1 : List Loc), va_P (dC, dI) ex_cl (ex_cel ad cI cB w1) H1 → va_S (ex_AA ad s.heap.size) s.heap H1 locs1 → W p l e room_1 s m args below meth c H1 locs1 71 1804 Q (F0 m (pc + 3) ls (ex_tv ad r :: rest))) :
    W p l e room_1 s m args below meth c H locs 71 1804 Q (F0 m pc ls ((as.map (ex_tv ad)).reverse ++ .ref (ad o) :: rest)) := by
  obtain ⟨hx, hb, hml, hown, hts, hCx, hIn, hX, hbl, hbA, hL⟩ := C
  obtain ⟨har, hin, hse, hlk⟩ := hw
  have hm := kw_all hy
  obtain ⟨-, -, hcon⟩ := ex_sound l 16 y _ _ _ _ hcal
  have hlen : (as.map (ex_tv ad)).length = as.length := List.length_map _
  have hmL := hm.2.2.2.2.2.2
  have hari : ∀ sig, parseMethodDescriptor (ex_Y y).desc = some sig → as.length = sig.parameters.length := by
    intro sig hsig
    have h2 : (parseMethodDescriptor (ex_Y y).desc).map (fun d => d.parameters.length) = some as.length := har
    rw [hsig] at h2
    exact (Option.some.inj h2).symm
  have hp : PreV s H (ex_Y y).cls (ad o) (va_Pc ((.ref o :: as : List Value).map (ex_tv ad)) (ex_Pre dC dI ad cI cB H.size w)) (as.map (ex_tv ad)) :=
    ⟨ex_blind, by rw [hm.2.2.1]; exact ex_recv hCx.1 hP ho hm.2.2.2.1, fun U hU hW => ⟨rfl, ex_pre_at hCx hIn hP hS hU hW⟩⟩
  exact lx_back (va_runV (Ts := ex_tb) (own := "BorderThroughBedLaw") ⟨hx, hb, hml, hown, hts⟩ (hcon dC dI ad cI cB H.size) ⟨⟨rfl, rfl, (Nat.le_of_ble_eq_true rfl : 16 + 1 ≤ 18), (show 8 + (ex_L y + 11) + 42 * 16 ≤ 764 by omega), ex_pay hts hm, List.mem_cons_self, hts _ hm.1, hts _ hm.2.1, hm.2.2.2.2.2.1, hari, hts _ hlk⟩, hts _ hin, hts _ hse⟩ hp rfl hlen hsize rfl (lv_room hroom) hd ⟨Nat.le_of_ble_eq_true rfl, Nat.le_of_ble_eq_true rfl⟩) hS kk
end LX
