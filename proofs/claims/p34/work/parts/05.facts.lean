/-! facts of the tables, a row each (printed by wip/p34/gen5.py) -/
theorem kb_0_0 : ex_blk 0 0 = [.aload 0, .getfield 0, .invokevirtual 1024, .aload 0, .getfield 1, .invokevirtual 1024, .aload 0, .getfield 2, .invokevirtual 1024, .aload 0, .getfield 3, .invokevirtual 1024, .return_] := rfl
theorem kb_1_0 : ex_blk 1 0 = [.aload 0, .getfield 0, .iload 1, .sipush 0, .invokevirtual 994, .ireturn] := rfl
theorem kb_2_0 : ex_blk 2 0 = [.aload 0, .getfield 0, .iload 1, .sipush 1, .invokevirtual 994, .ireturn] := rfl
theorem kb_3_0 : ex_blk 3 0 = [.aload 0, .getfield 0, .iload 1, .sipush 2, .invokevirtual 994, .ireturn] := rfl
theorem kb_4_0 : ex_blk 4 0 = [.sipush 4, .aload 0, .iload 1, .invokevirtual 33, .imul, .aload 0, .iload 1, .invokevirtual 49, .iadd, .ireturn] := rfl
theorem kb_5_0 : ex_blk 5 0 = [.sipush 0, .istore 3, .jsr 2] := rfl
theorem kb_5_2 : ex_blk 5 2 = [.iload 3, .aload 0, .getfield 0, .invokevirtual 944, .if_icmp .ge 42, .aload 1, .aload 0, .iload 3, .invokevirtual 17, .aload 0, .iload 3, .invokevirtual 65, .invokevirtual 402, .iload 2, .ishr, .sipush 1, .iand, .ifCond .eq 36, .iload 3, .ireturn] := rfl
theorem kb_5_36 : ex_blk 5 36 = [.iinc 3 1, .goto 2] := rfl
theorem kb_5_42 : ex_blk 5 42 = [.sipush (-1), .ireturn] := rfl
theorem kb_6_0 : ex_blk 6 0 = [.aload 0, .sipush 0, .putfield 75, .sipush 0, .istore 2, .sipush 0, .istore 3, .sipush 0, .istore 4, .jsr 12] := rfl
theorem kb_6_12 : ex_blk 6 12 = [.iload 4, .aload 1, .invokevirtual 896, .if_icmp .ge 77, .aload 1, .iload 4, .invokevirtual 913, .istore 5, .iload 5, .sipush 47, .if_icmp .ne 44, .iinc 2 1, .sipush 0, .istore 3, .goto 71] := rfl
theorem kb_6_44 : ex_blk 6 44 = [.iload 5, .sipush 124, .if_icmp .ne 60, .aload 0, .iload 2, .iload 3, .invokevirtual 114, .goto 71] := rfl
theorem kb_6_60 : ex_blk 6 60 = [.aload 0, .iload 5, .iload 2, .iload 3, .invokevirtual 131, .iinc 3 1, .jsr 71] := rfl
theorem kb_6_71 : ex_blk 6 71 = [.iinc 4 1, .goto 12] := rfl
theorem kb_6_77 : ex_blk 6 77 = [.aload 0, .iload 2, .sipush 1, .iadd, .putfield 76, .aload 0, .iload 3, .putfield 77, .aload 0, .invokevirtual 144, .aload 0, .invokevirtual 192, .return_] := rfl
theorem kb_7_0 : ex_blk 7 0 = [.iload 1, .sipush 4, .invokestatic 1330, .ifCond .eq 15, .aload 0, .getfield 67, .iload 1, .iload 2, .iastore, .jsr 15] := rfl
theorem kb_7_15 : ex_blk 7 15 = [.return_] := rfl
theorem kb_8_0 : ex_blk 8 0 = [.aload 0, .getfield 75, .sipush 24, .if_icmp .lt 10, .return_] := rfl
theorem kb_8_10 : ex_blk 8 10 = [.iload 1, .sipush 100, .if_icmp .ne 29, .aload 0, .getfield 64, .aload 0, .getfield 75, .sipush 2, .iastore, .goto 49] := rfl
theorem kb_8_29 : ex_blk 8 29 = [.aload 0, .getfield 64, .aload 0, .getfield 75, .iload 1, .sipush 35, .if_icmp .ne 47, .sipush 1, .goto 48] := rfl
theorem kb_8_47 : ex_blk 8 47 = [.sipush 0, .jsr 48] := rfl
theorem kb_8_48 : ex_blk 8 48 = [.iastore, .jsr 49] := rfl
theorem kb_8_49 : ex_blk 8 49 = [.aload 0, .getfield 65, .aload 0, .getfield 75, .iload 2, .iastore, .aload 0, .getfield 66, .aload 0, .getfield 75, .iload 3, .iastore, .aload 0, .dup, .getfield 75, .sipush 1, .iadd, .putfield 75, .return_] := rfl
theorem kb_9_0 : ex_blk 9 0 = [.sipush 0, .istore 1, .jsr 2] := rfl
theorem kb_9_2 : ex_blk 9 2 = [.iload 1, .sipush 96, .if_icmp .ge 25, .aload 0, .iload 1, .iload 1, .sipush 2, .ishr, .iload 1, .sipush 3, .iand, .invokevirtual 163, .iinc 1 1, .goto 2] := rfl
theorem kb_9_25 : ex_blk 9 25 = [.return_] := rfl
theorem kb_10_0 : ex_blk 10 0 = [.sipush (-1), .istore 4, .iload 2, .aload 0, .getfield 75, .if_icmp .ge 41, .aload 0, .aload 0, .getfield 65, .iload 2, .iaload, .getstatic 1000, .iload 3, .iaload, .iadd, .aload 0, .getfield 66, .iload 2, .iaload, .getstatic 1001, .iload 3, .iaload, .iadd, .invokevirtual 178, .istore 4, .jsr 41] := rfl
theorem kb_10_41 : ex_blk 10 41 = [.aload 0, .getfield 68, .iload 1, .iload 4, .iastore, .aload 0, .getfield 69, .iload 1, .aload 0, .iload 4, .invokevirtual 289, .ifCond .eq 68, .iload 4, .goto 69] := rfl
theorem kb_10_68 : ex_blk 10 68 = [.iload 2, .jsr 69] := rfl
theorem kb_10_69 : ex_blk 10 69 = [.iastore, .aload 0, .getfield 70, .iload 1, .aload 0, .iload 2, .invokevirtual 305, .ifCond .eq 103, .aload 0, .iload 4, .invokevirtual 305, .ifCond .eq 103, .sipush 1, .iload 2, .ishl, .sipush 1, .iload 4, .ishl, .ior, .goto 104] := rfl
theorem kb_10_103 : ex_blk 10 103 = [.sipush 0, .jsr 104] := rfl
theorem kb_10_104 : ex_blk 10 104 = [.iastore, .aload 0, .getfield 71, .iload 1, .aload 0, .iload 2, .invokevirtual 305, .ifCond .eq 128, .iload 3, .ifCond .ne 128, .sipush 1, .iload 2, .ishl, .goto 129] := rfl
theorem kb_10_128 : ex_blk 10 128 = [.sipush 0, .jsr 129] := rfl
theorem kb_10_129 : ex_blk 10 129 = [.iastore, .return_] := rfl
theorem kb_11_0 : ex_blk 11 0 = [.iload 1, .aload 0, .getfield 76, .invokestatic 1330, .ifCond .eq 33, .iload 2, .aload 0, .getfield 77, .invokestatic 1330, .ifCond .eq 33, .iload 1, .aload 0, .getfield 77, .imul, .iload 2, .iadd, .goto 34] := rfl
theorem kb_11_33 : ex_blk 11 33 = [.sipush (-1), .jsr 34] := rfl
theorem kb_11_34 : ex_blk 11 34 = [.ireturn] := rfl
theorem kb_12_0 : ex_blk 12 0 = [.sipush 0, .istore 1, .jsr 2] := rfl
theorem kb_12_2 : ex_blk 12 2 = [.iload 1, .sipush 24, .if_icmp .ge 29, .aload 0, .getfield 72, .iload 1, .sipush (-1), .iastore, .aload 0, .getfield 73, .iload 1, .sipush 1000000, .iastore, .iinc 1 1, .goto 2] := rfl
theorem kb_12_29 : ex_blk 12 29 = [.sipush 0, .istore 1, .jsr 31] := rfl
theorem kb_12_31 : ex_blk 12 31 = [.iload 1, .aload 0, .getfield 75, .if_icmp .ge 66, .iload 1, .sipush 24, .if_icmp .ge 66, .aload 0, .getfield 64, .iload 1, .iaload, .sipush 2, .if_icmp .ne 60, .aload 0, .iload 1, .invokevirtual 209, .jsr 60] := rfl
theorem kb_12_60 : ex_blk 12 60 = [.iinc 1 1, .goto 31] := rfl
theorem kb_12_66 : ex_blk 12 66 = [.return_] := rfl
theorem kb_13_0 : ex_blk 13 0 = [.aload 0, .iload 1, .sipush 0, .sipush 0, .invokevirtual 419, .sipush 0, .istore 2, .jsr 9] := rfl
theorem kb_13_9 : ex_blk 13 9 = [.iload 2, .aload 0, .getfield 75, .if_icmp .ge 63, .iload 2, .sipush 24, .if_icmp .ge 63, .aload 0, .getfield 74, .iload 2, .iaload, .aload 0, .getfield 73, .iload 2, .iaload, .if_icmp .ge 57, .aload 0, .getfield 73, .iload 2, .aload 0, .getfield 74, .iload 2, .iaload, .iastore, .aload 0, .getfield 72, .iload 2, .iload 1, .iastore, .jsr 57] := rfl
theorem kb_13_57 : ex_blk 13 57 = [.iinc 2 1, .goto 9] := rfl
theorem kb_13_63 : ex_blk 13 63 = [.return_] := rfl
theorem kb_14_0 : ex_blk 14 0 = [.aload 0, .getfield 75, .ifCond .le 11, .sipush 1, .goto 12] := rfl
theorem kb_14_11 : ex_blk 14 11 = [.sipush 0, .jsr 12] := rfl
theorem kb_14_12 : ex_blk 14 12 = [.areturn] := rfl
theorem kb_15_0 : ex_blk 15 0 = [.aload 0, .getfield 75, .ireturn] := rfl
theorem kb_16_0 : ex_blk 16 0 = [.iload 1, .aload 0, .getfield 75, .invokestatic 1330, .areturn] := rfl
theorem kb_17_0 : ex_blk 17 0 = [.iload 1, .ifCond .lt 27, .iload 1, .aload 0, .getfield 75, .if_icmp .ge 27, .iload 1, .sipush 24, .if_icmp .ge 27, .aload 0, .getfield 64, .iload 1, .iaload, .goto 28] := rfl
theorem kb_17_27 : ex_blk 17 27 = [.sipush 1, .jsr 28] := rfl
theorem kb_17_28 : ex_blk 17 28 = [.ireturn] := rfl
theorem kb_18_0 : ex_blk 18 0 = [.aload 0, .iload 1, .invokevirtual 273, .sipush 1, .if_icmp .eq 13, .sipush 1, .goto 14] := rfl
theorem kb_18_13 : ex_blk 18 13 = [.sipush 0, .jsr 14] := rfl
theorem kb_18_14 : ex_blk 18 14 = [.areturn] := rfl
theorem kb_19_0 : ex_blk 19 0 = [.aload 0, .iload 1, .invokevirtual 273, .ifCond .ne 12, .sipush 1, .goto 13] := rfl
theorem kb_19_12 : ex_blk 19 12 = [.sipush 0, .jsr 13] := rfl
theorem kb_19_13 : ex_blk 19 13 = [.areturn] := rfl
theorem kb_20_0 : ex_blk 20 0 = [.iload 1, .aload 0, .getfield 75, .invokestatic 1330, .ifCond .eq 30, .iload 1, .sipush 24, .if_icmp .ge 30, .aload 0, .getfield 65, .iload 1, .iaload, .sipush 4, .invokestatic 1330, .ifCond .ne 32, .jsr 30] := rfl
theorem kb_20_30 : ex_blk 20 30 = [.sipush (-1), .ireturn] := rfl
theorem kb_20_32 : ex_blk 20 32 = [.aload 0, .getfield 66, .iload 1, .iaload, .aload 0, .getfield 67, .aload 0, .getfield 65, .iload 1, .iaload, .iaload, .iload 2, .iadd, .if_icmp .ge 58, .sipush 0, .goto 59] := rfl
theorem kb_20_58 : ex_blk 20 58 = [.sipush 1, .jsr 59] := rfl
theorem kb_20_59 : ex_blk 20 59 = [.ireturn] := rfl
theorem kb_21_0 : ex_blk 21 0 = [.sipush 4, .iload 1, .imul, .iload 2, .iadd, .istore 3, .iload 2, .sipush 4, .invokestatic 1330, .ifCond .eq 32, .iload 3, .sipush 96, .invokestatic 1330, .ifCond .eq 32, .aload 0, .getfield 68, .iload 3, .iaload, .goto 33] := rfl
theorem kb_21_32 : ex_blk 21 32 = [.sipush (-1), .jsr 33] := rfl
theorem kb_21_33 : ex_blk 21 33 = [.ireturn] := rfl
theorem kb_22_0 : ex_blk 22 0 = [.iload 2, .sipush 96, .invokestatic 1330, .ifCond .ne 11, .sipush (-1), .ireturn] := rfl
theorem kb_22_11 : ex_blk 22 11 = [.iload 3, .tableswitch 83 1 3 #[40, 54, 69]] := rfl
theorem kb_22_40 : ex_blk 22 40 = [.iload 1, .ifCond .ne 48, .sipush 1, .goto 49] := rfl
theorem kb_22_48 : ex_blk 22 48 = [.sipush 0, .jsr 49] := rfl
theorem kb_22_49 : ex_blk 22 49 = [.istore 4, .goto 86] := rfl
theorem kb_22_54 : ex_blk 22 54 = [.iload 1, .sipush 1, .if_icmp .ne 63, .sipush 1, .goto 64] := rfl
theorem kb_22_63 : ex_blk 22 63 = [.sipush 0, .jsr 64] := rfl
theorem kb_22_64 : ex_blk 22 64 = [.istore 4, .goto 86] := rfl
theorem kb_22_69 : ex_blk 22 69 = [.iload 1, .ifCond .eq 77, .sipush 1, .goto 78] := rfl
theorem kb_22_77 : ex_blk 22 77 = [.sipush 0, .jsr 78] := rfl
theorem kb_22_78 : ex_blk 22 78 = [.istore 4, .goto 86] := rfl
theorem kb_22_83 : ex_blk 22 83 = [.sipush 0, .istore 4, .jsr 86] := rfl
theorem kb_22_86 : ex_blk 22 86 = [.iload 4, .ifCond .eq 100, .aload 0, .getfield 69, .iload 2, .iaload, .goto 103] := rfl
theorem kb_22_100 : ex_blk 22 100 = [.iload 2, .sipush 2, .ishr, .jsr 103] := rfl
theorem kb_22_103 : ex_blk 22 103 = [.ireturn] := rfl
theorem kb_23_0 : ex_blk 23 0 = [.iload 1, .ifCond .lt 19, .iload 1, .sipush 24, .if_icmp .ge 19, .aload 0, .getfield 72, .iload 1, .iaload, .goto 20] := rfl
theorem kb_23_19 : ex_blk 23 19 = [.sipush (-1), .jsr 20] := rfl
theorem kb_23_20 : ex_blk 23 20 = [.ireturn] := rfl
theorem kb_24_0 : ex_blk 24 0 = [.aload 0, .iload 1, .invokevirtual 369, .istore 2, .iload 2, .sipush (-1), .if_icmp .ne 15, .iload 1, .goto 16] := rfl
theorem kb_24_15 : ex_blk 24 15 = [.iload 2, .jsr 16] := rfl
theorem kb_24_16 : ex_blk 24 16 = [.ireturn] := rfl
theorem kb_25_0 : ex_blk 25 0 = [.iload 2, .sipush 96, .invokestatic 1330, .ifCond .ne 11, .sipush 0, .ireturn] := rfl
theorem kb_25_11 : ex_blk 25 11 = [.iload 1, .sipush 1, .if_icmp .ne 25, .aload 0, .getfield 70, .iload 2, .iaload, .goto 31] := rfl
theorem kb_25_25 : ex_blk 25 25 = [.aload 0, .getfield 71, .iload 2, .iaload, .jsr 31] := rfl
theorem kb_25_31 : ex_blk 25 31 = [.ireturn] := rfl
theorem kb_26_0 : ex_blk 26 0 = [.sipush 0, .istore 4, .jsr 3] := rfl
theorem kb_26_3 : ex_blk 26 3 = [.iload 4, .sipush 24, .if_icmp .ge 35, .aload 0, .getfield 74, .iload 4, .iload 4, .iload 1, .if_icmp .ne 26, .sipush 0, .goto 28] := rfl
theorem kb_26_26 : ex_blk 26 26 = [.sipush 1000000, .jsr 28] := rfl
theorem kb_26_28 : ex_blk 26 28 = [.iastore, .iinc 4 1, .goto 3] := rfl
theorem kb_26_35 : ex_blk 26 35 = [.sipush 1, .istore 4, .sipush 0, .istore 5, .jsr 41] := rfl
theorem kb_26_41 : ex_blk 26 41 = [.iload 4, .ifCond .eq 139, .iload 5, .sipush 24, .if_icmp .ge 139, .sipush 0, .istore 4, .sipush 0, .istore 6, .jsr 59] := rfl
theorem kb_26_59 : ex_blk 26 59 = [.iload 6, .aload 0, .getfield 75, .if_icmp .ge 133, .iload 6, .sipush 24, .if_icmp .ge 133, .iload 6, .iload 1, .if_icmp .eq 90, .iload 3, .iload 6, .ishr, .sipush 1, .iand, .ifCond .ne 94, .jsr 90] := rfl
theorem kb_26_90 : ex_blk 26 90 = [.sipush 1, .goto 95] := rfl
theorem kb_26_94 : ex_blk 26 94 = [.sipush 0, .jsr 95] := rfl
theorem kb_26_95 : ex_blk 26 95 = [.istore 7, .iload 7, .ifCond .eq 127, .aload 0, .getfield 74, .iload 6, .iaload, .sipush 1000000, .if_icmp .ge 127, .aload 0, .iload 6, .iload 2, .invokevirtual 434, .ifCond .eq 127, .sipush 1, .istore 4, .jsr 127] := rfl
theorem kb_26_127 : ex_blk 26 127 = [.iinc 6 1, .goto 59] := rfl
theorem kb_26_133 : ex_blk 26 133 = [.iinc 5 1, .goto 41] := rfl
theorem kb_26_139 : ex_blk 26 139 = [.return_] := rfl
theorem kb_27_0 : ex_blk 27 0 = [.sipush 0, .istore 3, .sipush 0, .istore 4, .jsr 5] := rfl
theorem kb_27_5 : ex_blk 27 5 = [.iload 4, .sipush 4, .if_icmp .ge 116, .aload 0, .iload 1, .iload 4, .invokevirtual 338, .istore 5, .iload 5, .sipush 24, .invokestatic 1330, .ifCond .eq 110, .iload 1, .sipush 24, .invokestatic 1330, .ifCond .eq 110, .aload 0, .iload 5, .invokevirtual 289, .ifCond .eq 110, .aload 0, .iload 1, .sipush 0, .invokevirtual 322, .aload 0, .iload 5, .sipush 0, .invokevirtual 322, .if_icmp .ne 68, .sipush 1, .goto 71] := rfl
theorem kb_27_68 : ex_blk 27 68 = [.sipush 1, .iload 2, .iadd, .jsr 71] := rfl
theorem kb_27_71 : ex_blk 27 71 = [.istore 6, .aload 0, .getfield 74, .iload 1, .iaload, .iload 6, .iadd, .aload 0, .getfield 74, .iload 5, .iaload, .if_icmp .ge 110, .aload 0, .getfield 74, .iload 5, .aload 0, .getfield 74, .iload 1, .iaload, .iload 6, .iadd, .iastore, .sipush 1, .istore 3, .jsr 110] := rfl
theorem kb_27_110 : ex_blk 27 110 = [.iinc 4 1, .goto 5] := rfl
theorem kb_27_116 : ex_blk 27 116 = [.iload 3, .areturn] := rfl
theorem kb_28_0 : ex_blk 28 0 = [.aload 0, .sipush 0, .putfield 128, .aload 0, .sipush (-1), .putfield 129, .aload 0, .sipush 0, .putfield 130, .aload 0, .sipush 0, .putfield 131, .return_] := rfl
theorem kb_29_0 : ex_blk 29 0 = [.iload 1, .lookupswitch 67 #[(35, 62), (46, 62), (47, 57), (100, 62), (124, 52)]] := rfl
theorem kb_29_52 : ex_blk 29 52 = [.aload 0, .invokevirtual 480, .areturn] := rfl
theorem kb_29_57 : ex_blk 29 57 = [.aload 0, .invokevirtual 496, .areturn] := rfl
theorem kb_29_62 : ex_blk 29 62 = [.aload 0, .invokevirtual 512, .areturn] := rfl
theorem kb_29_67 : ex_blk 29 67 = [.sipush 0, .areturn] := rfl
theorem kb_30_0 : ex_blk 30 0 = [.aload 0, .getfield 131, .ifCond .eq 9, .sipush 0, .areturn] := rfl
theorem kb_30_9 : ex_blk 30 9 = [.aload 0, .sipush 1, .putfield 131, .sipush 1, .areturn] := rfl
theorem kb_31_0 : ex_blk 31 0 = [.aload 0, .getfield 128, .sipush 1, .iadd, .sipush 4, .if_icmp .ge 17, .aload 0, .invokevirtual 528, .ifCond .ne 19, .jsr 17] := rfl
theorem kb_31_17 : ex_blk 31 17 = [.sipush 0, .areturn] := rfl
theorem kb_31_19 : ex_blk 31 19 = [.aload 0, .aload 0, .getfield 130, .putfield 129, .aload 0, .dup, .getfield 128, .sipush 1, .iadd, .putfield 128, .aload 0, .sipush 0, .putfield 130, .aload 0, .sipush 0, .putfield 131, .sipush 1, .areturn] := rfl
theorem kb_32_0 : ex_blk 32 0 = [.aload 0, .getfield 130, .aload 0, .getfield 129, .sipush (-1), .if_icmp .ne 17, .sipush 6, .goto 21] := rfl
theorem kb_32_17 : ex_blk 32 17 = [.aload 0, .getfield 129, .jsr 21] := rfl
theorem kb_32_21 : ex_blk 32 21 = [.if_icmp .lt 26, .sipush 0, .areturn] := rfl
theorem kb_32_26 : ex_blk 32 26 = [.aload 0, .dup, .getfield 130, .sipush 1, .iadd, .putfield 130, .sipush 1, .areturn] := rfl
theorem kb_33_0 : ex_blk 33 0 = [.aload 0, .getfield 131, .ifCond .eq 41, .aload 0, .getfield 129, .sipush (-1), .if_icmp .ne 26, .aload 0, .getfield 130, .sipush 2, .if_icmp .lt 41, .goto 37] := rfl
theorem kb_33_26 : ex_blk 33 26 = [.aload 0, .getfield 130, .aload 0, .getfield 129, .if_icmp .ne 41, .jsr 37] := rfl
theorem kb_33_37 : ex_blk 33 37 = [.sipush 1, .goto 42] := rfl
theorem kb_33_41 : ex_blk 33 41 = [.sipush 0, .jsr 42] := rfl
theorem kb_33_42 : ex_blk 33 42 = [.areturn] := rfl
theorem kb_34_0 : ex_blk 34 0 = [.aload 0, .getfield 128, .sipush 1, .iadd, .sipush 2, .if_icmp .lt 21, .aload 0, .invokevirtual 528, .ifCond .eq 21, .sipush 1, .goto 22] := rfl
theorem kb_34_21 : ex_blk 34 21 = [.sipush 0, .jsr 22] := rfl
theorem kb_34_22 : ex_blk 34 22 = [.areturn] := rfl
theorem kb_35_0 : ex_blk 35 0 = [.aload 0, .sipush 0, .putfield 256, .aload 0, .sipush 0, .putfield 257, .aload 0, .sipush 0, .putfield 258, .aload 0, .sipush 0, .putfield 259, .aload 0, .sipush 0, .putfield 260, .aload 0, .sipush 0, .putfield 261, .aload 0, .sipush 0, .putfield 262, .return_] := rfl
theorem kb_36_0 : ex_blk 36 0 = [.aload 0, .getfield 261, .tableswitch 60 0 3 #[36, 42, 48, 54]] := rfl
theorem kb_36_36 : ex_blk 36 36 = [.aload 0, .iload 1, .invokevirtual 593, .areturn] := rfl
theorem kb_36_42 : ex_blk 36 42 = [.aload 0, .iload 1, .invokevirtual 609, .areturn] := rfl
theorem kb_36_48 : ex_blk 36 48 = [.aload 0, .iload 1, .invokevirtual 625, .areturn] := rfl
theorem kb_36_54 : ex_blk 36 54 = [.aload 0, .iload 1, .invokevirtual 641, .areturn] := rfl
theorem kb_36_60 : ex_blk 36 60 = [.sipush 0, .areturn] := rfl
theorem kb_37_0 : ex_blk 37 0 = [.iload 1, .sipush 119, .if_icmp .eq 14, .iload 1, .sipush 101, .if_icmp .eq 14, .sipush 0, .areturn] := rfl
theorem kb_37_14 : ex_blk 37 14 = [.aload 0, .iload 1, .sipush 119, .if_icmp .ne 25, .sipush 0, .goto 26] := rfl
theorem kb_37_25 : ex_blk 37 25 = [.sipush 1, .jsr 26] := rfl
theorem kb_37_26 : ex_blk 37 26 = [.putfield 256, .aload 0, .sipush 1, .putfield 261, .sipush 1, .areturn] := rfl
theorem kb_38_0 : ex_blk 38 0 = [.iload 1, .sipush 97, .if_icmp .lt 12, .iload 1, .sipush 102, .if_icmp .le 14, .jsr 12] := rfl
theorem kb_38_12 : ex_blk 38 12 = [.sipush 0, .areturn] := rfl
theorem kb_38_14 : ex_blk 38 14 = [.aload 0, .iload 1, .sipush 97, .isub, .putfield 257, .aload 0, .sipush 2, .putfield 261, .sipush 1, .areturn] := rfl
theorem kb_39_0 : ex_blk 39 0 = [.iload 1, .sipush 45, .if_icmp .ne 25, .aload 0, .getfield 262, .ifCond .le 25, .aload 0, .sipush 3, .putfield 261, .aload 0, .sipush 0, .putfield 262, .sipush 1, .areturn] := rfl
theorem kb_39_25 : ex_blk 39 25 = [.aload 0, .aload 0, .getfield 258, .iload 1, .invokevirtual 658, .istore 2, .iload 2, .sipush (-1), .if_icmp .ne 42, .sipush 0, .areturn] := rfl
theorem kb_39_42 : ex_blk 39 42 = [.aload 0, .iload 2, .putfield 258, .aload 0, .dup, .getfield 262, .sipush 1, .iadd, .putfield 262, .sipush 1, .areturn] := rfl
theorem kb_40_0 : ex_blk 40 0 = [.aload 0, .getfield 262, .ifCond .le 30, .iload 1, .invokestatic 673, .sipush (-1), .if_icmp .eq 30, .aload 0, .iload 1, .invokestatic 673, .putfield 260, .aload 0, .sipush 5, .putfield 261, .sipush 1, .areturn] := rfl
theorem kb_40_30 : ex_blk 40 30 = [.aload 0, .aload 0, .getfield 259, .iload 1, .invokevirtual 658, .istore 2, .iload 2, .sipush (-1), .if_icmp .ne 47, .sipush 0, .areturn] := rfl
theorem kb_40_47 : ex_blk 40 47 = [.aload 0, .iload 2, .putfield 259, .aload 0, .dup, .getfield 262, .sipush 1, .iadd, .putfield 262, .sipush 1, .areturn] := rfl
theorem kb_41_0 : ex_blk 41 0 = [.iload 2, .sipush 48, .if_icmp .lt 12, .iload 2, .sipush 57, .if_icmp .le 14, .jsr 12] := rfl
theorem kb_41_12 : ex_blk 41 12 = [.sipush (-1), .ireturn] := rfl
theorem kb_41_14 : ex_blk 41 14 = [.aload 0, .getfield 262, .ifCond .ne 26, .iload 2, .sipush 48, .isub, .ireturn] := rfl
theorem kb_41_26 : ex_blk 41 26 = [.sipush 10, .iload 1, .imul, .iload 2, .iadd, .sipush 48, .isub, .istore 3, .aload 0, .getfield 262, .sipush 1, .if_icmp .ne 58, .iload 1, .ifCond .eq 58, .iload 3, .sipush 24, .if_icmp .ge 58, .iload 3, .goto 59] := rfl
theorem kb_41_58 : ex_blk 41 58 = [.sipush (-1), .jsr 59] := rfl
theorem kb_41_59 : ex_blk 41 59 = [.ireturn] := rfl
theorem kb_42_0 : ex_blk 42 0 = [.iload 0, .tableswitch 64 102 111 #[60, 64, 56, 64, 64, 64, 64, 64, 58, 62]] := rfl
theorem kb_42_56 : ex_blk 42 56 = [.sipush 1, .ireturn] := rfl
theorem kb_42_58 : ex_blk 42 58 = [.sipush 2, .ireturn] := rfl
theorem kb_42_60 : ex_blk 42 60 = [.sipush 3, .ireturn] := rfl
theorem kb_42_62 : ex_blk 42 62 = [.sipush 4, .ireturn] := rfl
theorem kb_42_64 : ex_blk 42 64 = [.sipush (-1), .ireturn] := rfl
theorem kb_43_0 : ex_blk 43 0 = [.aload 0, .getfield 261, .sipush 5, .if_icmp .eq 23, .aload 0, .getfield 261, .sipush 3, .if_icmp .ne 27, .aload 0, .getfield 262, .ifCond .le 27, .jsr 23] := rfl
theorem kb_43_23 : ex_blk 43 23 = [.sipush 1, .goto 28] := rfl
theorem kb_43_27 : ex_blk 43 27 = [.sipush 0, .jsr 28] := rfl
theorem kb_43_28 : ex_blk 43 28 = [.areturn] := rfl
theorem kb_44_0 : ex_blk 44 0 = [.iload 1, .tableswitch 52 0 3 #[32, 37, 42, 47]] := rfl
theorem kb_44_32 : ex_blk 44 32 = [.aload 0, .getfield 256, .ireturn] := rfl
theorem kb_44_37 : ex_blk 44 37 = [.aload 0, .getfield 257, .ireturn] := rfl
theorem kb_44_42 : ex_blk 44 42 = [.aload 0, .getfield 258, .ireturn] := rfl
theorem kb_44_47 : ex_blk 44 47 = [.aload 0, .getfield 259, .ireturn] := rfl
theorem kb_44_52 : ex_blk 44 52 = [.aload 0, .getfield 260, .ireturn] := rfl
theorem kb_45_0 : ex_blk 45 0 = [.iload 1, .ifCond .eq 19, .iload 0, .iload 1, .if_icmp .eq 19, .iload 0, .sipush 3, .if_icmp .ne 23, .iload 1, .sipush 1, .if_icmp .ne 23, .jsr 19] := rfl
theorem kb_45_19 : ex_blk 45 19 = [.sipush 1, .goto 24] := rfl
theorem kb_45_23 : ex_blk 45 23 = [.sipush 0, .jsr 24] := rfl
theorem kb_45_24 : ex_blk 45 24 = [.areturn] := rfl
theorem kb_46_0 : ex_blk 46 0 = [.aload 0, .getfield 320, .invokevirtual 944, .ireturn] := rfl
theorem kb_47_0 : ex_blk 47 0 = [.aload 0, .getfield 320, .invokevirtual 960, .areturn] := rfl
theorem kb_48_0 : ex_blk 48 0 = [.aload 0, .getfield 320, .aload 1, .sipush 0, .invokevirtual 705, .aload 1, .sipush 1, .invokevirtual 705, .aload 1, .sipush 2, .invokevirtual 705, .aload 1, .sipush 3, .invokevirtual 705, .aload 1, .sipush 4, .invokevirtual 705, .invokevirtual 981, .ireturn] := rfl
theorem kb_49_0 : ex_blk 49 0 = [.aload 0, .getfield 320, .iload 1, .iload 2, .invokevirtual 994, .ireturn] := rfl
theorem kb_50_0 : ex_blk 50 0 = [.sipush 0, .istore 7, .sipush 0, .istore 8, .jsr 6] := rfl
theorem kb_50_6 : ex_blk 50 6 = [.iload 8, .aload 0, .getfield 320, .invokevirtual 944, .if_icmp .ge 73, .aload 0, .getfield 320, .iload 8, .sipush 1, .invokevirtual 994, .iload 2, .if_icmp .ne 67, .aload 0, .iload 8, .iload 3, .invokevirtual 818, .ifCond .eq 67, .aload 0, .aload 1, .iload 8, .iload 4, .iload 5, .iload 6, .invokevirtual 837, .ifCond .eq 67, .iload 7, .sipush 1, .iload 8, .ishl, .ior, .istore 7, .jsr 67] := rfl
theorem kb_50_67 : ex_blk 50 67 = [.iinc 8 1, .goto 6] := rfl
theorem kb_50_73 : ex_blk 50 73 = [.iload 7, .ireturn] := rfl
theorem kb_51_0 : ex_blk 51 0 = [.aload 0, .getfield 320, .iload 1, .sipush 2, .invokevirtual 994, .istore 3, .aload 0, .getfield 320, .iload 1, .sipush 3, .invokevirtual 994, .istore 4, .iload 3, .iload 4, .if_icmp .ge 44, .iload 2, .iload 3, .if_icmp .lt 42, .iload 2, .iload 4, .if_icmp .ge 42, .sipush 1, .goto 43] := rfl
theorem kb_51_42 : ex_blk 51 42 = [.sipush 0, .jsr 43] := rfl
theorem kb_51_43 : ex_blk 51 43 = [.areturn] := rfl
theorem kb_51_44 : ex_blk 51 44 = [.iload 3, .iload 4, .if_icmp .eq 61, .iload 2, .iload 3, .if_icmp .ge 61, .iload 2, .iload 4, .if_icmp .ge 65, .jsr 61] := rfl
theorem kb_51_61 : ex_blk 51 61 = [.sipush 1, .goto 66] := rfl
theorem kb_51_65 : ex_blk 51 65 = [.sipush 0, .jsr 66] := rfl
theorem kb_51_66 : ex_blk 51 66 = [.areturn] := rfl
theorem kb_52_0 : ex_blk 52 0 = [.aload 0, .getfield 320, .iload 2, .sipush 0, .invokevirtual 994, .istore 6, .iload 4, .sipush 2, .ishr, .istore 7, .aload 0, .getfield 320, .iload 2, .sipush 4, .invokevirtual 994, .tableswitch 180 1 4 #[56, 75, 100, 157]] := rfl
theorem kb_52_56 : ex_blk 52 56 = [.aload 1, .iload 7, .iload 5, .invokevirtual 322, .iload 6, .if_icmp .ne 73, .sipush 1, .goto 74] := rfl
theorem kb_52_73 : ex_blk 52 73 = [.sipush 0, .jsr 74] := rfl
theorem kb_52_74 : ex_blk 52 74 = [.areturn] := rfl
theorem kb_52_75 : ex_blk 52 75 = [.aload 1, .aload 1, .iload 3, .iload 4, .sipush 1, .invokevirtual 355, .iload 5, .invokevirtual 322, .iload 6, .if_icmp .ne 98, .sipush 1, .goto 99] := rfl
theorem kb_52_98 : ex_blk 52 98 = [.sipush 0, .jsr 99] := rfl
theorem kb_52_99 : ex_blk 52 99 = [.areturn] := rfl
theorem kb_52_100 : ex_blk 52 100 = [.aload 1, .iload 7, .iload 5, .invokevirtual 322, .iload 6, .if_icmp .ne 155, .aload 1, .aload 1, .iload 3, .iload 4, .sipush 2, .invokevirtual 355, .iload 5, .invokevirtual 322, .iload 6, .if_icmp .ne 155, .aload 1, .aload 1, .iload 3, .iload 4, .sipush 3, .invokevirtual 355, .iload 5, .invokevirtual 322, .iload 6, .if_icmp .ne 155, .sipush 1, .goto 156] := rfl
theorem kb_52_155 : ex_blk 52 155 = [.sipush 0, .jsr 156] := rfl
theorem kb_52_156 : ex_blk 52 156 = [.areturn] := rfl
theorem kb_52_157 : ex_blk 52 157 = [.aload 1, .aload 1, .iload 7, .invokevirtual 385, .iload 5, .invokevirtual 322, .iload 6, .if_icmp .ne 178, .sipush 1, .goto 179] := rfl
theorem kb_52_178 : ex_blk 52 178 = [.sipush 0, .jsr 179] := rfl
theorem kb_52_179 : ex_blk 52 179 = [.areturn] := rfl
theorem kb_52_180 : ex_blk 52 180 = [.sipush 1, .areturn] := rfl
theorem kb_53_0 : ex_blk 53 0 = [.sipush 0, .istore 2, .sipush 0, .istore 3, .sipush 0, .istore 4, .jsr 7] := rfl
theorem kb_53_7 : ex_blk 53 7 = [.iload 4, .sipush 8, .if_icmp .ge 59, .lload 0, .iload 4, .invokestatic 866, .istore 5, .iload 5, .sipush 126, .if_icmp .gt 38, .iload 3, .ifCond .eq 40, .iload 5, .ifCond .eq 40, .jsr 38] := rfl
theorem kb_53_38 : ex_blk 53 38 = [.sipush (-1), .ireturn] := rfl
theorem kb_53_40 : ex_blk 53 40 = [.iload 5, .ifCond .ne 50, .sipush 1, .istore 3, .goto 53] := rfl
theorem kb_53_50 : ex_blk 53 50 = [.iinc 2 1, .jsr 53] := rfl
theorem kb_53_53 : ex_blk 53 53 = [.iinc 4 1, .goto 7] := rfl
theorem kb_53_59 : ex_blk 53 59 = [.iload 2, .ireturn] := rfl
theorem kb_54_0 : ex_blk 54 0 = [.lload 0, .sipush 8, .iload 2, .imul, .lushr, .l2i, .sipush 255, .iand, .ireturn] := rfl
theorem kb_55_0 : ex_blk 55 0 = [.sipush 0, .istore 4, .jsr 3] := rfl
theorem kb_55_3 : ex_blk 55 3 = [.iload 4, .iload 3, .if_icmp .ge 49, .aload 0, .getfield 449, .sipush 40, .if_icmp .ge 49, .aload 0, .getfield 448, .aload 0, .getfield 449, .lload 1, .iload 4, .invokestatic 866, .iastore, .aload 0, .dup, .getfield 449, .sipush 1, .iadd, .putfield 449, .iinc 4 1, .goto 3] := rfl
theorem kb_55_49 : ex_blk 55 49 = [.return_] := rfl
theorem kb_56_0 : ex_blk 56 0 = [.aload 0, .getfield 449, .ireturn] := rfl
theorem kb_57_0 : ex_blk 57 0 = [.iload 1, .aload 0, .getfield 449, .invokestatic 1330, .ifCond .eq 20, .aload 0, .getfield 448, .iload 1, .iaload, .goto 21] := rfl
theorem kb_57_20 : ex_blk 57 20 = [.sipush 0, .jsr 21] := rfl
theorem kb_57_21 : ex_blk 57 21 = [.ireturn] := rfl
theorem kb_58_0 : ex_blk 58 0 = [.aload 0, .sipush 0, .putfield 449, .return_] := rfl
theorem kb_59_0 : ex_blk 59 0 = [.aload 0, .getfield 514, .ireturn] := rfl
theorem kb_60_0 : ex_blk 60 0 = [.aload 0, .getfield 514, .aload 0, .getfield 513, .if_icmp .ge 24, .aload 0, .getfield 514, .sipush 1, .iadd, .sipush 5, .imul, .sipush 60, .if_icmp .le 28, .jsr 24] := rfl
theorem kb_60_24 : ex_blk 60 24 = [.sipush 1, .goto 29] := rfl
theorem kb_60_28 : ex_blk 60 28 = [.sipush 0, .jsr 29] := rfl
theorem kb_60_29 : ex_blk 60 29 = [.areturn] := rfl
theorem kb_61_0 : ex_blk 61 0 = [.aload 0, .invokevirtual 960, .ifCond .eq 9, .sipush (-1), .ireturn] := rfl
theorem kb_61_9 : ex_blk 61 9 = [.aload 0, .getfield 514, .istore 6, .aload 0, .dup, .getfield 514, .sipush 1, .iadd, .putfield 514, .aload 0, .iload 6, .sipush 0, .iload 1, .invokevirtual 1011, .aload 0, .iload 6, .sipush 1, .iload 2, .invokevirtual 1011, .aload 0, .iload 6, .sipush 2, .iload 3, .invokevirtual 1011, .aload 0, .iload 6, .sipush 3, .iload 4, .invokevirtual 1011, .aload 0, .iload 6, .sipush 4, .iload 5, .invokevirtual 1011, .iload 6, .ireturn] := rfl
theorem kb_62_0 : ex_blk 62 0 = [.iload 1, .sipush 5, .imul, .iload 2, .iadd, .istore 3, .iload 1, .aload 0, .getfield 514, .invokestatic 1330, .ifCond .eq 35, .iload 3, .sipush 60, .invokestatic 1330, .ifCond .eq 35, .aload 0, .getfield 512, .iload 3, .iaload, .goto 36] := rfl
theorem kb_62_35 : ex_blk 62 35 = [.sipush (-1), .jsr 36] := rfl
theorem kb_62_36 : ex_blk 62 36 = [.ireturn] := rfl
theorem kb_63_0 : ex_blk 63 0 = [.iload 1, .sipush 5, .imul, .iload 2, .iadd, .istore 4, .iload 1, .aload 0, .getfield 514, .invokestatic 1330, .ifCond .eq 36, .iload 4, .sipush 60, .invokestatic 1330, .ifCond .eq 36, .aload 0, .getfield 512, .iload 4, .iload 3, .iastore, .jsr 36] := rfl
theorem kb_63_36 : ex_blk 63 36 = [.return_] := rfl
theorem kb_64_0 : ex_blk 64 0 = [.aload 0, .sipush 0, .putfield 514, .return_] := rfl
theorem kb_65_0 : ex_blk 65 0 = [.aload 0, .invokeinterface 1 0, .sipush 0, .istore 2, .jsr 6] := rfl
theorem kb_65_6 : ex_blk 65 6 = [.iload 2, .aload 1, .invokevirtual 896, .if_icmp .ge 34, .aload 0, .aload 1, .iload 2, .invokevirtual 913, .invokeinterface 2 1, .ifCond .ne 28, .iload 2, .ireturn] := rfl
theorem kb_65_28 : ex_blk 65 28 = [.iinc 2 1, .goto 6] := rfl
theorem kb_65_34 : ex_blk 65 34 = [.aload 1, .invokevirtual 896, .ireturn] := rfl
theorem kb_66_0 : ex_blk 66 0 = [.aload 0, .aload 1, .invokeinterface 5 1, .aload 1, .invokevirtual 896, .if_icmp .ne 23, .aload 0, .invokeinterface 6 0, .ifCond .eq 23, .sipush 1, .goto 24] := rfl
theorem kb_66_23 : ex_blk 66 23 = [.sipush 0, .jsr 24] := rfl
theorem kb_66_24 : ex_blk 66 24 = [.areturn] := rfl
theorem kb_67_0 : ex_blk 67 0 = [.lload 1, .invokestatic 849, .istore 3, .iload 3, .ifCond .ge 12, .sipush (-102), .ireturn] := rfl
theorem kb_67_12 : ex_blk 67 12 = [.aload 0, .getfield 640, .invokevirtual 896, .iload 3, .iadd, .sipush 40, .if_icmp .le 29, .sipush (-104), .ireturn] := rfl
theorem kb_67_29 : ex_blk 67 29 = [.aload 0, .getfield 640, .lload 1, .iload 3, .invokevirtual 882, .aload 0, .getfield 640, .invokevirtual 896, .ireturn] := rfl
theorem kb_68_0 : ex_blk 68 0 = [.iload 1, .sipush 2, .invokestatic 1330, .ifCond .ne 11, .sipush (-102), .ireturn] := rfl
theorem kb_68_11 : ex_blk 68 11 = [.iload 1, .ifCond .ne 29, .aload 0, .getfield 641, .aload 0, .getfield 640, .invokeinterface 0 1, .goto 40] := rfl
theorem kb_68_29 : ex_blk 68 29 = [.aload 0, .getfield 642, .aload 0, .getfield 640, .invokeinterface 3 1, .jsr 40] := rfl
theorem kb_68_40 : ex_blk 68 40 = [.ireturn] := rfl
theorem kb_69_0 : ex_blk 69 0 = [.aload 0, .getfield 641, .aload 0, .getfield 640, .invokeinterface 4 1, .ifCond .ne 17, .sipush (-103), .ireturn] := rfl
theorem kb_69_17 : ex_blk 69 17 = [.aload 0, .getfield 643, .aload 0, .getfield 640, .invokevirtual 97, .aload 0, .getfield 640, .invokevirtual 928, .aload 0, .getfield 645, .invokevirtual 0, .aload 0, .sipush 0, .putfield 649, .aload 0, .dup, .getfield 650, .sipush 1, .iadd, .putfield 650, .aload 0, .getfield 643, .invokevirtual 240, .ireturn] := rfl
theorem kb_70_0 : ex_blk 70 0 = [.aload 0, .getfield 642, .aload 0, .getfield 640, .invokeinterface 7 1, .ifCond .ne 17, .sipush (-103), .ireturn] := rfl
theorem kb_70_17 : ex_blk 70 17 = [.aload 0, .getfield 644, .invokevirtual 752, .ifCond .eq 30, .sipush (-104), .ireturn] := rfl
theorem kb_70_30 : ex_blk 70 30 = [.aload 0, .getfield 640, .invokevirtual 928, .aload 0, .getfield 644, .aload 0, .getfield 642, .invokevirtual 769, .ireturn] := rfl
theorem kb_71_0 : ex_blk 71 0 = [.iload 1, .aload 0, .getfield 644, .invokevirtual 736, .invokestatic 1330, .ifCond .ne 17, .sipush (-101), .ireturn] := rfl
theorem kb_71_17 : ex_blk 71 17 = [.iload 2, .sipush 5, .invokestatic 1330, .ifCond .eq 37, .aload 0, .getfield 644, .iload 1, .iload 2, .invokevirtual 786, .goto 39] := rfl
theorem kb_71_37 : ex_blk 71 37 = [.sipush (-102), .jsr 39] := rfl
theorem kb_71_39 : ex_blk 71 39 = [.ireturn] := rfl
theorem kb_72_0 : ex_blk 72 0 = [.iload 1, .aload 0, .getfield 644, .invokevirtual 736, .invokestatic 1330, .ifCond .ne 17, .sipush (-101), .ireturn] := rfl
theorem kb_72_17 : ex_blk 72 17 = [.iload 2, .sipush 5, .invokestatic 1330, .ifCond .ne 28, .sipush (-102), .ireturn] := rfl
theorem kb_72_28 : ex_blk 72 28 = [.aload 0, .getfield 644, .iload 1, .sipush 4, .invokevirtual 786, .iload 2, .invokestatic 722, .ifCond .eq 48, .iload 1, .goto 49] := rfl
theorem kb_72_48 : ex_blk 72 48 = [.sipush (-1), .jsr 49] := rfl
theorem kb_72_49 : ex_blk 72 49 = [.ireturn] := rfl
theorem kb_73_0 : ex_blk 73 0 = [.aload 0, .getfield 643, .iload 1, .invokevirtual 257, .ifCond .ne 14, .sipush (-101), .ireturn] := rfl
theorem kb_73_14 : ex_blk 73 14 = [.iload 2, .sipush 4, .invokestatic 1330, .ifCond .eq 31, .aload 0, .iload 1, .iload 2, .invokevirtual 1378, .goto 33] := rfl
theorem kb_73_31 : ex_blk 73 31 = [.sipush (-102), .jsr 33] := rfl
theorem kb_73_33 : ex_blk 73 33 = [.ireturn] := rfl
theorem kb_74_0 : ex_blk 74 0 = [.aload 0, .getfield 643, .iload 2, .invokevirtual 289, .ifCond .ne 14, .sipush (-101), .ireturn] := rfl
theorem kb_74_14 : ex_blk 74 14 = [.iload 1, .sipush 3, .invokestatic 1330, .ifCond .eq 39, .iload 3, .sipush 4, .invokestatic 1330, .ifCond .eq 39, .iload 4, .sipush 4, .invokestatic 1330, .ifCond .ne 42, .jsr 39] := rfl
theorem kb_74_39 : ex_blk 74 39 = [.sipush (-102), .ireturn] := rfl
theorem kb_74_42 : ex_blk 74 42 = [.aload 0, .getfield 643, .iload 1, .sipush 4, .iload 2, .imul, .iload 3, .iadd, .iload 4, .invokevirtual 355, .ireturn] := rfl
theorem kb_75_0 : ex_blk 75 0 = [.aload 0, .getfield 643, .iload 4, .invokevirtual 289, .ifCond .ne 15, .sipush (-101), .ireturn] := rfl
theorem kb_75_15 : ex_blk 75 15 = [.iload 1, .iload 2, .iload 3, .invokestatic 1347, .ifCond .eq 33, .iload 5, .sipush 4, .invokestatic 1330, .ifCond .ne 36, .jsr 33] := rfl
theorem kb_75_33 : ex_blk 75 33 = [.sipush (-102), .ireturn] := rfl
theorem kb_75_36 : ex_blk 75 36 = [.aload 0, .getfield 644, .aload 0, .getfield 643, .iload 1, .iload 2, .iload 3, .sipush 4, .iload 4, .imul, .iload 5, .iadd, .sipush 0, .invokevirtual 806, .ireturn] := rfl
theorem kb_76_0 : ex_blk 76 0 = [.aload 0, .getfield 643, .iload 4, .invokevirtual 289, .ifCond .ne 15, .sipush (-101), .ireturn] := rfl
theorem kb_76_15 : ex_blk 76 15 = [.iload 2, .iload 1, .iload 3, .invokestatic 1347, .ifCond .eq 33, .iload 5, .sipush 4, .invokestatic 1330, .ifCond .ne 36, .jsr 33] := rfl
theorem kb_76_33 : ex_blk 76 33 = [.sipush (-102), .ireturn] := rfl
theorem kb_76_36 : ex_blk 76 36 = [.aload 0, .getfield 645, .getfield 1, .invokevirtual 960, .ifCond .eq 52, .sipush (-104), .ireturn] := rfl
theorem kb_76_52 : ex_blk 76 52 = [.aload 0, .getfield 645, .getfield 1, .iload 1, .iload 2, .iload 3, .iload 4, .iload 5, .invokevirtual 981, .ireturn] := rfl
theorem kb_77_0 : ex_blk 77 0 = [.iload 1, .sipush 2, .invokestatic 1330, .ifCond .ne 11, .sipush (-102), .ireturn] := rfl
theorem kb_77_11 : ex_blk 77 11 = [.aload 0, .invokevirtual 1408, .istore 2, .iload 2, .sipush (-1), .if_icmp .eq 25, .iload 1, .ifCond .ne 27, .jsr 25] := rfl
theorem kb_77_25 : ex_blk 77 25 = [.iload 2, .ireturn] := rfl
theorem kb_77_27 : ex_blk 77 27 = [.aload 0, .iload 2, .sipush 0, .invokevirtual 1394, .invokestatic 1361, .ireturn] := rfl
theorem kb_78_0 : ex_blk 78 0 = [.aload 0, .getfield 643, .invokevirtual 224, .ifCond .ne 13, .sipush (-103), .ireturn] := rfl
theorem kb_78_13 : ex_blk 78 13 = [.iload 1, .iload 2, .iload 3, .invokestatic 1347, .ifCond .eq 31, .iload 4, .sipush 3, .invokestatic 1330, .ifCond .ne 34, .jsr 31] := rfl
theorem kb_78_31 : ex_blk 78 31 = [.sipush (-102), .ireturn] := rfl
theorem kb_78_34 : ex_blk 78 34 = [.sipush 0, .istore 5, .sipush 0, .istore 6, .jsr 40] := rfl
theorem kb_78_40 : ex_blk 78 40 = [.iload 6, .aload 0, .getfield 643, .invokevirtual 240, .if_icmp .ge 87, .aload 0, .getfield 643, .iload 6, .invokevirtual 289, .ifCond .eq 81, .aload 0, .iload 1, .iload 2, .iload 3, .iload 6, .invokevirtual 1428, .iload 4, .if_icmp .ne 81, .iinc 5 1, .jsr 81] := rfl
theorem kb_78_81 : ex_blk 78 81 = [.iinc 6 1, .goto 40] := rfl
theorem kb_78_87 : ex_blk 78 87 = [.iload 5, .ireturn] := rfl
theorem kb_79_0 : ex_blk 79 0 = [.aload 0, .getfield 643, .invokevirtual 224, .ifCond .ne 13, .sipush (-103), .ireturn] := rfl
theorem kb_79_13 : ex_blk 79 13 = [.iload 1, .sipush (-3), .if_icmp .lt 24, .iload 1, .sipush 3, .if_icmp .le 27, .jsr 24] := rfl
theorem kb_79_24 : ex_blk 79 24 = [.sipush (-102), .ireturn] := rfl
theorem kb_79_27 : ex_blk 79 27 = [.sipush 0, .istore 2, .sipush 0, .istore 3, .jsr 31] := rfl
theorem kb_79_31 : ex_blk 79 31 = [.iload 3, .aload 0, .getfield 645, .getfield 1, .invokevirtual 944, .if_icmp .ge 66, .aload 0, .iload 3, .iload 1, .invokevirtual 1394, .ifCond .eq 60, .iload 2, .sipush 1, .iload 3, .ishl, .ior, .istore 2, .jsr 60] := rfl
theorem kb_79_60 : ex_blk 79 60 = [.iinc 3 1, .goto 31] := rfl
theorem kb_79_66 : ex_blk 79 66 = [.iload 2, .ireturn] := rfl
theorem kb_80_0 : ex_blk 80 0 = [.aload 0, .getfield 643, .iload 1, .invokevirtual 257, .ifCond .ne 14, .sipush (-101), .ireturn] := rfl
theorem kb_80_14 : ex_blk 80 14 = [.iload 2, .sipush 2, .invokestatic 1330, .ifCond .ne 25, .sipush (-102), .ireturn] := rfl
theorem kb_80_25 : ex_blk 80 25 = [.aload 0, .getfield 645, .getfield 3, .invokevirtual 960, .ifCond .eq 41, .sipush (-104), .ireturn] := rfl
theorem kb_80_41 : ex_blk 80 41 = [.aload 0, .getfield 645, .getfield 3, .iload 1, .iload 2, .sipush 0, .sipush 0, .sipush 0, .invokevirtual 981, .pop, .aload 0, .getfield 645, .getfield 3, .invokevirtual 944, .ireturn] := rfl
theorem kb_81_0 : ex_blk 81 0 = [.aload 0, .getfield 643, .invokevirtual 224, .ifCond .eq 17, .aload 0, .invokevirtual 1440, .goto 19] := rfl
theorem kb_81_17 : ex_blk 81 17 = [.sipush (-103), .jsr 19] := rfl
theorem kb_81_19 : ex_blk 81 19 = [.ireturn] := rfl
theorem kb_82_0 : ex_blk 82 0 = [.iload 1, .tableswitch 130 0 8 #[52, 60, 68, 79, 90, 101, 112, 120, 125]] := rfl
theorem kb_82_52 : ex_blk 82 52 = [.aload 0, .getfield 643, .invokevirtual 240, .ireturn] := rfl
theorem kb_82_60 : ex_blk 82 60 = [.aload 0, .getfield 644, .invokevirtual 736, .ireturn] := rfl
theorem kb_82_68 : ex_blk 82 68 = [.aload 0, .getfield 645, .getfield 1, .invokevirtual 944, .ireturn] := rfl
theorem kb_82_79 : ex_blk 82 79 = [.aload 0, .getfield 645, .getfield 0, .invokevirtual 944, .ireturn] := rfl
theorem kb_82_90 : ex_blk 82 90 = [.aload 0, .getfield 645, .getfield 2, .invokevirtual 944, .ireturn] := rfl
theorem kb_82_101 : ex_blk 82 101 = [.aload 0, .getfield 645, .getfield 3, .invokevirtual 944, .ireturn] := rfl
theorem kb_82_112 : ex_blk 82 112 = [.aload 0, .getfield 640, .invokevirtual 896, .ireturn] := rfl
theorem kb_82_120 : ex_blk 82 120 = [.aload 0, .getfield 650, .ireturn] := rfl
theorem kb_82_125 : ex_blk 82 125 = [.aload 0, .getfield 651, .ireturn] := rfl
theorem kb_82_130 : ex_blk 82 130 = [.sipush (-102), .ireturn] := rfl
theorem kb_83_0 : ex_blk 83 0 = [.iload 0, .ifCond .lt 13, .iload 0, .iload 1, .if_icmp .ge 13, .sipush 1, .goto 14] := rfl
theorem kb_83_13 : ex_blk 83 13 = [.sipush 0, .jsr 14] := rfl
theorem kb_83_14 : ex_blk 83 14 = [.areturn] := rfl
theorem kb_84_0 : ex_blk 84 0 = [.iload 0, .sipush 6, .invokestatic 1330, .ifCond .eq 30, .iload 1, .sipush 24, .invokestatic 1330, .ifCond .eq 30, .iload 2, .sipush 3, .invokestatic 1330, .ifCond .eq 30, .sipush 1, .goto 31] := rfl
theorem kb_84_30 : ex_blk 84 30 = [.sipush 0, .jsr 31] := rfl
theorem kb_84_31 : ex_blk 84 31 = [.areturn] := rfl
theorem kb_85_0 : ex_blk 85 0 = [.sipush 0, .istore 1, .jsr 2] := rfl
theorem kb_85_2 : ex_blk 85 2 = [.iload 1, .sipush 32, .if_icmp .ge 24, .iload 0, .iload 1, .ishr, .sipush 1, .iand, .ifCond .eq 18, .iload 1, .ireturn] := rfl
theorem kb_85_18 : ex_blk 85 18 = [.iinc 1 1, .goto 2] := rfl
theorem kb_85_24 : ex_blk 85 24 = [.sipush (-1), .ireturn] := rfl
theorem kb_86_0 : ex_blk 86 0 = [.iload 2, .tableswitch 60 0 2 #[28, 37, 47]] := rfl
theorem kb_86_28 : ex_blk 86 28 = [.aload 0, .getfield 643, .iload 1, .invokevirtual 273, .ireturn] := rfl
theorem kb_86_37 : ex_blk 86 37 = [.aload 0, .getfield 643, .iload 1, .sipush 0, .invokevirtual 322, .ireturn] := rfl
theorem kb_86_47 : ex_blk 86 47 = [.aload 0, .getfield 645, .aload 0, .getfield 643, .iload 1, .invokevirtual 82, .ireturn] := rfl
theorem kb_86_60 : ex_blk 86 60 = [.aload 0, .getfield 643, .iload 1, .invokevirtual 369, .ireturn] := rfl
theorem kb_87_0 : ex_blk 87 0 = [.aload 0, .getfield 645, .getfield 1, .astore 3, .sipush 4, .aload 3, .iload 1, .sipush 3, .invokevirtual 994, .imul, .aload 3, .iload 1, .sipush 4, .invokevirtual 994, .iadd, .istore 4, .aload 0, .getfield 644, .aload 0, .getfield 643, .aload 3, .iload 1, .sipush 1, .invokevirtual 994, .aload 3, .iload 1, .sipush 0, .invokevirtual 994, .aload 3, .iload 1, .sipush 2, .invokevirtual 994, .iload 4, .iload 2, .invokevirtual 806, .ireturn] := rfl
theorem kb_88_0 : ex_blk 88 0 = [.sipush (-1), .istore 1, .sipush 24, .istore 2, .sipush 0, .istore 3, .jsr 7] := rfl
theorem kb_88_7 : ex_blk 88 7 = [.iload 3, .aload 0, .getfield 645, .getfield 1, .invokevirtual 944, .if_icmp .ge 61, .aload 0, .getfield 645, .getfield 1, .iload 3, .sipush 0, .invokevirtual 994, .istore 4, .iload 4, .iload 2, .if_icmp .ge 55, .aload 0, .iload 3, .sipush 0, .invokevirtual 1394, .ifCond .eq 55, .iload 4, .istore 2, .iload 3, .istore 1, .jsr 55] := rfl
theorem kb_88_55 : ex_blk 88 55 = [.iinc 3 1, .goto 7] := rfl
theorem kb_88_61 : ex_blk 88 61 = [.iload 1, .ireturn] := rfl
theorem kb_89_0 : ex_blk 89 0 = [.sipush 0, .istore 5, .sipush 0, .istore 6, .jsr 6] := rfl
theorem kb_89_6 : ex_blk 89 6 = [.iload 6, .sipush 4, .if_icmp .ge 46, .aload 0, .getfield 644, .aload 0, .getfield 643, .iload 1, .iload 2, .iload 3, .sipush 4, .iload 4, .imul, .iload 6, .iadd, .sipush 0, .invokevirtual 806, .ifCond .eq 40, .iinc 5 1, .jsr 40] := rfl
theorem kb_89_40 : ex_blk 89 40 = [.iinc 6 1, .goto 6] := rfl
theorem kb_89_46 : ex_blk 89 46 = [.iload 5, .ifCond .ne 53, .sipush 0, .ireturn] := rfl
theorem kb_89_53 : ex_blk 89 53 = [.iload 5, .sipush 4, .if_icmp .ge 63, .sipush 1, .goto 64] := rfl
theorem kb_89_63 : ex_blk 89 63 = [.sipush 2, .jsr 64] := rfl
theorem kb_89_64 : ex_blk 89 64 = [.ireturn] := rfl
theorem kb_90_0 : ex_blk 90 0 = [.sipush 0, .istore 1, .sipush (-3), .istore 2, .jsr 5] := rfl
theorem kb_90_5 : ex_blk 90 5 = [.iload 2, .sipush 3, .if_icmp .gt 32, .aload 0, .iload 2, .invokevirtual 1457, .ifCond .eq 26, .iload 1, .sipush 1, .iload 2, .sipush 3, .iadd, .ishl, .ior, .istore 1, .jsr 26] := rfl
theorem kb_90_26 : ex_blk 90 26 = [.iinc 2 1, .goto 5] := rfl
theorem kb_90_32 : ex_blk 90 32 = [.iload 1, .ireturn] := rfl
theorem kb_91_0 : ex_blk 91 0 = [.sipush 0, .istore 2, .jsr 2] := rfl
theorem kb_91_2 : ex_blk 91 2 = [.iload 2, .aload 0, .getfield 645, .getfield 3, .invokevirtual 944, .if_icmp .ge 59, .aload 0, .getfield 643, .aload 0, .getfield 645, .getfield 3, .iload 2, .sipush 0, .invokevirtual 994, .iload 1, .invokevirtual 322, .aload 0, .getfield 645, .getfield 3, .iload 2, .sipush 1, .invokevirtual 994, .if_icmp .eq 53, .sipush 0, .areturn] := rfl
theorem kb_91_53 : ex_blk 91 53 = [.iinc 2 1, .goto 2] := rfl
theorem kb_91_59 : ex_blk 91 59 = [.sipush 1, .areturn] := rfl
theorem kb_92_0 : ex_blk 92 0 = [.iload 1, .aload 0, .arraylength, .if_icmp .ge 12, .aload 0, .iload 1, .iaload, .goto 20] := rfl
theorem kb_92_12 : ex_blk 92 12 = [.sipush 7919, .iload 1, .imul, .sipush 13, .iadd, .jsr 20] := rfl
theorem kb_92_20 : ex_blk 92 20 = [.sipush 2147483647, .iand, .ireturn] := rfl
theorem kb_93_0 : ex_blk 93 0 = [.aload 0, .iload 1, .i2l, .invokevirtual 1073, .ifCond .le 13, .sipush 1, .goto 14] := rfl
theorem kb_93_13 : ex_blk 93 13 = [.sipush 0, .jsr 14] := rfl
theorem kb_93_14 : ex_blk 93 14 = [.areturn] := rfl
theorem kb_94_0 : ex_blk 94 0 = [.iload 1, .sipush 10, .if_icmp .lt 20, .aload 0, .sipush 48, .iload 1, .sipush 10, .idiv, .iadd, .invokestatic 1490, .ifCond .eq 38, .jsr 20] := rfl
theorem kb_94_20 : ex_blk 94 20 = [.aload 0, .sipush 48, .iload 1, .sipush 10, .irem, .iadd, .invokestatic 1490, .ifCond .eq 38, .sipush 1, .goto 39] := rfl
theorem kb_94_38 : ex_blk 94 38 = [.sipush 0, .jsr 39] := rfl
theorem kb_94_39 : ex_blk 94 39 = [.areturn] := rfl
theorem kb_95_0 : ex_blk 95 0 = [.aload 3, .sipush 0, .sipush 2, .aload 1, .iload 2, .invokestatic 1474, .sipush 3, .irem, .iadd, .iastore, .aload 3, .sipush 1, .sipush 2, .aload 1, .iload 2, .invokestatic 1474, .sipush 4, .idiv, .sipush 5, .irem, .iadd, .iastore, .sipush 1, .istore 5, .sipush 0, .istore 6, .jsr 32] := rfl
theorem kb_95_32 : ex_blk 95 32 = [.iload 6, .aload 3, .sipush 0, .iaload, .if_icmp .ge 301, .aload 3, .sipush 2, .iload 6, .iadd, .aload 1, .iload 2, .invokestatic 1474, .iload 6, .ifCond .ne 60, .sipush 64, .goto 86] := rfl
theorem kb_95_60 : ex_blk 95 60 = [.iload 6, .sipush 1, .if_icmp .ne 72, .sipush 512, .goto 86] := rfl
theorem kb_95_72 : ex_blk 95 72 = [.iload 6, .sipush 2, .if_icmp .ne 84, .sipush 4096, .goto 86] := rfl
theorem kb_95_84 : ex_blk 95 84 = [.sipush 32768, .jsr 86] := rfl
theorem kb_95_86 : ex_blk 95 86 = [.idiv, .aload 3, .sipush 1, .iaload, .sipush 1, .iadd, .irem, .iastore, .iload 5, .ifCond .eq 135, .iload 6, .ifCond .eq 113, .aload 0, .sipush 47, .invokestatic 1490, .ifCond .eq 135, .jsr 113] := rfl
theorem kb_95_113 : ex_blk 95 113 = [.aload 3, .sipush 2, .iload 6, .iadd, .iaload, .ifCond .gt 131, .aload 0, .sipush 124, .invokestatic 1490, .ifCond .eq 135, .jsr 131] := rfl
theorem kb_95_131 : ex_blk 95 131 = [.sipush 1, .goto 136] := rfl
theorem kb_95_135 : ex_blk 95 135 = [.sipush 0, .jsr 136] := rfl
theorem kb_95_136 : ex_blk 95 136 = [.istore 5, .sipush 0, .istore 7, .jsr 141] := rfl
theorem kb_95_141 : ex_blk 95 141 = [.iload 7, .aload 3, .sipush 1, .iaload, .if_icmp .ge 295, .aload 3, .sipush 1, .iaload, .iload 6, .imul, .iload 7, .iadd, .istore 8, .aload 1, .iload 2, .sipush 1, .iadd, .iload 8, .sipush 8, .idiv, .iadd, .invokestatic 1474, .sipush 3, .iload 8, .sipush 8, .irem, .imul, .ishr, .sipush 7, .iand, .istore 9, .aload 4, .iload 8, .iload 8, .ifCond .eq 202, .iload 9, .sipush 6, .if_icmp .ge 206, .jsr 202] := rfl
theorem kb_95_202 : ex_blk 95 202 = [.sipush 0, .goto 218] := rfl
theorem kb_95_206 : ex_blk 95 206 = [.iload 9, .sipush 6, .if_icmp .ne 217, .sipush 1, .goto 218] := rfl
theorem kb_95_217 : ex_blk 95 217 = [.sipush 2, .jsr 218] := rfl
theorem kb_95_218 : ex_blk 95 218 = [.iastore, .iload 5, .ifCond .eq 286, .aload 0, .aload 4, .iload 8, .iaload, .ifCond .ne 238, .sipush 46, .goto 254] := rfl
theorem kb_95_238 : ex_blk 95 238 = [.aload 4, .iload 8, .iaload, .sipush 1, .if_icmp .ne 252, .sipush 35, .goto 254] := rfl
theorem kb_95_252 : ex_blk 95 252 = [.sipush 100, .jsr 254] := rfl
theorem kb_95_254 : ex_blk 95 254 = [.invokestatic 1490, .ifCond .eq 286, .aload 3, .sipush 2, .iload 6, .iadd, .iaload, .iload 7, .sipush 1, .iadd, .if_icmp .ne 282, .aload 0, .sipush 124, .invokestatic 1490, .ifCond .eq 286, .jsr 282] := rfl
theorem kb_95_282 : ex_blk 95 282 = [.sipush 1, .goto 287] := rfl
theorem kb_95_286 : ex_blk 95 286 = [.sipush 0, .jsr 287] := rfl
theorem kb_95_287 : ex_blk 95 287 = [.istore 5, .iinc 7 1, .goto 141] := rfl
theorem kb_95_295 : ex_blk 95 295 = [.iinc 6 1, .goto 32] := rfl
theorem kb_95_301 : ex_blk 95 301 = [.iload 5, .ifCond .eq 338, .aload 0, .sipush 0, .invokevirtual 1089, .aload 0, .sipush 6, .invokevirtual 1313, .if_icmp .ne 338, .aload 0, .invokevirtual 1104, .aload 3, .sipush 0, .iaload, .aload 3, .sipush 1, .iaload, .imul, .if_icmp .ne 338, .sipush 1, .goto 339] := rfl
theorem kb_95_338 : ex_blk 95 338 = [.sipush 0, .jsr 339] := rfl
theorem kb_95_339 : ex_blk 95 339 = [.areturn] := rfl
theorem kb_96_0 : ex_blk 96 0 = [.aload 3, .sipush 5, .iload 2, .imul, .iload 1, .sipush 2, .irem, .iastore, .aload 3, .sipush 5, .iload 2, .imul, .sipush 1, .iadd, .iload 1, .sipush 2, .idiv, .sipush 6, .irem, .iastore, .aload 3, .sipush 5, .iload 2, .imul, .sipush 2, .iadd, .iload 1, .sipush 16, .idiv, .sipush 24, .irem, .iastore, .aload 3, .sipush 5, .iload 2, .imul, .sipush 3, .iadd, .iload 1, .sipush 512, .idiv, .sipush 24, .irem, .iastore, .aload 3, .sipush 5, .iload 2, .imul, .sipush 4, .iadd, .iload 1, .sipush 16384, .idiv, .sipush 5, .irem, .iastore, .aload 3, .sipush 5, .iload 2, .imul, .sipush 4, .iadd, .iaload, .istore 4, .aload 0, .iload 1, .sipush 2, .irem, .ifCond .ne 85, .sipush 119, .goto 87] := rfl
theorem kb_96_85 : ex_blk 96 85 = [.sipush 101, .jsr 87] := rfl
theorem kb_96_87 : ex_blk 96 87 = [.invokestatic 1490, .ifCond .eq 198, .aload 0, .sipush 97, .aload 3, .sipush 5, .iload 2, .imul, .sipush 1, .iadd, .iaload, .iadd, .invokestatic 1490, .ifCond .eq 198, .aload 0, .aload 3, .sipush 5, .iload 2, .imul, .sipush 2, .iadd, .iaload, .invokestatic 1506, .ifCond .eq 198, .aload 0, .sipush 45, .invokestatic 1490, .ifCond .eq 198, .aload 0, .aload 3, .sipush 5, .iload 2, .imul, .sipush 3, .iadd, .iaload, .invokestatic 1506, .ifCond .eq 198, .iload 4, .ifCond .eq 194, .aload 0, .iload 4, .sipush 1, .if_icmp .ne 164, .sipush 104, .goto 188] := rfl
theorem kb_96_164 : ex_blk 96 164 = [.iload 4, .sipush 2, .if_icmp .ne 175, .sipush 110, .goto 188] := rfl
theorem kb_96_175 : ex_blk 96 175 = [.iload 4, .sipush 3, .if_icmp .ne 186, .sipush 102, .goto 188] := rfl
theorem kb_96_186 : ex_blk 96 186 = [.sipush 111, .jsr 188] := rfl
theorem kb_96_188 : ex_blk 96 188 = [.invokestatic 1490, .ifCond .eq 198, .jsr 194] := rfl
theorem kb_96_194 : ex_blk 96 194 = [.sipush 1, .goto 199] := rfl
theorem kb_96_198 : ex_blk 96 198 = [.sipush 0, .jsr 199] := rfl
theorem kb_96_199 : ex_blk 96 199 = [.istore 5, .iload 5, .ifCond .eq 232, .aload 0, .sipush 1, .invokevirtual 1089, .aload 0, .sipush 6, .invokevirtual 1313, .if_icmp .ne 232, .aload 0, .invokevirtual 1120, .iload 2, .if_icmp .ne 232, .sipush 1, .goto 233] := rfl
theorem kb_96_232 : ex_blk 96 232 = [.sipush 0, .jsr 233] := rfl
theorem kb_96_233 : ex_blk 96 233 = [.areturn] := rfl
theorem kb_97_0 : ex_blk 97 0 = [.iload 1, .aload 0, .sipush 1, .iaload, .idiv, .iload 2, .ifCond .ne 13, .sipush (-1), .goto 23] := rfl
theorem kb_97_13 : ex_blk 97 13 = [.iload 2, .sipush 2, .if_icmp .ne 22, .sipush 1, .goto 23] := rfl
theorem kb_97_22 : ex_blk 97 22 = [.sipush 0, .jsr 23] := rfl
theorem kb_97_23 : ex_blk 97 23 = [.iadd, .istore 3, .iload 1, .aload 0, .sipush 1, .iaload, .irem, .iload 2, .sipush 1, .if_icmp .ne 39, .sipush 1, .goto 49] := rfl
theorem kb_97_39 : ex_blk 97 39 = [.iload 2, .sipush 3, .if_icmp .ne 48, .sipush (-1), .goto 49] := rfl
theorem kb_97_48 : ex_blk 97 48 = [.sipush 0, .jsr 49] := rfl
theorem kb_97_49 : ex_blk 97 49 = [.iadd, .istore 4, .iload 3, .ifCond .lt 76, .iload 3, .aload 0, .sipush 0, .iaload, .if_icmp .eq 76, .iload 4, .ifCond .lt 76, .iload 4, .aload 0, .sipush 1, .iaload, .if_icmp .ne 80, .jsr 76] := rfl
theorem kb_97_76 : ex_blk 97 76 = [.sipush (-1), .goto 88] := rfl
theorem kb_97_80 : ex_blk 97 80 = [.aload 0, .sipush 1, .iaload, .iload 3, .imul, .iload 4, .iadd, .jsr 88] := rfl
theorem kb_97_88 : ex_blk 97 88 = [.ireturn] := rfl
theorem kb_98_0 : ex_blk 98 0 = [.aload 0, .iload 2, .iload 3, .invokestatic 1555, .istore 4, .iload 4, .ifCond .lt 21, .aload 1, .iload 4, .iaload, .sipush 1, .if_icmp .ne 25, .jsr 21] := rfl
theorem kb_98_21 : ex_blk 98 21 = [.iload 2, .goto 27] := rfl
theorem kb_98_25 : ex_blk 98 25 = [.iload 4, .jsr 27] := rfl
theorem kb_98_27 : ex_blk 98 27 = [.ireturn] := rfl
theorem kb_99_0 : ex_blk 99 0 = [.aload 0, .sipush 2, .iload 1, .aload 0, .sipush 1, .iaload, .idiv, .iadd, .iaload, .iload 2, .iadd, .istore 3, .iload 1, .aload 0, .sipush 1, .iaload, .irem, .iload 3, .if_icmp .ge 25, .sipush 0, .goto 26] := rfl
theorem kb_99_25 : ex_blk 99 25 = [.sipush 1, .jsr 26] := rfl
theorem kb_99_26 : ex_blk 99 26 = [.ireturn] := rfl
theorem kb_100_0 : ex_blk 100 0 = [.aload 0, .sipush 0, .iaload, .aload 0, .sipush 1, .iaload, .imul, .istore 7, .sipush 0, .istore 8, .jsr 12] := rfl
theorem kb_100_12 : ex_blk 100 12 = [.iload 8, .sipush 24, .if_icmp .ge 43, .aload 6, .iload 8, .iload 8, .iload 2, .if_icmp .ne 33, .sipush 0, .goto 36] := rfl
theorem kb_100_33 : ex_blk 100 33 = [.sipush 9999, .jsr 36] := rfl
theorem kb_100_36 : ex_blk 100 36 = [.iastore, .iinc 8 1, .goto 12] := rfl
theorem kb_100_43 : ex_blk 100 43 = [.sipush 0, .istore 8, .jsr 46] := rfl
theorem kb_100_46 : ex_blk 100 46 = [.iload 8, .iload 7, .if_icmp .ge 235, .sipush 0, .istore 9, .jsr 56] := rfl
theorem kb_100_56 : ex_blk 100 56 = [.iload 9, .iload 7, .if_icmp .ge 229, .sipush 0, .istore 10, .jsr 66] := rfl
theorem kb_100_66 : ex_blk 100 66 = [.iload 10, .sipush 4, .if_icmp .ge 223, .aload 1, .iload 9, .iaload, .sipush 1, .if_icmp .eq 223, .iload 9, .iload 3, .if_icmp .eq 102, .iload 9, .iload 2, .if_icmp .eq 223, .iload 4, .iload 9, .ishr, .sipush 1, .iand, .ifCond .ne 223, .jsr 102] := rfl
theorem kb_100_102 : ex_blk 100 102 = [.aload 0, .iload 9, .iload 10, .invokestatic 1555, .istore 11, .iload 11, .ifCond .lt 145, .aload 1, .iload 11, .iaload, .sipush 1, .if_icmp .eq 145, .iload 11, .iload 2, .if_icmp .eq 141, .iload 4, .iload 11, .ishr, .sipush 1, .iand, .ifCond .ne 145, .jsr 141] := rfl
theorem kb_100_141 : ex_blk 100 141 = [.sipush 1, .goto 146] := rfl
theorem kb_100_145 : ex_blk 100 145 = [.sipush 0, .jsr 146] := rfl
theorem kb_100_146 : ex_blk 100 146 = [.istore 12, .iload 12, .ifCond .eq 187, .aload 6, .iload 11, .iaload, .sipush 1, .iadd, .aload 0, .iload 9, .sipush 0, .invokestatic 1587, .aload 0, .iload 11, .sipush 0, .invokestatic 1587, .if_icmp .ne 181, .sipush 0, .goto 183] := rfl
theorem kb_100_181 : ex_blk 100 181 = [.iload 5, .jsr 183] := rfl
theorem kb_100_183 : ex_blk 100 183 = [.iadd, .goto 190] := rfl
theorem kb_100_187 : ex_blk 100 187 = [.sipush 9999, .jsr 190] := rfl
theorem kb_100_190 : ex_blk 100 190 = [.istore 13, .aload 6, .iload 9, .iload 13, .aload 6, .iload 9, .iaload, .if_icmp .ge 211, .iload 13, .goto 216] := rfl
theorem kb_100_211 : ex_blk 100 211 = [.aload 6, .iload 9, .iaload, .jsr 216] := rfl
theorem kb_100_216 : ex_blk 100 216 = [.iastore, .iinc 10 1, .goto 66] := rfl
theorem kb_100_223 : ex_blk 100 223 = [.iinc 9 1, .goto 56] := rfl
theorem kb_100_229 : ex_blk 100 229 = [.iinc 8 1, .goto 46] := rfl
theorem kb_100_235 : ex_blk 100 235 = [.return_] := rfl
theorem kb_101_0 : ex_blk 101 0 = [.sipush 24, .anewarray 51, .astore 3, .sipush (-1), .istore 4, .aload 1, .iload 2, .iaload, .sipush 1, .if_icmp .ne 17, .sipush (-1), .ireturn] := rfl
theorem kb_101_17 : ex_blk 101 17 = [.aload 0, .aload 1, .iload 2, .sipush (-1), .sipush 0, .sipush 0, .aload 3, .invokestatic 1607, .aload 0, .sipush 0, .iaload, .aload 0, .sipush 1, .iaload, .imul, .sipush 1, .isub, .istore 5, .jsr 38] := rfl
theorem kb_101_38 : ex_blk 101 38 = [.iload 5, .ifCond .lt 92, .aload 1, .iload 5, .iaload, .sipush 2, .if_icmp .ne 82, .aload 3, .iload 5, .iaload, .sipush 9999, .if_icmp .ge 82, .iload 4, .ifCond .lt 77, .aload 3, .iload 5, .iaload, .aload 3, .iload 4, .iaload, .if_icmp .gt 82, .jsr 77] := rfl
theorem kb_101_77 : ex_blk 101 77 = [.iload 5, .goto 84] := rfl
theorem kb_101_82 : ex_blk 101 82 = [.iload 4, .jsr 84] := rfl
theorem kb_101_84 : ex_blk 101 84 = [.istore 4, .iinc 5 (-1), .goto 38] := rfl
theorem kb_101_92 : ex_blk 101 92 = [.iload 4, .ireturn] := rfl
theorem kb_102_0 : ex_blk 102 0 = [.sipush 0, .istore 3, .jsr 2] := rfl
theorem kb_102_2 : ex_blk 102 2 = [.iload 3, .aload 0, .sipush 0, .iaload, .aload 0, .sipush 1, .iaload, .imul, .if_icmp .ge 41, .aload 0, .aload 1, .iload 3, .invokestatic 1619, .istore 4, .aload 2, .iload 3, .iload 4, .ifCond .ge 32, .iload 3, .goto 34] := rfl
theorem kb_102_32 : ex_blk 102 32 = [.iload 4, .jsr 34] := rfl
theorem kb_102_34 : ex_blk 102 34 = [.iastore, .iinc 3 1, .goto 2] := rfl
theorem kb_102_41 : ex_blk 102 41 = [.return_] := rfl
theorem kb_103_0 : ex_blk 103 0 = [.sipush 0, .istore 11, .aload 0, .aload 1, .iload 9, .iload 10, .invokestatic 1572, .istore 12, .sipush 0, .istore 13, .jsr 17] := rfl
theorem kb_103_17 : ex_blk 103 17 = [.iload 13, .iload 4, .if_icmp .ge 330, .aload 3, .sipush 5, .iload 13, .imul, .sipush 2, .iadd, .iaload, .istore 14, .aload 3, .sipush 5, .iload 13, .imul, .sipush 3, .iadd, .iaload, .istore 15, .iload 14, .iload 15, .if_icmp .eq 76, .iload 7, .iload 14, .isub, .sipush 24, .iadd, .sipush 24, .irem, .iload 15, .iload 14, .isub, .sipush 24, .iadd, .sipush 24, .irem, .if_icmp .ge 80, .jsr 76] := rfl
theorem kb_103_76 : ex_blk 103 76 = [.sipush 1, .goto 81] := rfl
theorem kb_103_80 : ex_blk 103 80 = [.sipush 0, .jsr 81] := rfl
theorem kb_103_81 : ex_blk 103 81 = [.istore 16, .aload 3, .sipush 5, .iload 13, .imul, .iaload, .istore 17, .aload 0, .iload 9, .iload 5, .invokestatic 1587, .iload 17, .if_icmp .ne 108, .sipush 1, .goto 109] := rfl
theorem kb_103_108 : ex_blk 103 108 = [.sipush 0, .jsr 109] := rfl
theorem kb_103_109 : ex_blk 103 109 = [.istore 18, .aload 0, .iload 8, .sipush 1, .if_icmp .ne 123, .iload 12, .goto 125] := rfl
theorem kb_103_123 : ex_blk 103 123 = [.iload 9, .jsr 125] := rfl
theorem kb_103_125 : ex_blk 103 125 = [.iload 5, .invokestatic 1587, .iload 17, .if_icmp .ne 139, .sipush 1, .goto 140] := rfl
theorem kb_103_139 : ex_blk 103 139 = [.sipush 0, .jsr 140] := rfl
theorem kb_103_140 : ex_blk 103 140 = [.istore 19, .aload 0, .iload 8, .ifCond .ne 153, .iload 9, .goto 155] := rfl
theorem kb_103_153 : ex_blk 103 153 = [.iload 12, .jsr 155] := rfl
theorem kb_103_155 : ex_blk 103 155 = [.iload 5, .invokestatic 1587, .iload 17, .if_icmp .ne 169, .sipush 1, .goto 170] := rfl
theorem kb_103_169 : ex_blk 103 169 = [.sipush 0, .jsr 170] := rfl
theorem kb_103_170 : ex_blk 103 170 = [.istore 20, .aload 0, .iload 8, .ifCond .ne 183, .iload 12, .goto 185] := rfl
theorem kb_103_183 : ex_blk 103 183 = [.iload 9, .jsr 185] := rfl
theorem kb_103_185 : ex_blk 103 185 = [.iload 5, .invokestatic 1587, .iload 17, .if_icmp .ne 199, .sipush 1, .goto 200] := rfl
theorem kb_103_199 : ex_blk 103 199 = [.sipush 0, .jsr 200] := rfl
theorem kb_103_200 : ex_blk 103 200 = [.istore 21, .aload 3, .sipush 5, .iload 13, .imul, .sipush 4, .iadd, .iaload, .istore 22, .iload 22, .ifCond .eq 281, .iload 22, .sipush 1, .if_icmp .ne 228, .iload 18, .ifCond .ne 281, .jsr 228] := rfl
theorem kb_103_228 : ex_blk 103 228 = [.iload 22, .sipush 2, .if_icmp .ne 239, .iload 21, .ifCond .ne 281, .jsr 239] := rfl
theorem kb_103_239 : ex_blk 103 239 = [.iload 22, .sipush 3, .if_icmp .ne 260, .iload 18, .ifCond .eq 260, .iload 19, .ifCond .eq 260, .iload 20, .ifCond .ne 281, .jsr 260] := rfl
theorem kb_103_260 : ex_blk 103 260 = [.iload 22, .sipush 4, .if_icmp .ne 285, .aload 0, .aload 2, .iload 9, .iaload, .iload 5, .invokestatic 1587, .iload 17, .if_icmp .ne 285, .jsr 281] := rfl
theorem kb_103_281 : ex_blk 103 281 = [.sipush 1, .goto 286] := rfl
theorem kb_103_285 : ex_blk 103 285 = [.sipush 0, .jsr 286] := rfl
theorem kb_103_286 : ex_blk 103 286 = [.istore 23, .iload 11, .iload 16, .ifCond .eq 320, .iload 23, .ifCond .eq 320, .iload 6, .aload 3, .sipush 5, .iload 13, .imul, .sipush 1, .iadd, .iaload, .if_icmp .ne 320, .sipush 1, .iload 13, .ishl, .goto 321] := rfl
theorem kb_103_320 : ex_blk 103 320 = [.sipush 0, .jsr 321] := rfl
theorem kb_103_321 : ex_blk 103 321 = [.ior, .istore 11, .iinc 13 1, .goto 17] := rfl
theorem kb_103_330 : ex_blk 103 330 = [.iload 11, .ireturn] := rfl
theorem kb_104_30 : ex_blk 104 30 = [.aload 1, .aload 0, .sipush 0, .aload 2, .aload 3, .invokestatic 1525, .ifCond .ne 43, .sipush 0, .areturn] := rfl
theorem kb_104_43 : ex_blk 104 43 = [.aload 2, .sipush 0, .iaload, .aload 2, .sipush 1, .iaload, .imul, .istore 6, .aload 2, .aload 3, .aload 4, .invokestatic 1635, .sipush 0, .istore 7, .jsr 62] := rfl
theorem kb_104_62 : ex_blk 104 62 = [.iload 7, .iload 6, .if_icmp .ge 136, .aload 1, .iload 7, .sipush 0, .invokevirtual 1170, .aload 3, .iload 7, .iaload, .if_icmp .ne 128, .aload 1, .iload 7, .sipush 1, .invokevirtual 1170, .aload 2, .iload 7, .sipush 0, .invokestatic 1587, .if_icmp .ne 128, .aload 1, .iload 7, .sipush 2, .invokevirtual 1170, .sipush (-1), .if_icmp .ne 128, .aload 1, .iload 7, .sipush 3, .invokevirtual 1170, .aload 2, .aload 3, .iload 7, .invokestatic 1619, .if_icmp .eq 130, .jsr 128] := rfl
theorem kb_104_128 : ex_blk 104 128 = [.sipush 0, .areturn] := rfl
theorem kb_104_130 : ex_blk 104 130 = [.iinc 7 1, .goto 62] := rfl
theorem kb_104_136 : ex_blk 104 136 = [.aload 0, .sipush 4, .invokestatic 1474, .sipush 9, .irem, .istore 7, .sipush 0, .istore 8, .jsr 149] := rfl
theorem kb_104_149 : ex_blk 104 149 = [.iload 8, .iload 7, .if_icmp .ge 273, .aload 1, .aload 0, .sipush 5, .iload 8, .iadd, .invokestatic 1474, .iload 8, .aload 5, .invokestatic 1540, .ifCond .ne 177, .sipush 0, .areturn] := rfl
theorem kb_104_177 : ex_blk 104 177 = [.sipush 0, .istore 9, .jsr 180] := rfl
theorem kb_104_180 : ex_blk 104 180 = [.iload 9, .sipush 5, .if_icmp .ge 267, .aload 5, .sipush 5, .iload 8, .imul, .sipush 4, .iadd, .iaload, .istore 10, .aload 1, .iload 8, .iload 9, .invokevirtual 1138, .aload 5, .sipush 5, .iload 8, .imul, .iload 9, .iadd, .iaload, .if_icmp .ne 259, .aload 1, .iload 8, .iload 9, .invokevirtual 1154, .iload 9, .ifCond .eq 250, .iload 9, .iload 10, .if_icmp .eq 250, .iload 9, .sipush 1, .if_icmp .ne 255, .iload 10, .sipush 3, .if_icmp .ne 255, .jsr 250] := rfl
theorem kb_104_250 : ex_blk 104 250 = [.iload 8, .goto 256] := rfl
theorem kb_104_255 : ex_blk 104 255 = [.sipush (-1), .jsr 256] := rfl
theorem kb_104_256 : ex_blk 104 256 = [.if_icmp .eq 261, .jsr 259] := rfl
theorem kb_104_259 : ex_blk 104 259 = [.sipush 0, .areturn] := rfl
theorem kb_104_261 : ex_blk 104 261 = [.iinc 9 1, .goto 180] := rfl
theorem kb_104_267 : ex_blk 104 267 = [.iinc 8 1, .goto 149] := rfl
theorem kb_104_273 : ex_blk 104 273 = [.sipush 60, .anewarray 50, .astore 8, .sipush 0, .istore 9, .sipush (-1), .istore 10, .sipush (-1), .istore 11, .sipush 0, .istore 12, .jsr 291] := rfl
theorem kb_104_291 : ex_blk 104 291 = [.iload 12, .sipush 14, .if_icmp .ge 910, .aload 0, .sipush 13, .iload 12, .iadd, .invokestatic 1474, .istore 13, .iload 13, .iload 6, .irem, .istore 14, .iload 13, .sipush 32, .idiv, .sipush 4, .irem, .istore 15, .iload 13, .sipush 128, .idiv, .sipush 3, .irem, .istore 16, .iload 13, .sipush 512, .idiv, .sipush 24, .irem, .istore 17, .iload 7, .ifCond .le 380, .iload 13, .sipush 16384, .idiv, .sipush 3, .irem, .ifCond .le 380, .jsr 362] := rfl
theorem kb_104_362 : ex_blk 104 362 = [.aload 5, .sipush 5, .iload 13, .sipush 65536, .idiv, .iload 7, .irem, .imul, .sipush 1, .iadd, .iaload, .goto 388] := rfl
theorem kb_104_380 : ex_blk 104 380 = [.iload 13, .sipush 65536, .idiv, .sipush 6, .irem, .jsr 388] := rfl
theorem kb_104_388 : ex_blk 104 388 = [.istore 18, .aload 3, .iload 14, .iaload, .sipush 1, .if_icmp .ne 454, .aload 1, .iload 16, .iload 14, .iload 15, .sipush 0, .invokevirtual 1188, .sipush (-101), .if_icmp .ne 452, .aload 1, .iload 18, .iload 17, .iload 16, .iload 14, .iload 15, .invokevirtual 1205, .sipush (-101), .if_icmp .ne 452, .aload 1, .iload 17, .iload 18, .iload 16, .iload 14, .iload 15, .invokevirtual 1221, .sipush (-101), .if_icmp .eq 746, .jsr 452] := rfl
theorem kb_104_452 : ex_blk 104 452 = [.sipush 0, .areturn] := rfl
theorem kb_104_454 : ex_blk 104 454 = [.aload 2, .aload 3, .iload 14, .iload 15, .invokestatic 1572, .istore 19, .aload 1, .iload 16, .iload 14, .iload 15, .sipush 0, .invokevirtual 1188, .iload 14, .if_icmp .ne 560, .aload 1, .iload 16, .iload 14, .iload 15, .sipush 1, .invokevirtual 1188, .iload 16, .ifCond .ne 502, .iload 19, .goto 504] := rfl
theorem kb_104_502 : ex_blk 104 502 = [.iload 14, .jsr 504] := rfl
theorem kb_104_504 : ex_blk 104 504 = [.if_icmp .ne 560, .aload 1, .iload 16, .iload 14, .iload 15, .sipush 2, .invokevirtual 1188, .iload 16, .sipush 1, .if_icmp .ne 529, .iload 19, .goto 531] := rfl
theorem kb_104_529 : ex_blk 104 529 = [.iload 14, .jsr 531] := rfl
theorem kb_104_531 : ex_blk 104 531 = [.if_icmp .ne 560, .aload 1, .iload 16, .iload 14, .iload 15, .sipush 3, .invokevirtual 1188, .iload 16, .ifCond .ne 555, .iload 14, .goto 557] := rfl
theorem kb_104_555 : ex_blk 104 555 = [.iload 19, .jsr 557] := rfl
theorem kb_104_557 : ex_blk 104 557 = [.if_icmp .eq 562, .jsr 560] := rfl
theorem kb_104_560 : ex_blk 104 560 = [.sipush 0, .areturn] := rfl
theorem kb_104_562 : ex_blk 104 562 = [.aload 2, .aload 3, .aload 4, .aload 5, .iload 7, .sipush 0, .iload 18, .iload 17, .iload 16, .iload 14, .iload 15, .invokestatic 1659, .istore 20, .aload 1, .iload 18, .iload 17, .iload 16, .iload 14, .iload 15, .invokevirtual 1205, .iload 20, .if_icmp .ne 636, .aload 1, .iload 17, .iload 18, .iload 16, .iload 14, .iload 15, .invokevirtual 1221, .iload 9, .sipush 12, .if_icmp .ne 631, .sipush (-104), .goto 633] := rfl
theorem kb_104_631 : ex_blk 104 631 = [.iload 9, .jsr 633] := rfl
theorem kb_104_633 : ex_blk 104 633 = [.if_icmp .eq 638, .jsr 636] := rfl
theorem kb_104_636 : ex_blk 104 636 = [.sipush 0, .areturn] := rfl
theorem kb_104_638 : ex_blk 104 638 = [.iload 9, .sipush 12, .if_icmp .ge 746, .iload 20, .ifCond .eq 690, .iload 10, .ifCond .lt 667, .iload 17, .aload 8, .sipush 5, .iload 10, .imul, .iaload, .if_icmp .ge 690, .jsr 667] := rfl
theorem kb_104_667 : ex_blk 104 667 = [.iload 9, .istore 10, .sipush 0, .istore 11, .jsr 674] := rfl
theorem kb_104_674 : ex_blk 104 674 = [.iload 20, .iload 11, .ishr, .sipush 1, .iand, .ifCond .ne 690, .iinc 11 1, .goto 674] := rfl
theorem kb_104_690 : ex_blk 104 690 = [.aload 8, .sipush 5, .iload 9, .imul, .iload 17, .iastore, .aload 8, .sipush 5, .iload 9, .imul, .sipush 1, .iadd, .iload 18, .iastore, .aload 8, .sipush 5, .iload 9, .imul, .sipush 2, .iadd, .iload 16, .iastore, .aload 8, .sipush 5, .iload 9, .imul, .sipush 3, .iadd, .iload 14, .iastore, .aload 8, .sipush 5, .iload 9, .imul, .sipush 4, .iadd, .iload 15, .iastore, .iinc 9 1, .jsr 746] := rfl
theorem kb_104_746 : ex_blk 104 746 = [.sipush 3, .anewarray 52, .astore 19, .sipush 0, .istore 20, .jsr 754] := rfl
theorem kb_104_754 : ex_blk 104 754 = [.iload 20, .iload 6, .if_icmp .ge 867, .sipush 0, .istore 21, .sipush 0, .istore 22, .jsr 767] := rfl
theorem kb_104_767 : ex_blk 104 767 = [.iload 22, .sipush 4, .if_icmp .ge 822, .aload 3, .iload 20, .iaload, .sipush 1, .if_icmp .eq 822, .iload 21, .aload 2, .aload 3, .aload 4, .aload 5, .iload 7, .sipush 0, .iload 18, .iload 17, .iload 16, .iload 20, .iload 22, .invokestatic 1659, .ifCond .ne 812, .sipush 0, .goto 813] := rfl
theorem kb_104_812 : ex_blk 104 812 = [.sipush 1, .jsr 813] := rfl
theorem kb_104_813 : ex_blk 104 813 = [.iadd, .istore 21, .iinc 22 1, .goto 767] := rfl
theorem kb_104_822 : ex_blk 104 822 = [.aload 19, .iload 21, .ifCond .ne 833, .sipush 0, .goto 844] := rfl
theorem kb_104_833 : ex_blk 104 833 = [.iload 21, .sipush 4, .if_icmp .ge 843, .sipush 1, .goto 844] := rfl
theorem kb_104_843 : ex_blk 104 843 = [.sipush 2, .jsr 844] := rfl
theorem kb_104_844 : ex_blk 104 844 = [.dup2, .iaload, .aload 3, .iload 20, .iaload, .sipush 1, .if_icmp .ne 858, .sipush 0, .goto 859] := rfl
theorem kb_104_858 : ex_blk 104 858 = [.sipush 1, .jsr 859] := rfl
theorem kb_104_859 : ex_blk 104 859 = [.iadd, .iastore, .iinc 20 1, .goto 754] := rfl
theorem kb_104_867 : ex_blk 104 867 = [.sipush 0, .istore 20, .jsr 870] := rfl
theorem kb_104_870 : ex_blk 104 870 = [.iload 20, .sipush 3, .if_icmp .ge 904, .aload 1, .iload 18, .iload 17, .iload 16, .iload 20, .invokevirtual 1252, .aload 19, .iload 20, .iaload, .if_icmp .eq 898, .sipush 0, .areturn] := rfl
theorem kb_104_898 : ex_blk 104 898 = [.iinc 20 1, .goto 870] := rfl
theorem kb_104_904 : ex_blk 104 904 = [.iinc 12 1, .goto 291] := rfl
theorem kb_104_910 : ex_blk 104 910 = [.aload 1, .sipush 0, .invokevirtual 1233, .iload 10, .if_icmp .ne 940, .aload 1, .sipush 1, .invokevirtual 1233, .iload 11, .if_icmp .ne 940, .aload 1, .sipush 2, .invokevirtual 1313, .iload 9, .if_icmp .eq 942, .jsr 940] := rfl
theorem kb_104_940 : ex_blk 104 940 = [.sipush 0, .areturn] := rfl
theorem kb_104_942 : ex_blk 104 942 = [.sipush (-3), .istore 12, .jsr 946] := rfl
theorem kb_104_946 : ex_blk 104 946 = [.iload 12, .sipush 4, .if_icmp .ge 1062, .sipush 0, .istore 13, .sipush 0, .istore 14, .jsr 958] := rfl
theorem kb_104_958 : ex_blk 104 958 = [.iload 14, .iload 9, .if_icmp .ge 1043, .iload 13, .aload 2, .aload 3, .aload 4, .aload 5, .iload 7, .iload 12, .aload 8, .sipush 5, .iload 14, .imul, .sipush 1, .iadd, .iaload, .aload 8, .sipush 5, .iload 14, .imul, .iaload, .aload 8, .sipush 5, .iload 14, .imul, .sipush 2, .iadd, .iaload, .aload 8, .sipush 5, .iload 14, .imul, .sipush 3, .iadd, .iaload, .aload 8, .sipush 5, .iload 14, .imul, .sipush 4, .iadd, .iaload, .invokestatic 1659, .ifCond .ne 1030, .jsr 1026] := rfl
theorem kb_104_1026 : ex_blk 104 1026 = [.sipush 0, .goto 1034] := rfl
theorem kb_104_1030 : ex_blk 104 1030 = [.sipush 1, .iload 14, .ishl, .jsr 1034] := rfl
theorem kb_104_1034 : ex_blk 104 1034 = [.ior, .istore 13, .iinc 14 1, .goto 958] := rfl
theorem kb_104_1043 : ex_blk 104 1043 = [.aload 1, .iload 12, .invokevirtual 1265, .iload 13, .if_icmp .eq 1056, .sipush 0, .areturn] := rfl
theorem kb_104_1056 : ex_blk 104 1056 = [.iinc 12 1, .goto 946] := rfl
theorem kb_104_1062 : ex_blk 104 1062 = [.sipush 127, .istore 12, .aload 0, .sipush 27, .invokestatic 1474, .sipush 7, .irem, .sipush 3, .isub, .istore 13, .aload 0, .sipush 28, .invokestatic 1474, .sipush 11, .irem, .istore 14, .sipush 0, .istore 15, .jsr 1093] := rfl
theorem kb_104_1093 : ex_blk 104 1093 = [.iload 15, .iload 14, .if_icmp .ge 1220, .aload 0, .sipush 29, .iload 15, .iadd, .invokestatic 1474, .istore 16, .iload 16, .iload 6, .irem, .istore 17, .iload 16, .sipush 32, .idiv, .sipush 9, .irem, .ifCond .ne 1140, .iload 16, .sipush 512, .idiv, .sipush 2, .irem, .goto 1148] := rfl
theorem kb_104_1140 : ex_blk 104 1140 = [.aload 2, .iload 17, .iload 13, .invokestatic 1587, .jsr 1148] := rfl
theorem kb_104_1148 : ex_blk 104 1148 = [.istore 18, .aload 1, .iload 17, .iload 18, .invokevirtual 1282, .iload 15, .sipush 1, .iadd, .if_icmp .eq 1167, .sipush 0, .areturn] := rfl
theorem kb_104_1167 : ex_blk 104 1167 = [.sipush (-3), .istore 19, .jsr 1171] := rfl
theorem kb_104_1171 : ex_blk 104 1171 = [.iload 19, .sipush 4, .if_icmp .ge 1214, .iload 12, .aload 2, .iload 17, .iload 19, .invokestatic 1587, .iload 18, .if_icmp .ne 1197, .sipush 127, .goto 1205] := rfl
theorem kb_104_1197 : ex_blk 104 1197 = [.sipush 1, .iload 19, .sipush 3, .iadd, .ishl, .sipush (-1), .ixor, .jsr 1205] := rfl
theorem kb_104_1205 : ex_blk 104 1205 = [.iand, .istore 12, .iinc 19 1, .goto 1171] := rfl
theorem kb_104_1214 : ex_blk 104 1214 = [.iinc 15 1, .goto 1093] := rfl
theorem kb_104_1220 : ex_blk 104 1220 = [.aload 1, .invokevirtual 1296, .iload 12, .if_icmp .ne 1546, .aload 1, .iload 6, .sipush 0, .invokevirtual 1170, .sipush (-101), .if_icmp .ne 1546, .aload 1, .sipush 0, .sipush 4, .invokevirtual 1170, .sipush (-102), .if_icmp .ne 1546, .aload 1, .sipush 3, .sipush 0, .sipush 0, .sipush 0, .invokevirtual 1188, .sipush (-102), .if_icmp .ne 1546, .aload 1, .sipush 0, .sipush 0, .sipush 4, .sipush 0, .invokevirtual 1188, .sipush (-102), .if_icmp .ne 1546, .aload 1, .sipush 0, .sipush 0, .sipush 0, .sipush 4, .invokevirtual 1188, .sipush (-102), .if_icmp .ne 1546, .jsr 1291] := rfl
theorem kb_104_1291 : ex_blk 104 1291 = [.aload 1, .sipush 0, .iload 6, .sipush 0, .sipush 0, .invokevirtual 1188, .sipush (-101), .if_icmp .ne 1546, .aload 1, .sipush 6, .sipush 0, .sipush 0, .sipush 0, .sipush 0, .invokevirtual 1205, .sipush (-102), .if_icmp .ne 1546, .aload 1, .sipush 0, .sipush 24, .sipush 0, .sipush 0, .sipush 0, .invokevirtual 1205, .sipush (-102), .if_icmp .ne 1546, .aload 1, .sipush 0, .sipush 0, .sipush 3, .sipush 0, .sipush 0, .invokevirtual 1205, .sipush (-102), .if_icmp .ne 1546, .aload 1, .sipush 0, .sipush 0, .sipush 0, .sipush 0, .sipush (-1), .invokevirtual 1205, .sipush (-102), .if_icmp .ne 1546, .jsr 1363] := rfl
theorem kb_104_1363 : ex_blk 104 1363 = [.aload 1, .sipush 24, .sipush 0, .sipush 0, .sipush 0, .sipush 0, .invokevirtual 1221, .sipush (-102), .if_icmp .ne 1546, .aload 1, .sipush 0, .sipush (-1), .sipush 0, .sipush 0, .sipush 0, .invokevirtual 1221, .sipush (-102), .if_icmp .ne 1546, .aload 1, .sipush 2, .invokevirtual 1233, .sipush (-102), .if_icmp .ne 1546, .aload 1, .sipush 6, .sipush 0, .sipush 0, .sipush 0, .invokevirtual 1252, .sipush (-102), .if_icmp .ne 1546, .aload 1, .sipush 0, .sipush 0, .sipush 0, .sipush 3, .invokevirtual 1252, .sipush (-102), .if_icmp .ne 1546, .jsr 1429] := rfl
theorem kb_104_1429 : ex_blk 104 1429 = [.aload 1, .sipush 4, .invokevirtual 1265, .sipush (-102), .if_icmp .ne 1546, .aload 1, .sipush (-4), .invokevirtual 1265, .sipush (-102), .if_icmp .ne 1546, .aload 1, .iload 6, .sipush 0, .invokevirtual 1282, .sipush (-101), .if_icmp .ne 1546, .aload 1, .sipush 0, .sipush 2, .invokevirtual 1282, .sipush (-102), .if_icmp .ne 1546, .iload 14, .sipush 10, .if_icmp .lt 1491, .aload 1, .sipush 0, .sipush 0, .invokevirtual 1282, .sipush (-104), .if_icmp .ne 1546, .jsr 1491] := rfl
theorem kb_104_1491 : ex_blk 104 1491 = [.aload 1, .iload 7, .sipush 0, .invokevirtual 1138, .sipush (-101), .if_icmp .ne 1546, .aload 1, .iload 7, .sipush 0, .invokevirtual 1154, .sipush (-101), .if_icmp .ne 1546, .iload 7, .ifCond .eq 1542, .aload 1, .sipush 0, .sipush 5, .invokevirtual 1138, .sipush (-102), .if_icmp .ne 1546, .aload 1, .sipush 0, .sipush 5, .invokevirtual 1154, .sipush (-102), .if_icmp .ne 1546, .jsr 1542] := rfl
theorem kb_104_1542 : ex_blk 104 1542 = [.sipush 1, .goto 1547] := rfl
theorem kb_104_1546 : ex_blk 104 1546 = [.sipush 0, .jsr 1547] := rfl
theorem kb_104_1547 : ex_blk 104 1547 = [.areturn] := rfl
theorem kr_0 : ex_ret 0 = none := rfl
theorem ke_0 {d : Nat} {o : Nat} {w : PW} (h : ex_cls o = 0) : ex_cal (d + 1) 0 [.ref o] w = ex_ev d (ex_cal d) 0 (ex_blk 0 0, [.ref o], [], w) := by
  rw [ex_cal_s (by simp [ex_okR, ex_isv, ex_lay, h, show ex_C 0 = 0 from rfl, show ex_L 0 = 1 from rfl])]
  rfl
theorem kr_1 : ex_ret 1 = some .int := rfl
theorem ke_1 {d : Nat} {o : Nat} {a0 : Int32} {w : PW} (h : ex_cls o = 0) : ex_cal (d + 1) 1 [.ref o, .int a0] w = ex_ev d (ex_cal d) 1 (ex_blk 1 0, [.ref o, .int a0], [], w) := by
  rw [ex_cal_s (by simp [ex_okR, ex_isv, ex_lay, h, show ex_C 1 = 0 from rfl, show ex_L 1 = 2 from rfl])]
  rfl
theorem kr_2 : ex_ret 2 = some .int := rfl
theorem ke_2 {d : Nat} {o : Nat} {a0 : Int32} {w : PW} (h : ex_cls o = 0) : ex_cal (d + 1) 2 [.ref o, .int a0] w = ex_ev d (ex_cal d) 2 (ex_blk 2 0, [.ref o, .int a0], [], w) := by
  rw [ex_cal_s (by simp [ex_okR, ex_isv, ex_lay, h, show ex_C 2 = 0 from rfl, show ex_L 2 = 2 from rfl])]
  rfl
theorem kr_3 : ex_ret 3 = some .int := rfl
theorem ke_3 {d : Nat} {o : Nat} {a0 : Int32} {w : PW} (h : ex_cls o = 0) : ex_cal (d + 1) 3 [.ref o, .int a0] w = ex_ev d (ex_cal d) 3 (ex_blk 3 0, [.ref o, .int a0], [], w) := by
  rw [ex_cal_s (by simp [ex_okR, ex_isv, ex_lay, h, show ex_C 3 = 0 from rfl, show ex_L 3 = 2 from rfl])]
  rfl
theorem kr_4 : ex_ret 4 = some .int := rfl
theorem ke_4 {d : Nat} {o : Nat} {a0 : Int32} {w : PW} (h : ex_cls o = 0) : ex_cal (d + 1) 4 [.ref o, .int a0] w = ex_ev d (ex_cal d) 4 (ex_blk 4 0, [.ref o, .int a0], [], w) := by
  rw [ex_cal_s (by simp [ex_okR, ex_isv, ex_lay, h, show ex_C 4 = 0 from rfl, show ex_L 4 = 2 from rfl])]
  rfl
theorem kr_5 : ex_ret 5 = some .int := rfl
theorem ke_5 {d : Nat} {o : Nat} {a0 : Nat} {a1 : Int32} {w : PW} (h : ex_cls o = 0) : ex_cal (d + 1) 5 [.ref o, .ref a0, .int a1] w = ex_ev d (ex_cal d) 5 (ex_blk 5 0, [.ref o, .ref a0, .int a1, .null], [], w) := by
  rw [ex_cal_s (by simp [ex_okR, ex_isv, ex_lay, h, show ex_C 5 = 0 from rfl, show ex_L 5 = 4 from rfl])]
  rfl
theorem kr_6 : ex_ret 6 = none := rfl
theorem ke_6 {d : Nat} {o : Nat} {a0 : Nat} {w : PW} (h : ex_cls o = 1) : ex_cal (d + 1) 6 [.ref o, .ref a0] w = ex_ev d (ex_cal d) 6 (ex_blk 6 0, [.ref o, .ref a0, .null, .null, .null, .null], [], w) := by
  rw [ex_cal_s (by simp [ex_okR, ex_isv, ex_lay, h, show ex_C 6 = 1 from rfl, show ex_L 6 = 6 from rfl])]
  rfl
theorem kr_7 : ex_ret 7 = none := rfl
theorem ke_7 {d : Nat} {o : Nat} {a0 : Int32} {a1 : Int32} {w : PW} (h : ex_cls o = 1) : ex_cal (d + 1) 7 [.ref o, .int a0, .int a1] w = ex_ev d (ex_cal d) 7 (ex_blk 7 0, [.ref o, .int a0, .int a1], [], w) := by
  rw [ex_cal_s (by simp [ex_okR, ex_isv, ex_lay, h, show ex_C 7 = 1 from rfl, show ex_L 7 = 3 from rfl])]
  rfl
theorem kr_8 : ex_ret 8 = none := rfl
theorem ke_8 {d : Nat} {o : Nat} {a0 : Int32} {a1 : Int32} {a2 : Int32} {w : PW} (h : ex_cls o = 1) : ex_cal (d + 1) 8 [.ref o, .int a0, .int a1, .int a2] w = ex_ev d (ex_cal d) 8 (ex_blk 8 0, [.ref o, .int a0, .int a1, .int a2], [], w) := by
  rw [ex_cal_s (by simp [ex_okR, ex_isv, ex_lay, h, show ex_C 8 = 1 from rfl, show ex_L 8 = 4 from rfl])]
  rfl
theorem kr_9 : ex_ret 9 = none := rfl
theorem ke_9 {d : Nat} {o : Nat} {w : PW} (h : ex_cls o = 1) : ex_cal (d + 1) 9 [.ref o] w = ex_ev d (ex_cal d) 9 (ex_blk 9 0, [.ref o, .null], [], w) := by
  rw [ex_cal_s (by simp [ex_okR, ex_isv, ex_lay, h, show ex_C 9 = 1 from rfl, show ex_L 9 = 2 from rfl])]
  rfl
theorem kr_10 : ex_ret 10 = none := rfl
theorem ke_10 {d : Nat} {o : Nat} {a0 : Int32} {a1 : Int32} {a2 : Int32} {w : PW} (h : ex_cls o = 1) : ex_cal (d + 1) 10 [.ref o, .int a0, .int a1, .int a2] w = ex_ev d (ex_cal d) 10 (ex_blk 10 0, [.ref o, .int a0, .int a1, .int a2, .null], [], w) := by
  rw [ex_cal_s (by simp [ex_okR, ex_isv, ex_lay, h, show ex_C 10 = 1 from rfl, show ex_L 10 = 5 from rfl])]
  rfl
theorem kr_11 : ex_ret 11 = some .int := rfl
theorem ke_11 {d : Nat} {o : Nat} {a0 : Int32} {a1 : Int32} {w : PW} (h : ex_cls o = 1) : ex_cal (d + 1) 11 [.ref o, .int a0, .int a1] w = ex_ev d (ex_cal d) 11 (ex_blk 11 0, [.ref o, .int a0, .int a1], [], w) := by
  rw [ex_cal_s (by simp [ex_okR, ex_isv, ex_lay, h, show ex_C 11 = 1 from rfl, show ex_L 11 = 3 from rfl])]
  rfl
theorem kr_12 : ex_ret 12 = none := rfl
theorem ke_12 {d : Nat} {o : Nat} {w : PW} (h : ex_cls o = 1) : ex_cal (d + 1) 12 [.ref o] w = ex_ev d (ex_cal d) 12 (ex_blk 12 0, [.ref o, .null], [], w) := by
  rw [ex_cal_s (by simp [ex_okR, ex_isv, ex_lay, h, show ex_C 12 = 1 from rfl, show ex_L 12 = 2 from rfl])]
  rfl
theorem kr_13 : ex_ret 13 = none := rfl
theorem ke_13 {d : Nat} {o : Nat} {a0 : Int32} {w : PW} (h : ex_cls o = 1) : ex_cal (d + 1) 13 [.ref o, .int a0] w = ex_ev d (ex_cal d) 13 (ex_blk 13 0, [.ref o, .int a0, .null], [], w) := by
  rw [ex_cal_s (by simp [ex_okR, ex_isv, ex_lay, h, show ex_C 13 = 1 from rfl, show ex_L 13 = 3 from rfl])]
  rfl
theorem kr_14 : ex_ret 14 = some .boolean := rfl
theorem ke_14 {d : Nat} {o : Nat} {w : PW} (h : ex_cls o = 1) : ex_cal (d + 1) 14 [.ref o] w = ex_ev d (ex_cal d) 14 (ex_blk 14 0, [.ref o], [], w) := by
  rw [ex_cal_s (by simp [ex_okR, ex_isv, ex_lay, h, show ex_C 14 = 1 from rfl, show ex_L 14 = 1 from rfl])]
  rfl
theorem kr_15 : ex_ret 15 = some .int := rfl
theorem ke_15 {d : Nat} {o : Nat} {w : PW} (h : ex_cls o = 1) : ex_cal (d + 1) 15 [.ref o] w = ex_ev d (ex_cal d) 15 (ex_blk 15 0, [.ref o], [], w) := by
  rw [ex_cal_s (by simp [ex_okR, ex_isv, ex_lay, h, show ex_C 15 = 1 from rfl, show ex_L 15 = 1 from rfl])]
  rfl
theorem kr_16 : ex_ret 16 = some .boolean := rfl
theorem ke_16 {d : Nat} {o : Nat} {a0 : Int32} {w : PW} (h : ex_cls o = 1) : ex_cal (d + 1) 16 [.ref o, .int a0] w = ex_ev d (ex_cal d) 16 (ex_blk 16 0, [.ref o, .int a0], [], w) := by
  rw [ex_cal_s (by simp [ex_okR, ex_isv, ex_lay, h, show ex_C 16 = 1 from rfl, show ex_L 16 = 2 from rfl])]
  rfl
theorem kr_17 : ex_ret 17 = some .int := rfl
theorem ke_17 {d : Nat} {o : Nat} {a0 : Int32} {w : PW} (h : ex_cls o = 1) : ex_cal (d + 1) 17 [.ref o, .int a0] w = ex_ev d (ex_cal d) 17 (ex_blk 17 0, [.ref o, .int a0], [], w) := by
  rw [ex_cal_s (by simp [ex_okR, ex_isv, ex_lay, h, show ex_C 17 = 1 from rfl, show ex_L 17 = 2 from rfl])]
  rfl
theorem kr_18 : ex_ret 18 = some .boolean := rfl
theorem ke_18 {d : Nat} {o : Nat} {a0 : Int32} {w : PW} (h : ex_cls o = 1) : ex_cal (d + 1) 18 [.ref o, .int a0] w = ex_ev d (ex_cal d) 18 (ex_blk 18 0, [.ref o, .int a0], [], w) := by
  rw [ex_cal_s (by simp [ex_okR, ex_isv, ex_lay, h, show ex_C 18 = 1 from rfl, show ex_L 18 = 2 from rfl])]
  rfl
theorem kr_19 : ex_ret 19 = some .boolean := rfl
theorem ke_19 {d : Nat} {o : Nat} {a0 : Int32} {w : PW} (h : ex_cls o = 1) : ex_cal (d + 1) 19 [.ref o, .int a0] w = ex_ev d (ex_cal d) 19 (ex_blk 19 0, [.ref o, .int a0], [], w) := by
  rw [ex_cal_s (by simp [ex_okR, ex_isv, ex_lay, h, show ex_C 19 = 1 from rfl, show ex_L 19 = 2 from rfl])]
  rfl
theorem kr_20 : ex_ret 20 = some .int := rfl
theorem ke_20 {d : Nat} {o : Nat} {a0 : Int32} {a1 : Int32} {w : PW} (h : ex_cls o = 1) : ex_cal (d + 1) 20 [.ref o, .int a0, .int a1] w = ex_ev d (ex_cal d) 20 (ex_blk 20 0, [.ref o, .int a0, .int a1], [], w) := by
  rw [ex_cal_s (by simp [ex_okR, ex_isv, ex_lay, h, show ex_C 20 = 1 from rfl, show ex_L 20 = 3 from rfl])]
  rfl
theorem kr_21 : ex_ret 21 = some .int := rfl
theorem ke_21 {d : Nat} {o : Nat} {a0 : Int32} {a1 : Int32} {w : PW} (h : ex_cls o = 1) : ex_cal (d + 1) 21 [.ref o, .int a0, .int a1] w = ex_ev d (ex_cal d) 21 (ex_blk 21 0, [.ref o, .int a0, .int a1, .null], [], w) := by
  rw [ex_cal_s (by simp [ex_okR, ex_isv, ex_lay, h, show ex_C 21 = 1 from rfl, show ex_L 21 = 4 from rfl])]
  rfl
theorem kr_22 : ex_ret 22 = some .int := rfl
theorem ke_22 {d : Nat} {o : Nat} {a0 : Int32} {a1 : Int32} {a2 : Int32} {w : PW} (h : ex_cls o = 1) : ex_cal (d + 1) 22 [.ref o, .int a0, .int a1, .int a2] w = ex_ev d (ex_cal d) 22 (ex_blk 22 0, [.ref o, .int a0, .int a1, .int a2, .null], [], w) := by
  rw [ex_cal_s (by simp [ex_okR, ex_isv, ex_lay, h, show ex_C 22 = 1 from rfl, show ex_L 22 = 5 from rfl])]
  rfl
theorem kr_23 : ex_ret 23 = some .int := rfl
theorem ke_23 {d : Nat} {o : Nat} {a0 : Int32} {w : PW} (h : ex_cls o = 1) : ex_cal (d + 1) 23 [.ref o, .int a0] w = ex_ev d (ex_cal d) 23 (ex_blk 23 0, [.ref o, .int a0], [], w) := by
  rw [ex_cal_s (by simp [ex_okR, ex_isv, ex_lay, h, show ex_C 23 = 1 from rfl, show ex_L 23 = 2 from rfl])]
  rfl
theorem kr_24 : ex_ret 24 = some .int := rfl
theorem ke_24 {d : Nat} {o : Nat} {a0 : Int32} {w : PW} (h : ex_cls o = 1) : ex_cal (d + 1) 24 [.ref o, .int a0] w = ex_ev d (ex_cal d) 24 (ex_blk 24 0, [.ref o, .int a0, .null], [], w) := by
  rw [ex_cal_s (by simp [ex_okR, ex_isv, ex_lay, h, show ex_C 24 = 1 from rfl, show ex_L 24 = 3 from rfl])]
  rfl
theorem kr_25 : ex_ret 25 = some .int := rfl
theorem ke_25 {d : Nat} {o : Nat} {a0 : Int32} {a1 : Int32} {w : PW} (h : ex_cls o = 1) : ex_cal (d + 1) 25 [.ref o, .int a0, .int a1] w = ex_ev d (ex_cal d) 25 (ex_blk 25 0, [.ref o, .int a0, .int a1], [], w) := by
  rw [ex_cal_s (by simp [ex_okR, ex_isv, ex_lay, h, show ex_C 25 = 1 from rfl, show ex_L 25 = 3 from rfl])]
  rfl
theorem kr_26 : ex_ret 26 = none := rfl
theorem ke_26 {d : Nat} {o : Nat} {a0 : Int32} {a1 : Int32} {a2 : Int32} {w : PW} (h : ex_cls o = 1) : ex_cal (d + 1) 26 [.ref o, .int a0, .int a1, .int a2] w = ex_ev d (ex_cal d) 26 (ex_blk 26 0, [.ref o, .int a0, .int a1, .int a2, .null, .null, .null, .null], [], w) := by
  rw [ex_cal_s (by simp [ex_okR, ex_isv, ex_lay, h, show ex_C 26 = 1 from rfl, show ex_L 26 = 8 from rfl])]
  rfl
theorem kr_27 : ex_ret 27 = some .boolean := rfl
theorem ke_27 {d : Nat} {o : Nat} {a0 : Int32} {a1 : Int32} {w : PW} (h : ex_cls o = 1) : ex_cal (d + 1) 27 [.ref o, .int a0, .int a1] w = ex_ev d (ex_cal d) 27 (ex_blk 27 0, [.ref o, .int a0, .int a1, .null, .null, .null, .null], [], w) := by
  rw [ex_cal_s (by simp [ex_okR, ex_isv, ex_lay, h, show ex_C 27 = 1 from rfl, show ex_L 27 = 7 from rfl])]
  rfl
theorem kr_28 : ex_ret 28 = none := rfl
theorem ke_28 {d : Nat} {o : Nat} {w : PW} (h : ex_cls o = 2) : ex_cal (d + 1) 28 [.ref o] w = ex_ev d (ex_cal d) 28 (ex_blk 28 0, [.ref o], [], w) := by
  rw [ex_cal_s (by simp [ex_okR, ex_isv, ex_lay, h, show ex_C 28 = 2 from rfl, show ex_L 28 = 1 from rfl])]
  rfl
theorem kr_29 : ex_ret 29 = some .boolean := rfl
theorem ke_29 {d : Nat} {o : Nat} {a0 : Int32} {w : PW} (h : ex_cls o = 2) : ex_cal (d + 1) 29 [.ref o, .int a0] w = ex_ev d (ex_cal d) 29 (ex_blk 29 0, [.ref o, .int a0], [], w) := by
  rw [ex_cal_s (by simp [ex_okR, ex_isv, ex_lay, h, show ex_C 29 = 2 from rfl, show ex_L 29 = 2 from rfl])]
  rfl
theorem kr_30 : ex_ret 30 = some .boolean := rfl
theorem ke_30 {d : Nat} {o : Nat} {w : PW} (h : ex_cls o = 2) : ex_cal (d + 1) 30 [.ref o] w = ex_ev d (ex_cal d) 30 (ex_blk 30 0, [.ref o], [], w) := by
  rw [ex_cal_s (by simp [ex_okR, ex_isv, ex_lay, h, show ex_C 30 = 2 from rfl, show ex_L 30 = 1 from rfl])]
  rfl
theorem kr_31 : ex_ret 31 = some .boolean := rfl
theorem ke_31 {d : Nat} {o : Nat} {w : PW} (h : ex_cls o = 2) : ex_cal (d + 1) 31 [.ref o] w = ex_ev d (ex_cal d) 31 (ex_blk 31 0, [.ref o], [], w) := by
  rw [ex_cal_s (by simp [ex_okR, ex_isv, ex_lay, h, show ex_C 31 = 2 from rfl, show ex_L 31 = 1 from rfl])]
  rfl
theorem kr_32 : ex_ret 32 = some .boolean := rfl
theorem ke_32 {d : Nat} {o : Nat} {w : PW} (h : ex_cls o = 2) : ex_cal (d + 1) 32 [.ref o] w = ex_ev d (ex_cal d) 32 (ex_blk 32 0, [.ref o], [], w) := by
  rw [ex_cal_s (by simp [ex_okR, ex_isv, ex_lay, h, show ex_C 32 = 2 from rfl, show ex_L 32 = 1 from rfl])]
  rfl
theorem kr_33 : ex_ret 33 = some .boolean := rfl
theorem ke_33 {d : Nat} {o : Nat} {w : PW} (h : ex_cls o = 2) : ex_cal (d + 1) 33 [.ref o] w = ex_ev d (ex_cal d) 33 (ex_blk 33 0, [.ref o], [], w) := by
  rw [ex_cal_s (by simp [ex_okR, ex_isv, ex_lay, h, show ex_C 33 = 2 from rfl, show ex_L 33 = 1 from rfl])]
  rfl
theorem kr_34 : ex_ret 34 = some .boolean := rfl
theorem ke_34 {d : Nat} {o : Nat} {w : PW} (h : ex_cls o = 2) : ex_cal (d + 1) 34 [.ref o] w = ex_ev d (ex_cal d) 34 (ex_blk 34 0, [.ref o], [], w) := by
  rw [ex_cal_s (by simp [ex_okR, ex_isv, ex_lay, h, show ex_C 34 = 2 from rfl, show ex_L 34 = 1 from rfl])]
  rfl
theorem kr_35 : ex_ret 35 = none := rfl
theorem ke_35 {d : Nat} {o : Nat} {w : PW} (h : ex_cls o = 4) : ex_cal (d + 1) 35 [.ref o] w = ex_ev d (ex_cal d) 35 (ex_blk 35 0, [.ref o], [], w) := by
  rw [ex_cal_s (by simp [ex_okR, ex_isv, ex_lay, h, show ex_C 35 = 4 from rfl, show ex_L 35 = 1 from rfl])]
  rfl
theorem kr_36 : ex_ret 36 = some .boolean := rfl
theorem ke_36 {d : Nat} {o : Nat} {a0 : Int32} {w : PW} (h : ex_cls o = 4) : ex_cal (d + 1) 36 [.ref o, .int a0] w = ex_ev d (ex_cal d) 36 (ex_blk 36 0, [.ref o, .int a0], [], w) := by
  rw [ex_cal_s (by simp [ex_okR, ex_isv, ex_lay, h, show ex_C 36 = 4 from rfl, show ex_L 36 = 2 from rfl])]
  rfl
theorem kr_37 : ex_ret 37 = some .boolean := rfl
theorem ke_37 {d : Nat} {o : Nat} {a0 : Int32} {w : PW} (h : ex_cls o = 4) : ex_cal (d + 1) 37 [.ref o, .int a0] w = ex_ev d (ex_cal d) 37 (ex_blk 37 0, [.ref o, .int a0], [], w) := by
  rw [ex_cal_s (by simp [ex_okR, ex_isv, ex_lay, h, show ex_C 37 = 4 from rfl, show ex_L 37 = 2 from rfl])]
  rfl
theorem kr_38 : ex_ret 38 = some .boolean := rfl
theorem ke_38 {d : Nat} {o : Nat} {a0 : Int32} {w : PW} (h : ex_cls o = 4) : ex_cal (d + 1) 38 [.ref o, .int a0] w = ex_ev d (ex_cal d) 38 (ex_blk 38 0, [.ref o, .int a0], [], w) := by
  rw [ex_cal_s (by simp [ex_okR, ex_isv, ex_lay, h, show ex_C 38 = 4 from rfl, show ex_L 38 = 2 from rfl])]
  rfl
theorem kr_39 : ex_ret 39 = some .boolean := rfl
theorem ke_39 {d : Nat} {o : Nat} {a0 : Int32} {w : PW} (h : ex_cls o = 4) : ex_cal (d + 1) 39 [.ref o, .int a0] w = ex_ev d (ex_cal d) 39 (ex_blk 39 0, [.ref o, .int a0, .null], [], w) := by
  rw [ex_cal_s (by simp [ex_okR, ex_isv, ex_lay, h, show ex_C 39 = 4 from rfl, show ex_L 39 = 3 from rfl])]
  rfl
theorem kr_40 : ex_ret 40 = some .boolean := rfl
theorem ke_40 {d : Nat} {o : Nat} {a0 : Int32} {w : PW} (h : ex_cls o = 4) : ex_cal (d + 1) 40 [.ref o, .int a0] w = ex_ev d (ex_cal d) 40 (ex_blk 40 0, [.ref o, .int a0, .null], [], w) := by
  rw [ex_cal_s (by simp [ex_okR, ex_isv, ex_lay, h, show ex_C 40 = 4 from rfl, show ex_L 40 = 3 from rfl])]
  rfl
theorem kr_41 : ex_ret 41 = some .int := rfl
theorem ke_41 {d : Nat} {o : Nat} {a0 : Int32} {a1 : Int32} {w : PW} (h : ex_cls o = 4) : ex_cal (d + 1) 41 [.ref o, .int a0, .int a1] w = ex_ev d (ex_cal d) 41 (ex_blk 41 0, [.ref o, .int a0, .int a1, .null], [], w) := by
  rw [ex_cal_s (by simp [ex_okR, ex_isv, ex_lay, h, show ex_C 41 = 4 from rfl, show ex_L 41 = 4 from rfl])]
  rfl
theorem kr_42 : ex_ret 42 = some .int := rfl
theorem ke_42 {d : Nat} {a0 : Int32} {w : PW} : ex_cal (d + 1) 42 [.int a0] w = ex_ev d (ex_cal d) 42 (ex_blk 42 0, [.int a0], [], w) := by
  rw [ex_cal_s (rfl)]
  rfl
theorem kr_43 : ex_ret 43 = some .boolean := rfl
theorem ke_43 {d : Nat} {o : Nat} {w : PW} (h : ex_cls o = 4) : ex_cal (d + 1) 43 [.ref o] w = ex_ev d (ex_cal d) 43 (ex_blk 43 0, [.ref o], [], w) := by
  rw [ex_cal_s (by simp [ex_okR, ex_isv, ex_lay, h, show ex_C 43 = 4 from rfl, show ex_L 43 = 1 from rfl])]
  rfl
theorem kr_44 : ex_ret 44 = some .int := rfl
theorem ke_44 {d : Nat} {o : Nat} {a0 : Int32} {w : PW} (h : ex_cls o = 4) : ex_cal (d + 1) 44 [.ref o, .int a0] w = ex_ev d (ex_cal d) 44 (ex_blk 44 0, [.ref o, .int a0], [], w) := by
  rw [ex_cal_s (by simp [ex_okR, ex_isv, ex_lay, h, show ex_C 44 = 4 from rfl, show ex_L 44 = 2 from rfl])]
  rfl
theorem kr_45 : ex_ret 45 = some .boolean := rfl
theorem ke_45 {d : Nat} {a0 : Int32} {a1 : Int32} {w : PW} : ex_cal (d + 1) 45 [.int a0, .int a1] w = ex_ev d (ex_cal d) 45 (ex_blk 45 0, [.int a0, .int a1], [], w) := by
  rw [ex_cal_s (rfl)]
  rfl
theorem kr_46 : ex_ret 46 = some .int := rfl
theorem ke_46 {d : Nat} {o : Nat} {w : PW} (h : ex_cls o = 5) : ex_cal (d + 1) 46 [.ref o] w = ex_ev d (ex_cal d) 46 (ex_blk 46 0, [.ref o], [], w) := by
  rw [ex_cal_s (by simp [ex_okR, ex_isv, ex_lay, h, show ex_C 46 = 5 from rfl, show ex_L 46 = 1 from rfl])]
  rfl
theorem kr_47 : ex_ret 47 = some .boolean := rfl
theorem ke_47 {d : Nat} {o : Nat} {w : PW} (h : ex_cls o = 5) : ex_cal (d + 1) 47 [.ref o] w = ex_ev d (ex_cal d) 47 (ex_blk 47 0, [.ref o], [], w) := by
  rw [ex_cal_s (by simp [ex_okR, ex_isv, ex_lay, h, show ex_C 47 = 5 from rfl, show ex_L 47 = 1 from rfl])]
  rfl
theorem kr_48 : ex_ret 48 = some .int := rfl
theorem ke_48 {d : Nat} {o : Nat} {a0 : Nat} {w : PW} (h : ex_cls o = 5) : ex_cal (d + 1) 48 [.ref o, .ref a0] w = ex_ev d (ex_cal d) 48 (ex_blk 48 0, [.ref o, .ref a0], [], w) := by
  rw [ex_cal_s (by simp [ex_okR, ex_isv, ex_lay, h, show ex_C 48 = 5 from rfl, show ex_L 48 = 2 from rfl])]
  rfl
theorem kr_49 : ex_ret 49 = some .int := rfl
theorem ke_49 {d : Nat} {o : Nat} {a0 : Int32} {a1 : Int32} {w : PW} (h : ex_cls o = 5) : ex_cal (d + 1) 49 [.ref o, .int a0, .int a1] w = ex_ev d (ex_cal d) 49 (ex_blk 49 0, [.ref o, .int a0, .int a1], [], w) := by
  rw [ex_cal_s (by simp [ex_okR, ex_isv, ex_lay, h, show ex_C 49 = 5 from rfl, show ex_L 49 = 3 from rfl])]
  rfl
theorem kr_50 : ex_ret 50 = some .int := rfl
theorem ke_50 {d : Nat} {o : Nat} {a0 : Nat} {a1 : Int32} {a2 : Int32} {a3 : Int32} {a4 : Int32} {a5 : Int32} {w : PW} (h : ex_cls o = 5) : ex_cal (d + 1) 50 [.ref o, .ref a0, .int a1, .int a2, .int a3, .int a4, .int a5] w = ex_ev d (ex_cal d) 50 (ex_blk 50 0, [.ref o, .ref a0, .int a1, .int a2, .int a3, .int a4, .int a5, .null, .null], [], w) := by
  rw [ex_cal_s (by simp [ex_okR, ex_isv, ex_lay, h, show ex_C 50 = 5 from rfl, show ex_L 50 = 9 from rfl])]
  rfl
theorem kr_51 : ex_ret 51 = some .boolean := rfl
theorem ke_51 {d : Nat} {o : Nat} {a0 : Int32} {a1 : Int32} {w : PW} (h : ex_cls o = 5) : ex_cal (d + 1) 51 [.ref o, .int a0, .int a1] w = ex_ev d (ex_cal d) 51 (ex_blk 51 0, [.ref o, .int a0, .int a1, .null, .null], [], w) := by
  rw [ex_cal_s (by simp [ex_okR, ex_isv, ex_lay, h, show ex_C 51 = 5 from rfl, show ex_L 51 = 5 from rfl])]
  rfl
theorem kr_52 : ex_ret 52 = some .boolean := rfl
theorem ke_52 {d : Nat} {o : Nat} {a0 : Nat} {a1 : Int32} {a2 : Int32} {a3 : Int32} {a4 : Int32} {w : PW} (h : ex_cls o = 5) : ex_cal (d + 1) 52 [.ref o, .ref a0, .int a1, .int a2, .int a3, .int a4] w = ex_ev d (ex_cal d) 52 (ex_blk 52 0, [.ref o, .ref a0, .int a1, .int a2, .int a3, .int a4, .null, .null], [], w) := by
  rw [ex_cal_s (by simp [ex_okR, ex_isv, ex_lay, h, show ex_C 52 = 5 from rfl, show ex_L 52 = 8 from rfl])]
  rfl
theorem kr_53 : ex_ret 53 = some .int := rfl
theorem ke_53 {d : Nat} {a0 : Int64} {w : PW} : ex_cal (d + 1) 53 [.long a0] w = ex_ev d (ex_cal d) 53 (ex_blk 53 0, [.long a0, .retAddr 0, .null, .null, .null, .null], [], w) := by
  rw [ex_cal_s (rfl)]
  rfl
theorem kr_54 : ex_ret 54 = some .int := rfl
theorem ke_54 {d : Nat} {a0 : Int64} {a1 : Int32} {w : PW} : ex_cal (d + 1) 54 [.long a0, .int a1] w = ex_ev d (ex_cal d) 54 (ex_blk 54 0, [.long a0, .retAddr 0, .int a1], [], w) := by
  rw [ex_cal_s (rfl)]
  rfl
theorem kr_55 : ex_ret 55 = none := rfl
theorem ke_55 {d : Nat} {o : Nat} {a0 : Int64} {a1 : Int32} {w : PW} (h : ex_cls o = 7) : ex_cal (d + 1) 55 [.ref o, .long a0, .int a1] w = ex_ev d (ex_cal d) 55 (ex_blk 55 0, [.ref o, .long a0, .retAddr 0, .int a1, .null], [], w) := by
  rw [ex_cal_s (by simp [ex_okR, ex_isv, ex_lay, h, show ex_C 55 = 7 from rfl, show ex_L 55 = 5 from rfl])]
  rfl
theorem kr_56 : ex_ret 56 = some .int := rfl
theorem ke_56 {d : Nat} {o : Nat} {w : PW} (h : ex_cls o = 7) : ex_cal (d + 1) 56 [.ref o] w = ex_ev d (ex_cal d) 56 (ex_blk 56 0, [.ref o], [], w) := by
  rw [ex_cal_s (by simp [ex_okR, ex_isv, ex_lay, h, show ex_C 56 = 7 from rfl, show ex_L 56 = 1 from rfl])]
  rfl
theorem kr_57 : ex_ret 57 = some .int := rfl
theorem ke_57 {d : Nat} {o : Nat} {a0 : Int32} {w : PW} (h : ex_cls o = 7) : ex_cal (d + 1) 57 [.ref o, .int a0] w = ex_ev d (ex_cal d) 57 (ex_blk 57 0, [.ref o, .int a0], [], w) := by
  rw [ex_cal_s (by simp [ex_okR, ex_isv, ex_lay, h, show ex_C 57 = 7 from rfl, show ex_L 57 = 2 from rfl])]
  rfl
theorem kr_58 : ex_ret 58 = none := rfl
theorem ke_58 {d : Nat} {o : Nat} {w : PW} (h : ex_cls o = 7) : ex_cal (d + 1) 58 [.ref o] w = ex_ev d (ex_cal d) 58 (ex_blk 58 0, [.ref o], [], w) := by
  rw [ex_cal_s (by simp [ex_okR, ex_isv, ex_lay, h, show ex_C 58 = 7 from rfl, show ex_L 58 = 1 from rfl])]
  rfl
theorem kr_59 : ex_ret 59 = some .int := rfl
theorem ke_59 {d : Nat} {o : Nat} {w : PW} (h : ex_cls o = 8) : ex_cal (d + 1) 59 [.ref o] w = ex_ev d (ex_cal d) 59 (ex_blk 59 0, [.ref o], [], w) := by
  rw [ex_cal_s (by simp [ex_okR, ex_isv, ex_lay, h, show ex_C 59 = 8 from rfl, show ex_L 59 = 1 from rfl])]
  rfl
theorem kr_60 : ex_ret 60 = some .boolean := rfl
theorem ke_60 {d : Nat} {o : Nat} {w : PW} (h : ex_cls o = 8) : ex_cal (d + 1) 60 [.ref o] w = ex_ev d (ex_cal d) 60 (ex_blk 60 0, [.ref o], [], w) := by
  rw [ex_cal_s (by simp [ex_okR, ex_isv, ex_lay, h, show ex_C 60 = 8 from rfl, show ex_L 60 = 1 from rfl])]
  rfl
theorem kr_61 : ex_ret 61 = some .int := rfl
theorem ke_61 {d : Nat} {o : Nat} {a0 : Int32} {a1 : Int32} {a2 : Int32} {a3 : Int32} {a4 : Int32} {w : PW} (h : ex_cls o = 8) : ex_cal (d + 1) 61 [.ref o, .int a0, .int a1, .int a2, .int a3, .int a4] w = ex_ev d (ex_cal d) 61 (ex_blk 61 0, [.ref o, .int a0, .int a1, .int a2, .int a3, .int a4, .null], [], w) := by
  rw [ex_cal_s (by simp [ex_okR, ex_isv, ex_lay, h, show ex_C 61 = 8 from rfl, show ex_L 61 = 7 from rfl])]
  rfl
theorem kr_62 : ex_ret 62 = some .int := rfl
theorem ke_62 {d : Nat} {o : Nat} {a0 : Int32} {a1 : Int32} {w : PW} (h : ex_cls o = 8) : ex_cal (d + 1) 62 [.ref o, .int a0, .int a1] w = ex_ev d (ex_cal d) 62 (ex_blk 62 0, [.ref o, .int a0, .int a1, .null], [], w) := by
  rw [ex_cal_s (by simp [ex_okR, ex_isv, ex_lay, h, show ex_C 62 = 8 from rfl, show ex_L 62 = 4 from rfl])]
  rfl
theorem kr_63 : ex_ret 63 = none := rfl
theorem ke_63 {d : Nat} {o : Nat} {a0 : Int32} {a1 : Int32} {a2 : Int32} {w : PW} (h : ex_cls o = 8) : ex_cal (d + 1) 63 [.ref o, .int a0, .int a1, .int a2] w = ex_ev d (ex_cal d) 63 (ex_blk 63 0, [.ref o, .int a0, .int a1, .int a2, .null], [], w) := by
  rw [ex_cal_s (by simp [ex_okR, ex_isv, ex_lay, h, show ex_C 63 = 8 from rfl, show ex_L 63 = 5 from rfl])]
  rfl
theorem kr_64 : ex_ret 64 = none := rfl
theorem ke_64 {d : Nat} {o : Nat} {w : PW} (h : ex_cls o = 8) : ex_cal (d + 1) 64 [.ref o] w = ex_ev d (ex_cal d) 64 (ex_blk 64 0, [.ref o], [], w) := by
  rw [ex_cal_s (by simp [ex_okR, ex_isv, ex_lay, h, show ex_C 64 = 8 from rfl, show ex_L 64 = 1 from rfl])]
  rfl
theorem kr_65 : ex_ret 65 = some .int := rfl
theorem ke_65 {d : Nat} {o : Nat} {a0 : Nat} {w : PW} (h : ex_cls o = 2 ∨ ex_cls o = 4) : ex_cal (d + 1) 65 [.ref o, .ref a0] w = ex_ev d (ex_cal d) 65 (ex_blk 65 0, [.ref o, .ref a0, .null], [], w) := by
  rw [ex_cal_s (by rcases h with h | h <;> simp [ex_okR, ex_isv, ex_lay, h, show ex_C 65 = 9 from rfl, show ex_L 65 = 3 from rfl])]
  rfl
theorem kr_66 : ex_ret 66 = some .boolean := rfl
theorem ke_66 {d : Nat} {o : Nat} {a0 : Nat} {w : PW} (h : ex_cls o = 2 ∨ ex_cls o = 4) : ex_cal (d + 1) 66 [.ref o, .ref a0] w = ex_ev d (ex_cal d) 66 (ex_blk 66 0, [.ref o, .ref a0], [], w) := by
  rw [ex_cal_s (by rcases h with h | h <;> simp [ex_okR, ex_isv, ex_lay, h, show ex_C 66 = 9 from rfl, show ex_L 66 = 2 from rfl])]
  rfl
theorem kr_67 : ex_ret 67 = some .int := rfl
theorem ke_67 {d : Nat} {o : Nat} {a0 : Int64} {w : PW} (h : ex_cls o = 10) : ex_cal (d + 1) 67 [.ref o, .long a0] w = ex_ev d (ex_cal d) 67 (ex_blk 67 0, [.ref o, .long a0, .retAddr 0, .null], [], w) := by
  rw [ex_cal_s (by simp [ex_okR, ex_isv, ex_lay, h, show ex_C 67 = 10 from rfl, show ex_L 67 = 4 from rfl])]
  rfl
theorem kr_68 : ex_ret 68 = some .int := rfl
theorem ke_68 {d : Nat} {o : Nat} {a0 : Int32} {w : PW} (h : ex_cls o = 10) : ex_cal (d + 1) 68 [.ref o, .int a0] w = ex_ev d (ex_cal d) 68 (ex_blk 68 0, [.ref o, .int a0], [], w) := by
  rw [ex_cal_s (by simp [ex_okR, ex_isv, ex_lay, h, show ex_C 68 = 10 from rfl, show ex_L 68 = 2 from rfl])]
  rfl
theorem kr_69 : ex_ret 69 = some .int := rfl
theorem ke_69 {d : Nat} {o : Nat} {w : PW} (h : ex_cls o = 10) : ex_cal (d + 1) 69 [.ref o] w = ex_ev d (ex_cal d) 69 (ex_blk 69 0, [.ref o], [], w) := by
  rw [ex_cal_s (by simp [ex_okR, ex_isv, ex_lay, h, show ex_C 69 = 10 from rfl, show ex_L 69 = 1 from rfl])]
  rfl
theorem kr_70 : ex_ret 70 = some .int := rfl
theorem ke_70 {d : Nat} {o : Nat} {w : PW} (h : ex_cls o = 10) : ex_cal (d + 1) 70 [.ref o] w = ex_ev d (ex_cal d) 70 (ex_blk 70 0, [.ref o], [], w) := by
  rw [ex_cal_s (by simp [ex_okR, ex_isv, ex_lay, h, show ex_C 70 = 10 from rfl, show ex_L 70 = 1 from rfl])]
  rfl
theorem kr_71 : ex_ret 71 = some .int := rfl
theorem ke_71 {d : Nat} {o : Nat} {a0 : Int32} {a1 : Int32} {w : PW} (h : ex_cls o = 10) : ex_cal (d + 1) 71 [.ref o, .int a0, .int a1] w = ex_ev d (ex_cal d) 71 (ex_blk 71 0, [.ref o, .int a0, .int a1], [], w) := by
  rw [ex_cal_s (by simp [ex_okR, ex_isv, ex_lay, h, show ex_C 71 = 10 from rfl, show ex_L 71 = 3 from rfl])]
  rfl
theorem kr_72 : ex_ret 72 = some .int := rfl
theorem ke_72 {d : Nat} {o : Nat} {a0 : Int32} {a1 : Int32} {w : PW} (h : ex_cls o = 10) : ex_cal (d + 1) 72 [.ref o, .int a0, .int a1] w = ex_ev d (ex_cal d) 72 (ex_blk 72 0, [.ref o, .int a0, .int a1], [], w) := by
  rw [ex_cal_s (by simp [ex_okR, ex_isv, ex_lay, h, show ex_C 72 = 10 from rfl, show ex_L 72 = 3 from rfl])]
  rfl
theorem kr_73 : ex_ret 73 = some .int := rfl
theorem ke_73 {d : Nat} {o : Nat} {a0 : Int32} {a1 : Int32} {w : PW} (h : ex_cls o = 10) : ex_cal (d + 1) 73 [.ref o, .int a0, .int a1] w = ex_ev d (ex_cal d) 73 (ex_blk 73 0, [.ref o, .int a0, .int a1], [], w) := by
  rw [ex_cal_s (by simp [ex_okR, ex_isv, ex_lay, h, show ex_C 73 = 10 from rfl, show ex_L 73 = 3 from rfl])]
  rfl
theorem kr_74 : ex_ret 74 = some .int := rfl
theorem ke_74 {d : Nat} {o : Nat} {a0 : Int32} {a1 : Int32} {a2 : Int32} {a3 : Int32} {w : PW} (h : ex_cls o = 10) : ex_cal (d + 1) 74 [.ref o, .int a0, .int a1, .int a2, .int a3] w = ex_ev d (ex_cal d) 74 (ex_blk 74 0, [.ref o, .int a0, .int a1, .int a2, .int a3], [], w) := by
  rw [ex_cal_s (by simp [ex_okR, ex_isv, ex_lay, h, show ex_C 74 = 10 from rfl, show ex_L 74 = 5 from rfl])]
  rfl
theorem kr_75 : ex_ret 75 = some .int := rfl
theorem ke_75 {d : Nat} {o : Nat} {a0 : Int32} {a1 : Int32} {a2 : Int32} {a3 : Int32} {a4 : Int32} {w : PW} (h : ex_cls o = 10) : ex_cal (d + 1) 75 [.ref o, .int a0, .int a1, .int a2, .int a3, .int a4] w = ex_ev d (ex_cal d) 75 (ex_blk 75 0, [.ref o, .int a0, .int a1, .int a2, .int a3, .int a4], [], w) := by
  rw [ex_cal_s (by simp [ex_okR, ex_isv, ex_lay, h, show ex_C 75 = 10 from rfl, show ex_L 75 = 6 from rfl])]
  rfl
theorem kr_76 : ex_ret 76 = some .int := rfl
theorem ke_76 {d : Nat} {o : Nat} {a0 : Int32} {a1 : Int32} {a2 : Int32} {a3 : Int32} {a4 : Int32} {w : PW} (h : ex_cls o = 10) : ex_cal (d + 1) 76 [.ref o, .int a0, .int a1, .int a2, .int a3, .int a4] w = ex_ev d (ex_cal d) 76 (ex_blk 76 0, [.ref o, .int a0, .int a1, .int a2, .int a3, .int a4], [], w) := by
  rw [ex_cal_s (by simp [ex_okR, ex_isv, ex_lay, h, show ex_C 76 = 10 from rfl, show ex_L 76 = 6 from rfl])]
  rfl
theorem kr_77 : ex_ret 77 = some .int := rfl
theorem ke_77 {d : Nat} {o : Nat} {a0 : Int32} {w : PW} (h : ex_cls o = 10) : ex_cal (d + 1) 77 [.ref o, .int a0] w = ex_ev d (ex_cal d) 77 (ex_blk 77 0, [.ref o, .int a0, .null], [], w) := by
  rw [ex_cal_s (by simp [ex_okR, ex_isv, ex_lay, h, show ex_C 77 = 10 from rfl, show ex_L 77 = 3 from rfl])]
  rfl
theorem kr_78 : ex_ret 78 = some .int := rfl
theorem ke_78 {d : Nat} {o : Nat} {a0 : Int32} {a1 : Int32} {a2 : Int32} {a3 : Int32} {w : PW} (h : ex_cls o = 10) : ex_cal (d + 1) 78 [.ref o, .int a0, .int a1, .int a2, .int a3] w = ex_ev d (ex_cal d) 78 (ex_blk 78 0, [.ref o, .int a0, .int a1, .int a2, .int a3, .null, .null], [], w) := by
  rw [ex_cal_s (by simp [ex_okR, ex_isv, ex_lay, h, show ex_C 78 = 10 from rfl, show ex_L 78 = 7 from rfl])]
  rfl
theorem kr_79 : ex_ret 79 = some .int := rfl
theorem ke_79 {d : Nat} {o : Nat} {a0 : Int32} {w : PW} (h : ex_cls o = 10) : ex_cal (d + 1) 79 [.ref o, .int a0] w = ex_ev d (ex_cal d) 79 (ex_blk 79 0, [.ref o, .int a0, .null, .null], [], w) := by
  rw [ex_cal_s (by simp [ex_okR, ex_isv, ex_lay, h, show ex_C 79 = 10 from rfl, show ex_L 79 = 4 from rfl])]
  rfl
theorem kr_80 : ex_ret 80 = some .int := rfl
theorem ke_80 {d : Nat} {o : Nat} {a0 : Int32} {a1 : Int32} {w : PW} (h : ex_cls o = 10) : ex_cal (d + 1) 80 [.ref o, .int a0, .int a1] w = ex_ev d (ex_cal d) 80 (ex_blk 80 0, [.ref o, .int a0, .int a1], [], w) := by
  rw [ex_cal_s (by simp [ex_okR, ex_isv, ex_lay, h, show ex_C 80 = 10 from rfl, show ex_L 80 = 3 from rfl])]
  rfl
theorem kr_81 : ex_ret 81 = some .int := rfl
theorem ke_81 {d : Nat} {o : Nat} {w : PW} (h : ex_cls o = 10) : ex_cal (d + 1) 81 [.ref o] w = ex_ev d (ex_cal d) 81 (ex_blk 81 0, [.ref o], [], w) := by
  rw [ex_cal_s (by simp [ex_okR, ex_isv, ex_lay, h, show ex_C 81 = 10 from rfl, show ex_L 81 = 1 from rfl])]
  rfl
theorem kr_82 : ex_ret 82 = some .int := rfl
theorem ke_82 {d : Nat} {o : Nat} {a0 : Int32} {w : PW} (h : ex_cls o = 10) : ex_cal (d + 1) 82 [.ref o, .int a0] w = ex_ev d (ex_cal d) 82 (ex_blk 82 0, [.ref o, .int a0], [], w) := by
  rw [ex_cal_s (by simp [ex_okR, ex_isv, ex_lay, h, show ex_C 82 = 10 from rfl, show ex_L 82 = 2 from rfl])]
  rfl
theorem kr_83 : ex_ret 83 = some .boolean := rfl
theorem ke_83 {d : Nat} {a0 : Int32} {a1 : Int32} {w : PW} : ex_cal (d + 1) 83 [.int a0, .int a1] w = ex_ev d (ex_cal d) 83 (ex_blk 83 0, [.int a0, .int a1], [], w) := by
  rw [ex_cal_s (rfl)]
  rfl
theorem kr_84 : ex_ret 84 = some .boolean := rfl
theorem ke_84 {d : Nat} {a0 : Int32} {a1 : Int32} {a2 : Int32} {w : PW} : ex_cal (d + 1) 84 [.int a0, .int a1, .int a2] w = ex_ev d (ex_cal d) 84 (ex_blk 84 0, [.int a0, .int a1, .int a2], [], w) := by
  rw [ex_cal_s (rfl)]
  rfl
theorem kr_85 : ex_ret 85 = some .int := rfl
theorem ke_85 {d : Nat} {a0 : Int32} {w : PW} : ex_cal (d + 1) 85 [.int a0] w = ex_ev d (ex_cal d) 85 (ex_blk 85 0, [.int a0, .null], [], w) := by
  rw [ex_cal_s (rfl)]
  rfl
theorem kr_86 : ex_ret 86 = some .int := rfl
theorem ke_86 {d : Nat} {o : Nat} {a0 : Int32} {a1 : Int32} {w : PW} (h : ex_cls o = 10) : ex_cal (d + 1) 86 [.ref o, .int a0, .int a1] w = ex_ev d (ex_cal d) 86 (ex_blk 86 0, [.ref o, .int a0, .int a1], [], w) := by
  rw [ex_cal_s (by simp [ex_okR, ex_isv, ex_lay, h, show ex_C 86 = 10 from rfl, show ex_L 86 = 3 from rfl])]
  rfl
theorem kr_87 : ex_ret 87 = some .int := rfl
theorem ke_87 {d : Nat} {o : Nat} {a0 : Int32} {a1 : Int32} {w : PW} (h : ex_cls o = 10) : ex_cal (d + 1) 87 [.ref o, .int a0, .int a1] w = ex_ev d (ex_cal d) 87 (ex_blk 87 0, [.ref o, .int a0, .int a1, .null, .null], [], w) := by
  rw [ex_cal_s (by simp [ex_okR, ex_isv, ex_lay, h, show ex_C 87 = 10 from rfl, show ex_L 87 = 5 from rfl])]
  rfl
theorem kr_88 : ex_ret 88 = some .int := rfl
theorem ke_88 {d : Nat} {o : Nat} {w : PW} (h : ex_cls o = 10) : ex_cal (d + 1) 88 [.ref o] w = ex_ev d (ex_cal d) 88 (ex_blk 88 0, [.ref o, .null, .null, .null, .null], [], w) := by
  rw [ex_cal_s (by simp [ex_okR, ex_isv, ex_lay, h, show ex_C 88 = 10 from rfl, show ex_L 88 = 5 from rfl])]
  rfl
theorem kr_89 : ex_ret 89 = some .int := rfl
theorem ke_89 {d : Nat} {o : Nat} {a0 : Int32} {a1 : Int32} {a2 : Int32} {a3 : Int32} {w : PW} (h : ex_cls o = 10) : ex_cal (d + 1) 89 [.ref o, .int a0, .int a1, .int a2, .int a3] w = ex_ev d (ex_cal d) 89 (ex_blk 89 0, [.ref o, .int a0, .int a1, .int a2, .int a3, .null, .null], [], w) := by
  rw [ex_cal_s (by simp [ex_okR, ex_isv, ex_lay, h, show ex_C 89 = 10 from rfl, show ex_L 89 = 7 from rfl])]
  rfl
theorem kr_90 : ex_ret 90 = some .int := rfl
theorem ke_90 {d : Nat} {o : Nat} {w : PW} (h : ex_cls o = 10) : ex_cal (d + 1) 90 [.ref o] w = ex_ev d (ex_cal d) 90 (ex_blk 90 0, [.ref o, .null, .null], [], w) := by
  rw [ex_cal_s (by simp [ex_okR, ex_isv, ex_lay, h, show ex_C 90 = 10 from rfl, show ex_L 90 = 3 from rfl])]
  rfl
theorem kr_91 : ex_ret 91 = some .boolean := rfl
theorem ke_91 {d : Nat} {o : Nat} {a0 : Int32} {w : PW} (h : ex_cls o = 10) : ex_cal (d + 1) 91 [.ref o, .int a0] w = ex_ev d (ex_cal d) 91 (ex_blk 91 0, [.ref o, .int a0, .null], [], w) := by
  rw [ex_cal_s (by simp [ex_okR, ex_isv, ex_lay, h, show ex_C 91 = 10 from rfl, show ex_L 91 = 3 from rfl])]
  rfl
theorem kr_92 : ex_ret 92 = some .int := rfl
theorem ke_92 {d : Nat} {a0 : Nat} {a1 : Int32} {w : PW} : ex_cal (d + 1) 92 [.ref a0, .int a1] w = ex_ev d (ex_cal d) 92 (ex_blk 92 0, [.ref a0, .int a1], [], w) := by
  rw [ex_cal_s (by simp [ex_okR, ex_isv, ex_lay, show ex_C 92 = 11 from rfl, show ex_L 92 = 2 from rfl])]
  rfl
theorem kr_93 : ex_ret 93 = some .boolean := rfl
theorem ke_93 {d : Nat} {a0 : Nat} {a1 : Int32} {w : PW} : ex_cal (d + 1) 93 [.ref a0, .int a1] w = ex_ev d (ex_cal d) 93 (ex_blk 93 0, [.ref a0, .int a1], [], w) := by
  rw [ex_cal_s (by simp [ex_okR, ex_isv, ex_lay, show ex_C 93 = 11 from rfl, show ex_L 93 = 2 from rfl])]
  rfl
theorem kr_94 : ex_ret 94 = some .boolean := rfl
theorem ke_94 {d : Nat} {a0 : Nat} {a1 : Int32} {w : PW} : ex_cal (d + 1) 94 [.ref a0, .int a1] w = ex_ev d (ex_cal d) 94 (ex_blk 94 0, [.ref a0, .int a1], [], w) := by
  rw [ex_cal_s (by simp [ex_okR, ex_isv, ex_lay, show ex_C 94 = 11 from rfl, show ex_L 94 = 2 from rfl])]
  rfl
theorem kr_95 : ex_ret 95 = some .boolean := rfl
theorem ke_95 {d : Nat} {a0 : Nat} {a1 : Nat} {a2 : Int32} {a3 : Nat} {a4 : Nat} {w : PW} : ex_cal (d + 1) 95 [.ref a0, .ref a1, .int a2, .ref a3, .ref a4] w = ex_ev d (ex_cal d) 95 (ex_blk 95 0, [.ref a0, .ref a1, .int a2, .ref a3, .ref a4, .null, .null, .null, .null, .null], [], w) := by
  rw [ex_cal_s (by simp [ex_okR, ex_isv, ex_lay, show ex_C 95 = 11 from rfl, show ex_L 95 = 10 from rfl])]
  rfl
theorem kr_96 : ex_ret 96 = some .boolean := rfl
theorem ke_96 {d : Nat} {a0 : Nat} {a1 : Int32} {a2 : Int32} {a3 : Nat} {w : PW} : ex_cal (d + 1) 96 [.ref a0, .int a1, .int a2, .ref a3] w = ex_ev d (ex_cal d) 96 (ex_blk 96 0, [.ref a0, .int a1, .int a2, .ref a3, .null, .null], [], w) := by
  rw [ex_cal_s (by simp [ex_okR, ex_isv, ex_lay, show ex_C 96 = 11 from rfl, show ex_L 96 = 6 from rfl])]
  rfl
theorem kr_97 : ex_ret 97 = some .int := rfl
theorem ke_97 {d : Nat} {a0 : Nat} {a1 : Int32} {a2 : Int32} {w : PW} : ex_cal (d + 1) 97 [.ref a0, .int a1, .int a2] w = ex_ev d (ex_cal d) 97 (ex_blk 97 0, [.ref a0, .int a1, .int a2, .null, .null], [], w) := by
  rw [ex_cal_s (by simp [ex_okR, ex_isv, ex_lay, show ex_C 97 = 11 from rfl, show ex_L 97 = 5 from rfl])]
  rfl
theorem kr_98 : ex_ret 98 = some .int := rfl
theorem ke_98 {d : Nat} {a0 : Nat} {a1 : Nat} {a2 : Int32} {a3 : Int32} {w : PW} : ex_cal (d + 1) 98 [.ref a0, .ref a1, .int a2, .int a3] w = ex_ev d (ex_cal d) 98 (ex_blk 98 0, [.ref a0, .ref a1, .int a2, .int a3, .null], [], w) := by
  rw [ex_cal_s (by simp [ex_okR, ex_isv, ex_lay, show ex_C 98 = 11 from rfl, show ex_L 98 = 5 from rfl])]
  rfl
theorem kr_99 : ex_ret 99 = some .int := rfl
theorem ke_99 {d : Nat} {a0 : Nat} {a1 : Int32} {a2 : Int32} {w : PW} : ex_cal (d + 1) 99 [.ref a0, .int a1, .int a2] w = ex_ev d (ex_cal d) 99 (ex_blk 99 0, [.ref a0, .int a1, .int a2, .null], [], w) := by
  rw [ex_cal_s (by simp [ex_okR, ex_isv, ex_lay, show ex_C 99 = 11 from rfl, show ex_L 99 = 4 from rfl])]
  rfl
theorem kr_100 : ex_ret 100 = none := rfl
theorem ke_100 {d : Nat} {a0 : Nat} {a1 : Nat} {a2 : Int32} {a3 : Int32} {a4 : Int32} {a5 : Int32} {a6 : Nat} {w : PW} : ex_cal (d + 1) 100 [.ref a0, .ref a1, .int a2, .int a3, .int a4, .int a5, .ref a6] w = ex_ev d (ex_cal d) 100 (ex_blk 100 0, [.ref a0, .ref a1, .int a2, .int a3, .int a4, .int a5, .ref a6, .null, .null, .null, .null, .null, .null, .null], [], w) := by
  rw [ex_cal_s (by simp [ex_okR, ex_isv, ex_lay, show ex_C 100 = 11 from rfl, show ex_L 100 = 14 from rfl])]
  rfl
theorem kr_101 : ex_ret 101 = some .int := rfl
theorem ke_101 {d : Nat} {a0 : Nat} {a1 : Nat} {a2 : Int32} {w : PW} : ex_cal (d + 1) 101 [.ref a0, .ref a1, .int a2] w = ex_ev d (ex_cal d) 101 (ex_blk 101 0, [.ref a0, .ref a1, .int a2, .null, .null, .null], [], w) := by
  rw [ex_cal_s (by simp [ex_okR, ex_isv, ex_lay, show ex_C 101 = 11 from rfl, show ex_L 101 = 6 from rfl])]
  rfl
theorem kr_102 : ex_ret 102 = none := rfl
theorem ke_102 {d : Nat} {a0 : Nat} {a1 : Nat} {a2 : Nat} {w : PW} : ex_cal (d + 1) 102 [.ref a0, .ref a1, .ref a2] w = ex_ev d (ex_cal d) 102 (ex_blk 102 0, [.ref a0, .ref a1, .ref a2, .null, .null], [], w) := by
  rw [ex_cal_s (by simp [ex_okR, ex_isv, ex_lay, show ex_C 102 = 11 from rfl, show ex_L 102 = 5 from rfl])]
  rfl
theorem kr_103 : ex_ret 103 = some .int := rfl
theorem ke_103 {d : Nat} {a0 : Nat} {a1 : Nat} {a2 : Nat} {a3 : Nat} {a4 : Int32} {a5 : Int32} {a6 : Int32} {a7 : Int32} {a8 : Int32} {a9 : Int32} {a10 : Int32} {w : PW} : ex_cal (d + 1) 103 [.ref a0, .ref a1, .ref a2, .ref a3, .int a4, .int a5, .int a6, .int a7, .int a8, .int a9, .int a10] w = ex_ev d (ex_cal d) 103 (ex_blk 103 0, [.ref a0, .ref a1, .ref a2, .ref a3, .int a4, .int a5, .int a6, .int a7, .int a8, .int a9, .int a10, .null, .null, .null, .null, .null, .null, .null, .null, .null, .null, .null, .null, .null], [], w) := by
  rw [ex_cal_s (by simp [ex_okR, ex_isv, ex_lay, show ex_C 103 = 11 from rfl, show ex_L 103 = 24 from rfl])]
  rfl
theorem kr_104 : ex_ret 104 = some .boolean := rfl
theorem kc_0 : ex_cls 0 = 10 := rfl
theorem kf_0_640 {w : PW} : ex_fv w 0 640 = some (.ref 1) := rfl
theorem kf_0_641 {w : PW} : ex_fv w 0 641 = some (.ref 3) := rfl
theorem kf_0_642 {w : PW} : ex_fv w 0 642 = some (.ref 4) := rfl
theorem kf_0_643 {w : PW} : ex_fv w 0 643 = some (.ref 5) := rfl
theorem kf_0_644 {w : PW} : ex_fv w 0 644 = some (.ref 17) := rfl
theorem kf_0_645 {w : PW} : ex_fv w 0 645 = some (.ref 20) := rfl
theorem kf_0_646 {w : PW} : ex_fv w 0 646 = some (.ref 29) := rfl
theorem kf_0_647 {w : PW} : ex_fv w 0 647 = some (.ref 38) := rfl
theorem kf_0_648 {w : PW} : ex_fv w 0 648 = some (.ref 41) := rfl
theorem kf_0_649 {w : PW} : ex_fv w 0 649 = some (.int (w.1 0 9)) := rfl
theorem kk_0_649 : ex_fk 0 649 = some 2 := rfl
theorem kf_0_650 {w : PW} : ex_fv w 0 650 = some (.int (w.1 0 10)) := rfl
theorem kk_0_650 : ex_fk 0 650 = some 0 := rfl
theorem kf_0_651 {w : PW} : ex_fv w 0 651 = some (.int (w.1 0 11)) := rfl
theorem kk_0_651 : ex_fk 0 651 = some 0 := rfl
theorem kc_1 : ex_cls 1 = 7 := rfl
theorem kf_1_448 {w : PW} : ex_fv w 1 448 = some (.ref 2) := rfl
theorem kf_1_449 {w : PW} : ex_fv w 1 449 = some (.int (w.1 1 1)) := rfl
theorem kk_1_449 : ex_fk 1 449 = some 0 := rfl
theorem kc_2 : ex_cls 2 = 12 := rfl
theorem kl_2 : ex_len 2 = 40 := rfl
theorem ka_2 {w : PW} {i : Int32} : ex_ald w 2 i = if i < 0 ∨ 40 ≤ i.toNatClampNeg then none else some (w.1 2 i.toNatClampNeg) := rfl
theorem kc_3 : ex_cls 3 = 2 := rfl
theorem kf_3_128 {w : PW} : ex_fv w 3 128 = some (.int (w.1 3 0)) := rfl
theorem kk_3_128 : ex_fk 3 128 = some 0 := rfl
theorem kf_3_129 {w : PW} : ex_fv w 3 129 = some (.int (w.1 3 1)) := rfl
theorem kk_3_129 : ex_fk 3 129 = some 0 := rfl
theorem kf_3_130 {w : PW} : ex_fv w 3 130 = some (.int (w.1 3 2)) := rfl
theorem kk_3_130 : ex_fk 3 130 = some 0 := rfl
theorem kf_3_131 {w : PW} : ex_fv w 3 131 = some (.int (w.1 3 3)) := rfl
theorem kk_3_131 : ex_fk 3 131 = some 2 := rfl
theorem kc_4 : ex_cls 4 = 4 := rfl
theorem kf_4_256 {w : PW} : ex_fv w 4 256 = some (.int (w.1 4 0)) := rfl
theorem kk_4_256 : ex_fk 4 256 = some 0 := rfl
theorem kf_4_257 {w : PW} : ex_fv w 4 257 = some (.int (w.1 4 1)) := rfl
theorem kk_4_257 : ex_fk 4 257 = some 0 := rfl
theorem kf_4_258 {w : PW} : ex_fv w 4 258 = some (.int (w.1 4 2)) := rfl
theorem kk_4_258 : ex_fk 4 258 = some 0 := rfl
theorem kf_4_259 {w : PW} : ex_fv w 4 259 = some (.int (w.1 4 3)) := rfl
theorem kk_4_259 : ex_fk 4 259 = some 0 := rfl
theorem kf_4_260 {w : PW} : ex_fv w 4 260 = some (.int (w.1 4 4)) := rfl
theorem kk_4_260 : ex_fk 4 260 = some 0 := rfl
theorem kf_4_261 {w : PW} : ex_fv w 4 261 = some (.int (w.1 4 5)) := rfl
theorem kk_4_261 : ex_fk 4 261 = some 0 := rfl
theorem kf_4_262 {w : PW} : ex_fv w 4 262 = some (.int (w.1 4 6)) := rfl
theorem kk_4_262 : ex_fk 4 262 = some 0 := rfl
theorem kc_5 : ex_cls 5 = 1 := rfl
theorem kf_5_64 {w : PW} : ex_fv w 5 64 = some (.ref 6) := rfl
theorem kf_5_65 {w : PW} : ex_fv w 5 65 = some (.ref 7) := rfl
theorem kf_5_66 {w : PW} : ex_fv w 5 66 = some (.ref 8) := rfl
theorem kf_5_67 {w : PW} : ex_fv w 5 67 = some (.ref 9) := rfl
theorem kf_5_68 {w : PW} : ex_fv w 5 68 = some (.ref 10) := rfl
theorem kf_5_69 {w : PW} : ex_fv w 5 69 = some (.ref 11) := rfl
theorem kf_5_70 {w : PW} : ex_fv w 5 70 = some (.ref 12) := rfl
theorem kf_5_71 {w : PW} : ex_fv w 5 71 = some (.ref 13) := rfl
theorem kf_5_72 {w : PW} : ex_fv w 5 72 = some (.ref 14) := rfl
theorem kf_5_73 {w : PW} : ex_fv w 5 73 = some (.ref 15) := rfl
theorem kf_5_74 {w : PW} : ex_fv w 5 74 = some (.ref 16) := rfl
theorem kf_5_75 {w : PW} : ex_fv w 5 75 = some (.int (w.1 5 11)) := rfl
theorem kk_5_75 : ex_fk 5 75 = some 0 := rfl
theorem kf_5_76 {w : PW} : ex_fv w 5 76 = some (.int (w.1 5 12)) := rfl
theorem kk_5_76 : ex_fk 5 76 = some 0 := rfl
theorem kf_5_77 {w : PW} : ex_fv w 5 77 = some (.int (w.1 5 13)) := rfl
theorem kk_5_77 : ex_fk 5 77 = some 0 := rfl
theorem kc_6 : ex_cls 6 = 12 := rfl
theorem kl_6 : ex_len 6 = 24 := rfl
theorem ka_6 {w : PW} {i : Int32} : ex_ald w 6 i = if i < 0 ∨ 24 ≤ i.toNatClampNeg then none else some (w.1 6 i.toNatClampNeg) := rfl
theorem kc_7 : ex_cls 7 = 12 := rfl
theorem kl_7 : ex_len 7 = 24 := rfl
theorem ka_7 {w : PW} {i : Int32} : ex_ald w 7 i = if i < 0 ∨ 24 ≤ i.toNatClampNeg then none else some (w.1 7 i.toNatClampNeg) := rfl
theorem kc_8 : ex_cls 8 = 12 := rfl
theorem kl_8 : ex_len 8 = 24 := rfl
theorem ka_8 {w : PW} {i : Int32} : ex_ald w 8 i = if i < 0 ∨ 24 ≤ i.toNatClampNeg then none else some (w.1 8 i.toNatClampNeg) := rfl
theorem kc_9 : ex_cls 9 = 12 := rfl
theorem kl_9 : ex_len 9 = 4 := rfl
theorem ka_9 {w : PW} {i : Int32} : ex_ald w 9 i = if i < 0 ∨ 4 ≤ i.toNatClampNeg then none else some (w.1 9 i.toNatClampNeg) := rfl
theorem kc_10 : ex_cls 10 = 12 := rfl
theorem kl_10 : ex_len 10 = 96 := rfl
theorem ka_10 {w : PW} {i : Int32} : ex_ald w 10 i = if i < 0 ∨ 96 ≤ i.toNatClampNeg then none else some (w.1 10 i.toNatClampNeg) := rfl
theorem kc_11 : ex_cls 11 = 12 := rfl
theorem kl_11 : ex_len 11 = 96 := rfl
theorem ka_11 {w : PW} {i : Int32} : ex_ald w 11 i = if i < 0 ∨ 96 ≤ i.toNatClampNeg then none else some (w.1 11 i.toNatClampNeg) := rfl
theorem kc_12 : ex_cls 12 = 12 := rfl
theorem kl_12 : ex_len 12 = 96 := rfl
theorem ka_12 {w : PW} {i : Int32} : ex_ald w 12 i = if i < 0 ∨ 96 ≤ i.toNatClampNeg then none else some (w.1 12 i.toNatClampNeg) := rfl
theorem kc_13 : ex_cls 13 = 12 := rfl
theorem kl_13 : ex_len 13 = 96 := rfl
theorem ka_13 {w : PW} {i : Int32} : ex_ald w 13 i = if i < 0 ∨ 96 ≤ i.toNatClampNeg then none else some (w.1 13 i.toNatClampNeg) := rfl
theorem kc_14 : ex_cls 14 = 12 := rfl
theorem kl_14 : ex_len 14 = 24 := rfl
theorem ka_14 {w : PW} {i : Int32} : ex_ald w 14 i = if i < 0 ∨ 24 ≤ i.toNatClampNeg then none else some (w.1 14 i.toNatClampNeg) := rfl
theorem kc_15 : ex_cls 15 = 12 := rfl
theorem kl_15 : ex_len 15 = 24 := rfl
theorem ka_15 {w : PW} {i : Int32} : ex_ald w 15 i = if i < 0 ∨ 24 ≤ i.toNatClampNeg then none else some (w.1 15 i.toNatClampNeg) := rfl
theorem kc_16 : ex_cls 16 = 12 := rfl
theorem kl_16 : ex_len 16 = 24 := rfl
theorem ka_16 {w : PW} {i : Int32} : ex_ald w 16 i = if i < 0 ∨ 24 ≤ i.toNatClampNeg then none else some (w.1 16 i.toNatClampNeg) := rfl
theorem kc_17 : ex_cls 17 = 5 := rfl
theorem kf_17_320 {w : PW} : ex_fv w 17 320 = some (.ref 18) := rfl
theorem kc_18 : ex_cls 18 = 8 := rfl
theorem kf_18_512 {w : PW} : ex_fv w 18 512 = some (.ref 19) := rfl
theorem kf_18_513 {w : PW} : ex_fv w 18 513 = some (.int (w.1 18 1)) := rfl
theorem kk_18_513 : ex_fk 18 513 = some 0 := rfl
theorem kf_18_514 {w : PW} : ex_fv w 18 514 = some (.int (w.1 18 2)) := rfl
theorem kk_18_514 : ex_fk 18 514 = some 0 := rfl
theorem kc_19 : ex_cls 19 = 12 := rfl
theorem kl_19 : ex_len 19 = 60 := rfl
theorem ka_19 {w : PW} {i : Int32} : ex_ald w 19 i = if i < 0 ∨ 60 ≤ i.toNatClampNeg then none else some (w.1 19 i.toNatClampNeg) := rfl
theorem kc_20 : ex_cls 20 = 0 := rfl
theorem kf_20_0 {w : PW} : ex_fv w 20 0 = some (.ref 21) := rfl
theorem kf_20_1 {w : PW} : ex_fv w 20 1 = some (.ref 23) := rfl
theorem kf_20_2 {w : PW} : ex_fv w 20 2 = some (.ref 25) := rfl
theorem kf_20_3 {w : PW} : ex_fv w 20 3 = some (.ref 27) := rfl
theorem kc_21 : ex_cls 21 = 8 := rfl
theorem kf_21_512 {w : PW} : ex_fv w 21 512 = some (.ref 22) := rfl
theorem kf_21_513 {w : PW} : ex_fv w 21 513 = some (.int (w.1 21 1)) := rfl
theorem kk_21_513 : ex_fk 21 513 = some 0 := rfl
theorem kf_21_514 {w : PW} : ex_fv w 21 514 = some (.int (w.1 21 2)) := rfl
theorem kk_21_514 : ex_fk 21 514 = some 0 := rfl
theorem kc_22 : ex_cls 22 = 12 := rfl
theorem kl_22 : ex_len 22 = 60 := rfl
theorem ka_22 {w : PW} {i : Int32} : ex_ald w 22 i = if i < 0 ∨ 60 ≤ i.toNatClampNeg then none else some (w.1 22 i.toNatClampNeg) := rfl
theorem kc_23 : ex_cls 23 = 8 := rfl
theorem kf_23_512 {w : PW} : ex_fv w 23 512 = some (.ref 24) := rfl
theorem kf_23_513 {w : PW} : ex_fv w 23 513 = some (.int (w.1 23 1)) := rfl
theorem kk_23_513 : ex_fk 23 513 = some 0 := rfl
theorem kf_23_514 {w : PW} : ex_fv w 23 514 = some (.int (w.1 23 2)) := rfl
theorem kk_23_514 : ex_fk 23 514 = some 0 := rfl
theorem kc_24 : ex_cls 24 = 12 := rfl
theorem kl_24 : ex_len 24 = 60 := rfl
theorem ka_24 {w : PW} {i : Int32} : ex_ald w 24 i = if i < 0 ∨ 60 ≤ i.toNatClampNeg then none else some (w.1 24 i.toNatClampNeg) := rfl
theorem kc_25 : ex_cls 25 = 8 := rfl
theorem kf_25_512 {w : PW} : ex_fv w 25 512 = some (.ref 26) := rfl
theorem kf_25_513 {w : PW} : ex_fv w 25 513 = some (.int (w.1 25 1)) := rfl
theorem kk_25_513 : ex_fk 25 513 = some 0 := rfl
theorem kf_25_514 {w : PW} : ex_fv w 25 514 = some (.int (w.1 25 2)) := rfl
theorem kk_25_514 : ex_fk 25 514 = some 0 := rfl
theorem kc_26 : ex_cls 26 = 12 := rfl
theorem kl_26 : ex_len 26 = 60 := rfl
theorem ka_26 {w : PW} {i : Int32} : ex_ald w 26 i = if i < 0 ∨ 60 ≤ i.toNatClampNeg then none else some (w.1 26 i.toNatClampNeg) := rfl
theorem kc_27 : ex_cls 27 = 8 := rfl
theorem kf_27_512 {w : PW} : ex_fv w 27 512 = some (.ref 28) := rfl
theorem kf_27_513 {w : PW} : ex_fv w 27 513 = some (.int (w.1 27 1)) := rfl
theorem kk_27_513 : ex_fk 27 513 = some 0 := rfl
theorem kf_27_514 {w : PW} : ex_fv w 27 514 = some (.int (w.1 27 2)) := rfl
theorem kk_27_514 : ex_fk 27 514 = some 0 := rfl
theorem kc_28 : ex_cls 28 = 12 := rfl
theorem kl_28 : ex_len 28 = 60 := rfl
theorem ka_28 {w : PW} {i : Int32} : ex_ald w 28 i = if i < 0 ∨ 60 ≤ i.toNatClampNeg then none else some (w.1 28 i.toNatClampNeg) := rfl
theorem kc_29 : ex_cls 29 = 0 := rfl
theorem kf_29_0 {w : PW} : ex_fv w 29 0 = some (.ref 30) := rfl
theorem kf_29_1 {w : PW} : ex_fv w 29 1 = some (.ref 32) := rfl
theorem kf_29_2 {w : PW} : ex_fv w 29 2 = some (.ref 34) := rfl
theorem kf_29_3 {w : PW} : ex_fv w 29 3 = some (.ref 36) := rfl
theorem kc_30 : ex_cls 30 = 8 := rfl
theorem kf_30_512 {w : PW} : ex_fv w 30 512 = some (.ref 31) := rfl
theorem kf_30_513 {w : PW} : ex_fv w 30 513 = some (.int (w.1 30 1)) := rfl
theorem kk_30_513 : ex_fk 30 513 = some 0 := rfl
theorem kf_30_514 {w : PW} : ex_fv w 30 514 = some (.int (w.1 30 2)) := rfl
theorem kk_30_514 : ex_fk 30 514 = some 0 := rfl
theorem kc_31 : ex_cls 31 = 12 := rfl
theorem kl_31 : ex_len 31 = 60 := rfl
theorem ka_31 {w : PW} {i : Int32} : ex_ald w 31 i = if i < 0 ∨ 60 ≤ i.toNatClampNeg then none else some (w.1 31 i.toNatClampNeg) := rfl
theorem kc_32 : ex_cls 32 = 8 := rfl
theorem kf_32_512 {w : PW} : ex_fv w 32 512 = some (.ref 33) := rfl
theorem kf_32_513 {w : PW} : ex_fv w 32 513 = some (.int (w.1 32 1)) := rfl
theorem kk_32_513 : ex_fk 32 513 = some 0 := rfl
theorem kf_32_514 {w : PW} : ex_fv w 32 514 = some (.int (w.1 32 2)) := rfl
theorem kk_32_514 : ex_fk 32 514 = some 0 := rfl
theorem kc_33 : ex_cls 33 = 12 := rfl
theorem kl_33 : ex_len 33 = 60 := rfl
theorem ka_33 {w : PW} {i : Int32} : ex_ald w 33 i = if i < 0 ∨ 60 ≤ i.toNatClampNeg then none else some (w.1 33 i.toNatClampNeg) := rfl
theorem kc_34 : ex_cls 34 = 8 := rfl
theorem kf_34_512 {w : PW} : ex_fv w 34 512 = some (.ref 2535) := rfl
theorem kf_34_513 {w : PW} : ex_fv w 34 513 = some (.int (w.1 34 1)) := rfl
theorem kk_34_513 : ex_fk 34 513 = some 0 := rfl
theorem kf_34_514 {w : PW} : ex_fv w 34 514 = some (.int (w.1 34 2)) := rfl
theorem kk_34_514 : ex_fk 34 514 = some 0 := rfl
theorem kc_35 : ex_cls 35 = 99 := rfl
theorem kc_36 : ex_cls 36 = 8 := rfl
theorem kf_36_512 {w : PW} : ex_fv w 36 512 = some (.ref 2537) := rfl
theorem kf_36_513 {w : PW} : ex_fv w 36 513 = some (.int (w.1 36 1)) := rfl
theorem kk_36_513 : ex_fk 36 513 = some 0 := rfl
theorem kf_36_514 {w : PW} : ex_fv w 36 514 = some (.int (w.1 36 2)) := rfl
theorem kk_36_514 : ex_fk 36 514 = some 0 := rfl
theorem kc_37 : ex_cls 37 = 99 := rfl
theorem kc_38 : ex_cls 38 = 3 := rfl
theorem kf_38_192 {w : PW} : ex_fv w 38 192 = some (.ref 39) := rfl
theorem kf_38_193 {w : PW} : ex_fv w 38 193 = some (.ref 40) := rfl
theorem kf_38_194 {w : PW} : ex_fv w 38 194 = some (.int (w.1 38 2)) := rfl
theorem kk_38_194 : ex_fk 38 194 = some 0 := rfl
theorem kc_39 : ex_cls 39 = 12 := rfl
theorem kl_39 : ex_len 39 = 6 := rfl
theorem ka_39 {w : PW} {i : Int32} : ex_ald w 39 i = if i < 0 ∨ 6 ≤ i.toNatClampNeg then none else some (w.1 39 i.toNatClampNeg) := rfl
theorem kc_40 : ex_cls 40 = 12 := rfl
theorem kl_40 : ex_len 40 = 144 := rfl
theorem ka_40 {w : PW} {i : Int32} : ex_ald w 40 i = if i < 0 ∨ 144 ≤ i.toNatClampNeg then none else some (w.1 40 i.toNatClampNeg) := rfl
theorem kc_41 : ex_cls 41 = 6 := rfl
theorem kf_41_384 {w : PW} : ex_fv w 41 384 = some (.ref 2542) := rfl
theorem kf_41_385 {w : PW} : ex_fv w 41 385 = some (.ref 43) := rfl
theorem kf_41_386 {w : PW} : ex_fv w 41 386 = some (.ref 44) := rfl
theorem kf_41_387 {w : PW} : ex_fv w 41 387 = some (.ref 45) := rfl
theorem kf_41_388 {w : PW} : ex_fv w 41 388 = some (.int (w.1 41 4)) := rfl
theorem kk_41_388 : ex_fk 41 388 = some 0 := rfl
theorem kf_41_389 {w : PW} : ex_fv w 41 389 = some (.int (w.1 41 5)) := rfl
theorem kk_41_389 : ex_fk 41 389 = some 0 := rfl
theorem kc_42 : ex_cls 42 = 99 := rfl
theorem kc_43 : ex_cls 43 = 12 := rfl
theorem kl_43 : ex_len 43 = 3 := rfl
theorem ka_43 {w : PW} {i : Int32} : ex_ald w 43 i = if i < 0 ∨ 3 ≤ i.toNatClampNeg then none else some (w.1 43 i.toNatClampNeg) := rfl
theorem kc_44 : ex_cls 44 = 12 := rfl
theorem kl_44 : ex_len 44 = 3 := rfl
theorem ka_44 {w : PW} {i : Int32} : ex_ald w 44 i = if i < 0 ∨ 3 ≤ i.toNatClampNeg then none else some (w.1 44 i.toNatClampNeg) := rfl
theorem kc_45 : ex_cls 45 = 12 := rfl
theorem kl_45 : ex_len 45 = 5 := rfl
theorem ka_45 {w : PW} {i : Int32} : ex_ald w 45 i = if i < 0 ∨ 5 ≤ i.toNatClampNeg then none else some (w.1 45 i.toNatClampNeg) := rfl
theorem kc_46 : ex_cls 46 = 12 := rfl
theorem kl_46 : ex_len 46 = 6 := rfl
theorem ka_46 {w : PW} {i : Int32} : ex_ald w 46 i = if i < 0 ∨ 6 ≤ i.toNatClampNeg then none else some (w.1 46 i.toNatClampNeg) := rfl
theorem kc_47 : ex_cls 47 = 12 := rfl
theorem kl_47 : ex_len 47 = 24 := rfl
theorem ka_47 {w : PW} {i : Int32} : ex_ald w 47 i = if i < 0 ∨ 24 ≤ i.toNatClampNeg then none else some (w.1 47 i.toNatClampNeg) := rfl
theorem kc_48 : ex_cls 48 = 12 := rfl
theorem kl_48 : ex_len 48 = 24 := rfl
theorem ka_48 {w : PW} {i : Int32} : ex_ald w 48 i = if i < 0 ∨ 24 ≤ i.toNatClampNeg then none else some (w.1 48 i.toNatClampNeg) := rfl
theorem kc_49 : ex_cls 49 = 12 := rfl
theorem kl_49 : ex_len 49 = 40 := rfl
theorem ka_49 {w : PW} {i : Int32} : ex_ald w 49 i = if i < 0 ∨ 40 ≤ i.toNatClampNeg then none else some (w.1 49 i.toNatClampNeg) := rfl
theorem kc_50 : ex_cls 50 = 12 := rfl
theorem kl_50 : ex_len 50 = 60 := rfl
theorem ka_50 {w : PW} {i : Int32} : ex_ald w 50 i = if i < 0 ∨ 60 ≤ i.toNatClampNeg then none else some (w.1 50 i.toNatClampNeg) := rfl
theorem kc_51 : ex_cls 51 = 12 := rfl
theorem kl_51 : ex_len 51 = 24 := rfl
theorem ka_51 {w : PW} {i : Int32} : ex_ald w 51 i = if i < 0 ∨ 24 ≤ i.toNatClampNeg then none else some (w.1 51 i.toNatClampNeg) := rfl
theorem kc_52 : ex_cls 52 = 12 := rfl
theorem kl_52 : ex_len 52 = 3 := rfl
theorem ka_52 {w : PW} {i : Int32} : ex_ald w 52 i = if i < 0 ∨ 3 ≤ i.toNatClampNeg then none else some (w.1 52 i.toNatClampNeg) := rfl
theorem ka_1000 {w : PW} {i : Int32} : ex_ald w 1000 i = if i < 0 ∨ 4 ≤ i.toNatClampNeg then none else some (ex_down i.toNatClampNeg) := rfl
theorem ka_1001 {w : PW} {i : Int32} : ex_ald w 1001 i = if i < 0 ∨ 4 ≤ i.toNatClampNeg then none else some (ex_right i.toNatClampNeg) := rfl
theorem ka_2000 {w : PW} {i : Int32} : ex_ald w 2000 i = if i < 0 ∨ w.2.2.1 ≤ i.toNatClampNeg then none else some (w.2.2.2 i.toNatClampNeg) := rfl
theorem cg_42 {pl r : List Value} : ex_cg 42 pl r = true := rfl
theorem cg_45 {pl r : List Value} : ex_cg 45 pl r = true := rfl
theorem cg_53 {pl r : List Value} : ex_cg 53 pl r = true := rfl
theorem cg_54 {pl r : List Value} : ex_cg 54 pl r = true := rfl
theorem cg_83 {pl r : List Value} : ex_cg 83 pl r = true := rfl
theorem cg_84 {pl r : List Value} : ex_cg 84 pl r = true := rfl
theorem cg_85 {pl r : List Value} : ex_cg 85 pl r = true := rfl
theorem cg_92 {pl r : List Value} : ex_cg 92 pl r = true := rfl
theorem cg_93 {pl r : List Value} : ex_cg 93 pl r = true := rfl
theorem cg_94 {pl r : List Value} : ex_cg 94 pl r = true := rfl
theorem cg_95 {pl r : List Value} : ex_cg 95 pl r = true := rfl
theorem cg_96 {pl r : List Value} : ex_cg 96 pl r = true := rfl
theorem cg_97 {pl r : List Value} : ex_cg 97 pl r = true := rfl
theorem cg_98 {pl r : List Value} : ex_cg 98 pl r = true := rfl
theorem cg_99 {pl r : List Value} : ex_cg 99 pl r = true := rfl
theorem cg_100 {pl r : List Value} : ex_cg 100 pl r = true := rfl
theorem cg_101 {pl r : List Value} : ex_cg 101 pl r = (pl.all ex_n51 && r.all ex_n51) := rfl
theorem cg_102 {pl r : List Value} : ex_cg 102 pl r = (pl.all ex_n51 && r.all ex_n51) := rfl
theorem cg_103 {pl r : List Value} : ex_cg 103 pl r = true := rfl
theorem kd_0_2 : ex_dsp 0 2 = some 65 := rfl
theorem kd_1_2 : ex_dsp 1 2 = some 28 := rfl
theorem kd_1_4 : ex_dsp 1 4 = some 35 := rfl
theorem kd_2_2 : ex_dsp 2 2 = some 29 := rfl
theorem kd_2_4 : ex_dsp 2 4 = some 36 := rfl
theorem kd_3_4 : ex_dsp 3 4 = some 65 := rfl
theorem kd_4_2 : ex_dsp 4 2 = some 66 := rfl
theorem kd_5_2 : ex_dsp 5 2 = some 65 := rfl
theorem kd_5_4 : ex_dsp 5 4 = some 65 := rfl
theorem kd_6_2 : ex_dsp 6 2 = some 34 := rfl
theorem kd_6_4 : ex_dsp 6 4 = some 43 := rfl
theorem kd_7_4 : ex_dsp 7 4 = some 66 := rfl
