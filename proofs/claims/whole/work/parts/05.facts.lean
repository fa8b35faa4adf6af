/-! facts of the tables, a row each (printed by wip/whole/gen5.py) -/
theorem kb_0_0 : ex_blk 0 0 = [.aload 0, .getfield 0, .invokevirtual 760, .aload 0, .getfield 1, .invokevirtual 760, .aload 0, .getfield 2, .invokevirtual 760, .aload 0, .getfield 3, .invokevirtual 760, .return_] := rfl
theorem kb_1_0 : ex_blk 1 0 = [.aload 0, .getfield 0, .aload 1, .getfield 0, .invokevirtual 769, .aload 0, .getfield 1, .aload 1, .getfield 1, .invokevirtual 769, .aload 0, .getfield 2, .aload 1, .getfield 2, .invokevirtual 769, .aload 0, .getfield 3, .aload 1, .getfield 3, .invokevirtual 769, .return_] := rfl
theorem kb_2_0 : ex_blk 2 0 = [.iload 1, .ifCond .eq 19, .iload 0, .iload 1, .if_icmp .eq 19, .iload 0, .sipush 3, .if_icmp .ne 23, .iload 1, .sipush 2, .if_icmp .ne 23, .jsr 19] := rfl
theorem kb_2_19 : ex_blk 2 19 = [.sipush 1, .goto 24] := rfl
theorem kb_2_23 : ex_blk 2 23 = [.sipush 0, .jsr 24] := rfl
theorem kb_2_24 : ex_blk 2 24 = [.areturn] := rfl
theorem kb_3_0 : ex_blk 3 0 = [.aload 0, .getfield 0, .iload 1, .sipush 0, .invokevirtual 746, .ireturn] := rfl
theorem kb_4_0 : ex_blk 4 0 = [.aload 0, .getfield 0, .iload 1, .sipush 1, .invokevirtual 746, .ireturn] := rfl
theorem kb_5_0 : ex_blk 5 0 = [.aload 0, .getfield 0, .iload 1, .sipush 2, .invokevirtual 746, .ireturn] := rfl
theorem kb_6_0 : ex_blk 6 0 = [.sipush 4, .aload 0, .iload 1, .invokevirtual 33, .imul, .aload 0, .iload 1, .invokevirtual 41, .iadd, .ireturn] := rfl
theorem kb_7_0 : ex_blk 7 0 = [.aload 0, .getfield 0, .iload 1, .sipush 1, .iload 2, .invokevirtual 755, .aload 0, .getfield 0, .iload 1, .sipush 2, .iload 3, .invokevirtual 755, .return_] := rfl
theorem kb_8_0 : ex_blk 8 0 = [.aload 0, .iload 2, .invokevirtual 33, .istore 3, .aload 0, .iload 2, .invokevirtual 25, .sipush 1, .if_icmp .ne 28, .aload 1, .iload 3, .aload 0, .iload 2, .invokevirtual 41, .invokevirtual 210, .goto 29] := rfl
theorem kb_8_28 : ex_blk 8 28 = [.iload 3, .jsr 29] := rfl
theorem kb_8_29 : ex_blk 8 29 = [.ireturn] := rfl
theorem kb_9_0 : ex_blk 9 0 = [.sipush 0, .istore 3, .sipush 0, .istore 4, .jsr 5] := rfl
theorem kb_9_5 : ex_blk 9 5 = [.iload 4, .aload 0, .getfield 0, .invokevirtual 720, .if_icmp .ge 48, .iload 4, .iload 2, .if_icmp .eq 42, .iload 3, .aload 1, .aload 0, .iload 4, .invokevirtual 25, .aload 0, .iload 4, .invokevirtual 49, .invokevirtual 242, .ior, .istore 3, .jsr 42] := rfl
theorem kb_9_42 : ex_blk 9 42 = [.iinc 4 1, .goto 5] := rfl
theorem kb_9_48 : ex_blk 9 48 = [.iload 3, .ireturn] := rfl
theorem kb_10_0 : ex_blk 10 0 = [.sipush 0, .istore 3, .jsr 2] := rfl
theorem kb_10_2 : ex_blk 10 2 = [.iload 3, .aload 0, .getfield 0, .invokevirtual 720, .if_icmp .ge 42, .aload 1, .aload 0, .iload 3, .invokevirtual 25, .aload 0, .iload 3, .invokevirtual 49, .invokevirtual 242, .iload 2, .ishr, .sipush 1, .iand, .ifCond .eq 36, .iload 3, .ireturn] := rfl
theorem kb_10_36 : ex_blk 10 36 = [.iinc 3 1, .goto 2] := rfl
theorem kb_10_42 : ex_blk 10 42 = [.sipush (-1), .ireturn] := rfl
theorem kb_11_0 : ex_blk 11 0 = [.aload 0, .sipush 0, .putfield 75, .sipush 0, .istore 2, .sipush 0, .istore 3, .sipush 0, .istore 4, .jsr 12] := rfl
theorem kb_11_12 : ex_blk 11 12 = [.iload 4, .aload 1, .invokevirtual 696, .if_icmp .ge 77, .aload 1, .iload 4, .invokevirtual 705, .istore 5, .iload 5, .sipush 47, .if_icmp .ne 44, .iinc 2 1, .sipush 0, .istore 3, .goto 71] := rfl
theorem kb_11_44 : ex_blk 11 44 = [.iload 5, .sipush 124, .if_icmp .ne 60, .aload 0, .iload 2, .iload 3, .invokevirtual 98, .goto 71] := rfl
theorem kb_11_60 : ex_blk 11 60 = [.aload 0, .iload 5, .iload 2, .iload 3, .invokevirtual 107, .iinc 3 1, .jsr 71] := rfl
theorem kb_11_71 : ex_blk 11 71 = [.iinc 4 1, .goto 12] := rfl
theorem kb_11_77 : ex_blk 11 77 = [.aload 0, .iload 2, .sipush 1, .iadd, .putfield 76, .aload 0, .iload 3, .putfield 77, .aload 0, .invokevirtual 112, .aload 0, .invokevirtual 136, .return_] := rfl
theorem kb_12_0 : ex_blk 12 0 = [.iload 1, .sipush 4, .invokestatic 1042, .ifCond .eq 15, .aload 0, .getfield 67, .iload 1, .iload 2, .iastore, .jsr 15] := rfl
theorem kb_12_15 : ex_blk 12 15 = [.return_] := rfl
theorem kb_13_0 : ex_blk 13 0 = [.aload 0, .getfield 75, .sipush 24, .if_icmp .lt 10, .return_] := rfl
theorem kb_13_10 : ex_blk 13 10 = [.iload 1, .sipush 100, .if_icmp .ne 29, .aload 0, .getfield 64, .aload 0, .getfield 75, .sipush 2, .iastore, .goto 49] := rfl
theorem kb_13_29 : ex_blk 13 29 = [.aload 0, .getfield 64, .aload 0, .getfield 75, .iload 1, .sipush 35, .if_icmp .ne 47, .sipush 1, .goto 48] := rfl
theorem kb_13_47 : ex_blk 13 47 = [.sipush 0, .jsr 48] := rfl
theorem kb_13_48 : ex_blk 13 48 = [.iastore, .jsr 49] := rfl
theorem kb_13_49 : ex_blk 13 49 = [.aload 0, .getfield 65, .aload 0, .getfield 75, .iload 2, .iastore, .aload 0, .getfield 66, .aload 0, .getfield 75, .iload 3, .iastore, .aload 0, .dup, .getfield 75, .sipush 1, .iadd, .putfield 75, .return_] := rfl
theorem kb_14_0 : ex_blk 14 0 = [.sipush 0, .istore 1, .jsr 2] := rfl
theorem kb_14_2 : ex_blk 14 2 = [.iload 1, .sipush 96, .if_icmp .ge 25, .aload 0, .iload 1, .iload 1, .sipush 2, .ishr, .iload 1, .sipush 3, .iand, .invokevirtual 123, .iinc 1 1, .goto 2] := rfl
theorem kb_14_25 : ex_blk 14 25 = [.return_] := rfl
theorem kb_15_0 : ex_blk 15 0 = [.sipush (-1), .istore 4, .iload 2, .aload 0, .getfield 75, .if_icmp .ge 41, .aload 0, .aload 0, .getfield 65, .iload 2, .iaload, .getstatic 1000, .iload 3, .iaload, .iadd, .aload 0, .getfield 66, .iload 2, .iaload, .getstatic 1001, .iload 3, .iaload, .iadd, .invokevirtual 130, .istore 4, .jsr 41] := rfl
theorem kb_15_41 : ex_blk 15 41 = [.aload 0, .getfield 68, .iload 1, .iload 4, .iastore, .aload 0, .getfield 69, .iload 1, .aload 0, .iload 4, .invokevirtual 185, .ifCond .eq 68, .iload 4, .goto 69] := rfl
theorem kb_15_68 : ex_blk 15 68 = [.iload 2, .jsr 69] := rfl
theorem kb_15_69 : ex_blk 15 69 = [.iastore, .aload 0, .getfield 70, .iload 1, .aload 0, .iload 2, .invokevirtual 193, .ifCond .eq 103, .aload 0, .iload 4, .invokevirtual 193, .ifCond .eq 103, .sipush 1, .iload 2, .ishl, .sipush 1, .iload 4, .ishl, .ior, .goto 104] := rfl
theorem kb_15_103 : ex_blk 15 103 = [.sipush 0, .jsr 104] := rfl
theorem kb_15_104 : ex_blk 15 104 = [.iastore, .aload 0, .getfield 71, .iload 1, .aload 0, .iload 2, .invokevirtual 193, .ifCond .eq 128, .iload 3, .ifCond .ne 128, .sipush 1, .iload 2, .ishl, .goto 129] := rfl
theorem kb_15_128 : ex_blk 15 128 = [.sipush 0, .jsr 129] := rfl
theorem kb_15_129 : ex_blk 15 129 = [.iastore, .return_] := rfl
theorem kb_16_0 : ex_blk 16 0 = [.iload 1, .aload 0, .getfield 76, .invokestatic 1042, .ifCond .eq 33, .iload 2, .aload 0, .getfield 77, .invokestatic 1042, .ifCond .eq 33, .iload 1, .aload 0, .getfield 77, .imul, .iload 2, .iadd, .goto 34] := rfl
theorem kb_16_33 : ex_blk 16 33 = [.sipush (-1), .jsr 34] := rfl
theorem kb_16_34 : ex_blk 16 34 = [.ireturn] := rfl
theorem kb_17_0 : ex_blk 17 0 = [.sipush 0, .istore 1, .jsr 2] := rfl
theorem kb_17_2 : ex_blk 17 2 = [.iload 1, .sipush 24, .if_icmp .ge 29, .aload 0, .getfield 72, .iload 1, .sipush (-1), .iastore, .aload 0, .getfield 73, .iload 1, .sipush 1000000, .iastore, .iinc 1 1, .goto 2] := rfl
theorem kb_17_29 : ex_blk 17 29 = [.sipush 0, .istore 1, .jsr 31] := rfl
theorem kb_17_31 : ex_blk 17 31 = [.iload 1, .aload 0, .getfield 75, .if_icmp .ge 66, .iload 1, .sipush 24, .if_icmp .ge 66, .aload 0, .getfield 64, .iload 1, .iaload, .sipush 2, .if_icmp .ne 60, .aload 0, .iload 1, .invokevirtual 145, .jsr 60] := rfl
theorem kb_17_60 : ex_blk 17 60 = [.iinc 1 1, .goto 31] := rfl
theorem kb_17_66 : ex_blk 17 66 = [.return_] := rfl
theorem kb_18_0 : ex_blk 18 0 = [.aload 0, .iload 1, .sipush 0, .sipush 0, .invokevirtual 259, .sipush 0, .istore 2, .jsr 9] := rfl
theorem kb_18_9 : ex_blk 18 9 = [.iload 2, .aload 0, .getfield 75, .if_icmp .ge 63, .iload 2, .sipush 24, .if_icmp .ge 63, .aload 0, .getfield 74, .iload 2, .iaload, .aload 0, .getfield 73, .iload 2, .iaload, .if_icmp .ge 57, .aload 0, .getfield 73, .iload 2, .aload 0, .getfield 74, .iload 2, .iaload, .iastore, .aload 0, .getfield 72, .iload 2, .iload 1, .iastore, .jsr 57] := rfl
theorem kb_18_57 : ex_blk 18 57 = [.iinc 2 1, .goto 9] := rfl
theorem kb_18_63 : ex_blk 18 63 = [.return_] := rfl
theorem kb_19_0 : ex_blk 19 0 = [.aload 0, .getfield 75, .ifCond .le 11, .sipush 1, .goto 12] := rfl
theorem kb_19_11 : ex_blk 19 11 = [.sipush 0, .jsr 12] := rfl
theorem kb_19_12 : ex_blk 19 12 = [.areturn] := rfl
theorem kb_20_0 : ex_blk 20 0 = [.aload 0, .getfield 75, .ireturn] := rfl
theorem kb_21_0 : ex_blk 21 0 = [.iload 1, .aload 0, .getfield 75, .invokestatic 1042, .areturn] := rfl
theorem kb_22_0 : ex_blk 22 0 = [.iload 1, .ifCond .lt 27, .iload 1, .aload 0, .getfield 75, .if_icmp .ge 27, .iload 1, .sipush 24, .if_icmp .ge 27, .aload 0, .getfield 64, .iload 1, .iaload, .goto 28] := rfl
theorem kb_22_27 : ex_blk 22 27 = [.sipush 1, .jsr 28] := rfl
theorem kb_22_28 : ex_blk 22 28 = [.ireturn] := rfl
theorem kb_23_0 : ex_blk 23 0 = [.aload 0, .iload 1, .invokevirtual 177, .sipush 1, .if_icmp .eq 13, .sipush 1, .goto 14] := rfl
theorem kb_23_13 : ex_blk 23 13 = [.sipush 0, .jsr 14] := rfl
theorem kb_23_14 : ex_blk 23 14 = [.areturn] := rfl
theorem kb_24_0 : ex_blk 24 0 = [.aload 0, .iload 1, .invokevirtual 177, .ifCond .ne 12, .sipush 1, .goto 13] := rfl
theorem kb_24_12 : ex_blk 24 12 = [.sipush 0, .jsr 13] := rfl
theorem kb_24_13 : ex_blk 24 13 = [.areturn] := rfl
theorem kb_25_0 : ex_blk 25 0 = [.iload 1, .aload 0, .getfield 75, .invokestatic 1042, .ifCond .eq 30, .iload 1, .sipush 24, .if_icmp .ge 30, .aload 0, .getfield 65, .iload 1, .iaload, .sipush 4, .invokestatic 1042, .ifCond .ne 32, .jsr 30] := rfl
theorem kb_25_30 : ex_blk 25 30 = [.sipush (-1), .ireturn] := rfl
theorem kb_25_32 : ex_blk 25 32 = [.aload 0, .getfield 66, .iload 1, .iaload, .aload 0, .getfield 67, .aload 0, .getfield 65, .iload 1, .iaload, .iaload, .iload 2, .iadd, .if_icmp .ge 58, .sipush 0, .goto 59] := rfl
theorem kb_25_58 : ex_blk 25 58 = [.sipush 1, .jsr 59] := rfl
theorem kb_25_59 : ex_blk 25 59 = [.ireturn] := rfl
theorem kb_26_0 : ex_blk 26 0 = [.sipush 4, .iload 1, .imul, .iload 2, .iadd, .istore 3, .iload 2, .sipush 4, .invokestatic 1042, .ifCond .eq 32, .iload 3, .sipush 96, .invokestatic 1042, .ifCond .eq 32, .aload 0, .getfield 68, .iload 3, .iaload, .goto 33] := rfl
theorem kb_26_32 : ex_blk 26 32 = [.sipush (-1), .jsr 33] := rfl
theorem kb_26_33 : ex_blk 26 33 = [.ireturn] := rfl
theorem kb_27_0 : ex_blk 27 0 = [.iload 2, .sipush 96, .invokestatic 1042, .ifCond .ne 11, .sipush (-1), .ireturn] := rfl
theorem kb_27_11 : ex_blk 27 11 = [.iload 3, .tableswitch 83 1 3 #[40, 54, 69]] := rfl
theorem kb_27_40 : ex_blk 27 40 = [.iload 1, .ifCond .ne 48, .sipush 1, .goto 49] := rfl
theorem kb_27_48 : ex_blk 27 48 = [.sipush 0, .jsr 49] := rfl
theorem kb_27_49 : ex_blk 27 49 = [.istore 4, .goto 86] := rfl
theorem kb_27_54 : ex_blk 27 54 = [.iload 1, .sipush 1, .if_icmp .ne 63, .sipush 1, .goto 64] := rfl
theorem kb_27_63 : ex_blk 27 63 = [.sipush 0, .jsr 64] := rfl
theorem kb_27_64 : ex_blk 27 64 = [.istore 4, .goto 86] := rfl
theorem kb_27_69 : ex_blk 27 69 = [.iload 1, .ifCond .eq 77, .sipush 1, .goto 78] := rfl
theorem kb_27_77 : ex_blk 27 77 = [.sipush 0, .jsr 78] := rfl
theorem kb_27_78 : ex_blk 27 78 = [.istore 4, .goto 86] := rfl
theorem kb_27_83 : ex_blk 27 83 = [.sipush 0, .istore 4, .jsr 86] := rfl
theorem kb_27_86 : ex_blk 27 86 = [.iload 4, .ifCond .eq 100, .aload 0, .getfield 69, .iload 2, .iaload, .goto 103] := rfl
theorem kb_27_100 : ex_blk 27 100 = [.iload 2, .sipush 2, .ishr, .jsr 103] := rfl
theorem kb_27_103 : ex_blk 27 103 = [.ireturn] := rfl
theorem kb_28_0 : ex_blk 28 0 = [.iload 1, .ifCond .lt 19, .iload 1, .sipush 24, .if_icmp .ge 19, .aload 0, .getfield 72, .iload 1, .iaload, .goto 20] := rfl
theorem kb_28_19 : ex_blk 28 19 = [.sipush (-1), .jsr 20] := rfl
theorem kb_28_20 : ex_blk 28 20 = [.ireturn] := rfl
theorem kb_29_0 : ex_blk 29 0 = [.aload 0, .iload 1, .invokevirtual 225, .istore 2, .iload 2, .sipush (-1), .if_icmp .ne 15, .iload 1, .goto 16] := rfl
theorem kb_29_15 : ex_blk 29 15 = [.iload 2, .jsr 16] := rfl
theorem kb_29_16 : ex_blk 29 16 = [.ireturn] := rfl
theorem kb_30_0 : ex_blk 30 0 = [.iload 2, .sipush 96, .invokestatic 1042, .ifCond .ne 11, .sipush 0, .ireturn] := rfl
theorem kb_30_11 : ex_blk 30 11 = [.iload 1, .sipush 1, .if_icmp .ne 25, .aload 0, .getfield 70, .iload 2, .iaload, .goto 31] := rfl
theorem kb_30_25 : ex_blk 30 25 = [.aload 0, .getfield 71, .iload 2, .iaload, .jsr 31] := rfl
theorem kb_30_31 : ex_blk 30 31 = [.ireturn] := rfl
theorem kb_31_0 : ex_blk 31 0 = [.aload 0, .iload 1, .iload 3, .iload 4, .invokevirtual 259, .iload 2, .sipush 24, .invokestatic 1042, .ifCond .eq 37, .aload 0, .getfield 74, .iload 2, .iaload, .sipush 1000000, .if_icmp .ge 37, .aload 0, .getfield 74, .iload 2, .iaload, .goto 38] := rfl
theorem kb_31_37 : ex_blk 31 37 = [.sipush (-1), .jsr 38] := rfl
theorem kb_31_38 : ex_blk 31 38 = [.ireturn] := rfl
theorem kb_32_0 : ex_blk 32 0 = [.sipush 0, .istore 4, .jsr 3] := rfl
theorem kb_32_3 : ex_blk 32 3 = [.iload 4, .sipush 24, .if_icmp .ge 35, .aload 0, .getfield 74, .iload 4, .iload 4, .iload 1, .if_icmp .ne 26, .sipush 0, .goto 28] := rfl
theorem kb_32_26 : ex_blk 32 26 = [.sipush 1000000, .jsr 28] := rfl
theorem kb_32_28 : ex_blk 32 28 = [.iastore, .iinc 4 1, .goto 3] := rfl
theorem kb_32_35 : ex_blk 32 35 = [.sipush 1, .istore 4, .sipush 0, .istore 5, .jsr 41] := rfl
theorem kb_32_41 : ex_blk 32 41 = [.iload 4, .ifCond .eq 139, .iload 5, .sipush 24, .if_icmp .ge 139, .sipush 0, .istore 4, .sipush 0, .istore 6, .jsr 59] := rfl
theorem kb_32_59 : ex_blk 32 59 = [.iload 6, .aload 0, .getfield 75, .if_icmp .ge 133, .iload 6, .sipush 24, .if_icmp .ge 133, .iload 6, .iload 1, .if_icmp .eq 90, .iload 3, .iload 6, .ishr, .sipush 1, .iand, .ifCond .ne 94, .jsr 90] := rfl
theorem kb_32_90 : ex_blk 32 90 = [.sipush 1, .goto 95] := rfl
theorem kb_32_94 : ex_blk 32 94 = [.sipush 0, .jsr 95] := rfl
theorem kb_32_95 : ex_blk 32 95 = [.istore 7, .iload 7, .ifCond .eq 127, .aload 0, .getfield 74, .iload 6, .iaload, .sipush 1000000, .if_icmp .ge 127, .aload 0, .iload 6, .iload 2, .invokevirtual 266, .ifCond .eq 127, .sipush 1, .istore 4, .jsr 127] := rfl
theorem kb_32_127 : ex_blk 32 127 = [.iinc 6 1, .goto 59] := rfl
theorem kb_32_133 : ex_blk 32 133 = [.iinc 5 1, .goto 41] := rfl
theorem kb_32_139 : ex_blk 32 139 = [.return_] := rfl
theorem kb_33_0 : ex_blk 33 0 = [.sipush 0, .istore 3, .sipush 0, .istore 4, .jsr 5] := rfl
theorem kb_33_5 : ex_blk 33 5 = [.iload 4, .sipush 4, .if_icmp .ge 116, .aload 0, .iload 1, .iload 4, .invokevirtual 210, .istore 5, .iload 5, .sipush 24, .invokestatic 1042, .ifCond .eq 110, .iload 1, .sipush 24, .invokestatic 1042, .ifCond .eq 110, .aload 0, .iload 5, .invokevirtual 185, .ifCond .eq 110, .aload 0, .iload 1, .sipush 0, .invokevirtual 202, .aload 0, .iload 5, .sipush 0, .invokevirtual 202, .if_icmp .ne 68, .sipush 1, .goto 71] := rfl
theorem kb_33_68 : ex_blk 33 68 = [.sipush 1, .iload 2, .iadd, .jsr 71] := rfl
theorem kb_33_71 : ex_blk 33 71 = [.istore 6, .aload 0, .getfield 74, .iload 1, .iaload, .iload 6, .iadd, .aload 0, .getfield 74, .iload 5, .iaload, .if_icmp .ge 110, .aload 0, .getfield 74, .iload 5, .aload 0, .getfield 74, .iload 1, .iaload, .iload 6, .iadd, .iastore, .sipush 1, .istore 3, .jsr 110] := rfl
theorem kb_33_110 : ex_blk 33 110 = [.iinc 4 1, .goto 5] := rfl
theorem kb_33_116 : ex_blk 33 116 = [.iload 3, .areturn] := rfl
theorem kb_34_0 : ex_blk 34 0 = [.aload 0, .sipush 0, .putfield 128, .aload 0, .sipush (-1), .putfield 129, .aload 0, .sipush 0, .putfield 130, .aload 0, .sipush 0, .putfield 131, .return_] := rfl
theorem kb_35_0 : ex_blk 35 0 = [.iload 1, .lookupswitch 67 #[(35, 62), (46, 62), (47, 57), (100, 62), (124, 52)]] := rfl
theorem kb_35_52 : ex_blk 35 52 = [.aload 0, .invokevirtual 288, .areturn] := rfl
theorem kb_35_57 : ex_blk 35 57 = [.aload 0, .invokevirtual 296, .areturn] := rfl
theorem kb_35_62 : ex_blk 35 62 = [.aload 0, .invokevirtual 304, .areturn] := rfl
theorem kb_35_67 : ex_blk 35 67 = [.sipush 0, .areturn] := rfl
theorem kb_36_0 : ex_blk 36 0 = [.aload 0, .getfield 131, .ifCond .eq 9, .sipush 0, .areturn] := rfl
theorem kb_36_9 : ex_blk 36 9 = [.aload 0, .sipush 1, .putfield 131, .sipush 1, .areturn] := rfl
theorem kb_37_0 : ex_blk 37 0 = [.aload 0, .getfield 128, .sipush 1, .iadd, .sipush 4, .if_icmp .ge 17, .aload 0, .invokevirtual 312, .ifCond .ne 19, .jsr 17] := rfl
theorem kb_37_17 : ex_blk 37 17 = [.sipush 0, .areturn] := rfl
theorem kb_37_19 : ex_blk 37 19 = [.aload 0, .aload 0, .getfield 130, .putfield 129, .aload 0, .dup, .getfield 128, .sipush 1, .iadd, .putfield 128, .aload 0, .sipush 0, .putfield 130, .aload 0, .sipush 0, .putfield 131, .sipush 1, .areturn] := rfl
theorem kb_38_0 : ex_blk 38 0 = [.aload 0, .getfield 130, .aload 0, .getfield 129, .sipush (-1), .if_icmp .ne 17, .sipush 6, .goto 21] := rfl
theorem kb_38_17 : ex_blk 38 17 = [.aload 0, .getfield 129, .jsr 21] := rfl
theorem kb_38_21 : ex_blk 38 21 = [.if_icmp .lt 26, .sipush 0, .areturn] := rfl
theorem kb_38_26 : ex_blk 38 26 = [.aload 0, .dup, .getfield 130, .sipush 1, .iadd, .putfield 130, .sipush 1, .areturn] := rfl
theorem kb_39_0 : ex_blk 39 0 = [.aload 0, .getfield 131, .ifCond .eq 41, .aload 0, .getfield 129, .sipush (-1), .if_icmp .ne 26, .aload 0, .getfield 130, .sipush 2, .if_icmp .lt 41, .goto 37] := rfl
theorem kb_39_26 : ex_blk 39 26 = [.aload 0, .getfield 130, .aload 0, .getfield 129, .if_icmp .ne 41, .jsr 37] := rfl
theorem kb_39_37 : ex_blk 39 37 = [.sipush 1, .goto 42] := rfl
theorem kb_39_41 : ex_blk 39 41 = [.sipush 0, .jsr 42] := rfl
theorem kb_39_42 : ex_blk 39 42 = [.areturn] := rfl
theorem kb_40_0 : ex_blk 40 0 = [.aload 0, .getfield 128, .sipush 1, .iadd, .sipush 2, .if_icmp .lt 21, .aload 0, .invokevirtual 312, .ifCond .eq 21, .sipush 1, .goto 22] := rfl
theorem kb_40_21 : ex_blk 40 21 = [.sipush 0, .jsr 22] := rfl
theorem kb_40_22 : ex_blk 40 22 = [.areturn] := rfl
theorem kb_41_0 : ex_blk 41 0 = [.aload 0, .sipush 6, .aload 3, .getfield 2, .invokevirtual 720, .invokedynamic 1, .putfield 194, .sipush 0, .istore 4, .jsr 19] := rfl
theorem kb_41_19 : ex_blk 41 19 = [.iload 4, .aload 0, .getfield 194, .if_icmp .ge 99, .aload 0, .getfield 192, .iload 4, .aload 3, .getfield 2, .iload 4, .sipush 0, .invokevirtual 746, .iastore, .sipush 0, .istore 5, .jsr 48] := rfl
theorem kb_41_48 : ex_blk 41 48 = [.iload 5, .sipush 24, .if_icmp .ge 75, .aload 0, .getfield 193, .iload 4, .sipush 24, .imul, .iload 5, .iadd, .sipush 0, .iastore, .iinc 5 1, .goto 48] := rfl
theorem kb_41_75 : ex_blk 41 75 = [.aload 0, .aload 1, .aload 2, .iload 4, .aload 3, .getfield 2, .iload 4, .sipush 1, .invokevirtual 746, .invokevirtual 340, .iinc 4 1, .goto 19] := rfl
theorem kb_41_99 : ex_blk 41 99 = [.return_] := rfl
theorem kb_42_0 : ex_blk 42 0 = [.aload 0, .iload 3, .invokevirtual 377, .istore 5, .iload 5, .invokestatic 345, .istore 6, .sipush 0, .istore 7, .jsr 17] := rfl
theorem kb_42_17 : ex_blk 42 17 = [.iload 7, .sipush 4, .aload 1, .invokevirtual 160, .imul, .if_icmp .ge 72, .aload 1, .iload 7, .sipush 2, .ishr, .invokevirtual 185, .ifCond .eq 66, .aload 2, .aload 1, .iload 5, .iload 4, .iload 6, .iload 7, .sipush 0, .invokevirtual 550, .ifCond .ne 66, .aload 0, .aload 1, .iload 3, .iload 5, .iload 7, .invokevirtual 356, .jsr 66] := rfl
theorem kb_42_66 : ex_blk 42 66 = [.iinc 7 1, .goto 17] := rfl
theorem kb_42_72 : ex_blk 42 72 = [.return_] := rfl
theorem kb_43_0 : ex_blk 43 0 = [.iload 0, .ifCond .ne 6, .sipush 1, .ireturn] := rfl
theorem kb_43_6 : ex_blk 43 6 = [.iload 0, .sipush 4, .if_icmp .ne 15, .sipush 2, .goto 16] := rfl
theorem kb_43_15 : ex_blk 43 15 = [.sipush 0, .jsr 16] := rfl
theorem kb_43_16 : ex_blk 43 16 = [.ireturn] := rfl
theorem kb_44_0 : ex_blk 44 0 = [.iload 4, .sipush 2, .ishr, .istore 5, .iload 3, .sipush 3, .if_icmp .lt 24, .aload 0, .iload 2, .sipush 0, .sipush 1, .iload 5, .ishl, .invokevirtual 363, .goto 73] := rfl
theorem kb_44_24 : ex_blk 44 24 = [.iload 3, .ifCond .eq 50, .aload 0, .iload 2, .aload 1, .iload 5, .iload 4, .sipush 3, .iand, .invokevirtual 210, .sipush 1, .iload 5, .ishl, .invokevirtual 363, .goto 73] := rfl
theorem kb_44_50 : ex_blk 44 50 = [.aload 1, .sipush 1, .iload 4, .invokevirtual 242, .ifCond .eq 73, .aload 0, .iload 2, .iload 5, .sipush 1, .iload 4, .sipush 3, .iand, .ishl, .invokevirtual 363, .jsr 73] := rfl
theorem kb_44_73 : ex_blk 44 73 = [.return_] := rfl
theorem kb_45_0 : ex_blk 45 0 = [.iload 1, .sipush 6, .invokestatic 1042, .ifCond .eq 33, .iload 2, .sipush 24, .invokestatic 1042, .ifCond .eq 33, .aload 0, .getfield 193, .iload 1, .sipush 24, .imul, .iload 2, .iadd, .dup2, .iaload, .iload 3, .ior, .iastore, .jsr 33] := rfl
theorem kb_45_33 : ex_blk 45 33 = [.return_] := rfl
theorem kb_46_0 : ex_blk 46 0 = [.aload 0, .getfield 194, .ireturn] := rfl
theorem kb_47_0 : ex_blk 47 0 = [.iload 1, .ifCond .lt 19, .iload 1, .sipush 6, .if_icmp .ge 19, .aload 0, .getfield 192, .iload 1, .iaload, .goto 20] := rfl
theorem kb_47_19 : ex_blk 47 19 = [.sipush (-1), .jsr 20] := rfl
theorem kb_47_20 : ex_blk 47 20 = [.ireturn] := rfl
theorem kb_48_0 : ex_blk 48 0 = [.aload 0, .iload 1, .invokevirtual 377, .sipush 3, .if_icmp .ge 13, .sipush 1, .goto 14] := rfl
theorem kb_48_13 : ex_blk 48 13 = [.sipush 0, .jsr 14] := rfl
theorem kb_48_14 : ex_blk 48 14 = [.areturn] := rfl
theorem kb_49_0 : ex_blk 49 0 = [.aload 0, .iload 1, .invokevirtual 377, .istore 5, .iload 2, .iload 5, .sipush 1, .iadd, .invokestatic 18, .ifCond .ne 20, .sipush 0, .areturn] := rfl
theorem kb_49_20 : ex_blk 49 20 = [.aload 0, .iload 1, .iload 3, .sipush 2, .ishr, .invokevirtual 410, .istore 6, .iload 5, .ifCond .ne 54, .iload 6, .iload 3, .sipush 3, .iand, .ishr, .sipush 1, .iand, .ifCond .eq 50, .sipush 1, .goto 69] := rfl
theorem kb_49_50 : ex_blk 49 50 = [.sipush 0, .goto 69] := rfl
theorem kb_49_54 : ex_blk 49 54 = [.iload 6, .iload 4, .sipush (-1), .ixor, .iand, .ifCond .eq 68, .sipush 1, .goto 69] := rfl
theorem kb_49_68 : ex_blk 49 68 = [.sipush 0, .jsr 69] := rfl
theorem kb_49_69 : ex_blk 49 69 = [.areturn] := rfl
theorem kb_50_0 : ex_blk 50 0 = [.aload 0, .iload 1, .sipush 0, .invokevirtual 410, .iload 2, .sipush (-1), .ixor, .iand, .ifCond .eq 17, .sipush 1, .goto 18] := rfl
theorem kb_50_17 : ex_blk 50 17 = [.sipush 0, .jsr 18] := rfl
theorem kb_50_18 : ex_blk 50 18 = [.areturn] := rfl
theorem kb_51_0 : ex_blk 51 0 = [.iload 1, .sipush 24, .imul, .iload 2, .iadd, .istore 3, .iload 3, .ifCond .lt 29, .iload 3, .aload 0, .getfield 193, .arraylength, .if_icmp .ge 29, .aload 0, .getfield 193, .iload 3, .iaload, .goto 30] := rfl
theorem kb_51_29 : ex_blk 51 29 = [.sipush 0, .jsr 30] := rfl
theorem kb_51_30 : ex_blk 51 30 = [.ireturn] := rfl
theorem kb_52_0 : ex_blk 52 0 = [.sipush 0, .istore 1, .jsr 2] := rfl
theorem kb_52_2 : ex_blk 52 2 = [.iload 1, .aload 0, .getfield 194, .if_icmp .ge 47, .sipush 0, .istore 2, .sipush 0, .istore 3, .jsr 14] := rfl
theorem kb_52_14 : ex_blk 52 14 = [.iload 3, .sipush 24, .if_icmp .ge 35, .iload 2, .aload 0, .iload 1, .iload 3, .invokevirtual 410, .ior, .istore 2, .iinc 3 1, .goto 14] := rfl
theorem kb_52_35 : ex_blk 52 35 = [.iload 2, .ifCond .ne 41, .sipush 1, .areturn] := rfl
theorem kb_52_41 : ex_blk 52 41 = [.iinc 1 1, .goto 2] := rfl
theorem kb_52_47 : ex_blk 52 47 = [.sipush 0, .areturn] := rfl
theorem kb_53_0 : ex_blk 53 0 = [.aload 0, .sipush 0, .putfield 256, .aload 0, .sipush 0, .putfield 257, .aload 0, .sipush 0, .putfield 258, .aload 0, .sipush 0, .putfield 259, .aload 0, .sipush 0, .putfield 260, .aload 0, .sipush 0, .putfield 261, .aload 0, .sipush 0, .putfield 262, .return_] := rfl
theorem kb_54_0 : ex_blk 54 0 = [.aload 0, .getfield 261, .tableswitch 60 0 3 #[36, 42, 48, 54]] := rfl
theorem kb_54_36 : ex_blk 54 36 = [.aload 0, .iload 1, .invokevirtual 441, .areturn] := rfl
theorem kb_54_42 : ex_blk 54 42 = [.aload 0, .iload 1, .invokevirtual 449, .areturn] := rfl
theorem kb_54_48 : ex_blk 54 48 = [.aload 0, .iload 1, .invokevirtual 457, .areturn] := rfl
theorem kb_54_54 : ex_blk 54 54 = [.aload 0, .iload 1, .invokevirtual 465, .areturn] := rfl
theorem kb_54_60 : ex_blk 54 60 = [.sipush 0, .areturn] := rfl
theorem kb_55_0 : ex_blk 55 0 = [.iload 1, .sipush 119, .if_icmp .eq 14, .iload 1, .sipush 101, .if_icmp .eq 14, .sipush 0, .areturn] := rfl
theorem kb_55_14 : ex_blk 55 14 = [.aload 0, .iload 1, .sipush 119, .if_icmp .ne 25, .sipush 0, .goto 26] := rfl
theorem kb_55_25 : ex_blk 55 25 = [.sipush 1, .jsr 26] := rfl
theorem kb_55_26 : ex_blk 55 26 = [.putfield 256, .aload 0, .sipush 1, .putfield 261, .sipush 1, .areturn] := rfl
theorem kb_56_0 : ex_blk 56 0 = [.iload 1, .sipush 97, .if_icmp .lt 12, .iload 1, .sipush 102, .if_icmp .le 14, .jsr 12] := rfl
theorem kb_56_12 : ex_blk 56 12 = [.sipush 0, .areturn] := rfl
theorem kb_56_14 : ex_blk 56 14 = [.aload 0, .iload 1, .sipush 97, .isub, .putfield 257, .aload 0, .sipush 2, .putfield 261, .sipush 1, .areturn] := rfl
theorem kb_57_0 : ex_blk 57 0 = [.iload 1, .sipush 45, .if_icmp .ne 25, .aload 0, .getfield 262, .ifCond .le 25, .aload 0, .sipush 3, .putfield 261, .aload 0, .sipush 0, .putfield 262, .sipush 1, .areturn] := rfl
theorem kb_57_25 : ex_blk 57 25 = [.aload 0, .aload 0, .getfield 258, .iload 1, .invokevirtual 474, .istore 2, .iload 2, .sipush (-1), .if_icmp .ne 42, .sipush 0, .areturn] := rfl
theorem kb_57_42 : ex_blk 57 42 = [.aload 0, .iload 2, .putfield 258, .aload 0, .dup, .getfield 262, .sipush 1, .iadd, .putfield 262, .sipush 1, .areturn] := rfl
theorem kb_58_0 : ex_blk 58 0 = [.aload 0, .getfield 262, .ifCond .le 30, .iload 1, .invokestatic 481, .sipush (-1), .if_icmp .eq 30, .aload 0, .iload 1, .invokestatic 481, .putfield 260, .aload 0, .sipush 5, .putfield 261, .sipush 1, .areturn] := rfl
theorem kb_58_30 : ex_blk 58 30 = [.aload 0, .aload 0, .getfield 259, .iload 1, .invokevirtual 474, .istore 2, .iload 2, .sipush (-1), .if_icmp .ne 47, .sipush 0, .areturn] := rfl
theorem kb_58_47 : ex_blk 58 47 = [.aload 0, .iload 2, .putfield 259, .aload 0, .dup, .getfield 262, .sipush 1, .iadd, .putfield 262, .sipush 1, .areturn] := rfl
theorem kb_59_0 : ex_blk 59 0 = [.iload 2, .sipush 48, .if_icmp .lt 12, .iload 2, .sipush 57, .if_icmp .le 14, .jsr 12] := rfl
theorem kb_59_12 : ex_blk 59 12 = [.sipush (-1), .ireturn] := rfl
theorem kb_59_14 : ex_blk 59 14 = [.aload 0, .getfield 262, .ifCond .ne 26, .iload 2, .sipush 48, .isub, .ireturn] := rfl
theorem kb_59_26 : ex_blk 59 26 = [.sipush 10, .iload 1, .imul, .iload 2, .iadd, .sipush 48, .isub, .istore 3, .aload 0, .getfield 262, .sipush 1, .if_icmp .ne 58, .iload 1, .ifCond .eq 58, .iload 3, .sipush 24, .if_icmp .ge 58, .iload 3, .goto 59] := rfl
theorem kb_59_58 : ex_blk 59 58 = [.sipush (-1), .jsr 59] := rfl
theorem kb_59_59 : ex_blk 59 59 = [.ireturn] := rfl
theorem kb_60_0 : ex_blk 60 0 = [.iload 0, .tableswitch 64 102 111 #[60, 64, 56, 64, 64, 64, 64, 64, 58, 62]] := rfl
theorem kb_60_56 : ex_blk 60 56 = [.sipush 1, .ireturn] := rfl
theorem kb_60_58 : ex_blk 60 58 = [.sipush 2, .ireturn] := rfl
theorem kb_60_60 : ex_blk 60 60 = [.sipush 3, .ireturn] := rfl
theorem kb_60_62 : ex_blk 60 62 = [.sipush 4, .ireturn] := rfl
theorem kb_60_64 : ex_blk 60 64 = [.sipush (-1), .ireturn] := rfl
theorem kb_61_0 : ex_blk 61 0 = [.aload 0, .getfield 261, .sipush 5, .if_icmp .eq 23, .aload 0, .getfield 261, .sipush 3, .if_icmp .ne 27, .aload 0, .getfield 262, .ifCond .le 27, .jsr 23] := rfl
theorem kb_61_23 : ex_blk 61 23 = [.sipush 1, .goto 28] := rfl
theorem kb_61_27 : ex_blk 61 27 = [.sipush 0, .jsr 28] := rfl
theorem kb_61_28 : ex_blk 61 28 = [.areturn] := rfl
theorem kb_62_0 : ex_blk 62 0 = [.iload 1, .tableswitch 52 0 3 #[32, 37, 42, 47]] := rfl
theorem kb_62_32 : ex_blk 62 32 = [.aload 0, .getfield 256, .ireturn] := rfl
theorem kb_62_37 : ex_blk 62 37 = [.aload 0, .getfield 257, .ireturn] := rfl
theorem kb_62_42 : ex_blk 62 42 = [.aload 0, .getfield 258, .ireturn] := rfl
theorem kb_62_47 : ex_blk 62 47 = [.aload 0, .getfield 259, .ireturn] := rfl
theorem kb_62_52 : ex_blk 62 52 = [.aload 0, .getfield 260, .ireturn] := rfl
theorem kb_63_0 : ex_blk 63 0 = [.iload 1, .ifCond .eq 19, .iload 0, .iload 1, .if_icmp .eq 19, .iload 0, .sipush 3, .if_icmp .ne 23, .iload 1, .sipush 1, .if_icmp .ne 23, .jsr 19] := rfl
theorem kb_63_19 : ex_blk 63 19 = [.sipush 1, .goto 24] := rfl
theorem kb_63_23 : ex_blk 63 23 = [.sipush 0, .jsr 24] := rfl
theorem kb_63_24 : ex_blk 63 24 = [.areturn] := rfl
theorem kb_64_0 : ex_blk 64 0 = [.aload 0, .getfield 320, .invokevirtual 720, .ireturn] := rfl
theorem kb_65_0 : ex_blk 65 0 = [.aload 0, .getfield 320, .invokevirtual 728, .areturn] := rfl
theorem kb_66_0 : ex_blk 66 0 = [.aload 0, .getfield 320, .aload 1, .sipush 0, .invokevirtual 497, .aload 1, .sipush 1, .invokevirtual 497, .aload 1, .sipush 2, .invokevirtual 497, .aload 1, .sipush 3, .invokevirtual 497, .aload 1, .sipush 4, .invokevirtual 497, .invokevirtual 741, .ireturn] := rfl
theorem kb_67_0 : ex_blk 67 0 = [.aload 0, .getfield 320, .iload 1, .iload 2, .invokevirtual 746, .ireturn] := rfl
theorem kb_68_0 : ex_blk 68 0 = [.sipush 0, .istore 7, .sipush 0, .istore 8, .jsr 6] := rfl
theorem kb_68_6 : ex_blk 68 6 = [.iload 8, .aload 0, .getfield 320, .invokevirtual 720, .if_icmp .ge 73, .aload 0, .getfield 320, .iload 8, .sipush 1, .invokevirtual 746, .iload 2, .if_icmp .ne 67, .aload 0, .iload 8, .iload 3, .invokevirtual 554, .ifCond .eq 67, .aload 0, .aload 1, .iload 8, .iload 4, .iload 5, .iload 6, .invokevirtual 565, .ifCond .eq 67, .iload 7, .sipush 1, .iload 8, .ishl, .ior, .istore 7, .jsr 67] := rfl
theorem kb_68_67 : ex_blk 68 67 = [.iinc 8 1, .goto 6] := rfl
theorem kb_68_73 : ex_blk 68 73 = [.iload 7, .ireturn] := rfl
theorem kb_69_0 : ex_blk 69 0 = [.aload 0, .getfield 320, .iload 1, .sipush 2, .invokevirtual 746, .istore 3, .aload 0, .getfield 320, .iload 1, .sipush 3, .invokevirtual 746, .istore 4, .iload 3, .iload 4, .if_icmp .ge 44, .iload 2, .iload 3, .if_icmp .lt 42, .iload 2, .iload 4, .if_icmp .ge 42, .sipush 1, .goto 43] := rfl
theorem kb_69_42 : ex_blk 69 42 = [.sipush 0, .jsr 43] := rfl
theorem kb_69_43 : ex_blk 69 43 = [.areturn] := rfl
theorem kb_69_44 : ex_blk 69 44 = [.iload 3, .iload 4, .if_icmp .eq 61, .iload 2, .iload 3, .if_icmp .ge 61, .iload 2, .iload 4, .if_icmp .ge 65, .jsr 61] := rfl
theorem kb_69_61 : ex_blk 69 61 = [.sipush 1, .goto 66] := rfl
theorem kb_69_65 : ex_blk 69 65 = [.sipush 0, .jsr 66] := rfl
theorem kb_69_66 : ex_blk 69 66 = [.areturn] := rfl
theorem kb_70_0 : ex_blk 70 0 = [.aload 0, .getfield 320, .iload 2, .sipush 0, .invokevirtual 746, .istore 6, .iload 4, .sipush 2, .ishr, .istore 7, .aload 0, .getfield 320, .iload 2, .sipush 4, .invokevirtual 746, .tableswitch 180 1 4 #[56, 75, 100, 157]] := rfl
theorem kb_70_56 : ex_blk 70 56 = [.aload 1, .iload 7, .iload 5, .invokevirtual 202, .iload 6, .if_icmp .ne 73, .sipush 1, .goto 74] := rfl
theorem kb_70_73 : ex_blk 70 73 = [.sipush 0, .jsr 74] := rfl
theorem kb_70_74 : ex_blk 70 74 = [.areturn] := rfl
theorem kb_70_75 : ex_blk 70 75 = [.aload 1, .aload 1, .iload 3, .iload 4, .sipush 1, .invokevirtual 219, .iload 5, .invokevirtual 202, .iload 6, .if_icmp .ne 98, .sipush 1, .goto 99] := rfl
theorem kb_70_98 : ex_blk 70 98 = [.sipush 0, .jsr 99] := rfl
theorem kb_70_99 : ex_blk 70 99 = [.areturn] := rfl
theorem kb_70_100 : ex_blk 70 100 = [.aload 1, .iload 7, .iload 5, .invokevirtual 202, .iload 6, .if_icmp .ne 155, .aload 1, .aload 1, .iload 3, .iload 4, .sipush 2, .invokevirtual 219, .iload 5, .invokevirtual 202, .iload 6, .if_icmp .ne 155, .aload 1, .aload 1, .iload 3, .iload 4, .sipush 3, .invokevirtual 219, .iload 5, .invokevirtual 202, .iload 6, .if_icmp .ne 155, .sipush 1, .goto 156] := rfl
theorem kb_70_155 : ex_blk 70 155 = [.sipush 0, .jsr 156] := rfl
theorem kb_70_156 : ex_blk 70 156 = [.areturn] := rfl
theorem kb_70_157 : ex_blk 70 157 = [.aload 1, .aload 1, .iload 7, .invokevirtual 233, .iload 5, .invokevirtual 202, .iload 6, .if_icmp .ne 178, .sipush 1, .goto 179] := rfl
theorem kb_70_178 : ex_blk 70 178 = [.sipush 0, .jsr 179] := rfl
theorem kb_70_179 : ex_blk 70 179 = [.areturn] := rfl
theorem kb_70_180 : ex_blk 70 180 = [.sipush 1, .areturn] := rfl
theorem kb_71_0 : ex_blk 71 0 = [.aload 0, .sipush 3, .aload 2, .getfield 0, .invokevirtual 720, .invokedynamic 1, .putfield 388, .aload 0, .sipush 0, .putfield 389, .sipush 0, .istore 3, .jsr 22] := rfl
theorem kb_71_22 : ex_blk 71 22 = [.iload 3, .aload 0, .getfield 388, .if_icmp .ge 80, .aload 0, .getfield 384, .iload 3, .aload 2, .iload 3, .invokevirtual 25, .iastore, .aload 0, .getfield 385, .iload 3, .aload 2, .iload 3, .invokevirtual 49, .iastore, .aload 0, .getfield 386, .iload 3, .aload 1, .aload 0, .getfield 384, .iload 3, .iaload, .aload 0, .getfield 385, .iload 3, .iaload, .invokevirtual 242, .iastore, .iinc 3 1, .goto 22] := rfl
theorem kb_71_80 : ex_blk 71 80 = [.return_] := rfl
theorem kb_72_0 : ex_blk 72 0 = [.iload 1, .sipush 5, .invokestatic 1042, .ifCond .eq 17, .aload 0, .getfield 387, .iload 1, .iaload, .goto 18] := rfl
theorem kb_72_17 : ex_blk 72 17 = [.sipush (-1), .jsr 18] := rfl
theorem kb_72_18 : ex_blk 72 18 = [.ireturn] := rfl
theorem kb_73_0 : ex_blk 73 0 = [.aload 0, .aload 1, .aload 0, .sipush (-1), .sipush (-1), .invokevirtual 642, .invokevirtual 650, .istore 2, .aload 0, .iload 2, .ifCond .eq 21, .sipush 0, .goto 22] := rfl
theorem kb_73_21 : ex_blk 73 21 = [.sipush (-1), .jsr 22] := rfl
theorem kb_73_22 : ex_blk 73 22 = [.sipush (-1), .sipush (-1), .invokevirtual 595, .iload 2, .areturn] := rfl
theorem kb_74_0 : ex_blk 74 0 = [.aload 0, .getfield 387, .sipush 0, .iload 1, .iastore, .aload 0, .getfield 387, .sipush 1, .iload 2, .iastore, .aload 0, .getfield 387, .sipush 2, .aload 0, .iload 2, .invokevirtual 601, .iastore, .aload 0, .getfield 387, .sipush 3, .iload 3, .iastore, .aload 0, .getfield 387, .sipush 4, .aload 0, .iload 3, .invokevirtual 601, .iastore, .return_] := rfl
theorem kb_75_0 : ex_blk 75 0 = [.iload 1, .sipush 3, .invokestatic 1042, .ifCond .eq 17, .aload 0, .getfield 385, .iload 1, .iaload, .goto 18] := rfl
theorem kb_75_17 : ex_blk 75 17 = [.sipush (-1), .jsr 18] := rfl
theorem kb_75_18 : ex_blk 75 18 = [.ireturn] := rfl
theorem kb_76_0 : ex_blk 76 0 = [.sipush 0, .istore 3, .jsr 2] := rfl
theorem kb_76_2 : ex_blk 76 2 = [.iload 3, .aload 0, .getfield 388, .if_icmp .ge 35, .aload 0, .iload 3, .aload 1, .aload 2, .invokevirtual 619, .ifCond .eq 29, .aload 0, .sipush 1, .iload 3, .sipush (-1), .invokevirtual 595, .sipush 1, .areturn] := rfl
theorem kb_76_29 : ex_blk 76 29 = [.iinc 3 1, .goto 2] := rfl
theorem kb_76_35 : ex_blk 76 35 = [.sipush 0, .areturn] := rfl
theorem kb_77_0 : ex_blk 77 0 = [.iload 1, .sipush 3, .invokestatic 1042, .ifCond .ne 10, .sipush 0, .areturn] := rfl
theorem kb_77_10 : ex_blk 77 10 = [.aload 0, .getfield 385, .iload 1, .iaload, .istore 4, .aload 0, .getfield 386, .iload 1, .iaload, .istore 5, .aload 0, .iload 1, .sipush (-1), .invokevirtual 642, .istore 6, .sipush 0, .istore 7, .jsr 37] := rfl
theorem kb_77_37 : ex_blk 77 37 = [.iload 7, .sipush 96, .if_icmp .ge 115, .aload 2, .aload 0, .getfield 384, .iload 1, .iaload, .iload 7, .invokevirtual 242, .istore 8, .iload 7, .iload 4, .if_icmp .eq 109, .iload 8, .ifCond .eq 109, .iload 8, .iload 6, .iand, .ifCond .ne 109, .aload 0, .getfield 385, .iload 1, .iload 7, .iastore, .aload 0, .getfield 386, .iload 1, .iload 8, .iastore, .aload 0, .aload 3, .iload 6, .iload 8, .ior, .invokevirtual 650, .ifCond .eq 109, .sipush 1, .areturn] := rfl
theorem kb_77_109 : ex_blk 77 109 = [.iinc 7 1, .goto 37] := rfl
theorem kb_77_115 : ex_blk 77 115 = [.aload 0, .getfield 385, .iload 1, .iload 4, .iastore, .aload 0, .getfield 386, .iload 1, .iload 5, .iastore, .sipush 0, .areturn] := rfl
theorem kb_78_0 : ex_blk 78 0 = [.sipush 0, .istore 3, .jsr 2] := rfl
theorem kb_78_2 : ex_blk 78 2 = [.iload 3, .sipush 1, .iadd, .aload 0, .getfield 388, .if_icmp .ge 124, .iload 3, .sipush 3, .if_icmp .ge 124, .aload 0, .getfield 385, .iload 3, .iaload, .istore 4, .aload 0, .getfield 386, .iload 3, .iaload, .istore 5, .sipush 0, .istore 6, .jsr 36] := rfl
theorem kb_78_36 : ex_blk 78 36 = [.iload 6, .sipush 96, .if_icmp .ge 102, .aload 1, .aload 0, .getfield 384, .iload 3, .iaload, .iload 6, .invokevirtual 242, .istore 7, .iload 6, .iload 4, .if_icmp .eq 96, .iload 7, .ifCond .eq 96, .aload 0, .getfield 385, .iload 3, .iload 6, .iastore, .aload 0, .getfield 386, .iload 3, .iload 7, .iastore, .aload 0, .iload 3, .aload 1, .aload 2, .invokevirtual 635, .ifCond .eq 96, .return_] := rfl
theorem kb_78_96 : ex_blk 78 96 = [.iinc 6 1, .goto 36] := rfl
theorem kb_78_102 : ex_blk 78 102 = [.aload 0, .getfield 385, .iload 3, .iload 4, .iastore, .aload 0, .getfield 386, .iload 3, .iload 5, .iastore, .iinc 3 1, .goto 2] := rfl
theorem kb_78_124 : ex_blk 78 124 = [.return_] := rfl
theorem kb_79_0 : ex_blk 79 0 = [.iload 1, .sipush 3, .invokestatic 1042, .ifCond .eq 17, .aload 0, .getfield 386, .iload 1, .iaload, .goto 18] := rfl
theorem kb_79_17 : ex_blk 79 17 = [.sipush 0, .jsr 18] := rfl
theorem kb_79_18 : ex_blk 79 18 = [.istore 4, .iload 1, .sipush 1, .iadd, .istore 5, .jsr 25] := rfl
theorem kb_79_25 : ex_blk 79 25 = [.iload 5, .aload 0, .getfield 388, .if_icmp .ge 74, .iload 4, .aload 0, .iload 1, .iload 5, .invokevirtual 642, .iand, .ifCond .ne 68, .aload 0, .iload 5, .aload 2, .aload 3, .invokevirtual 619, .ifCond .eq 68, .aload 0, .sipush 2, .iload 1, .iload 5, .invokevirtual 595, .sipush 1, .areturn] := rfl
theorem kb_79_68 : ex_blk 79 68 = [.iinc 5 1, .goto 25] := rfl
theorem kb_79_74 : ex_blk 79 74 = [.sipush 0, .areturn] := rfl
theorem kb_80_0 : ex_blk 80 0 = [.sipush 0, .istore 3, .sipush 0, .istore 4, .jsr 5] := rfl
theorem kb_80_5 : ex_blk 80 5 = [.iload 4, .aload 0, .getfield 388, .if_icmp .ge 48, .iload 4, .sipush 3, .if_icmp .ge 48, .iload 4, .iload 1, .if_icmp .eq 42, .iload 4, .iload 2, .if_icmp .eq 42, .iload 3, .aload 0, .getfield 386, .iload 4, .iaload, .ior, .istore 3, .jsr 42] := rfl
theorem kb_80_42 : ex_blk 80 42 = [.iinc 4 1, .goto 5] := rfl
theorem kb_80_48 : ex_blk 80 48 = [.iload 3, .ireturn] := rfl
theorem kb_81_0 : ex_blk 81 0 = [.aload 0, .getfield 389, .aload 1, .invokevirtual 368, .if_icmp .ge 26, .aload 0, .aload 1, .aload 0, .getfield 389, .iload 2, .invokevirtual 667, .ifCond .ne 26, .sipush 0, .areturn] := rfl
theorem kb_81_26 : ex_blk 81 26 = [.sipush 0, .istore 3, .jsr 28] := rfl
theorem kb_81_28 : ex_blk 81 28 = [.iload 3, .aload 1, .invokevirtual 368, .if_icmp .ge 59, .aload 0, .aload 1, .iload 3, .iload 2, .invokevirtual 667, .ifCond .ne 53, .aload 0, .iload 3, .putfield 389, .sipush 0, .areturn] := rfl
theorem kb_81_53 : ex_blk 81 53 = [.iinc 3 1, .goto 28] := rfl
theorem kb_81_59 : ex_blk 81 59 = [.sipush 1, .areturn] := rfl
theorem kb_82_0 : ex_blk 82 0 = [.aload 0, .aload 1, .iload 2, .aload 0, .sipush (-1), .sipush (-1), .invokevirtual 642, .invokevirtual 667, .areturn] := rfl
theorem kb_83_0 : ex_blk 83 0 = [.aload 1, .iload 2, .invokevirtual 385, .ifCond .ne 15, .aload 1, .iload 2, .iload 3, .invokevirtual 402, .areturn] := rfl
theorem kb_83_15 : ex_blk 83 15 = [.sipush 0, .istore 4, .jsr 18] := rfl
theorem kb_83_18 : ex_blk 83 18 = [.iload 4, .aload 0, .getfield 388, .if_icmp .ge 64, .iload 4, .sipush 3, .if_icmp .ge 64, .aload 1, .iload 2, .aload 0, .getfield 384, .iload 4, .iaload, .aload 0, .getfield 385, .iload 4, .iaload, .iload 3, .invokevirtual 396, .ifCond .eq 58, .sipush 1, .areturn] := rfl
theorem kb_83_58 : ex_blk 83 58 = [.iinc 4 1, .goto 18] := rfl
theorem kb_83_64 : ex_blk 83 64 = [.sipush 0, .areturn] := rfl
theorem kb_84_0 : ex_blk 84 0 = [.sipush 0, .istore 2, .sipush 0, .istore 3, .sipush 0, .istore 4, .jsr 7] := rfl
theorem kb_84_7 : ex_blk 84 7 = [.iload 4, .sipush 8, .if_icmp .ge 59, .lload 0, .iload 4, .invokestatic 682, .istore 5, .iload 5, .sipush 126, .if_icmp .gt 38, .iload 3, .ifCond .eq 40, .iload 5, .ifCond .eq 40, .jsr 38] := rfl
theorem kb_84_38 : ex_blk 84 38 = [.sipush (-1), .ireturn] := rfl
theorem kb_84_40 : ex_blk 84 40 = [.iload 5, .ifCond .ne 50, .sipush 1, .istore 3, .goto 53] := rfl
theorem kb_84_50 : ex_blk 84 50 = [.iinc 2 1, .jsr 53] := rfl
theorem kb_84_53 : ex_blk 84 53 = [.iinc 4 1, .goto 7] := rfl
theorem kb_84_59 : ex_blk 84 59 = [.iload 2, .ireturn] := rfl
theorem kb_85_0 : ex_blk 85 0 = [.lload 0, .sipush 8, .iload 2, .imul, .lushr, .l2i, .sipush 255, .iand, .ireturn] := rfl
theorem kb_86_0 : ex_blk 86 0 = [.sipush 0, .istore 4, .jsr 3] := rfl
theorem kb_86_3 : ex_blk 86 3 = [.iload 4, .iload 3, .if_icmp .ge 49, .aload 0, .getfield 449, .sipush 40, .if_icmp .ge 49, .aload 0, .getfield 448, .aload 0, .getfield 449, .lload 1, .iload 4, .invokestatic 682, .iastore, .aload 0, .dup, .getfield 449, .sipush 1, .iadd, .putfield 449, .iinc 4 1, .goto 3] := rfl
theorem kb_86_49 : ex_blk 86 49 = [.return_] := rfl
theorem kb_87_0 : ex_blk 87 0 = [.aload 0, .getfield 449, .ireturn] := rfl
theorem kb_88_0 : ex_blk 88 0 = [.iload 1, .aload 0, .getfield 449, .invokestatic 1042, .ifCond .eq 20, .aload 0, .getfield 448, .iload 1, .iaload, .goto 21] := rfl
theorem kb_88_20 : ex_blk 88 20 = [.sipush 0, .jsr 21] := rfl
theorem kb_88_21 : ex_blk 88 21 = [.ireturn] := rfl
theorem kb_89_0 : ex_blk 89 0 = [.aload 0, .sipush 0, .putfield 449, .return_] := rfl
theorem kb_90_0 : ex_blk 90 0 = [.aload 0, .getfield 514, .ireturn] := rfl
theorem kb_91_0 : ex_blk 91 0 = [.aload 0, .getfield 514, .aload 0, .getfield 513, .if_icmp .ge 24, .aload 0, .getfield 514, .sipush 1, .iadd, .sipush 5, .imul, .sipush 60, .if_icmp .le 28, .jsr 24] := rfl
theorem kb_91_24 : ex_blk 91 24 = [.sipush 1, .goto 29] := rfl
theorem kb_91_28 : ex_blk 91 28 = [.sipush 0, .jsr 29] := rfl
theorem kb_91_29 : ex_blk 91 29 = [.areturn] := rfl
theorem kb_92_0 : ex_blk 92 0 = [.aload 0, .invokevirtual 728, .ifCond .eq 9, .sipush (-1), .ireturn] := rfl
theorem kb_92_9 : ex_blk 92 9 = [.aload 0, .getfield 514, .istore 6, .aload 0, .dup, .getfield 514, .sipush 1, .iadd, .putfield 514, .aload 0, .iload 6, .sipush 0, .iload 1, .invokevirtual 755, .aload 0, .iload 6, .sipush 1, .iload 2, .invokevirtual 755, .aload 0, .iload 6, .sipush 2, .iload 3, .invokevirtual 755, .aload 0, .iload 6, .sipush 3, .iload 4, .invokevirtual 755, .aload 0, .iload 6, .sipush 4, .iload 5, .invokevirtual 755, .iload 6, .ireturn] := rfl
theorem kb_93_0 : ex_blk 93 0 = [.iload 1, .sipush 5, .imul, .iload 2, .iadd, .istore 3, .iload 1, .aload 0, .getfield 514, .invokestatic 1042, .ifCond .eq 35, .iload 3, .sipush 60, .invokestatic 1042, .ifCond .eq 35, .aload 0, .getfield 512, .iload 3, .iaload, .goto 36] := rfl
theorem kb_93_35 : ex_blk 93 35 = [.sipush (-1), .jsr 36] := rfl
theorem kb_93_36 : ex_blk 93 36 = [.ireturn] := rfl
theorem kb_94_0 : ex_blk 94 0 = [.iload 1, .sipush 5, .imul, .iload 2, .iadd, .istore 4, .iload 1, .aload 0, .getfield 514, .invokestatic 1042, .ifCond .eq 36, .iload 4, .sipush 60, .invokestatic 1042, .ifCond .eq 36, .aload 0, .getfield 512, .iload 4, .iload 3, .iastore, .jsr 36] := rfl
theorem kb_94_36 : ex_blk 94 36 = [.return_] := rfl
theorem kb_95_0 : ex_blk 95 0 = [.aload 0, .sipush 0, .putfield 514, .return_] := rfl
theorem kb_96_0 : ex_blk 96 0 = [.aload 1, .getfield 512, .sipush 0, .aload 0, .getfield 512, .sipush 0, .sipush 60, .invokedynamic 2, .aload 0, .aload 1, .getfield 514, .putfield 514, .return_] := rfl
theorem kb_97_0 : ex_blk 97 0 = [.aload 0, .invokeinterface 1 0, .sipush 0, .istore 2, .jsr 6] := rfl
theorem kb_97_6 : ex_blk 97 6 = [.iload 2, .aload 1, .invokevirtual 696, .if_icmp .ge 34, .aload 0, .aload 1, .iload 2, .invokevirtual 705, .invokeinterface 2 1, .ifCond .ne 28, .iload 2, .ireturn] := rfl
theorem kb_97_28 : ex_blk 97 28 = [.iinc 2 1, .goto 6] := rfl
theorem kb_97_34 : ex_blk 97 34 = [.aload 1, .invokevirtual 696, .ireturn] := rfl
theorem kb_98_0 : ex_blk 98 0 = [.aload 0, .aload 1, .invokeinterface 5 1, .aload 1, .invokevirtual 696, .if_icmp .ne 23, .aload 0, .invokeinterface 6 0, .ifCond .eq 23, .sipush 1, .goto 24] := rfl
theorem kb_98_23 : ex_blk 98 23 = [.sipush 0, .jsr 24] := rfl
theorem kb_98_24 : ex_blk 98 24 = [.areturn] := rfl
theorem kb_99_0 : ex_blk 99 0 = [.lload 1, .invokestatic 673, .istore 3, .iload 3, .ifCond .ge 12, .sipush (-102), .ireturn] := rfl
theorem kb_99_12 : ex_blk 99 12 = [.aload 0, .getfield 640, .invokevirtual 696, .iload 3, .iadd, .sipush 40, .if_icmp .le 29, .sipush (-104), .ireturn] := rfl
theorem kb_99_29 : ex_blk 99 29 = [.aload 0, .getfield 640, .lload 1, .iload 3, .invokevirtual 690, .aload 0, .getfield 640, .invokevirtual 696, .ireturn] := rfl
theorem kb_100_0 : ex_blk 100 0 = [.aload 0, .getfield 640, .invokevirtual 696, .istore 1, .aload 0, .getfield 640, .invokevirtual 712, .iload 1, .ireturn] := rfl
theorem kb_101_0 : ex_blk 101 0 = [.iload 1, .sipush 2, .invokestatic 1042, .ifCond .ne 11, .sipush (-102), .ireturn] := rfl
theorem kb_101_11 : ex_blk 101 11 = [.iload 1, .ifCond .ne 29, .aload 0, .getfield 641, .aload 0, .getfield 640, .invokeinterface 0 1, .goto 40] := rfl
theorem kb_101_29 : ex_blk 101 29 = [.aload 0, .getfield 642, .aload 0, .getfield 640, .invokeinterface 3 1, .jsr 40] := rfl
theorem kb_101_40 : ex_blk 101 40 = [.ireturn] := rfl
theorem kb_102_0 : ex_blk 102 0 = [.aload 0, .getfield 641, .aload 0, .getfield 640, .invokeinterface 4 1, .ifCond .ne 17, .sipush (-103), .ireturn] := rfl
theorem kb_102_17 : ex_blk 102 17 = [.aload 0, .getfield 643, .aload 0, .getfield 640, .invokevirtual 89, .aload 0, .getfield 640, .invokevirtual 712, .aload 0, .getfield 645, .invokevirtual 0, .aload 0, .sipush 0, .putfield 649, .aload 0, .dup, .getfield 650, .sipush 1, .iadd, .putfield 650, .aload 0, .getfield 643, .invokevirtual 160, .ireturn] := rfl
theorem kb_103_0 : ex_blk 103 0 = [.aload 0, .getfield 642, .aload 0, .getfield 640, .invokeinterface 7 1, .ifCond .ne 17, .sipush (-103), .ireturn] := rfl
theorem kb_103_17 : ex_blk 103 17 = [.aload 0, .getfield 644, .invokevirtual 520, .ifCond .eq 30, .sipush (-104), .ireturn] := rfl
theorem kb_103_30 : ex_blk 103 30 = [.aload 0, .getfield 640, .invokevirtual 712, .aload 0, .getfield 644, .aload 0, .getfield 642, .invokevirtual 529, .ireturn] := rfl
theorem kb_104_0 : ex_blk 104 0 = [.iload 1, .aload 0, .getfield 644, .invokevirtual 512, .invokestatic 1042, .ifCond .ne 17, .sipush (-101), .ireturn] := rfl
theorem kb_104_17 : ex_blk 104 17 = [.iload 2, .sipush 5, .invokestatic 1042, .ifCond .eq 37, .aload 0, .getfield 644, .iload 1, .iload 2, .invokevirtual 538, .goto 39] := rfl
theorem kb_104_37 : ex_blk 104 37 = [.sipush (-102), .jsr 39] := rfl
theorem kb_104_39 : ex_blk 104 39 = [.ireturn] := rfl
theorem kb_105_0 : ex_blk 105 0 = [.iload 1, .aload 0, .getfield 644, .invokevirtual 512, .invokestatic 1042, .ifCond .ne 17, .sipush (-101), .ireturn] := rfl
theorem kb_105_17 : ex_blk 105 17 = [.iload 2, .sipush 5, .invokestatic 1042, .ifCond .ne 28, .sipush (-102), .ireturn] := rfl
theorem kb_105_28 : ex_blk 105 28 = [.aload 0, .getfield 644, .iload 1, .sipush 4, .invokevirtual 538, .iload 2, .invokestatic 506, .ifCond .eq 48, .iload 1, .goto 49] := rfl
theorem kb_105_48 : ex_blk 105 48 = [.sipush (-1), .jsr 49] := rfl
theorem kb_105_49 : ex_blk 105 49 = [.ireturn] := rfl
theorem kb_106_0 : ex_blk 106 0 = [.aload 0, .getfield 643, .iload 1, .invokevirtual 169, .ifCond .ne 14, .sipush (-101), .ireturn] := rfl
theorem kb_106_14 : ex_blk 106 14 = [.iload 2, .sipush 4, .invokestatic 1042, .ifCond .eq 31, .aload 0, .iload 1, .iload 2, .invokevirtual 1082, .goto 33] := rfl
theorem kb_106_31 : ex_blk 106 31 = [.sipush (-102), .jsr 33] := rfl
theorem kb_106_33 : ex_blk 106 33 = [.ireturn] := rfl
theorem kb_107_0 : ex_blk 107 0 = [.aload 0, .getfield 643, .iload 2, .invokevirtual 185, .ifCond .ne 14, .sipush (-101), .ireturn] := rfl
theorem kb_107_14 : ex_blk 107 14 = [.iload 1, .sipush 3, .invokestatic 1042, .ifCond .eq 39, .iload 3, .sipush 4, .invokestatic 1042, .ifCond .eq 39, .iload 4, .sipush 4, .invokestatic 1042, .ifCond .ne 42, .jsr 39] := rfl
theorem kb_107_39 : ex_blk 107 39 = [.sipush (-102), .ireturn] := rfl
theorem kb_107_42 : ex_blk 107 42 = [.aload 0, .getfield 643, .iload 1, .sipush 4, .iload 2, .imul, .iload 3, .iadd, .iload 4, .invokevirtual 219, .ireturn] := rfl
theorem kb_108_0 : ex_blk 108 0 = [.aload 0, .getfield 643, .iload 4, .invokevirtual 185, .ifCond .ne 15, .sipush (-101), .ireturn] := rfl
theorem kb_108_15 : ex_blk 108 15 = [.iload 1, .iload 2, .iload 3, .invokestatic 1051, .ifCond .eq 33, .iload 5, .sipush 4, .invokestatic 1042, .ifCond .ne 36, .jsr 33] := rfl
theorem kb_108_33 : ex_blk 108 33 = [.sipush (-102), .ireturn] := rfl
theorem kb_108_36 : ex_blk 108 36 = [.aload 0, .getfield 644, .aload 0, .getfield 643, .iload 1, .iload 2, .iload 3, .sipush 4, .iload 4, .imul, .iload 5, .iadd, .sipush 0, .invokevirtual 550, .ireturn] := rfl
theorem kb_109_0 : ex_blk 109 0 = [.aload 0, .getfield 643, .iload 4, .invokevirtual 185, .ifCond .ne 15, .sipush (-101), .ireturn] := rfl
theorem kb_109_15 : ex_blk 109 15 = [.iload 2, .iload 1, .iload 3, .invokestatic 1051, .ifCond .eq 33, .iload 5, .sipush 4, .invokestatic 1042, .ifCond .ne 36, .jsr 33] := rfl
theorem kb_109_33 : ex_blk 109 33 = [.sipush (-102), .ireturn] := rfl
theorem kb_109_36 : ex_blk 109 36 = [.aload 0, .getfield 645, .getfield 1, .invokevirtual 728, .ifCond .eq 52, .sipush (-104), .ireturn] := rfl
theorem kb_109_52 : ex_blk 109 52 = [.aload 0, .getfield 645, .getfield 1, .iload 1, .iload 2, .iload 3, .iload 4, .iload 5, .invokevirtual 741, .ireturn] := rfl
theorem kb_110_0 : ex_blk 110 0 = [.iload 1, .sipush 2, .invokestatic 1042, .ifCond .ne 11, .sipush (-102), .ireturn] := rfl
theorem kb_110_11 : ex_blk 110 11 = [.aload 0, .invokevirtual 1112, .istore 2, .iload 2, .sipush (-1), .if_icmp .eq 25, .iload 1, .ifCond .ne 27, .jsr 25] := rfl
theorem kb_110_25 : ex_blk 110 25 = [.iload 2, .ireturn] := rfl
theorem kb_110_27 : ex_blk 110 27 = [.aload 0, .iload 2, .sipush 0, .invokevirtual 1106, .invokestatic 1057, .ireturn] := rfl
theorem kb_111_0 : ex_blk 111 0 = [.aload 0, .getfield 643, .invokevirtual 152, .ifCond .ne 13, .sipush (-103), .ireturn] := rfl
theorem kb_111_13 : ex_blk 111 13 = [.iload 1, .iload 2, .iload 3, .invokestatic 1051, .ifCond .eq 31, .iload 4, .sipush 3, .invokestatic 1042, .ifCond .ne 34, .jsr 31] := rfl
theorem kb_111_31 : ex_blk 111 31 = [.sipush (-102), .ireturn] := rfl
theorem kb_111_34 : ex_blk 111 34 = [.sipush 0, .istore 5, .sipush 0, .istore 6, .jsr 40] := rfl
theorem kb_111_40 : ex_blk 111 40 = [.iload 6, .aload 0, .getfield 643, .invokevirtual 160, .if_icmp .ge 87, .aload 0, .getfield 643, .iload 6, .invokevirtual 185, .ifCond .eq 81, .aload 0, .iload 1, .iload 2, .iload 3, .iload 6, .invokevirtual 1124, .iload 4, .if_icmp .ne 81, .iinc 5 1, .jsr 81] := rfl
theorem kb_111_81 : ex_blk 111 81 = [.iinc 6 1, .goto 40] := rfl
theorem kb_111_87 : ex_blk 111 87 = [.iload 5, .ireturn] := rfl
theorem kb_112_0 : ex_blk 112 0 = [.iload 1, .sipush 4, .invokestatic 1042, .ifCond .ne 11, .sipush (-102), .ireturn] := rfl
theorem kb_112_11 : ex_blk 112 11 = [.aload 0, .getfield 643, .iload 2, .invokevirtual 193, .ifCond .ne 25, .sipush (-101), .ireturn] := rfl
theorem kb_112_25 : ex_blk 112 25 = [.iload 3, .iload 1, .invokestatic 1065, .invokestatic 1042, .ifCond .ne 39, .sipush (-102), .ireturn] := rfl
theorem kb_112_39 : ex_blk 112 39 = [.aload 0, .iload 1, .sipush 4, .iload 2, .imul, .iload 3, .iadd, .sipush (-1), .invokevirtual 1099, .ifCond .ne 56, .sipush (-103), .ireturn] := rfl
theorem kb_112_56 : ex_blk 112 56 = [.aload 0, .getfield 645, .getfield 0, .invokevirtual 728, .ifCond .eq 72, .sipush (-104), .ireturn] := rfl
theorem kb_112_72 : ex_blk 112 72 = [.aload 0, .getfield 645, .getfield 0, .iload 1, .iload 2, .iload 3, .sipush 0, .sipush 0, .invokevirtual 741, .ireturn] := rfl
theorem kb_113_0 : ex_blk 113 0 = [.iload 1, .aload 0, .getfield 645, .getfield 0, .invokevirtual 720, .invokestatic 1042, .ifCond .ne 20, .sipush (-101), .ireturn] := rfl
theorem kb_113_20 : ex_blk 113 20 = [.iload 2, .sipush 4, .invokestatic 1042, .ifCond .ne 31, .sipush (-102), .ireturn] := rfl
theorem kb_113_31 : ex_blk 113 31 = [.aload 0, .getfield 645, .iload 1, .invokevirtual 25, .iload 2, .invokestatic 18, .ifCond .eq 50, .iload 1, .goto 51] := rfl
theorem kb_113_50 : ex_blk 113 50 = [.sipush (-1), .jsr 51] := rfl
theorem kb_113_51 : ex_blk 113 51 = [.ireturn] := rfl
theorem kb_114_0 : ex_blk 114 0 = [.iload 1, .aload 0, .getfield 645, .getfield 0, .invokevirtual 720, .invokestatic 1042, .ifCond .ne 20, .sipush (-101), .ireturn] := rfl
theorem kb_114_20 : ex_blk 114 20 = [.iload 2, .sipush 4, .invokestatic 1042, .ifCond .eq 37, .aload 0, .iload 1, .iload 2, .invokevirtual 1090, .goto 39] := rfl
theorem kb_114_37 : ex_blk 114 37 = [.sipush (-102), .jsr 39] := rfl
theorem kb_114_39 : ex_blk 114 39 = [.ireturn] := rfl
theorem kb_115_0 : ex_blk 115 0 = [.iload 1, .aload 0, .getfield 645, .getfield 0, .invokevirtual 720, .invokestatic 1042, .ifCond .eq 28, .aload 0, .getfield 643, .iload 2, .invokevirtual 193, .ifCond .ne 31, .jsr 28] := rfl
theorem kb_115_28 : ex_blk 115 28 = [.sipush (-101), .ireturn] := rfl
theorem kb_115_31 : ex_blk 115 31 = [.iload 3, .aload 0, .getfield 645, .iload 1, .invokevirtual 25, .invokestatic 1065, .invokestatic 1042, .ifCond .ne 52, .sipush (-102), .ireturn] := rfl
theorem kb_115_52 : ex_blk 115 52 = [.aload 0, .aload 0, .getfield 645, .iload 1, .invokevirtual 25, .sipush 4, .iload 2, .imul, .iload 3, .iadd, .iload 1, .invokevirtual 1099, .ifCond .ne 76, .sipush (-103), .ireturn] := rfl
theorem kb_115_76 : ex_blk 115 76 = [.aload 0, .getfield 645, .iload 1, .invokevirtual 49, .istore 4, .aload 0, .getfield 645, .iload 1, .iload 2, .iload 3, .invokevirtual 59, .iload 4, .ireturn] := rfl
theorem kb_116_0 : ex_blk 116 0 = [.iload 1, .sipush 6, .invokestatic 1042, .ifCond .eq 18, .iload 2, .sipush 24, .invokestatic 1042, .ifCond .ne 21, .jsr 18] := rfl
theorem kb_116_18 : ex_blk 116 18 = [.sipush (-102), .ireturn] := rfl
theorem kb_116_21 : ex_blk 116 21 = [.aload 0, .getfield 645, .getfield 2, .invokevirtual 728, .ifCond .eq 37, .sipush (-104), .ireturn] := rfl
theorem kb_116_37 : ex_blk 116 37 = [.aload 0, .getfield 645, .getfield 2, .iload 1, .iload 2, .sipush 0, .sipush 0, .sipush 0, .invokevirtual 741, .ireturn] := rfl
theorem kb_117_0 : ex_blk 117 0 = [.aload 0, .getfield 647, .aload 0, .getfield 643, .aload 0, .getfield 644, .aload 0, .getfield 645, .invokevirtual 331, .aload 0, .getfield 648, .aload 0, .getfield 643, .aload 0, .getfield 645, .invokevirtual 570, .sipush 0, .istore 1, .sipush 0, .istore 2, .jsr 38] := rfl
theorem kb_117_38 : ex_blk 117 38 = [.iload 2, .aload 0, .getfield 645, .getfield 2, .invokevirtual 720, .if_icmp .ge 79, .aload 0, .getfield 648, .aload 0, .getfield 647, .iload 2, .invokevirtual 658, .ifCond .eq 73, .iload 1, .sipush 1, .iload 2, .ishl, .ior, .istore 1, .jsr 73] := rfl
theorem kb_117_73 : ex_blk 117 73 = [.iinc 2 1, .goto 38] := rfl
theorem kb_117_79 : ex_blk 117 79 = [.iload 1, .ireturn] := rfl
theorem kb_118_0 : ex_blk 118 0 = [.aload 0, .getfield 643, .invokevirtual 152, .ifCond .ne 13, .sipush (-103), .ireturn] := rfl
theorem kb_118_13 : ex_blk 118 13 = [.iload 1, .sipush 5, .invokestatic 1042, .ifCond .ne 24, .sipush (-102), .ireturn] := rfl
theorem kb_118_24 : ex_blk 118 24 = [.aload 0, .getfield 651, .sipush 12, .if_icmp .lt 36, .sipush (-103), .ireturn] := rfl
theorem kb_118_36 : ex_blk 118 36 = [.aload 0, .dup, .getfield 651, .sipush 1, .iadd, .putfield 651, .aload 0, .getfield 647, .aload 0, .getfield 643, .aload 0, .getfield 644, .aload 0, .getfield 645, .invokevirtual 331, .aload 0, .getfield 648, .aload 0, .getfield 643, .aload 0, .getfield 645, .invokevirtual 570, .aload 0, .getfield 648, .aload 0, .getfield 647, .invokevirtual 585, .ifCond .ne 137, .aload 0, .getfield 647, .invokevirtual 416, .ifCond .ne 137, .aload 0, .getfield 648, .aload 0, .getfield 643, .aload 0, .getfield 647, .invokevirtual 610, .ifCond .ne 137, .aload 0, .getfield 648, .aload 0, .getfield 643, .aload 0, .getfield 647, .invokevirtual 626, .jsr 137] := rfl
theorem kb_118_137 : ex_blk 118 137 = [.aload 0, .getfield 648, .iload 1, .invokevirtual 577, .ireturn] := rfl
theorem kb_119_0 : ex_blk 119 0 = [.aload 0, .getfield 643, .iload 1, .invokevirtual 185, .ifCond .eq 22, .aload 0, .getfield 643, .iload 2, .invokevirtual 185, .ifCond .ne 25, .jsr 22] := rfl
theorem kb_119_22 : ex_blk 119 22 = [.sipush (-101), .ireturn] := rfl
theorem kb_119_25 : ex_blk 119 25 = [.aload 0, .getfield 643, .iload 1, .iload 2, .sipush 0, .aload 0, .getfield 645, .aload 0, .getfield 643, .sipush (-1), .invokevirtual 74, .invokevirtual 252, .ireturn] := rfl
theorem kb_120_0 : ex_blk 120 0 = [.aload 0, .getfield 643, .iload 1, .invokevirtual 185, .ifCond .eq 22, .aload 0, .getfield 643, .iload 2, .invokevirtual 185, .ifCond .ne 25, .jsr 22] := rfl
theorem kb_120_22 : ex_blk 120 22 = [.sipush (-101), .ireturn] := rfl
theorem kb_120_25 : ex_blk 120 25 = [.iload 3, .sipush 10, .invokestatic 1042, .ifCond .ne 37, .sipush (-102), .ireturn] := rfl
theorem kb_120_37 : ex_blk 120 37 = [.aload 0, .getfield 643, .iload 1, .iload 2, .iload 3, .aload 0, .getfield 645, .aload 0, .getfield 643, .sipush (-1), .invokevirtual 74, .invokevirtual 252, .ireturn] := rfl
theorem kb_121_0 : ex_blk 121 0 = [.iload 1, .aload 0, .getfield 645, .getfield 0, .invokevirtual 720, .invokestatic 1042, .ifCond .ne 20, .sipush (-101), .ireturn] := rfl
theorem kb_121_20 : ex_blk 121 20 = [.iload 2, .sipush 4, .invokestatic 1042, .ifCond .ne 31, .sipush (-102), .ireturn] := rfl
theorem kb_121_31 : ex_blk 121 31 = [.aload 0, .getfield 643, .aload 0, .getfield 645, .iload 1, .invokevirtual 33, .sipush 0, .invokevirtual 202, .istore 3, .aload 0, .getfield 643, .aload 0, .getfield 645, .aload 0, .getfield 643, .iload 1, .invokevirtual 66, .sipush 0, .invokevirtual 202, .istore 4, .iload 2, .sipush 1, .if_icmp .ne 78, .iload 4, .ireturn] := rfl
theorem kb_121_78 : ex_blk 121 78 = [.iload 2, .sipush 2, .if_icmp .ne 107, .aload 0, .getfield 643, .aload 0, .getfield 643, .aload 0, .getfield 645, .iload 1, .invokevirtual 33, .invokevirtual 233, .sipush 0, .invokevirtual 202, .ireturn] := rfl
theorem kb_121_107 : ex_blk 121 107 = [.iload 2, .sipush 3, .if_icmp .ne 122, .iload 3, .iload 4, .if_icmp .eq 122, .sipush (-1), .goto 123] := rfl
theorem kb_121_122 : ex_blk 121 122 = [.iload 3, .jsr 123] := rfl
theorem kb_121_123 : ex_blk 121 123 = [.ireturn] := rfl
theorem kb_122_0 : ex_blk 122 0 = [.iload 1, .sipush 1000, .invokestatic 1042, .ifCond .eq 47, .iload 2, .sipush 100, .invokestatic 1042, .ifCond .eq 47, .iload 3, .sipush 11, .invokestatic 1042, .ifCond .eq 47, .iload 4, .sipush 100, .invokestatic 1042, .ifCond .eq 47, .iload 5, .sipush 2, .invokestatic 1042, .ifCond .ne 50, .jsr 47] := rfl
theorem kb_122_47 : ex_blk 122 47 = [.sipush (-102), .ireturn] := rfl
theorem kb_122_50 : ex_blk 122 50 = [.sipush 1, .istore 6, .sipush 1, .iload 1, .iload 2, .iload 3, .iload 4, .invokestatic 1077, .istore 7, .sipush 2, .istore 8, .jsr 67] := rfl
theorem kb_122_67 : ex_blk 122 67 = [.iload 8, .sipush 20, .if_icmp .gt 107, .iload 8, .iload 1, .iload 2, .iload 3, .iload 4, .invokestatic 1077, .istore 9, .iload 9, .iload 7, .if_icmp .ge 101, .iload 9, .istore 7, .iload 8, .istore 6, .jsr 101] := rfl
theorem kb_122_101 : ex_blk 122 101 = [.iinc 8 1, .goto 67] := rfl
theorem kb_122_107 : ex_blk 122 107 = [.iload 5, .ifCond .ne 117, .iload 6, .goto 119] := rfl
theorem kb_122_117 : ex_blk 122 117 = [.iload 7, .jsr 119] := rfl
theorem kb_122_119 : ex_blk 122 119 = [.ireturn] := rfl
theorem kb_123_0 : ex_blk 123 0 = [.aload 0, .getfield 643, .invokevirtual 152, .ifCond .ne 13, .sipush (-103), .ireturn] := rfl
theorem kb_123_13 : ex_blk 123 13 = [.iload 1, .sipush (-3), .if_icmp .lt 24, .iload 1, .sipush 3, .if_icmp .le 27, .jsr 24] := rfl
theorem kb_123_24 : ex_blk 123 24 = [.sipush (-102), .ireturn] := rfl
theorem kb_123_27 : ex_blk 123 27 = [.sipush 0, .istore 2, .sipush 0, .istore 3, .jsr 31] := rfl
theorem kb_123_31 : ex_blk 123 31 = [.iload 3, .aload 0, .getfield 645, .getfield 1, .invokevirtual 720, .if_icmp .ge 66, .aload 0, .iload 3, .iload 1, .invokevirtual 1106, .ifCond .eq 60, .iload 2, .sipush 1, .iload 3, .ishl, .ior, .istore 2, .jsr 60] := rfl
theorem kb_123_60 : ex_blk 123 60 = [.iinc 3 1, .goto 31] := rfl
theorem kb_123_66 : ex_blk 123 66 = [.iload 2, .ireturn] := rfl
theorem kb_124_0 : ex_blk 124 0 = [.aload 0, .getfield 643, .iload 1, .invokevirtual 169, .ifCond .ne 14, .sipush (-101), .ireturn] := rfl
theorem kb_124_14 : ex_blk 124 14 = [.iload 2, .sipush 2, .invokestatic 1042, .ifCond .ne 25, .sipush (-102), .ireturn] := rfl
theorem kb_124_25 : ex_blk 124 25 = [.aload 0, .getfield 645, .getfield 3, .invokevirtual 728, .ifCond .eq 41, .sipush (-104), .ireturn] := rfl
theorem kb_124_41 : ex_blk 124 41 = [.aload 0, .getfield 645, .getfield 3, .iload 1, .iload 2, .sipush 0, .sipush 0, .sipush 0, .invokevirtual 741, .pop, .aload 0, .getfield 645, .getfield 3, .invokevirtual 720, .ireturn] := rfl
theorem kb_125_0 : ex_blk 125 0 = [.aload 0, .getfield 643, .invokevirtual 152, .ifCond .eq 17, .aload 0, .invokevirtual 1128, .goto 19] := rfl
theorem kb_125_17 : ex_blk 125 17 = [.sipush (-103), .jsr 19] := rfl
theorem kb_125_19 : ex_blk 125 19 = [.ireturn] := rfl
theorem kb_126_0 : ex_blk 126 0 = [.aload 0, .getfield 643, .invokevirtual 152, .ifCond .ne 13, .sipush (-103), .ireturn] := rfl
theorem kb_126_13 : ex_blk 126 13 = [.aload 0, .getfield 646, .aload 0, .getfield 645, .invokevirtual 9, .aload 0, .sipush 1, .putfield 649, .aload 0, .getfield 645, .getfield 0, .invokevirtual 720, .ireturn] := rfl
theorem kb_127_0 : ex_blk 127 0 = [.aload 0, .getfield 649, .ifCond .ne 10, .sipush (-103), .ireturn] := rfl
theorem kb_127_10 : ex_blk 127 10 = [.aload 0, .getfield 645, .aload 0, .getfield 646, .invokevirtual 9, .aload 0, .getfield 645, .getfield 0, .invokevirtual 720, .ireturn] := rfl
theorem kb_128_0 : ex_blk 128 0 = [.iload 1, .tableswitch 130 0 8 #[52, 60, 68, 79, 90, 101, 112, 120, 125]] := rfl
theorem kb_128_52 : ex_blk 128 52 = [.aload 0, .getfield 643, .invokevirtual 160, .ireturn] := rfl
theorem kb_128_60 : ex_blk 128 60 = [.aload 0, .getfield 644, .invokevirtual 512, .ireturn] := rfl
theorem kb_128_68 : ex_blk 128 68 = [.aload 0, .getfield 645, .getfield 1, .invokevirtual 720, .ireturn] := rfl
theorem kb_128_79 : ex_blk 128 79 = [.aload 0, .getfield 645, .getfield 0, .invokevirtual 720, .ireturn] := rfl
theorem kb_128_90 : ex_blk 128 90 = [.aload 0, .getfield 645, .getfield 2, .invokevirtual 720, .ireturn] := rfl
theorem kb_128_101 : ex_blk 128 101 = [.aload 0, .getfield 645, .getfield 3, .invokevirtual 720, .ireturn] := rfl
theorem kb_128_112 : ex_blk 128 112 = [.aload 0, .getfield 640, .invokevirtual 696, .ireturn] := rfl
theorem kb_128_120 : ex_blk 128 120 = [.aload 0, .getfield 650, .ireturn] := rfl
theorem kb_128_125 : ex_blk 128 125 = [.aload 0, .getfield 651, .ireturn] := rfl
theorem kb_128_130 : ex_blk 128 130 = [.sipush (-102), .ireturn] := rfl
theorem kb_129_0 : ex_blk 129 0 = [.aload 0, .goto_w 521, .invokevirtual 1145, .lstore 1, .aload 0, .lload 1, .invokevirtual 1153, .lstore 1, .aload 0, .lload 1, .invokevirtual 1161, .lstore 1, .aload 0, .lload 1, .invokevirtual 1169, .lstore 1, .lload 1, .aload 0, .getfield 645, .getfield 2, .invokestatic 1178, .lstore 1, .goto_w 31, .lload 1, .lmul, .aload 0, .invokevirtual 936, .i2l, .ladd, .lstore 1, .lload 1, .aload 0, .getfield 645, .getfield 3, .invokestatic 1178, .lstore 1, .aload 0, .getfield 643, .invokevirtual 152, .ifCond .eq 84, .goto_w 31, .lload 1, .lmul, .aload 0, .invokevirtual 1128, .i2l, .ladd, .lstore 1, .jsr 84] := rfl
theorem kb_129_84 : ex_blk 129 84 = [.sipush 0, .istore 3, .jsr 86] := rfl
theorem kb_129_86 : ex_blk 129 86 = [.iload 3, .aload 0, .getfield 640, .invokevirtual 696, .if_icmp .ge 119, .goto_w 31, .lload 1, .lmul, .aload 0, .getfield 640, .iload 3, .invokevirtual 705, .i2l, .ladd, .lstore 1, .iinc 3 1, .goto 86] := rfl
theorem kb_129_119 : ex_blk 129 119 = [.sipush 0, .istore 3, .jsr 121] := rfl
theorem kb_129_121 : ex_blk 129 121 = [.iload 3, .sipush 8, .if_icmp .gt 146, .goto_w 31, .lload 1, .lmul, .aload 0, .iload 3, .invokevirtual 1025, .i2l, .ladd, .lstore 1, .iinc 3 1, .goto 121] := rfl
theorem kb_129_146 : ex_blk 129 146 = [.lload 1, .lreturn] := rfl
theorem kb_130_0 : ex_blk 130 0 = [.iload 0, .ifCond .lt 13, .iload 0, .iload 1, .if_icmp .ge 13, .sipush 1, .goto 14] := rfl
theorem kb_130_13 : ex_blk 130 13 = [.sipush 0, .jsr 14] := rfl
theorem kb_130_14 : ex_blk 130 14 = [.areturn] := rfl
theorem kb_131_0 : ex_blk 131 0 = [.iload 0, .sipush 6, .invokestatic 1042, .ifCond .eq 30, .iload 1, .sipush 24, .invokestatic 1042, .ifCond .eq 30, .iload 2, .sipush 3, .invokestatic 1042, .ifCond .eq 30, .sipush 1, .goto 31] := rfl
theorem kb_131_30 : ex_blk 131 30 = [.sipush 0, .jsr 31] := rfl
theorem kb_131_31 : ex_blk 131 31 = [.areturn] := rfl
theorem kb_132_0 : ex_blk 132 0 = [.sipush 0, .istore 1, .jsr 2] := rfl
theorem kb_132_2 : ex_blk 132 2 = [.iload 1, .sipush 32, .if_icmp .ge 24, .iload 0, .iload 1, .ishr, .sipush 1, .iand, .ifCond .eq 18, .iload 1, .ireturn] := rfl
theorem kb_132_18 : ex_blk 132 18 = [.iinc 1 1, .goto 2] := rfl
theorem kb_132_24 : ex_blk 132 24 = [.sipush (-1), .ireturn] := rfl
theorem kb_133_0 : ex_blk 133 0 = [.iload 0, .sipush 1, .if_icmp .ne 9, .sipush 4, .goto 10] := rfl
theorem kb_133_9 : ex_blk 133 9 = [.sipush 1, .jsr 10] := rfl
theorem kb_133_10 : ex_blk 133 10 = [.ireturn] := rfl
theorem kb_134_0 : ex_blk 134 0 = [.sipush 0, .iload 1, .iload 2, .iload 0, .imul, .isub, .invokedynamic 0, .istore 5, .iload 4, .iload 0, .imul, .iload 3, .iload 5, .imul, .sipush 9, .iadd, .sipush 10, .idiv, .iadd, .ireturn] := rfl
theorem kb_135_0 : ex_blk 135 0 = [.iload 2, .tableswitch 60 0 2 #[28, 37, 47]] := rfl
theorem kb_135_28 : ex_blk 135 28 = [.aload 0, .getfield 643, .iload 1, .invokevirtual 177, .ireturn] := rfl
theorem kb_135_37 : ex_blk 135 37 = [.aload 0, .getfield 643, .iload 1, .sipush 0, .invokevirtual 202, .ireturn] := rfl
theorem kb_135_47 : ex_blk 135 47 = [.aload 0, .getfield 645, .aload 0, .getfield 643, .iload 1, .invokevirtual 82, .ireturn] := rfl
theorem kb_135_60 : ex_blk 135 60 = [.aload 0, .getfield 643, .iload 1, .invokevirtual 225, .ireturn] := rfl
theorem kb_136_0 : ex_blk 136 0 = [.iload 2, .tableswitch 55 0 2 #[28, 37, 46]] := rfl
theorem kb_136_28 : ex_blk 136 28 = [.aload 0, .getfield 645, .iload 1, .invokevirtual 25, .ireturn] := rfl
theorem kb_136_37 : ex_blk 136 37 = [.aload 0, .getfield 645, .iload 1, .invokevirtual 33, .ireturn] := rfl
theorem kb_136_46 : ex_blk 136 46 = [.aload 0, .getfield 645, .iload 1, .invokevirtual 41, .ireturn] := rfl
theorem kb_136_55 : ex_blk 136 55 = [.aload 0, .getfield 645, .aload 0, .getfield 643, .iload 1, .invokevirtual 66, .ireturn] := rfl
theorem kb_137_0 : ex_blk 137 0 = [.aload 0, .getfield 643, .iload 1, .iload 2, .invokevirtual 242, .istore 4, .iload 4, .ifCond .eq 38, .iload 4, .aload 0, .getfield 645, .aload 0, .getfield 643, .iload 3, .invokevirtual 74, .iand, .ifCond .ne 38, .sipush 1, .goto 39] := rfl
theorem kb_137_38 : ex_blk 137 38 = [.sipush 0, .jsr 39] := rfl
theorem kb_137_39 : ex_blk 137 39 = [.areturn] := rfl
theorem kb_138_0 : ex_blk 138 0 = [.aload 0, .getfield 645, .getfield 1, .astore 3, .sipush 4, .aload 3, .iload 1, .sipush 3, .invokevirtual 746, .imul, .aload 3, .iload 1, .sipush 4, .invokevirtual 746, .iadd, .istore 4, .aload 0, .getfield 644, .aload 0, .getfield 643, .aload 3, .iload 1, .sipush 1, .invokevirtual 746, .aload 3, .iload 1, .sipush 0, .invokevirtual 746, .aload 3, .iload 1, .sipush 2, .invokevirtual 746, .iload 4, .iload 2, .invokevirtual 550, .ireturn] := rfl
theorem kb_139_0 : ex_blk 139 0 = [.sipush (-1), .istore 1, .sipush 24, .istore 2, .sipush 0, .istore 3, .jsr 7] := rfl
theorem kb_139_7 : ex_blk 139 7 = [.iload 3, .aload 0, .getfield 645, .getfield 1, .invokevirtual 720, .if_icmp .ge 61, .aload 0, .getfield 645, .getfield 1, .iload 3, .sipush 0, .invokevirtual 746, .istore 4, .iload 4, .iload 2, .if_icmp .ge 55, .aload 0, .iload 3, .sipush 0, .invokevirtual 1106, .ifCond .eq 55, .iload 4, .istore 2, .iload 3, .istore 1, .jsr 55] := rfl
theorem kb_139_55 : ex_blk 139 55 = [.iinc 3 1, .goto 7] := rfl
theorem kb_139_61 : ex_blk 139 61 = [.iload 1, .ireturn] := rfl
theorem kb_140_0 : ex_blk 140 0 = [.sipush 0, .istore 5, .sipush 0, .istore 6, .jsr 6] := rfl
theorem kb_140_6 : ex_blk 140 6 = [.iload 6, .sipush 4, .if_icmp .ge 46, .aload 0, .getfield 644, .aload 0, .getfield 643, .iload 1, .iload 2, .iload 3, .sipush 4, .iload 4, .imul, .iload 6, .iadd, .sipush 0, .invokevirtual 550, .ifCond .eq 40, .iinc 5 1, .jsr 40] := rfl
theorem kb_140_40 : ex_blk 140 40 = [.iinc 6 1, .goto 6] := rfl
theorem kb_140_46 : ex_blk 140 46 = [.iload 5, .ifCond .ne 53, .sipush 0, .ireturn] := rfl
theorem kb_140_53 : ex_blk 140 53 = [.iload 5, .sipush 4, .if_icmp .ge 63, .sipush 1, .goto 64] := rfl
theorem kb_140_63 : ex_blk 140 63 = [.sipush 2, .jsr 64] := rfl
theorem kb_140_64 : ex_blk 140 64 = [.ireturn] := rfl
theorem kb_141_0 : ex_blk 141 0 = [.sipush 0, .istore 1, .sipush (-3), .istore 2, .jsr 5] := rfl
theorem kb_141_5 : ex_blk 141 5 = [.iload 2, .sipush 3, .if_icmp .gt 32, .aload 0, .iload 2, .invokevirtual 1137, .ifCond .eq 26, .iload 1, .sipush 1, .iload 2, .sipush 3, .iadd, .ishl, .ior, .istore 1, .jsr 26] := rfl
theorem kb_141_26 : ex_blk 141 26 = [.iinc 2 1, .goto 5] := rfl
theorem kb_141_32 : ex_blk 141 32 = [.iload 1, .ireturn] := rfl
theorem kb_142_0 : ex_blk 142 0 = [.sipush 0, .istore 2, .jsr 2] := rfl
theorem kb_142_2 : ex_blk 142 2 = [.iload 2, .aload 0, .getfield 645, .getfield 3, .invokevirtual 720, .if_icmp .ge 59, .aload 0, .getfield 643, .aload 0, .getfield 645, .getfield 3, .iload 2, .sipush 0, .invokevirtual 746, .iload 1, .invokevirtual 202, .aload 0, .getfield 645, .getfield 3, .iload 2, .sipush 1, .invokevirtual 746, .if_icmp .eq 53, .sipush 0, .areturn] := rfl
theorem kb_142_53 : ex_blk 142 53 = [.iinc 2 1, .goto 2] := rfl
theorem kb_142_59 : ex_blk 142 59 = [.sipush 1, .areturn] := rfl
theorem kb_143_0 : ex_blk 143 0 = [.lload 1, .lstore 3, .sipush 0, .istore 5, .jsr 5] := rfl
theorem kb_143_5 : ex_blk 143 5 = [.iload 5, .aload 0, .getfield 643, .invokevirtual 160, .if_icmp .ge 54, .sipush 0, .istore 6, .jsr 20] := rfl
theorem kb_143_20 : ex_blk 143 20 = [.iload 6, .sipush 4, .if_icmp .ge 48, .goto_w 31, .lload 3, .lmul, .aload 0, .iload 5, .iload 6, .invokevirtual 1082, .i2l, .ladd, .lstore 3, .iinc 6 1, .goto 20] := rfl
theorem kb_143_48 : ex_blk 143 48 = [.iinc 5 1, .goto 5] := rfl
theorem kb_143_54 : ex_blk 143 54 = [.lload 3, .lreturn] := rfl
theorem kb_144_0 : ex_blk 144 0 = [.lload 1, .lstore 3, .sipush 0, .istore 5, .jsr 5] := rfl
theorem kb_144_5 : ex_blk 144 5 = [.iload 5, .aload 0, .getfield 644, .invokevirtual 512, .if_icmp .ge 57, .sipush 0, .istore 6, .jsr 20] := rfl
theorem kb_144_20 : ex_blk 144 20 = [.iload 6, .sipush 5, .if_icmp .ge 51, .goto_w 31, .lload 3, .lmul, .aload 0, .getfield 644, .iload 5, .iload 6, .invokevirtual 538, .i2l, .ladd, .lstore 3, .iinc 6 1, .goto 20] := rfl
theorem kb_144_51 : ex_blk 144 51 = [.iinc 5 1, .goto 5] := rfl
theorem kb_144_57 : ex_blk 144 57 = [.lload 3, .lreturn] := rfl
theorem kb_145_0 : ex_blk 145 0 = [.lload 1, .lstore 3, .sipush 0, .istore 5, .jsr 5] := rfl
theorem kb_145_5 : ex_blk 145 5 = [.iload 5, .aload 0, .getfield 645, .getfield 1, .invokevirtual 720, .if_icmp .ge 78, .sipush 0, .istore 6, .jsr 23] := rfl
theorem kb_145_23 : ex_blk 145 23 = [.iload 6, .sipush 5, .if_icmp .ge 57, .goto_w 31, .lload 3, .lmul, .aload 0, .getfield 645, .getfield 1, .iload 5, .iload 6, .invokevirtual 746, .i2l, .ladd, .lstore 3, .iinc 6 1, .goto 23] := rfl
theorem kb_145_57 : ex_blk 145 57 = [.goto_w 31, .lload 3, .lmul, .aload 0, .iload 5, .sipush 0, .invokevirtual 1106, .i2l, .ladd, .lstore 3, .iinc 5 1, .goto 5] := rfl
theorem kb_145_78 : ex_blk 145 78 = [.lload 3, .lreturn] := rfl
theorem kb_146_0 : ex_blk 146 0 = [.lload 1, .lstore 3, .sipush 0, .istore 5, .jsr 5] := rfl
theorem kb_146_5 : ex_blk 146 5 = [.iload 5, .aload 0, .getfield 645, .getfield 0, .invokevirtual 720, .if_icmp .ge 57, .sipush 0, .istore 6, .jsr 23] := rfl
theorem kb_146_23 : ex_blk 146 23 = [.iload 6, .sipush 4, .if_icmp .ge 51, .goto_w 31, .lload 3, .lmul, .aload 0, .iload 5, .iload 6, .invokevirtual 1090, .i2l, .ladd, .lstore 3, .iinc 6 1, .goto 23] := rfl
theorem kb_146_51 : ex_blk 146 51 = [.iinc 5 1, .goto 5] := rfl
theorem kb_146_57 : ex_blk 146 57 = [.lload 3, .lreturn] := rfl
theorem kb_147_0 : ex_blk 147 0 = [.lload 0, .lstore 3, .sipush 0, .istore 5, .jsr 5] := rfl
theorem kb_147_5 : ex_blk 147 5 = [.iload 5, .aload 2, .invokevirtual 720, .if_icmp .ge 50, .goto_w 31, .lload 3, .lmul, .aload 2, .iload 5, .sipush 0, .invokevirtual 746, .i2l, .ladd, .lstore 3, .goto_w 31, .lload 3, .lmul, .aload 2, .iload 5, .sipush 1, .invokevirtual 746, .i2l, .ladd, .lstore 3, .iinc 5 1, .goto 5] := rfl
theorem kb_147_50 : ex_blk 147 50 = [.lload 3, .lreturn] := rfl
theorem kb_148_0 : ex_blk 148 0 = [.iload 0, .iload 1, .if_icmp .lt 14, .iload 0, .iload 2, .if_icmp .gt 14, .sipush 1, .goto 15] := rfl
theorem kb_148_14 : ex_blk 148 14 = [.sipush 0, .jsr 15] := rfl
theorem kb_148_15 : ex_blk 148 15 = [.areturn] := rfl
theorem kb_149_0 : ex_blk 149 0 = [.sipush 0, .istore 3, .sipush 0, .istore 4, .sipush 0, .istore 5, .jsr 8] := rfl
theorem kb_149_8 : ex_blk 149 8 = [.iload 5, .sipush 8, .if_icmp .ge 85, .lload 1, .sipush 8, .iload 5, .imul, .lshr, .goto_w 255, .land, .l2i, .istore 6, .iload 6, .sipush 126, .if_icmp .gt 46, .iload 4, .ifCond .eq 49, .iload 6, .ifCond .eq 49, .jsr 46] := rfl
theorem kb_149_46 : ex_blk 149 46 = [.sipush (-102), .ireturn] := rfl
theorem kb_149_49 : ex_blk 149 49 = [.iload 4, .ifCond .ne 59, .iload 6, .ifCond .ne 63, .jsr 59] := rfl
theorem kb_149_59 : ex_blk 149 59 = [.sipush 1, .goto 64] := rfl
theorem kb_149_63 : ex_blk 149 63 = [.sipush 0, .jsr 64] := rfl
theorem kb_149_64 : ex_blk 149 64 = [.istore 4, .iload 3, .iload 6, .ifCond .ne 76, .sipush 0, .goto 77] := rfl
theorem kb_149_76 : ex_blk 149 76 = [.sipush 1, .jsr 77] := rfl
theorem kb_149_77 : ex_blk 149 77 = [.iadd, .istore 3, .iinc 5 1, .goto 8] := rfl
theorem kb_149_85 : ex_blk 149 85 = [.aload 0, .getfield 728, .iload 3, .iadd, .sipush 40, .if_icmp .le 99, .sipush (-104), .ireturn] := rfl
theorem kb_149_99 : ex_blk 149 99 = [.sipush 0, .istore 5, .jsr 102] := rfl
theorem kb_149_102 : ex_blk 149 102 = [.iload 5, .iload 3, .if_icmp .ge 135, .aload 0, .getfield 729, .aload 0, .getfield 728, .iload 5, .iadd, .lload 1, .sipush 8, .iload 5, .imul, .lshr, .l2i, .i2b, .bastore, .iinc 5 1, .goto 102] := rfl
theorem kb_149_135 : ex_blk 149 135 = [.aload 0, .dup, .getfield 728, .iload 3, .iadd, .putfield 728, .aload 0, .getfield 728, .ireturn] := rfl
theorem kb_150_0 : ex_blk 150 0 = [.aload 0, .getfield 728, .istore 1, .aload 0, .sipush 0, .putfield 728, .iload 1, .ireturn] := rfl
theorem kb_151_0 : ex_blk 151 0 = [.iload 0, .sipush 48, .sipush 57, .invokestatic 1187, .areturn] := rfl
theorem kb_152_0 : ex_blk 152 0 = [.iload 0, .sipush 46, .if_icmp .ne 10, .sipush 0, .goto 31] := rfl
theorem kb_152_10 : ex_blk 152 10 = [.iload 0, .sipush 35, .if_icmp .ne 20, .sipush 1, .goto 31] := rfl
theorem kb_152_20 : ex_blk 152 20 = [.iload 0, .sipush 100, .if_icmp .ne 30, .sipush 2, .goto 31] := rfl
theorem kb_152_30 : ex_blk 152 30 = [.sipush (-1), .jsr 31] := rfl
theorem kb_152_31 : ex_blk 152 31 = [.ireturn] := rfl
theorem kb_153_0 : ex_blk 153 0 = [.iload 1, .invokestatic 1217, .sipush (-1), .if_icmp .eq 68, .aload 0, .getfield 744, .aload 0, .getfield 742, .ifCond .ne 24, .sipush 6, .goto 28] := rfl
theorem kb_153_24 : ex_blk 153 24 = [.aload 0, .getfield 743, .jsr 28] := rfl
theorem kb_153_28 : ex_blk 153 28 = [.if_icmp .ne 33, .sipush 0, .areturn] := rfl
theorem kb_153_33 : ex_blk 153 33 = [.aload 0, .getfield 746, .aload 0, .getfield 742, .aload 0, .getfield 743, .imul, .aload 0, .getfield 744, .iadd, .iload 1, .invokestatic 1217, .iastore, .aload 0, .dup, .getfield 744, .sipush 1, .iadd, .putfield 744, .sipush 1, .areturn] := rfl
theorem kb_153_68 : ex_blk 153 68 = [.iload 1, .sipush 124, .if_icmp .ne 101, .aload 0, .getfield 745, .ifCond .ne 101, .aload 0, .getfield 747, .aload 0, .getfield 742, .aload 0, .getfield 744, .iastore, .aload 0, .sipush 1, .putfield 745, .sipush 1, .areturn] := rfl
theorem kb_153_101 : ex_blk 153 101 = [.iload 1, .sipush 47, .if_icmp .ne 155, .aload 0, .getfield 745, .ifCond .eq 155, .aload 0, .getfield 742, .sipush 3, .if_icmp .ge 155, .aload 0, .getfield 742, .ifCond .ne 140, .aload 0, .getfield 744, .sipush 1, .if_icmp .le 155, .goto 151] := rfl
theorem kb_153_140 : ex_blk 153 140 = [.aload 0, .getfield 744, .aload 0, .getfield 743, .if_icmp .ne 155, .jsr 151] := rfl
theorem kb_153_151 : ex_blk 153 151 = [.sipush 1, .goto 156] := rfl
theorem kb_153_155 : ex_blk 153 155 = [.sipush 0, .jsr 156] := rfl
theorem kb_153_156 : ex_blk 153 156 = [.istore 2, .iload 2, .ifCond .eq 189, .aload 0, .aload 0, .getfield 744, .putfield 743, .aload 0, .dup, .getfield 742, .sipush 1, .iadd, .putfield 742, .aload 0, .sipush 0, .putfield 744, .aload 0, .sipush 0, .putfield 745, .jsr 189] := rfl
theorem kb_153_189 : ex_blk 153 189 = [.iload 2, .areturn] := rfl
theorem kb_154_0 : ex_blk 154 0 = [.aload 0, .sipush 0, .putfield 742, .aload 0, .sipush 0, .putfield 743, .aload 0, .sipush 0, .putfield 744, .aload 0, .sipush 0, .putfield 745, .sipush 0, .istore 1, .jsr 22] := rfl
theorem kb_154_22 : ex_blk 154 22 = [.iload 1, .aload 0, .getfield 728, .if_icmp .ge 49, .aload 0, .aload 0, .getfield 729, .iload 1, .baload, .invokevirtual 1225, .ifCond .eq 49, .iinc 1 1, .goto 22] := rfl
theorem kb_154_49 : ex_blk 154 49 = [.aload 0, .iload 1, .putfield 740, .aload 0, .iload 1, .aload 0, .getfield 728, .if_icmp .ne 92, .aload 0, .getfield 745, .ifCond .eq 92, .aload 0, .getfield 742, .ifCond .le 92, .aload 0, .getfield 744, .aload 0, .getfield 743, .if_icmp .ne 92, .sipush 1, .goto 93] := rfl
theorem kb_154_92 : ex_blk 154 92 = [.sipush 0, .jsr 93] := rfl
theorem kb_154_93 : ex_blk 154 93 = [.putfield 741, .return_] := rfl
theorem kb_155_0 : ex_blk 155 0 = [.iload 1, .ifCond .ne 11, .aload 0, .getfield 750, .goto 15] := rfl
theorem kb_155_11 : ex_blk 155 11 = [.aload 0, .getfield 751, .jsr 15] := rfl
theorem kb_155_15 : ex_blk 155 15 = [.ireturn] := rfl
theorem kb_156_0 : ex_blk 156 0 = [.iload 1, .ifCond .ne 12, .aload 0, .iload 2, .putfield 750, .goto 17] := rfl
theorem kb_156_12 : ex_blk 156 12 = [.aload 0, .iload 2, .putfield 751, .jsr 17] := rfl
theorem kb_156_17 : ex_blk 156 17 = [.return_] := rfl
theorem kb_157_0 : ex_blk 157 0 = [.iload 2, .invokestatic 1209, .ifCond .eq 37, .aload 0, .iload 1, .invokevirtual 1241, .ifCond .le 37, .sipush 10, .aload 0, .iload 1, .invokevirtual 1241, .imul, .iload 2, .iadd, .sipush 48, .isub, .sipush 24, .if_icmp .ge 37, .sipush 1, .goto 38] := rfl
theorem kb_157_37 : ex_blk 157 37 = [.sipush 0, .jsr 38] := rfl
theorem kb_157_38 : ex_blk 157 38 = [.istore 3, .aload 0, .iload 1, .iload 3, .ifCond .eq 61, .sipush 10, .aload 0, .iload 1, .invokevirtual 1241, .imul, .iload 2, .iadd, .sipush 48, .isub, .goto 66] := rfl
theorem kb_157_61 : ex_blk 157 61 = [.aload 0, .iload 1, .invokevirtual 1241, .jsr 66] := rfl
theorem kb_157_66 : ex_blk 157 66 = [.invokevirtual 1250, .iload 3, .areturn] := rfl
theorem kb_158_0 : ex_blk 158 0 = [.iload 1, .sipush 104, .if_icmp .ne 10, .sipush 1, .goto 41] := rfl
theorem kb_158_10 : ex_blk 158 10 = [.iload 1, .sipush 110, .if_icmp .ne 20, .sipush 2, .goto 41] := rfl
theorem kb_158_20 : ex_blk 158 20 = [.iload 1, .sipush 102, .if_icmp .ne 30, .sipush 3, .goto 41] := rfl
theorem kb_158_30 : ex_blk 158 30 = [.iload 1, .sipush 111, .if_icmp .ne 40, .sipush 4, .goto 41] := rfl
theorem kb_158_40 : ex_blk 158 40 = [.sipush (-1), .jsr 41] := rfl
theorem kb_158_41 : ex_blk 158 41 = [.ireturn] := rfl
theorem kb_159_0 : ex_blk 159 0 = [.aload 0, .iload 1, .invokevirtual 1265, .istore 2, .aload 0, .iload 2, .sipush (-1), .if_icmp .ne 19, .aload 0, .getfield 752, .goto 20] := rfl
theorem kb_159_19 : ex_blk 159 19 = [.iload 2, .jsr 20] := rfl
theorem kb_159_20 : ex_blk 159 20 = [.putfield 752, .iload 2, .sipush (-1), .if_icmp .ne 32, .sipush (-1), .goto 34] := rfl
theorem kb_159_32 : ex_blk 159 32 = [.sipush 8, .jsr 34] := rfl
theorem kb_159_34 : ex_blk 159 34 = [.ireturn] := rfl
theorem kb_160_0 : ex_blk 160 0 = [.iload 1, .tableswitch 212 0 7 #[48, 81, 106, 127, 152, 164, 186, 206]] := rfl
theorem kb_160_48 : ex_blk 160 48 = [.aload 0, .iload 2, .sipush 119, .if_icmp .ne 59, .sipush 0, .goto 60] := rfl
theorem kb_160_59 : ex_blk 160 59 = [.sipush 1, .jsr 60] := rfl
theorem kb_160_60 : ex_blk 160 60 = [.putfield 748, .iload 2, .sipush 119, .if_icmp .eq 75, .iload 2, .sipush 101, .if_icmp .ne 79, .jsr 75] := rfl
theorem kb_160_75 : ex_blk 160 75 = [.sipush 1, .goto 80] := rfl
theorem kb_160_79 : ex_blk 160 79 = [.sipush (-1), .jsr 80] := rfl
theorem kb_160_80 : ex_blk 160 80 = [.ireturn] := rfl
theorem kb_160_81 : ex_blk 160 81 = [.aload 0, .iload 2, .sipush 97, .isub, .putfield 749, .iload 2, .sipush 97, .sipush 102, .invokestatic 1187, .ifCond .eq 104, .sipush 2, .goto 105] := rfl
theorem kb_160_104 : ex_blk 160 104 = [.sipush (-1), .jsr 105] := rfl
theorem kb_160_105 : ex_blk 160 105 = [.ireturn] := rfl
theorem kb_160_106 : ex_blk 160 106 = [.aload 0, .iload 2, .sipush 48, .isub, .putfield 750, .iload 2, .invokestatic 1209, .ifCond .eq 125, .sipush 3, .goto 126] := rfl
theorem kb_160_125 : ex_blk 160 125 = [.sipush (-1), .jsr 126] := rfl
theorem kb_160_126 : ex_blk 160 126 = [.ireturn] := rfl
theorem kb_160_127 : ex_blk 160 127 = [.aload 0, .sipush 0, .iload 2, .invokevirtual 1258, .ifCond .eq 140, .sipush 4, .goto 151] := rfl
theorem kb_160_140 : ex_blk 160 140 = [.iload 2, .sipush 45, .if_icmp .ne 150, .sipush 5, .goto 151] := rfl
theorem kb_160_150 : ex_blk 160 150 = [.sipush (-1), .jsr 151] := rfl
theorem kb_160_151 : ex_blk 160 151 = [.ireturn] := rfl
theorem kb_160_152 : ex_blk 160 152 = [.iload 2, .sipush 45, .if_icmp .ne 162, .sipush 5, .goto 163] := rfl
theorem kb_160_162 : ex_blk 160 162 = [.sipush (-1), .jsr 163] := rfl
theorem kb_160_163 : ex_blk 160 163 = [.ireturn] := rfl
theorem kb_160_164 : ex_blk 160 164 = [.aload 0, .iload 2, .sipush 48, .isub, .putfield 751, .iload 2, .invokestatic 1209, .ifCond .eq 184, .sipush 6, .goto 185] := rfl
theorem kb_160_184 : ex_blk 160 184 = [.sipush (-1), .jsr 185] := rfl
theorem kb_160_185 : ex_blk 160 185 = [.ireturn] := rfl
theorem kb_160_186 : ex_blk 160 186 = [.aload 0, .sipush 1, .iload 2, .invokevirtual 1258, .ifCond .eq 200, .sipush 7, .goto 205] := rfl
theorem kb_160_200 : ex_blk 160 200 = [.aload 0, .iload 2, .invokevirtual 1273, .jsr 205] := rfl
theorem kb_160_205 : ex_blk 160 205 = [.ireturn] := rfl
theorem kb_160_206 : ex_blk 160 206 = [.aload 0, .iload 2, .invokevirtual 1273, .ireturn] := rfl
theorem kb_160_212 : ex_blk 160 212 = [.sipush (-1), .ireturn] := rfl
theorem kb_161_0 : ex_blk 161 0 = [.aload 0, .sipush 0, .putfield 752, .sipush 0, .istore 1, .sipush 0, .istore 2, .sipush 1, .istore 3, .jsr 11] := rfl
theorem kb_161_11 : ex_blk 161 11 = [.iload 2, .aload 0, .getfield 728, .if_icmp .ge 74, .iload 3, .ifCond .eq 74, .aload 0, .iload 1, .aload 0, .getfield 729, .iload 2, .baload, .invokevirtual 1282, .istore 4, .iload 4, .sipush (-1), .if_icmp .eq 46, .sipush 1, .goto 47] := rfl
theorem kb_161_46 : ex_blk 161 46 = [.sipush 0, .jsr 47] := rfl
theorem kb_161_47 : ex_blk 161 47 = [.istore 3, .iload 3, .ifCond .eq 57, .iload 4, .goto 58] := rfl
theorem kb_161_57 : ex_blk 161 57 = [.iload 1, .jsr 58] := rfl
theorem kb_161_58 : ex_blk 161 58 = [.istore 1, .iload 2, .iload 3, .ifCond .eq 68, .sipush 1, .goto 69] := rfl
theorem kb_161_68 : ex_blk 161 68 = [.sipush 0, .jsr 69] := rfl
theorem kb_161_69 : ex_blk 161 69 = [.iadd, .istore 2, .goto 11] := rfl
theorem kb_161_74 : ex_blk 161 74 = [.aload 0, .iload 2, .putfield 740, .aload 0, .iload 2, .aload 0, .getfield 728, .if_icmp .ne 97, .iload 1, .sipush 5, .if_icmp .le 97, .sipush 1, .goto 98] := rfl
theorem kb_161_97 : ex_blk 161 97 = [.sipush 0, .jsr 98] := rfl
theorem kb_161_98 : ex_blk 161 98 = [.putfield 741, .return_] := rfl
theorem kb_162_0 : ex_blk 162 0 = [.iload 1, .sipush 0, .sipush 1, .invokestatic 1187, .ifCond .ne 12, .sipush (-102), .ireturn] := rfl
theorem kb_162_12 : ex_blk 162 12 = [.iload 1, .ifCond .ne 23, .aload 0, .invokevirtual 1232, .goto 27] := rfl
theorem kb_162_23 : ex_blk 162 23 = [.aload 0, .invokevirtual 1288, .jsr 27] := rfl
theorem kb_162_27 : ex_blk 162 27 = [.aload 0, .getfield 740, .ireturn] := rfl
theorem kb_163_0 : ex_blk 163 0 = [.aload 0, .invokevirtual 1232, .aload 0, .getfield 741, .ifCond .ne 14, .sipush (-103), .ireturn] := rfl
theorem kb_163_14 : ex_blk 163 14 = [.aload 0, .aload 0, .getfield 742, .sipush 1, .iadd, .putfield 704, .aload 0, .aload 0, .getfield 743, .putfield 705, .sipush 0, .istore 1, .jsr 34] := rfl
theorem kb_163_34 : ex_blk 163 34 = [.iload 1, .aload 0, .getfield 704, .aload 0, .getfield 705, .imul, .if_icmp .ge 65, .aload 0, .getfield 707, .iload 1, .aload 0, .getfield 746, .iload 1, .iaload, .iastore, .iinc 1 1, .goto 34] := rfl
theorem kb_163_65 : ex_blk 163 65 = [.sipush 0, .istore 1, .jsr 67] := rfl
theorem kb_163_67 : ex_blk 163 67 = [.iload 1, .aload 0, .getfield 704, .if_icmp .ge 93, .aload 0, .getfield 708, .iload 1, .aload 0, .getfield 747, .iload 1, .iaload, .iastore, .iinc 1 1, .goto 67] := rfl
theorem kb_163_93 : ex_blk 163 93 = [.aload 0, .dup, .getfield 706, .sipush 1, .iadd, .putfield 706, .aload 0, .sipush 0, .putfield 717, .aload 0, .sipush 0, .putfield 715, .aload 0, .sipush 0, .putfield 721, .aload 0, .sipush 0, .putfield 724, .aload 0, .sipush 0, .putfield 753, .aload 0, .sipush 0, .putfield 728, .aload 0, .getfield 704, .aload 0, .getfield 705, .imul, .ireturn] := rfl
theorem kb_164_0 : ex_blk 164 0 = [.aload 0, .invokevirtual 1288, .aload 0, .getfield 741, .ifCond .ne 14, .sipush (-103), .ireturn] := rfl
theorem kb_164_14 : ex_blk 164 14 = [.aload 0, .getfield 709, .sipush 8, .if_icmp .ne 26, .sipush (-104), .ireturn] := rfl
theorem kb_164_26 : ex_blk 164 26 = [.aload 0, .getfield 710, .aload 0, .getfield 709, .aload 0, .getfield 748, .iastore, .aload 0, .getfield 711, .aload 0, .getfield 709, .aload 0, .getfield 749, .iastore, .aload 0, .getfield 712, .aload 0, .getfield 709, .aload 0, .getfield 750, .iastore, .aload 0, .getfield 713, .aload 0, .getfield 709, .aload 0, .getfield 751, .iastore, .aload 0, .getfield 714, .aload 0, .getfield 709, .aload 0, .getfield 752, .iastore, .aload 0, .dup, .getfield 709, .sipush 1, .iadd, .putfield 709, .aload 0, .sipush 0, .putfield 728, .aload 0, .getfield 709, .sipush 1, .isub, .ireturn] := rfl
theorem kb_165_0 : ex_blk 165 0 = [.iload 2, .tableswitch 60 0 3 #[32, 39, 46, 53]] := rfl
theorem kb_165_32 : ex_blk 165 32 = [.aload 0, .getfield 710, .iload 1, .iaload, .ireturn] := rfl
theorem kb_165_39 : ex_blk 165 39 = [.aload 0, .getfield 711, .iload 1, .iaload, .ireturn] := rfl
theorem kb_165_46 : ex_blk 165 46 = [.aload 0, .getfield 712, .iload 1, .iaload, .ireturn] := rfl
theorem kb_165_53 : ex_blk 165 53 = [.aload 0, .getfield 713, .iload 1, .iaload, .ireturn] := rfl
theorem kb_165_60 : ex_blk 165 60 = [.aload 0, .getfield 714, .iload 1, .iaload, .ireturn] := rfl
theorem kb_166_0 : ex_blk 166 0 = [.iload 1, .sipush 0, .aload 0, .getfield 709, .sipush 1, .isub, .invokestatic 1187, .areturn] := rfl
theorem kb_167_0 : ex_blk 167 0 = [.aload 0, .iload 1, .invokevirtual 1329, .ifCond .ne 13, .sipush (-101), .goto 33] := rfl
theorem kb_167_13 : ex_blk 167 13 = [.iload 2, .sipush 0, .sipush 4, .invokestatic 1187, .ifCond .eq 31, .aload 0, .iload 1, .iload 2, .invokevirtual 1322, .goto 33] := rfl
theorem kb_167_31 : ex_blk 167 31 = [.sipush (-102), .jsr 33] := rfl
theorem kb_167_33 : ex_blk 167 33 = [.ireturn] := rfl
theorem kb_168_0 : ex_blk 168 0 = [.aload 0, .iload 1, .invokevirtual 1329, .ifCond .ne 11, .sipush (-101), .ireturn] := rfl
theorem kb_168_11 : ex_blk 168 11 = [.iload 2, .sipush 0, .sipush 4, .invokestatic 1187, .ifCond .ne 23, .sipush (-102), .ireturn] := rfl
theorem kb_168_23 : ex_blk 168 23 = [.aload 0, .getfield 714, .iload 1, .iaload, .istore 3, .iload 2, .ifCond .eq 49, .iload 3, .iload 2, .if_icmp .eq 49, .iload 2, .sipush 1, .if_icmp .ne 53, .iload 3, .sipush 3, .if_icmp .ne 53, .jsr 49] := rfl
theorem kb_168_49 : ex_blk 168 49 = [.iload 1, .goto 54] := rfl
theorem kb_168_53 : ex_blk 168 53 = [.sipush (-1), .jsr 54] := rfl
theorem kb_168_54 : ex_blk 168 54 = [.ireturn] := rfl
theorem kb_169_0 : ex_blk 169 0 = [.aload 0, .getfield 704, .aload 0, .getfield 705, .imul, .ireturn] := rfl
theorem kb_170_0 : ex_blk 170 0 = [.iload 1, .sipush 0, .aload 0, .invokevirtual 1352, .sipush 1, .isub, .invokestatic 1187, .areturn] := rfl
theorem kb_171_0 : ex_blk 171 0 = [.aload 0, .iload 1, .invokevirtual 1361, .ifCond .eq 22, .aload 0, .getfield 707, .iload 1, .iaload, .sipush 1, .if_icmp .eq 22, .sipush 1, .goto 23] := rfl
theorem kb_171_22 : ex_blk 171 22 = [.sipush 0, .jsr 23] := rfl
theorem kb_171_23 : ex_blk 171 23 = [.areturn] := rfl
theorem kb_172_0 : ex_blk 172 0 = [.aload 0, .getfield 708, .iload 1, .aload 0, .getfield 705, .idiv, .iaload, .aload 0, .getfield 753, .iadd, .istore 2, .iload 2, .ifCond .ge 25, .sipush 0, .goto 41] := rfl
theorem kb_172_25 : ex_blk 172 25 = [.iload 2, .aload 0, .getfield 705, .if_icmp .le 40, .aload 0, .getfield 705, .goto 41] := rfl
theorem kb_172_40 : ex_blk 172 40 = [.iload 2, .jsr 41] := rfl
theorem kb_172_41 : ex_blk 172 41 = [.istore 2, .iload 1, .aload 0, .getfield 705, .irem, .iload 2, .if_icmp .ge 56, .sipush 0, .goto 57] := rfl
theorem kb_172_56 : ex_blk 172 56 = [.sipush 1, .jsr 57] := rfl
theorem kb_172_57 : ex_blk 172 57 = [.ireturn] := rfl
theorem kb_173_0 : ex_blk 173 0 = [.iload 1, .aload 0, .getfield 705, .idiv, .iload 2, .ifCond .ne 14, .sipush (-1), .goto 24] := rfl
theorem kb_173_14 : ex_blk 173 14 = [.iload 2, .sipush 2, .if_icmp .ne 23, .sipush 1, .goto 24] := rfl
theorem kb_173_23 : ex_blk 173 23 = [.sipush 0, .jsr 24] := rfl
theorem kb_173_24 : ex_blk 173 24 = [.iadd, .istore 3, .iload 1, .aload 0, .getfield 705, .irem, .iload 2, .sipush 1, .if_icmp .ne 41, .sipush 1, .goto 51] := rfl
theorem kb_173_41 : ex_blk 173 41 = [.iload 2, .sipush 3, .if_icmp .ne 50, .sipush (-1), .goto 51] := rfl
theorem kb_173_50 : ex_blk 173 50 = [.sipush 0, .jsr 51] := rfl
theorem kb_173_51 : ex_blk 173 51 = [.iadd, .istore 4, .iload 3, .sipush 0, .aload 0, .getfield 704, .sipush 1, .isub, .invokestatic 1187, .ifCond .eq 95, .iload 4, .sipush 0, .aload 0, .getfield 705, .sipush 1, .isub, .invokestatic 1187, .ifCond .eq 95, .iload 3, .aload 0, .getfield 705, .imul, .iload 4, .iadd, .goto 96] := rfl
theorem kb_173_95 : ex_blk 173 95 = [.sipush (-1), .jsr 96] := rfl
theorem kb_173_96 : ex_blk 173 96 = [.ireturn] := rfl
theorem kb_174_0 : ex_blk 174 0 = [.aload 0, .iload 1, .iload 2, .invokevirtual 1386, .istore 3, .iload 3, .sipush (-1), .if_icmp .eq 22, .aload 0, .getfield 707, .iload 3, .iaload, .sipush 1, .if_icmp .ne 26, .jsr 22] := rfl
theorem kb_174_22 : ex_blk 174 22 = [.iload 1, .goto 27] := rfl
theorem kb_174_26 : ex_blk 174 26 = [.iload 3, .jsr 27] := rfl
theorem kb_174_27 : ex_blk 174 27 = [.ireturn] := rfl
theorem kb_175_0 : ex_blk 175 0 = [.aload 0, .getfield 718, .iload 1, .iaload, .sipush 1, .if_icmp .ne 29, .aload 0, .aload 0, .getfield 719, .iload 1, .iaload, .aload 0, .getfield 720, .iload 1, .iaload, .invokevirtual 1394, .goto 35] := rfl
theorem kb_175_29 : ex_blk 175 29 = [.aload 0, .getfield 719, .iload 1, .iaload, .jsr 35] := rfl
theorem kb_175_35 : ex_blk 175 35 = [.ireturn] := rfl
theorem kb_176_0 : ex_blk 176 0 = [.sipush 0, .istore 2, .jsr 2] := rfl
theorem kb_176_2 : ex_blk 176 2 = [.iload 2, .aload 0, .getfield 717, .if_icmp .ge 37, .aload 0, .getfield 719, .iload 2, .iaload, .iload 1, .if_icmp .eq 29, .aload 0, .iload 2, .invokevirtual 1401, .iload 1, .if_icmp .ne 31, .jsr 29] := rfl
theorem kb_176_29 : ex_blk 176 29 = [.iload 2, .ireturn] := rfl
theorem kb_176_31 : ex_blk 176 31 = [.iinc 2 1, .goto 2] := rfl
theorem kb_176_37 : ex_blk 176 37 = [.sipush (-1), .ireturn] := rfl
theorem kb_177_0 : ex_blk 177 0 = [.sipush 0, .istore 3, .jsr 2] := rfl
theorem kb_177_2 : ex_blk 177 2 = [.iload 3, .sipush 24, .if_icmp .ge 22, .aload 0, .getfield 754, .iload 3, .sipush 268435456, .iastore, .iinc 3 1, .goto 2] := rfl
theorem kb_177_22 : ex_blk 177 22 = [.aload 0, .getfield 754, .iload 1, .sipush 0, .iastore, .aload 0, .getfield 755, .sipush 0, .iload 1, .iastore, .sipush 1, .istore 3, .sipush 0, .istore 4, .jsr 41] := rfl
theorem kb_177_41 : ex_blk 177 41 = [.iload 4, .iload 3, .if_icmp .ge 175, .aload 0, .getfield 755, .iload 4, .iaload, .istore 5, .iload 2, .ifCond .eq 76, .iload 5, .iload 1, .if_icmp .eq 76, .aload 0, .iload 5, .invokevirtual 1409, .sipush (-1), .if_icmp .ne 80, .jsr 76] := rfl
theorem kb_177_76 : ex_blk 177 76 = [.sipush 1, .goto 81] := rfl
theorem kb_177_80 : ex_blk 177 80 = [.sipush 0, .jsr 81] := rfl
theorem kb_177_81 : ex_blk 177 81 = [.istore 6, .sipush 0, .istore 7, .jsr 86] := rfl
theorem kb_177_86 : ex_blk 177 86 = [.iload 7, .sipush 4, .if_icmp .ge 169, .iload 6, .ifCond .eq 169, .aload 0, .iload 5, .iload 7, .invokevirtual 1386, .istore 8, .iload 8, .sipush (-1), .if_icmp .eq 163, .aload 0, .getfield 707, .iload 8, .iaload, .sipush 1, .if_icmp .eq 163, .aload 0, .getfield 754, .iload 8, .iaload, .sipush 268435456, .if_icmp .ne 163, .aload 0, .getfield 754, .iload 8, .aload 0, .getfield 754, .iload 5, .iaload, .sipush 1, .iadd, .iastore, .aload 0, .getfield 755, .iload 3, .iload 8, .iastore, .iinc 3 1, .jsr 163] := rfl
theorem kb_177_163 : ex_blk 177 163 = [.iinc 7 1, .goto 86] := rfl
theorem kb_177_169 : ex_blk 177 169 = [.iinc 4 1, .goto 41] := rfl
theorem kb_177_175 : ex_blk 177 175 = [.return_] := rfl
theorem kb_178_0 : ex_blk 178 0 = [.sipush (-1), .istore 2, .aload 0, .getfield 707, .iload 1, .iaload, .sipush 1, .if_icmp .ne 14, .sipush (-1), .ireturn] := rfl
theorem kb_178_14 : ex_blk 178 14 = [.aload 0, .iload 1, .sipush 0, .invokevirtual 1418, .sipush 0, .istore 3, .jsr 22] := rfl
theorem kb_178_22 : ex_blk 178 22 = [.iload 3, .aload 0, .invokevirtual 1352, .if_icmp .ge 79, .aload 0, .getfield 707, .iload 3, .iaload, .sipush 2, .if_icmp .ne 73, .aload 0, .getfield 754, .iload 3, .iaload, .sipush 268435456, .if_icmp .ge 73, .iload 2, .sipush (-1), .if_icmp .eq 71, .aload 0, .getfield 754, .iload 3, .iaload, .aload 0, .getfield 754, .iload 2, .iaload, .if_icmp .ge 73, .jsr 71] := rfl
theorem kb_178_71 : ex_blk 178 71 = [.iload 3, .istore 2, .jsr 73] := rfl
theorem kb_178_73 : ex_blk 178 73 = [.iinc 3 1, .goto 22] := rfl
theorem kb_178_79 : ex_blk 178 79 = [.iload 2, .ireturn] := rfl
theorem kb_179_0 : ex_blk 179 0 = [.iload 2, .tableswitch 47 0 2 #[28, 35, 41]] := rfl
theorem kb_179_28 : ex_blk 179 28 = [.aload 0, .getfield 707, .iload 1, .iaload, .ireturn] := rfl
theorem kb_179_35 : ex_blk 179 35 = [.aload 0, .iload 1, .invokevirtual 1377, .ireturn] := rfl
theorem kb_179_41 : ex_blk 179 41 = [.aload 0, .iload 1, .invokevirtual 1409, .ireturn] := rfl
theorem kb_179_47 : ex_blk 179 47 = [.aload 0, .iload 1, .invokevirtual 1425, .ireturn] := rfl
theorem kb_180_0 : ex_blk 180 0 = [.aload 0, .iload 1, .invokevirtual 1361, .ifCond .ne 13, .sipush (-101), .goto 33] := rfl
theorem kb_180_13 : ex_blk 180 13 = [.iload 2, .sipush 0, .sipush 3, .invokestatic 1187, .ifCond .eq 31, .aload 0, .iload 1, .iload 2, .invokevirtual 1434, .goto 33] := rfl
theorem kb_180_31 : ex_blk 180 31 = [.sipush (-102), .jsr 33] := rfl
theorem kb_180_33 : ex_blk 180 33 = [.ireturn] := rfl
theorem kb_181_0 : ex_blk 181 0 = [.iload 4, .sipush 1, .if_icmp .ne 10, .iload 1, .ifCond .eq 32, .jsr 10] := rfl
theorem kb_181_10 : ex_blk 181 10 = [.iload 4, .sipush 1, .if_icmp .le 21, .iload 1, .sipush 1, .if_icmp .eq 32, .jsr 21] := rfl
theorem kb_181_21 : ex_blk 181 21 = [.iload 4, .sipush 3, .if_icmp .ne 36, .iload 1, .sipush 2, .if_icmp .ne 36, .jsr 32] := rfl
theorem kb_181_32 : ex_blk 181 32 = [.sipush 1, .goto 37] := rfl
theorem kb_181_36 : ex_blk 181 36 = [.sipush 0, .jsr 37] := rfl
theorem kb_181_37 : ex_blk 181 37 = [.istore 5, .iload 5, .ifCond .eq 53, .aload 0, .iload 2, .iload 3, .invokevirtual 1394, .goto 54] := rfl
theorem kb_181_53 : ex_blk 181 53 = [.iload 2, .jsr 54] := rfl
theorem kb_181_54 : ex_blk 181 54 = [.ireturn] := rfl
theorem kb_182_0 : ex_blk 182 0 = [.iload 0, .sipush 0, .sipush 2, .invokestatic 1187, .ifCond .eq 22, .iload 1, .sipush 0, .sipush 3, .invokestatic 1187, .ifCond .eq 22, .sipush 1, .goto 23] := rfl
theorem kb_182_22 : ex_blk 182 22 = [.sipush 0, .jsr 23] := rfl
theorem kb_182_23 : ex_blk 182 23 = [.areturn] := rfl
theorem kb_183_0 : ex_blk 183 0 = [.aload 0, .iload 2, .invokevirtual 1369, .ifCond .ne 11, .sipush (-101), .ireturn] := rfl
theorem kb_183_11 : ex_blk 183 11 = [.iload 1, .iload 3, .invokestatic 1458, .ifCond .eq 41, .iload 4, .sipush 0, .sipush 3, .invokestatic 1187, .ifCond .eq 41, .aload 0, .iload 1, .iload 2, .iload 3, .iload 4, .invokevirtual 1452, .goto 43] := rfl
theorem kb_183_41 : ex_blk 183 41 = [.sipush (-102), .jsr 43] := rfl
theorem kb_183_43 : ex_blk 183 43 = [.ireturn] := rfl
theorem kb_184_0 : ex_blk 184 0 = [.aload 0, .getfield 712, .iload 1, .iaload, .aload 0, .getfield 713, .iload 1, .iaload, .if_icmp .ne 17, .sipush 1, .areturn] := rfl
theorem kb_184_17 : ex_blk 184 17 = [.iload 2, .aload 0, .getfield 712, .iload 1, .iaload, .if_icmp .lt 31, .sipush 1, .goto 32] := rfl
theorem kb_184_31 : ex_blk 184 31 = [.sipush 0, .jsr 32] := rfl
theorem kb_184_32 : ex_blk 184 32 = [.istore 3, .iload 2, .aload 0, .getfield 713, .iload 1, .iaload, .if_icmp .ge 47, .sipush 1, .goto 48] := rfl
theorem kb_184_47 : ex_blk 184 47 = [.sipush 0, .jsr 48] := rfl
theorem kb_184_48 : ex_blk 184 48 = [.istore 4, .aload 0, .getfield 712, .iload 1, .iaload, .aload 0, .getfield 713, .iload 1, .iaload, .if_icmp .ge 82, .iload 3, .ifCond .eq 78, .iload 4, .ifCond .eq 78, .sipush 1, .goto 96] := rfl
theorem kb_184_78 : ex_blk 184 78 = [.sipush 0, .goto 96] := rfl
theorem kb_184_82 : ex_blk 184 82 = [.iload 3, .ifCond .ne 91, .iload 4, .ifCond .eq 95, .jsr 91] := rfl
theorem kb_184_91 : ex_blk 184 91 = [.sipush 1, .goto 96] := rfl
theorem kb_184_95 : ex_blk 184 95 = [.sipush 0, .jsr 96] := rfl
theorem kb_184_96 : ex_blk 184 96 = [.areturn] := rfl
theorem kb_185_0 : ex_blk 185 0 = [.aload 0, .getfield 710, .iload 1, .iaload, .istore 5, .aload 0, .getfield 714, .iload 1, .iaload, .tableswitch 170 1 4 #[44, 60, 84, 136]] := rfl
theorem kb_185_44 : ex_blk 185 44 = [.aload 0, .iload 3, .invokevirtual 1377, .iload 5, .if_icmp .ne 58, .sipush 1, .goto 59] := rfl
theorem kb_185_58 : ex_blk 185 58 = [.sipush 0, .jsr 59] := rfl
theorem kb_185_59 : ex_blk 185 59 = [.areturn] := rfl
theorem kb_185_60 : ex_blk 185 60 = [.aload 0, .aload 0, .iload 2, .iload 3, .iload 4, .sipush 1, .invokevirtual 1452, .invokevirtual 1377, .iload 5, .if_icmp .ne 82, .sipush 1, .goto 83] := rfl
theorem kb_185_82 : ex_blk 185 82 = [.sipush 0, .jsr 83] := rfl
theorem kb_185_83 : ex_blk 185 83 = [.areturn] := rfl
theorem kb_185_84 : ex_blk 185 84 = [.aload 0, .iload 3, .invokevirtual 1377, .iload 5, .if_icmp .ne 134, .aload 0, .aload 0, .iload 2, .iload 3, .iload 4, .sipush 2, .invokevirtual 1452, .invokevirtual 1377, .iload 5, .if_icmp .ne 134, .aload 0, .aload 0, .iload 2, .iload 3, .iload 4, .sipush 3, .invokevirtual 1452, .invokevirtual 1377, .iload 5, .if_icmp .ne 134, .sipush 1, .goto 135] := rfl
theorem kb_185_134 : ex_blk 185 134 = [.sipush 0, .jsr 135] := rfl
theorem kb_185_135 : ex_blk 185 135 = [.areturn] := rfl
theorem kb_185_136 : ex_blk 185 136 = [.aload 0, .iload 3, .invokevirtual 1425, .istore 6, .aload 0, .iload 6, .sipush (-1), .if_icmp .ne 154, .iload 3, .goto 156] := rfl
theorem kb_185_154 : ex_blk 185 154 = [.iload 6, .jsr 156] := rfl
theorem kb_185_156 : ex_blk 185 156 = [.invokevirtual 1377, .iload 5, .if_icmp .ne 168, .sipush 1, .goto 169] := rfl
theorem kb_185_168 : ex_blk 185 168 = [.sipush 0, .jsr 169] := rfl
theorem kb_185_169 : ex_blk 185 169 = [.areturn] := rfl
theorem kb_185_170 : ex_blk 185 170 = [.sipush 1, .areturn] := rfl
theorem kb_186_0 : ex_blk 186 0 = [.sipush 0, .istore 6, .sipush 0, .istore 7, .jsr 6] := rfl
theorem kb_186_6 : ex_blk 186 6 = [.iload 7, .aload 0, .getfield 709, .if_icmp .ge 81, .aload 0, .getfield 711, .iload 7, .iaload, .iload 1, .if_icmp .ne 54, .aload 0, .iload 7, .iload 2, .invokevirtual 1474, .ifCond .eq 54, .aload 0, .iload 7, .iload 3, .iload 4, .iload 5, .invokevirtual 1484, .ifCond .eq 54, .sipush 1, .goto 55] := rfl
theorem kb_186_54 : ex_blk 186 54 = [.sipush 0, .jsr 55] := rfl
theorem kb_186_55 : ex_blk 186 55 = [.istore 8, .iload 6, .iload 8, .ifCond .eq 71, .sipush 1, .iload 7, .ishl, .goto 72] := rfl
theorem kb_186_71 : ex_blk 186 71 = [.sipush 0, .jsr 72] := rfl
theorem kb_186_72 : ex_blk 186 72 = [.ior, .istore 6, .iinc 7 1, .goto 6] := rfl
theorem kb_186_81 : ex_blk 186 81 = [.iload 6, .ireturn] := rfl
theorem kb_187_0 : ex_blk 187 0 = [.iload 0, .sipush 0, .sipush 5, .invokestatic 1187, .ifCond .eq 23, .iload 1, .sipush 0, .sipush 23, .invokestatic 1187, .ifCond .eq 23, .sipush 1, .goto 24] := rfl
theorem kb_187_23 : ex_blk 187 23 = [.sipush 0, .jsr 24] := rfl
theorem kb_187_24 : ex_blk 187 24 = [.areturn] := rfl
theorem kb_188_0 : ex_blk 188 0 = [.aload 0, .iload 4, .invokevirtual 1369, .ifCond .ne 12, .sipush (-101), .ireturn] := rfl
theorem kb_188_12 : ex_blk 188 12 = [.iload 1, .iload 2, .invokestatic 1498, .ifCond .eq 43, .iload 3, .iload 5, .invokestatic 1458, .ifCond .eq 43, .aload 0, .iload 1, .iload 2, .iload 3, .iload 4, .iload 5, .invokevirtual 1493, .goto 45] := rfl
theorem kb_188_43 : ex_blk 188 43 = [.sipush (-102), .jsr 45] := rfl
theorem kb_188_45 : ex_blk 188 45 = [.ireturn] := rfl
theorem kb_189_0 : ex_blk 189 0 = [.aload 0, .iload 4, .invokevirtual 1369, .ifCond .ne 12, .sipush (-101), .ireturn] := rfl
theorem kb_189_12 : ex_blk 189 12 = [.iload 2, .iload 1, .invokestatic 1498, .ifCond .eq 29, .iload 3, .iload 5, .invokestatic 1458, .ifCond .ne 32, .jsr 29] := rfl
theorem kb_189_29 : ex_blk 189 29 = [.sipush (-102), .ireturn] := rfl
theorem kb_189_32 : ex_blk 189 32 = [.aload 0, .getfield 715, .sipush 12, .if_icmp .ne 44, .sipush (-104), .ireturn] := rfl
theorem kb_189_44 : ex_blk 189 44 = [.aload 0, .getfield 716, .sipush 5, .aload 0, .getfield 715, .imul, .iload 1, .iastore, .aload 0, .getfield 716, .sipush 5, .aload 0, .getfield 715, .imul, .sipush 1, .iadd, .iload 2, .iastore, .aload 0, .getfield 716, .sipush 5, .aload 0, .getfield 715, .imul, .sipush 2, .iadd, .iload 3, .iastore, .aload 0, .getfield 716, .sipush 5, .aload 0, .getfield 715, .imul, .sipush 3, .iadd, .iload 4, .iastore, .aload 0, .getfield 716, .sipush 5, .aload 0, .getfield 715, .imul, .sipush 4, .iadd, .iload 5, .iastore, .aload 0, .dup, .getfield 715, .sipush 1, .iadd, .putfield 715, .aload 0, .getfield 715, .sipush 1, .isub, .ireturn] := rfl
theorem kb_190_0 : ex_blk 190 0 = [.aload 0, .aload 0, .getfield 716, .sipush 5, .iload 1, .imul, .sipush 1, .iadd, .iaload, .aload 0, .getfield 716, .sipush 5, .iload 1, .imul, .iaload, .aload 0, .getfield 716, .sipush 5, .iload 1, .imul, .sipush 2, .iadd, .iaload, .aload 0, .getfield 716, .sipush 5, .iload 1, .imul, .sipush 3, .iadd, .iaload, .aload 0, .getfield 716, .sipush 5, .iload 1, .imul, .sipush 4, .iadd, .iaload, .invokevirtual 1493, .ireturn] := rfl
theorem kb_191_0 : ex_blk 191 0 = [.sipush 0, .istore 1, .jsr 2] := rfl
theorem kb_191_2 : ex_blk 191 2 = [.iload 0, .iload 1, .ishr, .sipush 1, .iand, .ifCond .ne 16, .iinc 1 1, .goto 2] := rfl
theorem kb_191_16 : ex_blk 191 16 = [.iload 1, .ireturn] := rfl
theorem kb_192_0 : ex_blk 192 0 = [.iload 1, .sipush 0, .sipush 1, .invokestatic 1187, .ifCond .ne 12, .sipush (-102), .ireturn] := rfl
theorem kb_192_12 : ex_blk 192 12 = [.sipush (-1), .istore 2, .sipush 0, .istore 3, .jsr 16] := rfl
theorem kb_192_16 : ex_blk 192 16 = [.iload 3, .aload 0, .getfield 715, .if_icmp .ge 64, .aload 0, .iload 3, .invokevirtual 1521, .ifCond .eq 58, .iload 2, .sipush (-1), .if_icmp .eq 56, .aload 0, .getfield 716, .sipush 5, .iload 3, .imul, .iaload, .aload 0, .getfield 716, .sipush 5, .iload 2, .imul, .iaload, .if_icmp .ge 58, .jsr 56] := rfl
theorem kb_192_56 : ex_blk 192 56 = [.iload 3, .istore 2, .jsr 58] := rfl
theorem kb_192_58 : ex_blk 192 58 = [.iinc 3 1, .goto 16] := rfl
theorem kb_192_64 : ex_blk 192 64 = [.iload 2, .sipush (-1), .if_icmp .eq 73, .iload 1, .ifCond .ne 77, .jsr 73] := rfl
theorem kb_192_73 : ex_blk 192 73 = [.iload 2, .goto 85] := rfl
theorem kb_192_77 : ex_blk 192 77 = [.aload 0, .iload 2, .invokevirtual 1521, .invokestatic 1529, .jsr 85] := rfl
theorem kb_192_85 : ex_blk 192 85 = [.ireturn] := rfl
theorem kb_193_0 : ex_blk 193 0 = [.aload 0, .getfield 706, .ifCond .ne 10, .sipush (-103), .ireturn] := rfl
theorem kb_193_10 : ex_blk 193 10 = [.iload 1, .iload 2, .invokestatic 1498, .ifCond .eq 36, .iload 3, .sipush 0, .invokestatic 1458, .ifCond .eq 36, .iload 4, .sipush 0, .sipush 2, .invokestatic 1187, .ifCond .ne 39, .jsr 36] := rfl
theorem kb_193_36 : ex_blk 193 36 = [.sipush (-102), .ireturn] := rfl
theorem kb_193_39 : ex_blk 193 39 = [.sipush 0, .istore 5, .sipush 0, .istore 6, .jsr 45] := rfl
theorem kb_193_45 : ex_blk 193 45 = [.iload 6, .aload 0, .invokevirtual 1352, .if_icmp .ge 152, .aload 0, .getfield 707, .iload 6, .iaload, .sipush 1, .if_icmp .eq 146, .sipush 0, .istore 7, .sipush 0, .istore 8, .jsr 71] := rfl
theorem kb_193_71 : ex_blk 193 71 = [.iload 8, .sipush 4, .if_icmp .ge 107, .iload 7, .aload 0, .iload 1, .iload 2, .iload 3, .iload 6, .iload 8, .invokevirtual 1493, .ifCond .ne 97, .sipush 0, .goto 98] := rfl
theorem kb_193_97 : ex_blk 193 97 = [.sipush 1, .jsr 98] := rfl
theorem kb_193_98 : ex_blk 193 98 = [.iadd, .istore 7, .iinc 8 1, .goto 71] := rfl
theorem kb_193_107 : ex_blk 193 107 = [.iload 7, .ifCond .ne 116, .sipush 0, .goto 127] := rfl
theorem kb_193_116 : ex_blk 193 116 = [.iload 7, .sipush 4, .if_icmp .ne 126, .sipush 2, .goto 127] := rfl
theorem kb_193_126 : ex_blk 193 126 = [.sipush 1, .jsr 127] := rfl
theorem kb_193_127 : ex_blk 193 127 = [.istore 8, .iload 5, .iload 8, .iload 4, .if_icmp .ne 142, .sipush 1, .goto 143] := rfl
theorem kb_193_142 : ex_blk 193 142 = [.sipush 0, .jsr 143] := rfl
theorem kb_193_143 : ex_blk 193 143 = [.iadd, .istore 5, .jsr 146] := rfl
theorem kb_193_146 : ex_blk 193 146 = [.iinc 6 1, .goto 45] := rfl
theorem kb_193_152 : ex_blk 193 152 = [.iload 5, .ireturn] := rfl
theorem kb_194_0 : ex_blk 194 0 = [.aload 0, .iload 1, .invokevirtual 1361, .ifCond .eq 21, .aload 0, .getfield 707, .iload 1, .iaload, .ifCond .ne 21, .sipush 1, .goto 22] := rfl
theorem kb_194_21 : ex_blk 194 21 = [.sipush 0, .jsr 22] := rfl
theorem kb_194_22 : ex_blk 194 22 = [.areturn] := rfl
theorem kb_195_0 : ex_blk 195 0 = [.iload 1, .sipush 1, .if_icmp .ne 14, .aload 0, .iload 2, .iload 3, .invokevirtual 1386, .goto 15] := rfl
theorem kb_195_14 : ex_blk 195 14 = [.iload 2, .jsr 15] := rfl
theorem kb_195_15 : ex_blk 195 15 = [.istore 4, .iload 4, .sipush (-1), .if_icmp .eq 46, .aload 0, .getfield 707, .iload 2, .iaload, .ifCond .ne 46, .aload 0, .getfield 707, .iload 4, .iaload, .ifCond .ne 46, .sipush 1, .goto 47] := rfl
theorem kb_195_46 : ex_blk 195 46 = [.sipush 0, .jsr 47] := rfl
theorem kb_195_47 : ex_blk 195 47 = [.areturn] := rfl
theorem kb_196_0 : ex_blk 196 0 = [.aload 0, .iload 1, .invokevirtual 1401, .istore 3, .aload 0, .iload 2, .invokevirtual 1401, .istore 4, .aload 0, .getfield 719, .iload 1, .iaload, .aload 0, .getfield 719, .iload 2, .iaload, .if_icmp .eq 55, .aload 0, .getfield 719, .iload 1, .iaload, .iload 4, .if_icmp .eq 55, .iload 3, .aload 0, .getfield 719, .iload 2, .iaload, .if_icmp .eq 55, .iload 3, .iload 4, .if_icmp .ne 59, .jsr 55] := rfl
theorem kb_196_55 : ex_blk 196 55 = [.sipush 1, .goto 60] := rfl
theorem kb_196_59 : ex_blk 196 59 = [.sipush 0, .jsr 60] := rfl
theorem kb_196_60 : ex_blk 196 60 = [.areturn] := rfl
theorem kb_197_0 : ex_blk 197 0 = [.sipush 1, .istore 1, .sipush 0, .istore 2, .jsr 4] := rfl
theorem kb_197_4 : ex_blk 197 4 = [.iload 2, .aload 0, .getfield 717, .if_icmp .ge 85, .iload 1, .ifCond .eq 45, .aload 0, .aload 0, .getfield 718, .iload 2, .iaload, .aload 0, .getfield 719, .iload 2, .iaload, .aload 0, .getfield 720, .iload 2, .iaload, .invokevirtual 1563, .ifCond .eq 45, .sipush 1, .goto 46] := rfl
theorem kb_197_45 : ex_blk 197 45 = [.sipush 0, .jsr 46] := rfl
theorem kb_197_46 : ex_blk 197 46 = [.istore 1, .sipush 0, .istore 3, .jsr 49] := rfl
theorem kb_197_49 : ex_blk 197 49 = [.iload 3, .iload 2, .if_icmp .ge 79, .iload 1, .ifCond .eq 71, .aload 0, .iload 2, .iload 3, .invokevirtual 1570, .ifCond .ne 71, .sipush 1, .goto 72] := rfl
theorem kb_197_71 : ex_blk 197 71 = [.sipush 0, .jsr 72] := rfl
theorem kb_197_72 : ex_blk 197 72 = [.istore 1, .iinc 3 1, .goto 49] := rfl
theorem kb_197_79 : ex_blk 197 79 = [.iinc 2 1, .goto 4] := rfl
theorem kb_197_85 : ex_blk 197 85 = [.iload 1, .areturn] := rfl
theorem kb_198_0 : ex_blk 198 0 = [.aload 0, .getfield 718, .iload 1, .iload 2, .iastore, .aload 0, .getfield 719, .iload 1, .iload 3, .iastore, .aload 0, .getfield 720, .iload 1, .iload 4, .iastore, .return_] := rfl
theorem kb_199_0 : ex_blk 199 0 = [.iload 1, .sipush 0, .iload 0, .sipush 1, .if_icmp .ne 11, .sipush 3, .goto 12] := rfl
theorem kb_199_11 : ex_blk 199 11 = [.sipush 0, .jsr 12] := rfl
theorem kb_199_12 : ex_blk 199 12 = [.invokestatic 1187, .areturn] := rfl
theorem kb_200_0 : ex_blk 200 0 = [.iload 1, .sipush 0, .sipush 3, .invokestatic 1187, .ifCond .ne 12, .sipush (-102), .ireturn] := rfl
theorem kb_200_12 : ex_blk 200 12 = [.aload 0, .iload 2, .invokevirtual 1553, .ifCond .ne 23, .sipush (-101), .ireturn] := rfl
theorem kb_200_23 : ex_blk 200 23 = [.iload 1, .iload 3, .invokestatic 1594, .ifCond .ne 34, .sipush (-102), .ireturn] := rfl
theorem kb_200_34 : ex_blk 200 34 = [.aload 0, .getfield 717, .sipush 3, .if_icmp .ne 60, .aload 0, .iload 1, .iload 2, .iload 3, .invokevirtual 1611, .ifCond .eq 57, .sipush (-104), .goto 59] := rfl
theorem kb_200_57 : ex_blk 200 57 = [.sipush (-103), .jsr 59] := rfl
theorem kb_200_59 : ex_blk 200 59 = [.ireturn] := rfl
theorem kb_200_60 : ex_blk 200 60 = [.aload 0, .aload 0, .getfield 717, .iload 1, .iload 2, .iload 3, .invokevirtual 1588, .aload 0, .dup, .getfield 717, .sipush 1, .iadd, .putfield 717, .aload 0, .invokevirtual 1576, .ifCond .ne 101, .aload 0, .dup, .getfield 717, .sipush 1, .isub, .putfield 717, .sipush (-103), .ireturn] := rfl
theorem kb_200_101 : ex_blk 200 101 = [.aload 0, .getfield 717, .sipush 1, .isub, .ireturn] := rfl
theorem kb_201_0 : ex_blk 201 0 = [.aload 0, .iload 1, .iload 2, .iload 3, .invokevirtual 1563, .ifCond .ne 12, .sipush 0, .areturn] := rfl
theorem kb_201_12 : ex_blk 201 12 = [.iload 1, .sipush 1, .if_icmp .ne 26, .aload 0, .iload 2, .iload 3, .invokevirtual 1386, .goto 27] := rfl
theorem kb_201_26 : ex_blk 201 26 = [.iload 2, .jsr 27] := rfl
theorem kb_201_27 : ex_blk 201 27 = [.istore 4, .aload 0, .iload 2, .invokevirtual 1409, .sipush (-1), .if_icmp .ne 52, .aload 0, .iload 4, .invokevirtual 1409, .sipush (-1), .if_icmp .ne 52, .sipush 1, .goto 53] := rfl
theorem kb_201_52 : ex_blk 201 52 = [.sipush 0, .jsr 53] := rfl
theorem kb_201_53 : ex_blk 201 53 = [.areturn] := rfl
theorem kb_202_0 : ex_blk 202 0 = [.iload 1, .sipush 0, .aload 0, .getfield 717, .sipush 1, .isub, .invokestatic 1187, .areturn] := rfl
theorem kb_203_0 : ex_blk 203 0 = [.aload 0, .iload 1, .invokevirtual 1617, .ifCond .ne 11, .sipush (-101), .ireturn] := rfl
theorem kb_203_11 : ex_blk 203 11 = [.iload 2, .sipush 0, .sipush 3, .invokestatic 1187, .ifCond .ne 23, .sipush (-102), .ireturn] := rfl
theorem kb_203_23 : ex_blk 203 23 = [.aload 0, .getfield 718, .iload 1, .iaload, .istore 3, .iload 2, .ifCond .eq 49, .iload 3, .iload 2, .if_icmp .eq 49, .iload 2, .sipush 2, .if_icmp .ne 53, .iload 3, .sipush 3, .if_icmp .ne 53, .jsr 49] := rfl
theorem kb_203_49 : ex_blk 203 49 = [.iload 1, .goto 54] := rfl
theorem kb_203_53 : ex_blk 203 53 = [.sipush (-1), .jsr 54] := rfl
theorem kb_203_54 : ex_blk 203 54 = [.ireturn] := rfl
theorem kb_204_0 : ex_blk 204 0 = [.iload 2, .tableswitch 49 0 2 #[28, 35, 42]] := rfl
theorem kb_204_28 : ex_blk 204 28 = [.aload 0, .getfield 718, .iload 1, .iaload, .ireturn] := rfl
theorem kb_204_35 : ex_blk 204 35 = [.aload 0, .getfield 719, .iload 1, .iaload, .ireturn] := rfl
theorem kb_204_42 : ex_blk 204 42 = [.aload 0, .getfield 720, .iload 1, .iaload, .ireturn] := rfl
theorem kb_204_49 : ex_blk 204 49 = [.aload 0, .iload 1, .invokevirtual 1401, .ireturn] := rfl
theorem kb_205_0 : ex_blk 205 0 = [.aload 0, .iload 1, .invokevirtual 1617, .ifCond .ne 13, .sipush (-101), .goto 33] := rfl
theorem kb_205_13 : ex_blk 205 13 = [.iload 2, .sipush 0, .sipush 3, .invokestatic 1187, .ifCond .eq 31, .aload 0, .iload 1, .iload 2, .invokevirtual 1634, .goto 33] := rfl
theorem kb_205_31 : ex_blk 205 31 = [.sipush (-102), .jsr 33] := rfl
theorem kb_205_33 : ex_blk 205 33 = [.ireturn] := rfl
theorem kb_206_0 : ex_blk 206 0 = [.aload 0, .iload 1, .invokevirtual 1617, .ifCond .eq 16, .aload 0, .iload 2, .invokevirtual 1553, .ifCond .ne 19, .jsr 16] := rfl
theorem kb_206_16 : ex_blk 206 16 = [.sipush (-101), .ireturn] := rfl
theorem kb_206_19 : ex_blk 206 19 = [.aload 0, .getfield 718, .iload 1, .iaload, .iload 3, .invokestatic 1594, .ifCond .ne 35, .sipush (-102), .ireturn] := rfl
theorem kb_206_35 : ex_blk 206 35 = [.aload 0, .getfield 719, .iload 1, .iaload, .istore 4, .aload 0, .getfield 720, .iload 1, .iaload, .istore 5, .aload 0, .iload 1, .aload 0, .getfield 718, .iload 1, .iaload, .iload 2, .iload 3, .invokevirtual 1588, .aload 0, .invokevirtual 1576, .ifCond .ne 89, .aload 0, .iload 1, .aload 0, .getfield 718, .iload 1, .iaload, .iload 4, .iload 5, .invokevirtual 1588, .sipush (-103), .ireturn] := rfl
theorem kb_206_89 : ex_blk 206 89 = [.sipush 4, .iload 4, .imul, .iload 5, .iadd, .ireturn] := rfl
theorem kb_207_0 : ex_blk 207 0 = [.iload 1, .iload 2, .invokestatic 1498, .ifCond .ne 11, .sipush (-102), .ireturn] := rfl
theorem kb_207_11 : ex_blk 207 11 = [.aload 0, .getfield 721, .sipush 6, .if_icmp .ne 23, .sipush (-104), .ireturn] := rfl
theorem kb_207_23 : ex_blk 207 23 = [.aload 0, .getfield 722, .aload 0, .getfield 721, .iload 1, .iastore, .aload 0, .getfield 723, .aload 0, .getfield 721, .iload 2, .iastore, .aload 0, .dup, .getfield 721, .sipush 1, .iadd, .putfield 721, .aload 0, .getfield 721, .sipush 1, .isub, .ireturn] := rfl
theorem kb_208_0 : ex_blk 208 0 = [.sipush 0, .istore 3, .sipush 0, .istore 4, .jsr 5] := rfl
theorem kb_208_5 : ex_blk 208 5 = [.iload 4, .aload 0, .getfield 717, .if_icmp .ge 65, .iload 3, .ifCond .ne 53, .aload 0, .getfield 718, .iload 4, .iaload, .sipush 1, .if_icmp .ne 57, .aload 0, .iload 1, .iload 2, .sipush 1, .aload 0, .getfield 719, .iload 4, .iaload, .aload 0, .getfield 720, .iload 4, .iaload, .invokevirtual 1493, .ifCond .ne 57, .jsr 53] := rfl
theorem kb_208_53 : ex_blk 208 53 = [.sipush 1, .goto 58] := rfl
theorem kb_208_57 : ex_blk 208 57 = [.sipush 0, .jsr 58] := rfl
theorem kb_208_58 : ex_blk 208 58 = [.istore 3, .iinc 4 1, .goto 5] := rfl
theorem kb_208_65 : ex_blk 208 65 = [.iload 3, .areturn] := rfl
theorem kb_209_0 : ex_blk 209 0 = [.sipush 0, .istore 3, .sipush 0, .istore 4, .jsr 5] := rfl
theorem kb_209_5 : ex_blk 209 5 = [.iload 4, .aload 0, .invokevirtual 1352, .if_icmp .ge 153, .aload 0, .getfield 707, .iload 4, .iaload, .sipush 1, .if_icmp .eq 147, .aload 0, .iload 4, .invokevirtual 1409, .sipush (-1), .if_icmp .ne 147, .sipush 0, .istore 5, .jsr 38] := rfl
theorem kb_209_38 : ex_blk 209 38 = [.iload 5, .sipush 4, .if_icmp .ge 147, .iload 3, .ifCond .ne 147, .aload 0, .iload 4, .iload 5, .invokevirtual 1386, .istore 6, .iload 6, .sipush (-1), .if_icmp .ne 68, .sipush (-1), .goto 74] := rfl
theorem kb_209_68 : ex_blk 209 68 = [.aload 0, .iload 6, .invokevirtual 1409, .jsr 74] := rfl
theorem kb_209_74 : ex_blk 209 74 = [.istore 7, .iload 7, .sipush (-1), .if_icmp .eq 113, .aload 0, .getfield 718, .iload 7, .iaload, .sipush 3, .if_icmp .eq 109, .iload 1, .sipush 1, .if_icmp .ne 113, .aload 0, .getfield 718, .iload 7, .iaload, .sipush 2, .if_icmp .ne 113, .jsr 109] := rfl
theorem kb_209_109 : ex_blk 209 109 = [.sipush 1, .goto 114] := rfl
theorem kb_209_113 : ex_blk 209 113 = [.sipush 0, .jsr 114] := rfl
theorem kb_209_114 : ex_blk 209 114 = [.istore 8, .iload 8, .ifCond .eq 139, .aload 0, .iload 1, .iload 2, .sipush 0, .iload 4, .iload 5, .invokevirtual 1493, .ifCond .ne 139, .sipush 1, .goto 140] := rfl
theorem kb_209_139 : ex_blk 209 139 = [.sipush 0, .jsr 140] := rfl
theorem kb_209_140 : ex_blk 209 140 = [.istore 3, .iinc 5 1, .goto 38] := rfl
theorem kb_209_147 : ex_blk 209 147 = [.iinc 4 1, .goto 5] := rfl
theorem kb_209_153 : ex_blk 209 153 = [.iload 3, .areturn] := rfl
theorem kb_210_0 : ex_blk 210 0 = [.sipush 0, .istore 3, .sipush 0, .istore 4, .jsr 5] := rfl
theorem kb_210_5 : ex_blk 210 5 = [.iload 4, .aload 0, .invokevirtual 1352, .if_icmp .ge 89, .aload 0, .getfield 707, .iload 4, .iaload, .sipush 1, .if_icmp .eq 83, .aload 0, .iload 4, .invokevirtual 1409, .sipush (-1), .if_icmp .ne 83, .sipush 0, .istore 5, .jsr 38] := rfl
theorem kb_210_38 : ex_blk 210 38 = [.iload 5, .sipush 4, .if_icmp .ge 83, .iload 3, .ifCond .ne 83, .aload 0, .iload 1, .iload 2, .iload 1, .sipush 4, .if_icmp .ne 60, .sipush 2, .goto 61] := rfl
theorem kb_210_60 : ex_blk 210 60 = [.sipush 0, .jsr 61] := rfl
theorem kb_210_61 : ex_blk 210 61 = [.iload 4, .iload 5, .invokevirtual 1493, .ifCond .ne 75, .sipush 1, .goto 76] := rfl
theorem kb_210_75 : ex_blk 210 75 = [.sipush 0, .jsr 76] := rfl
theorem kb_210_76 : ex_blk 210 76 = [.istore 3, .iinc 5 1, .goto 38] := rfl
theorem kb_210_83 : ex_blk 210 83 = [.iinc 4 1, .goto 5] := rfl
theorem kb_210_89 : ex_blk 210 89 = [.iload 3, .areturn] := rfl
theorem kb_211_0 : ex_blk 211 0 = [.aload 0, .getfield 722, .iload 1, .iaload, .istore 2, .aload 0, .getfield 723, .iload 1, .iaload, .istore 3, .iload 2, .ifCond .ne 27, .aload 0, .iload 2, .iload 3, .invokevirtual 1666, .goto 47] := rfl
theorem kb_211_27 : ex_blk 211 27 = [.iload 2, .sipush 3, .if_icmp .ge 41, .aload 0, .iload 2, .iload 3, .invokevirtual 1674, .goto 47] := rfl
theorem kb_211_41 : ex_blk 211 41 = [.aload 0, .iload 2, .iload 3, .invokevirtual 1682, .jsr 47] := rfl
theorem kb_211_47 : ex_blk 211 47 = [.areturn] := rfl
theorem kb_212_0 : ex_blk 212 0 = [.sipush 0, .istore 1, .sipush 0, .istore 2, .jsr 4] := rfl
theorem kb_212_4 : ex_blk 212 4 = [.iload 2, .aload 0, .getfield 721, .if_icmp .ge 43, .aload 0, .getfield 706, .ifCond .le 43, .iload 1, .aload 0, .iload 2, .invokevirtual 1689, .ifCond .eq 34, .sipush 1, .iload 2, .ishl, .goto 35] := rfl
theorem kb_212_34 : ex_blk 212 34 = [.sipush 0, .jsr 35] := rfl
theorem kb_212_35 : ex_blk 212 35 = [.ior, .istore 1, .iinc 2 1, .goto 4] := rfl
theorem kb_212_43 : ex_blk 212 43 = [.iload 1, .ireturn] := rfl
theorem kb_213_0 : ex_blk 213 0 = [.aload 0, .invokevirtual 1696, .ireturn] := rfl
theorem kb_214_0 : ex_blk 214 0 = [.sipush 1, .istore 1, .sipush 0, .istore 2, .jsr 4] := rfl
theorem kb_214_4 : ex_blk 214 4 = [.iload 2, .aload 0, .getfield 721, .if_icmp .ge 28, .iload 1, .ifCond .eq 28, .aload 0, .iload 2, .invokevirtual 1689, .istore 1, .iinc 2 1, .goto 4] := rfl
theorem kb_214_28 : ex_blk 214 28 = [.iload 1, .areturn] := rfl
theorem kb_215_0 : ex_blk 215 0 = [.aload 0, .getfield 718, .iload 1, .iaload, .iload 2, .sipush 4, .irem, .invokestatic 1594, .ifCond .eq 57, .iload 2, .sipush 4, .aload 0, .getfield 719, .iload 1, .iaload, .imul, .aload 0, .getfield 720, .iload 1, .iaload, .iadd, .if_icmp .eq 57, .aload 0, .aload 0, .getfield 718, .iload 1, .iaload, .iload 2, .sipush 4, .idiv, .iload 2, .sipush 4, .irem, .invokevirtual 1563, .ifCond .eq 57, .sipush 1, .goto 58] := rfl
theorem kb_215_57 : ex_blk 215 57 = [.sipush 0, .jsr 58] := rfl
theorem kb_215_58 : ex_blk 215 58 = [.areturn] := rfl
theorem kb_216_0 : ex_blk 216 0 = [.sipush 0, .istore 1, .jsr 2] := rfl
theorem kb_216_2 : ex_blk 216 2 = [.iload 1, .aload 0, .getfield 717, .if_icmp .ge 136, .sipush 4, .aload 0, .getfield 719, .iload 1, .iaload, .imul, .aload 0, .getfield 720, .iload 1, .iaload, .iadd, .istore 2, .sipush 0, .istore 3, .jsr 28] := rfl
theorem kb_216_28 : ex_blk 216 28 = [.iload 3, .sipush 4, .aload 0, .invokevirtual 1352, .imul, .if_icmp .ge 130, .aload 0, .iload 1, .iload 3, .invokevirtual 1722, .ifCond .eq 124, .aload 0, .iload 1, .aload 0, .getfield 718, .iload 1, .iaload, .iload 3, .sipush 4, .idiv, .iload 3, .sipush 4, .irem, .invokevirtual 1588, .aload 0, .invokevirtual 1576, .ifCond .eq 82, .aload 0, .invokevirtual 1712, .ifCond .eq 82, .sipush 1, .goto 83] := rfl
theorem kb_216_82 : ex_blk 216 82 = [.sipush 0, .jsr 83] := rfl
theorem kb_216_83 : ex_blk 216 83 = [.istore 4, .aload 0, .iload 1, .aload 0, .getfield 718, .iload 1, .iaload, .iload 2, .sipush 4, .idiv, .iload 2, .sipush 4, .irem, .invokevirtual 1588, .iload 4, .ifCond .eq 124, .aload 0, .sipush 1, .putfield 756, .aload 0, .iload 1, .putfield 757, .aload 0, .iload 3, .putfield 758, .sipush 1, .areturn] := rfl
theorem kb_216_124 : ex_blk 216 124 = [.iinc 3 1, .goto 28] := rfl
theorem kb_216_130 : ex_blk 216 130 = [.iinc 1 1, .goto 2] := rfl
theorem kb_216_136 : ex_blk 216 136 = [.sipush 0, .areturn] := rfl
theorem kb_217_0 : ex_blk 217 0 = [.iload 1, .sipush 1, .iadd, .istore 2, .jsr 4] := rfl
theorem kb_217_4 : ex_blk 217 4 = [.iload 2, .aload 0, .getfield 717, .if_icmp .ge 139, .sipush 4, .aload 0, .getfield 719, .iload 2, .iaload, .imul, .aload 0, .getfield 720, .iload 2, .iaload, .iadd, .istore 3, .sipush 0, .istore 4, .jsr 31] := rfl
theorem kb_217_31 : ex_blk 217 31 = [.iload 4, .sipush 4, .aload 0, .invokevirtual 1352, .imul, .if_icmp .ge 133, .aload 0, .iload 2, .iload 4, .invokevirtual 1722, .ifCond .eq 127, .aload 0, .iload 2, .aload 0, .getfield 718, .iload 2, .iaload, .iload 4, .sipush 4, .idiv, .iload 4, .sipush 4, .irem, .invokevirtual 1588, .aload 0, .invokevirtual 1576, .ifCond .eq 89, .aload 0, .invokevirtual 1712, .ifCond .eq 89, .sipush 1, .goto 90] := rfl
theorem kb_217_89 : ex_blk 217 89 = [.sipush 0, .jsr 90] := rfl
theorem kb_217_90 : ex_blk 217 90 = [.istore 5, .aload 0, .iload 2, .aload 0, .getfield 718, .iload 2, .iaload, .iload 3, .sipush 4, .idiv, .iload 3, .sipush 4, .irem, .invokevirtual 1588, .iload 5, .ifCond .eq 127, .aload 0, .iload 2, .putfield 759, .aload 0, .iload 4, .putfield 760, .sipush 1, .areturn] := rfl
theorem kb_217_127 : ex_blk 217 127 = [.iinc 4 1, .goto 31] := rfl
theorem kb_217_133 : ex_blk 217 133 = [.iinc 2 1, .goto 4] := rfl
theorem kb_217_139 : ex_blk 217 139 = [.sipush 0, .areturn] := rfl
theorem kb_218_0 : ex_blk 218 0 = [.sipush 0, .istore 1, .jsr 2] := rfl
theorem kb_218_2 : ex_blk 218 2 = [.iload 1, .aload 0, .getfield 717, .if_icmp .ge 122, .sipush 4, .aload 0, .getfield 719, .iload 1, .iaload, .imul, .aload 0, .getfield 720, .iload 1, .iaload, .iadd, .istore 2, .sipush 0, .istore 3, .jsr 28] := rfl
theorem kb_218_28 : ex_blk 218 28 = [.iload 3, .sipush 4, .aload 0, .invokevirtual 1352, .imul, .if_icmp .ge 116, .aload 0, .iload 1, .iload 3, .invokevirtual 1722, .ifCond .eq 110, .aload 0, .iload 1, .aload 0, .getfield 718, .iload 1, .iaload, .iload 3, .sipush 4, .idiv, .iload 3, .sipush 4, .irem, .invokevirtual 1588, .aload 0, .iload 1, .invokevirtual 1737, .istore 4, .aload 0, .iload 1, .aload 0, .getfield 718, .iload 1, .iaload, .iload 2, .sipush 4, .idiv, .iload 2, .sipush 4, .irem, .invokevirtual 1588, .iload 4, .ifCond .eq 110, .aload 0, .sipush 2, .putfield 756, .aload 0, .iload 1, .putfield 757, .aload 0, .iload 3, .putfield 758, .sipush 1, .areturn] := rfl
theorem kb_218_110 : ex_blk 218 110 = [.iinc 3 1, .goto 28] := rfl
theorem kb_218_116 : ex_blk 218 116 = [.iinc 1 1, .goto 2] := rfl
theorem kb_218_122 : ex_blk 218 122 = [.sipush 0, .areturn] := rfl
theorem kb_219_0 : ex_blk 219 0 = [.aload 0, .sipush 0, .putfield 756, .aload 0, .sipush (-1), .putfield 757, .aload 0, .sipush (-1), .putfield 758, .aload 0, .sipush (-1), .putfield 759, .aload 0, .sipush (-1), .putfield 760, .aload 0, .invokevirtual 1712, .ifCond .ne 46, .aload 0, .invokevirtual 1728, .ifCond .ne 46, .aload 0, .invokevirtual 1744, .ifCond .eq 50, .jsr 46] := rfl
theorem kb_219_46 : ex_blk 219 46 = [.sipush 1, .goto 51] := rfl
theorem kb_219_50 : ex_blk 219 50 = [.sipush 0, .jsr 51] := rfl
theorem kb_219_51 : ex_blk 219 51 = [.areturn] := rfl
theorem kb_220_0 : ex_blk 220 0 = [.aload 0, .getfield 706, .ifCond .ne 10, .sipush (-103), .ireturn] := rfl
theorem kb_220_10 : ex_blk 220 10 = [.iload 1, .sipush 0, .sipush 4, .invokestatic 1187, .ifCond .ne 22, .sipush (-102), .ireturn] := rfl
theorem kb_220_22 : ex_blk 220 22 = [.aload 0, .getfield 727, .sipush 12, .if_icmp .ne 34, .sipush (-103), .ireturn] := rfl
theorem kb_220_34 : ex_blk 220 34 = [.aload 0, .dup, .getfield 727, .sipush 1, .iadd, .putfield 727, .aload 0, .invokevirtual 1752, .istore 2, .iload 1, .tableswitch 108 0 3 #[80, 93, 98, 103]] := rfl
theorem kb_220_80 : ex_blk 220 80 = [.iload 2, .ifCond .eq 91, .aload 0, .getfield 756, .goto 92] := rfl
theorem kb_220_91 : ex_blk 220 91 = [.sipush (-1), .jsr 92] := rfl
theorem kb_220_92 : ex_blk 220 92 = [.ireturn] := rfl
theorem kb_220_93 : ex_blk 220 93 = [.aload 0, .getfield 757, .ireturn] := rfl
theorem kb_220_98 : ex_blk 220 98 = [.aload 0, .getfield 758, .ireturn] := rfl
theorem kb_220_103 : ex_blk 220 103 = [.aload 0, .getfield 759, .ireturn] := rfl
theorem kb_220_108 : ex_blk 220 108 = [.aload 0, .getfield 760, .ireturn] := rfl
theorem kb_221_0 : ex_blk 221 0 = [.aload 0, .iload 1, .invokevirtual 1369, .ifCond .eq 16, .aload 0, .iload 2, .invokevirtual 1369, .ifCond .ne 19, .jsr 16] := rfl
theorem kb_221_16 : ex_blk 221 16 = [.sipush (-101), .ireturn] := rfl
theorem kb_221_19 : ex_blk 221 19 = [.aload 0, .iload 1, .sipush 1, .invokevirtual 1418, .aload 0, .getfield 754, .iload 2, .iaload, .sipush 268435456, .if_icmp .ne 40, .sipush (-1), .goto 46] := rfl
theorem kb_221_40 : ex_blk 221 40 = [.aload 0, .getfield 754, .iload 2, .iaload, .jsr 46] := rfl
theorem kb_221_46 : ex_blk 221 46 = [.ireturn] := rfl
theorem kb_222_0 : ex_blk 222 0 = [.aload 0, .iload 1, .invokevirtual 1369, .ifCond .eq 16, .aload 0, .iload 2, .invokevirtual 1369, .ifCond .ne 19, .jsr 16] := rfl
theorem kb_222_16 : ex_blk 222 16 = [.sipush (-101), .ireturn] := rfl
theorem kb_222_19 : ex_blk 222 19 = [.iload 3, .sipush 0, .sipush 9, .invokestatic 1187, .ifCond .ne 32, .sipush (-102), .ireturn] := rfl
theorem kb_222_32 : ex_blk 222 32 = [.sipush 0, .istore 4, .jsr 35] := rfl
theorem kb_222_35 : ex_blk 222 35 = [.iload 4, .sipush 24, .if_icmp .ge 67, .aload 0, .getfield 754, .iload 4, .iload 4, .iload 1, .if_icmp .ne 58, .sipush 0, .goto 60] := rfl
theorem kb_222_58 : ex_blk 222 58 = [.sipush 268435456, .jsr 60] := rfl
theorem kb_222_60 : ex_blk 222 60 = [.iastore, .iinc 4 1, .goto 35] := rfl
theorem kb_222_67 : ex_blk 222 67 = [.sipush 1, .istore 4, .jsr 70] := rfl
theorem kb_222_70 : ex_blk 222 70 = [.iload 4, .ifCond .eq 259, .sipush 0, .istore 4, .sipush 0, .istore 5, .jsr 81] := rfl
theorem kb_222_81 : ex_blk 222 81 = [.iload 5, .aload 0, .invokevirtual 1352, .if_icmp .ge 256, .aload 0, .getfield 754, .iload 5, .iaload, .sipush 268435456, .if_icmp .ge 122, .iload 5, .iload 1, .if_icmp .eq 118, .aload 0, .iload 5, .invokevirtual 1409, .sipush (-1), .if_icmp .ne 122, .jsr 118] := rfl
theorem kb_222_118 : ex_blk 222 118 = [.sipush 1, .goto 123] := rfl
theorem kb_222_122 : ex_blk 222 122 = [.sipush 0, .jsr 123] := rfl
theorem kb_222_123 : ex_blk 222 123 = [.istore 6, .sipush 0, .istore 7, .jsr 128] := rfl
theorem kb_222_128 : ex_blk 222 128 = [.iload 7, .sipush 4, .if_icmp .ge 250, .iload 6, .ifCond .eq 250, .aload 0, .iload 5, .iload 7, .invokevirtual 1386, .istore 8, .iload 8, .sipush (-1), .if_icmp .eq 170, .aload 0, .getfield 707, .iload 8, .iaload, .sipush 1, .if_icmp .eq 170, .sipush 1, .goto 171] := rfl
theorem kb_222_170 : ex_blk 222 170 = [.sipush 0, .jsr 171] := rfl
theorem kb_222_171 : ex_blk 222 171 = [.istore 9, .iload 9, .ifCond .eq 211, .aload 0, .getfield 754, .iload 5, .iaload, .sipush 1, .iadd, .aload 0, .iload 5, .invokevirtual 1377, .aload 0, .iload 8, .invokevirtual 1377, .if_icmp .ne 206, .sipush 0, .goto 207] := rfl
theorem kb_222_206 : ex_blk 222 206 = [.iload 3, .jsr 207] := rfl
theorem kb_222_207 : ex_blk 222 207 = [.iadd, .goto 213] := rfl
theorem kb_222_211 : ex_blk 222 211 = [.sipush 268435456, .jsr 213] := rfl
theorem kb_222_213 : ex_blk 222 213 = [.istore 10, .iload 9, .ifCond .eq 244, .iload 10, .aload 0, .getfield 754, .iload 8, .iaload, .if_icmp .ge 244, .aload 0, .getfield 754, .iload 8, .iload 10, .iastore, .sipush 1, .istore 4, .jsr 244] := rfl
theorem kb_222_244 : ex_blk 222 244 = [.iinc 7 1, .goto 128] := rfl
theorem kb_222_250 : ex_blk 222 250 = [.iinc 5 1, .goto 81] := rfl
theorem kb_222_256 : ex_blk 222 256 = [.goto 70] := rfl
theorem kb_222_259 : ex_blk 222 259 = [.aload 0, .getfield 754, .iload 2, .iaload, .sipush 268435456, .if_icmp .ne 274, .sipush (-1), .goto 280] := rfl
theorem kb_222_274 : ex_blk 222 274 = [.aload 0, .getfield 754, .iload 2, .iaload, .jsr 280] := rfl
theorem kb_222_280 : ex_blk 222 280 = [.ireturn] := rfl
theorem kb_223_0 : ex_blk 223 0 = [.aload 0, .iload 1, .invokevirtual 1617, .ifCond .ne 11, .sipush (-101), .ireturn] := rfl
theorem kb_223_11 : ex_blk 223 11 = [.iload 2, .sipush 0, .sipush 3, .invokestatic 1187, .ifCond .ne 23, .sipush (-102), .ireturn] := rfl
theorem kb_223_23 : ex_blk 223 23 = [.aload 0, .aload 0, .getfield 719, .iload 1, .iaload, .invokevirtual 1377, .istore 3, .aload 0, .aload 0, .iload 1, .invokevirtual 1401, .invokevirtual 1377, .istore 4, .aload 0, .aload 0, .getfield 719, .iload 1, .iaload, .invokevirtual 1425, .istore 5, .iload 2, .tableswitch 106 0 2 #[84, 86, 89]] := rfl
theorem kb_223_84 : ex_blk 223 84 = [.iload 3, .ireturn] := rfl
theorem kb_223_86 : ex_blk 223 86 = [.iload 4, .ireturn] := rfl
theorem kb_223_89 : ex_blk 223 89 = [.iload 5, .sipush (-1), .if_icmp .ne 99, .iload 3, .goto 105] := rfl
theorem kb_223_99 : ex_blk 223 99 = [.aload 0, .iload 5, .invokevirtual 1377, .jsr 105] := rfl
theorem kb_223_105 : ex_blk 223 105 = [.ireturn] := rfl
theorem kb_223_106 : ex_blk 223 106 = [.iload 3, .iload 4, .if_icmp .ne 116, .iload 3, .goto 117] := rfl
theorem kb_223_116 : ex_blk 223 116 = [.sipush (-1), .jsr 117] := rfl
theorem kb_223_117 : ex_blk 223 117 = [.ireturn] := rfl
theorem kb_224_0 : ex_blk 224 0 = [.iload 1, .sipush 0, .sipush 999, .invokestatic 1187, .ifCond .eq 35, .iload 2, .sipush 0, .sipush 99, .invokestatic 1187, .ifCond .eq 35, .iload 3, .sipush 0, .sipush 10, .invokestatic 1187, .ifCond .eq 35, .sipush 1, .goto 36] := rfl
theorem kb_224_35 : ex_blk 224 35 = [.sipush 0, .jsr 36] := rfl
theorem kb_224_36 : ex_blk 224 36 = [.istore 6, .iload 6, .ifCond .eq 64, .iload 4, .sipush 0, .sipush 99, .invokestatic 1187, .ifCond .eq 64, .iload 5, .sipush 0, .sipush 1, .invokestatic 1187, .ifCond .ne 67, .jsr 64] := rfl
theorem kb_224_64 : ex_blk 224 64 = [.sipush (-102), .ireturn] := rfl
theorem kb_224_67 : ex_blk 224 67 = [.sipush 0, .istore 7, .sipush 268435456, .istore 8, .sipush 1, .istore 9, .jsr 77] := rfl
theorem kb_224_77 : ex_blk 224 77 = [.iload 9, .sipush 21, .if_icmp .ge 160, .iload 1, .iload 2, .iload 9, .imul, .if_icmp .le 101, .iload 1, .iload 2, .iload 9, .imul, .isub, .goto 102] := rfl
theorem kb_224_101 : ex_blk 224 101 = [.sipush 0, .jsr 102] := rfl
theorem kb_224_102 : ex_blk 224 102 = [.istore 10, .iload 4, .iload 9, .imul, .iload 3, .iload 10, .imul, .sipush 9, .iadd, .sipush 10, .idiv, .iadd, .istore 11, .iload 11, .iload 8, .if_icmp .ge 134, .iload 9, .goto 136] := rfl
theorem kb_224_134 : ex_blk 224 134 = [.iload 7, .jsr 136] := rfl
theorem kb_224_136 : ex_blk 224 136 = [.istore 7, .iload 11, .iload 8, .if_icmp .ge 150, .iload 11, .goto 152] := rfl
theorem kb_224_150 : ex_blk 224 150 = [.iload 8, .jsr 152] := rfl
theorem kb_224_152 : ex_blk 224 152 = [.istore 8, .iinc 9 1, .goto 77] := rfl
theorem kb_224_160 : ex_blk 224 160 = [.iload 5, .ifCond .ne 170, .iload 7, .goto 172] := rfl
theorem kb_224_170 : ex_blk 224 170 = [.iload 8, .jsr 172] := rfl
theorem kb_224_172 : ex_blk 224 172 = [.ireturn] := rfl
theorem kb_225_0 : ex_blk 225 0 = [.aload 0, .getfield 706, .ifCond .ne 10, .sipush (-103), .ireturn] := rfl
theorem kb_225_10 : ex_blk 225 10 = [.iload 1, .sipush (-3), .sipush 3, .invokestatic 1187, .ifCond .ne 23, .sipush (-102), .ireturn] := rfl
theorem kb_225_23 : ex_blk 225 23 = [.aload 0, .iload 1, .putfield 753, .sipush 0, .istore 2, .sipush 0, .istore 3, .jsr 32] := rfl
theorem kb_225_32 : ex_blk 225 32 = [.iload 3, .aload 0, .getfield 715, .if_icmp .ge 64, .iload 2, .aload 0, .iload 3, .invokevirtual 1521, .ifCond .ne 53, .sipush 0, .goto 56] := rfl
theorem kb_225_53 : ex_blk 225 53 = [.sipush 1, .iload 3, .ishl, .jsr 56] := rfl
theorem kb_225_56 : ex_blk 225 56 = [.ior, .istore 2, .iinc 3 1, .goto 32] := rfl
theorem kb_225_64 : ex_blk 225 64 = [.aload 0, .sipush 0, .putfield 753, .iload 2, .ireturn] := rfl
theorem kb_226_0 : ex_blk 226 0 = [.aload 0, .iload 1, .invokevirtual 1361, .ifCond .ne 11, .sipush (-101), .ireturn] := rfl
theorem kb_226_11 : ex_blk 226 11 = [.iload 2, .sipush 0, .sipush 1, .invokestatic 1187, .ifCond .ne 23, .sipush (-102), .ireturn] := rfl
theorem kb_226_23 : ex_blk 226 23 = [.aload 0, .getfield 724, .sipush 10, .if_icmp .ne 35, .sipush (-104), .ireturn] := rfl
theorem kb_226_35 : ex_blk 226 35 = [.aload 0, .getfield 725, .aload 0, .getfield 724, .iload 1, .iastore, .aload 0, .getfield 726, .aload 0, .getfield 724, .iload 2, .iastore, .aload 0, .dup, .getfield 724, .sipush 1, .iadd, .putfield 724, .aload 0, .getfield 724, .ireturn] := rfl
theorem kb_227_0 : ex_blk 227 0 = [.sipush 0, .istore 1, .sipush (-3), .istore 2, .jsr 5] := rfl
theorem kb_227_5 : ex_blk 227 5 = [.iload 2, .sipush 4, .if_icmp .ge 88, .aload 0, .iload 2, .putfield 753, .sipush 1, .istore 3, .sipush 0, .istore 4, .jsr 20] := rfl
theorem kb_227_20 : ex_blk 227 20 = [.iload 4, .aload 0, .getfield 724, .if_icmp .ge 66, .iload 3, .ifCond .eq 58, .aload 0, .aload 0, .getfield 725, .iload 4, .iaload, .invokevirtual 1377, .aload 0, .getfield 726, .iload 4, .iaload, .if_icmp .ne 58, .sipush 1, .goto 59] := rfl
theorem kb_227_58 : ex_blk 227 58 = [.sipush 0, .jsr 59] := rfl
theorem kb_227_59 : ex_blk 227 59 = [.istore 3, .iinc 4 1, .goto 20] := rfl
theorem kb_227_66 : ex_blk 227 66 = [.iload 1, .iload 3, .ifCond .eq 79, .sipush 1, .iload 2, .sipush 3, .iadd, .ishl, .goto 80] := rfl
theorem kb_227_79 : ex_blk 227 79 = [.sipush 0, .jsr 80] := rfl
theorem kb_227_80 : ex_blk 227 80 = [.ior, .istore 1, .iinc 2 1, .goto 5] := rfl
theorem kb_227_88 : ex_blk 227 88 = [.aload 0, .sipush 0, .putfield 753, .iload 1, .ireturn] := rfl
theorem kb_228_0 : ex_blk 228 0 = [.aload 0, .getfield 706, .ifCond .ne 12, .sipush (-103), .goto 16] := rfl
theorem kb_228_12 : ex_blk 228 12 = [.aload 0, .invokevirtual 1816, .jsr 16] := rfl
theorem kb_228_16 : ex_blk 228 16 = [.ireturn] := rfl
theorem kb_229_0 : ex_blk 229 0 = [.aload 0, .getfield 706, .ifCond .ne 10, .sipush (-103), .ireturn] := rfl
theorem kb_229_10 : ex_blk 229 10 = [.aload 0, .sipush 1, .putfield 730, .aload 0, .aload 0, .getfield 706, .putfield 731, .aload 0, .aload 0, .getfield 717, .putfield 732, .aload 0, .aload 0, .getfield 715, .putfield 733, .aload 0, .aload 0, .getfield 721, .putfield 734, .aload 0, .aload 0, .getfield 724, .putfield 735, .sipush 0, .istore 1, .jsr 57] := rfl
theorem kb_229_57 : ex_blk 229 57 = [.iload 1, .sipush 3, .if_icmp .ge 114, .aload 0, .getfield 736, .sipush 3, .iload 1, .imul, .aload 0, .getfield 718, .iload 1, .iaload, .iastore, .aload 0, .getfield 736, .sipush 3, .iload 1, .imul, .sipush 1, .iadd, .aload 0, .getfield 719, .iload 1, .iaload, .iastore, .aload 0, .getfield 736, .sipush 3, .iload 1, .imul, .sipush 2, .iadd, .aload 0, .getfield 720, .iload 1, .iaload, .iastore, .iinc 1 1, .goto 57] := rfl
theorem kb_229_114 : ex_blk 229 114 = [.sipush 0, .istore 1, .jsr 116] := rfl
theorem kb_229_116 : ex_blk 229 116 = [.iload 1, .sipush 60, .if_icmp .ge 140, .aload 0, .getfield 737, .iload 1, .aload 0, .getfield 716, .iload 1, .iaload, .iastore, .iinc 1 1, .goto 116] := rfl
theorem kb_229_140 : ex_blk 229 140 = [.sipush 0, .istore 1, .jsr 142] := rfl
theorem kb_229_142 : ex_blk 229 142 = [.iload 1, .sipush 6, .if_icmp .ge 184, .aload 0, .getfield 738, .sipush 2, .iload 1, .imul, .aload 0, .getfield 722, .iload 1, .iaload, .iastore, .aload 0, .getfield 738, .sipush 2, .iload 1, .imul, .sipush 1, .iadd, .aload 0, .getfield 723, .iload 1, .iaload, .iastore, .iinc 1 1, .goto 142] := rfl
theorem kb_229_184 : ex_blk 229 184 = [.sipush 0, .istore 1, .jsr 186] := rfl
theorem kb_229_186 : ex_blk 229 186 = [.iload 1, .sipush 10, .if_icmp .ge 228, .aload 0, .getfield 739, .sipush 2, .iload 1, .imul, .aload 0, .getfield 725, .iload 1, .iaload, .iastore, .aload 0, .getfield 739, .sipush 2, .iload 1, .imul, .sipush 1, .iadd, .aload 0, .getfield 726, .iload 1, .iaload, .iastore, .iinc 1 1, .goto 186] := rfl
theorem kb_229_228 : ex_blk 229 228 = [.aload 0, .getfield 717, .ireturn] := rfl
theorem kb_230_0 : ex_blk 230 0 = [.aload 0, .getfield 730, .ifCond .eq 18, .aload 0, .getfield 731, .aload 0, .getfield 706, .if_icmp .eq 21, .jsr 18] := rfl
theorem kb_230_18 : ex_blk 230 18 = [.sipush (-103), .ireturn] := rfl
theorem kb_230_21 : ex_blk 230 21 = [.aload 0, .aload 0, .getfield 732, .putfield 717, .aload 0, .aload 0, .getfield 733, .putfield 715, .aload 0, .aload 0, .getfield 734, .putfield 721, .aload 0, .aload 0, .getfield 735, .putfield 724, .sipush 0, .istore 1, .jsr 55] := rfl
theorem kb_230_55 : ex_blk 230 55 = [.iload 1, .sipush 3, .if_icmp .ge 99, .aload 0, .iload 1, .aload 0, .getfield 736, .sipush 3, .iload 1, .imul, .iaload, .aload 0, .getfield 736, .sipush 3, .iload 1, .imul, .sipush 1, .iadd, .iaload, .aload 0, .getfield 736, .sipush 3, .iload 1, .imul, .sipush 2, .iadd, .iaload, .invokevirtual 1588, .iinc 1 1, .goto 55] := rfl
theorem kb_230_99 : ex_blk 230 99 = [.sipush 0, .istore 1, .jsr 101] := rfl
theorem kb_230_101 : ex_blk 230 101 = [.iload 1, .sipush 60, .if_icmp .ge 125, .aload 0, .getfield 716, .iload 1, .aload 0, .getfield 737, .iload 1, .iaload, .iastore, .iinc 1 1, .goto 101] := rfl
theorem kb_230_125 : ex_blk 230 125 = [.sipush 0, .istore 1, .jsr 127] := rfl
theorem kb_230_127 : ex_blk 230 127 = [.iload 1, .sipush 6, .if_icmp .ge 169, .aload 0, .getfield 722, .iload 1, .aload 0, .getfield 738, .sipush 2, .iload 1, .imul, .iaload, .iastore, .aload 0, .getfield 723, .iload 1, .aload 0, .getfield 738, .sipush 2, .iload 1, .imul, .sipush 1, .iadd, .iaload, .iastore, .iinc 1 1, .goto 127] := rfl
theorem kb_230_169 : ex_blk 230 169 = [.sipush 0, .istore 1, .jsr 171] := rfl
theorem kb_230_171 : ex_blk 230 171 = [.iload 1, .sipush 10, .if_icmp .ge 213, .aload 0, .getfield 725, .iload 1, .aload 0, .getfield 739, .sipush 2, .iload 1, .imul, .iaload, .iastore, .aload 0, .getfield 726, .iload 1, .aload 0, .getfield 739, .sipush 2, .iload 1, .imul, .sipush 1, .iadd, .iaload, .iastore, .iinc 1 1, .goto 171] := rfl
theorem kb_230_213 : ex_blk 230 213 = [.aload 0, .getfield 717, .ireturn] := rfl
theorem kb_231_0 : ex_blk 231 0 = [.iload 1, .tableswitch 97 0 8 #[52, 57, 62, 67, 72, 77, 82, 87, 92]] := rfl
theorem kb_231_52 : ex_blk 231 52 = [.aload 0, .invokevirtual 1352, .ireturn] := rfl
theorem kb_231_57 : ex_blk 231 57 = [.aload 0, .getfield 709, .ireturn] := rfl
theorem kb_231_62 : ex_blk 231 62 = [.aload 0, .getfield 715, .ireturn] := rfl
theorem kb_231_67 : ex_blk 231 67 = [.aload 0, .getfield 717, .ireturn] := rfl
theorem kb_231_72 : ex_blk 231 72 = [.aload 0, .getfield 721, .ireturn] := rfl
theorem kb_231_77 : ex_blk 231 77 = [.aload 0, .getfield 724, .ireturn] := rfl
theorem kb_231_82 : ex_blk 231 82 = [.aload 0, .getfield 728, .ireturn] := rfl
theorem kb_231_87 : ex_blk 231 87 = [.aload 0, .getfield 706, .ireturn] := rfl
theorem kb_231_92 : ex_blk 231 92 = [.aload 0, .getfield 727, .ireturn] := rfl
theorem kb_231_97 : ex_blk 231 97 = [.sipush (-102), .ireturn] := rfl
theorem kb_232_0 : ex_blk 232 0 = [.aload 0, .iload 1, .invokevirtual 1849, .ireturn] := rfl
theorem kb_233_0 : ex_blk 233 0 = [.aload 0, .goto_w 31, .aload 0, .getfield 761, .lmul, .lload 1, .ladd, .putfield 761, .return_] := rfl
theorem kb_234_0 : ex_blk 234 0 = [.sipush 0, .istore 1, .jsr 2] := rfl
theorem kb_234_2 : ex_blk 234 2 = [.iload 1, .aload 0, .invokevirtual 1352, .if_icmp .ge 40, .sipush 0, .istore 2, .jsr 12] := rfl
theorem kb_234_12 : ex_blk 234 12 = [.iload 2, .sipush 4, .if_icmp .ge 34, .aload 0, .aload 0, .iload 1, .iload 2, .invokevirtual 1434, .i2l, .invokevirtual 1865, .iinc 2 1, .goto 12] := rfl
theorem kb_234_34 : ex_blk 234 34 = [.iinc 1 1, .goto 2] := rfl
theorem kb_234_40 : ex_blk 234 40 = [.sipush 0, .istore 1, .jsr 42] := rfl
theorem kb_234_42 : ex_blk 234 42 = [.iload 1, .aload 0, .getfield 709, .if_icmp .ge 80, .sipush 0, .istore 2, .jsr 52] := rfl
theorem kb_234_52 : ex_blk 234 52 = [.iload 2, .sipush 5, .if_icmp .ge 74, .aload 0, .aload 0, .iload 1, .iload 2, .invokevirtual 1322, .i2l, .invokevirtual 1865, .iinc 2 1, .goto 52] := rfl
theorem kb_234_74 : ex_blk 234 74 = [.iinc 1 1, .goto 42] := rfl
theorem kb_234_80 : ex_blk 234 80 = [.sipush 0, .istore 1, .jsr 82] := rfl
theorem kb_234_82 : ex_blk 234 82 = [.iload 1, .aload 0, .getfield 715, .if_icmp .ge 134, .sipush 0, .istore 2, .jsr 92] := rfl
theorem kb_234_92 : ex_blk 234 92 = [.iload 2, .sipush 5, .if_icmp .ge 118, .aload 0, .aload 0, .getfield 716, .sipush 5, .iload 1, .imul, .iload 2, .iadd, .iaload, .i2l, .invokevirtual 1865, .iinc 2 1, .goto 92] := rfl
theorem kb_234_118 : ex_blk 234 118 = [.aload 0, .aload 0, .iload 1, .invokevirtual 1521, .i2l, .invokevirtual 1865, .iinc 1 1, .goto 82] := rfl
theorem kb_234_134 : ex_blk 234 134 = [.return_] := rfl
theorem kb_235_0 : ex_blk 235 0 = [.aload 0, .goto_w 521, .putfield 761, .aload 0, .invokevirtual 1872, .sipush 0, .istore 1, .jsr 13] := rfl
theorem kb_235_13 : ex_blk 235 13 = [.iload 1, .aload 0, .getfield 717, .if_icmp .ge 51, .sipush 0, .istore 2, .jsr 23] := rfl
theorem kb_235_23 : ex_blk 235 23 = [.iload 2, .sipush 4, .if_icmp .ge 45, .aload 0, .aload 0, .iload 1, .iload 2, .invokevirtual 1634, .i2l, .invokevirtual 1865, .iinc 2 1, .goto 23] := rfl
theorem kb_235_45 : ex_blk 235 45 = [.iinc 1 1, .goto 13] := rfl
theorem kb_235_51 : ex_blk 235 51 = [.sipush 0, .istore 1, .jsr 53] := rfl
theorem kb_235_53 : ex_blk 235 53 = [.iload 1, .aload 0, .getfield 721, .if_icmp .ge 89, .aload 0, .aload 0, .getfield 722, .iload 1, .iaload, .i2l, .invokevirtual 1865, .aload 0, .aload 0, .getfield 723, .iload 1, .iaload, .i2l, .invokevirtual 1865, .iinc 1 1, .goto 53] := rfl
theorem kb_235_89 : ex_blk 235 89 = [.aload 0, .aload 0, .invokevirtual 1696, .i2l, .invokevirtual 1865, .sipush 0, .istore 1, .jsr 100] := rfl
theorem kb_235_100 : ex_blk 235 100 = [.iload 1, .aload 0, .getfield 724, .if_icmp .ge 136, .aload 0, .aload 0, .getfield 725, .iload 1, .iaload, .i2l, .invokevirtual 1865, .aload 0, .aload 0, .getfield 726, .iload 1, .iaload, .i2l, .invokevirtual 1865, .iinc 1 1, .goto 100] := rfl
theorem kb_235_136 : ex_blk 235 136 = [.aload 0, .getfield 706, .ifCond .le 152, .aload 0, .aload 0, .invokevirtual 1816, .i2l, .invokevirtual 1865, .jsr 152] := rfl
theorem kb_235_152 : ex_blk 235 152 = [.sipush 0, .istore 1, .jsr 154] := rfl
theorem kb_235_154 : ex_blk 235 154 = [.iload 1, .aload 0, .getfield 728, .if_icmp .ge 179, .aload 0, .aload 0, .getfield 729, .iload 1, .baload, .i2l, .invokevirtual 1865, .iinc 1 1, .goto 154] := rfl
theorem kb_235_179 : ex_blk 235 179 = [.sipush 0, .istore 1, .jsr 181] := rfl
theorem kb_235_181 : ex_blk 235 181 = [.iload 1, .sipush 9, .if_icmp .ge 203, .aload 0, .aload 0, .iload 1, .invokevirtual 1849, .i2l, .invokevirtual 1865, .iinc 1 1, .goto 181] := rfl
theorem kb_235_203 : ex_blk 235 203 = [.aload 0, .getfield 761, .lreturn] := rfl
theorem kr_0 : ex_ret 0 = none := rfl
theorem ke_0 {d : Nat} {o : Nat} {w : PW} (h : ex_cls o = 0) : ex_cal (d + 1) 0 [.ref o] w = ex_ev d (ex_cal d) 0 (ex_blk 0 0, [.ref o], [], w) := by
  rw [ex_cal_s (by simp [ex_okR, ex_isv, ex_lay, h, show ex_C 0 = 0 from rfl, show ex_L 0 = 1 from rfl])]
  rfl
theorem kr_1 : ex_ret 1 = none := rfl
theorem ke_1 {d : Nat} {o : Nat} {a0 : Nat} {w : PW} (h : ex_cls o = 0) : ex_cal (d + 1) 1 [.ref o, .ref a0] w = ex_ev d (ex_cal d) 1 (ex_blk 1 0, [.ref o, .ref a0], [], w) := by
  rw [ex_cal_s (by simp [ex_okR, ex_isv, ex_lay, h, show ex_C 1 = 0 from rfl, show ex_L 1 = 2 from rfl])]
  rfl
theorem kr_2 : ex_ret 2 = some .boolean := rfl
theorem ke_2 {d : Nat} {a0 : Int32} {a1 : Int32} {w : PW} : ex_cal (d + 1) 2 [.int a0, .int a1] w = ex_ev d (ex_cal d) 2 (ex_blk 2 0, [.int a0, .int a1], [], w) := by
  rw [ex_cal_s (rfl)]
  rfl
theorem kr_3 : ex_ret 3 = some .int := rfl
theorem ke_3 {d : Nat} {o : Nat} {a0 : Int32} {w : PW} (h : ex_cls o = 0) : ex_cal (d + 1) 3 [.ref o, .int a0] w = ex_ev d (ex_cal d) 3 (ex_blk 3 0, [.ref o, .int a0], [], w) := by
  rw [ex_cal_s (by simp [ex_okR, ex_isv, ex_lay, h, show ex_C 3 = 0 from rfl, show ex_L 3 = 2 from rfl])]
  rfl
theorem kr_4 : ex_ret 4 = some .int := rfl
theorem ke_4 {d : Nat} {o : Nat} {a0 : Int32} {w : PW} (h : ex_cls o = 0) : ex_cal (d + 1) 4 [.ref o, .int a0] w = ex_ev d (ex_cal d) 4 (ex_blk 4 0, [.ref o, .int a0], [], w) := by
  rw [ex_cal_s (by simp [ex_okR, ex_isv, ex_lay, h, show ex_C 4 = 0 from rfl, show ex_L 4 = 2 from rfl])]
  rfl
theorem kr_5 : ex_ret 5 = some .int := rfl
theorem ke_5 {d : Nat} {o : Nat} {a0 : Int32} {w : PW} (h : ex_cls o = 0) : ex_cal (d + 1) 5 [.ref o, .int a0] w = ex_ev d (ex_cal d) 5 (ex_blk 5 0, [.ref o, .int a0], [], w) := by
  rw [ex_cal_s (by simp [ex_okR, ex_isv, ex_lay, h, show ex_C 5 = 0 from rfl, show ex_L 5 = 2 from rfl])]
  rfl
theorem kr_6 : ex_ret 6 = some .int := rfl
theorem ke_6 {d : Nat} {o : Nat} {a0 : Int32} {w : PW} (h : ex_cls o = 0) : ex_cal (d + 1) 6 [.ref o, .int a0] w = ex_ev d (ex_cal d) 6 (ex_blk 6 0, [.ref o, .int a0], [], w) := by
  rw [ex_cal_s (by simp [ex_okR, ex_isv, ex_lay, h, show ex_C 6 = 0 from rfl, show ex_L 6 = 2 from rfl])]
  rfl
theorem kr_7 : ex_ret 7 = none := rfl
theorem ke_7 {d : Nat} {o : Nat} {a0 : Int32} {a1 : Int32} {a2 : Int32} {w : PW} (h : ex_cls o = 0) : ex_cal (d + 1) 7 [.ref o, .int a0, .int a1, .int a2] w = ex_ev d (ex_cal d) 7 (ex_blk 7 0, [.ref o, .int a0, .int a1, .int a2], [], w) := by
  rw [ex_cal_s (by simp [ex_okR, ex_isv, ex_lay, h, show ex_C 7 = 0 from rfl, show ex_L 7 = 4 from rfl])]
  rfl
theorem kr_8 : ex_ret 8 = some .int := rfl
theorem ke_8 {d : Nat} {o : Nat} {a0 : Nat} {a1 : Int32} {w : PW} (h : ex_cls o = 0) : ex_cal (d + 1) 8 [.ref o, .ref a0, .int a1] w = ex_ev d (ex_cal d) 8 (ex_blk 8 0, [.ref o, .ref a0, .int a1, .null], [], w) := by
  rw [ex_cal_s (by simp [ex_okR, ex_isv, ex_lay, h, show ex_C 8 = 0 from rfl, show ex_L 8 = 4 from rfl])]
  rfl
theorem kr_9 : ex_ret 9 = some .int := rfl
theorem ke_9 {d : Nat} {o : Nat} {a0 : Nat} {a1 : Int32} {w : PW} (h : ex_cls o = 0) : ex_cal (d + 1) 9 [.ref o, .ref a0, .int a1] w = ex_ev d (ex_cal d) 9 (ex_blk 9 0, [.ref o, .ref a0, .int a1, .null, .null], [], w) := by
  rw [ex_cal_s (by simp [ex_okR, ex_isv, ex_lay, h, show ex_C 9 = 0 from rfl, show ex_L 9 = 5 from rfl])]
  rfl
theorem kr_10 : ex_ret 10 = some .int := rfl
theorem ke_10 {d : Nat} {o : Nat} {a0 : Nat} {a1 : Int32} {w : PW} (h : ex_cls o = 0) : ex_cal (d + 1) 10 [.ref o, .ref a0, .int a1] w = ex_ev d (ex_cal d) 10 (ex_blk 10 0, [.ref o, .ref a0, .int a1, .null], [], w) := by
  rw [ex_cal_s (by simp [ex_okR, ex_isv, ex_lay, h, show ex_C 10 = 0 from rfl, show ex_L 10 = 4 from rfl])]
  rfl
theorem kr_11 : ex_ret 11 = none := rfl
theorem ke_11 {d : Nat} {o : Nat} {a0 : Nat} {w : PW} (h : ex_cls o = 1) : ex_cal (d + 1) 11 [.ref o, .ref a0] w = ex_ev d (ex_cal d) 11 (ex_blk 11 0, [.ref o, .ref a0, .null, .null, .null, .null], [], w) := by
  rw [ex_cal_s (by simp [ex_okR, ex_isv, ex_lay, h, show ex_C 11 = 1 from rfl, show ex_L 11 = 6 from rfl])]
  rfl
theorem kr_12 : ex_ret 12 = none := rfl
theorem ke_12 {d : Nat} {o : Nat} {a0 : Int32} {a1 : Int32} {w : PW} (h : ex_cls o = 1) : ex_cal (d + 1) 12 [.ref o, .int a0, .int a1] w = ex_ev d (ex_cal d) 12 (ex_blk 12 0, [.ref o, .int a0, .int a1], [], w) := by
  rw [ex_cal_s (by simp [ex_okR, ex_isv, ex_lay, h, show ex_C 12 = 1 from rfl, show ex_L 12 = 3 from rfl])]
  rfl
theorem kr_13 : ex_ret 13 = none := rfl
theorem ke_13 {d : Nat} {o : Nat} {a0 : Int32} {a1 : Int32} {a2 : Int32} {w : PW} (h : ex_cls o = 1) : ex_cal (d + 1) 13 [.ref o, .int a0, .int a1, .int a2] w = ex_ev d (ex_cal d) 13 (ex_blk 13 0, [.ref o, .int a0, .int a1, .int a2], [], w) := by
  rw [ex_cal_s (by simp [ex_okR, ex_isv, ex_lay, h, show ex_C 13 = 1 from rfl, show ex_L 13 = 4 from rfl])]
  rfl
theorem kr_14 : ex_ret 14 = none := rfl
theorem ke_14 {d : Nat} {o : Nat} {w : PW} (h : ex_cls o = 1) : ex_cal (d + 1) 14 [.ref o] w = ex_ev d (ex_cal d) 14 (ex_blk 14 0, [.ref o, .null], [], w) := by
  rw [ex_cal_s (by simp [ex_okR, ex_isv, ex_lay, h, show ex_C 14 = 1 from rfl, show ex_L 14 = 2 from rfl])]
  rfl
theorem kr_15 : ex_ret 15 = none := rfl
theorem ke_15 {d : Nat} {o : Nat} {a0 : Int32} {a1 : Int32} {a2 : Int32} {w : PW} (h : ex_cls o = 1) : ex_cal (d + 1) 15 [.ref o, .int a0, .int a1, .int a2] w = ex_ev d (ex_cal d) 15 (ex_blk 15 0, [.ref o, .int a0, .int a1, .int a2, .null], [], w) := by
  rw [ex_cal_s (by simp [ex_okR, ex_isv, ex_lay, h, show ex_C 15 = 1 from rfl, show ex_L 15 = 5 from rfl])]
  rfl
theorem kr_16 : ex_ret 16 = some .int := rfl
theorem ke_16 {d : Nat} {o : Nat} {a0 : Int32} {a1 : Int32} {w : PW} (h : ex_cls o = 1) : ex_cal (d + 1) 16 [.ref o, .int a0, .int a1] w = ex_ev d (ex_cal d) 16 (ex_blk 16 0, [.ref o, .int a0, .int a1], [], w) := by
  rw [ex_cal_s (by simp [ex_okR, ex_isv, ex_lay, h, show ex_C 16 = 1 from rfl, show ex_L 16 = 3 from rfl])]
  rfl
theorem kr_17 : ex_ret 17 = none := rfl
theorem ke_17 {d : Nat} {o : Nat} {w : PW} (h : ex_cls o = 1) : ex_cal (d + 1) 17 [.ref o] w = ex_ev d (ex_cal d) 17 (ex_blk 17 0, [.ref o, .null], [], w) := by
  rw [ex_cal_s (by simp [ex_okR, ex_isv, ex_lay, h, show ex_C 17 = 1 from rfl, show ex_L 17 = 2 from rfl])]
  rfl
theorem kr_18 : ex_ret 18 = none := rfl
theorem ke_18 {d : Nat} {o : Nat} {a0 : Int32} {w : PW} (h : ex_cls o = 1) : ex_cal (d + 1) 18 [.ref o, .int a0] w = ex_ev d (ex_cal d) 18 (ex_blk 18 0, [.ref o, .int a0, .null], [], w) := by
  rw [ex_cal_s (by simp [ex_okR, ex_isv, ex_lay, h, show ex_C 18 = 1 from rfl, show ex_L 18 = 3 from rfl])]
  rfl
theorem kr_19 : ex_ret 19 = some .boolean := rfl
theorem ke_19 {d : Nat} {o : Nat} {w : PW} (h : ex_cls o = 1) : ex_cal (d + 1) 19 [.ref o] w = ex_ev d (ex_cal d) 19 (ex_blk 19 0, [.ref o], [], w) := by
  rw [ex_cal_s (by simp [ex_okR, ex_isv, ex_lay, h, show ex_C 19 = 1 from rfl, show ex_L 19 = 1 from rfl])]
  rfl
theorem kr_20 : ex_ret 20 = some .int := rfl
theorem ke_20 {d : Nat} {o : Nat} {w : PW} (h : ex_cls o = 1) : ex_cal (d + 1) 20 [.ref o] w = ex_ev d (ex_cal d) 20 (ex_blk 20 0, [.ref o], [], w) := by
  rw [ex_cal_s (by simp [ex_okR, ex_isv, ex_lay, h, show ex_C 20 = 1 from rfl, show ex_L 20 = 1 from rfl])]
  rfl
theorem kr_21 : ex_ret 21 = some .boolean := rfl
theorem ke_21 {d : Nat} {o : Nat} {a0 : Int32} {w : PW} (h : ex_cls o = 1) : ex_cal (d + 1) 21 [.ref o, .int a0] w = ex_ev d (ex_cal d) 21 (ex_blk 21 0, [.ref o, .int a0], [], w) := by
  rw [ex_cal_s (by simp [ex_okR, ex_isv, ex_lay, h, show ex_C 21 = 1 from rfl, show ex_L 21 = 2 from rfl])]
  rfl
theorem kr_22 : ex_ret 22 = some .int := rfl
theorem ke_22 {d : Nat} {o : Nat} {a0 : Int32} {w : PW} (h : ex_cls o = 1) : ex_cal (d + 1) 22 [.ref o, .int a0] w = ex_ev d (ex_cal d) 22 (ex_blk 22 0, [.ref o, .int a0], [], w) := by
  rw [ex_cal_s (by simp [ex_okR, ex_isv, ex_lay, h, show ex_C 22 = 1 from rfl, show ex_L 22 = 2 from rfl])]
  rfl
theorem kr_23 : ex_ret 23 = some .boolean := rfl
theorem ke_23 {d : Nat} {o : Nat} {a0 : Int32} {w : PW} (h : ex_cls o = 1) : ex_cal (d + 1) 23 [.ref o, .int a0] w = ex_ev d (ex_cal d) 23 (ex_blk 23 0, [.ref o, .int a0], [], w) := by
  rw [ex_cal_s (by simp [ex_okR, ex_isv, ex_lay, h, show ex_C 23 = 1 from rfl, show ex_L 23 = 2 from rfl])]
  rfl
theorem kr_24 : ex_ret 24 = some .boolean := rfl
theorem ke_24 {d : Nat} {o : Nat} {a0 : Int32} {w : PW} (h : ex_cls o = 1) : ex_cal (d + 1) 24 [.ref o, .int a0] w = ex_ev d (ex_cal d) 24 (ex_blk 24 0, [.ref o, .int a0], [], w) := by
  rw [ex_cal_s (by simp [ex_okR, ex_isv, ex_lay, h, show ex_C 24 = 1 from rfl, show ex_L 24 = 2 from rfl])]
  rfl
theorem kr_25 : ex_ret 25 = some .int := rfl
theorem ke_25 {d : Nat} {o : Nat} {a0 : Int32} {a1 : Int32} {w : PW} (h : ex_cls o = 1) : ex_cal (d + 1) 25 [.ref o, .int a0, .int a1] w = ex_ev d (ex_cal d) 25 (ex_blk 25 0, [.ref o, .int a0, .int a1], [], w) := by
  rw [ex_cal_s (by simp [ex_okR, ex_isv, ex_lay, h, show ex_C 25 = 1 from rfl, show ex_L 25 = 3 from rfl])]
  rfl
theorem kr_26 : ex_ret 26 = some .int := rfl
theorem ke_26 {d : Nat} {o : Nat} {a0 : Int32} {a1 : Int32} {w : PW} (h : ex_cls o = 1) : ex_cal (d + 1) 26 [.ref o, .int a0, .int a1] w = ex_ev d (ex_cal d) 26 (ex_blk 26 0, [.ref o, .int a0, .int a1, .null], [], w) := by
  rw [ex_cal_s (by simp [ex_okR, ex_isv, ex_lay, h, show ex_C 26 = 1 from rfl, show ex_L 26 = 4 from rfl])]
  rfl
theorem kr_27 : ex_ret 27 = some .int := rfl
theorem ke_27 {d : Nat} {o : Nat} {a0 : Int32} {a1 : Int32} {a2 : Int32} {w : PW} (h : ex_cls o = 1) : ex_cal (d + 1) 27 [.ref o, .int a0, .int a1, .int a2] w = ex_ev d (ex_cal d) 27 (ex_blk 27 0, [.ref o, .int a0, .int a1, .int a2, .null], [], w) := by
  rw [ex_cal_s (by simp [ex_okR, ex_isv, ex_lay, h, show ex_C 27 = 1 from rfl, show ex_L 27 = 5 from rfl])]
  rfl
theorem kr_28 : ex_ret 28 = some .int := rfl
theorem ke_28 {d : Nat} {o : Nat} {a0 : Int32} {w : PW} (h : ex_cls o = 1) : ex_cal (d + 1) 28 [.ref o, .int a0] w = ex_ev d (ex_cal d) 28 (ex_blk 28 0, [.ref o, .int a0], [], w) := by
  rw [ex_cal_s (by simp [ex_okR, ex_isv, ex_lay, h, show ex_C 28 = 1 from rfl, show ex_L 28 = 2 from rfl])]
  rfl
theorem kr_29 : ex_ret 29 = some .int := rfl
theorem ke_29 {d : Nat} {o : Nat} {a0 : Int32} {w : PW} (h : ex_cls o = 1) : ex_cal (d + 1) 29 [.ref o, .int a0] w = ex_ev d (ex_cal d) 29 (ex_blk 29 0, [.ref o, .int a0, .null], [], w) := by
  rw [ex_cal_s (by simp [ex_okR, ex_isv, ex_lay, h, show ex_C 29 = 1 from rfl, show ex_L 29 = 3 from rfl])]
  rfl
theorem kr_30 : ex_ret 30 = some .int := rfl
theorem ke_30 {d : Nat} {o : Nat} {a0 : Int32} {a1 : Int32} {w : PW} (h : ex_cls o = 1) : ex_cal (d + 1) 30 [.ref o, .int a0, .int a1] w = ex_ev d (ex_cal d) 30 (ex_blk 30 0, [.ref o, .int a0, .int a1], [], w) := by
  rw [ex_cal_s (by simp [ex_okR, ex_isv, ex_lay, h, show ex_C 30 = 1 from rfl, show ex_L 30 = 3 from rfl])]
  rfl
theorem kr_31 : ex_ret 31 = some .int := rfl
theorem ke_31 {d : Nat} {o : Nat} {a0 : Int32} {a1 : Int32} {a2 : Int32} {a3 : Int32} {w : PW} (h : ex_cls o = 1) : ex_cal (d + 1) 31 [.ref o, .int a0, .int a1, .int a2, .int a3] w = ex_ev d (ex_cal d) 31 (ex_blk 31 0, [.ref o, .int a0, .int a1, .int a2, .int a3], [], w) := by
  rw [ex_cal_s (by simp [ex_okR, ex_isv, ex_lay, h, show ex_C 31 = 1 from rfl, show ex_L 31 = 5 from rfl])]
  rfl
theorem kr_32 : ex_ret 32 = none := rfl
theorem ke_32 {d : Nat} {o : Nat} {a0 : Int32} {a1 : Int32} {a2 : Int32} {w : PW} (h : ex_cls o = 1) : ex_cal (d + 1) 32 [.ref o, .int a0, .int a1, .int a2] w = ex_ev d (ex_cal d) 32 (ex_blk 32 0, [.ref o, .int a0, .int a1, .int a2, .null, .null, .null, .null], [], w) := by
  rw [ex_cal_s (by simp [ex_okR, ex_isv, ex_lay, h, show ex_C 32 = 1 from rfl, show ex_L 32 = 8 from rfl])]
  rfl
theorem kr_33 : ex_ret 33 = some .boolean := rfl
theorem ke_33 {d : Nat} {o : Nat} {a0 : Int32} {a1 : Int32} {w : PW} (h : ex_cls o = 1) : ex_cal (d + 1) 33 [.ref o, .int a0, .int a1] w = ex_ev d (ex_cal d) 33 (ex_blk 33 0, [.ref o, .int a0, .int a1, .null, .null, .null, .null], [], w) := by
  rw [ex_cal_s (by simp [ex_okR, ex_isv, ex_lay, h, show ex_C 33 = 1 from rfl, show ex_L 33 = 7 from rfl])]
  rfl
theorem kr_34 : ex_ret 34 = none := rfl
theorem ke_34 {d : Nat} {o : Nat} {w : PW} (h : ex_cls o = 2) : ex_cal (d + 1) 34 [.ref o] w = ex_ev d (ex_cal d) 34 (ex_blk 34 0, [.ref o], [], w) := by
  rw [ex_cal_s (by simp [ex_okR, ex_isv, ex_lay, h, show ex_C 34 = 2 from rfl, show ex_L 34 = 1 from rfl])]
  rfl
theorem kr_35 : ex_ret 35 = some .boolean := rfl
theorem ke_35 {d : Nat} {o : Nat} {a0 : Int32} {w : PW} (h : ex_cls o = 2) : ex_cal (d + 1) 35 [.ref o, .int a0] w = ex_ev d (ex_cal d) 35 (ex_blk 35 0, [.ref o, .int a0], [], w) := by
  rw [ex_cal_s (by simp [ex_okR, ex_isv, ex_lay, h, show ex_C 35 = 2 from rfl, show ex_L 35 = 2 from rfl])]
  rfl
theorem kr_36 : ex_ret 36 = some .boolean := rfl
theorem ke_36 {d : Nat} {o : Nat} {w : PW} (h : ex_cls o = 2) : ex_cal (d + 1) 36 [.ref o] w = ex_ev d (ex_cal d) 36 (ex_blk 36 0, [.ref o], [], w) := by
  rw [ex_cal_s (by simp [ex_okR, ex_isv, ex_lay, h, show ex_C 36 = 2 from rfl, show ex_L 36 = 1 from rfl])]
  rfl
theorem kr_37 : ex_ret 37 = some .boolean := rfl
theorem ke_37 {d : Nat} {o : Nat} {w : PW} (h : ex_cls o = 2) : ex_cal (d + 1) 37 [.ref o] w = ex_ev d (ex_cal d) 37 (ex_blk 37 0, [.ref o], [], w) := by
  rw [ex_cal_s (by simp [ex_okR, ex_isv, ex_lay, h, show ex_C 37 = 2 from rfl, show ex_L 37 = 1 from rfl])]
  rfl
theorem kr_38 : ex_ret 38 = some .boolean := rfl
theorem ke_38 {d : Nat} {o : Nat} {w : PW} (h : ex_cls o = 2) : ex_cal (d + 1) 38 [.ref o] w = ex_ev d (ex_cal d) 38 (ex_blk 38 0, [.ref o], [], w) := by
  rw [ex_cal_s (by simp [ex_okR, ex_isv, ex_lay, h, show ex_C 38 = 2 from rfl, show ex_L 38 = 1 from rfl])]
  rfl
theorem kr_39 : ex_ret 39 = some .boolean := rfl
theorem ke_39 {d : Nat} {o : Nat} {w : PW} (h : ex_cls o = 2) : ex_cal (d + 1) 39 [.ref o] w = ex_ev d (ex_cal d) 39 (ex_blk 39 0, [.ref o], [], w) := by
  rw [ex_cal_s (by simp [ex_okR, ex_isv, ex_lay, h, show ex_C 39 = 2 from rfl, show ex_L 39 = 1 from rfl])]
  rfl
theorem kr_40 : ex_ret 40 = some .boolean := rfl
theorem ke_40 {d : Nat} {o : Nat} {w : PW} (h : ex_cls o = 2) : ex_cal (d + 1) 40 [.ref o] w = ex_ev d (ex_cal d) 40 (ex_blk 40 0, [.ref o], [], w) := by
  rw [ex_cal_s (by simp [ex_okR, ex_isv, ex_lay, h, show ex_C 40 = 2 from rfl, show ex_L 40 = 1 from rfl])]
  rfl
theorem kr_41 : ex_ret 41 = none := rfl
theorem ke_41 {d : Nat} {o : Nat} {a0 : Nat} {a1 : Nat} {a2 : Nat} {w : PW} (h : ex_cls o = 3) : ex_cal (d + 1) 41 [.ref o, .ref a0, .ref a1, .ref a2] w = ex_ev d (ex_cal d) 41 (ex_blk 41 0, [.ref o, .ref a0, .ref a1, .ref a2, .null, .null], [], w) := by
  rw [ex_cal_s (by simp [ex_okR, ex_isv, ex_lay, h, show ex_C 41 = 3 from rfl, show ex_L 41 = 6 from rfl])]
  rfl
theorem kr_42 : ex_ret 42 = none := rfl
theorem ke_42 {d : Nat} {o : Nat} {a0 : Nat} {a1 : Nat} {a2 : Int32} {a3 : Int32} {w : PW} (h : ex_cls o = 3) : ex_cal (d + 1) 42 [.ref o, .ref a0, .ref a1, .int a2, .int a3] w = ex_ev d (ex_cal d) 42 (ex_blk 42 0, [.ref o, .ref a0, .ref a1, .int a2, .int a3, .null, .null, .null], [], w) := by
  rw [ex_cal_s (by simp [ex_okR, ex_isv, ex_lay, h, show ex_C 42 = 3 from rfl, show ex_L 42 = 8 from rfl])]
  rfl
theorem kr_43 : ex_ret 43 = some .int := rfl
theorem ke_43 {d : Nat} {a0 : Int32} {w : PW} : ex_cal (d + 1) 43 [.int a0] w = ex_ev d (ex_cal d) 43 (ex_blk 43 0, [.int a0], [], w) := by
  rw [ex_cal_s (rfl)]
  rfl
theorem kr_44 : ex_ret 44 = none := rfl
theorem ke_44 {d : Nat} {o : Nat} {a0 : Nat} {a1 : Int32} {a2 : Int32} {a3 : Int32} {w : PW} (h : ex_cls o = 3) : ex_cal (d + 1) 44 [.ref o, .ref a0, .int a1, .int a2, .int a3] w = ex_ev d (ex_cal d) 44 (ex_blk 44 0, [.ref o, .ref a0, .int a1, .int a2, .int a3, .null], [], w) := by
  rw [ex_cal_s (by simp [ex_okR, ex_isv, ex_lay, h, show ex_C 44 = 3 from rfl, show ex_L 44 = 6 from rfl])]
  rfl
theorem kr_45 : ex_ret 45 = none := rfl
theorem ke_45 {d : Nat} {o : Nat} {a0 : Int32} {a1 : Int32} {a2 : Int32} {w : PW} (h : ex_cls o = 3) : ex_cal (d + 1) 45 [.ref o, .int a0, .int a1, .int a2] w = ex_ev d (ex_cal d) 45 (ex_blk 45 0, [.ref o, .int a0, .int a1, .int a2], [], w) := by
  rw [ex_cal_s (by simp [ex_okR, ex_isv, ex_lay, h, show ex_C 45 = 3 from rfl, show ex_L 45 = 4 from rfl])]
  rfl
theorem kr_46 : ex_ret 46 = some .int := rfl
theorem ke_46 {d : Nat} {o : Nat} {w : PW} (h : ex_cls o = 3) : ex_cal (d + 1) 46 [.ref o] w = ex_ev d (ex_cal d) 46 (ex_blk 46 0, [.ref o], [], w) := by
  rw [ex_cal_s (by simp [ex_okR, ex_isv, ex_lay, h, show ex_C 46 = 3 from rfl, show ex_L 46 = 1 from rfl])]
  rfl
theorem kr_47 : ex_ret 47 = some .int := rfl
theorem ke_47 {d : Nat} {o : Nat} {a0 : Int32} {w : PW} (h : ex_cls o = 3) : ex_cal (d + 1) 47 [.ref o, .int a0] w = ex_ev d (ex_cal d) 47 (ex_blk 47 0, [.ref o, .int a0], [], w) := by
  rw [ex_cal_s (by simp [ex_okR, ex_isv, ex_lay, h, show ex_C 47 = 3 from rfl, show ex_L 47 = 2 from rfl])]
  rfl
theorem kr_48 : ex_ret 48 = some .boolean := rfl
theorem ke_48 {d : Nat} {o : Nat} {a0 : Int32} {w : PW} (h : ex_cls o = 3) : ex_cal (d + 1) 48 [.ref o, .int a0] w = ex_ev d (ex_cal d) 48 (ex_blk 48 0, [.ref o, .int a0], [], w) := by
  rw [ex_cal_s (by simp [ex_okR, ex_isv, ex_lay, h, show ex_C 48 = 3 from rfl, show ex_L 48 = 2 from rfl])]
  rfl
theorem kr_49 : ex_ret 49 = some .boolean := rfl
theorem ke_49 {d : Nat} {o : Nat} {a0 : Int32} {a1 : Int32} {a2 : Int32} {a3 : Int32} {w : PW} (h : ex_cls o = 3) : ex_cal (d + 1) 49 [.ref o, .int a0, .int a1, .int a2, .int a3] w = ex_ev d (ex_cal d) 49 (ex_blk 49 0, [.ref o, .int a0, .int a1, .int a2, .int a3, .null, .null], [], w) := by
  rw [ex_cal_s (by simp [ex_okR, ex_isv, ex_lay, h, show ex_C 49 = 3 from rfl, show ex_L 49 = 7 from rfl])]
  rfl
theorem kr_50 : ex_ret 50 = some .boolean := rfl
theorem ke_50 {d : Nat} {o : Nat} {a0 : Int32} {a1 : Int32} {w : PW} (h : ex_cls o = 3) : ex_cal (d + 1) 50 [.ref o, .int a0, .int a1] w = ex_ev d (ex_cal d) 50 (ex_blk 50 0, [.ref o, .int a0, .int a1], [], w) := by
  rw [ex_cal_s (by simp [ex_okR, ex_isv, ex_lay, h, show ex_C 50 = 3 from rfl, show ex_L 50 = 3 from rfl])]
  rfl
theorem kr_51 : ex_ret 51 = some .int := rfl
theorem ke_51 {d : Nat} {o : Nat} {a0 : Int32} {a1 : Int32} {w : PW} (h : ex_cls o = 3) : ex_cal (d + 1) 51 [.ref o, .int a0, .int a1] w = ex_ev d (ex_cal d) 51 (ex_blk 51 0, [.ref o, .int a0, .int a1, .null], [], w) := by
  rw [ex_cal_s (by simp [ex_okR, ex_isv, ex_lay, h, show ex_C 51 = 3 from rfl, show ex_L 51 = 4 from rfl])]
  rfl
theorem kr_52 : ex_ret 52 = some .boolean := rfl
theorem ke_52 {d : Nat} {o : Nat} {w : PW} (h : ex_cls o = 3) : ex_cal (d + 1) 52 [.ref o] w = ex_ev d (ex_cal d) 52 (ex_blk 52 0, [.ref o, .null, .null, .null], [], w) := by
  rw [ex_cal_s (by simp [ex_okR, ex_isv, ex_lay, h, show ex_C 52 = 3 from rfl, show ex_L 52 = 4 from rfl])]
  rfl
theorem kr_53 : ex_ret 53 = none := rfl
theorem ke_53 {d : Nat} {o : Nat} {w : PW} (h : ex_cls o = 4) : ex_cal (d + 1) 53 [.ref o] w = ex_ev d (ex_cal d) 53 (ex_blk 53 0, [.ref o], [], w) := by
  rw [ex_cal_s (by simp [ex_okR, ex_isv, ex_lay, h, show ex_C 53 = 4 from rfl, show ex_L 53 = 1 from rfl])]
  rfl
theorem kr_54 : ex_ret 54 = some .boolean := rfl
theorem ke_54 {d : Nat} {o : Nat} {a0 : Int32} {w : PW} (h : ex_cls o = 4) : ex_cal (d + 1) 54 [.ref o, .int a0] w = ex_ev d (ex_cal d) 54 (ex_blk 54 0, [.ref o, .int a0], [], w) := by
  rw [ex_cal_s (by simp [ex_okR, ex_isv, ex_lay, h, show ex_C 54 = 4 from rfl, show ex_L 54 = 2 from rfl])]
  rfl
theorem kr_55 : ex_ret 55 = some .boolean := rfl
theorem ke_55 {d : Nat} {o : Nat} {a0 : Int32} {w : PW} (h : ex_cls o = 4) : ex_cal (d + 1) 55 [.ref o, .int a0] w = ex_ev d (ex_cal d) 55 (ex_blk 55 0, [.ref o, .int a0], [], w) := by
  rw [ex_cal_s (by simp [ex_okR, ex_isv, ex_lay, h, show ex_C 55 = 4 from rfl, show ex_L 55 = 2 from rfl])]
  rfl
theorem kr_56 : ex_ret 56 = some .boolean := rfl
theorem ke_56 {d : Nat} {o : Nat} {a0 : Int32} {w : PW} (h : ex_cls o = 4) : ex_cal (d + 1) 56 [.ref o, .int a0] w = ex_ev d (ex_cal d) 56 (ex_blk 56 0, [.ref o, .int a0], [], w) := by
  rw [ex_cal_s (by simp [ex_okR, ex_isv, ex_lay, h, show ex_C 56 = 4 from rfl, show ex_L 56 = 2 from rfl])]
  rfl
theorem kr_57 : ex_ret 57 = some .boolean := rfl
theorem ke_57 {d : Nat} {o : Nat} {a0 : Int32} {w : PW} (h : ex_cls o = 4) : ex_cal (d + 1) 57 [.ref o, .int a0] w = ex_ev d (ex_cal d) 57 (ex_blk 57 0, [.ref o, .int a0, .null], [], w) := by
  rw [ex_cal_s (by simp [ex_okR, ex_isv, ex_lay, h, show ex_C 57 = 4 from rfl, show ex_L 57 = 3 from rfl])]
  rfl
theorem kr_58 : ex_ret 58 = some .boolean := rfl
theorem ke_58 {d : Nat} {o : Nat} {a0 : Int32} {w : PW} (h : ex_cls o = 4) : ex_cal (d + 1) 58 [.ref o, .int a0] w = ex_ev d (ex_cal d) 58 (ex_blk 58 0, [.ref o, .int a0, .null], [], w) := by
  rw [ex_cal_s (by simp [ex_okR, ex_isv, ex_lay, h, show ex_C 58 = 4 from rfl, show ex_L 58 = 3 from rfl])]
  rfl
theorem kr_59 : ex_ret 59 = some .int := rfl
theorem ke_59 {d : Nat} {o : Nat} {a0 : Int32} {a1 : Int32} {w : PW} (h : ex_cls o = 4) : ex_cal (d + 1) 59 [.ref o, .int a0, .int a1] w = ex_ev d (ex_cal d) 59 (ex_blk 59 0, [.ref o, .int a0, .int a1, .null], [], w) := by
  rw [ex_cal_s (by simp [ex_okR, ex_isv, ex_lay, h, show ex_C 59 = 4 from rfl, show ex_L 59 = 4 from rfl])]
  rfl
theorem kr_60 : ex_ret 60 = some .int := rfl
theorem ke_60 {d : Nat} {a0 : Int32} {w : PW} : ex_cal (d + 1) 60 [.int a0] w = ex_ev d (ex_cal d) 60 (ex_blk 60 0, [.int a0], [], w) := by
  rw [ex_cal_s (rfl)]
  rfl
theorem kr_61 : ex_ret 61 = some .boolean := rfl
theorem ke_61 {d : Nat} {o : Nat} {w : PW} (h : ex_cls o = 4) : ex_cal (d + 1) 61 [.ref o] w = ex_ev d (ex_cal d) 61 (ex_blk 61 0, [.ref o], [], w) := by
  rw [ex_cal_s (by simp [ex_okR, ex_isv, ex_lay, h, show ex_C 61 = 4 from rfl, show ex_L 61 = 1 from rfl])]
  rfl
theorem kr_62 : ex_ret 62 = some .int := rfl
theorem ke_62 {d : Nat} {o : Nat} {a0 : Int32} {w : PW} (h : ex_cls o = 4) : ex_cal (d + 1) 62 [.ref o, .int a0] w = ex_ev d (ex_cal d) 62 (ex_blk 62 0, [.ref o, .int a0], [], w) := by
  rw [ex_cal_s (by simp [ex_okR, ex_isv, ex_lay, h, show ex_C 62 = 4 from rfl, show ex_L 62 = 2 from rfl])]
  rfl
theorem kr_63 : ex_ret 63 = some .boolean := rfl
theorem ke_63 {d : Nat} {a0 : Int32} {a1 : Int32} {w : PW} : ex_cal (d + 1) 63 [.int a0, .int a1] w = ex_ev d (ex_cal d) 63 (ex_blk 63 0, [.int a0, .int a1], [], w) := by
  rw [ex_cal_s (rfl)]
  rfl
theorem kr_64 : ex_ret 64 = some .int := rfl
theorem ke_64 {d : Nat} {o : Nat} {w : PW} (h : ex_cls o = 5) : ex_cal (d + 1) 64 [.ref o] w = ex_ev d (ex_cal d) 64 (ex_blk 64 0, [.ref o], [], w) := by
  rw [ex_cal_s (by simp [ex_okR, ex_isv, ex_lay, h, show ex_C 64 = 5 from rfl, show ex_L 64 = 1 from rfl])]
  rfl
theorem kr_65 : ex_ret 65 = some .boolean := rfl
theorem ke_65 {d : Nat} {o : Nat} {w : PW} (h : ex_cls o = 5) : ex_cal (d + 1) 65 [.ref o] w = ex_ev d (ex_cal d) 65 (ex_blk 65 0, [.ref o], [], w) := by
  rw [ex_cal_s (by simp [ex_okR, ex_isv, ex_lay, h, show ex_C 65 = 5 from rfl, show ex_L 65 = 1 from rfl])]
  rfl
theorem kr_66 : ex_ret 66 = some .int := rfl
theorem ke_66 {d : Nat} {o : Nat} {a0 : Nat} {w : PW} (h : ex_cls o = 5) : ex_cal (d + 1) 66 [.ref o, .ref a0] w = ex_ev d (ex_cal d) 66 (ex_blk 66 0, [.ref o, .ref a0], [], w) := by
  rw [ex_cal_s (by simp [ex_okR, ex_isv, ex_lay, h, show ex_C 66 = 5 from rfl, show ex_L 66 = 2 from rfl])]
  rfl
theorem kr_67 : ex_ret 67 = some .int := rfl
theorem ke_67 {d : Nat} {o : Nat} {a0 : Int32} {a1 : Int32} {w : PW} (h : ex_cls o = 5) : ex_cal (d + 1) 67 [.ref o, .int a0, .int a1] w = ex_ev d (ex_cal d) 67 (ex_blk 67 0, [.ref o, .int a0, .int a1], [], w) := by
  rw [ex_cal_s (by simp [ex_okR, ex_isv, ex_lay, h, show ex_C 67 = 5 from rfl, show ex_L 67 = 3 from rfl])]
  rfl
theorem kr_68 : ex_ret 68 = some .int := rfl
theorem ke_68 {d : Nat} {o : Nat} {a0 : Nat} {a1 : Int32} {a2 : Int32} {a3 : Int32} {a4 : Int32} {a5 : Int32} {w : PW} (h : ex_cls o = 5) : ex_cal (d + 1) 68 [.ref o, .ref a0, .int a1, .int a2, .int a3, .int a4, .int a5] w = ex_ev d (ex_cal d) 68 (ex_blk 68 0, [.ref o, .ref a0, .int a1, .int a2, .int a3, .int a4, .int a5, .null, .null], [], w) := by
  rw [ex_cal_s (by simp [ex_okR, ex_isv, ex_lay, h, show ex_C 68 = 5 from rfl, show ex_L 68 = 9 from rfl])]
  rfl
theorem kr_69 : ex_ret 69 = some .boolean := rfl
theorem ke_69 {d : Nat} {o : Nat} {a0 : Int32} {a1 : Int32} {w : PW} (h : ex_cls o = 5) : ex_cal (d + 1) 69 [.ref o, .int a0, .int a1] w = ex_ev d (ex_cal d) 69 (ex_blk 69 0, [.ref o, .int a0, .int a1, .null, .null], [], w) := by
  rw [ex_cal_s (by simp [ex_okR, ex_isv, ex_lay, h, show ex_C 69 = 5 from rfl, show ex_L 69 = 5 from rfl])]
  rfl
theorem kr_70 : ex_ret 70 = some .boolean := rfl
theorem ke_70 {d : Nat} {o : Nat} {a0 : Nat} {a1 : Int32} {a2 : Int32} {a3 : Int32} {a4 : Int32} {w : PW} (h : ex_cls o = 5) : ex_cal (d + 1) 70 [.ref o, .ref a0, .int a1, .int a2, .int a3, .int a4] w = ex_ev d (ex_cal d) 70 (ex_blk 70 0, [.ref o, .ref a0, .int a1, .int a2, .int a3, .int a4, .null, .null], [], w) := by
  rw [ex_cal_s (by simp [ex_okR, ex_isv, ex_lay, h, show ex_C 70 = 5 from rfl, show ex_L 70 = 8 from rfl])]
  rfl
theorem kr_71 : ex_ret 71 = none := rfl
theorem ke_71 {d : Nat} {o : Nat} {a0 : Nat} {a1 : Nat} {w : PW} (h : ex_cls o = 6) : ex_cal (d + 1) 71 [.ref o, .ref a0, .ref a1] w = ex_ev d (ex_cal d) 71 (ex_blk 71 0, [.ref o, .ref a0, .ref a1, .null], [], w) := by
  rw [ex_cal_s (by simp [ex_okR, ex_isv, ex_lay, h, show ex_C 71 = 6 from rfl, show ex_L 71 = 4 from rfl])]
  rfl
theorem kr_72 : ex_ret 72 = some .int := rfl
theorem ke_72 {d : Nat} {o : Nat} {a0 : Int32} {w : PW} (h : ex_cls o = 6) : ex_cal (d + 1) 72 [.ref o, .int a0] w = ex_ev d (ex_cal d) 72 (ex_blk 72 0, [.ref o, .int a0], [], w) := by
  rw [ex_cal_s (by simp [ex_okR, ex_isv, ex_lay, h, show ex_C 72 = 6 from rfl, show ex_L 72 = 2 from rfl])]
  rfl
theorem kr_73 : ex_ret 73 = some .boolean := rfl
theorem ke_73 {d : Nat} {o : Nat} {a0 : Nat} {w : PW} (h : ex_cls o = 6) : ex_cal (d + 1) 73 [.ref o, .ref a0] w = ex_ev d (ex_cal d) 73 (ex_blk 73 0, [.ref o, .ref a0, .null], [], w) := by
  rw [ex_cal_s (by simp [ex_okR, ex_isv, ex_lay, h, show ex_C 73 = 6 from rfl, show ex_L 73 = 3 from rfl])]
  rfl
theorem kr_74 : ex_ret 74 = none := rfl
theorem ke_74 {d : Nat} {o : Nat} {a0 : Int32} {a1 : Int32} {a2 : Int32} {w : PW} (h : ex_cls o = 6) : ex_cal (d + 1) 74 [.ref o, .int a0, .int a1, .int a2] w = ex_ev d (ex_cal d) 74 (ex_blk 74 0, [.ref o, .int a0, .int a1, .int a2], [], w) := by
  rw [ex_cal_s (by simp [ex_okR, ex_isv, ex_lay, h, show ex_C 74 = 6 from rfl, show ex_L 74 = 4 from rfl])]
  rfl
theorem kr_75 : ex_ret 75 = some .int := rfl
theorem ke_75 {d : Nat} {o : Nat} {a0 : Int32} {w : PW} (h : ex_cls o = 6) : ex_cal (d + 1) 75 [.ref o, .int a0] w = ex_ev d (ex_cal d) 75 (ex_blk 75 0, [.ref o, .int a0], [], w) := by
  rw [ex_cal_s (by simp [ex_okR, ex_isv, ex_lay, h, show ex_C 75 = 6 from rfl, show ex_L 75 = 2 from rfl])]
  rfl
theorem kr_76 : ex_ret 76 = some .boolean := rfl
theorem ke_76 {d : Nat} {o : Nat} {a0 : Nat} {a1 : Nat} {w : PW} (h : ex_cls o = 6) : ex_cal (d + 1) 76 [.ref o, .ref a0, .ref a1] w = ex_ev d (ex_cal d) 76 (ex_blk 76 0, [.ref o, .ref a0, .ref a1, .null], [], w) := by
  rw [ex_cal_s (by simp [ex_okR, ex_isv, ex_lay, h, show ex_C 76 = 6 from rfl, show ex_L 76 = 4 from rfl])]
  rfl
theorem kr_77 : ex_ret 77 = some .boolean := rfl
theorem ke_77 {d : Nat} {o : Nat} {a0 : Int32} {a1 : Nat} {a2 : Nat} {w : PW} (h : ex_cls o = 6) : ex_cal (d + 1) 77 [.ref o, .int a0, .ref a1, .ref a2] w = ex_ev d (ex_cal d) 77 (ex_blk 77 0, [.ref o, .int a0, .ref a1, .ref a2, .null, .null, .null, .null, .null], [], w) := by
  rw [ex_cal_s (by simp [ex_okR, ex_isv, ex_lay, h, show ex_C 77 = 6 from rfl, show ex_L 77 = 9 from rfl])]
  rfl
theorem kr_78 : ex_ret 78 = none := rfl
theorem ke_78 {d : Nat} {o : Nat} {a0 : Nat} {a1 : Nat} {w : PW} (h : ex_cls o = 6) : ex_cal (d + 1) 78 [.ref o, .ref a0, .ref a1] w = ex_ev d (ex_cal d) 78 (ex_blk 78 0, [.ref o, .ref a0, .ref a1, .null, .null, .null, .null, .null], [], w) := by
  rw [ex_cal_s (by simp [ex_okR, ex_isv, ex_lay, h, show ex_C 78 = 6 from rfl, show ex_L 78 = 8 from rfl])]
  rfl
theorem kr_79 : ex_ret 79 = some .boolean := rfl
theorem ke_79 {d : Nat} {o : Nat} {a0 : Int32} {a1 : Nat} {a2 : Nat} {w : PW} (h : ex_cls o = 6) : ex_cal (d + 1) 79 [.ref o, .int a0, .ref a1, .ref a2] w = ex_ev d (ex_cal d) 79 (ex_blk 79 0, [.ref o, .int a0, .ref a1, .ref a2, .null, .null], [], w) := by
  rw [ex_cal_s (by simp [ex_okR, ex_isv, ex_lay, h, show ex_C 79 = 6 from rfl, show ex_L 79 = 6 from rfl])]
  rfl
theorem kr_80 : ex_ret 80 = some .int := rfl
theorem ke_80 {d : Nat} {o : Nat} {a0 : Int32} {a1 : Int32} {w : PW} (h : ex_cls o = 6) : ex_cal (d + 1) 80 [.ref o, .int a0, .int a1] w = ex_ev d (ex_cal d) 80 (ex_blk 80 0, [.ref o, .int a0, .int a1, .null, .null], [], w) := by
  rw [ex_cal_s (by simp [ex_okR, ex_isv, ex_lay, h, show ex_C 80 = 6 from rfl, show ex_L 80 = 5 from rfl])]
  rfl
theorem kr_81 : ex_ret 81 = some .boolean := rfl
theorem ke_81 {d : Nat} {o : Nat} {a0 : Nat} {a1 : Int32} {w : PW} (h : ex_cls o = 6) : ex_cal (d + 1) 81 [.ref o, .ref a0, .int a1] w = ex_ev d (ex_cal d) 81 (ex_blk 81 0, [.ref o, .ref a0, .int a1, .null], [], w) := by
  rw [ex_cal_s (by simp [ex_okR, ex_isv, ex_lay, h, show ex_C 81 = 6 from rfl, show ex_L 81 = 4 from rfl])]
  rfl
theorem kr_82 : ex_ret 82 = some .boolean := rfl
theorem ke_82 {d : Nat} {o : Nat} {a0 : Nat} {a1 : Int32} {w : PW} (h : ex_cls o = 6) : ex_cal (d + 1) 82 [.ref o, .ref a0, .int a1] w = ex_ev d (ex_cal d) 82 (ex_blk 82 0, [.ref o, .ref a0, .int a1], [], w) := by
  rw [ex_cal_s (by simp [ex_okR, ex_isv, ex_lay, h, show ex_C 82 = 6 from rfl, show ex_L 82 = 3 from rfl])]
  rfl
theorem kr_83 : ex_ret 83 = some .boolean := rfl
theorem ke_83 {d : Nat} {o : Nat} {a0 : Nat} {a1 : Int32} {a2 : Int32} {w : PW} (h : ex_cls o = 6) : ex_cal (d + 1) 83 [.ref o, .ref a0, .int a1, .int a2] w = ex_ev d (ex_cal d) 83 (ex_blk 83 0, [.ref o, .ref a0, .int a1, .int a2, .null], [], w) := by
  rw [ex_cal_s (by simp [ex_okR, ex_isv, ex_lay, h, show ex_C 83 = 6 from rfl, show ex_L 83 = 5 from rfl])]
  rfl
theorem kr_84 : ex_ret 84 = some .int := rfl
theorem ke_84 {d : Nat} {a0 : Int64} {w : PW} : ex_cal (d + 1) 84 [.long a0] w = ex_ev d (ex_cal d) 84 (ex_blk 84 0, [.long a0, .retAddr 0, .null, .null, .null, .null], [], w) := by
  rw [ex_cal_s (rfl)]
  rfl
theorem kr_85 : ex_ret 85 = some .int := rfl
theorem ke_85 {d : Nat} {a0 : Int64} {a1 : Int32} {w : PW} : ex_cal (d + 1) 85 [.long a0, .int a1] w = ex_ev d (ex_cal d) 85 (ex_blk 85 0, [.long a0, .retAddr 0, .int a1], [], w) := by
  rw [ex_cal_s (rfl)]
  rfl
theorem kr_86 : ex_ret 86 = none := rfl
theorem ke_86 {d : Nat} {o : Nat} {a0 : Int64} {a1 : Int32} {w : PW} (h : ex_cls o = 7) : ex_cal (d + 1) 86 [.ref o, .long a0, .int a1] w = ex_ev d (ex_cal d) 86 (ex_blk 86 0, [.ref o, .long a0, .retAddr 0, .int a1, .null], [], w) := by
  rw [ex_cal_s (by simp [ex_okR, ex_isv, ex_lay, h, show ex_C 86 = 7 from rfl, show ex_L 86 = 5 from rfl])]
  rfl
theorem kr_87 : ex_ret 87 = some .int := rfl
theorem ke_87 {d : Nat} {o : Nat} {w : PW} (h : ex_cls o = 7) : ex_cal (d + 1) 87 [.ref o] w = ex_ev d (ex_cal d) 87 (ex_blk 87 0, [.ref o], [], w) := by
  rw [ex_cal_s (by simp [ex_okR, ex_isv, ex_lay, h, show ex_C 87 = 7 from rfl, show ex_L 87 = 1 from rfl])]
  rfl
theorem kr_88 : ex_ret 88 = some .int := rfl
theorem ke_88 {d : Nat} {o : Nat} {a0 : Int32} {w : PW} (h : ex_cls o = 7) : ex_cal (d + 1) 88 [.ref o, .int a0] w = ex_ev d (ex_cal d) 88 (ex_blk 88 0, [.ref o, .int a0], [], w) := by
  rw [ex_cal_s (by simp [ex_okR, ex_isv, ex_lay, h, show ex_C 88 = 7 from rfl, show ex_L 88 = 2 from rfl])]
  rfl
theorem kr_89 : ex_ret 89 = none := rfl
theorem ke_89 {d : Nat} {o : Nat} {w : PW} (h : ex_cls o = 7) : ex_cal (d + 1) 89 [.ref o] w = ex_ev d (ex_cal d) 89 (ex_blk 89 0, [.ref o], [], w) := by
  rw [ex_cal_s (by simp [ex_okR, ex_isv, ex_lay, h, show ex_C 89 = 7 from rfl, show ex_L 89 = 1 from rfl])]
  rfl
theorem kr_90 : ex_ret 90 = some .int := rfl
theorem ke_90 {d : Nat} {o : Nat} {w : PW} (h : ex_cls o = 8) : ex_cal (d + 1) 90 [.ref o] w = ex_ev d (ex_cal d) 90 (ex_blk 90 0, [.ref o], [], w) := by
  rw [ex_cal_s (by simp [ex_okR, ex_isv, ex_lay, h, show ex_C 90 = 8 from rfl, show ex_L 90 = 1 from rfl])]
  rfl
theorem kr_91 : ex_ret 91 = some .boolean := rfl
theorem ke_91 {d : Nat} {o : Nat} {w : PW} (h : ex_cls o = 8) : ex_cal (d + 1) 91 [.ref o] w = ex_ev d (ex_cal d) 91 (ex_blk 91 0, [.ref o], [], w) := by
  rw [ex_cal_s (by simp [ex_okR, ex_isv, ex_lay, h, show ex_C 91 = 8 from rfl, show ex_L 91 = 1 from rfl])]
  rfl
theorem kr_92 : ex_ret 92 = some .int := rfl
theorem ke_92 {d : Nat} {o : Nat} {a0 : Int32} {a1 : Int32} {a2 : Int32} {a3 : Int32} {a4 : Int32} {w : PW} (h : ex_cls o = 8) : ex_cal (d + 1) 92 [.ref o, .int a0, .int a1, .int a2, .int a3, .int a4] w = ex_ev d (ex_cal d) 92 (ex_blk 92 0, [.ref o, .int a0, .int a1, .int a2, .int a3, .int a4, .null], [], w) := by
  rw [ex_cal_s (by simp [ex_okR, ex_isv, ex_lay, h, show ex_C 92 = 8 from rfl, show ex_L 92 = 7 from rfl])]
  rfl
theorem kr_93 : ex_ret 93 = some .int := rfl
theorem ke_93 {d : Nat} {o : Nat} {a0 : Int32} {a1 : Int32} {w : PW} (h : ex_cls o = 8) : ex_cal (d + 1) 93 [.ref o, .int a0, .int a1] w = ex_ev d (ex_cal d) 93 (ex_blk 93 0, [.ref o, .int a0, .int a1, .null], [], w) := by
  rw [ex_cal_s (by simp [ex_okR, ex_isv, ex_lay, h, show ex_C 93 = 8 from rfl, show ex_L 93 = 4 from rfl])]
  rfl
theorem kr_94 : ex_ret 94 = none := rfl
theorem ke_94 {d : Nat} {o : Nat} {a0 : Int32} {a1 : Int32} {a2 : Int32} {w : PW} (h : ex_cls o = 8) : ex_cal (d + 1) 94 [.ref o, .int a0, .int a1, .int a2] w = ex_ev d (ex_cal d) 94 (ex_blk 94 0, [.ref o, .int a0, .int a1, .int a2, .null], [], w) := by
  rw [ex_cal_s (by simp [ex_okR, ex_isv, ex_lay, h, show ex_C 94 = 8 from rfl, show ex_L 94 = 5 from rfl])]
  rfl
theorem kr_95 : ex_ret 95 = none := rfl
theorem ke_95 {d : Nat} {o : Nat} {w : PW} (h : ex_cls o = 8) : ex_cal (d + 1) 95 [.ref o] w = ex_ev d (ex_cal d) 95 (ex_blk 95 0, [.ref o], [], w) := by
  rw [ex_cal_s (by simp [ex_okR, ex_isv, ex_lay, h, show ex_C 95 = 8 from rfl, show ex_L 95 = 1 from rfl])]
  rfl
theorem kr_96 : ex_ret 96 = none := rfl
theorem ke_96 {d : Nat} {o : Nat} {a0 : Nat} {w : PW} (h : ex_cls o = 8) : ex_cal (d + 1) 96 [.ref o, .ref a0] w = ex_ev d (ex_cal d) 96 (ex_blk 96 0, [.ref o, .ref a0], [], w) := by
  rw [ex_cal_s (by simp [ex_okR, ex_isv, ex_lay, h, show ex_C 96 = 8 from rfl, show ex_L 96 = 2 from rfl])]
  rfl
theorem kr_97 : ex_ret 97 = some .int := rfl
theorem ke_97 {d : Nat} {o : Nat} {a0 : Nat} {w : PW} (h : ex_cls o = 2 ∨ ex_cls o = 4) : ex_cal (d + 1) 97 [.ref o, .ref a0] w = ex_ev d (ex_cal d) 97 (ex_blk 97 0, [.ref o, .ref a0, .null], [], w) := by
  rw [ex_cal_s (by rcases h with h | h <;> simp [ex_okR, ex_isv, ex_lay, h, show ex_C 97 = 9 from rfl, show ex_L 97 = 3 from rfl])]
  rfl
theorem kr_98 : ex_ret 98 = some .boolean := rfl
theorem ke_98 {d : Nat} {o : Nat} {a0 : Nat} {w : PW} (h : ex_cls o = 2 ∨ ex_cls o = 4) : ex_cal (d + 1) 98 [.ref o, .ref a0] w = ex_ev d (ex_cal d) 98 (ex_blk 98 0, [.ref o, .ref a0], [], w) := by
  rw [ex_cal_s (by rcases h with h | h <;> simp [ex_okR, ex_isv, ex_lay, h, show ex_C 98 = 9 from rfl, show ex_L 98 = 2 from rfl])]
  rfl
theorem kr_99 : ex_ret 99 = some .int := rfl
theorem ke_99 {d : Nat} {o : Nat} {a0 : Int64} {w : PW} (h : ex_cls o = 10) : ex_cal (d + 1) 99 [.ref o, .long a0] w = ex_ev d (ex_cal d) 99 (ex_blk 99 0, [.ref o, .long a0, .retAddr 0, .null], [], w) := by
  rw [ex_cal_s (by simp [ex_okR, ex_isv, ex_lay, h, show ex_C 99 = 10 from rfl, show ex_L 99 = 4 from rfl])]
  rfl
theorem kr_100 : ex_ret 100 = some .int := rfl
theorem ke_100 {d : Nat} {o : Nat} {w : PW} (h : ex_cls o = 10) : ex_cal (d + 1) 100 [.ref o] w = ex_ev d (ex_cal d) 100 (ex_blk 100 0, [.ref o, .null], [], w) := by
  rw [ex_cal_s (by simp [ex_okR, ex_isv, ex_lay, h, show ex_C 100 = 10 from rfl, show ex_L 100 = 2 from rfl])]
  rfl
theorem kr_101 : ex_ret 101 = some .int := rfl
theorem ke_101 {d : Nat} {o : Nat} {a0 : Int32} {w : PW} (h : ex_cls o = 10) : ex_cal (d + 1) 101 [.ref o, .int a0] w = ex_ev d (ex_cal d) 101 (ex_blk 101 0, [.ref o, .int a0], [], w) := by
  rw [ex_cal_s (by simp [ex_okR, ex_isv, ex_lay, h, show ex_C 101 = 10 from rfl, show ex_L 101 = 2 from rfl])]
  rfl
theorem kr_102 : ex_ret 102 = some .int := rfl
theorem ke_102 {d : Nat} {o : Nat} {w : PW} (h : ex_cls o = 10) : ex_cal (d + 1) 102 [.ref o] w = ex_ev d (ex_cal d) 102 (ex_blk 102 0, [.ref o], [], w) := by
  rw [ex_cal_s (by simp [ex_okR, ex_isv, ex_lay, h, show ex_C 102 = 10 from rfl, show ex_L 102 = 1 from rfl])]
  rfl
theorem kr_103 : ex_ret 103 = some .int := rfl
theorem ke_103 {d : Nat} {o : Nat} {w : PW} (h : ex_cls o = 10) : ex_cal (d + 1) 103 [.ref o] w = ex_ev d (ex_cal d) 103 (ex_blk 103 0, [.ref o], [], w) := by
  rw [ex_cal_s (by simp [ex_okR, ex_isv, ex_lay, h, show ex_C 103 = 10 from rfl, show ex_L 103 = 1 from rfl])]
  rfl
theorem kr_104 : ex_ret 104 = some .int := rfl
theorem ke_104 {d : Nat} {o : Nat} {a0 : Int32} {a1 : Int32} {w : PW} (h : ex_cls o = 10) : ex_cal (d + 1) 104 [.ref o, .int a0, .int a1] w = ex_ev d (ex_cal d) 104 (ex_blk 104 0, [.ref o, .int a0, .int a1], [], w) := by
  rw [ex_cal_s (by simp [ex_okR, ex_isv, ex_lay, h, show ex_C 104 = 10 from rfl, show ex_L 104 = 3 from rfl])]
  rfl
theorem kr_105 : ex_ret 105 = some .int := rfl
theorem ke_105 {d : Nat} {o : Nat} {a0 : Int32} {a1 : Int32} {w : PW} (h : ex_cls o = 10) : ex_cal (d + 1) 105 [.ref o, .int a0, .int a1] w = ex_ev d (ex_cal d) 105 (ex_blk 105 0, [.ref o, .int a0, .int a1], [], w) := by
  rw [ex_cal_s (by simp [ex_okR, ex_isv, ex_lay, h, show ex_C 105 = 10 from rfl, show ex_L 105 = 3 from rfl])]
  rfl
theorem kr_106 : ex_ret 106 = some .int := rfl
theorem ke_106 {d : Nat} {o : Nat} {a0 : Int32} {a1 : Int32} {w : PW} (h : ex_cls o = 10) : ex_cal (d + 1) 106 [.ref o, .int a0, .int a1] w = ex_ev d (ex_cal d) 106 (ex_blk 106 0, [.ref o, .int a0, .int a1], [], w) := by
  rw [ex_cal_s (by simp [ex_okR, ex_isv, ex_lay, h, show ex_C 106 = 10 from rfl, show ex_L 106 = 3 from rfl])]
  rfl
theorem kr_107 : ex_ret 107 = some .int := rfl
theorem ke_107 {d : Nat} {o : Nat} {a0 : Int32} {a1 : Int32} {a2 : Int32} {a3 : Int32} {w : PW} (h : ex_cls o = 10) : ex_cal (d + 1) 107 [.ref o, .int a0, .int a1, .int a2, .int a3] w = ex_ev d (ex_cal d) 107 (ex_blk 107 0, [.ref o, .int a0, .int a1, .int a2, .int a3], [], w) := by
  rw [ex_cal_s (by simp [ex_okR, ex_isv, ex_lay, h, show ex_C 107 = 10 from rfl, show ex_L 107 = 5 from rfl])]
  rfl
theorem kr_108 : ex_ret 108 = some .int := rfl
theorem ke_108 {d : Nat} {o : Nat} {a0 : Int32} {a1 : Int32} {a2 : Int32} {a3 : Int32} {a4 : Int32} {w : PW} (h : ex_cls o = 10) : ex_cal (d + 1) 108 [.ref o, .int a0, .int a1, .int a2, .int a3, .int a4] w = ex_ev d (ex_cal d) 108 (ex_blk 108 0, [.ref o, .int a0, .int a1, .int a2, .int a3, .int a4], [], w) := by
  rw [ex_cal_s (by simp [ex_okR, ex_isv, ex_lay, h, show ex_C 108 = 10 from rfl, show ex_L 108 = 6 from rfl])]
  rfl
theorem kr_109 : ex_ret 109 = some .int := rfl
theorem ke_109 {d : Nat} {o : Nat} {a0 : Int32} {a1 : Int32} {a2 : Int32} {a3 : Int32} {a4 : Int32} {w : PW} (h : ex_cls o = 10) : ex_cal (d + 1) 109 [.ref o, .int a0, .int a1, .int a2, .int a3, .int a4] w = ex_ev d (ex_cal d) 109 (ex_blk 109 0, [.ref o, .int a0, .int a1, .int a2, .int a3, .int a4], [], w) := by
  rw [ex_cal_s (by simp [ex_okR, ex_isv, ex_lay, h, show ex_C 109 = 10 from rfl, show ex_L 109 = 6 from rfl])]
  rfl
theorem kr_110 : ex_ret 110 = some .int := rfl
theorem ke_110 {d : Nat} {o : Nat} {a0 : Int32} {w : PW} (h : ex_cls o = 10) : ex_cal (d + 1) 110 [.ref o, .int a0] w = ex_ev d (ex_cal d) 110 (ex_blk 110 0, [.ref o, .int a0, .null], [], w) := by
  rw [ex_cal_s (by simp [ex_okR, ex_isv, ex_lay, h, show ex_C 110 = 10 from rfl, show ex_L 110 = 3 from rfl])]
  rfl
theorem kr_111 : ex_ret 111 = some .int := rfl
theorem ke_111 {d : Nat} {o : Nat} {a0 : Int32} {a1 : Int32} {a2 : Int32} {a3 : Int32} {w : PW} (h : ex_cls o = 10) : ex_cal (d + 1) 111 [.ref o, .int a0, .int a1, .int a2, .int a3] w = ex_ev d (ex_cal d) 111 (ex_blk 111 0, [.ref o, .int a0, .int a1, .int a2, .int a3, .null, .null], [], w) := by
  rw [ex_cal_s (by simp [ex_okR, ex_isv, ex_lay, h, show ex_C 111 = 10 from rfl, show ex_L 111 = 7 from rfl])]
  rfl
theorem kr_112 : ex_ret 112 = some .int := rfl
theorem ke_112 {d : Nat} {o : Nat} {a0 : Int32} {a1 : Int32} {a2 : Int32} {w : PW} (h : ex_cls o = 10) : ex_cal (d + 1) 112 [.ref o, .int a0, .int a1, .int a2] w = ex_ev d (ex_cal d) 112 (ex_blk 112 0, [.ref o, .int a0, .int a1, .int a2], [], w) := by
  rw [ex_cal_s (by simp [ex_okR, ex_isv, ex_lay, h, show ex_C 112 = 10 from rfl, show ex_L 112 = 4 from rfl])]
  rfl
theorem kr_113 : ex_ret 113 = some .int := rfl
theorem ke_113 {d : Nat} {o : Nat} {a0 : Int32} {a1 : Int32} {w : PW} (h : ex_cls o = 10) : ex_cal (d + 1) 113 [.ref o, .int a0, .int a1] w = ex_ev d (ex_cal d) 113 (ex_blk 113 0, [.ref o, .int a0, .int a1], [], w) := by
  rw [ex_cal_s (by simp [ex_okR, ex_isv, ex_lay, h, show ex_C 113 = 10 from rfl, show ex_L 113 = 3 from rfl])]
  rfl
theorem kr_114 : ex_ret 114 = some .int := rfl
theorem ke_114 {d : Nat} {o : Nat} {a0 : Int32} {a1 : Int32} {w : PW} (h : ex_cls o = 10) : ex_cal (d + 1) 114 [.ref o, .int a0, .int a1] w = ex_ev d (ex_cal d) 114 (ex_blk 114 0, [.ref o, .int a0, .int a1], [], w) := by
  rw [ex_cal_s (by simp [ex_okR, ex_isv, ex_lay, h, show ex_C 114 = 10 from rfl, show ex_L 114 = 3 from rfl])]
  rfl
theorem kr_115 : ex_ret 115 = some .int := rfl
theorem ke_115 {d : Nat} {o : Nat} {a0 : Int32} {a1 : Int32} {a2 : Int32} {w : PW} (h : ex_cls o = 10) : ex_cal (d + 1) 115 [.ref o, .int a0, .int a1, .int a2] w = ex_ev d (ex_cal d) 115 (ex_blk 115 0, [.ref o, .int a0, .int a1, .int a2, .null], [], w) := by
  rw [ex_cal_s (by simp [ex_okR, ex_isv, ex_lay, h, show ex_C 115 = 10 from rfl, show ex_L 115 = 5 from rfl])]
  rfl
theorem kr_116 : ex_ret 116 = some .int := rfl
theorem ke_116 {d : Nat} {o : Nat} {a0 : Int32} {a1 : Int32} {w : PW} (h : ex_cls o = 10) : ex_cal (d + 1) 116 [.ref o, .int a0, .int a1] w = ex_ev d (ex_cal d) 116 (ex_blk 116 0, [.ref o, .int a0, .int a1], [], w) := by
  rw [ex_cal_s (by simp [ex_okR, ex_isv, ex_lay, h, show ex_C 116 = 10 from rfl, show ex_L 116 = 3 from rfl])]
  rfl
theorem kr_117 : ex_ret 117 = some .int := rfl
theorem ke_117 {d : Nat} {o : Nat} {w : PW} (h : ex_cls o = 10) : ex_cal (d + 1) 117 [.ref o] w = ex_ev d (ex_cal d) 117 (ex_blk 117 0, [.ref o, .null, .null], [], w) := by
  rw [ex_cal_s (by simp [ex_okR, ex_isv, ex_lay, h, show ex_C 117 = 10 from rfl, show ex_L 117 = 3 from rfl])]
  rfl
theorem kr_118 : ex_ret 118 = some .int := rfl
theorem ke_118 {d : Nat} {o : Nat} {a0 : Int32} {w : PW} (h : ex_cls o = 10) : ex_cal (d + 1) 118 [.ref o, .int a0] w = ex_ev d (ex_cal d) 118 (ex_blk 118 0, [.ref o, .int a0], [], w) := by
  rw [ex_cal_s (by simp [ex_okR, ex_isv, ex_lay, h, show ex_C 118 = 10 from rfl, show ex_L 118 = 2 from rfl])]
  rfl
theorem kr_119 : ex_ret 119 = some .int := rfl
theorem ke_119 {d : Nat} {o : Nat} {a0 : Int32} {a1 : Int32} {w : PW} (h : ex_cls o = 10) : ex_cal (d + 1) 119 [.ref o, .int a0, .int a1] w = ex_ev d (ex_cal d) 119 (ex_blk 119 0, [.ref o, .int a0, .int a1], [], w) := by
  rw [ex_cal_s (by simp [ex_okR, ex_isv, ex_lay, h, show ex_C 119 = 10 from rfl, show ex_L 119 = 3 from rfl])]
  rfl
theorem kr_120 : ex_ret 120 = some .int := rfl
theorem ke_120 {d : Nat} {o : Nat} {a0 : Int32} {a1 : Int32} {a2 : Int32} {w : PW} (h : ex_cls o = 10) : ex_cal (d + 1) 120 [.ref o, .int a0, .int a1, .int a2] w = ex_ev d (ex_cal d) 120 (ex_blk 120 0, [.ref o, .int a0, .int a1, .int a2], [], w) := by
  rw [ex_cal_s (by simp [ex_okR, ex_isv, ex_lay, h, show ex_C 120 = 10 from rfl, show ex_L 120 = 4 from rfl])]
  rfl
theorem kr_121 : ex_ret 121 = some .int := rfl
theorem ke_121 {d : Nat} {o : Nat} {a0 : Int32} {a1 : Int32} {w : PW} (h : ex_cls o = 10) : ex_cal (d + 1) 121 [.ref o, .int a0, .int a1] w = ex_ev d (ex_cal d) 121 (ex_blk 121 0, [.ref o, .int a0, .int a1, .null, .null], [], w) := by
  rw [ex_cal_s (by simp [ex_okR, ex_isv, ex_lay, h, show ex_C 121 = 10 from rfl, show ex_L 121 = 5 from rfl])]
  rfl
theorem kr_122 : ex_ret 122 = some .int := rfl
theorem ke_122 {d : Nat} {o : Nat} {a0 : Int32} {a1 : Int32} {a2 : Int32} {a3 : Int32} {a4 : Int32} {w : PW} (h : ex_cls o = 10) : ex_cal (d + 1) 122 [.ref o, .int a0, .int a1, .int a2, .int a3, .int a4] w = ex_ev d (ex_cal d) 122 (ex_blk 122 0, [.ref o, .int a0, .int a1, .int a2, .int a3, .int a4, .null, .null, .null, .null], [], w) := by
  rw [ex_cal_s (by simp [ex_okR, ex_isv, ex_lay, h, show ex_C 122 = 10 from rfl, show ex_L 122 = 10 from rfl])]
  rfl
theorem kr_123 : ex_ret 123 = some .int := rfl
theorem ke_123 {d : Nat} {o : Nat} {a0 : Int32} {w : PW} (h : ex_cls o = 10) : ex_cal (d + 1) 123 [.ref o, .int a0] w = ex_ev d (ex_cal d) 123 (ex_blk 123 0, [.ref o, .int a0, .null, .null], [], w) := by
  rw [ex_cal_s (by simp [ex_okR, ex_isv, ex_lay, h, show ex_C 123 = 10 from rfl, show ex_L 123 = 4 from rfl])]
  rfl
theorem kr_124 : ex_ret 124 = some .int := rfl
theorem ke_124 {d : Nat} {o : Nat} {a0 : Int32} {a1 : Int32} {w : PW} (h : ex_cls o = 10) : ex_cal (d + 1) 124 [.ref o, .int a0, .int a1] w = ex_ev d (ex_cal d) 124 (ex_blk 124 0, [.ref o, .int a0, .int a1], [], w) := by
  rw [ex_cal_s (by simp [ex_okR, ex_isv, ex_lay, h, show ex_C 124 = 10 from rfl, show ex_L 124 = 3 from rfl])]
  rfl
theorem kr_125 : ex_ret 125 = some .int := rfl
theorem ke_125 {d : Nat} {o : Nat} {w : PW} (h : ex_cls o = 10) : ex_cal (d + 1) 125 [.ref o] w = ex_ev d (ex_cal d) 125 (ex_blk 125 0, [.ref o], [], w) := by
  rw [ex_cal_s (by simp [ex_okR, ex_isv, ex_lay, h, show ex_C 125 = 10 from rfl, show ex_L 125 = 1 from rfl])]
  rfl
theorem kr_126 : ex_ret 126 = some .int := rfl
theorem ke_126 {d : Nat} {o : Nat} {w : PW} (h : ex_cls o = 10) : ex_cal (d + 1) 126 [.ref o] w = ex_ev d (ex_cal d) 126 (ex_blk 126 0, [.ref o], [], w) := by
  rw [ex_cal_s (by simp [ex_okR, ex_isv, ex_lay, h, show ex_C 126 = 10 from rfl, show ex_L 126 = 1 from rfl])]
  rfl
theorem kr_127 : ex_ret 127 = some .int := rfl
theorem ke_127 {d : Nat} {o : Nat} {w : PW} (h : ex_cls o = 10) : ex_cal (d + 1) 127 [.ref o] w = ex_ev d (ex_cal d) 127 (ex_blk 127 0, [.ref o], [], w) := by
  rw [ex_cal_s (by simp [ex_okR, ex_isv, ex_lay, h, show ex_C 127 = 10 from rfl, show ex_L 127 = 1 from rfl])]
  rfl
theorem kr_128 : ex_ret 128 = some .int := rfl
theorem ke_128 {d : Nat} {o : Nat} {a0 : Int32} {w : PW} (h : ex_cls o = 10) : ex_cal (d + 1) 128 [.ref o, .int a0] w = ex_ev d (ex_cal d) 128 (ex_blk 128 0, [.ref o, .int a0], [], w) := by
  rw [ex_cal_s (by simp [ex_okR, ex_isv, ex_lay, h, show ex_C 128 = 10 from rfl, show ex_L 128 = 2 from rfl])]
  rfl
theorem kr_129 : ex_ret 129 = some .long := rfl
theorem ke_129 {d : Nat} {o : Nat} {w : PW} (h : ex_cls o = 10) : ex_cal (d + 1) 129 [.ref o] w = ex_ev d (ex_cal d) 129 (ex_blk 129 0, [.ref o, .null, .null, .null], [], w) := by
  rw [ex_cal_s (by simp [ex_okR, ex_isv, ex_lay, h, show ex_C 129 = 10 from rfl, show ex_L 129 = 4 from rfl])]
  rfl
theorem kr_130 : ex_ret 130 = some .boolean := rfl
theorem ke_130 {d : Nat} {a0 : Int32} {a1 : Int32} {w : PW} : ex_cal (d + 1) 130 [.int a0, .int a1] w = ex_ev d (ex_cal d) 130 (ex_blk 130 0, [.int a0, .int a1], [], w) := by
  rw [ex_cal_s (rfl)]
  rfl
theorem kr_131 : ex_ret 131 = some .boolean := rfl
theorem ke_131 {d : Nat} {a0 : Int32} {a1 : Int32} {a2 : Int32} {w : PW} : ex_cal (d + 1) 131 [.int a0, .int a1, .int a2] w = ex_ev d (ex_cal d) 131 (ex_blk 131 0, [.int a0, .int a1, .int a2], [], w) := by
  rw [ex_cal_s (rfl)]
  rfl
theorem kr_132 : ex_ret 132 = some .int := rfl
theorem ke_132 {d : Nat} {a0 : Int32} {w : PW} : ex_cal (d + 1) 132 [.int a0] w = ex_ev d (ex_cal d) 132 (ex_blk 132 0, [.int a0, .null], [], w) := by
  rw [ex_cal_s (rfl)]
  rfl
theorem kr_133 : ex_ret 133 = some .int := rfl
theorem ke_133 {d : Nat} {a0 : Int32} {w : PW} : ex_cal (d + 1) 133 [.int a0] w = ex_ev d (ex_cal d) 133 (ex_blk 133 0, [.int a0], [], w) := by
  rw [ex_cal_s (rfl)]
  rfl
theorem kr_134 : ex_ret 134 = some .int := rfl
theorem ke_134 {d : Nat} {a0 : Int32} {a1 : Int32} {a2 : Int32} {a3 : Int32} {a4 : Int32} {w : PW} : ex_cal (d + 1) 134 [.int a0, .int a1, .int a2, .int a3, .int a4] w = ex_ev d (ex_cal d) 134 (ex_blk 134 0, [.int a0, .int a1, .int a2, .int a3, .int a4, .null], [], w) := by
  rw [ex_cal_s (rfl)]
  rfl
theorem kr_135 : ex_ret 135 = some .int := rfl
theorem ke_135 {d : Nat} {o : Nat} {a0 : Int32} {a1 : Int32} {w : PW} (h : ex_cls o = 10) : ex_cal (d + 1) 135 [.ref o, .int a0, .int a1] w = ex_ev d (ex_cal d) 135 (ex_blk 135 0, [.ref o, .int a0, .int a1], [], w) := by
  rw [ex_cal_s (by simp [ex_okR, ex_isv, ex_lay, h, show ex_C 135 = 10 from rfl, show ex_L 135 = 3 from rfl])]
  rfl
theorem kr_136 : ex_ret 136 = some .int := rfl
theorem ke_136 {d : Nat} {o : Nat} {a0 : Int32} {a1 : Int32} {w : PW} (h : ex_cls o = 10) : ex_cal (d + 1) 136 [.ref o, .int a0, .int a1] w = ex_ev d (ex_cal d) 136 (ex_blk 136 0, [.ref o, .int a0, .int a1], [], w) := by
  rw [ex_cal_s (by simp [ex_okR, ex_isv, ex_lay, h, show ex_C 136 = 10 from rfl, show ex_L 136 = 3 from rfl])]
  rfl
theorem kr_137 : ex_ret 137 = some .boolean := rfl
theorem ke_137 {d : Nat} {o : Nat} {a0 : Int32} {a1 : Int32} {a2 : Int32} {w : PW} (h : ex_cls o = 10) : ex_cal (d + 1) 137 [.ref o, .int a0, .int a1, .int a2] w = ex_ev d (ex_cal d) 137 (ex_blk 137 0, [.ref o, .int a0, .int a1, .int a2, .null], [], w) := by
  rw [ex_cal_s (by simp [ex_okR, ex_isv, ex_lay, h, show ex_C 137 = 10 from rfl, show ex_L 137 = 5 from rfl])]
  rfl
theorem kr_138 : ex_ret 138 = some .int := rfl
theorem ke_138 {d : Nat} {o : Nat} {a0 : Int32} {a1 : Int32} {w : PW} (h : ex_cls o = 10) : ex_cal (d + 1) 138 [.ref o, .int a0, .int a1] w = ex_ev d (ex_cal d) 138 (ex_blk 138 0, [.ref o, .int a0, .int a1, .null, .null], [], w) := by
  rw [ex_cal_s (by simp [ex_okR, ex_isv, ex_lay, h, show ex_C 138 = 10 from rfl, show ex_L 138 = 5 from rfl])]
  rfl
theorem kr_139 : ex_ret 139 = some .int := rfl
theorem ke_139 {d : Nat} {o : Nat} {w : PW} (h : ex_cls o = 10) : ex_cal (d + 1) 139 [.ref o] w = ex_ev d (ex_cal d) 139 (ex_blk 139 0, [.ref o, .null, .null, .null, .null], [], w) := by
  rw [ex_cal_s (by simp [ex_okR, ex_isv, ex_lay, h, show ex_C 139 = 10 from rfl, show ex_L 139 = 5 from rfl])]
  rfl
theorem kr_140 : ex_ret 140 = some .int := rfl
theorem ke_140 {d : Nat} {o : Nat} {a0 : Int32} {a1 : Int32} {a2 : Int32} {a3 : Int32} {w : PW} (h : ex_cls o = 10) : ex_cal (d + 1) 140 [.ref o, .int a0, .int a1, .int a2, .int a3] w = ex_ev d (ex_cal d) 140 (ex_blk 140 0, [.ref o, .int a0, .int a1, .int a2, .int a3, .null, .null], [], w) := by
  rw [ex_cal_s (by simp [ex_okR, ex_isv, ex_lay, h, show ex_C 140 = 10 from rfl, show ex_L 140 = 7 from rfl])]
  rfl
theorem kr_141 : ex_ret 141 = some .int := rfl
theorem ke_141 {d : Nat} {o : Nat} {w : PW} (h : ex_cls o = 10) : ex_cal (d + 1) 141 [.ref o] w = ex_ev d (ex_cal d) 141 (ex_blk 141 0, [.ref o, .null, .null], [], w) := by
  rw [ex_cal_s (by simp [ex_okR, ex_isv, ex_lay, h, show ex_C 141 = 10 from rfl, show ex_L 141 = 3 from rfl])]
  rfl
theorem kr_142 : ex_ret 142 = some .boolean := rfl
theorem ke_142 {d : Nat} {o : Nat} {a0 : Int32} {w : PW} (h : ex_cls o = 10) : ex_cal (d + 1) 142 [.ref o, .int a0] w = ex_ev d (ex_cal d) 142 (ex_blk 142 0, [.ref o, .int a0, .null], [], w) := by
  rw [ex_cal_s (by simp [ex_okR, ex_isv, ex_lay, h, show ex_C 142 = 10 from rfl, show ex_L 142 = 3 from rfl])]
  rfl
theorem kr_143 : ex_ret 143 = some .long := rfl
theorem ke_143 {d : Nat} {o : Nat} {a0 : Int64} {w : PW} (h : ex_cls o = 10) : ex_cal (d + 1) 143 [.ref o, .long a0] w = ex_ev d (ex_cal d) 143 (ex_blk 143 0, [.ref o, .long a0, .retAddr 0, .null, .null, .null, .null], [], w) := by
  rw [ex_cal_s (by simp [ex_okR, ex_isv, ex_lay, h, show ex_C 143 = 10 from rfl, show ex_L 143 = 7 from rfl])]
  rfl
theorem kr_144 : ex_ret 144 = some .long := rfl
theorem ke_144 {d : Nat} {o : Nat} {a0 : Int64} {w : PW} (h : ex_cls o = 10) : ex_cal (d + 1) 144 [.ref o, .long a0] w = ex_ev d (ex_cal d) 144 (ex_blk 144 0, [.ref o, .long a0, .retAddr 0, .null, .null, .null, .null], [], w) := by
  rw [ex_cal_s (by simp [ex_okR, ex_isv, ex_lay, h, show ex_C 144 = 10 from rfl, show ex_L 144 = 7 from rfl])]
  rfl
theorem kr_145 : ex_ret 145 = some .long := rfl
theorem ke_145 {d : Nat} {o : Nat} {a0 : Int64} {w : PW} (h : ex_cls o = 10) : ex_cal (d + 1) 145 [.ref o, .long a0] w = ex_ev d (ex_cal d) 145 (ex_blk 145 0, [.ref o, .long a0, .retAddr 0, .null, .null, .null, .null], [], w) := by
  rw [ex_cal_s (by simp [ex_okR, ex_isv, ex_lay, h, show ex_C 145 = 10 from rfl, show ex_L 145 = 7 from rfl])]
  rfl
theorem kr_146 : ex_ret 146 = some .long := rfl
theorem ke_146 {d : Nat} {o : Nat} {a0 : Int64} {w : PW} (h : ex_cls o = 10) : ex_cal (d + 1) 146 [.ref o, .long a0] w = ex_ev d (ex_cal d) 146 (ex_blk 146 0, [.ref o, .long a0, .retAddr 0, .null, .null, .null, .null], [], w) := by
  rw [ex_cal_s (by simp [ex_okR, ex_isv, ex_lay, h, show ex_C 146 = 10 from rfl, show ex_L 146 = 7 from rfl])]
  rfl
theorem kr_147 : ex_ret 147 = some .long := rfl
theorem ke_147 {d : Nat} {a0 : Int64} {a1 : Nat} {w : PW} : ex_cal (d + 1) 147 [.long a0, .ref a1] w = ex_ev d (ex_cal d) 147 (ex_blk 147 0, [.long a0, .retAddr 0, .ref a1, .null, .null, .null], [], w) := by
  rw [ex_cal_s (rfl)]
  rfl
theorem kr_148 : ex_ret 148 = some .boolean := rfl
theorem ke_148 {d : Nat} {a0 : Int32} {a1 : Int32} {a2 : Int32} {w : PW} : ex_cal (d + 1) 148 [.int a0, .int a1, .int a2] w = ex_ev d (ex_cal d) 148 (ex_blk 148 0, [.int a0, .int a1, .int a2], [], w) := by
  rw [ex_cal_s (rfl)]
  rfl
theorem kr_149 : ex_ret 149 = some .int := rfl
theorem ke_149 {d : Nat} {o : Nat} {a0 : Int64} {w : PW} (h : ex_cls o = 11) : ex_cal (d + 1) 149 [.ref o, .long a0] w = ex_ev d (ex_cal d) 149 (ex_blk 149 0, [.ref o, .long a0, .retAddr 0, .null, .null, .null, .null], [], w) := by
  rw [ex_cal_s (by simp [ex_okR, ex_isv, ex_lay, h, show ex_C 149 = 11 from rfl, show ex_L 149 = 7 from rfl])]
  rfl
theorem kr_150 : ex_ret 150 = some .int := rfl
theorem ke_150 {d : Nat} {o : Nat} {w : PW} (h : ex_cls o = 11) : ex_cal (d + 1) 150 [.ref o] w = ex_ev d (ex_cal d) 150 (ex_blk 150 0, [.ref o, .null], [], w) := by
  rw [ex_cal_s (by simp [ex_okR, ex_isv, ex_lay, h, show ex_C 150 = 11 from rfl, show ex_L 150 = 2 from rfl])]
  rfl
theorem kr_151 : ex_ret 151 = some .boolean := rfl
theorem ke_151 {d : Nat} {a0 : Int32} {w : PW} : ex_cal (d + 1) 151 [.int a0] w = ex_ev d (ex_cal d) 151 (ex_blk 151 0, [.int a0], [], w) := by
  rw [ex_cal_s (rfl)]
  rfl
theorem kr_152 : ex_ret 152 = some .int := rfl
theorem ke_152 {d : Nat} {a0 : Int32} {w : PW} : ex_cal (d + 1) 152 [.int a0] w = ex_ev d (ex_cal d) 152 (ex_blk 152 0, [.int a0], [], w) := by
  rw [ex_cal_s (rfl)]
  rfl
theorem kr_153 : ex_ret 153 = some .boolean := rfl
theorem ke_153 {d : Nat} {o : Nat} {a0 : Int32} {w : PW} (h : ex_cls o = 11) : ex_cal (d + 1) 153 [.ref o, .int a0] w = ex_ev d (ex_cal d) 153 (ex_blk 153 0, [.ref o, .int a0, .null], [], w) := by
  rw [ex_cal_s (by simp [ex_okR, ex_isv, ex_lay, h, show ex_C 153 = 11 from rfl, show ex_L 153 = 3 from rfl])]
  rfl
theorem kr_154 : ex_ret 154 = none := rfl
theorem ke_154 {d : Nat} {o : Nat} {w : PW} (h : ex_cls o = 11) : ex_cal (d + 1) 154 [.ref o] w = ex_ev d (ex_cal d) 154 (ex_blk 154 0, [.ref o, .null], [], w) := by
  rw [ex_cal_s (by simp [ex_okR, ex_isv, ex_lay, h, show ex_C 154 = 11 from rfl, show ex_L 154 = 2 from rfl])]
  rfl
theorem kr_155 : ex_ret 155 = some .int := rfl
theorem ke_155 {d : Nat} {o : Nat} {a0 : Int32} {w : PW} (h : ex_cls o = 11) : ex_cal (d + 1) 155 [.ref o, .int a0] w = ex_ev d (ex_cal d) 155 (ex_blk 155 0, [.ref o, .int a0], [], w) := by
  rw [ex_cal_s (by simp [ex_okR, ex_isv, ex_lay, h, show ex_C 155 = 11 from rfl, show ex_L 155 = 2 from rfl])]
  rfl
theorem kr_156 : ex_ret 156 = none := rfl
theorem ke_156 {d : Nat} {o : Nat} {a0 : Int32} {a1 : Int32} {w : PW} (h : ex_cls o = 11) : ex_cal (d + 1) 156 [.ref o, .int a0, .int a1] w = ex_ev d (ex_cal d) 156 (ex_blk 156 0, [.ref o, .int a0, .int a1], [], w) := by
  rw [ex_cal_s (by simp [ex_okR, ex_isv, ex_lay, h, show ex_C 156 = 11 from rfl, show ex_L 156 = 3 from rfl])]
  rfl
theorem kr_157 : ex_ret 157 = some .boolean := rfl
theorem ke_157 {d : Nat} {o : Nat} {a0 : Int32} {a1 : Int32} {w : PW} (h : ex_cls o = 11) : ex_cal (d + 1) 157 [.ref o, .int a0, .int a1] w = ex_ev d (ex_cal d) 157 (ex_blk 157 0, [.ref o, .int a0, .int a1, .null], [], w) := by
  rw [ex_cal_s (by simp [ex_okR, ex_isv, ex_lay, h, show ex_C 157 = 11 from rfl, show ex_L 157 = 4 from rfl])]
  rfl
theorem kr_158 : ex_ret 158 = some .int := rfl
theorem ke_158 {d : Nat} {o : Nat} {a0 : Int32} {w : PW} (h : ex_cls o = 11) : ex_cal (d + 1) 158 [.ref o, .int a0] w = ex_ev d (ex_cal d) 158 (ex_blk 158 0, [.ref o, .int a0], [], w) := by
  rw [ex_cal_s (by simp [ex_okR, ex_isv, ex_lay, h, show ex_C 158 = 11 from rfl, show ex_L 158 = 2 from rfl])]
  rfl
theorem kr_159 : ex_ret 159 = some .int := rfl
theorem ke_159 {d : Nat} {o : Nat} {a0 : Int32} {w : PW} (h : ex_cls o = 11) : ex_cal (d + 1) 159 [.ref o, .int a0] w = ex_ev d (ex_cal d) 159 (ex_blk 159 0, [.ref o, .int a0, .null], [], w) := by
  rw [ex_cal_s (by simp [ex_okR, ex_isv, ex_lay, h, show ex_C 159 = 11 from rfl, show ex_L 159 = 3 from rfl])]
  rfl
theorem kr_160 : ex_ret 160 = some .int := rfl
theorem ke_160 {d : Nat} {o : Nat} {a0 : Int32} {a1 : Int32} {w : PW} (h : ex_cls o = 11) : ex_cal (d + 1) 160 [.ref o, .int a0, .int a1] w = ex_ev d (ex_cal d) 160 (ex_blk 160 0, [.ref o, .int a0, .int a1], [], w) := by
  rw [ex_cal_s (by simp [ex_okR, ex_isv, ex_lay, h, show ex_C 160 = 11 from rfl, show ex_L 160 = 3 from rfl])]
  rfl
theorem kr_161 : ex_ret 161 = none := rfl
theorem ke_161 {d : Nat} {o : Nat} {w : PW} (h : ex_cls o = 11) : ex_cal (d + 1) 161 [.ref o] w = ex_ev d (ex_cal d) 161 (ex_blk 161 0, [.ref o, .null, .null, .null, .null], [], w) := by
  rw [ex_cal_s (by simp [ex_okR, ex_isv, ex_lay, h, show ex_C 161 = 11 from rfl, show ex_L 161 = 5 from rfl])]
  rfl
theorem kr_162 : ex_ret 162 = some .int := rfl
theorem ke_162 {d : Nat} {o : Nat} {a0 : Int32} {w : PW} (h : ex_cls o = 11) : ex_cal (d + 1) 162 [.ref o, .int a0] w = ex_ev d (ex_cal d) 162 (ex_blk 162 0, [.ref o, .int a0], [], w) := by
  rw [ex_cal_s (by simp [ex_okR, ex_isv, ex_lay, h, show ex_C 162 = 11 from rfl, show ex_L 162 = 2 from rfl])]
  rfl
theorem kr_163 : ex_ret 163 = some .int := rfl
theorem ke_163 {d : Nat} {o : Nat} {w : PW} (h : ex_cls o = 11) : ex_cal (d + 1) 163 [.ref o] w = ex_ev d (ex_cal d) 163 (ex_blk 163 0, [.ref o, .null], [], w) := by
  rw [ex_cal_s (by simp [ex_okR, ex_isv, ex_lay, h, show ex_C 163 = 11 from rfl, show ex_L 163 = 2 from rfl])]
  rfl
theorem kr_164 : ex_ret 164 = some .int := rfl
theorem ke_164 {d : Nat} {o : Nat} {w : PW} (h : ex_cls o = 11) : ex_cal (d + 1) 164 [.ref o] w = ex_ev d (ex_cal d) 164 (ex_blk 164 0, [.ref o], [], w) := by
  rw [ex_cal_s (by simp [ex_okR, ex_isv, ex_lay, h, show ex_C 164 = 11 from rfl, show ex_L 164 = 1 from rfl])]
  rfl
theorem kr_165 : ex_ret 165 = some .int := rfl
theorem ke_165 {d : Nat} {o : Nat} {a0 : Int32} {a1 : Int32} {w : PW} (h : ex_cls o = 11) : ex_cal (d + 1) 165 [.ref o, .int a0, .int a1] w = ex_ev d (ex_cal d) 165 (ex_blk 165 0, [.ref o, .int a0, .int a1], [], w) := by
  rw [ex_cal_s (by simp [ex_okR, ex_isv, ex_lay, h, show ex_C 165 = 11 from rfl, show ex_L 165 = 3 from rfl])]
  rfl
theorem kr_166 : ex_ret 166 = some .boolean := rfl
theorem ke_166 {d : Nat} {o : Nat} {a0 : Int32} {w : PW} (h : ex_cls o = 11) : ex_cal (d + 1) 166 [.ref o, .int a0] w = ex_ev d (ex_cal d) 166 (ex_blk 166 0, [.ref o, .int a0], [], w) := by
  rw [ex_cal_s (by simp [ex_okR, ex_isv, ex_lay, h, show ex_C 166 = 11 from rfl, show ex_L 166 = 2 from rfl])]
  rfl
theorem kr_167 : ex_ret 167 = some .int := rfl
theorem ke_167 {d : Nat} {o : Nat} {a0 : Int32} {a1 : Int32} {w : PW} (h : ex_cls o = 11) : ex_cal (d + 1) 167 [.ref o, .int a0, .int a1] w = ex_ev d (ex_cal d) 167 (ex_blk 167 0, [.ref o, .int a0, .int a1], [], w) := by
  rw [ex_cal_s (by simp [ex_okR, ex_isv, ex_lay, h, show ex_C 167 = 11 from rfl, show ex_L 167 = 3 from rfl])]
  rfl
theorem kr_168 : ex_ret 168 = some .int := rfl
theorem ke_168 {d : Nat} {o : Nat} {a0 : Int32} {a1 : Int32} {w : PW} (h : ex_cls o = 11) : ex_cal (d + 1) 168 [.ref o, .int a0, .int a1] w = ex_ev d (ex_cal d) 168 (ex_blk 168 0, [.ref o, .int a0, .int a1, .null], [], w) := by
  rw [ex_cal_s (by simp [ex_okR, ex_isv, ex_lay, h, show ex_C 168 = 11 from rfl, show ex_L 168 = 4 from rfl])]
  rfl
theorem kr_169 : ex_ret 169 = some .int := rfl
theorem ke_169 {d : Nat} {o : Nat} {w : PW} (h : ex_cls o = 11) : ex_cal (d + 1) 169 [.ref o] w = ex_ev d (ex_cal d) 169 (ex_blk 169 0, [.ref o], [], w) := by
  rw [ex_cal_s (by simp [ex_okR, ex_isv, ex_lay, h, show ex_C 169 = 11 from rfl, show ex_L 169 = 1 from rfl])]
  rfl
theorem kr_170 : ex_ret 170 = some .boolean := rfl
theorem ke_170 {d : Nat} {o : Nat} {a0 : Int32} {w : PW} (h : ex_cls o = 11) : ex_cal (d + 1) 170 [.ref o, .int a0] w = ex_ev d (ex_cal d) 170 (ex_blk 170 0, [.ref o, .int a0], [], w) := by
  rw [ex_cal_s (by simp [ex_okR, ex_isv, ex_lay, h, show ex_C 170 = 11 from rfl, show ex_L 170 = 2 from rfl])]
  rfl
theorem kr_171 : ex_ret 171 = some .boolean := rfl
theorem ke_171 {d : Nat} {o : Nat} {a0 : Int32} {w : PW} (h : ex_cls o = 11) : ex_cal (d + 1) 171 [.ref o, .int a0] w = ex_ev d (ex_cal d) 171 (ex_blk 171 0, [.ref o, .int a0], [], w) := by
  rw [ex_cal_s (by simp [ex_okR, ex_isv, ex_lay, h, show ex_C 171 = 11 from rfl, show ex_L 171 = 2 from rfl])]
  rfl
theorem kr_172 : ex_ret 172 = some .int := rfl
theorem ke_172 {d : Nat} {o : Nat} {a0 : Int32} {w : PW} (h : ex_cls o = 11) : ex_cal (d + 1) 172 [.ref o, .int a0] w = ex_ev d (ex_cal d) 172 (ex_blk 172 0, [.ref o, .int a0, .null], [], w) := by
  rw [ex_cal_s (by simp [ex_okR, ex_isv, ex_lay, h, show ex_C 172 = 11 from rfl, show ex_L 172 = 3 from rfl])]
  rfl
theorem kr_173 : ex_ret 173 = some .int := rfl
theorem ke_173 {d : Nat} {o : Nat} {a0 : Int32} {a1 : Int32} {w : PW} (h : ex_cls o = 11) : ex_cal (d + 1) 173 [.ref o, .int a0, .int a1] w = ex_ev d (ex_cal d) 173 (ex_blk 173 0, [.ref o, .int a0, .int a1, .null, .null], [], w) := by
  rw [ex_cal_s (by simp [ex_okR, ex_isv, ex_lay, h, show ex_C 173 = 11 from rfl, show ex_L 173 = 5 from rfl])]
  rfl
theorem kr_174 : ex_ret 174 = some .int := rfl
theorem ke_174 {d : Nat} {o : Nat} {a0 : Int32} {a1 : Int32} {w : PW} (h : ex_cls o = 11) : ex_cal (d + 1) 174 [.ref o, .int a0, .int a1] w = ex_ev d (ex_cal d) 174 (ex_blk 174 0, [.ref o, .int a0, .int a1, .null], [], w) := by
  rw [ex_cal_s (by simp [ex_okR, ex_isv, ex_lay, h, show ex_C 174 = 11 from rfl, show ex_L 174 = 4 from rfl])]
  rfl
theorem kr_175 : ex_ret 175 = some .int := rfl
theorem ke_175 {d : Nat} {o : Nat} {a0 : Int32} {w : PW} (h : ex_cls o = 11) : ex_cal (d + 1) 175 [.ref o, .int a0] w = ex_ev d (ex_cal d) 175 (ex_blk 175 0, [.ref o, .int a0], [], w) := by
  rw [ex_cal_s (by simp [ex_okR, ex_isv, ex_lay, h, show ex_C 175 = 11 from rfl, show ex_L 175 = 2 from rfl])]
  rfl
theorem kr_176 : ex_ret 176 = some .int := rfl
theorem ke_176 {d : Nat} {o : Nat} {a0 : Int32} {w : PW} (h : ex_cls o = 11) : ex_cal (d + 1) 176 [.ref o, .int a0] w = ex_ev d (ex_cal d) 176 (ex_blk 176 0, [.ref o, .int a0, .null], [], w) := by
  rw [ex_cal_s (by simp [ex_okR, ex_isv, ex_lay, h, show ex_C 176 = 11 from rfl, show ex_L 176 = 3 from rfl])]
  rfl
theorem kr_177 : ex_ret 177 = none := rfl
theorem ke_177 {d : Nat} {o : Nat} {a0 : Int32} {a1 : Int32} {w : PW} (h : ex_cls o = 11) : ex_cal (d + 1) 177 [.ref o, .int a0, .int a1] w = ex_ev d (ex_cal d) 177 (ex_blk 177 0, [.ref o, .int a0, .int a1, .null, .null, .null, .null, .null, .null], [], w) := by
  rw [ex_cal_s (by simp [ex_okR, ex_isv, ex_lay, h, show ex_C 177 = 11 from rfl, show ex_L 177 = 9 from rfl])]
  rfl
theorem kr_178 : ex_ret 178 = some .int := rfl
theorem ke_178 {d : Nat} {o : Nat} {a0 : Int32} {w : PW} (h : ex_cls o = 11) : ex_cal (d + 1) 178 [.ref o, .int a0] w = ex_ev d (ex_cal d) 178 (ex_blk 178 0, [.ref o, .int a0, .null, .null], [], w) := by
  rw [ex_cal_s (by simp [ex_okR, ex_isv, ex_lay, h, show ex_C 178 = 11 from rfl, show ex_L 178 = 4 from rfl])]
  rfl
theorem kr_179 : ex_ret 179 = some .int := rfl
theorem ke_179 {d : Nat} {o : Nat} {a0 : Int32} {a1 : Int32} {w : PW} (h : ex_cls o = 11) : ex_cal (d + 1) 179 [.ref o, .int a0, .int a1] w = ex_ev d (ex_cal d) 179 (ex_blk 179 0, [.ref o, .int a0, .int a1], [], w) := by
  rw [ex_cal_s (by simp [ex_okR, ex_isv, ex_lay, h, show ex_C 179 = 11 from rfl, show ex_L 179 = 3 from rfl])]
  rfl
theorem kr_180 : ex_ret 180 = some .int := rfl
theorem ke_180 {d : Nat} {o : Nat} {a0 : Int32} {a1 : Int32} {w : PW} (h : ex_cls o = 11) : ex_cal (d + 1) 180 [.ref o, .int a0, .int a1] w = ex_ev d (ex_cal d) 180 (ex_blk 180 0, [.ref o, .int a0, .int a1], [], w) := by
  rw [ex_cal_s (by simp [ex_okR, ex_isv, ex_lay, h, show ex_C 180 = 11 from rfl, show ex_L 180 = 3 from rfl])]
  rfl
theorem kr_181 : ex_ret 181 = some .int := rfl
theorem ke_181 {d : Nat} {o : Nat} {a0 : Int32} {a1 : Int32} {a2 : Int32} {a3 : Int32} {w : PW} (h : ex_cls o = 11) : ex_cal (d + 1) 181 [.ref o, .int a0, .int a1, .int a2, .int a3] w = ex_ev d (ex_cal d) 181 (ex_blk 181 0, [.ref o, .int a0, .int a1, .int a2, .int a3, .null], [], w) := by
  rw [ex_cal_s (by simp [ex_okR, ex_isv, ex_lay, h, show ex_C 181 = 11 from rfl, show ex_L 181 = 6 from rfl])]
  rfl
theorem kr_182 : ex_ret 182 = some .boolean := rfl
theorem ke_182 {d : Nat} {a0 : Int32} {a1 : Int32} {w : PW} : ex_cal (d + 1) 182 [.int a0, .int a1] w = ex_ev d (ex_cal d) 182 (ex_blk 182 0, [.int a0, .int a1], [], w) := by
  rw [ex_cal_s (rfl)]
  rfl
theorem kr_183 : ex_ret 183 = some .int := rfl
theorem ke_183 {d : Nat} {o : Nat} {a0 : Int32} {a1 : Int32} {a2 : Int32} {a3 : Int32} {w : PW} (h : ex_cls o = 11) : ex_cal (d + 1) 183 [.ref o, .int a0, .int a1, .int a2, .int a3] w = ex_ev d (ex_cal d) 183 (ex_blk 183 0, [.ref o, .int a0, .int a1, .int a2, .int a3], [], w) := by
  rw [ex_cal_s (by simp [ex_okR, ex_isv, ex_lay, h, show ex_C 183 = 11 from rfl, show ex_L 183 = 5 from rfl])]
  rfl
theorem kr_184 : ex_ret 184 = some .boolean := rfl
theorem ke_184 {d : Nat} {o : Nat} {a0 : Int32} {a1 : Int32} {w : PW} (h : ex_cls o = 11) : ex_cal (d + 1) 184 [.ref o, .int a0, .int a1] w = ex_ev d (ex_cal d) 184 (ex_blk 184 0, [.ref o, .int a0, .int a1, .null, .null], [], w) := by
  rw [ex_cal_s (by simp [ex_okR, ex_isv, ex_lay, h, show ex_C 184 = 11 from rfl, show ex_L 184 = 5 from rfl])]
  rfl
theorem kr_185 : ex_ret 185 = some .boolean := rfl
theorem ke_185 {d : Nat} {o : Nat} {a0 : Int32} {a1 : Int32} {a2 : Int32} {a3 : Int32} {w : PW} (h : ex_cls o = 11) : ex_cal (d + 1) 185 [.ref o, .int a0, .int a1, .int a2, .int a3] w = ex_ev d (ex_cal d) 185 (ex_blk 185 0, [.ref o, .int a0, .int a1, .int a2, .int a3, .null, .null], [], w) := by
  rw [ex_cal_s (by simp [ex_okR, ex_isv, ex_lay, h, show ex_C 185 = 11 from rfl, show ex_L 185 = 7 from rfl])]
  rfl
theorem kr_186 : ex_ret 186 = some .int := rfl
theorem ke_186 {d : Nat} {o : Nat} {a0 : Int32} {a1 : Int32} {a2 : Int32} {a3 : Int32} {a4 : Int32} {w : PW} (h : ex_cls o = 11) : ex_cal (d + 1) 186 [.ref o, .int a0, .int a1, .int a2, .int a3, .int a4] w = ex_ev d (ex_cal d) 186 (ex_blk 186 0, [.ref o, .int a0, .int a1, .int a2, .int a3, .int a4, .null, .null, .null], [], w) := by
  rw [ex_cal_s (by simp [ex_okR, ex_isv, ex_lay, h, show ex_C 186 = 11 from rfl, show ex_L 186 = 9 from rfl])]
  rfl
theorem kr_187 : ex_ret 187 = some .boolean := rfl
theorem ke_187 {d : Nat} {a0 : Int32} {a1 : Int32} {w : PW} : ex_cal (d + 1) 187 [.int a0, .int a1] w = ex_ev d (ex_cal d) 187 (ex_blk 187 0, [.int a0, .int a1], [], w) := by
  rw [ex_cal_s (rfl)]
  rfl
theorem kr_188 : ex_ret 188 = some .int := rfl
theorem ke_188 {d : Nat} {o : Nat} {a0 : Int32} {a1 : Int32} {a2 : Int32} {a3 : Int32} {a4 : Int32} {w : PW} (h : ex_cls o = 11) : ex_cal (d + 1) 188 [.ref o, .int a0, .int a1, .int a2, .int a3, .int a4] w = ex_ev d (ex_cal d) 188 (ex_blk 188 0, [.ref o, .int a0, .int a1, .int a2, .int a3, .int a4], [], w) := by
  rw [ex_cal_s (by simp [ex_okR, ex_isv, ex_lay, h, show ex_C 188 = 11 from rfl, show ex_L 188 = 6 from rfl])]
  rfl
theorem kr_189 : ex_ret 189 = some .int := rfl
theorem ke_189 {d : Nat} {o : Nat} {a0 : Int32} {a1 : Int32} {a2 : Int32} {a3 : Int32} {a4 : Int32} {w : PW} (h : ex_cls o = 11) : ex_cal (d + 1) 189 [.ref o, .int a0, .int a1, .int a2, .int a3, .int a4] w = ex_ev d (ex_cal d) 189 (ex_blk 189 0, [.ref o, .int a0, .int a1, .int a2, .int a3, .int a4], [], w) := by
  rw [ex_cal_s (by simp [ex_okR, ex_isv, ex_lay, h, show ex_C 189 = 11 from rfl, show ex_L 189 = 6 from rfl])]
  rfl
theorem kr_190 : ex_ret 190 = some .int := rfl
theorem ke_190 {d : Nat} {o : Nat} {a0 : Int32} {w : PW} (h : ex_cls o = 11) : ex_cal (d + 1) 190 [.ref o, .int a0] w = ex_ev d (ex_cal d) 190 (ex_blk 190 0, [.ref o, .int a0], [], w) := by
  rw [ex_cal_s (by simp [ex_okR, ex_isv, ex_lay, h, show ex_C 190 = 11 from rfl, show ex_L 190 = 2 from rfl])]
  rfl
theorem kr_191 : ex_ret 191 = some .int := rfl
theorem ke_191 {d : Nat} {a0 : Int32} {w : PW} : ex_cal (d + 1) 191 [.int a0] w = ex_ev d (ex_cal d) 191 (ex_blk 191 0, [.int a0, .null], [], w) := by
  rw [ex_cal_s (rfl)]
  rfl
theorem kr_192 : ex_ret 192 = some .int := rfl
theorem ke_192 {d : Nat} {o : Nat} {a0 : Int32} {w : PW} (h : ex_cls o = 11) : ex_cal (d + 1) 192 [.ref o, .int a0] w = ex_ev d (ex_cal d) 192 (ex_blk 192 0, [.ref o, .int a0, .null, .null], [], w) := by
  rw [ex_cal_s (by simp [ex_okR, ex_isv, ex_lay, h, show ex_C 192 = 11 from rfl, show ex_L 192 = 4 from rfl])]
  rfl
theorem kr_193 : ex_ret 193 = some .int := rfl
theorem ke_193 {d : Nat} {o : Nat} {a0 : Int32} {a1 : Int32} {a2 : Int32} {a3 : Int32} {w : PW} (h : ex_cls o = 11) : ex_cal (d + 1) 193 [.ref o, .int a0, .int a1, .int a2, .int a3] w = ex_ev d (ex_cal d) 193 (ex_blk 193 0, [.ref o, .int a0, .int a1, .int a2, .int a3, .null, .null, .null, .null], [], w) := by
  rw [ex_cal_s (by simp [ex_okR, ex_isv, ex_lay, h, show ex_C 193 = 11 from rfl, show ex_L 193 = 9 from rfl])]
  rfl
theorem kr_194 : ex_ret 194 = some .boolean := rfl
theorem ke_194 {d : Nat} {o : Nat} {a0 : Int32} {w : PW} (h : ex_cls o = 11) : ex_cal (d + 1) 194 [.ref o, .int a0] w = ex_ev d (ex_cal d) 194 (ex_blk 194 0, [.ref o, .int a0], [], w) := by
  rw [ex_cal_s (by simp [ex_okR, ex_isv, ex_lay, h, show ex_C 194 = 11 from rfl, show ex_L 194 = 2 from rfl])]
  rfl
theorem kr_195 : ex_ret 195 = some .boolean := rfl
theorem ke_195 {d : Nat} {o : Nat} {a0 : Int32} {a1 : Int32} {a2 : Int32} {w : PW} (h : ex_cls o = 11) : ex_cal (d + 1) 195 [.ref o, .int a0, .int a1, .int a2] w = ex_ev d (ex_cal d) 195 (ex_blk 195 0, [.ref o, .int a0, .int a1, .int a2, .null], [], w) := by
  rw [ex_cal_s (by simp [ex_okR, ex_isv, ex_lay, h, show ex_C 195 = 11 from rfl, show ex_L 195 = 5 from rfl])]
  rfl
theorem kr_196 : ex_ret 196 = some .boolean := rfl
theorem ke_196 {d : Nat} {o : Nat} {a0 : Int32} {a1 : Int32} {w : PW} (h : ex_cls o = 11) : ex_cal (d + 1) 196 [.ref o, .int a0, .int a1] w = ex_ev d (ex_cal d) 196 (ex_blk 196 0, [.ref o, .int a0, .int a1, .null, .null], [], w) := by
  rw [ex_cal_s (by simp [ex_okR, ex_isv, ex_lay, h, show ex_C 196 = 11 from rfl, show ex_L 196 = 5 from rfl])]
  rfl
theorem kr_197 : ex_ret 197 = some .boolean := rfl
theorem ke_197 {d : Nat} {o : Nat} {w : PW} (h : ex_cls o = 11) : ex_cal (d + 1) 197 [.ref o] w = ex_ev d (ex_cal d) 197 (ex_blk 197 0, [.ref o, .null, .null, .null], [], w) := by
  rw [ex_cal_s (by simp [ex_okR, ex_isv, ex_lay, h, show ex_C 197 = 11 from rfl, show ex_L 197 = 4 from rfl])]
  rfl
theorem kr_198 : ex_ret 198 = none := rfl
theorem ke_198 {d : Nat} {o : Nat} {a0 : Int32} {a1 : Int32} {a2 : Int32} {a3 : Int32} {w : PW} (h : ex_cls o = 11) : ex_cal (d + 1) 198 [.ref o, .int a0, .int a1, .int a2, .int a3] w = ex_ev d (ex_cal d) 198 (ex_blk 198 0, [.ref o, .int a0, .int a1, .int a2, .int a3], [], w) := by
  rw [ex_cal_s (by simp [ex_okR, ex_isv, ex_lay, h, show ex_C 198 = 11 from rfl, show ex_L 198 = 5 from rfl])]
  rfl
theorem kr_199 : ex_ret 199 = some .boolean := rfl
theorem ke_199 {d : Nat} {a0 : Int32} {a1 : Int32} {w : PW} : ex_cal (d + 1) 199 [.int a0, .int a1] w = ex_ev d (ex_cal d) 199 (ex_blk 199 0, [.int a0, .int a1], [], w) := by
  rw [ex_cal_s (rfl)]
  rfl
theorem kr_200 : ex_ret 200 = some .int := rfl
theorem ke_200 {d : Nat} {o : Nat} {a0 : Int32} {a1 : Int32} {a2 : Int32} {w : PW} (h : ex_cls o = 11) : ex_cal (d + 1) 200 [.ref o, .int a0, .int a1, .int a2] w = ex_ev d (ex_cal d) 200 (ex_blk 200 0, [.ref o, .int a0, .int a1, .int a2], [], w) := by
  rw [ex_cal_s (by simp [ex_okR, ex_isv, ex_lay, h, show ex_C 200 = 11 from rfl, show ex_L 200 = 4 from rfl])]
  rfl
theorem kr_201 : ex_ret 201 = some .boolean := rfl
theorem ke_201 {d : Nat} {o : Nat} {a0 : Int32} {a1 : Int32} {a2 : Int32} {w : PW} (h : ex_cls o = 11) : ex_cal (d + 1) 201 [.ref o, .int a0, .int a1, .int a2] w = ex_ev d (ex_cal d) 201 (ex_blk 201 0, [.ref o, .int a0, .int a1, .int a2, .null], [], w) := by
  rw [ex_cal_s (by simp [ex_okR, ex_isv, ex_lay, h, show ex_C 201 = 11 from rfl, show ex_L 201 = 5 from rfl])]
  rfl
theorem kr_202 : ex_ret 202 = some .boolean := rfl
theorem ke_202 {d : Nat} {o : Nat} {a0 : Int32} {w : PW} (h : ex_cls o = 11) : ex_cal (d + 1) 202 [.ref o, .int a0] w = ex_ev d (ex_cal d) 202 (ex_blk 202 0, [.ref o, .int a0], [], w) := by
  rw [ex_cal_s (by simp [ex_okR, ex_isv, ex_lay, h, show ex_C 202 = 11 from rfl, show ex_L 202 = 2 from rfl])]
  rfl
theorem kr_203 : ex_ret 203 = some .int := rfl
theorem ke_203 {d : Nat} {o : Nat} {a0 : Int32} {a1 : Int32} {w : PW} (h : ex_cls o = 11) : ex_cal (d + 1) 203 [.ref o, .int a0, .int a1] w = ex_ev d (ex_cal d) 203 (ex_blk 203 0, [.ref o, .int a0, .int a1, .null], [], w) := by
  rw [ex_cal_s (by simp [ex_okR, ex_isv, ex_lay, h, show ex_C 203 = 11 from rfl, show ex_L 203 = 4 from rfl])]
  rfl
theorem kr_204 : ex_ret 204 = some .int := rfl
theorem ke_204 {d : Nat} {o : Nat} {a0 : Int32} {a1 : Int32} {w : PW} (h : ex_cls o = 11) : ex_cal (d + 1) 204 [.ref o, .int a0, .int a1] w = ex_ev d (ex_cal d) 204 (ex_blk 204 0, [.ref o, .int a0, .int a1], [], w) := by
  rw [ex_cal_s (by simp [ex_okR, ex_isv, ex_lay, h, show ex_C 204 = 11 from rfl, show ex_L 204 = 3 from rfl])]
  rfl
theorem kr_205 : ex_ret 205 = some .int := rfl
theorem ke_205 {d : Nat} {o : Nat} {a0 : Int32} {a1 : Int32} {w : PW} (h : ex_cls o = 11) : ex_cal (d + 1) 205 [.ref o, .int a0, .int a1] w = ex_ev d (ex_cal d) 205 (ex_blk 205 0, [.ref o, .int a0, .int a1], [], w) := by
  rw [ex_cal_s (by simp [ex_okR, ex_isv, ex_lay, h, show ex_C 205 = 11 from rfl, show ex_L 205 = 3 from rfl])]
  rfl
theorem kr_206 : ex_ret 206 = some .int := rfl
theorem ke_206 {d : Nat} {o : Nat} {a0 : Int32} {a1 : Int32} {a2 : Int32} {w : PW} (h : ex_cls o = 11) : ex_cal (d + 1) 206 [.ref o, .int a0, .int a1, .int a2] w = ex_ev d (ex_cal d) 206 (ex_blk 206 0, [.ref o, .int a0, .int a1, .int a2, .null, .null], [], w) := by
  rw [ex_cal_s (by simp [ex_okR, ex_isv, ex_lay, h, show ex_C 206 = 11 from rfl, show ex_L 206 = 6 from rfl])]
  rfl
theorem kr_207 : ex_ret 207 = some .int := rfl
theorem ke_207 {d : Nat} {o : Nat} {a0 : Int32} {a1 : Int32} {w : PW} (h : ex_cls o = 11) : ex_cal (d + 1) 207 [.ref o, .int a0, .int a1] w = ex_ev d (ex_cal d) 207 (ex_blk 207 0, [.ref o, .int a0, .int a1], [], w) := by
  rw [ex_cal_s (by simp [ex_okR, ex_isv, ex_lay, h, show ex_C 207 = 11 from rfl, show ex_L 207 = 3 from rfl])]
  rfl
theorem kr_208 : ex_ret 208 = some .boolean := rfl
theorem ke_208 {d : Nat} {o : Nat} {a0 : Int32} {a1 : Int32} {w : PW} (h : ex_cls o = 11) : ex_cal (d + 1) 208 [.ref o, .int a0, .int a1] w = ex_ev d (ex_cal d) 208 (ex_blk 208 0, [.ref o, .int a0, .int a1, .null, .null], [], w) := by
  rw [ex_cal_s (by simp [ex_okR, ex_isv, ex_lay, h, show ex_C 208 = 11 from rfl, show ex_L 208 = 5 from rfl])]
  rfl
theorem kr_209 : ex_ret 209 = some .boolean := rfl
theorem ke_209 {d : Nat} {o : Nat} {a0 : Int32} {a1 : Int32} {w : PW} (h : ex_cls o = 11) : ex_cal (d + 1) 209 [.ref o, .int a0, .int a1] w = ex_ev d (ex_cal d) 209 (ex_blk 209 0, [.ref o, .int a0, .int a1, .null, .null, .null, .null, .null, .null], [], w) := by
  rw [ex_cal_s (by simp [ex_okR, ex_isv, ex_lay, h, show ex_C 209 = 11 from rfl, show ex_L 209 = 9 from rfl])]
  rfl
theorem kr_210 : ex_ret 210 = some .boolean := rfl
theorem ke_210 {d : Nat} {o : Nat} {a0 : Int32} {a1 : Int32} {w : PW} (h : ex_cls o = 11) : ex_cal (d + 1) 210 [.ref o, .int a0, .int a1] w = ex_ev d (ex_cal d) 210 (ex_blk 210 0, [.ref o, .int a0, .int a1, .null, .null, .null], [], w) := by
  rw [ex_cal_s (by simp [ex_okR, ex_isv, ex_lay, h, show ex_C 210 = 11 from rfl, show ex_L 210 = 6 from rfl])]
  rfl
theorem kr_211 : ex_ret 211 = some .boolean := rfl
theorem ke_211 {d : Nat} {o : Nat} {a0 : Int32} {w : PW} (h : ex_cls o = 11) : ex_cal (d + 1) 211 [.ref o, .int a0] w = ex_ev d (ex_cal d) 211 (ex_blk 211 0, [.ref o, .int a0, .null, .null], [], w) := by
  rw [ex_cal_s (by simp [ex_okR, ex_isv, ex_lay, h, show ex_C 211 = 11 from rfl, show ex_L 211 = 4 from rfl])]
  rfl
theorem kr_212 : ex_ret 212 = some .int := rfl
theorem ke_212 {d : Nat} {o : Nat} {w : PW} (h : ex_cls o = 11) : ex_cal (d + 1) 212 [.ref o] w = ex_ev d (ex_cal d) 212 (ex_blk 212 0, [.ref o, .null, .null], [], w) := by
  rw [ex_cal_s (by simp [ex_okR, ex_isv, ex_lay, h, show ex_C 212 = 11 from rfl, show ex_L 212 = 3 from rfl])]
  rfl
theorem kr_213 : ex_ret 213 = some .int := rfl
theorem ke_213 {d : Nat} {o : Nat} {w : PW} (h : ex_cls o = 11) : ex_cal (d + 1) 213 [.ref o] w = ex_ev d (ex_cal d) 213 (ex_blk 213 0, [.ref o], [], w) := by
  rw [ex_cal_s (by simp [ex_okR, ex_isv, ex_lay, h, show ex_C 213 = 11 from rfl, show ex_L 213 = 1 from rfl])]
  rfl
theorem kr_214 : ex_ret 214 = some .boolean := rfl
theorem ke_214 {d : Nat} {o : Nat} {w : PW} (h : ex_cls o = 11) : ex_cal (d + 1) 214 [.ref o] w = ex_ev d (ex_cal d) 214 (ex_blk 214 0, [.ref o, .null, .null], [], w) := by
  rw [ex_cal_s (by simp [ex_okR, ex_isv, ex_lay, h, show ex_C 214 = 11 from rfl, show ex_L 214 = 3 from rfl])]
  rfl
theorem kr_215 : ex_ret 215 = some .boolean := rfl
theorem ke_215 {d : Nat} {o : Nat} {a0 : Int32} {a1 : Int32} {w : PW} (h : ex_cls o = 11) : ex_cal (d + 1) 215 [.ref o, .int a0, .int a1] w = ex_ev d (ex_cal d) 215 (ex_blk 215 0, [.ref o, .int a0, .int a1], [], w) := by
  rw [ex_cal_s (by simp [ex_okR, ex_isv, ex_lay, h, show ex_C 215 = 11 from rfl, show ex_L 215 = 3 from rfl])]
  rfl
theorem kr_216 : ex_ret 216 = some .boolean := rfl
theorem ke_216 {d : Nat} {o : Nat} {w : PW} (h : ex_cls o = 11) : ex_cal (d + 1) 216 [.ref o] w = ex_ev d (ex_cal d) 216 (ex_blk 216 0, [.ref o, .null, .null, .null, .null], [], w) := by
  rw [ex_cal_s (by simp [ex_okR, ex_isv, ex_lay, h, show ex_C 216 = 11 from rfl, show ex_L 216 = 5 from rfl])]
  rfl
theorem kr_217 : ex_ret 217 = some .boolean := rfl
theorem ke_217 {d : Nat} {o : Nat} {a0 : Int32} {w : PW} (h : ex_cls o = 11) : ex_cal (d + 1) 217 [.ref o, .int a0] w = ex_ev d (ex_cal d) 217 (ex_blk 217 0, [.ref o, .int a0, .null, .null, .null, .null], [], w) := by
  rw [ex_cal_s (by simp [ex_okR, ex_isv, ex_lay, h, show ex_C 217 = 11 from rfl, show ex_L 217 = 6 from rfl])]
  rfl
theorem kr_218 : ex_ret 218 = some .boolean := rfl
theorem ke_218 {d : Nat} {o : Nat} {w : PW} (h : ex_cls o = 11) : ex_cal (d + 1) 218 [.ref o] w = ex_ev d (ex_cal d) 218 (ex_blk 218 0, [.ref o, .null, .null, .null, .null], [], w) := by
  rw [ex_cal_s (by simp [ex_okR, ex_isv, ex_lay, h, show ex_C 218 = 11 from rfl, show ex_L 218 = 5 from rfl])]
  rfl
theorem kr_219 : ex_ret 219 = some .boolean := rfl
theorem ke_219 {d : Nat} {o : Nat} {w : PW} (h : ex_cls o = 11) : ex_cal (d + 1) 219 [.ref o] w = ex_ev d (ex_cal d) 219 (ex_blk 219 0, [.ref o], [], w) := by
  rw [ex_cal_s (by simp [ex_okR, ex_isv, ex_lay, h, show ex_C 219 = 11 from rfl, show ex_L 219 = 1 from rfl])]
  rfl
theorem kr_220 : ex_ret 220 = some .int := rfl
theorem ke_220 {d : Nat} {o : Nat} {a0 : Int32} {w : PW} (h : ex_cls o = 11) : ex_cal (d + 1) 220 [.ref o, .int a0] w = ex_ev d (ex_cal d) 220 (ex_blk 220 0, [.ref o, .int a0, .null], [], w) := by
  rw [ex_cal_s (by simp [ex_okR, ex_isv, ex_lay, h, show ex_C 220 = 11 from rfl, show ex_L 220 = 3 from rfl])]
  rfl
theorem kr_221 : ex_ret 221 = some .int := rfl
theorem ke_221 {d : Nat} {o : Nat} {a0 : Int32} {a1 : Int32} {w : PW} (h : ex_cls o = 11) : ex_cal (d + 1) 221 [.ref o, .int a0, .int a1] w = ex_ev d (ex_cal d) 221 (ex_blk 221 0, [.ref o, .int a0, .int a1], [], w) := by
  rw [ex_cal_s (by simp [ex_okR, ex_isv, ex_lay, h, show ex_C 221 = 11 from rfl, show ex_L 221 = 3 from rfl])]
  rfl
theorem kr_222 : ex_ret 222 = some .int := rfl
theorem ke_222 {d : Nat} {o : Nat} {a0 : Int32} {a1 : Int32} {a2 : Int32} {w : PW} (h : ex_cls o = 11) : ex_cal (d + 1) 222 [.ref o, .int a0, .int a1, .int a2] w = ex_ev d (ex_cal d) 222 (ex_blk 222 0, [.ref o, .int a0, .int a1, .int a2, .null, .null, .null, .null, .null, .null, .null], [], w) := by
  rw [ex_cal_s (by simp [ex_okR, ex_isv, ex_lay, h, show ex_C 222 = 11 from rfl, show ex_L 222 = 11 from rfl])]
  rfl
theorem kr_223 : ex_ret 223 = some .int := rfl
theorem ke_223 {d : Nat} {o : Nat} {a0 : Int32} {a1 : Int32} {w : PW} (h : ex_cls o = 11) : ex_cal (d + 1) 223 [.ref o, .int a0, .int a1] w = ex_ev d (ex_cal d) 223 (ex_blk 223 0, [.ref o, .int a0, .int a1, .null, .null, .null], [], w) := by
  rw [ex_cal_s (by simp [ex_okR, ex_isv, ex_lay, h, show ex_C 223 = 11 from rfl, show ex_L 223 = 6 from rfl])]
  rfl
theorem kr_224 : ex_ret 224 = some .int := rfl
theorem ke_224 {d : Nat} {o : Nat} {a0 : Int32} {a1 : Int32} {a2 : Int32} {a3 : Int32} {a4 : Int32} {w : PW} (h : ex_cls o = 11) : ex_cal (d + 1) 224 [.ref o, .int a0, .int a1, .int a2, .int a3, .int a4] w = ex_ev d (ex_cal d) 224 (ex_blk 224 0, [.ref o, .int a0, .int a1, .int a2, .int a3, .int a4, .null, .null, .null, .null, .null, .null], [], w) := by
  rw [ex_cal_s (by simp [ex_okR, ex_isv, ex_lay, h, show ex_C 224 = 11 from rfl, show ex_L 224 = 12 from rfl])]
  rfl
theorem kr_225 : ex_ret 225 = some .int := rfl
theorem ke_225 {d : Nat} {o : Nat} {a0 : Int32} {w : PW} (h : ex_cls o = 11) : ex_cal (d + 1) 225 [.ref o, .int a0] w = ex_ev d (ex_cal d) 225 (ex_blk 225 0, [.ref o, .int a0, .null, .null], [], w) := by
  rw [ex_cal_s (by simp [ex_okR, ex_isv, ex_lay, h, show ex_C 225 = 11 from rfl, show ex_L 225 = 4 from rfl])]
  rfl
theorem kr_226 : ex_ret 226 = some .int := rfl
theorem ke_226 {d : Nat} {o : Nat} {a0 : Int32} {a1 : Int32} {w : PW} (h : ex_cls o = 11) : ex_cal (d + 1) 226 [.ref o, .int a0, .int a1] w = ex_ev d (ex_cal d) 226 (ex_blk 226 0, [.ref o, .int a0, .int a1], [], w) := by
  rw [ex_cal_s (by simp [ex_okR, ex_isv, ex_lay, h, show ex_C 226 = 11 from rfl, show ex_L 226 = 3 from rfl])]
  rfl
theorem kr_227 : ex_ret 227 = some .int := rfl
theorem ke_227 {d : Nat} {o : Nat} {w : PW} (h : ex_cls o = 11) : ex_cal (d + 1) 227 [.ref o] w = ex_ev d (ex_cal d) 227 (ex_blk 227 0, [.ref o, .null, .null, .null, .null], [], w) := by
  rw [ex_cal_s (by simp [ex_okR, ex_isv, ex_lay, h, show ex_C 227 = 11 from rfl, show ex_L 227 = 5 from rfl])]
  rfl
theorem kr_228 : ex_ret 228 = some .int := rfl
theorem ke_228 {d : Nat} {o : Nat} {w : PW} (h : ex_cls o = 11) : ex_cal (d + 1) 228 [.ref o] w = ex_ev d (ex_cal d) 228 (ex_blk 228 0, [.ref o], [], w) := by
  rw [ex_cal_s (by simp [ex_okR, ex_isv, ex_lay, h, show ex_C 228 = 11 from rfl, show ex_L 228 = 1 from rfl])]
  rfl
theorem kr_229 : ex_ret 229 = some .int := rfl
theorem ke_229 {d : Nat} {o : Nat} {w : PW} (h : ex_cls o = 11) : ex_cal (d + 1) 229 [.ref o] w = ex_ev d (ex_cal d) 229 (ex_blk 229 0, [.ref o, .null], [], w) := by
  rw [ex_cal_s (by simp [ex_okR, ex_isv, ex_lay, h, show ex_C 229 = 11 from rfl, show ex_L 229 = 2 from rfl])]
  rfl
theorem kr_230 : ex_ret 230 = some .int := rfl
theorem ke_230 {d : Nat} {o : Nat} {w : PW} (h : ex_cls o = 11) : ex_cal (d + 1) 230 [.ref o] w = ex_ev d (ex_cal d) 230 (ex_blk 230 0, [.ref o, .null], [], w) := by
  rw [ex_cal_s (by simp [ex_okR, ex_isv, ex_lay, h, show ex_C 230 = 11 from rfl, show ex_L 230 = 2 from rfl])]
  rfl
theorem kr_231 : ex_ret 231 = some .int := rfl
theorem ke_231 {d : Nat} {o : Nat} {a0 : Int32} {w : PW} (h : ex_cls o = 11) : ex_cal (d + 1) 231 [.ref o, .int a0] w = ex_ev d (ex_cal d) 231 (ex_blk 231 0, [.ref o, .int a0], [], w) := by
  rw [ex_cal_s (by simp [ex_okR, ex_isv, ex_lay, h, show ex_C 231 = 11 from rfl, show ex_L 231 = 2 from rfl])]
  rfl
theorem kr_232 : ex_ret 232 = some .int := rfl
theorem ke_232 {d : Nat} {o : Nat} {a0 : Int32} {w : PW} (h : ex_cls o = 11) : ex_cal (d + 1) 232 [.ref o, .int a0] w = ex_ev d (ex_cal d) 232 (ex_blk 232 0, [.ref o, .int a0], [], w) := by
  rw [ex_cal_s (by simp [ex_okR, ex_isv, ex_lay, h, show ex_C 232 = 11 from rfl, show ex_L 232 = 2 from rfl])]
  rfl
theorem kr_233 : ex_ret 233 = none := rfl
theorem ke_233 {d : Nat} {o : Nat} {a0 : Int64} {w : PW} (h : ex_cls o = 11) : ex_cal (d + 1) 233 [.ref o, .long a0] w = ex_ev d (ex_cal d) 233 (ex_blk 233 0, [.ref o, .long a0, .retAddr 0], [], w) := by
  rw [ex_cal_s (by simp [ex_okR, ex_isv, ex_lay, h, show ex_C 233 = 11 from rfl, show ex_L 233 = 3 from rfl])]
  rfl
theorem kr_234 : ex_ret 234 = none := rfl
theorem ke_234 {d : Nat} {o : Nat} {w : PW} (h : ex_cls o = 11) : ex_cal (d + 1) 234 [.ref o] w = ex_ev d (ex_cal d) 234 (ex_blk 234 0, [.ref o, .null, .null], [], w) := by
  rw [ex_cal_s (by simp [ex_okR, ex_isv, ex_lay, h, show ex_C 234 = 11 from rfl, show ex_L 234 = 3 from rfl])]
  rfl
theorem kr_235 : ex_ret 235 = some .long := rfl
theorem ke_235 {d : Nat} {o : Nat} {w : PW} (h : ex_cls o = 11) : ex_cal (d + 1) 235 [.ref o] w = ex_ev d (ex_cal d) 235 (ex_blk 235 0, [.ref o, .null, .null], [], w) := by
  rw [ex_cal_s (by simp [ex_okR, ex_isv, ex_lay, h, show ex_C 235 = 11 from rfl, show ex_L 235 = 3 from rfl])]
  rfl
theorem kc_0 : ex_cls 0 = 10 := rfl
theorem kf_0_640 {w : PW} : ex_fv w 0 640 = some (.ref 1) := rfl
theorem kf_0_641 {w : PW} : ex_fv w 0 641 = some (.ref 3) := rfl
theorem kf_0_642 {w : PW} : ex_fv w 0 642 = some (.ref 4) := rfl
theorem kf_0_643 {w : PW} : ex_fv w 0 643 = some (.ref 5) := rfl
theorem kf_0_644 {w : PW} : ex_fv w 0 644 = some (.ref 17) := rfl
theorem kf_0_645 {w : PW} : ex_fv w 0 645 = some (.ref 20) := rfl
theorem kf_0_646 {w : PW} : ex_fv w 0 646 = some (.ref 29) := rfl
theorem kf_0_647 {w : PW} : ex_fv w 0 647 = some (.ref 38) := rfl
theorem kf_0_648 {w : PW} : ex_fv w 0 648 = some (.ref 41) := rfl
theorem kf_0_649 {w : PW} : ex_fv w 0 649 = some (.int (w.1 0 9)) := rfl
theorem kk_0_649 : ex_fk 0 649 = some 2 := rfl
theorem kf_0_650 {w : PW} : ex_fv w 0 650 = some (.int (w.1 0 10)) := rfl
theorem kk_0_650 : ex_fk 0 650 = some 0 := rfl
theorem kf_0_651 {w : PW} : ex_fv w 0 651 = some (.int (w.1 0 11)) := rfl
theorem kk_0_651 : ex_fk 0 651 = some 0 := rfl
theorem kc_1 : ex_cls 1 = 7 := rfl
theorem kf_1_448 {w : PW} : ex_fv w 1 448 = some (.ref 2) := rfl
theorem kf_1_449 {w : PW} : ex_fv w 1 449 = some (.int (w.1 1 1)) := rfl
theorem kk_1_449 : ex_fk 1 449 = some 0 := rfl
theorem kc_2 : ex_cls 2 = 12 := rfl
theorem kl_2 : ex_len 2 = 40 := rfl
theorem ka_2 {w : PW} {i : Int32} : ex_ald w 2 i = if i < 0 ∨ 40 ≤ i.toNatClampNeg then none else some (w.1 2 i.toNatClampNeg) := rfl
theorem kc_3 : ex_cls 3 = 2 := rfl
theorem kf_3_128 {w : PW} : ex_fv w 3 128 = some (.int (w.1 3 0)) := rfl
theorem kk_3_128 : ex_fk 3 128 = some 0 := rfl
theorem kf_3_129 {w : PW} : ex_fv w 3 129 = some (.int (w.1 3 1)) := rfl
theorem kk_3_129 : ex_fk 3 129 = some 0 := rfl
theorem kf_3_130 {w : PW} : ex_fv w 3 130 = some (.int (w.1 3 2)) := rfl
theorem kk_3_130 : ex_fk 3 130 = some 0 := rfl
theorem kf_3_131 {w : PW} : ex_fv w 3 131 = some (.int (w.1 3 3)) := rfl
theorem kk_3_131 : ex_fk 3 131 = some 2 := rfl
theorem kc_4 : ex_cls 4 = 4 := rfl
theorem kf_4_256 {w : PW} : ex_fv w 4 256 = some (.int (w.1 4 0)) := rfl
theorem kk_4_256 : ex_fk 4 256 = some 0 := rfl
theorem kf_4_257 {w : PW} : ex_fv w 4 257 = some (.int (w.1 4 1)) := rfl
theorem kk_4_257 : ex_fk 4 257 = some 0 := rfl
theorem kf_4_258 {w : PW} : ex_fv w 4 258 = some (.int (w.1 4 2)) := rfl
theorem kk_4_258 : ex_fk 4 258 = some 0 := rfl
theorem kf_4_259 {w : PW} : ex_fv w 4 259 = some (.int (w.1 4 3)) := rfl
theorem kk_4_259 : ex_fk 4 259 = some 0 := rfl
theorem kf_4_260 {w : PW} : ex_fv w 4 260 = some (.int (w.1 4 4)) := rfl
theorem kk_4_260 : ex_fk 4 260 = some 0 := rfl
theorem kf_4_261 {w : PW} : ex_fv w 4 261 = some (.int (w.1 4 5)) := rfl
theorem kk_4_261 : ex_fk 4 261 = some 0 := rfl
theorem kf_4_262 {w : PW} : ex_fv w 4 262 = some (.int (w.1 4 6)) := rfl
theorem kk_4_262 : ex_fk 4 262 = some 0 := rfl
theorem kc_5 : ex_cls 5 = 1 := rfl
theorem kf_5_64 {w : PW} : ex_fv w 5 64 = some (.ref 6) := rfl
theorem kf_5_65 {w : PW} : ex_fv w 5 65 = some (.ref 7) := rfl
theorem kf_5_66 {w : PW} : ex_fv w 5 66 = some (.ref 8) := rfl
theorem kf_5_67 {w : PW} : ex_fv w 5 67 = some (.ref 9) := rfl
theorem kf_5_68 {w : PW} : ex_fv w 5 68 = some (.ref 10) := rfl
theorem kf_5_69 {w : PW} : ex_fv w 5 69 = some (.ref 11) := rfl
theorem kf_5_70 {w : PW} : ex_fv w 5 70 = some (.ref 12) := rfl
theorem kf_5_71 {w : PW} : ex_fv w 5 71 = some (.ref 13) := rfl
theorem kf_5_72 {w : PW} : ex_fv w 5 72 = some (.ref 14) := rfl
theorem kf_5_73 {w : PW} : ex_fv w 5 73 = some (.ref 15) := rfl
theorem kf_5_74 {w : PW} : ex_fv w 5 74 = some (.ref 16) := rfl
theorem kf_5_75 {w : PW} : ex_fv w 5 75 = some (.int (w.1 5 11)) := rfl
theorem kk_5_75 : ex_fk 5 75 = some 0 := rfl
theorem kf_5_76 {w : PW} : ex_fv w 5 76 = some (.int (w.1 5 12)) := rfl
theorem kk_5_76 : ex_fk 5 76 = some 0 := rfl
theorem kf_5_77 {w : PW} : ex_fv w 5 77 = some (.int (w.1 5 13)) := rfl
theorem kk_5_77 : ex_fk 5 77 = some 0 := rfl
theorem kc_6 : ex_cls 6 = 12 := rfl
theorem kl_6 : ex_len 6 = 24 := rfl
theorem ka_6 {w : PW} {i : Int32} : ex_ald w 6 i = if i < 0 ∨ 24 ≤ i.toNatClampNeg then none else some (w.1 6 i.toNatClampNeg) := rfl
theorem kc_7 : ex_cls 7 = 12 := rfl
theorem kl_7 : ex_len 7 = 24 := rfl
theorem ka_7 {w : PW} {i : Int32} : ex_ald w 7 i = if i < 0 ∨ 24 ≤ i.toNatClampNeg then none else some (w.1 7 i.toNatClampNeg) := rfl
theorem kc_8 : ex_cls 8 = 12 := rfl
theorem kl_8 : ex_len 8 = 24 := rfl
theorem ka_8 {w : PW} {i : Int32} : ex_ald w 8 i = if i < 0 ∨ 24 ≤ i.toNatClampNeg then none else some (w.1 8 i.toNatClampNeg) := rfl
theorem kc_9 : ex_cls 9 = 12 := rfl
theorem kl_9 : ex_len 9 = 4 := rfl
theorem ka_9 {w : PW} {i : Int32} : ex_ald w 9 i = if i < 0 ∨ 4 ≤ i.toNatClampNeg then none else some (w.1 9 i.toNatClampNeg) := rfl
theorem kc_10 : ex_cls 10 = 12 := rfl
theorem kl_10 : ex_len 10 = 96 := rfl
theorem ka_10 {w : PW} {i : Int32} : ex_ald w 10 i = if i < 0 ∨ 96 ≤ i.toNatClampNeg then none else some (w.1 10 i.toNatClampNeg) := rfl
theorem kc_11 : ex_cls 11 = 12 := rfl
theorem kl_11 : ex_len 11 = 96 := rfl
theorem ka_11 {w : PW} {i : Int32} : ex_ald w 11 i = if i < 0 ∨ 96 ≤ i.toNatClampNeg then none else some (w.1 11 i.toNatClampNeg) := rfl
theorem kc_12 : ex_cls 12 = 12 := rfl
theorem kl_12 : ex_len 12 = 96 := rfl
theorem ka_12 {w : PW} {i : Int32} : ex_ald w 12 i = if i < 0 ∨ 96 ≤ i.toNatClampNeg then none else some (w.1 12 i.toNatClampNeg) := rfl
theorem kc_13 : ex_cls 13 = 12 := rfl
theorem kl_13 : ex_len 13 = 96 := rfl
theorem ka_13 {w : PW} {i : Int32} : ex_ald w 13 i = if i < 0 ∨ 96 ≤ i.toNatClampNeg then none else some (w.1 13 i.toNatClampNeg) := rfl
theorem kc_14 : ex_cls 14 = 12 := rfl
theorem kl_14 : ex_len 14 = 24 := rfl
theorem ka_14 {w : PW} {i : Int32} : ex_ald w 14 i = if i < 0 ∨ 24 ≤ i.toNatClampNeg then none else some (w.1 14 i.toNatClampNeg) := rfl
theorem kc_15 : ex_cls 15 = 12 := rfl
theorem kl_15 : ex_len 15 = 24 := rfl
theorem ka_15 {w : PW} {i : Int32} : ex_ald w 15 i = if i < 0 ∨ 24 ≤ i.toNatClampNeg then none else some (w.1 15 i.toNatClampNeg) := rfl
theorem kc_16 : ex_cls 16 = 12 := rfl
theorem kl_16 : ex_len 16 = 24 := rfl
theorem ka_16 {w : PW} {i : Int32} : ex_ald w 16 i = if i < 0 ∨ 24 ≤ i.toNatClampNeg then none else some (w.1 16 i.toNatClampNeg) := rfl
theorem kc_17 : ex_cls 17 = 5 := rfl
theorem kf_17_320 {w : PW} : ex_fv w 17 320 = some (.ref 18) := rfl
theorem kc_18 : ex_cls 18 = 8 := rfl
theorem kf_18_512 {w : PW} : ex_fv w 18 512 = some (.ref 19) := rfl
theorem kf_18_513 {w : PW} : ex_fv w 18 513 = some (.int (w.1 18 1)) := rfl
theorem kk_18_513 : ex_fk 18 513 = some 0 := rfl
theorem kf_18_514 {w : PW} : ex_fv w 18 514 = some (.int (w.1 18 2)) := rfl
theorem kk_18_514 : ex_fk 18 514 = some 0 := rfl
theorem kc_19 : ex_cls 19 = 12 := rfl
theorem kl_19 : ex_len 19 = 60 := rfl
theorem ka_19 {w : PW} {i : Int32} : ex_ald w 19 i = if i < 0 ∨ 60 ≤ i.toNatClampNeg then none else some (w.1 19 i.toNatClampNeg) := rfl
theorem kc_20 : ex_cls 20 = 0 := rfl
theorem kf_20_0 {w : PW} : ex_fv w 20 0 = some (.ref 21) := rfl
theorem kf_20_1 {w : PW} : ex_fv w 20 1 = some (.ref 23) := rfl
theorem kf_20_2 {w : PW} : ex_fv w 20 2 = some (.ref 25) := rfl
theorem kf_20_3 {w : PW} : ex_fv w 20 3 = some (.ref 27) := rfl
theorem kc_21 : ex_cls 21 = 8 := rfl
theorem kf_21_512 {w : PW} : ex_fv w 21 512 = some (.ref 22) := rfl
theorem kf_21_513 {w : PW} : ex_fv w 21 513 = some (.int (w.1 21 1)) := rfl
theorem kk_21_513 : ex_fk 21 513 = some 0 := rfl
theorem kf_21_514 {w : PW} : ex_fv w 21 514 = some (.int (w.1 21 2)) := rfl
theorem kk_21_514 : ex_fk 21 514 = some 0 := rfl
theorem kc_22 : ex_cls 22 = 12 := rfl
theorem kl_22 : ex_len 22 = 60 := rfl
theorem ka_22 {w : PW} {i : Int32} : ex_ald w 22 i = if i < 0 ∨ 60 ≤ i.toNatClampNeg then none else some (w.1 22 i.toNatClampNeg) := rfl
theorem kc_23 : ex_cls 23 = 8 := rfl
theorem kf_23_512 {w : PW} : ex_fv w 23 512 = some (.ref 24) := rfl
theorem kf_23_513 {w : PW} : ex_fv w 23 513 = some (.int (w.1 23 1)) := rfl
theorem kk_23_513 : ex_fk 23 513 = some 0 := rfl
theorem kf_23_514 {w : PW} : ex_fv w 23 514 = some (.int (w.1 23 2)) := rfl
theorem kk_23_514 : ex_fk 23 514 = some 0 := rfl
theorem kc_24 : ex_cls 24 = 12 := rfl
theorem kl_24 : ex_len 24 = 60 := rfl
theorem ka_24 {w : PW} {i : Int32} : ex_ald w 24 i = if i < 0 ∨ 60 ≤ i.toNatClampNeg then none else some (w.1 24 i.toNatClampNeg) := rfl
theorem kc_25 : ex_cls 25 = 8 := rfl
theorem kf_25_512 {w : PW} : ex_fv w 25 512 = some (.ref 26) := rfl
theorem kf_25_513 {w : PW} : ex_fv w 25 513 = some (.int (w.1 25 1)) := rfl
theorem kk_25_513 : ex_fk 25 513 = some 0 := rfl
theorem kf_25_514 {w : PW} : ex_fv w 25 514 = some (.int (w.1 25 2)) := rfl
theorem kk_25_514 : ex_fk 25 514 = some 0 := rfl
theorem kc_26 : ex_cls 26 = 12 := rfl
theorem kl_26 : ex_len 26 = 60 := rfl
theorem ka_26 {w : PW} {i : Int32} : ex_ald w 26 i = if i < 0 ∨ 60 ≤ i.toNatClampNeg then none else some (w.1 26 i.toNatClampNeg) := rfl
theorem kc_27 : ex_cls 27 = 8 := rfl
theorem kf_27_512 {w : PW} : ex_fv w 27 512 = some (.ref 28) := rfl
theorem kf_27_513 {w : PW} : ex_fv w 27 513 = some (.int (w.1 27 1)) := rfl
theorem kk_27_513 : ex_fk 27 513 = some 0 := rfl
theorem kf_27_514 {w : PW} : ex_fv w 27 514 = some (.int (w.1 27 2)) := rfl
theorem kk_27_514 : ex_fk 27 514 = some 0 := rfl
theorem kc_28 : ex_cls 28 = 12 := rfl
theorem kl_28 : ex_len 28 = 60 := rfl
theorem ka_28 {w : PW} {i : Int32} : ex_ald w 28 i = if i < 0 ∨ 60 ≤ i.toNatClampNeg then none else some (w.1 28 i.toNatClampNeg) := rfl
theorem kc_29 : ex_cls 29 = 0 := rfl
theorem kf_29_0 {w : PW} : ex_fv w 29 0 = some (.ref 30) := rfl
theorem kf_29_1 {w : PW} : ex_fv w 29 1 = some (.ref 32) := rfl
theorem kf_29_2 {w : PW} : ex_fv w 29 2 = some (.ref 34) := rfl
theorem kf_29_3 {w : PW} : ex_fv w 29 3 = some (.ref 36) := rfl
theorem kc_30 : ex_cls 30 = 8 := rfl
theorem kf_30_512 {w : PW} : ex_fv w 30 512 = some (.ref 31) := rfl
theorem kf_30_513 {w : PW} : ex_fv w 30 513 = some (.int (w.1 30 1)) := rfl
theorem kk_30_513 : ex_fk 30 513 = some 0 := rfl
theorem kf_30_514 {w : PW} : ex_fv w 30 514 = some (.int (w.1 30 2)) := rfl
theorem kk_30_514 : ex_fk 30 514 = some 0 := rfl
theorem kc_31 : ex_cls 31 = 12 := rfl
theorem kl_31 : ex_len 31 = 60 := rfl
theorem ka_31 {w : PW} {i : Int32} : ex_ald w 31 i = if i < 0 ∨ 60 ≤ i.toNatClampNeg then none else some (w.1 31 i.toNatClampNeg) := rfl
theorem kc_32 : ex_cls 32 = 8 := rfl
theorem kf_32_512 {w : PW} : ex_fv w 32 512 = some (.ref 33) := rfl
theorem kf_32_513 {w : PW} : ex_fv w 32 513 = some (.int (w.1 32 1)) := rfl
theorem kk_32_513 : ex_fk 32 513 = some 0 := rfl
theorem kf_32_514 {w : PW} : ex_fv w 32 514 = some (.int (w.1 32 2)) := rfl
theorem kk_32_514 : ex_fk 32 514 = some 0 := rfl
theorem kc_33 : ex_cls 33 = 12 := rfl
theorem kl_33 : ex_len 33 = 60 := rfl
theorem ka_33 {w : PW} {i : Int32} : ex_ald w 33 i = if i < 0 ∨ 60 ≤ i.toNatClampNeg then none else some (w.1 33 i.toNatClampNeg) := rfl
theorem kc_34 : ex_cls 34 = 8 := rfl
theorem kf_34_512 {w : PW} : ex_fv w 34 512 = some (.ref 35) := rfl
theorem kf_34_513 {w : PW} : ex_fv w 34 513 = some (.int (w.1 34 1)) := rfl
theorem kk_34_513 : ex_fk 34 513 = some 0 := rfl
theorem kf_34_514 {w : PW} : ex_fv w 34 514 = some (.int (w.1 34 2)) := rfl
theorem kk_34_514 : ex_fk 34 514 = some 0 := rfl
theorem kc_35 : ex_cls 35 = 12 := rfl
theorem kl_35 : ex_len 35 = 60 := rfl
theorem ka_35 {w : PW} {i : Int32} : ex_ald w 35 i = if i < 0 ∨ 60 ≤ i.toNatClampNeg then none else some (w.1 35 i.toNatClampNeg) := rfl
theorem kc_36 : ex_cls 36 = 8 := rfl
theorem kf_36_512 {w : PW} : ex_fv w 36 512 = some (.ref 37) := rfl
theorem kf_36_513 {w : PW} : ex_fv w 36 513 = some (.int (w.1 36 1)) := rfl
theorem kk_36_513 : ex_fk 36 513 = some 0 := rfl
theorem kf_36_514 {w : PW} : ex_fv w 36 514 = some (.int (w.1 36 2)) := rfl
theorem kk_36_514 : ex_fk 36 514 = some 0 := rfl
theorem kc_37 : ex_cls 37 = 12 := rfl
theorem kl_37 : ex_len 37 = 60 := rfl
theorem ka_37 {w : PW} {i : Int32} : ex_ald w 37 i = if i < 0 ∨ 60 ≤ i.toNatClampNeg then none else some (w.1 37 i.toNatClampNeg) := rfl
theorem kc_38 : ex_cls 38 = 3 := rfl
theorem kf_38_192 {w : PW} : ex_fv w 38 192 = some (.ref 39) := rfl
theorem kf_38_193 {w : PW} : ex_fv w 38 193 = some (.ref 40) := rfl
theorem kf_38_194 {w : PW} : ex_fv w 38 194 = some (.int (w.1 38 2)) := rfl
theorem kk_38_194 : ex_fk 38 194 = some 0 := rfl
theorem kc_39 : ex_cls 39 = 12 := rfl
theorem kl_39 : ex_len 39 = 6 := rfl
theorem ka_39 {w : PW} {i : Int32} : ex_ald w 39 i = if i < 0 ∨ 6 ≤ i.toNatClampNeg then none else some (w.1 39 i.toNatClampNeg) := rfl
theorem kc_40 : ex_cls 40 = 12 := rfl
theorem kl_40 : ex_len 40 = 144 := rfl
theorem ka_40 {w : PW} {i : Int32} : ex_ald w 40 i = if i < 0 ∨ 144 ≤ i.toNatClampNeg then none else some (w.1 40 i.toNatClampNeg) := rfl
theorem kc_41 : ex_cls 41 = 6 := rfl
theorem kf_41_384 {w : PW} : ex_fv w 41 384 = some (.ref 42) := rfl
theorem kf_41_385 {w : PW} : ex_fv w 41 385 = some (.ref 43) := rfl
theorem kf_41_386 {w : PW} : ex_fv w 41 386 = some (.ref 44) := rfl
theorem kf_41_387 {w : PW} : ex_fv w 41 387 = some (.ref 45) := rfl
theorem kf_41_388 {w : PW} : ex_fv w 41 388 = some (.int (w.1 41 4)) := rfl
theorem kk_41_388 : ex_fk 41 388 = some 0 := rfl
theorem kf_41_389 {w : PW} : ex_fv w 41 389 = some (.int (w.1 41 5)) := rfl
theorem kk_41_389 : ex_fk 41 389 = some 0 := rfl
theorem kc_42 : ex_cls 42 = 12 := rfl
theorem kl_42 : ex_len 42 = 3 := rfl
theorem ka_42 {w : PW} {i : Int32} : ex_ald w 42 i = if i < 0 ∨ 3 ≤ i.toNatClampNeg then none else some (w.1 42 i.toNatClampNeg) := rfl
theorem kc_43 : ex_cls 43 = 12 := rfl
theorem kl_43 : ex_len 43 = 3 := rfl
theorem ka_43 {w : PW} {i : Int32} : ex_ald w 43 i = if i < 0 ∨ 3 ≤ i.toNatClampNeg then none else some (w.1 43 i.toNatClampNeg) := rfl
theorem kc_44 : ex_cls 44 = 12 := rfl
theorem kl_44 : ex_len 44 = 3 := rfl
theorem ka_44 {w : PW} {i : Int32} : ex_ald w 44 i = if i < 0 ∨ 3 ≤ i.toNatClampNeg then none else some (w.1 44 i.toNatClampNeg) := rfl
theorem kc_45 : ex_cls 45 = 12 := rfl
theorem kl_45 : ex_len 45 = 5 := rfl
theorem ka_45 {w : PW} {i : Int32} : ex_ald w 45 i = if i < 0 ∨ 5 ≤ i.toNatClampNeg then none else some (w.1 45 i.toNatClampNeg) := rfl
theorem kc_46 : ex_cls 46 = 11 := rfl
theorem kf_46_704 {w : PW} : ex_fv w 46 704 = some (.int (w.1 46 0)) := rfl
theorem kk_46_704 : ex_fk 46 704 = some 0 := rfl
theorem kf_46_705 {w : PW} : ex_fv w 46 705 = some (.int (w.1 46 1)) := rfl
theorem kk_46_705 : ex_fk 46 705 = some 0 := rfl
theorem kf_46_706 {w : PW} : ex_fv w 46 706 = some (.int (w.1 46 2)) := rfl
theorem kk_46_706 : ex_fk 46 706 = some 0 := rfl
theorem kf_46_707 {w : PW} : ex_fv w 46 707 = some (.ref 47) := rfl
theorem kf_46_708 {w : PW} : ex_fv w 46 708 = some (.ref 48) := rfl
theorem kf_46_709 {w : PW} : ex_fv w 46 709 = some (.int (w.1 46 5)) := rfl
theorem kk_46_709 : ex_fk 46 709 = some 0 := rfl
theorem kf_46_710 {w : PW} : ex_fv w 46 710 = some (.ref 49) := rfl
theorem kf_46_711 {w : PW} : ex_fv w 46 711 = some (.ref 50) := rfl
theorem kf_46_712 {w : PW} : ex_fv w 46 712 = some (.ref 51) := rfl
theorem kf_46_713 {w : PW} : ex_fv w 46 713 = some (.ref 52) := rfl
theorem kf_46_714 {w : PW} : ex_fv w 46 714 = some (.ref 53) := rfl
theorem kf_46_715 {w : PW} : ex_fv w 46 715 = some (.int (w.1 46 11)) := rfl
theorem kk_46_715 : ex_fk 46 715 = some 0 := rfl
theorem kf_46_716 {w : PW} : ex_fv w 46 716 = some (.ref 54) := rfl
theorem kf_46_717 {w : PW} : ex_fv w 46 717 = some (.int (w.1 46 13)) := rfl
theorem kk_46_717 : ex_fk 46 717 = some 0 := rfl
theorem kf_46_718 {w : PW} : ex_fv w 46 718 = some (.ref 55) := rfl
theorem kf_46_719 {w : PW} : ex_fv w 46 719 = some (.ref 56) := rfl
theorem kf_46_720 {w : PW} : ex_fv w 46 720 = some (.ref 57) := rfl
theorem kf_46_721 {w : PW} : ex_fv w 46 721 = some (.int (w.1 46 17)) := rfl
theorem kk_46_721 : ex_fk 46 721 = some 0 := rfl
theorem kf_46_722 {w : PW} : ex_fv w 46 722 = some (.ref 58) := rfl
theorem kf_46_723 {w : PW} : ex_fv w 46 723 = some (.ref 59) := rfl
theorem kf_46_724 {w : PW} : ex_fv w 46 724 = some (.int (w.1 46 20)) := rfl
theorem kk_46_724 : ex_fk 46 724 = some 0 := rfl
theorem kf_46_725 {w : PW} : ex_fv w 46 725 = some (.ref 60) := rfl
theorem kf_46_726 {w : PW} : ex_fv w 46 726 = some (.ref 61) := rfl
theorem kf_46_727 {w : PW} : ex_fv w 46 727 = some (.int (w.1 46 23)) := rfl
theorem kk_46_727 : ex_fk 46 727 = some 0 := rfl
theorem kf_46_728 {w : PW} : ex_fv w 46 728 = some (.int (w.1 46 24)) := rfl
theorem kk_46_728 : ex_fk 46 728 = some 0 := rfl
theorem kf_46_729 {w : PW} : ex_fv w 46 729 = some (.ref 62) := rfl
theorem kf_46_730 {w : PW} : ex_fv w 46 730 = some (.int (w.1 46 26)) := rfl
theorem kk_46_730 : ex_fk 46 730 = some 2 := rfl
theorem kf_46_731 {w : PW} : ex_fv w 46 731 = some (.int (w.1 46 27)) := rfl
theorem kk_46_731 : ex_fk 46 731 = some 0 := rfl
theorem kf_46_732 {w : PW} : ex_fv w 46 732 = some (.int (w.1 46 28)) := rfl
theorem kk_46_732 : ex_fk 46 732 = some 0 := rfl
theorem kf_46_733 {w : PW} : ex_fv w 46 733 = some (.int (w.1 46 29)) := rfl
theorem kk_46_733 : ex_fk 46 733 = some 0 := rfl
theorem kf_46_734 {w : PW} : ex_fv w 46 734 = some (.int (w.1 46 30)) := rfl
theorem kk_46_734 : ex_fk 46 734 = some 0 := rfl
theorem kf_46_735 {w : PW} : ex_fv w 46 735 = some (.int (w.1 46 31)) := rfl
theorem kk_46_735 : ex_fk 46 735 = some 0 := rfl
theorem kf_46_736 {w : PW} : ex_fv w 46 736 = some (.ref 63) := rfl
theorem kf_46_737 {w : PW} : ex_fv w 46 737 = some (.ref 64) := rfl
theorem kf_46_738 {w : PW} : ex_fv w 46 738 = some (.ref 65) := rfl
theorem kf_46_739 {w : PW} : ex_fv w 46 739 = some (.ref 66) := rfl
theorem kf_46_740 {w : PW} : ex_fv w 46 740 = some (.int (w.1 46 36)) := rfl
theorem kk_46_740 : ex_fk 46 740 = some 0 := rfl
theorem kf_46_741 {w : PW} : ex_fv w 46 741 = some (.int (w.1 46 37)) := rfl
theorem kk_46_741 : ex_fk 46 741 = some 2 := rfl
theorem kf_46_742 {w : PW} : ex_fv w 46 742 = some (.int (w.1 46 38)) := rfl
theorem kk_46_742 : ex_fk 46 742 = some 0 := rfl
theorem kf_46_743 {w : PW} : ex_fv w 46 743 = some (.int (w.1 46 39)) := rfl
theorem kk_46_743 : ex_fk 46 743 = some 0 := rfl
theorem kf_46_744 {w : PW} : ex_fv w 46 744 = some (.int (w.1 46 40)) := rfl
theorem kk_46_744 : ex_fk 46 744 = some 0 := rfl
theorem kf_46_745 {w : PW} : ex_fv w 46 745 = some (.int (w.1 46 41)) := rfl
theorem kk_46_745 : ex_fk 46 745 = some 2 := rfl
theorem kf_46_746 {w : PW} : ex_fv w 46 746 = some (.ref 67) := rfl
theorem kf_46_747 {w : PW} : ex_fv w 46 747 = some (.ref 68) := rfl
theorem kf_46_748 {w : PW} : ex_fv w 46 748 = some (.int (w.1 46 44)) := rfl
theorem kk_46_748 : ex_fk 46 748 = some 0 := rfl
theorem kf_46_749 {w : PW} : ex_fv w 46 749 = some (.int (w.1 46 45)) := rfl
theorem kk_46_749 : ex_fk 46 749 = some 0 := rfl
theorem kf_46_750 {w : PW} : ex_fv w 46 750 = some (.int (w.1 46 46)) := rfl
theorem kk_46_750 : ex_fk 46 750 = some 0 := rfl
theorem kf_46_751 {w : PW} : ex_fv w 46 751 = some (.int (w.1 46 47)) := rfl
theorem kk_46_751 : ex_fk 46 751 = some 0 := rfl
theorem kf_46_752 {w : PW} : ex_fv w 46 752 = some (.int (w.1 46 48)) := rfl
theorem kk_46_752 : ex_fk 46 752 = some 0 := rfl
theorem kf_46_753 {w : PW} : ex_fv w 46 753 = some (.int (w.1 46 49)) := rfl
theorem kk_46_753 : ex_fk 46 753 = some 0 := rfl
theorem kf_46_754 {w : PW} : ex_fv w 46 754 = some (.ref 69) := rfl
theorem kf_46_755 {w : PW} : ex_fv w 46 755 = some (.ref 70) := rfl
theorem kf_46_756 {w : PW} : ex_fv w 46 756 = some (.int (w.1 46 52)) := rfl
theorem kk_46_756 : ex_fk 46 756 = some 0 := rfl
theorem kf_46_757 {w : PW} : ex_fv w 46 757 = some (.int (w.1 46 53)) := rfl
theorem kk_46_757 : ex_fk 46 757 = some 0 := rfl
theorem kf_46_758 {w : PW} : ex_fv w 46 758 = some (.int (w.1 46 54)) := rfl
theorem kk_46_758 : ex_fk 46 758 = some 0 := rfl
theorem kf_46_759 {w : PW} : ex_fv w 46 759 = some (.int (w.1 46 55)) := rfl
theorem kk_46_759 : ex_fk 46 759 = some 0 := rfl
theorem kf_46_760 {w : PW} : ex_fv w 46 760 = some (.int (w.1 46 56)) := rfl
theorem kk_46_760 : ex_fk 46 760 = some 0 := rfl
theorem kf_46_761 {w : PW} : ex_fv w 46 761 = some (.long w.2) := rfl
theorem kk_46_761 : ex_fk 46 761 = some 1 := rfl
theorem kc_47 : ex_cls 47 = 12 := rfl
theorem kl_47 : ex_len 47 = 24 := rfl
theorem ka_47 {w : PW} {i : Int32} : ex_ald w 47 i = if i < 0 ∨ 24 ≤ i.toNatClampNeg then none else some (w.1 47 i.toNatClampNeg) := rfl
theorem kc_48 : ex_cls 48 = 12 := rfl
theorem kl_48 : ex_len 48 = 4 := rfl
theorem ka_48 {w : PW} {i : Int32} : ex_ald w 48 i = if i < 0 ∨ 4 ≤ i.toNatClampNeg then none else some (w.1 48 i.toNatClampNeg) := rfl
theorem kc_49 : ex_cls 49 = 12 := rfl
theorem kl_49 : ex_len 49 = 8 := rfl
theorem ka_49 {w : PW} {i : Int32} : ex_ald w 49 i = if i < 0 ∨ 8 ≤ i.toNatClampNeg then none else some (w.1 49 i.toNatClampNeg) := rfl
theorem kc_50 : ex_cls 50 = 12 := rfl
theorem kl_50 : ex_len 50 = 8 := rfl
theorem ka_50 {w : PW} {i : Int32} : ex_ald w 50 i = if i < 0 ∨ 8 ≤ i.toNatClampNeg then none else some (w.1 50 i.toNatClampNeg) := rfl
theorem kc_51 : ex_cls 51 = 12 := rfl
theorem kl_51 : ex_len 51 = 8 := rfl
theorem ka_51 {w : PW} {i : Int32} : ex_ald w 51 i = if i < 0 ∨ 8 ≤ i.toNatClampNeg then none else some (w.1 51 i.toNatClampNeg) := rfl
theorem kc_52 : ex_cls 52 = 12 := rfl
theorem kl_52 : ex_len 52 = 8 := rfl
theorem ka_52 {w : PW} {i : Int32} : ex_ald w 52 i = if i < 0 ∨ 8 ≤ i.toNatClampNeg then none else some (w.1 52 i.toNatClampNeg) := rfl
theorem kc_53 : ex_cls 53 = 12 := rfl
theorem kl_53 : ex_len 53 = 8 := rfl
theorem ka_53 {w : PW} {i : Int32} : ex_ald w 53 i = if i < 0 ∨ 8 ≤ i.toNatClampNeg then none else some (w.1 53 i.toNatClampNeg) := rfl
theorem kc_54 : ex_cls 54 = 12 := rfl
theorem kl_54 : ex_len 54 = 60 := rfl
theorem ka_54 {w : PW} {i : Int32} : ex_ald w 54 i = if i < 0 ∨ 60 ≤ i.toNatClampNeg then none else some (w.1 54 i.toNatClampNeg) := rfl
theorem kc_55 : ex_cls 55 = 12 := rfl
theorem kl_55 : ex_len 55 = 3 := rfl
theorem ka_55 {w : PW} {i : Int32} : ex_ald w 55 i = if i < 0 ∨ 3 ≤ i.toNatClampNeg then none else some (w.1 55 i.toNatClampNeg) := rfl
theorem kc_56 : ex_cls 56 = 12 := rfl
theorem kl_56 : ex_len 56 = 3 := rfl
theorem ka_56 {w : PW} {i : Int32} : ex_ald w 56 i = if i < 0 ∨ 3 ≤ i.toNatClampNeg then none else some (w.1 56 i.toNatClampNeg) := rfl
theorem kc_57 : ex_cls 57 = 12 := rfl
theorem kl_57 : ex_len 57 = 3 := rfl
theorem ka_57 {w : PW} {i : Int32} : ex_ald w 57 i = if i < 0 ∨ 3 ≤ i.toNatClampNeg then none else some (w.1 57 i.toNatClampNeg) := rfl
theorem kc_58 : ex_cls 58 = 12 := rfl
theorem kl_58 : ex_len 58 = 6 := rfl
theorem ka_58 {w : PW} {i : Int32} : ex_ald w 58 i = if i < 0 ∨ 6 ≤ i.toNatClampNeg then none else some (w.1 58 i.toNatClampNeg) := rfl
theorem kc_59 : ex_cls 59 = 12 := rfl
theorem kl_59 : ex_len 59 = 6 := rfl
theorem ka_59 {w : PW} {i : Int32} : ex_ald w 59 i = if i < 0 ∨ 6 ≤ i.toNatClampNeg then none else some (w.1 59 i.toNatClampNeg) := rfl
theorem kc_60 : ex_cls 60 = 12 := rfl
theorem kl_60 : ex_len 60 = 10 := rfl
theorem ka_60 {w : PW} {i : Int32} : ex_ald w 60 i = if i < 0 ∨ 10 ≤ i.toNatClampNeg then none else some (w.1 60 i.toNatClampNeg) := rfl
theorem kc_61 : ex_cls 61 = 12 := rfl
theorem kl_61 : ex_len 61 = 10 := rfl
theorem ka_61 {w : PW} {i : Int32} : ex_ald w 61 i = if i < 0 ∨ 10 ≤ i.toNatClampNeg then none else some (w.1 61 i.toNatClampNeg) := rfl
theorem kc_62 : ex_cls 62 = 13 := rfl
theorem kl_62 : ex_len 62 = 40 := rfl
theorem kc_63 : ex_cls 63 = 12 := rfl
theorem kl_63 : ex_len 63 = 9 := rfl
theorem ka_63 {w : PW} {i : Int32} : ex_ald w 63 i = if i < 0 ∨ 9 ≤ i.toNatClampNeg then none else some (w.1 63 i.toNatClampNeg) := rfl
theorem kc_64 : ex_cls 64 = 12 := rfl
theorem kl_64 : ex_len 64 = 60 := rfl
theorem ka_64 {w : PW} {i : Int32} : ex_ald w 64 i = if i < 0 ∨ 60 ≤ i.toNatClampNeg then none else some (w.1 64 i.toNatClampNeg) := rfl
theorem kc_65 : ex_cls 65 = 12 := rfl
theorem kl_65 : ex_len 65 = 12 := rfl
theorem ka_65 {w : PW} {i : Int32} : ex_ald w 65 i = if i < 0 ∨ 12 ≤ i.toNatClampNeg then none else some (w.1 65 i.toNatClampNeg) := rfl
theorem kc_66 : ex_cls 66 = 12 := rfl
theorem kl_66 : ex_len 66 = 20 := rfl
theorem ka_66 {w : PW} {i : Int32} : ex_ald w 66 i = if i < 0 ∨ 20 ≤ i.toNatClampNeg then none else some (w.1 66 i.toNatClampNeg) := rfl
theorem kc_67 : ex_cls 67 = 12 := rfl
theorem kl_67 : ex_len 67 = 24 := rfl
theorem ka_67 {w : PW} {i : Int32} : ex_ald w 67 i = if i < 0 ∨ 24 ≤ i.toNatClampNeg then none else some (w.1 67 i.toNatClampNeg) := rfl
theorem kc_68 : ex_cls 68 = 12 := rfl
theorem kl_68 : ex_len 68 = 4 := rfl
theorem ka_68 {w : PW} {i : Int32} : ex_ald w 68 i = if i < 0 ∨ 4 ≤ i.toNatClampNeg then none else some (w.1 68 i.toNatClampNeg) := rfl
theorem kc_69 : ex_cls 69 = 12 := rfl
theorem kl_69 : ex_len 69 = 24 := rfl
theorem ka_69 {w : PW} {i : Int32} : ex_ald w 69 i = if i < 0 ∨ 24 ≤ i.toNatClampNeg then none else some (w.1 69 i.toNatClampNeg) := rfl
theorem kc_70 : ex_cls 70 = 12 := rfl
theorem kl_70 : ex_len 70 = 24 := rfl
theorem ka_70 {w : PW} {i : Int32} : ex_ald w 70 i = if i < 0 ∨ 24 ≤ i.toNatClampNeg then none else some (w.1 70 i.toNatClampNeg) := rfl
theorem ka_1000 {w : PW} {i : Int32} : ex_ald w 1000 i = if i < 0 ∨ 4 ≤ i.toNatClampNeg then none else some (ex_down i.toNatClampNeg) := rfl
theorem ka_1001 {w : PW} {i : Int32} : ex_ald w 1001 i = if i < 0 ∨ 4 ≤ i.toNatClampNeg then none else some (ex_right i.toNatClampNeg) := rfl
theorem kd_0_2 : ex_dsp 0 2 = some 97 := rfl
theorem kd_1_2 : ex_dsp 1 2 = some 34 := rfl
theorem kd_1_4 : ex_dsp 1 4 = some 53 := rfl
theorem kd_2_2 : ex_dsp 2 2 = some 35 := rfl
theorem kd_2_4 : ex_dsp 2 4 = some 54 := rfl
theorem kd_3_4 : ex_dsp 3 4 = some 97 := rfl
theorem kd_4_2 : ex_dsp 4 2 = some 98 := rfl
theorem kd_5_2 : ex_dsp 5 2 = some 97 := rfl
theorem kd_5_4 : ex_dsp 5 4 = some 97 := rfl
theorem kd_6_2 : ex_dsp 6 2 = some 40 := rfl
theorem kd_6_4 : ex_dsp 6 4 = some 61 := rfl
theorem kd_7_4 : ex_dsp 7 4 = some 98 := rfl
