/-! the blocks are the bytecode: one check, by the kernel, a method -/
def ex_lkp (t : List (List (Nat × Nat))) (c i : Nat) : Option Nat := (t.getD c []).lookup i
def ex_lkz (t : List (List (Nat × Int))) (c i : Nat) : Option Int := (t.getD c []).lookup i
def ex_okJ (pc : Nat) (L off : Int) (len n : Nat) : Bool := decide (L = (pc : Int) + off) && decide (0 ≤ L) && len == n
def ex_okZ (ps qs : List (Int × Int)) (pc : Nat) : Bool := decide (ps = qs.map fun q => (q.1, (pc : Int) + q.2)) && (ps.all fun q => decide (0 ≤ q.2)) && (qs.zip (qs.drop 1)).all (fun (a, next) => a.1 < next.1)
def ex_okI (y pc : Nat) (i j : Instr) (len : Nat) : Bool := match i with
  | .iload k => (decide (j = .iload k) && len == 2) || (if h : k < 4 then decide (j = .iload_n ⟨k, h⟩) && len == 1 else false)
  | .aload k => (decide (j = .aload k) && len == 2) || (if h : k < 4 then decide (j = .aload_n ⟨k, h⟩) && len == 1 else false)
  | .lload k => (decide (j = .lload k) && len == 2) || (if h : k < 4 then decide (j = .lload_n ⟨k, h⟩) && len == 1 else false)
  | .istore k => (decide (j = .istore k) && len == 2) || (if h : k < 4 then decide (j = .istore_n ⟨k, h⟩) && len == 1 else false)
  | .astore k => (decide (j = .astore k) && len == 2) || (if h : k < 4 then decide (j = .astore_n ⟨k, h⟩) && len == 1 else false)
  | .lstore k => (decide (j = .lstore k) && len == 2) || (if h : k < 4 then decide (j = .lstore_n ⟨k, h⟩) && len == 1 else false)
  | .iinc k n => decide (j = .iinc k n) && len == 3
  | .sipush n => (match j with
    | .iconst a => a == n && len == 1
    | .bipush a => a == n && len == 2 && (Int8.ofInt a).toInt32 == Int32.ofInt n
    | .sipush a => a == n && len == 3 && (Int16.ofInt a).toInt32 == Int32.ofInt n
    | .ldc a => ex_lkz ex_cK (ex_C y) a == some n && len == 2
    | _ => false)
  | .goto_w n => (match j with
    | .ldc2_w a => ex_lkz ex_cL (ex_C y) a == some n && len == 3
    | _ => false)
  | .goto L => (match j with
    | .goto off => ex_okJ pc L off len 3
    | _ => false)
  | .if_icmp cd L => (match j with
    | .if_icmp ce off => decide (cd = ce) && ex_okJ pc L off len 3
    | _ => false)
  | .ifCond cd L => (match j with
    | .ifCond ce off => decide (cd = ce) && ex_okJ pc L off len 3
    | _ => false)
  | .tableswitch df lo hi offs => (match j with
    | .tableswitch d2 l2 h2 o2 => decide (df = (pc : Int) + d2) && decide (0 ≤ df) && lo == l2 && hi == h2 && decide (offs.toList = o2.toList.map fun q => (pc : Int) + q) && (offs.toList.all fun q => decide (0 ≤ q)) && decide ((o2.size : Int) = h2 - l2 + 1)
    | _ => false)
  | .lookupswitch df ps => (match j with
    | .lookupswitch d2 p2 => decide (df = (pc : Int) + d2) && decide (0 ≤ df) && ex_okZ ps.toList p2.toList pc
    | _ => false)
  | .getfield e => (match j with
    | .getfield a => ex_lkp ex_cF (ex_C y) a == some e && len == 3
    | _ => false)
  | .putfield e => (match j with
    | .putfield a => ex_lkp ex_cF (ex_C y) a == some e && len == 3 && !(ex_T (e / 64) (e % 64)).2.2.2
    | _ => false)
  | .getstatic o => (match j with
    | .getstatic a => ex_lkp ex_cS (ex_C y) a == some o && len == 3
    | _ => false)
  | .invokestatic e => (match j with
    | .invokestatic a => ex_lkp ex_cT (ex_C y) a == some e && len == 3 && ex_cy y (e / 16)
    | _ => false)
  | .anewarray _ => (match j with
    | .newarray t => decide (t = .int) && len == 2
    | _ => false)
  | .invokevirtual e => (match j with
    | .invokevirtual a => ex_lkp ex_cV (ex_C y) a == some e && len == 3
    | _ => false)
  | .invokeinterface x n => (match j with
    | .invokevirtual a => (ex_cW.getD (ex_C y) []).lookup a == some (x, n) && len == 3
    | _ => false)
  | .areturn => decide (j = .ireturn) && len == 1
  | .iadd => decide (j = .iadd) && len == 1
  | .isub => decide (j = .isub) && len == 1
  | .imul => decide (j = .imul) && len == 1
  | .iand => decide (j = .iand) && len == 1
  | .ior => decide (j = .ior) && len == 1
  | .ixor => decide (j = .ixor) && len == 1
  | .ishl => decide (j = .ishl) && len == 1
  | .ishr => decide (j = .ishr) && len == 1
  | .idiv => decide (j = .idiv) && len == 1
  | .irem => decide (j = .irem) && len == 1
  | .ladd => decide (j = .ladd) && len == 1
  | .lmul => decide (j = .lmul) && len == 1
  | .land => decide (j = .land) && len == 1
  | .lshr => decide (j = .lshr) && len == 1
  | .lushr => decide (j = .lushr) && len == 1
  | .i2l => decide (j = .i2l) && len == 1
  | .l2i => decide (j = .l2i) && len == 1
  | .i2b => decide (j = .i2b) && len == 1
  | .dup => decide (j = .dup) && len == 1
  | .dup2 => decide (j = .dup2) && len == 1
  | .pop => decide (j = .pop) && len == 1
  | .iaload => decide (j = .iaload) && len == 1
  | .iastore => decide (j = .iastore) && len == 1
  | .baload => decide (j = .baload) && len == 1
  | .bastore => decide (j = .bastore) && len == 1
  | .arraylength => decide (j = .arraylength) && len == 1
  | .ireturn => decide (j = .ireturn) && len == 1
  | .lreturn => decide (j = .lreturn) && len == 1
  | .return_ => decide (j = .return_) && len == 1
  | _ => false
def ex_jsr (i : Instr) : Option Int := match i with
  | .jsr L => some L
  | _ => none
def ex_ok (y : Nat) : Nat → List Instr → Bool
  | _, [] => true
  | pc, i :: c => match ex_jsr i with
    | some L => decide (L = (pc : Int))
    | none => match decode (ex_B y) pc with
      | .ok (j, len) => ex_okI y pc i j len && ex_ok y (pc + len) c
      | .error _ => false
def ex_okM (y : Nat) : Bool := (ex_bs.getD y []).all fun q => ex_ok y q.1 q.2
-- checks
theorem km_0 : ex_okM 0 = true := by decide +kernel
theorem km_1 : ex_okM 1 = true := by decide +kernel
theorem km_2 : ex_okM 2 = true := by decide +kernel
theorem km_3 : ex_okM 3 = true := by decide +kernel
theorem km_4 : ex_okM 4 = true := by decide +kernel
theorem km_5 : ex_okM 5 = true := by decide +kernel
theorem km_6 : ex_okM 6 = true := by decide +kernel
theorem km_7 : ex_okM 7 = true := by decide +kernel
theorem km_8 : ex_okM 8 = true := by decide +kernel
theorem km_9 : ex_okM 9 = true := by decide +kernel
theorem km_10 : ex_okM 10 = true := by decide +kernel
theorem km_11 : ex_okM 11 = true := by decide +kernel
theorem km_12 : ex_okM 12 = true := by decide +kernel
theorem km_13 : ex_okM 13 = true := by decide +kernel
theorem km_14 : ex_okM 14 = true := by decide +kernel
theorem km_15 : ex_okM 15 = true := by decide +kernel
theorem km_16 : ex_okM 16 = true := by decide +kernel
theorem km_17 : ex_okM 17 = true := by decide +kernel
theorem km_18 : ex_okM 18 = true := by decide +kernel
theorem km_19 : ex_okM 19 = true := by decide +kernel
theorem km_20 : ex_okM 20 = true := by decide +kernel
theorem km_21 : ex_okM 21 = true := by decide +kernel
theorem km_22 : ex_okM 22 = true := by decide +kernel
theorem km_23 : ex_okM 23 = true := by decide +kernel
theorem km_24 : ex_okM 24 = true := by decide +kernel
theorem km_25 : ex_okM 25 = true := by decide +kernel
theorem km_26 : ex_okM 26 = true := by decide +kernel
theorem km_27 : ex_okM 27 = true := by decide +kernel
theorem km_28 : ex_okM 28 = true := by decide +kernel
theorem km_29 : ex_okM 29 = true := by decide +kernel
theorem km_30 : ex_okM 30 = true := by decide +kernel
theorem km_31 : ex_okM 31 = true := by decide +kernel
theorem km_32 : ex_okM 32 = true := by decide +kernel
theorem km_33 : ex_okM 33 = true := by decide +kernel
theorem km_34 : ex_okM 34 = true := by decide +kernel
theorem km_35 : ex_okM 35 = true := by decide +kernel
theorem km_36 : ex_okM 36 = true := by decide +kernel
theorem km_37 : ex_okM 37 = true := by decide +kernel
theorem km_38 : ex_okM 38 = true := by decide +kernel
theorem km_39 : ex_okM 39 = true := by decide +kernel
theorem km_40 : ex_okM 40 = true := by decide +kernel
theorem km_41 : ex_okM 41 = true := by decide +kernel
theorem km_42 : ex_okM 42 = true := by decide +kernel
theorem km_43 : ex_okM 43 = true := by decide +kernel
theorem km_44 : ex_okM 44 = true := by decide +kernel
theorem km_45 : ex_okM 45 = true := by decide +kernel
theorem km_46 : ex_okM 46 = true := by decide +kernel
theorem km_47 : ex_okM 47 = true := by decide +kernel
theorem km_48 : ex_okM 48 = true := by decide +kernel
theorem km_49 : ex_okM 49 = true := by decide +kernel
theorem km_50 : ex_okM 50 = true := by decide +kernel
theorem km_51 : ex_okM 51 = true := by decide +kernel
theorem km_52 : ex_okM 52 = true := by decide +kernel
theorem km_53 : ex_okM 53 = true := by decide +kernel
theorem km_54 : ex_okM 54 = true := by decide +kernel
theorem km_55 : ex_okM 55 = true := by decide +kernel
theorem km_56 : ex_okM 56 = true := by decide +kernel
theorem km_57 : ex_okM 57 = true := by decide +kernel
theorem km_58 : ex_okM 58 = true := by decide +kernel
theorem km_59 : ex_okM 59 = true := by decide +kernel
theorem km_60 : ex_okM 60 = true := by decide +kernel
theorem km_61 : ex_okM 61 = true := by decide +kernel
theorem km_62 : ex_okM 62 = true := by decide +kernel
theorem km_63 : ex_okM 63 = true := by decide +kernel
theorem km_64 : ex_okM 64 = true := by decide +kernel
theorem km_65 : ex_okM 65 = true := by decide +kernel
theorem km_66 : ex_okM 66 = true := by decide +kernel
theorem km_67 : ex_okM 67 = true := by decide +kernel
theorem km_68 : ex_okM 68 = true := by decide +kernel
theorem km_69 : ex_okM 69 = true := by decide +kernel
theorem km_70 : ex_okM 70 = true := by decide +kernel
theorem km_71 : ex_okM 71 = true := by decide +kernel
theorem km_72 : ex_okM 72 = true := by decide +kernel
theorem km_73 : ex_okM 73 = true := by decide +kernel
theorem km_74 : ex_okM 74 = true := by decide +kernel
theorem km_75 : ex_okM 75 = true := by decide +kernel
theorem km_76 : ex_okM 76 = true := by decide +kernel
theorem km_77 : ex_okM 77 = true := by decide +kernel
theorem km_78 : ex_okM 78 = true := by decide +kernel
theorem km_79 : ex_okM 79 = true := by decide +kernel
theorem km_80 : ex_okM 80 = true := by decide +kernel
theorem km_81 : ex_okM 81 = true := by decide +kernel
theorem km_82 : ex_okM 82 = true := by decide +kernel
theorem km_83 : ex_okM 83 = true := by decide +kernel
theorem km_84 : ex_okM 84 = true := by decide +kernel
theorem km_85 : ex_okM 85 = true := by decide +kernel
theorem km_86 : ex_okM 86 = true := by decide +kernel
theorem km_87 : ex_okM 87 = true := by decide +kernel
theorem km_88 : ex_okM 88 = true := by decide +kernel
theorem km_89 : ex_okM 89 = true := by decide +kernel
theorem km_90 : ex_okM 90 = true := by decide +kernel
theorem km_91 : ex_okM 91 = true := by decide +kernel
theorem km_92 : ex_okM 92 = true := by decide +kernel
theorem km_93 : ex_okM 93 = true := by decide +kernel
theorem km_94 : ex_okM 94 = true := by decide +kernel
theorem km_95 : ex_okM 95 = true := by decide +kernel
theorem km_96 : ex_okM 96 = true := by decide +kernel
theorem km_97 : ex_okM 97 = true := by decide +kernel
theorem km_98 : ex_okM 98 = true := by decide +kernel
theorem km_99 : ex_okM 99 = true := by decide +kernel
theorem km_100 : ex_okM 100 = true := by decide +kernel
theorem km_101 : ex_okM 101 = true := by decide +kernel
theorem km_102 : ex_okM 102 = true := by decide +kernel
theorem km_103 : ex_okM 103 = true := by decide +kernel
theorem kj_30 : ex_ok 104 30 [.aload 1, .aload 0, .sipush 0, .aload 2, .aload 3, .invokestatic 1525, .ifCond .ne 43, .sipush 0, .areturn] = true := by decide +kernel
theorem kj_43 : ex_ok 104 43 [.aload 2, .sipush 0, .iaload, .aload 2, .sipush 1, .iaload, .imul, .istore 6, .aload 2, .aload 3, .aload 4, .invokestatic 1635, .sipush 0, .istore 7, .jsr 62] = true := by decide +kernel
theorem kj_62 : ex_ok 104 62 [.iload 7, .iload 6, .if_icmp .ge 136, .aload 1, .iload 7, .sipush 0, .invokevirtual 1170, .aload 3, .iload 7, .iaload, .if_icmp .ne 128, .aload 1, .iload 7, .sipush 1, .invokevirtual 1170, .aload 2, .iload 7, .sipush 0, .invokestatic 1587, .if_icmp .ne 128, .aload 1, .iload 7, .sipush 2, .invokevirtual 1170, .sipush (-1), .if_icmp .ne 128, .aload 1, .iload 7, .sipush 3, .invokevirtual 1170, .aload 2, .aload 3, .iload 7, .invokestatic 1619, .if_icmp .eq 130, .jsr 128] = true := by decide +kernel
theorem kj_128 : ex_ok 104 128 [.sipush 0, .areturn] = true := by decide +kernel
theorem kj_130 : ex_ok 104 130 [.iinc 7 1, .goto 62] = true := by decide +kernel
theorem kj_136 : ex_ok 104 136 [.aload 0, .sipush 4, .invokestatic 1474, .sipush 9, .irem, .istore 7, .sipush 0, .istore 8, .jsr 149] = true := by decide +kernel
theorem kj_149 : ex_ok 104 149 [.iload 8, .iload 7, .if_icmp .ge 273, .aload 1, .aload 0, .sipush 5, .iload 8, .iadd, .invokestatic 1474, .iload 8, .aload 5, .invokestatic 1540, .ifCond .ne 177, .sipush 0, .areturn] = true := by decide +kernel
theorem kj_177 : ex_ok 104 177 [.sipush 0, .istore 9, .jsr 180] = true := by decide +kernel
theorem kj_180 : ex_ok 104 180 [.iload 9, .sipush 5, .if_icmp .ge 267, .aload 5, .sipush 5, .iload 8, .imul, .sipush 4, .iadd, .iaload, .istore 10, .aload 1, .iload 8, .iload 9, .invokevirtual 1138, .aload 5, .sipush 5, .iload 8, .imul, .iload 9, .iadd, .iaload, .if_icmp .ne 259, .aload 1, .iload 8, .iload 9, .invokevirtual 1154, .iload 9, .ifCond .eq 250, .iload 9, .iload 10, .if_icmp .eq 250, .iload 9, .sipush 1, .if_icmp .ne 255, .iload 10, .sipush 3, .if_icmp .ne 255, .jsr 250] = true := by decide +kernel
theorem kj_250 : ex_ok 104 250 [.iload 8, .goto 256] = true := by decide +kernel
theorem kj_255 : ex_ok 104 255 [.sipush (-1), .jsr 256] = true := by decide +kernel
theorem kj_256 : ex_ok 104 256 [.if_icmp .eq 261, .jsr 259] = true := by decide +kernel
theorem kj_259 : ex_ok 104 259 [.sipush 0, .areturn] = true := by decide +kernel
theorem kj_261 : ex_ok 104 261 [.iinc 9 1, .goto 180] = true := by decide +kernel
theorem kj_267 : ex_ok 104 267 [.iinc 8 1, .goto 149] = true := by decide +kernel
theorem kj_273 : ex_ok 104 273 [.sipush 60, .anewarray 50, .astore 8, .sipush 0, .istore 9, .sipush (-1), .istore 10, .sipush (-1), .istore 11, .sipush 0, .istore 12, .jsr 291] = true := by decide +kernel
theorem kj_291 : ex_ok 104 291 [.iload 12, .sipush 14, .if_icmp .ge 910, .aload 0, .sipush 13, .iload 12, .iadd, .invokestatic 1474, .istore 13, .iload 13, .iload 6, .irem, .istore 14, .iload 13, .sipush 32, .idiv, .sipush 4, .irem, .istore 15, .iload 13, .sipush 128, .idiv, .sipush 3, .irem, .istore 16, .iload 13, .sipush 512, .idiv, .sipush 24, .irem, .istore 17, .iload 7, .ifCond .le 380, .iload 13, .sipush 16384, .idiv, .sipush 3, .irem, .ifCond .le 380, .jsr 362] = true := by decide +kernel
theorem kj_362 : ex_ok 104 362 [.aload 5, .sipush 5, .iload 13, .sipush 65536, .idiv, .iload 7, .irem, .imul, .sipush 1, .iadd, .iaload, .goto 388] = true := by decide +kernel
theorem kj_380 : ex_ok 104 380 [.iload 13, .sipush 65536, .idiv, .sipush 6, .irem, .jsr 388] = true := by decide +kernel
theorem kj_388 : ex_ok 104 388 [.istore 18, .aload 3, .iload 14, .iaload, .sipush 1, .if_icmp .ne 454, .aload 1, .iload 16, .iload 14, .iload 15, .sipush 0, .invokevirtual 1188, .sipush (-101), .if_icmp .ne 452, .aload 1, .iload 18, .iload 17, .iload 16, .iload 14, .iload 15, .invokevirtual 1205, .sipush (-101), .if_icmp .ne 452, .aload 1, .iload 17, .iload 18, .iload 16, .iload 14, .iload 15, .invokevirtual 1221, .sipush (-101), .if_icmp .eq 746, .jsr 452] = true := by decide +kernel
theorem kj_452 : ex_ok 104 452 [.sipush 0, .areturn] = true := by decide +kernel
theorem kj_454 : ex_ok 104 454 [.aload 2, .aload 3, .iload 14, .iload 15, .invokestatic 1572, .istore 19, .aload 1, .iload 16, .iload 14, .iload 15, .sipush 0, .invokevirtual 1188, .iload 14, .if_icmp .ne 560, .aload 1, .iload 16, .iload 14, .iload 15, .sipush 1, .invokevirtual 1188, .iload 16, .ifCond .ne 502, .iload 19, .goto 504] = true := by decide +kernel
theorem kj_502 : ex_ok 104 502 [.iload 14, .jsr 504] = true := by decide +kernel
theorem kj_504 : ex_ok 104 504 [.if_icmp .ne 560, .aload 1, .iload 16, .iload 14, .iload 15, .sipush 2, .invokevirtual 1188, .iload 16, .sipush 1, .if_icmp .ne 529, .iload 19, .goto 531] = true := by decide +kernel
theorem kj_529 : ex_ok 104 529 [.iload 14, .jsr 531] = true := by decide +kernel
theorem kj_531 : ex_ok 104 531 [.if_icmp .ne 560, .aload 1, .iload 16, .iload 14, .iload 15, .sipush 3, .invokevirtual 1188, .iload 16, .ifCond .ne 555, .iload 14, .goto 557] = true := by decide +kernel
theorem kj_555 : ex_ok 104 555 [.iload 19, .jsr 557] = true := by decide +kernel
theorem kj_557 : ex_ok 104 557 [.if_icmp .eq 562, .jsr 560] = true := by decide +kernel
theorem kj_560 : ex_ok 104 560 [.sipush 0, .areturn] = true := by decide +kernel
theorem kj_562 : ex_ok 104 562 [.aload 2, .aload 3, .aload 4, .aload 5, .iload 7, .sipush 0, .iload 18, .iload 17, .iload 16, .iload 14, .iload 15, .invokestatic 1659, .istore 20, .aload 1, .iload 18, .iload 17, .iload 16, .iload 14, .iload 15, .invokevirtual 1205, .iload 20, .if_icmp .ne 636, .aload 1, .iload 17, .iload 18, .iload 16, .iload 14, .iload 15, .invokevirtual 1221, .iload 9, .sipush 12, .if_icmp .ne 631, .sipush (-104), .goto 633] = true := by decide +kernel
theorem kj_631 : ex_ok 104 631 [.iload 9, .jsr 633] = true := by decide +kernel
theorem kj_633 : ex_ok 104 633 [.if_icmp .eq 638, .jsr 636] = true := by decide +kernel
theorem kj_636 : ex_ok 104 636 [.sipush 0, .areturn] = true := by decide +kernel
theorem kj_638 : ex_ok 104 638 [.iload 9, .sipush 12, .if_icmp .ge 746, .iload 20, .ifCond .eq 690, .iload 10, .ifCond .lt 667, .iload 17, .aload 8, .sipush 5, .iload 10, .imul, .iaload, .if_icmp .ge 690, .jsr 667] = true := by decide +kernel
theorem kj_667 : ex_ok 104 667 [.iload 9, .istore 10, .sipush 0, .istore 11, .jsr 674] = true := by decide +kernel
theorem kj_674 : ex_ok 104 674 [.iload 20, .iload 11, .ishr, .sipush 1, .iand, .ifCond .ne 690, .iinc 11 1, .goto 674] = true := by decide +kernel
theorem kj_690 : ex_ok 104 690 [.aload 8, .sipush 5, .iload 9, .imul, .iload 17, .iastore, .aload 8, .sipush 5, .iload 9, .imul, .sipush 1, .iadd, .iload 18, .iastore, .aload 8, .sipush 5, .iload 9, .imul, .sipush 2, .iadd, .iload 16, .iastore, .aload 8, .sipush 5, .iload 9, .imul, .sipush 3, .iadd, .iload 14, .iastore, .aload 8, .sipush 5, .iload 9, .imul, .sipush 4, .iadd, .iload 15, .iastore, .iinc 9 1, .jsr 746] = true := by decide +kernel
theorem kj_746 : ex_ok 104 746 [.sipush 3, .anewarray 52, .astore 19, .sipush 0, .istore 20, .jsr 754] = true := by decide +kernel
theorem kj_754 : ex_ok 104 754 [.iload 20, .iload 6, .if_icmp .ge 867, .sipush 0, .istore 21, .sipush 0, .istore 22, .jsr 767] = true := by decide +kernel
theorem kj_767 : ex_ok 104 767 [.iload 22, .sipush 4, .if_icmp .ge 822, .aload 3, .iload 20, .iaload, .sipush 1, .if_icmp .eq 822, .iload 21, .aload 2, .aload 3, .aload 4, .aload 5, .iload 7, .sipush 0, .iload 18, .iload 17, .iload 16, .iload 20, .iload 22, .invokestatic 1659, .ifCond .ne 812, .sipush 0, .goto 813] = true := by decide +kernel
theorem kj_812 : ex_ok 104 812 [.sipush 1, .jsr 813] = true := by decide +kernel
theorem kj_813 : ex_ok 104 813 [.iadd, .istore 21, .iinc 22 1, .goto 767] = true := by decide +kernel
theorem kj_822 : ex_ok 104 822 [.aload 19, .iload 21, .ifCond .ne 833, .sipush 0, .goto 844] = true := by decide +kernel
theorem kj_833 : ex_ok 104 833 [.iload 21, .sipush 4, .if_icmp .ge 843, .sipush 1, .goto 844] = true := by decide +kernel
theorem kj_843 : ex_ok 104 843 [.sipush 2, .jsr 844] = true := by decide +kernel
theorem kj_844 : ex_ok 104 844 [.dup2, .iaload, .aload 3, .iload 20, .iaload, .sipush 1, .if_icmp .ne 858, .sipush 0, .goto 859] = true := by decide +kernel
theorem kj_858 : ex_ok 104 858 [.sipush 1, .jsr 859] = true := by decide +kernel
theorem kj_859 : ex_ok 104 859 [.iadd, .iastore, .iinc 20 1, .goto 754] = true := by decide +kernel
theorem kj_867 : ex_ok 104 867 [.sipush 0, .istore 20, .jsr 870] = true := by decide +kernel
theorem kj_870 : ex_ok 104 870 [.iload 20, .sipush 3, .if_icmp .ge 904, .aload 1, .iload 18, .iload 17, .iload 16, .iload 20, .invokevirtual 1252, .aload 19, .iload 20, .iaload, .if_icmp .eq 898, .sipush 0, .areturn] = true := by decide +kernel
theorem kj_898 : ex_ok 104 898 [.iinc 20 1, .goto 870] = true := by decide +kernel
theorem kj_904 : ex_ok 104 904 [.iinc 12 1, .goto 291] = true := by decide +kernel
theorem kj_910 : ex_ok 104 910 [.aload 1, .sipush 0, .invokevirtual 1233, .iload 10, .if_icmp .ne 940, .aload 1, .sipush 1, .invokevirtual 1233, .iload 11, .if_icmp .ne 940, .aload 1, .sipush 2, .invokevirtual 1313, .iload 9, .if_icmp .eq 942, .jsr 940] = true := by decide +kernel
theorem kj_940 : ex_ok 104 940 [.sipush 0, .areturn] = true := by decide +kernel
theorem kj_942 : ex_ok 104 942 [.sipush (-3), .istore 12, .jsr 946] = true := by decide +kernel
theorem kj_946 : ex_ok 104 946 [.iload 12, .sipush 4, .if_icmp .ge 1062, .sipush 0, .istore 13, .sipush 0, .istore 14, .jsr 958] = true := by decide +kernel
theorem kj_958 : ex_ok 104 958 [.iload 14, .iload 9, .if_icmp .ge 1043, .iload 13, .aload 2, .aload 3, .aload 4, .aload 5, .iload 7, .iload 12, .aload 8, .sipush 5, .iload 14, .imul, .sipush 1, .iadd, .iaload, .aload 8, .sipush 5, .iload 14, .imul, .iaload, .aload 8, .sipush 5, .iload 14, .imul, .sipush 2, .iadd, .iaload, .aload 8, .sipush 5, .iload 14, .imul, .sipush 3, .iadd, .iaload, .aload 8, .sipush 5, .iload 14, .imul, .sipush 4, .iadd, .iaload, .invokestatic 1659, .ifCond .ne 1030, .jsr 1026] = true := by decide +kernel
theorem kj_1026 : ex_ok 104 1026 [.sipush 0, .goto 1034] = true := by decide +kernel
theorem kj_1030 : ex_ok 104 1030 [.sipush 1, .iload 14, .ishl, .jsr 1034] = true := by decide +kernel
theorem kj_1034 : ex_ok 104 1034 [.ior, .istore 13, .iinc 14 1, .goto 958] = true := by decide +kernel
theorem kj_1043 : ex_ok 104 1043 [.aload 1, .iload 12, .invokevirtual 1265, .iload 13, .if_icmp .eq 1056, .sipush 0, .areturn] = true := by decide +kernel
theorem kj_1056 : ex_ok 104 1056 [.iinc 12 1, .goto 946] = true := by decide +kernel
theorem kj_1062 : ex_ok 104 1062 [.sipush 127, .istore 12, .aload 0, .sipush 27, .invokestatic 1474, .sipush 7, .irem, .sipush 3, .isub, .istore 13, .aload 0, .sipush 28, .invokestatic 1474, .sipush 11, .irem, .istore 14, .sipush 0, .istore 15, .jsr 1093] = true := by decide +kernel
theorem kj_1093 : ex_ok 104 1093 [.iload 15, .iload 14, .if_icmp .ge 1220, .aload 0, .sipush 29, .iload 15, .iadd, .invokestatic 1474, .istore 16, .iload 16, .iload 6, .irem, .istore 17, .iload 16, .sipush 32, .idiv, .sipush 9, .irem, .ifCond .ne 1140, .iload 16, .sipush 512, .idiv, .sipush 2, .irem, .goto 1148] = true := by decide +kernel
theorem kj_1140 : ex_ok 104 1140 [.aload 2, .iload 17, .iload 13, .invokestatic 1587, .jsr 1148] = true := by decide +kernel
theorem kj_1148 : ex_ok 104 1148 [.istore 18, .aload 1, .iload 17, .iload 18, .invokevirtual 1282, .iload 15, .sipush 1, .iadd, .if_icmp .eq 1167, .sipush 0, .areturn] = true := by decide +kernel
theorem kj_1167 : ex_ok 104 1167 [.sipush (-3), .istore 19, .jsr 1171] = true := by decide +kernel
theorem kj_1171 : ex_ok 104 1171 [.iload 19, .sipush 4, .if_icmp .ge 1214, .iload 12, .aload 2, .iload 17, .iload 19, .invokestatic 1587, .iload 18, .if_icmp .ne 1197, .sipush 127, .goto 1205] = true := by decide +kernel
theorem kj_1197 : ex_ok 104 1197 [.sipush 1, .iload 19, .sipush 3, .iadd, .ishl, .sipush (-1), .ixor, .jsr 1205] = true := by decide +kernel
theorem kj_1205 : ex_ok 104 1205 [.iand, .istore 12, .iinc 19 1, .goto 1171] = true := by decide +kernel
theorem kj_1214 : ex_ok 104 1214 [.iinc 15 1, .goto 1093] = true := by decide +kernel
theorem kj_1220 : ex_ok 104 1220 [.aload 1, .invokevirtual 1296, .iload 12, .if_icmp .ne 1546, .aload 1, .iload 6, .sipush 0, .invokevirtual 1170, .sipush (-101), .if_icmp .ne 1546, .aload 1, .sipush 0, .sipush 4, .invokevirtual 1170, .sipush (-102), .if_icmp .ne 1546, .aload 1, .sipush 3, .sipush 0, .sipush 0, .sipush 0, .invokevirtual 1188, .sipush (-102), .if_icmp .ne 1546, .aload 1, .sipush 0, .sipush 0, .sipush 4, .sipush 0, .invokevirtual 1188, .sipush (-102), .if_icmp .ne 1546, .aload 1, .sipush 0, .sipush 0, .sipush 0, .sipush 4, .invokevirtual 1188, .sipush (-102), .if_icmp .ne 1546, .jsr 1291] = true := by decide +kernel
theorem kj_1291 : ex_ok 104 1291 [.aload 1, .sipush 0, .iload 6, .sipush 0, .sipush 0, .invokevirtual 1188, .sipush (-101), .if_icmp .ne 1546, .aload 1, .sipush 6, .sipush 0, .sipush 0, .sipush 0, .sipush 0, .invokevirtual 1205, .sipush (-102), .if_icmp .ne 1546, .aload 1, .sipush 0, .sipush 24, .sipush 0, .sipush 0, .sipush 0, .invokevirtual 1205, .sipush (-102), .if_icmp .ne 1546, .aload 1, .sipush 0, .sipush 0, .sipush 3, .sipush 0, .sipush 0, .invokevirtual 1205, .sipush (-102), .if_icmp .ne 1546, .aload 1, .sipush 0, .sipush 0, .sipush 0, .sipush 0, .sipush (-1), .invokevirtual 1205, .sipush (-102), .if_icmp .ne 1546, .jsr 1363] = true := by decide +kernel
theorem kj_1363 : ex_ok 104 1363 [.aload 1, .sipush 24, .sipush 0, .sipush 0, .sipush 0, .sipush 0, .invokevirtual 1221, .sipush (-102), .if_icmp .ne 1546, .aload 1, .sipush 0, .sipush (-1), .sipush 0, .sipush 0, .sipush 0, .invokevirtual 1221, .sipush (-102), .if_icmp .ne 1546, .aload 1, .sipush 2, .invokevirtual 1233, .sipush (-102), .if_icmp .ne 1546, .aload 1, .sipush 6, .sipush 0, .sipush 0, .sipush 0, .invokevirtual 1252, .sipush (-102), .if_icmp .ne 1546, .aload 1, .sipush 0, .sipush 0, .sipush 0, .sipush 3, .invokevirtual 1252, .sipush (-102), .if_icmp .ne 1546, .jsr 1429] = true := by decide +kernel
theorem kj_1429 : ex_ok 104 1429 [.aload 1, .sipush 4, .invokevirtual 1265, .sipush (-102), .if_icmp .ne 1546, .aload 1, .sipush (-4), .invokevirtual 1265, .sipush (-102), .if_icmp .ne 1546, .aload 1, .iload 6, .sipush 0, .invokevirtual 1282, .sipush (-101), .if_icmp .ne 1546, .aload 1, .sipush 0, .sipush 2, .invokevirtual 1282, .sipush (-102), .if_icmp .ne 1546, .iload 14, .sipush 10, .if_icmp .lt 1491, .aload 1, .sipush 0, .sipush 0, .invokevirtual 1282, .sipush (-104), .if_icmp .ne 1546, .jsr 1491] = true := by decide +kernel
theorem kj_1491 : ex_ok 104 1491 [.aload 1, .iload 7, .sipush 0, .invokevirtual 1138, .sipush (-101), .if_icmp .ne 1546, .aload 1, .iload 7, .sipush 0, .invokevirtual 1154, .sipush (-101), .if_icmp .ne 1546, .iload 7, .ifCond .eq 1542, .aload 1, .sipush 0, .sipush 5, .invokevirtual 1138, .sipush (-102), .if_icmp .ne 1546, .aload 1, .sipush 0, .sipush 5, .invokevirtual 1154, .sipush (-102), .if_icmp .ne 1546, .jsr 1542] = true := by decide +kernel
theorem kj_1542 : ex_ok 104 1542 [.sipush 1, .goto 1547] = true := by decide +kernel
theorem kj_1546 : ex_ok 104 1546 [.sipush 0, .jsr 1547] = true := by decide +kernel
theorem kj_1547 : ex_ok 104 1547 [.areturn] = true := by decide +kernel
theorem km_104 : ex_okM 104 = true := List.all_eq_true.mpr (show ∀ q ∈ ex_b104, ex_ok 104 q.1 q.2 = true from List.forall_mem_cons.mpr ⟨kj_30, List.forall_mem_cons.mpr ⟨kj_43, List.forall_mem_cons.mpr ⟨kj_62, List.forall_mem_cons.mpr ⟨kj_128, List.forall_mem_cons.mpr ⟨kj_130, List.forall_mem_cons.mpr ⟨kj_136, List.forall_mem_cons.mpr ⟨kj_149, List.forall_mem_cons.mpr ⟨kj_177, List.forall_mem_cons.mpr ⟨kj_180, List.forall_mem_cons.mpr ⟨kj_250, List.forall_mem_cons.mpr ⟨kj_255, List.forall_mem_cons.mpr ⟨kj_256, List.forall_mem_cons.mpr ⟨kj_259, List.forall_mem_cons.mpr ⟨kj_261, List.forall_mem_cons.mpr ⟨kj_267, List.forall_mem_cons.mpr ⟨kj_273, List.forall_mem_cons.mpr ⟨kj_291, List.forall_mem_cons.mpr ⟨kj_362, List.forall_mem_cons.mpr ⟨kj_380, List.forall_mem_cons.mpr ⟨kj_388, List.forall_mem_cons.mpr ⟨kj_452, List.forall_mem_cons.mpr ⟨kj_454, List.forall_mem_cons.mpr ⟨kj_502, List.forall_mem_cons.mpr ⟨kj_504, List.forall_mem_cons.mpr ⟨kj_529, List.forall_mem_cons.mpr ⟨kj_531, List.forall_mem_cons.mpr ⟨kj_555, List.forall_mem_cons.mpr ⟨kj_557, List.forall_mem_cons.mpr ⟨kj_560, List.forall_mem_cons.mpr ⟨kj_562, List.forall_mem_cons.mpr ⟨kj_631, List.forall_mem_cons.mpr ⟨kj_633, List.forall_mem_cons.mpr ⟨kj_636, List.forall_mem_cons.mpr ⟨kj_638, List.forall_mem_cons.mpr ⟨kj_667, List.forall_mem_cons.mpr ⟨kj_674, List.forall_mem_cons.mpr ⟨kj_690, List.forall_mem_cons.mpr ⟨kj_746, List.forall_mem_cons.mpr ⟨kj_754, List.forall_mem_cons.mpr ⟨kj_767, List.forall_mem_cons.mpr ⟨kj_812, List.forall_mem_cons.mpr ⟨kj_813, List.forall_mem_cons.mpr ⟨kj_822, List.forall_mem_cons.mpr ⟨kj_833, List.forall_mem_cons.mpr ⟨kj_843, List.forall_mem_cons.mpr ⟨kj_844, List.forall_mem_cons.mpr ⟨kj_858, List.forall_mem_cons.mpr ⟨kj_859, List.forall_mem_cons.mpr ⟨kj_867, List.forall_mem_cons.mpr ⟨kj_870, List.forall_mem_cons.mpr ⟨kj_898, List.forall_mem_cons.mpr ⟨kj_904, List.forall_mem_cons.mpr ⟨kj_910, List.forall_mem_cons.mpr ⟨kj_940, List.forall_mem_cons.mpr ⟨kj_942, List.forall_mem_cons.mpr ⟨kj_946, List.forall_mem_cons.mpr ⟨kj_958, List.forall_mem_cons.mpr ⟨kj_1026, List.forall_mem_cons.mpr ⟨kj_1030, List.forall_mem_cons.mpr ⟨kj_1034, List.forall_mem_cons.mpr ⟨kj_1043, List.forall_mem_cons.mpr ⟨kj_1056, List.forall_mem_cons.mpr ⟨kj_1062, List.forall_mem_cons.mpr ⟨kj_1093, List.forall_mem_cons.mpr ⟨kj_1140, List.forall_mem_cons.mpr ⟨kj_1148, List.forall_mem_cons.mpr ⟨kj_1167, List.forall_mem_cons.mpr ⟨kj_1171, List.forall_mem_cons.mpr ⟨kj_1197, List.forall_mem_cons.mpr ⟨kj_1205, List.forall_mem_cons.mpr ⟨kj_1214, List.forall_mem_cons.mpr ⟨kj_1220, List.forall_mem_cons.mpr ⟨kj_1291, List.forall_mem_cons.mpr ⟨kj_1363, List.forall_mem_cons.mpr ⟨kj_1429, List.forall_mem_cons.mpr ⟨kj_1491, List.forall_mem_cons.mpr ⟨kj_1542, List.forall_mem_cons.mpr ⟨kj_1546, List.forall_mem_cons.mpr ⟨kj_1547, fun _ h => absurd h List.not_mem_nil⟩⟩⟩⟩⟩⟩⟩⟩⟩⟩⟩⟩⟩⟩⟩⟩⟩⟩⟩⟩⟩⟩⟩⟩⟩⟩⟩⟩⟩⟩⟩⟩⟩⟩⟩⟩⟩⟩⟩⟩⟩⟩⟩⟩⟩⟩⟩⟩⟩⟩⟩⟩⟩⟩⟩⟩⟩⟩⟩⟩⟩⟩⟩⟩⟩⟩⟩⟩⟩⟩⟩⟩⟩⟩⟩⟩⟩⟩⟩)
theorem ex_okM_all : ∀ y, ex_okM y = true := by
  intro y
  rcases Nat.eq_or_lt_of_le (show 0 ≤ y from Nat.zero_le y) with h | h0
  · subst h; exact km_0
  rcases Nat.eq_or_lt_of_le (show 1 ≤ y from h0) with h | h1
  · subst h; exact km_1
  rcases Nat.eq_or_lt_of_le (show 2 ≤ y from h1) with h | h2
  · subst h; exact km_2
  rcases Nat.eq_or_lt_of_le (show 3 ≤ y from h2) with h | h3
  · subst h; exact km_3
  rcases Nat.eq_or_lt_of_le (show 4 ≤ y from h3) with h | h4
  · subst h; exact km_4
  rcases Nat.eq_or_lt_of_le (show 5 ≤ y from h4) with h | h5
  · subst h; exact km_5
  rcases Nat.eq_or_lt_of_le (show 6 ≤ y from h5) with h | h6
  · subst h; exact km_6
  rcases Nat.eq_or_lt_of_le (show 7 ≤ y from h6) with h | h7
  · subst h; exact km_7
  rcases Nat.eq_or_lt_of_le (show 8 ≤ y from h7) with h | h8
  · subst h; exact km_8
  rcases Nat.eq_or_lt_of_le (show 9 ≤ y from h8) with h | h9
  · subst h; exact km_9
  rcases Nat.eq_or_lt_of_le (show 10 ≤ y from h9) with h | h10
  · subst h; exact km_10
  rcases Nat.eq_or_lt_of_le (show 11 ≤ y from h10) with h | h11
  · subst h; exact km_11
  rcases Nat.eq_or_lt_of_le (show 12 ≤ y from h11) with h | h12
  · subst h; exact km_12
  rcases Nat.eq_or_lt_of_le (show 13 ≤ y from h12) with h | h13
  · subst h; exact km_13
  rcases Nat.eq_or_lt_of_le (show 14 ≤ y from h13) with h | h14
  · subst h; exact km_14
  rcases Nat.eq_or_lt_of_le (show 15 ≤ y from h14) with h | h15
  · subst h; exact km_15
  rcases Nat.eq_or_lt_of_le (show 16 ≤ y from h15) with h | h16
  · subst h; exact km_16
  rcases Nat.eq_or_lt_of_le (show 17 ≤ y from h16) with h | h17
  · subst h; exact km_17
  rcases Nat.eq_or_lt_of_le (show 18 ≤ y from h17) with h | h18
  · subst h; exact km_18
  rcases Nat.eq_or_lt_of_le (show 19 ≤ y from h18) with h | h19
  · subst h; exact km_19
  rcases Nat.eq_or_lt_of_le (show 20 ≤ y from h19) with h | h20
  · subst h; exact km_20
  rcases Nat.eq_or_lt_of_le (show 21 ≤ y from h20) with h | h21
  · subst h; exact km_21
  rcases Nat.eq_or_lt_of_le (show 22 ≤ y from h21) with h | h22
  · subst h; exact km_22
  rcases Nat.eq_or_lt_of_le (show 23 ≤ y from h22) with h | h23
  · subst h; exact km_23
  rcases Nat.eq_or_lt_of_le (show 24 ≤ y from h23) with h | h24
  · subst h; exact km_24
  rcases Nat.eq_or_lt_of_le (show 25 ≤ y from h24) with h | h25
  · subst h; exact km_25
  rcases Nat.eq_or_lt_of_le (show 26 ≤ y from h25) with h | h26
  · subst h; exact km_26
  rcases Nat.eq_or_lt_of_le (show 27 ≤ y from h26) with h | h27
  · subst h; exact km_27
  rcases Nat.eq_or_lt_of_le (show 28 ≤ y from h27) with h | h28
  · subst h; exact km_28
  rcases Nat.eq_or_lt_of_le (show 29 ≤ y from h28) with h | h29
  · subst h; exact km_29
  rcases Nat.eq_or_lt_of_le (show 30 ≤ y from h29) with h | h30
  · subst h; exact km_30
  rcases Nat.eq_or_lt_of_le (show 31 ≤ y from h30) with h | h31
  · subst h; exact km_31
  rcases Nat.eq_or_lt_of_le (show 32 ≤ y from h31) with h | h32
  · subst h; exact km_32
  rcases Nat.eq_or_lt_of_le (show 33 ≤ y from h32) with h | h33
  · subst h; exact km_33
  rcases Nat.eq_or_lt_of_le (show 34 ≤ y from h33) with h | h34
  · subst h; exact km_34
  rcases Nat.eq_or_lt_of_le (show 35 ≤ y from h34) with h | h35
  · subst h; exact km_35
  rcases Nat.eq_or_lt_of_le (show 36 ≤ y from h35) with h | h36
  · subst h; exact km_36
  rcases Nat.eq_or_lt_of_le (show 37 ≤ y from h36) with h | h37
  · subst h; exact km_37
  rcases Nat.eq_or_lt_of_le (show 38 ≤ y from h37) with h | h38
  · subst h; exact km_38
  rcases Nat.eq_or_lt_of_le (show 39 ≤ y from h38) with h | h39
  · subst h; exact km_39
  rcases Nat.eq_or_lt_of_le (show 40 ≤ y from h39) with h | h40
  · subst h; exact km_40
  rcases Nat.eq_or_lt_of_le (show 41 ≤ y from h40) with h | h41
  · subst h; exact km_41
  rcases Nat.eq_or_lt_of_le (show 42 ≤ y from h41) with h | h42
  · subst h; exact km_42
  rcases Nat.eq_or_lt_of_le (show 43 ≤ y from h42) with h | h43
  · subst h; exact km_43
  rcases Nat.eq_or_lt_of_le (show 44 ≤ y from h43) with h | h44
  · subst h; exact km_44
  rcases Nat.eq_or_lt_of_le (show 45 ≤ y from h44) with h | h45
  · subst h; exact km_45
  rcases Nat.eq_or_lt_of_le (show 46 ≤ y from h45) with h | h46
  · subst h; exact km_46
  rcases Nat.eq_or_lt_of_le (show 47 ≤ y from h46) with h | h47
  · subst h; exact km_47
  rcases Nat.eq_or_lt_of_le (show 48 ≤ y from h47) with h | h48
  · subst h; exact km_48
  rcases Nat.eq_or_lt_of_le (show 49 ≤ y from h48) with h | h49
  · subst h; exact km_49
  rcases Nat.eq_or_lt_of_le (show 50 ≤ y from h49) with h | h50
  · subst h; exact km_50
  rcases Nat.eq_or_lt_of_le (show 51 ≤ y from h50) with h | h51
  · subst h; exact km_51
  rcases Nat.eq_or_lt_of_le (show 52 ≤ y from h51) with h | h52
  · subst h; exact km_52
  rcases Nat.eq_or_lt_of_le (show 53 ≤ y from h52) with h | h53
  · subst h; exact km_53
  rcases Nat.eq_or_lt_of_le (show 54 ≤ y from h53) with h | h54
  · subst h; exact km_54
  rcases Nat.eq_or_lt_of_le (show 55 ≤ y from h54) with h | h55
  · subst h; exact km_55
  rcases Nat.eq_or_lt_of_le (show 56 ≤ y from h55) with h | h56
  · subst h; exact km_56
  rcases Nat.eq_or_lt_of_le (show 57 ≤ y from h56) with h | h57
  · subst h; exact km_57
  rcases Nat.eq_or_lt_of_le (show 58 ≤ y from h57) with h | h58
  · subst h; exact km_58
  rcases Nat.eq_or_lt_of_le (show 59 ≤ y from h58) with h | h59
  · subst h; exact km_59
  rcases Nat.eq_or_lt_of_le (show 60 ≤ y from h59) with h | h60
  · subst h; exact km_60
  rcases Nat.eq_or_lt_of_le (show 61 ≤ y from h60) with h | h61
  · subst h; exact km_61
  rcases Nat.eq_or_lt_of_le (show 62 ≤ y from h61) with h | h62
  · subst h; exact km_62
  rcases Nat.eq_or_lt_of_le (show 63 ≤ y from h62) with h | h63
  · subst h; exact km_63
  rcases Nat.eq_or_lt_of_le (show 64 ≤ y from h63) with h | h64
  · subst h; exact km_64
  rcases Nat.eq_or_lt_of_le (show 65 ≤ y from h64) with h | h65
  · subst h; exact km_65
  rcases Nat.eq_or_lt_of_le (show 66 ≤ y from h65) with h | h66
  · subst h; exact km_66
  rcases Nat.eq_or_lt_of_le (show 67 ≤ y from h66) with h | h67
  · subst h; exact km_67
  rcases Nat.eq_or_lt_of_le (show 68 ≤ y from h67) with h | h68
  · subst h; exact km_68
  rcases Nat.eq_or_lt_of_le (show 69 ≤ y from h68) with h | h69
  · subst h; exact km_69
  rcases Nat.eq_or_lt_of_le (show 70 ≤ y from h69) with h | h70
  · subst h; exact km_70
  rcases Nat.eq_or_lt_of_le (show 71 ≤ y from h70) with h | h71
  · subst h; exact km_71
  rcases Nat.eq_or_lt_of_le (show 72 ≤ y from h71) with h | h72
  · subst h; exact km_72
  rcases Nat.eq_or_lt_of_le (show 73 ≤ y from h72) with h | h73
  · subst h; exact km_73
  rcases Nat.eq_or_lt_of_le (show 74 ≤ y from h73) with h | h74
  · subst h; exact km_74
  rcases Nat.eq_or_lt_of_le (show 75 ≤ y from h74) with h | h75
  · subst h; exact km_75
  rcases Nat.eq_or_lt_of_le (show 76 ≤ y from h75) with h | h76
  · subst h; exact km_76
  rcases Nat.eq_or_lt_of_le (show 77 ≤ y from h76) with h | h77
  · subst h; exact km_77
  rcases Nat.eq_or_lt_of_le (show 78 ≤ y from h77) with h | h78
  · subst h; exact km_78
  rcases Nat.eq_or_lt_of_le (show 79 ≤ y from h78) with h | h79
  · subst h; exact km_79
  rcases Nat.eq_or_lt_of_le (show 80 ≤ y from h79) with h | h80
  · subst h; exact km_80
  rcases Nat.eq_or_lt_of_le (show 81 ≤ y from h80) with h | h81
  · subst h; exact km_81
  rcases Nat.eq_or_lt_of_le (show 82 ≤ y from h81) with h | h82
  · subst h; exact km_82
  rcases Nat.eq_or_lt_of_le (show 83 ≤ y from h82) with h | h83
  · subst h; exact km_83
  rcases Nat.eq_or_lt_of_le (show 84 ≤ y from h83) with h | h84
  · subst h; exact km_84
  rcases Nat.eq_or_lt_of_le (show 85 ≤ y from h84) with h | h85
  · subst h; exact km_85
  rcases Nat.eq_or_lt_of_le (show 86 ≤ y from h85) with h | h86
  · subst h; exact km_86
  rcases Nat.eq_or_lt_of_le (show 87 ≤ y from h86) with h | h87
  · subst h; exact km_87
  rcases Nat.eq_or_lt_of_le (show 88 ≤ y from h87) with h | h88
  · subst h; exact km_88
  rcases Nat.eq_or_lt_of_le (show 89 ≤ y from h88) with h | h89
  · subst h; exact km_89
  rcases Nat.eq_or_lt_of_le (show 90 ≤ y from h89) with h | h90
  · subst h; exact km_90
  rcases Nat.eq_or_lt_of_le (show 91 ≤ y from h90) with h | h91
  · subst h; exact km_91
  rcases Nat.eq_or_lt_of_le (show 92 ≤ y from h91) with h | h92
  · subst h; exact km_92
  rcases Nat.eq_or_lt_of_le (show 93 ≤ y from h92) with h | h93
  · subst h; exact km_93
  rcases Nat.eq_or_lt_of_le (show 94 ≤ y from h93) with h | h94
  · subst h; exact km_94
  rcases Nat.eq_or_lt_of_le (show 95 ≤ y from h94) with h | h95
  · subst h; exact km_95
  rcases Nat.eq_or_lt_of_le (show 96 ≤ y from h95) with h | h96
  · subst h; exact km_96
  rcases Nat.eq_or_lt_of_le (show 97 ≤ y from h96) with h | h97
  · subst h; exact km_97
  rcases Nat.eq_or_lt_of_le (show 98 ≤ y from h97) with h | h98
  · subst h; exact km_98
  rcases Nat.eq_or_lt_of_le (show 99 ≤ y from h98) with h | h99
  · subst h; exact km_99
  rcases Nat.eq_or_lt_of_le (show 100 ≤ y from h99) with h | h100
  · subst h; exact km_100
  rcases Nat.eq_or_lt_of_le (show 101 ≤ y from h100) with h | h101
  · subst h; exact km_101
  rcases Nat.eq_or_lt_of_le (show 102 ≤ y from h101) with h | h102
  · subst h; exact km_102
  rcases Nat.eq_or_lt_of_le (show 103 ≤ y from h102) with h | h103
  · subst h; exact km_103
  rcases Nat.eq_or_lt_of_le (show 104 ≤ y from h103) with h | h104
  · subst h; exact km_104
  have hn : ex_bs[y]? = none := List.getElem?_eq_none (show ex_bs.length ≤ y from h104)
  unfold ex_okM
  rw [List.getD_eq_getElem?_getD, hn]
  rfl
