/-! the blocks are the bytecode: one check, by the kernel, a method -/
def ex_lkp (t : List (List (Nat × Nat))) (c i : Nat) : Option Nat := (t.getD c []).lookup i
def ex_lkz (t : List (List (Nat × Int))) (c i : Nat) : Option Int := (t.getD c []).lookup i
def ex_okJ (pc : Nat) (L off : Int) (len n : Nat) : Bool := decide (L = (pc : Int) + off) && decide (0 ≤ L) && len == n
def ex_okZ (ps qs : List (Int × Int)) (pc : Nat) : Bool := decide (ps = qs.map fun q => (q.1, (pc : Int) + q.2)) && (ps.all fun q => decide (0 ≤ q.2)) && (qs.zip (qs.drop 1)).all (fun (a, next) => a.1 < next.1)
def ex_okI (y pc : Nat) (i j : Instr) (len : Nat) : Bool := match i with
  | .iload k => (decide (j = .iload k) && len == 2) || (if h : k < 4 then decide (j = .iload_n ⟨k, h⟩) && len == 1 else false)
  | .aload k => (decide (j = .aload k) && len == 2) || (if h : k < 4 then decide (j = .aload_n ⟨k, h⟩) && len == 1 else false)
  | .lload k => (decide (j = .lload k) && len == 2) || (if h : k < 4 then decide (j = .lload_n ⟨k, h⟩) && len == 1 else false)
  | .istore k => (decide (j = .istore k) && len == 2) || (if h : k < 4 then decide (j = .istore_n ⟨k, h⟩) && len == 1 else false)
  | .astore k => (decide (j = .astore k) && len == 2) || (if h : k < 4 then decide (j = .astore_n ⟨k, h⟩) && len == 1 else false)
  | .lstore k => (decide (j = .lstore k) && len == 2) || (if h : k < 4 then decide (j = .lstore_n ⟨k, h⟩) && len == 1 else false)
  | .iinc k n => decide (j = .iinc k n) && len == 3
  | .sipush n => (match j with
    | .iconst a => a == n && len == 1
    | .bipush a => a == n && len == 2 && (Int8.ofInt a).toInt32 == Int32.ofInt n
    | .sipush a => a == n && len == 3 && (Int16.ofInt a).toInt32 == Int32.ofInt n
    | .ldc a => ex_lkz ex_cK (ex_C y) a == some n && len == 2
    | _ => false)
  | .goto_w n => (match j with
    | .ldc2_w a => ex_lkz ex_cL (ex_C y) a == some n && len == 3
    | _ => false)
  | .goto L => (match j with
    | .goto off => ex_okJ pc L off len 3
    | _ => false)
  | .if_icmp cd L => (match j with
    | .if_icmp ce off => decide (cd = ce) && ex_okJ pc L off len 3
    | _ => false)
  | .ifCond cd L => (match j with
    | .ifCond ce off => decide (cd = ce) && ex_okJ pc L off len 3
    | _ => false)
  | .tableswitch df lo hi offs => (match j with
    | .tableswitch d2 l2 h2 o2 => decide (df = (pc : Int) + d2) && decide (0 ≤ df) && lo == l2 && hi == h2 && decide (offs.toList = o2.toList.map fun q => (pc : Int) + q) && (offs.toList.all fun q => decide (0 ≤ q)) && decide ((o2.size : Int) = h2 - l2 + 1)
    | _ => false)
  | .lookupswitch df ps => (match j with
    | .lookupswitch d2 p2 => decide (df = (pc : Int) + d2) && decide (0 ≤ df) && ex_okZ ps.toList p2.toList pc
    | _ => false)
  | .getfield e => (match j with
    | .getfield a => ex_lkp ex_cF (ex_C y) a == some e && len == 3
    | _ => false)
  | .putfield e => (match j with
    | .putfield a => ex_lkp ex_cF (ex_C y) a == some e && len == 3 && !(ex_T (e / 64) (e % 64)).2.2.2
    | _ => false)
  | .getstatic o => (match j with
    | .getstatic a => ex_lkp ex_cS (ex_C y) a == some o && len == 3
    | _ => false)
  | .invokestatic e => (match j with
    | .invokestatic a => ex_lkp ex_cT (ex_C y) a == some e && len == 3
    | _ => false)
  | .invokedynamic k => (match j with
    | .invokestatic a => ex_lkp ex_cJ (ex_C y) a == some k && len == 3
    | _ => false)
  | .invokevirtual e => (match j with
    | .invokevirtual a => ex_lkp ex_cV (ex_C y) a == some e && len == 3
    | _ => false)
  | .invokeinterface x n => (match j with
    | .invokevirtual a => (ex_cW.getD (ex_C y) []).lookup a == some (x, n) && len == 3
    | _ => false)
  | .areturn => decide (j = .ireturn) && len == 1
  | .iadd => decide (j = .iadd) && len == 1
  | .isub => decide (j = .isub) && len == 1
  | .imul => decide (j = .imul) && len == 1
  | .iand => decide (j = .iand) && len == 1
  | .ior => decide (j = .ior) && len == 1
  | .ixor => decide (j = .ixor) && len == 1
  | .ishl => decide (j = .ishl) && len == 1
  | .ishr => decide (j = .ishr) && len == 1
  | .idiv => decide (j = .idiv) && len == 1
  | .irem => decide (j = .irem) && len == 1
  | .ladd => decide (j = .ladd) && len == 1
  | .lmul => decide (j = .lmul) && len == 1
  | .land => decide (j = .land) && len == 1
  | .lshr => decide (j = .lshr) && len == 1
  | .lushr => decide (j = .lushr) && len == 1
  | .i2l => decide (j = .i2l) && len == 1
  | .l2i => decide (j = .l2i) && len == 1
  | .i2b => decide (j = .i2b) && len == 1
  | .dup => decide (j = .dup) && len == 1
  | .dup2 => decide (j = .dup2) && len == 1
  | .pop => decide (j = .pop) && len == 1
  | .iaload => decide (j = .iaload) && len == 1
  | .iastore => decide (j = .iastore) && len == 1
  | .baload => decide (j = .baload) && len == 1
  | .bastore => decide (j = .bastore) && len == 1
  | .arraylength => decide (j = .arraylength) && len == 1
  | .ireturn => decide (j = .ireturn) && len == 1
  | .lreturn => decide (j = .lreturn) && len == 1
  | .return_ => decide (j = .return_) && len == 1
  | _ => false
def ex_jsr (i : Instr) : Option Int := match i with
  | .jsr L => some L
  | _ => none
def ex_ok (y : Nat) : Nat → List Instr → Bool
  | _, [] => true
  | pc, i :: c => match ex_jsr i with
    | some L => decide (L = (pc : Int))
    | none => match decode (ex_B y) pc with
      | .ok (j, len) => ex_okI y pc i j len && ex_ok y (pc + len) c
      | .error _ => false
def ex_okM (y : Nat) : Bool := (ex_bs.getD y []).all fun q => ex_ok y q.1 q.2
-- checks
theorem km_0 : ex_okM 0 = true := by decide +kernel
theorem km_1 : ex_okM 1 = true := by decide +kernel
theorem km_2 : ex_okM 2 = true := by decide +kernel
theorem km_3 : ex_okM 3 = true := by decide +kernel
theorem km_4 : ex_okM 4 = true := by decide +kernel
theorem km_5 : ex_okM 5 = true := by decide +kernel
theorem km_6 : ex_okM 6 = true := by decide +kernel
theorem km_7 : ex_okM 7 = true := by decide +kernel
theorem km_8 : ex_okM 8 = true := by decide +kernel
theorem km_9 : ex_okM 9 = true := by decide +kernel
theorem km_10 : ex_okM 10 = true := by decide +kernel
theorem km_11 : ex_okM 11 = true := by decide +kernel
theorem km_12 : ex_okM 12 = true := by decide +kernel
theorem km_13 : ex_okM 13 = true := by decide +kernel
theorem km_14 : ex_okM 14 = true := by decide +kernel
theorem km_15 : ex_okM 15 = true := by decide +kernel
theorem km_16 : ex_okM 16 = true := by decide +kernel
theorem km_17 : ex_okM 17 = true := by decide +kernel
theorem km_18 : ex_okM 18 = true := by decide +kernel
theorem km_19 : ex_okM 19 = true := by decide +kernel
theorem km_20 : ex_okM 20 = true := by decide +kernel
theorem km_21 : ex_okM 21 = true := by decide +kernel
theorem km_22 : ex_okM 22 = true := by decide +kernel
theorem km_23 : ex_okM 23 = true := by decide +kernel
theorem km_24 : ex_okM 24 = true := by decide +kernel
theorem km_25 : ex_okM 25 = true := by decide +kernel
theorem km_26 : ex_okM 26 = true := by decide +kernel
theorem km_27 : ex_okM 27 = true := by decide +kernel
theorem km_28 : ex_okM 28 = true := by decide +kernel
theorem km_29 : ex_okM 29 = true := by decide +kernel
theorem km_30 : ex_okM 30 = true := by decide +kernel
theorem km_31 : ex_okM 31 = true := by decide +kernel
theorem km_32 : ex_okM 32 = true := by decide +kernel
theorem km_33 : ex_okM 33 = true := by decide +kernel
theorem km_34 : ex_okM 34 = true := by decide +kernel
theorem km_35 : ex_okM 35 = true := by decide +kernel
theorem km_36 : ex_okM 36 = true := by decide +kernel
theorem km_37 : ex_okM 37 = true := by decide +kernel
theorem km_38 : ex_okM 38 = true := by decide +kernel
theorem km_39 : ex_okM 39 = true := by decide +kernel
theorem km_40 : ex_okM 40 = true := by decide +kernel
theorem km_41 : ex_okM 41 = true := by decide +kernel
theorem km_42 : ex_okM 42 = true := by decide +kernel
theorem km_43 : ex_okM 43 = true := by decide +kernel
theorem km_44 : ex_okM 44 = true := by decide +kernel
theorem km_45 : ex_okM 45 = true := by decide +kernel
theorem km_46 : ex_okM 46 = true := by decide +kernel
theorem km_47 : ex_okM 47 = true := by decide +kernel
theorem km_48 : ex_okM 48 = true := by decide +kernel
theorem km_49 : ex_okM 49 = true := by decide +kernel
theorem km_50 : ex_okM 50 = true := by decide +kernel
theorem km_51 : ex_okM 51 = true := by decide +kernel
theorem km_52 : ex_okM 52 = true := by decide +kernel
theorem km_53 : ex_okM 53 = true := by decide +kernel
theorem km_54 : ex_okM 54 = true := by decide +kernel
theorem km_55 : ex_okM 55 = true := by decide +kernel
theorem km_56 : ex_okM 56 = true := by decide +kernel
theorem km_57 : ex_okM 57 = true := by decide +kernel
theorem km_58 : ex_okM 58 = true := by decide +kernel
theorem km_59 : ex_okM 59 = true := by decide +kernel
theorem km_60 : ex_okM 60 = true := by decide +kernel
theorem km_61 : ex_okM 61 = true := by decide +kernel
theorem km_62 : ex_okM 62 = true := by decide +kernel
theorem km_63 : ex_okM 63 = true := by decide +kernel
theorem km_64 : ex_okM 64 = true := by decide +kernel
theorem km_65 : ex_okM 65 = true := by decide +kernel
theorem km_66 : ex_okM 66 = true := by decide +kernel
theorem km_67 : ex_okM 67 = true := by decide +kernel
theorem km_68 : ex_okM 68 = true := by decide +kernel
theorem km_69 : ex_okM 69 = true := by decide +kernel
theorem km_70 : ex_okM 70 = true := by decide +kernel
theorem km_71 : ex_okM 71 = true := by decide +kernel
theorem km_72 : ex_okM 72 = true := by decide +kernel
theorem km_73 : ex_okM 73 = true := by decide +kernel
theorem km_74 : ex_okM 74 = true := by decide +kernel
theorem km_75 : ex_okM 75 = true := by decide +kernel
theorem km_76 : ex_okM 76 = true := by decide +kernel
theorem km_77 : ex_okM 77 = true := by decide +kernel
theorem km_78 : ex_okM 78 = true := by decide +kernel
theorem km_79 : ex_okM 79 = true := by decide +kernel
theorem km_80 : ex_okM 80 = true := by decide +kernel
theorem km_81 : ex_okM 81 = true := by decide +kernel
theorem km_82 : ex_okM 82 = true := by decide +kernel
theorem km_83 : ex_okM 83 = true := by decide +kernel
theorem km_84 : ex_okM 84 = true := by decide +kernel
theorem km_85 : ex_okM 85 = true := by decide +kernel
theorem km_86 : ex_okM 86 = true := by decide +kernel
theorem km_87 : ex_okM 87 = true := by decide +kernel
theorem km_88 : ex_okM 88 = true := by decide +kernel
theorem km_89 : ex_okM 89 = true := by decide +kernel
theorem km_90 : ex_okM 90 = true := by decide +kernel
theorem km_91 : ex_okM 91 = true := by decide +kernel
theorem km_92 : ex_okM 92 = true := by decide +kernel
theorem km_93 : ex_okM 93 = true := by decide +kernel
theorem km_94 : ex_okM 94 = true := by decide +kernel
theorem km_95 : ex_okM 95 = true := by decide +kernel
theorem km_96 : ex_okM 96 = true := by decide +kernel
theorem km_97 : ex_okM 97 = true := by decide +kernel
theorem km_98 : ex_okM 98 = true := by decide +kernel
theorem km_99 : ex_okM 99 = true := by decide +kernel
theorem km_100 : ex_okM 100 = true := by decide +kernel
theorem km_101 : ex_okM 101 = true := by decide +kernel
theorem km_102 : ex_okM 102 = true := by decide +kernel
theorem km_103 : ex_okM 103 = true := by decide +kernel
theorem km_104 : ex_okM 104 = true := by decide +kernel
theorem km_105 : ex_okM 105 = true := by decide +kernel
theorem km_106 : ex_okM 106 = true := by decide +kernel
theorem km_107 : ex_okM 107 = true := by decide +kernel
theorem km_108 : ex_okM 108 = true := by decide +kernel
theorem km_109 : ex_okM 109 = true := by decide +kernel
theorem km_110 : ex_okM 110 = true := by decide +kernel
theorem km_111 : ex_okM 111 = true := by decide +kernel
theorem km_112 : ex_okM 112 = true := by decide +kernel
theorem km_113 : ex_okM 113 = true := by decide +kernel
theorem km_114 : ex_okM 114 = true := by decide +kernel
theorem km_115 : ex_okM 115 = true := by decide +kernel
theorem km_116 : ex_okM 116 = true := by decide +kernel
theorem km_117 : ex_okM 117 = true := by decide +kernel
theorem km_118 : ex_okM 118 = true := by decide +kernel
theorem km_119 : ex_okM 119 = true := by decide +kernel
theorem km_120 : ex_okM 120 = true := by decide +kernel
theorem km_121 : ex_okM 121 = true := by decide +kernel
theorem km_122 : ex_okM 122 = true := by decide +kernel
theorem km_123 : ex_okM 123 = true := by decide +kernel
theorem km_124 : ex_okM 124 = true := by decide +kernel
theorem km_125 : ex_okM 125 = true := by decide +kernel
theorem km_126 : ex_okM 126 = true := by decide +kernel
theorem km_127 : ex_okM 127 = true := by decide +kernel
theorem km_128 : ex_okM 128 = true := by decide +kernel
theorem km_129 : ex_okM 129 = true := by decide +kernel
theorem km_130 : ex_okM 130 = true := by decide +kernel
theorem km_131 : ex_okM 131 = true := by decide +kernel
theorem km_132 : ex_okM 132 = true := by decide +kernel
theorem km_133 : ex_okM 133 = true := by decide +kernel
theorem km_134 : ex_okM 134 = true := by decide +kernel
theorem km_135 : ex_okM 135 = true := by decide +kernel
theorem km_136 : ex_okM 136 = true := by decide +kernel
theorem km_137 : ex_okM 137 = true := by decide +kernel
theorem km_138 : ex_okM 138 = true := by decide +kernel
theorem km_139 : ex_okM 139 = true := by decide +kernel
theorem km_140 : ex_okM 140 = true := by decide +kernel
theorem km_141 : ex_okM 141 = true := by decide +kernel
theorem km_142 : ex_okM 142 = true := by decide +kernel
theorem km_143 : ex_okM 143 = true := by decide +kernel
theorem km_144 : ex_okM 144 = true := by decide +kernel
theorem km_145 : ex_okM 145 = true := by decide +kernel
theorem km_146 : ex_okM 146 = true := by decide +kernel
theorem km_147 : ex_okM 147 = true := by decide +kernel
theorem km_148 : ex_okM 148 = true := by decide +kernel
theorem km_149 : ex_okM 149 = true := by decide +kernel
theorem km_150 : ex_okM 150 = true := by decide +kernel
theorem km_151 : ex_okM 151 = true := by decide +kernel
theorem km_152 : ex_okM 152 = true := by decide +kernel
theorem km_153 : ex_okM 153 = true := by decide +kernel
theorem km_154 : ex_okM 154 = true := by decide +kernel
theorem km_155 : ex_okM 155 = true := by decide +kernel
theorem km_156 : ex_okM 156 = true := by decide +kernel
theorem km_157 : ex_okM 157 = true := by decide +kernel
theorem km_158 : ex_okM 158 = true := by decide +kernel
theorem km_159 : ex_okM 159 = true := by decide +kernel
theorem km_160 : ex_okM 160 = true := by decide +kernel
theorem km_161 : ex_okM 161 = true := by decide +kernel
theorem km_162 : ex_okM 162 = true := by decide +kernel
theorem km_163 : ex_okM 163 = true := by decide +kernel
theorem km_164 : ex_okM 164 = true := by decide +kernel
theorem km_165 : ex_okM 165 = true := by decide +kernel
theorem km_166 : ex_okM 166 = true := by decide +kernel
theorem km_167 : ex_okM 167 = true := by decide +kernel
theorem km_168 : ex_okM 168 = true := by decide +kernel
theorem km_169 : ex_okM 169 = true := by decide +kernel
theorem km_170 : ex_okM 170 = true := by decide +kernel
theorem km_171 : ex_okM 171 = true := by decide +kernel
theorem km_172 : ex_okM 172 = true := by decide +kernel
theorem km_173 : ex_okM 173 = true := by decide +kernel
theorem km_174 : ex_okM 174 = true := by decide +kernel
theorem km_175 : ex_okM 175 = true := by decide +kernel
theorem km_176 : ex_okM 176 = true := by decide +kernel
theorem km_177 : ex_okM 177 = true := by decide +kernel
theorem km_178 : ex_okM 178 = true := by decide +kernel
theorem km_179 : ex_okM 179 = true := by decide +kernel
theorem km_180 : ex_okM 180 = true := by decide +kernel
theorem km_181 : ex_okM 181 = true := by decide +kernel
theorem km_182 : ex_okM 182 = true := by decide +kernel
theorem km_183 : ex_okM 183 = true := by decide +kernel
theorem km_184 : ex_okM 184 = true := by decide +kernel
theorem km_185 : ex_okM 185 = true := by decide +kernel
theorem km_186 : ex_okM 186 = true := by decide +kernel
theorem km_187 : ex_okM 187 = true := by decide +kernel
theorem km_188 : ex_okM 188 = true := by decide +kernel
theorem km_189 : ex_okM 189 = true := by decide +kernel
theorem km_190 : ex_okM 190 = true := by decide +kernel
theorem km_191 : ex_okM 191 = true := by decide +kernel
theorem km_192 : ex_okM 192 = true := by decide +kernel
theorem km_193 : ex_okM 193 = true := by decide +kernel
theorem km_194 : ex_okM 194 = true := by decide +kernel
theorem km_195 : ex_okM 195 = true := by decide +kernel
theorem km_196 : ex_okM 196 = true := by decide +kernel
theorem km_197 : ex_okM 197 = true := by decide +kernel
theorem km_198 : ex_okM 198 = true := by decide +kernel
theorem km_199 : ex_okM 199 = true := by decide +kernel
theorem km_200 : ex_okM 200 = true := by decide +kernel
theorem km_201 : ex_okM 201 = true := by decide +kernel
theorem km_202 : ex_okM 202 = true := by decide +kernel
theorem km_203 : ex_okM 203 = true := by decide +kernel
theorem km_204 : ex_okM 204 = true := by decide +kernel
theorem km_205 : ex_okM 205 = true := by decide +kernel
theorem km_206 : ex_okM 206 = true := by decide +kernel
theorem km_207 : ex_okM 207 = true := by decide +kernel
theorem km_208 : ex_okM 208 = true := by decide +kernel
theorem km_209 : ex_okM 209 = true := by decide +kernel
theorem km_210 : ex_okM 210 = true := by decide +kernel
theorem km_211 : ex_okM 211 = true := by decide +kernel
theorem km_212 : ex_okM 212 = true := by decide +kernel
theorem km_213 : ex_okM 213 = true := by decide +kernel
theorem km_214 : ex_okM 214 = true := by decide +kernel
theorem km_215 : ex_okM 215 = true := by decide +kernel
theorem km_216 : ex_okM 216 = true := by decide +kernel
theorem km_217 : ex_okM 217 = true := by decide +kernel
theorem km_218 : ex_okM 218 = true := by decide +kernel
theorem km_219 : ex_okM 219 = true := by decide +kernel
theorem km_220 : ex_okM 220 = true := by decide +kernel
theorem km_221 : ex_okM 221 = true := by decide +kernel
theorem km_222 : ex_okM 222 = true := by decide +kernel
theorem km_223 : ex_okM 223 = true := by decide +kernel
theorem km_224 : ex_okM 224 = true := by decide +kernel
theorem km_225 : ex_okM 225 = true := by decide +kernel
theorem km_226 : ex_okM 226 = true := by decide +kernel
theorem km_227 : ex_okM 227 = true := by decide +kernel
theorem km_228 : ex_okM 228 = true := by decide +kernel
theorem km_229 : ex_okM 229 = true := by decide +kernel
theorem km_230 : ex_okM 230 = true := by decide +kernel
theorem km_231 : ex_okM 231 = true := by decide +kernel
theorem km_232 : ex_okM 232 = true := by decide +kernel
theorem km_233 : ex_okM 233 = true := by decide +kernel
theorem km_234 : ex_okM 234 = true := by decide +kernel
theorem km_235 : ex_okM 235 = true := by decide +kernel
theorem ex_okM_all : ∀ y, ex_okM y = true := by
  intro y
  rcases Nat.eq_or_lt_of_le (show 0 ≤ y from Nat.zero_le y) with h | h0
  · subst h; exact km_0
  rcases Nat.eq_or_lt_of_le (show 1 ≤ y from h0) with h | h1
  · subst h; exact km_1
  rcases Nat.eq_or_lt_of_le (show 2 ≤ y from h1) with h | h2
  · subst h; exact km_2
  rcases Nat.eq_or_lt_of_le (show 3 ≤ y from h2) with h | h3
  · subst h; exact km_3
  rcases Nat.eq_or_lt_of_le (show 4 ≤ y from h3) with h | h4
  · subst h; exact km_4
  rcases Nat.eq_or_lt_of_le (show 5 ≤ y from h4) with h | h5
  · subst h; exact km_5
  rcases Nat.eq_or_lt_of_le (show 6 ≤ y from h5) with h | h6
  · subst h; exact km_6
  rcases Nat.eq_or_lt_of_le (show 7 ≤ y from h6) with h | h7
  · subst h; exact km_7
  rcases Nat.eq_or_lt_of_le (show 8 ≤ y from h7) with h | h8
  · subst h; exact km_8
  rcases Nat.eq_or_lt_of_le (show 9 ≤ y from h8) with h | h9
  · subst h; exact km_9
  rcases Nat.eq_or_lt_of_le (show 10 ≤ y from h9) with h | h10
  · subst h; exact km_10
  rcases Nat.eq_or_lt_of_le (show 11 ≤ y from h10) with h | h11
  · subst h; exact km_11
  rcases Nat.eq_or_lt_of_le (show 12 ≤ y from h11) with h | h12
  · subst h; exact km_12
  rcases Nat.eq_or_lt_of_le (show 13 ≤ y from h12) with h | h13
  · subst h; exact km_13
  rcases Nat.eq_or_lt_of_le (show 14 ≤ y from h13) with h | h14
  · subst h; exact km_14
  rcases Nat.eq_or_lt_of_le (show 15 ≤ y from h14) with h | h15
  · subst h; exact km_15
  rcases Nat.eq_or_lt_of_le (show 16 ≤ y from h15) with h | h16
  · subst h; exact km_16
  rcases Nat.eq_or_lt_of_le (show 17 ≤ y from h16) with h | h17
  · subst h; exact km_17
  rcases Nat.eq_or_lt_of_le (show 18 ≤ y from h17) with h | h18
  · subst h; exact km_18
  rcases Nat.eq_or_lt_of_le (show 19 ≤ y from h18) with h | h19
  · subst h; exact km_19
  rcases Nat.eq_or_lt_of_le (show 20 ≤ y from h19) with h | h20
  · subst h; exact km_20
  rcases Nat.eq_or_lt_of_le (show 21 ≤ y from h20) with h | h21
  · subst h; exact km_21
  rcases Nat.eq_or_lt_of_le (show 22 ≤ y from h21) with h | h22
  · subst h; exact km_22
  rcases Nat.eq_or_lt_of_le (show 23 ≤ y from h22) with h | h23
  · subst h; exact km_23
  rcases Nat.eq_or_lt_of_le (show 24 ≤ y from h23) with h | h24
  · subst h; exact km_24
  rcases Nat.eq_or_lt_of_le (show 25 ≤ y from h24) with h | h25
  · subst h; exact km_25
  rcases Nat.eq_or_lt_of_le (show 26 ≤ y from h25) with h | h26
  · subst h; exact km_26
  rcases Nat.eq_or_lt_of_le (show 27 ≤ y from h26) with h | h27
  · subst h; exact km_27
  rcases Nat.eq_or_lt_of_le (show 28 ≤ y from h27) with h | h28
  · subst h; exact km_28
  rcases Nat.eq_or_lt_of_le (show 29 ≤ y from h28) with h | h29
  · subst h; exact km_29
  rcases Nat.eq_or_lt_of_le (show 30 ≤ y from h29) with h | h30
  · subst h; exact km_30
  rcases Nat.eq_or_lt_of_le (show 31 ≤ y from h30) with h | h31
  · subst h; exact km_31
  rcases Nat.eq_or_lt_of_le (show 32 ≤ y from h31) with h | h32
  · subst h; exact km_32
  rcases Nat.eq_or_lt_of_le (show 33 ≤ y from h32) with h | h33
  · subst h; exact km_33
  rcases Nat.eq_or_lt_of_le (show 34 ≤ y from h33) with h | h34
  · subst h; exact km_34
  rcases Nat.eq_or_lt_of_le (show 35 ≤ y from h34) with h | h35
  · subst h; exact km_35
  rcases Nat.eq_or_lt_of_le (show 36 ≤ y from h35) with h | h36
  · subst h; exact km_36
  rcases Nat.eq_or_lt_of_le (show 37 ≤ y from h36) with h | h37
  · subst h; exact km_37
  rcases Nat.eq_or_lt_of_le (show 38 ≤ y from h37) with h | h38
  · subst h; exact km_38
  rcases Nat.eq_or_lt_of_le (show 39 ≤ y from h38) with h | h39
  · subst h; exact km_39
  rcases Nat.eq_or_lt_of_le (show 40 ≤ y from h39) with h | h40
  · subst h; exact km_40
  rcases Nat.eq_or_lt_of_le (show 41 ≤ y from h40) with h | h41
  · subst h; exact km_41
  rcases Nat.eq_or_lt_of_le (show 42 ≤ y from h41) with h | h42
  · subst h; exact km_42
  rcases Nat.eq_or_lt_of_le (show 43 ≤ y from h42) with h | h43
  · subst h; exact km_43
  rcases Nat.eq_or_lt_of_le (show 44 ≤ y from h43) with h | h44
  · subst h; exact km_44
  rcases Nat.eq_or_lt_of_le (show 45 ≤ y from h44) with h | h45
  · subst h; exact km_45
  rcases Nat.eq_or_lt_of_le (show 46 ≤ y from h45) with h | h46
  · subst h; exact km_46
  rcases Nat.eq_or_lt_of_le (show 47 ≤ y from h46) with h | h47
  · subst h; exact km_47
  rcases Nat.eq_or_lt_of_le (show 48 ≤ y from h47) with h | h48
  · subst h; exact km_48
  rcases Nat.eq_or_lt_of_le (show 49 ≤ y from h48) with h | h49
  · subst h; exact km_49
  rcases Nat.eq_or_lt_of_le (show 50 ≤ y from h49) with h | h50
  · subst h; exact km_50
  rcases Nat.eq_or_lt_of_le (show 51 ≤ y from h50) with h | h51
  · subst h; exact km_51
  rcases Nat.eq_or_lt_of_le (show 52 ≤ y from h51) with h | h52
  · subst h; exact km_52
  rcases Nat.eq_or_lt_of_le (show 53 ≤ y from h52) with h | h53
  · subst h; exact km_53
  rcases Nat.eq_or_lt_of_le (show 54 ≤ y from h53) with h | h54
  · subst h; exact km_54
  rcases Nat.eq_or_lt_of_le (show 55 ≤ y from h54) with h | h55
  · subst h; exact km_55
  rcases Nat.eq_or_lt_of_le (show 56 ≤ y from h55) with h | h56
  · subst h; exact km_56
  rcases Nat.eq_or_lt_of_le (show 57 ≤ y from h56) with h | h57
  · subst h; exact km_57
  rcases Nat.eq_or_lt_of_le (show 58 ≤ y from h57) with h | h58
  · subst h; exact km_58
  rcases Nat.eq_or_lt_of_le (show 59 ≤ y from h58) with h | h59
  · subst h; exact km_59
  rcases Nat.eq_or_lt_of_le (show 60 ≤ y from h59) with h | h60
  · subst h; exact km_60
  rcases Nat.eq_or_lt_of_le (show 61 ≤ y from h60) with h | h61
  · subst h; exact km_61
  rcases Nat.eq_or_lt_of_le (show 62 ≤ y from h61) with h | h62
  · subst h; exact km_62
  rcases Nat.eq_or_lt_of_le (show 63 ≤ y from h62) with h | h63
  · subst h; exact km_63
  rcases Nat.eq_or_lt_of_le (show 64 ≤ y from h63) with h | h64
  · subst h; exact km_64
  rcases Nat.eq_or_lt_of_le (show 65 ≤ y from h64) with h | h65
  · subst h; exact km_65
  rcases Nat.eq_or_lt_of_le (show 66 ≤ y from h65) with h | h66
  · subst h; exact km_66
  rcases Nat.eq_or_lt_of_le (show 67 ≤ y from h66) with h | h67
  · subst h; exact km_67
  rcases Nat.eq_or_lt_of_le (show 68 ≤ y from h67) with h | h68
  · subst h; exact km_68
  rcases Nat.eq_or_lt_of_le (show 69 ≤ y from h68) with h | h69
  · subst h; exact km_69
  rcases Nat.eq_or_lt_of_le (show 70 ≤ y from h69) with h | h70
  · subst h; exact km_70
  rcases Nat.eq_or_lt_of_le (show 71 ≤ y from h70) with h | h71
  · subst h; exact km_71
  rcases Nat.eq_or_lt_of_le (show 72 ≤ y from h71) with h | h72
  · subst h; exact km_72
  rcases Nat.eq_or_lt_of_le (show 73 ≤ y from h72) with h | h73
  · subst h; exact km_73
  rcases Nat.eq_or_lt_of_le (show 74 ≤ y from h73) with h | h74
  · subst h; exact km_74
  rcases Nat.eq_or_lt_of_le (show 75 ≤ y from h74) with h | h75
  · subst h; exact km_75
  rcases Nat.eq_or_lt_of_le (show 76 ≤ y from h75) with h | h76
  · subst h; exact km_76
  rcases Nat.eq_or_lt_of_le (show 77 ≤ y from h76) with h | h77
  · subst h; exact km_77
  rcases Nat.eq_or_lt_of_le (show 78 ≤ y from h77) with h | h78
  · subst h; exact km_78
  rcases Nat.eq_or_lt_of_le (show 79 ≤ y from h78) with h | h79
  · subst h; exact km_79
  rcases Nat.eq_or_lt_of_le (show 80 ≤ y from h79) with h | h80
  · subst h; exact km_80
  rcases Nat.eq_or_lt_of_le (show 81 ≤ y from h80) with h | h81
  · subst h; exact km_81
  rcases Nat.eq_or_lt_of_le (show 82 ≤ y from h81) with h | h82
  · subst h; exact km_82
  rcases Nat.eq_or_lt_of_le (show 83 ≤ y from h82) with h | h83
  · subst h; exact km_83
  rcases Nat.eq_or_lt_of_le (show 84 ≤ y from h83) with h | h84
  · subst h; exact km_84
  rcases Nat.eq_or_lt_of_le (show 85 ≤ y from h84) with h | h85
  · subst h; exact km_85
  rcases Nat.eq_or_lt_of_le (show 86 ≤ y from h85) with h | h86
  · subst h; exact km_86
  rcases Nat.eq_or_lt_of_le (show 87 ≤ y from h86) with h | h87
  · subst h; exact km_87
  rcases Nat.eq_or_lt_of_le (show 88 ≤ y from h87) with h | h88
  · subst h; exact km_88
  rcases Nat.eq_or_lt_of_le (show 89 ≤ y from h88) with h | h89
  · subst h; exact km_89
  rcases Nat.eq_or_lt_of_le (show 90 ≤ y from h89) with h | h90
  · subst h; exact km_90
  rcases Nat.eq_or_lt_of_le (show 91 ≤ y from h90) with h | h91
  · subst h; exact km_91
  rcases Nat.eq_or_lt_of_le (show 92 ≤ y from h91) with h | h92
  · subst h; exact km_92
  rcases Nat.eq_or_lt_of_le (show 93 ≤ y from h92) with h | h93
  · subst h; exact km_93
  rcases Nat.eq_or_lt_of_le (show 94 ≤ y from h93) with h | h94
  · subst h; exact km_94
  rcases Nat.eq_or_lt_of_le (show 95 ≤ y from h94) with h | h95
  · subst h; exact km_95
  rcases Nat.eq_or_lt_of_le (show 96 ≤ y from h95) with h | h96
  · subst h; exact km_96
  rcases Nat.eq_or_lt_of_le (show 97 ≤ y from h96) with h | h97
  · subst h; exact km_97
  rcases Nat.eq_or_lt_of_le (show 98 ≤ y from h97) with h | h98
  · subst h; exact km_98
  rcases Nat.eq_or_lt_of_le (show 99 ≤ y from h98) with h | h99
  · subst h; exact km_99
  rcases Nat.eq_or_lt_of_le (show 100 ≤ y from h99) with h | h100
  · subst h; exact km_100
  rcases Nat.eq_or_lt_of_le (show 101 ≤ y from h100) with h | h101
  · subst h; exact km_101
  rcases Nat.eq_or_lt_of_le (show 102 ≤ y from h101) with h | h102
  · subst h; exact km_102
  rcases Nat.eq_or_lt_of_le (show 103 ≤ y from h102) with h | h103
  · subst h; exact km_103
  rcases Nat.eq_or_lt_of_le (show 104 ≤ y from h103) with h | h104
  · subst h; exact km_104
  rcases Nat.eq_or_lt_of_le (show 105 ≤ y from h104) with h | h105
  · subst h; exact km_105
  rcases Nat.eq_or_lt_of_le (show 106 ≤ y from h105) with h | h106
  · subst h; exact km_106
  rcases Nat.eq_or_lt_of_le (show 107 ≤ y from h106) with h | h107
  · subst h; exact km_107
  rcases Nat.eq_or_lt_of_le (show 108 ≤ y from h107) with h | h108
  · subst h; exact km_108
  rcases Nat.eq_or_lt_of_le (show 109 ≤ y from h108) with h | h109
  · subst h; exact km_109
  rcases Nat.eq_or_lt_of_le (show 110 ≤ y from h109) with h | h110
  · subst h; exact km_110
  rcases Nat.eq_or_lt_of_le (show 111 ≤ y from h110) with h | h111
  · subst h; exact km_111
  rcases Nat.eq_or_lt_of_le (show 112 ≤ y from h111) with h | h112
  · subst h; exact km_112
  rcases Nat.eq_or_lt_of_le (show 113 ≤ y from h112) with h | h113
  · subst h; exact km_113
  rcases Nat.eq_or_lt_of_le (show 114 ≤ y from h113) with h | h114
  · subst h; exact km_114
  rcases Nat.eq_or_lt_of_le (show 115 ≤ y from h114) with h | h115
  · subst h; exact km_115
  rcases Nat.eq_or_lt_of_le (show 116 ≤ y from h115) with h | h116
  · subst h; exact km_116
  rcases Nat.eq_or_lt_of_le (show 117 ≤ y from h116) with h | h117
  · subst h; exact km_117
  rcases Nat.eq_or_lt_of_le (show 118 ≤ y from h117) with h | h118
  · subst h; exact km_118
  rcases Nat.eq_or_lt_of_le (show 119 ≤ y from h118) with h | h119
  · subst h; exact km_119
  rcases Nat.eq_or_lt_of_le (show 120 ≤ y from h119) with h | h120
  · subst h; exact km_120
  rcases Nat.eq_or_lt_of_le (show 121 ≤ y from h120) with h | h121
  · subst h; exact km_121
  rcases Nat.eq_or_lt_of_le (show 122 ≤ y from h121) with h | h122
  · subst h; exact km_122
  rcases Nat.eq_or_lt_of_le (show 123 ≤ y from h122) with h | h123
  · subst h; exact km_123
  rcases Nat.eq_or_lt_of_le (show 124 ≤ y from h123) with h | h124
  · subst h; exact km_124
  rcases Nat.eq_or_lt_of_le (show 125 ≤ y from h124) with h | h125
  · subst h; exact km_125
  rcases Nat.eq_or_lt_of_le (show 126 ≤ y from h125) with h | h126
  · subst h; exact km_126
  rcases Nat.eq_or_lt_of_le (show 127 ≤ y from h126) with h | h127
  · subst h; exact km_127
  rcases Nat.eq_or_lt_of_le (show 128 ≤ y from h127) with h | h128
  · subst h; exact km_128
  rcases Nat.eq_or_lt_of_le (show 129 ≤ y from h128) with h | h129
  · subst h; exact km_129
  rcases Nat.eq_or_lt_of_le (show 130 ≤ y from h129) with h | h130
  · subst h; exact km_130
  rcases Nat.eq_or_lt_of_le (show 131 ≤ y from h130) with h | h131
  · subst h; exact km_131
  rcases Nat.eq_or_lt_of_le (show 132 ≤ y from h131) with h | h132
  · subst h; exact km_132
  rcases Nat.eq_or_lt_of_le (show 133 ≤ y from h132) with h | h133
  · subst h; exact km_133
  rcases Nat.eq_or_lt_of_le (show 134 ≤ y from h133) with h | h134
  · subst h; exact km_134
  rcases Nat.eq_or_lt_of_le (show 135 ≤ y from h134) with h | h135
  · subst h; exact km_135
  rcases Nat.eq_or_lt_of_le (show 136 ≤ y from h135) with h | h136
  · subst h; exact km_136
  rcases Nat.eq_or_lt_of_le (show 137 ≤ y from h136) with h | h137
  · subst h; exact km_137
  rcases Nat.eq_or_lt_of_le (show 138 ≤ y from h137) with h | h138
  · subst h; exact km_138
  rcases Nat.eq_or_lt_of_le (show 139 ≤ y from h138) with h | h139
  · subst h; exact km_139
  rcases Nat.eq_or_lt_of_le (show 140 ≤ y from h139) with h | h140
  · subst h; exact km_140
  rcases Nat.eq_or_lt_of_le (show 141 ≤ y from h140) with h | h141
  · subst h; exact km_141
  rcases Nat.eq_or_lt_of_le (show 142 ≤ y from h141) with h | h142
  · subst h; exact km_142
  rcases Nat.eq_or_lt_of_le (show 143 ≤ y from h142) with h | h143
  · subst h; exact km_143
  rcases Nat.eq_or_lt_of_le (show 144 ≤ y from h143) with h | h144
  · subst h; exact km_144
  rcases Nat.eq_or_lt_of_le (show 145 ≤ y from h144) with h | h145
  · subst h; exact km_145
  rcases Nat.eq_or_lt_of_le (show 146 ≤ y from h145) with h | h146
  · subst h; exact km_146
  rcases Nat.eq_or_lt_of_le (show 147 ≤ y from h146) with h | h147
  · subst h; exact km_147
  rcases Nat.eq_or_lt_of_le (show 148 ≤ y from h147) with h | h148
  · subst h; exact km_148
  rcases Nat.eq_or_lt_of_le (show 149 ≤ y from h148) with h | h149
  · subst h; exact km_149
  rcases Nat.eq_or_lt_of_le (show 150 ≤ y from h149) with h | h150
  · subst h; exact km_150
  rcases Nat.eq_or_lt_of_le (show 151 ≤ y from h150) with h | h151
  · subst h; exact km_151
  rcases Nat.eq_or_lt_of_le (show 152 ≤ y from h151) with h | h152
  · subst h; exact km_152
  rcases Nat.eq_or_lt_of_le (show 153 ≤ y from h152) with h | h153
  · subst h; exact km_153
  rcases Nat.eq_or_lt_of_le (show 154 ≤ y from h153) with h | h154
  · subst h; exact km_154
  rcases Nat.eq_or_lt_of_le (show 155 ≤ y from h154) with h | h155
  · subst h; exact km_155
  rcases Nat.eq_or_lt_of_le (show 156 ≤ y from h155) with h | h156
  · subst h; exact km_156
  rcases Nat.eq_or_lt_of_le (show 157 ≤ y from h156) with h | h157
  · subst h; exact km_157
  rcases Nat.eq_or_lt_of_le (show 158 ≤ y from h157) with h | h158
  · subst h; exact km_158
  rcases Nat.eq_or_lt_of_le (show 159 ≤ y from h158) with h | h159
  · subst h; exact km_159
  rcases Nat.eq_or_lt_of_le (show 160 ≤ y from h159) with h | h160
  · subst h; exact km_160
  rcases Nat.eq_or_lt_of_le (show 161 ≤ y from h160) with h | h161
  · subst h; exact km_161
  rcases Nat.eq_or_lt_of_le (show 162 ≤ y from h161) with h | h162
  · subst h; exact km_162
  rcases Nat.eq_or_lt_of_le (show 163 ≤ y from h162) with h | h163
  · subst h; exact km_163
  rcases Nat.eq_or_lt_of_le (show 164 ≤ y from h163) with h | h164
  · subst h; exact km_164
  rcases Nat.eq_or_lt_of_le (show 165 ≤ y from h164) with h | h165
  · subst h; exact km_165
  rcases Nat.eq_or_lt_of_le (show 166 ≤ y from h165) with h | h166
  · subst h; exact km_166
  rcases Nat.eq_or_lt_of_le (show 167 ≤ y from h166) with h | h167
  · subst h; exact km_167
  rcases Nat.eq_or_lt_of_le (show 168 ≤ y from h167) with h | h168
  · subst h; exact km_168
  rcases Nat.eq_or_lt_of_le (show 169 ≤ y from h168) with h | h169
  · subst h; exact km_169
  rcases Nat.eq_or_lt_of_le (show 170 ≤ y from h169) with h | h170
  · subst h; exact km_170
  rcases Nat.eq_or_lt_of_le (show 171 ≤ y from h170) with h | h171
  · subst h; exact km_171
  rcases Nat.eq_or_lt_of_le (show 172 ≤ y from h171) with h | h172
  · subst h; exact km_172
  rcases Nat.eq_or_lt_of_le (show 173 ≤ y from h172) with h | h173
  · subst h; exact km_173
  rcases Nat.eq_or_lt_of_le (show 174 ≤ y from h173) with h | h174
  · subst h; exact km_174
  rcases Nat.eq_or_lt_of_le (show 175 ≤ y from h174) with h | h175
  · subst h; exact km_175
  rcases Nat.eq_or_lt_of_le (show 176 ≤ y from h175) with h | h176
  · subst h; exact km_176
  rcases Nat.eq_or_lt_of_le (show 177 ≤ y from h176) with h | h177
  · subst h; exact km_177
  rcases Nat.eq_or_lt_of_le (show 178 ≤ y from h177) with h | h178
  · subst h; exact km_178
  rcases Nat.eq_or_lt_of_le (show 179 ≤ y from h178) with h | h179
  · subst h; exact km_179
  rcases Nat.eq_or_lt_of_le (show 180 ≤ y from h179) with h | h180
  · subst h; exact km_180
  rcases Nat.eq_or_lt_of_le (show 181 ≤ y from h180) with h | h181
  · subst h; exact km_181
  rcases Nat.eq_or_lt_of_le (show 182 ≤ y from h181) with h | h182
  · subst h; exact km_182
  rcases Nat.eq_or_lt_of_le (show 183 ≤ y from h182) with h | h183
  · subst h; exact km_183
  rcases Nat.eq_or_lt_of_le (show 184 ≤ y from h183) with h | h184
  · subst h; exact km_184
  rcases Nat.eq_or_lt_of_le (show 185 ≤ y from h184) with h | h185
  · subst h; exact km_185
  rcases Nat.eq_or_lt_of_le (show 186 ≤ y from h185) with h | h186
  · subst h; exact km_186
  rcases Nat.eq_or_lt_of_le (show 187 ≤ y from h186) with h | h187
  · subst h; exact km_187
  rcases Nat.eq_or_lt_of_le (show 188 ≤ y from h187) with h | h188
  · subst h; exact km_188
  rcases Nat.eq_or_lt_of_le (show 189 ≤ y from h188) with h | h189
  · subst h; exact km_189
  rcases Nat.eq_or_lt_of_le (show 190 ≤ y from h189) with h | h190
  · subst h; exact km_190
  rcases Nat.eq_or_lt_of_le (show 191 ≤ y from h190) with h | h191
  · subst h; exact km_191
  rcases Nat.eq_or_lt_of_le (show 192 ≤ y from h191) with h | h192
  · subst h; exact km_192
  rcases Nat.eq_or_lt_of_le (show 193 ≤ y from h192) with h | h193
  · subst h; exact km_193
  rcases Nat.eq_or_lt_of_le (show 194 ≤ y from h193) with h | h194
  · subst h; exact km_194
  rcases Nat.eq_or_lt_of_le (show 195 ≤ y from h194) with h | h195
  · subst h; exact km_195
  rcases Nat.eq_or_lt_of_le (show 196 ≤ y from h195) with h | h196
  · subst h; exact km_196
  rcases Nat.eq_or_lt_of_le (show 197 ≤ y from h196) with h | h197
  · subst h; exact km_197
  rcases Nat.eq_or_lt_of_le (show 198 ≤ y from h197) with h | h198
  · subst h; exact km_198
  rcases Nat.eq_or_lt_of_le (show 199 ≤ y from h198) with h | h199
  · subst h; exact km_199
  rcases Nat.eq_or_lt_of_le (show 200 ≤ y from h199) with h | h200
  · subst h; exact km_200
  rcases Nat.eq_or_lt_of_le (show 201 ≤ y from h200) with h | h201
  · subst h; exact km_201
  rcases Nat.eq_or_lt_of_le (show 202 ≤ y from h201) with h | h202
  · subst h; exact km_202
  rcases Nat.eq_or_lt_of_le (show 203 ≤ y from h202) with h | h203
  · subst h; exact km_203
  rcases Nat.eq_or_lt_of_le (show 204 ≤ y from h203) with h | h204
  · subst h; exact km_204
  rcases Nat.eq_or_lt_of_le (show 205 ≤ y from h204) with h | h205
  · subst h; exact km_205
  rcases Nat.eq_or_lt_of_le (show 206 ≤ y from h205) with h | h206
  · subst h; exact km_206
  rcases Nat.eq_or_lt_of_le (show 207 ≤ y from h206) with h | h207
  · subst h; exact km_207
  rcases Nat.eq_or_lt_of_le (show 208 ≤ y from h207) with h | h208
  · subst h; exact km_208
  rcases Nat.eq_or_lt_of_le (show 209 ≤ y from h208) with h | h209
  · subst h; exact km_209
  rcases Nat.eq_or_lt_of_le (show 210 ≤ y from h209) with h | h210
  · subst h; exact km_210
  rcases Nat.eq_or_lt_of_le (show 211 ≤ y from h210) with h | h211
  · subst h; exact km_211
  rcases Nat.eq_or_lt_of_le (show 212 ≤ y from h211) with h | h212
  · subst h; exact km_212
  rcases Nat.eq_or_lt_of_le (show 213 ≤ y from h212) with h | h213
  · subst h; exact km_213
  rcases Nat.eq_or_lt_of_le (show 214 ≤ y from h213) with h | h214
  · subst h; exact km_214
  rcases Nat.eq_or_lt_of_le (show 215 ≤ y from h214) with h | h215
  · subst h; exact km_215
  rcases Nat.eq_or_lt_of_le (show 216 ≤ y from h215) with h | h216
  · subst h; exact km_216
  rcases Nat.eq_or_lt_of_le (show 217 ≤ y from h216) with h | h217
  · subst h; exact km_217
  rcases Nat.eq_or_lt_of_le (show 218 ≤ y from h217) with h | h218
  · subst h; exact km_218
  rcases Nat.eq_or_lt_of_le (show 219 ≤ y from h218) with h | h219
  · subst h; exact km_219
  rcases Nat.eq_or_lt_of_le (show 220 ≤ y from h219) with h | h220
  · subst h; exact km_220
  rcases Nat.eq_or_lt_of_le (show 221 ≤ y from h220) with h | h221
  · subst h; exact km_221
  rcases Nat.eq_or_lt_of_le (show 222 ≤ y from h221) with h | h222
  · subst h; exact km_222
  rcases Nat.eq_or_lt_of_le (show 223 ≤ y from h222) with h | h223
  · subst h; exact km_223
  rcases Nat.eq_or_lt_of_le (show 224 ≤ y from h223) with h | h224
  · subst h; exact km_224
  rcases Nat.eq_or_lt_of_le (show 225 ≤ y from h224) with h | h225
  · subst h; exact km_225
  rcases Nat.eq_or_lt_of_le (show 226 ≤ y from h225) with h | h226
  · subst h; exact km_226
  rcases Nat.eq_or_lt_of_le (show 227 ≤ y from h226) with h | h227
  · subst h; exact km_227
  rcases Nat.eq_or_lt_of_le (show 228 ≤ y from h227) with h | h228
  · subst h; exact km_228
  rcases Nat.eq_or_lt_of_le (show 229 ≤ y from h228) with h | h229
  · subst h; exact km_229
  rcases Nat.eq_or_lt_of_le (show 230 ≤ y from h229) with h | h230
  · subst h; exact km_230
  rcases Nat.eq_or_lt_of_le (show 231 ≤ y from h230) with h | h231
  · subst h; exact km_231
  rcases Nat.eq_or_lt_of_le (show 232 ≤ y from h231) with h | h232
  · subst h; exact km_232
  rcases Nat.eq_or_lt_of_le (show 233 ≤ y from h232) with h | h233
  · subst h; exact km_233
  rcases Nat.eq_or_lt_of_le (show 234 ≤ y from h233) with h | h234
  · subst h; exact km_234
  rcases Nat.eq_or_lt_of_le (show 235 ≤ y from h234) with h | h235
  · subst h; exact km_235
  have hn : ex_bs[y]? = none := List.getElem?_eq_none (show ex_bs.length ≤ y from h235)
  unfold ex_okM
  rw [List.getD_eq_getElem?_getD, hn]
  rfl
