/-! letters -/
/-- the code of letter i of w -/
def q_lt (w : Int64) (i : Int) : Int32 := (w.toUInt64 >>> ((Int32.ofInt (8 * i)).toInt64.toUInt64 &&& Int64.toUInt64 63)).toInt64.toInt32 &&& Int32.ofInt 255
theorem c_s1 : ∀ n : Nat, n < 8 → (((Int32.ofInt (8 * (n : Int))).toInt64.toUInt64 &&& Int64.toUInt64 63).toBitVec % 64).toNat = 8 * n := by decide +kernel
theorem c_s2 : ∀ n : Nat, n < 8 → (((Int32.ofInt (8 * (n : Int))).toInt64 &&& 63).toBitVec.smod 64).toNat = 8 * n := by decide +kernel
theorem c_255 : ∀ i, i < 32 → bt (Int32.ofInt 255) i = decide (i < 8) := by decide +kernel
theorem c_u {w : Int64} {n : Nat} (hn : n < 8) {j : Nat} (hj : j < 32) : bt ((w.toUInt64 >>> ((Int32.ofInt (8 * (n : Int))).toInt64.toUInt64 &&& Int64.toUInt64 63)).toInt64.toInt32) j = w.toBitVec.getLsbD (8 * n + j) := by
  unfold bt
  rw [Int64.toBitVec_toInt32, BitVec.getLsbD_signExtend, if_pos (by omega)]
  show (decide (j < 32) && (w.toUInt64 >>> ((Int32.ofInt (8 * (n : Int))).toInt64.toUInt64 &&& Int64.toUInt64 63)).toBitVec.getLsbD j) = _
  rw [UInt64.toBitVec_shiftRight]
  show (decide (j < 32) && (w.toBitVec >>> (((Int32.ofInt (8 * (n : Int))).toInt64.toUInt64 &&& Int64.toUInt64 63).toBitVec % 64).toNat).getLsbD j) = _
  rw [c_s1 n hn, BitVec.getLsbD_ushiftRight, decide_eq_true hj, Bool.true_and]
theorem c_a {w : Int64} {n : Nat} (hn : n < 8) {j : Nat} (hj : j < 64) : (w >>> ((Int32.ofInt (8 * (n : Int))).toInt64 &&& 63)).toBitVec.getLsbD j = if 8 * n + j < 64 then w.toBitVec.getLsbD (8 * n + j) else w.toBitVec.getLsbD 63 := by
  rw [Int64.toBitVec_shiftRight]
  show (w.toBitVec.sshiftRight (((Int32.ofInt (8 * (n : Int))).toInt64 &&& 63).toBitVec.smod 64).toNat).getLsbD j = _
  rw [c_s2 n hn, BitVec.getLsbD_sshiftRight, BitVec.msb_eq_getLsbD_last]
  simp [hj]
theorem q_lt_b {w : Int64} {n : Nat} (hn : n < 8) {j : Nat} (hj : j < 32) : bt (q_lt w n) j = (decide (j < 8) && w.toBitVec.getLsbD (8 * n + j)) := by
  unfold q_lt
  rw [b_and, c_u hn hj, c_255 j hj, Bool.and_comm]
theorem c_r : ∀ n : Nat, n < 256 → Int32.ofInt ((n : Int) - 128) &&& Int32.ofInt 255 = Int32.ofInt (if 128 ≤ n then (n : Int) - 128 else (n : Int) + 128) := by decide +kernel
theorem c_i8 (x : Int32) : ∃ n : Nat, n < 256 ∧ x.toInt8.toInt32 = Int32.ofInt ((n : Int) - 128) := by
  have h1 := Int8.le_toInt x.toInt8
  have h2 := Int8.toInt_lt x.toInt8
  refine ⟨(x.toInt8.toInt + 128).toNat, by omega, ?_⟩
  rw [Int.toNat_of_nonneg (by omega), show x.toInt8.toInt + 128 - 128 = x.toInt8.toInt by omega, ← Int8.toInt_toInt32, Int32.ofInt_toInt]
theorem q_lt_y {w : Int64} {n : Nat} (hn : n < 8) : ((w >>> ((Int32.ofInt (8 * (n : Int))).toInt64 &&& 63)).toInt32.toInt8.toInt32) &&& Int32.ofInt 255 = q_lt w n := by
  refine b_ext fun j hj => ?_
  rw [q_lt_b hn hj, b_and, c_255 j hj]
  by_cases h : j < 8
  · rw [decide_eq_true h, Bool.and_true, Bool.true_and]
    unfold bt
    rw [Int8.toBitVec_toInt32, BitVec.getLsbD_signExtend, if_pos h, Int32.toBitVec_toInt8, BitVec.getLsbD_signExtend, if_pos (by omega), Int64.toBitVec_toInt32, BitVec.getLsbD_signExtend, if_pos (by omega), c_a hn (by omega), if_pos (by omega)]
    simp [h, hj]
  · rw [decide_eq_false h, Bool.and_false, Bool.false_and]
noncomputable def q_le (w : Int64) (i : Int) : Int := (q_lt w i).toInt
theorem q_le_e {w : Int64} {i : Int} : q_lt w i = Int32.ofInt (q_le w i) := (Int32.ofInt_toInt _).symm
theorem q_le_r {w : Int64} {n : Nat} (hn : n < 8) : 0 ≤ q_le w n ∧ q_le w n < 256 := by
  obtain ⟨m, hm, he⟩ := c_i8 ((w >>> ((Int32.ofInt (8 * (n : Int))).toInt64 &&& 63)).toInt32)
  have h := q_lt_y (w := w) hn
  rw [he, c_r m hm] at h
  unfold q_le
  rw [← h]
  by_cases h8 : 128 ≤ m
  · rw [if_pos h8, z_toInt (by omega) (by omega)]; omega
  · rw [if_neg h8, z_toInt (by omega) (by omega)]; omega
/-- m letters, and nothing behind them -/
def q_ln (w : Int64) (m n : Int) : Prop := 0 ≤ m ∧ m ≤ n ∧ (∀ k, 0 ≤ k → k < m → 1 ≤ q_le w k ∧ q_le w k ≤ 126) ∧ ∀ k, m ≤ k → k < n → q_le w k = 0
theorem q_ln_u {w : Int64} {m m' n : Int} (h : q_ln w m n) (h' : q_ln w m' n) : m = m' := by
  obtain ⟨a, b, c, d⟩ := h
  obtain ⟨a', b', c', d'⟩ := h'
  by_cases h1 : m < m'
  · have := c' m a h1; have := d m (Int.le_refl _) (by omega); omega
  · by_cases h2 : m' < m
    · have := c m' a' h2; have := d' m' (Int.le_refl _) (by omega); omega
    · omega
theorem q_ln_go {w : Int64} {m : Int} {i : Int} (h : q_ln w m i) (h1 : q_le w i = 0) : q_ln w m (i + 1) := by
  obtain ⟨a, b, c, d⟩ := h
  refine ⟨a, by omega, c, fun k k0 k1 => ?_⟩
  by_cases hk : k = i
  · rw [hk]; exact h1
  · exact d k k0 (by omega)
theorem q_ln_more {w : Int64} {i : Int} (h : q_ln w i i) (h1 : 1 ≤ q_le w i) (h2 : q_le w i ≤ 126) : q_ln w (i + 1) (i + 1) := by
  obtain ⟨a, b, c, d⟩ := h
  refine ⟨by omega, by omega, fun k k0 k1 => ?_, fun k k0 k1 => by omega⟩
  by_cases hk : k = i
  · rw [hk]; exact ⟨h1, h2⟩
  · exact c k k0 (by omega)
/-- a letter that ends it -/
theorem q_ln_no {w : Int64} {m m' i : Int} (h : q_ln w m i) (i8 : i < 8) (hb : 126 < q_le w i ∨ (m < i ∧ ¬ q_le w i = 0)) (h' : q_ln w m' 8) : False := by
  obtain ⟨a, b, c, d⟩ := h
  obtain ⟨a', b', c', d'⟩ := h'
  by_cases h1 : i < m'
  · have := c' i (by omega) h1
    rcases hb with hb | hb
    · omega
    · have := d m (Int.le_refl _) hb.1
      have := c' m a (by omega); omega
  · have := d' i (by omega) i8; omega
theorem m_codeIn {d : Nat} {w : PW} {x : Int64} {i : Int} (i0 : 0 ≤ i) (i1 : i < 8) : ex_cal (d + 1) 54 [.long x, .int (Int32.ofInt i)] w = some (some (.int (Int32.ofInt (q_le x i))), w) := by
  have e : (x.toUInt64 >>> ((Int32.ofInt (8 * i)).toInt64.toUInt64 &&& Int64.toUInt64 63)).toInt64.toInt32 &&& Int32.ofInt 255 = Int32.ofInt (q_le x i) := q_le_e
  rw [ke_54]
  simp (disch := omega) only [e, ev_iload, ev_lload, ev_push, ev_imul, ev_iand, ev_lushr, ev_l2i, nr_i, nr_r, nr_l, nr_n, rx_iret, kb_54_0, kr_54, List.getD_cons_zero, List.getD_cons_succ, List.set_cons_zero, List.set_cons_succ, ex_spl, ex_low, Option.toList, List.cons_append, List.nil_append, reduceIte, Int.reduceToNat, Nat.reduceDiv, Nat.reduceMod, Nat.reduceAdd, Nat.reduceMul, z_0, z_1, z_10, z_01, reduceCtorEq, ite_true, ite_false, true_and, and_true, ↓bI_01, ↓bP_01, ↓zret0, ↓zret1, z_add, z_sub, z_mul, up_1, up_2, not_true, not_false_iff, if_true, if_false, Bool.true_and, bI_T, bI_F, bP_T, bP_F, or_true, true_or, or_false, false_or, Int.reduceNeg, Int.reduceAdd, Int.reduceSub, Int.reduceMul, Int.reduceEq, Int.reduceLT, Int.reduceLE, Int.natCast_add, Int.cast_ofNat_Int]
theorem m_lettersIn {d : Nat} {w : PW} {x : Int64} {r : Int} (hr : (∃ m, q_ln x m 8 ∧ r = m) ∨ ((¬ ∃ m, q_ln x m 8) ∧ r = -1)) : ex_cal (d + 2) 53 [.long x] w = some (some (.int (Int32.ofInt r)), w) := by
  rw [ke_53]
  simp (disch := omega) only [ev_iload, ev_lload, rx_istore, ev_iinc, ev_push, ev_goto, ev_jsr, rx_ige_t, rx_ige_f, rx_igt_t, rx_igt_f, rx_zeq_t, rx_zeq_f, rx_zne_t, rx_zne_f, ev_call, nr_i, nr_r, nr_l, nr_n, cg_54, rx_iret, kb_53_0, kb_53_38, kb_53_40, kb_53_50, kb_53_53, kb_53_59, kr_53, List.getD_cons_zero, List.getD_cons_succ, List.set_cons_zero, List.set_cons_succ, ex_spl, ex_low, Option.toList, List.cons_append, List.nil_append, reduceIte, Int.reduceToNat, Nat.reduceDiv, Nat.reduceMod, Nat.reduceAdd, Nat.reduceMul, z_0, z_1, z_10, z_01, reduceCtorEq, ite_true, ite_false, true_and, and_true, ↓bI_01, ↓bP_01, ↓zret0, ↓zret1, z_add, z_sub, z_mul, up_1, up_2, not_true, not_false_iff, if_true, if_false, Bool.true_and, bI_T, bI_F, bP_T, bP_F, or_true, true_or, or_false, false_or, Int.reduceNeg, Int.reduceAdd, Int.reduceSub, Int.reduceMul, Int.reduceEq, Int.reduceLT, Int.reduceLE, Int.natCast_add, Int.cast_ofNat_Int]
  refine ex_loop (Q := fun q => q = some (some (.int (Int32.ofInt r)), w)) (fun i s => ∃ m v5, s = (ex_blk 53 7, [.long x, .retAddr 0, .int (Int32.ofInt m), .int (Int32.ofInt (if m < (i : Int) then 1 else 0)), .int (Int32.ofInt (i : Int)), v5], [], w) ∧ xv v5 ∧ q_ln x m i) 8 ?_ ?_ ?_
  · exact ⟨0, .null, rfl, xv_n, ⟨Int.le_refl _, Int.le_refl _, fun k k0 k1 => absurd k1 (by omega), fun k k0 k1 => absurd k1 (by omega)⟩⟩
  · rintro i s hi ⟨m, v5, rfl, x5, hm⟩
    have hc := q_le_r (w := x) hi
    have hm0 := hm.1
    have hm1 := hm.2.1
    have bad : (126 < q_le x i ∨ (m < (i : Int) ∧ ¬ q_le x i = 0)) → r = -1 := by
      intro hb
      rcases hr with ⟨m', h1, h2⟩ | ⟨h1, h2⟩
      · exact (q_ln_no hm (by omega) hb h1).elim
      · exact h2
    by_cases h1 : 126 < q_le x i
    · left
      rw [bad (Or.inl h1), kb_53_7]
      simp (disch := omega) only [m_codeIn, x5, ev_iload, ev_lload, rx_istore, ev_iinc, ev_push, ev_goto, ev_jsr, rx_ige_t, rx_ige_f, rx_igt_t, rx_igt_f, rx_zeq_t, rx_zeq_f, rx_zne_t, rx_zne_f, ev_call, nr_i, nr_r, nr_l, nr_n, cg_54, rx_iret, kb_53_0, kb_53_38, kb_53_40, kb_53_50, kb_53_53, kb_53_59, kr_53, List.getD_cons_zero, List.getD_cons_succ, List.set_cons_zero, List.set_cons_succ, ex_spl, ex_low, Option.toList, List.cons_append, List.nil_append, reduceIte, Int.reduceToNat, Nat.reduceDiv, Nat.reduceMod, Nat.reduceAdd, Nat.reduceMul, z_0, z_1, z_10, z_01, reduceCtorEq, ite_true, ite_false, true_and, and_true, ↓bI_01, ↓bP_01, ↓zret0, ↓zret1, z_add, z_sub, z_mul, up_1, up_2, not_true, not_false_iff, if_true, if_false, Bool.true_and, bI_T, bI_F, bP_T, bP_F, or_true, true_or, or_false, false_or, Int.reduceNeg, Int.reduceAdd, Int.reduceSub, Int.reduceMul, Int.reduceEq, Int.reduceLT, Int.reduceLE, Int.natCast_add, Int.cast_ofNat_Int]
    · by_cases h2 : m < (i : Int)
      · by_cases h3 : q_le x i = 0
        · right
          refine ⟨(ex_blk 53 7, [.long x, .retAddr 0, .int (Int32.ofInt m), .int (Int32.ofInt 1), .int (Int32.ofInt ((i : Int) + 1)), .int (Int32.ofInt (q_le x i))], [], w), ?_, m, _, by rw [if_pos (by omega)]; rfl, xv_i _, q_ln_go hm h3⟩
          conv => lhs; rw [kb_53_7]
          rw [if_pos h2]
          simp (disch := omega) only [m_codeIn, x5, ev_iload, ev_lload, rx_istore, ev_iinc, ev_push, ev_goto, ev_jsr, rx_ige_t, rx_ige_f, rx_igt_t, rx_igt_f, rx_zeq_t, rx_zeq_f, rx_zne_t, rx_zne_f, ev_call, nr_i, nr_r, nr_l, nr_n, cg_54, rx_iret, kb_53_0, kb_53_38, kb_53_40, kb_53_50, kb_53_53, kb_53_59, kr_53, List.getD_cons_zero, List.getD_cons_succ, List.set_cons_zero, List.set_cons_succ, ex_spl, ex_low, Option.toList, List.cons_append, List.nil_append, reduceIte, Int.reduceToNat, Nat.reduceDiv, Nat.reduceMod, Nat.reduceAdd, Nat.reduceMul, z_0, z_1, z_10, z_01, reduceCtorEq, ite_true, ite_false, true_and, and_true, ↓bI_01, ↓bP_01, ↓zret0, ↓zret1, z_add, z_sub, z_mul, up_1, up_2, not_true, not_false_iff, if_true, if_false, Bool.true_and, bI_T, bI_F, bP_T, bP_F, or_true, true_or, or_false, false_or, Int.reduceNeg, Int.reduceAdd, Int.reduceSub, Int.reduceMul, Int.reduceEq, Int.reduceLT, Int.reduceLE, Int.natCast_add, Int.cast_ofNat_Int]
        · left
          rw [bad (Or.inr ⟨h2, h3⟩), kb_53_7, if_pos h2]
          simp (disch := omega) only [m_codeIn, x5, ev_iload, ev_lload, rx_istore, ev_iinc, ev_push, ev_goto, ev_jsr, rx_ige_t, rx_ige_f, rx_igt_t, rx_igt_f, rx_zeq_t, rx_zeq_f, rx_zne_t, rx_zne_f, ev_call, nr_i, nr_r, nr_l, nr_n, cg_54, rx_iret, kb_53_0, kb_53_38, kb_53_40, kb_53_50, kb_53_53, kb_53_59, kr_53, List.getD_cons_zero, List.getD_cons_succ, List.set_cons_zero, List.set_cons_succ, ex_spl, ex_low, Option.toList, List.cons_append, List.nil_append, reduceIte, Int.reduceToNat, Nat.reduceDiv, Nat.reduceMod, Nat.reduceAdd, Nat.reduceMul, z_0, z_1, z_10, z_01, reduceCtorEq, ite_true, ite_false, true_and, and_true, ↓bI_01, ↓bP_01, ↓zret0, ↓zret1, z_add, z_sub, z_mul, up_1, up_2, not_true, not_false_iff, if_true, if_false, Bool.true_and, bI_T, bI_F, bP_T, bP_F, or_true, true_or, or_false, false_or, Int.reduceNeg, Int.reduceAdd, Int.reduceSub, Int.reduceMul, Int.reduceEq, Int.reduceLT, Int.reduceLE, Int.natCast_add, Int.cast_ofNat_Int]
      · right
        have hmi : m = i := by omega
        subst hmi
        by_cases h3 : q_le x i = 0
        · refine ⟨(ex_blk 53 7, [.long x, .retAddr 0, .int (Int32.ofInt (i : Int)), .int (Int32.ofInt 1), .int (Int32.ofInt ((i : Int) + 1)), .int (Int32.ofInt (q_le x i))], [], w), ?_, i, _, by rw [if_pos (by omega)]; rfl, xv_i _, q_ln_go hm h3⟩
          conv => lhs; rw [kb_53_7]
          rw [if_neg h2]
          simp (disch := omega) only [m_codeIn, x5, ev_iload, ev_lload, rx_istore, ev_iinc, ev_push, ev_goto, ev_jsr, rx_ige_t, rx_ige_f, rx_igt_t, rx_igt_f, rx_zeq_t, rx_zeq_f, rx_zne_t, rx_zne_f, ev_call, nr_i, nr_r, nr_l, nr_n, cg_54, rx_iret, kb_53_0, kb_53_38, kb_53_40, kb_53_50, kb_53_53, kb_53_59, kr_53, List.getD_cons_zero, List.getD_cons_succ, List.set_cons_zero, List.set_cons_succ, ex_spl, ex_low, Option.toList, List.cons_append, List.nil_append, reduceIte, Int.reduceToNat, Nat.reduceDiv, Nat.reduceMod, Nat.reduceAdd, Nat.reduceMul, z_0, z_1, z_10, z_01, reduceCtorEq, ite_true, ite_false, true_and, and_true, ↓bI_01, ↓bP_01, ↓zret0, ↓zret1, z_add, z_sub, z_mul, up_1, up_2, not_true, not_false_iff, if_true, if_false, Bool.true_and, bI_T, bI_F, bP_T, bP_F, or_true, true_or, or_false, false_or, Int.reduceNeg, Int.reduceAdd, Int.reduceSub, Int.reduceMul, Int.reduceEq, Int.reduceLT, Int.reduceLE, Int.natCast_add, Int.cast_ofNat_Int]
        · refine ⟨(ex_blk 53 7, [.long x, .retAddr 0, .int (Int32.ofInt ((i : Int) + 1)), .int (Int32.ofInt 0), .int (Int32.ofInt ((i : Int) + 1)), .int (Int32.ofInt (q_le x i))], [], w), ?_, (i : Int) + 1, _, by rw [if_neg (by omega)]; rfl, xv_i _, q_ln_more hm (by omega) (by omega)⟩
          conv => lhs; rw [kb_53_7]
          rw [if_neg h2]
          simp (disch := omega) only [m_codeIn, x5, ev_iload, ev_lload, rx_istore, ev_iinc, ev_push, ev_goto, ev_jsr, rx_ige_t, rx_ige_f, rx_igt_t, rx_igt_f, rx_zeq_t, rx_zeq_f, rx_zne_t, rx_zne_f, ev_call, nr_i, nr_r, nr_l, nr_n, cg_54, rx_iret, kb_53_0, kb_53_38, kb_53_40, kb_53_50, kb_53_53, kb_53_59, kr_53, List.getD_cons_zero, List.getD_cons_succ, List.set_cons_zero, List.set_cons_succ, ex_spl, ex_low, Option.toList, List.cons_append, List.nil_append, reduceIte, Int.reduceToNat, Nat.reduceDiv, Nat.reduceMod, Nat.reduceAdd, Nat.reduceMul, z_0, z_1, z_10, z_01, reduceCtorEq, ite_true, ite_false, true_and, and_true, ↓bI_01, ↓bP_01, ↓zret0, ↓zret1, z_add, z_sub, z_mul, up_1, up_2, not_true, not_false_iff, if_true, if_false, Bool.true_and, bI_T, bI_F, bP_T, bP_F, or_true, true_or, or_false, false_or, Int.reduceNeg, Int.reduceAdd, Int.reduceSub, Int.reduceMul, Int.reduceEq, Int.reduceLT, Int.reduceLE, Int.natCast_add, Int.cast_ofNat_Int]
  · rintro s ⟨m, v5, rfl, x5, hm⟩
    rcases hr with ⟨m', h1, h2⟩ | ⟨h1, h2⟩
    · rw [h2, q_ln_u h1 hm, kb_53_7]
      simp (disch := omega) only [ev_iload, ev_lload, rx_istore, ev_iinc, ev_push, ev_goto, ev_jsr, rx_ige_t, rx_ige_f, rx_igt_t, rx_igt_f, rx_zeq_t, rx_zeq_f, rx_zne_t, rx_zne_f, ev_call, nr_i, nr_r, nr_l, nr_n, cg_54, rx_iret, kb_53_0, kb_53_38, kb_53_40, kb_53_50, kb_53_53, kb_53_59, kr_53, List.getD_cons_zero, List.getD_cons_succ, List.set_cons_zero, List.set_cons_succ, ex_spl, ex_low, Option.toList, List.cons_append, List.nil_append, reduceIte, Int.reduceToNat, Nat.reduceDiv, Nat.reduceMod, Nat.reduceAdd, Nat.reduceMul, z_0, z_1, z_10, z_01, reduceCtorEq, ite_true, ite_false, true_and, and_true, ↓bI_01, ↓bP_01, ↓zret0, ↓zret1, z_add, z_sub, z_mul, up_1, up_2, not_true, not_false_iff, if_true, if_false, Bool.true_and, bI_T, bI_F, bP_T, bP_F, or_true, true_or, or_false, false_or, Int.reduceNeg, Int.reduceAdd, Int.reduceSub, Int.reduceMul, Int.reduceEq, Int.reduceLT, Int.reduceLE, Int.natCast_add, Int.cast_ofNat_Int]
    · exact (h1 ⟨m, hm⟩).elim
noncomputable def q_pg (A : AS) (x : Int64) (m : Int) : AS := fun a b => if a = 0 ∧ b = 8 then A 0 8 + m else if a = 8 ∧ A 0 8 ≤ b ∧ b < A 0 8 + m then q_le x (b - A 0 8) else A a b
theorem q_pg_n {A : AS} {x : Int64} {m : Int} : q_pg A x m 0 8 = A 0 8 + m := if_pos ⟨rfl, rfl⟩
theorem q_pg_o {A : AS} {x : Int64} {m k : Int} (h : k < A 0 8) : q_pg A x m 8 k = A 8 k := by
  unfold q_pg; rw [if_neg (by omega), if_neg (by omega)]
theorem q_pg_e {A : AS} {x : Int64} {m k : Int} (h : A 0 8 ≤ k) (h2 : k < A 0 8 + m) : q_pg A x m 8 k = q_le x (k - A 0 8) := by
  unfold q_pg; rw [if_neg (by omega), if_pos ⟨rfl, h, h2⟩]
theorem m_append {d : Nat} {w : PW} {x : Int64} {m n : Int} (m0 : 0 ≤ m) (m1 : m ≤ 8) (n0 : 0 ≤ n) (n1 : n + m ≤ 40) (hs : w.1 1 1 = Int32.ofInt n) : ∃ w', ex_cal (d + 2) 55 [.ref 1, .long x, .int (Int32.ofInt m)] w = some (none, w') ∧ (∀ a k, ¬ (a = 1 ∧ k = 1) → ¬ a = 2 → w'.1 a k = w.1 a k) ∧ w'.1 1 1 = Int32.ofInt (n + m) ∧ (∀ k : Int, 0 ≤ k → k < n → w'.1 2 k.toNat = w.1 2 k.toNat) ∧ ∀ k : Int, 0 ≤ k → k < m → w'.1 2 (n + k).toNat = Int32.ofInt (q_le x k) := by
  rw [ke_55 kc_1]
  simp (disch := omega) only [ev_iload, ev_aload, ev_lload, rx_istore, ev_iinc, ev_push, ev_iadd, ev_dup_r, ev_dup_i, ev_goto, ev_jsr, rx_ige_t, rx_ige_f, ev_getf, ev_putf, ev_call, nr_i, nr_r, nr_l, nr_n, kS_2, kS_6, kS_7, kS_8, kS_9, kS_10, kS_11, kS_12, kS_13, kS_14, kS_15, kS_16, kS_19, kS_22, kS_24, kS_26, kS_28, kS_31, kS_33, kS_39, kS_40, kS_43, kS_44, kS_45, cg_54, rx_vret, kb_55_0, kb_55_49, kr_55, kf_1_448, kf_1_449, kk_1_449, List.getD_cons_zero, List.getD_cons_succ, List.set_cons_zero, List.set_cons_succ, ex_spl, ex_low, Option.toList, List.cons_append, List.nil_append, reduceIte, Int.reduceToNat, Nat.reduceDiv, Nat.reduceMod, Nat.reduceAdd, Nat.reduceMul, z_0, z_1, z_10, z_01, reduceCtorEq, ite_true, ite_false, true_and, and_true, ↓bI_01, ↓bP_01, ↓zret0, ↓zret1, z_add, z_sub, z_mul, up_1, up_2, not_true, not_false_iff, if_true, if_false, Bool.true_and, bI_T, bI_F, bP_T, bP_F, or_true, true_or, or_false, false_or, Int.reduceNeg, Int.reduceAdd, Int.reduceSub, Int.reduceMul, Int.reduceEq, Int.reduceLT, Int.reduceLE, Int.natCast_add, Int.cast_ofNat_Int]
  refine ex_loop (Q := fun q => ∃ w', q = some (none, w') ∧ (∀ a k, ¬ (a = 1 ∧ k = 1) → ¬ a = 2 → w'.1 a k = w.1 a k) ∧ w'.1 1 1 = Int32.ofInt (n + m) ∧ (∀ k : Int, 0 ≤ k → k < n → w'.1 2 k.toNat = w.1 2 k.toNat) ∧ ∀ k : Int, 0 ≤ k → k < m → w'.1 2 (n + k).toNat = Int32.ofInt (q_le x k)) (fun i s => ∃ w1, s = (ex_blk 55 3, [.ref 1, .long x, .retAddr 0, .int (Int32.ofInt m), .int (Int32.ofInt (i : Int))], [], w1) ∧ (∀ a k, ¬ (a = 1 ∧ k = 1) → ¬ a = 2 → w1.1 a k = w.1 a k) ∧ w1.1 1 1 = Int32.ofInt (n + i) ∧ (∀ k : Int, 0 ≤ k → k < n → w1.1 2 k.toNat = w.1 2 k.toNat) ∧ ∀ k : Int, 0 ≤ k → k < (i : Int) → w1.1 2 (n + k).toNat = Int32.ofInt (q_le x k)) m.toNat ?_ ?_ ?_
  · exact ⟨w, rfl, fun _ _ _ _ => rfl, by rw [hs]; congr 1; omega, fun _ _ _ => rfl, fun k k0 k1 => absurd k1 (by omega)⟩
  · rintro i s hi ⟨w1, rfl, h1, h2, h3, h4⟩
    right
    refine ⟨(ex_blk 55 3, [.ref 1, .long x, .retAddr 0, .int (Int32.ofInt m), .int (Int32.ofInt ((i : Int) + 1))], [], ex_up (ex_up w1 2 (n + (i : Int)).toNat (Int32.ofInt (q_le x i))) 1 1 (Int32.ofInt (n + i + 1))), ?_, _, rfl, fun a k ha hb => ?_, ?_, fun k k0 k1 => ?_, fun k k0 k1 => ?_⟩
    · conv => lhs; rw [kb_55_3]
      simp (disch := omega) only [h2, m_codeIn, up_n, up_e, ev_iload, ev_aload, ev_lload, rx_istore, ev_iinc, ev_push, ev_iadd, ev_dup_r, ev_dup_i, ev_goto, ev_jsr, rx_ige_t, rx_ige_f, ev_getf, ev_putf, ev_call, nr_i, nr_r, nr_l, nr_n, kS_2, kS_6, kS_7, kS_8, kS_9, kS_10, kS_11, kS_12, kS_13, kS_14, kS_15, kS_16, kS_19, kS_22, kS_24, kS_26, kS_28, kS_31, kS_33, kS_39, kS_40, kS_43, kS_44, kS_45, cg_54, rx_vret, kb_55_0, kb_55_49, kr_55, kf_1_448, kf_1_449, kk_1_449, List.getD_cons_zero, List.getD_cons_succ, List.set_cons_zero, List.set_cons_succ, ex_spl, ex_low, Option.toList, List.cons_append, List.nil_append, reduceIte, Int.reduceToNat, Nat.reduceDiv, Nat.reduceMod, Nat.reduceAdd, Nat.reduceMul, z_0, z_1, z_10, z_01, reduceCtorEq, ite_true, ite_false, true_and, and_true, ↓bI_01, ↓bP_01, ↓zret0, ↓zret1, z_add, z_sub, z_mul, up_2, not_true, not_false_iff, if_true, if_false, Bool.true_and, bI_T, bI_F, bP_T, bP_F, or_true, true_or, or_false, false_or, Int.reduceNeg, Int.reduceAdd, Int.reduceSub, Int.reduceMul, Int.reduceEq, Int.reduceLT, Int.reduceLE, Int.natCast_add, Int.cast_ofNat_Int]
    · rw [up_n (by omega), up_n (by omega)]; exact h1 a k ha hb
    · rw [up_e (by omega)]; congr 1; omega
    · rw [up_n (by omega), up_n (by omega)]; exact h3 k k0 k1
    · rw [up_n (by omega)]
      by_cases hk : k = i
      · rw [hk, up_e (by omega)]
      · rw [up_n (by omega)]; exact h4 k k0 (by omega)
  · rintro s ⟨w1, rfl, h1, h2, h3, h4⟩
    rw [Int.toNat_of_nonneg m0] at h2 h4
    refine ⟨w1, ?_, h1, h2, h3, h4⟩
    rw [kb_55_3]
    simp (disch := omega) only [ev_iload, ev_aload, ev_lload, rx_istore, ev_iinc, ev_push, ev_iadd, ev_dup_r, ev_dup_i, ev_goto, ev_jsr, rx_ige_t, rx_ige_f, ev_getf, ev_putf, ev_call, nr_i, nr_r, nr_l, nr_n, kS_2, kS_6, kS_7, kS_8, kS_9, kS_10, kS_11, kS_12, kS_13, kS_14, kS_15, kS_16, kS_19, kS_22, kS_24, kS_26, kS_28, kS_31, kS_33, kS_39, kS_40, kS_43, kS_44, kS_45, cg_54, rx_vret, kb_55_0, kb_55_49, kr_55, kf_1_448, kf_1_449, kk_1_449, List.getD_cons_zero, List.getD_cons_succ, List.set_cons_zero, List.set_cons_succ, ex_spl, ex_low, Option.toList, List.cons_append, List.nil_append, reduceIte, Int.reduceToNat, Nat.reduceDiv, Nat.reduceMod, Nat.reduceAdd, Nat.reduceMul, z_0, z_1, z_10, z_01, reduceCtorEq, ite_true, ite_false, true_and, and_true, ↓bI_01, ↓bP_01, ↓zret0, ↓zret1, z_add, z_sub, z_mul, up_1, up_2, not_true, not_false_iff, if_true, if_false, Bool.true_and, bI_T, bI_F, bP_T, bP_F, or_true, true_or, or_false, false_or, Int.reduceNeg, Int.reduceAdd, Int.reduceSub, Int.reduceMul, Int.reduceEq, Int.reduceLT, Int.reduceLE, Int.natCast_add, Int.cast_ofNat_Int]
