/-! letters -/
/-- the code of letter i of w -/
def q_lt (w : Int64) (i : Int) : Int32 := (w.toUInt64 >>> ((Int32.ofInt (8 * i)).toInt64.toUInt64 &&& Int64.toUInt64 63)).toInt64.toInt32 &&& Int32.ofInt 255
theorem c_s1 : ∀ n : Nat, n < 8 → (((Int32.ofInt (8 * (n : Int))).toInt64.toUInt64 &&& Int64.toUInt64 63).toBitVec % 64).toNat = 8 * n := by decide +kernel
theorem c_s2 : ∀ n : Nat, n < 8 → (((Int32.ofInt (8 * (n : Int))).toInt64 &&& 63).toBitVec.smod 64).toNat = 8 * n := by decide +kernel
theorem c_255 : ∀ i, i < 32 → bt (Int32.ofInt 255) i = decide (i < 8) := by decide +kernel
theorem c_l255 : ∀ i, i < 64 → (Int64.ofInt 255).toBitVec.getLsbD i = decide (i < 8) := by decide +kernel
theorem c_u {w : Int64} {n : Nat} (hn : n < 8) {j : Nat} (hj : j < 32) : bt ((w.toUInt64 >>> ((Int32.ofInt (8 * (n : Int))).toInt64.toUInt64 &&& Int64.toUInt64 63)).toInt64.toInt32) j = w.toBitVec.getLsbD (8 * n + j) := by
  unfold bt
  rw [Int64.toBitVec_toInt32, BitVec.getLsbD_signExtend, if_pos (by omega)]
  show (decide (j < 32) && (w.toUInt64 >>> ((Int32.ofInt (8 * (n : Int))).toInt64.toUInt64 &&& Int64.toUInt64 63)).toBitVec.getLsbD j) = _
  rw [UInt64.toBitVec_shiftRight]
  show (decide (j < 32) && (w.toBitVec >>> (((Int32.ofInt (8 * (n : Int))).toInt64.toUInt64 &&& Int64.toUInt64 63).toBitVec % 64).toNat).getLsbD j) = _
  rw [c_s1 n hn, BitVec.getLsbD_ushiftRight, decide_eq_true hj, Bool.true_and]
theorem c_a {w : Int64} {n : Nat} (hn : n < 8) {j : Nat} (hj : j < 64) : (w >>> ((Int32.ofInt (8 * (n : Int))).toInt64 &&& 63)).toBitVec.getLsbD j = if 8 * n + j < 64 then w.toBitVec.getLsbD (8 * n + j) else w.toBitVec.getLsbD 63 := by
  rw [Int64.toBitVec_shiftRight]
  show (w.toBitVec.sshiftRight (((Int32.ofInt (8 * (n : Int))).toInt64 &&& 63).toBitVec.smod 64).toNat).getLsbD j = _
  rw [c_s2 n hn, BitVec.getLsbD_sshiftRight, BitVec.msb_eq_getLsbD_last]
  simp [hj]
theorem q_lt_b {w : Int64} {n : Nat} (hn : n < 8) {j : Nat} (hj : j < 32) : bt (q_lt w n) j = (decide (j < 8) && w.toBitVec.getLsbD (8 * n + j)) := by
  unfold q_lt
  rw [b_and, c_u hn hj, c_255 j hj, Bool.and_comm]
/-- as the reference has it -/
theorem q_lt_m {w : Int64} {n : Nat} (hn : n < 8) : ((w >>> ((Int32.ofInt (8 * (n : Int))).toInt64 &&& 63)) &&& Int64.ofInt 255).toInt32 = q_lt w n := by
  refine b_ext fun j hj => ?_
  rw [q_lt_b hn hj]
  unfold bt
  rw [Int64.toBitVec_toInt32, BitVec.getLsbD_signExtend, if_pos (by omega), Int64.toBitVec_and, BitVec.getLsbD_and, c_a hn (by omega), c_l255 j (by omega), decide_eq_true hj, Bool.true_and]
  by_cases h : j < 8
  · rw [if_pos (by omega), Bool.and_comm]
  · rw [decide_eq_false h, Bool.and_false, Bool.false_and]
theorem c_r : ∀ n : Nat, n < 256 → Int32.ofInt ((n : Int) - 128) &&& Int32.ofInt 255 = Int32.ofInt (if 128 ≤ n then (n : Int) - 128 else (n : Int) + 128) := by decide +kernel
theorem c_p : ∀ n : Nat, n < 256 → (Int32.ofInt ((n : Int) - 128)).toInt8.toInt32 = Int32.ofInt ((n : Int) - 128) := by decide +kernel
theorem c_i8 (x : Int32) : ∃ n : Nat, n < 256 ∧ x.toInt8.toInt32 = Int32.ofInt ((n : Int) - 128) := by
  have h1 := Int8.le_toInt x.toInt8
  have h2 := Int8.toInt_lt x.toInt8
  refine ⟨(x.toInt8.toInt + 128).toNat, by omega, ?_⟩
  rw [Int.toNat_of_nonneg (by omega), show x.toInt8.toInt + 128 - 128 = x.toInt8.toInt by omega, ← Int8.toInt_toInt32, Int32.ofInt_toInt]
theorem q_lt_y {w : Int64} {n : Nat} (hn : n < 8) : ((w >>> ((Int32.ofInt (8 * (n : Int))).toInt64 &&& 63)).toInt32.toInt8.toInt32) &&& Int32.ofInt 255 = q_lt w n := by
  refine b_ext fun j hj => ?_
  rw [q_lt_b hn hj, b_and, c_255 j hj]
  by_cases h : j < 8
  · rw [decide_eq_true h, Bool.and_true, Bool.true_and]
    unfold bt
    rw [Int8.toBitVec_toInt32, BitVec.getLsbD_signExtend, if_pos h, Int32.toBitVec_toInt8, BitVec.getLsbD_signExtend, if_pos (by omega), Int64.toBitVec_toInt32, BitVec.getLsbD_signExtend, if_pos (by omega), c_a hn (by omega), if_pos (by omega)]
    simp [h, hj]
  · rw [decide_eq_false h, Bool.and_false, Bool.false_and]
noncomputable def q_le (w : Int64) (i : Int) : Int := (q_lt w i).toInt
theorem q_le_e {w : Int64} {i : Int} : q_lt w i = Int32.ofInt (q_le w i) := (Int32.ofInt_toInt _).symm
theorem q_le_r {w : Int64} {n : Nat} (hn : n < 8) : 0 ≤ q_le w n ∧ q_le w n < 256 := by
  obtain ⟨m, hm, he⟩ := c_i8 ((w >>> ((Int32.ofInt (8 * (n : Int))).toInt64 &&& 63)).toInt32)
  have h := q_lt_y (w := w) hn
  rw [he, c_r m hm] at h
  unfold q_le
  rw [← h]
  by_cases h8 : 128 ≤ m
  · rw [if_pos h8, z_toInt (by omega) (by omega)]; omega
  · rw [if_neg h8, z_toInt (by omega) (by omega)]; omega
theorem q_le_m {w : Int64} {n : Nat} (hn : n < 8) (h : q_le w n < 128) : ((w >>> ((Int32.ofInt (8 * (n : Int))).toInt64 &&& 63)).toInt32.toInt8.toInt32).toInt8.toInt32 = Int32.ofInt (q_le w n) := by
  obtain ⟨m, hm, he⟩ := c_i8 ((w >>> ((Int32.ofInt (8 * (n : Int))).toInt64 &&& 63)).toInt32)
  have h2 := q_lt_y (w := w) hn
  rw [he, c_r m hm] at h2
  rw [he, c_p m hm]
  unfold q_le at *
  rw [← h2] at h ⊢
  by_cases h8 : 128 ≤ m
  · rw [if_pos h8, z_toInt (by omega) (by omega)]
  · rw [if_neg h8, z_toInt (by omega) (by omega)] at h; omega
/-- m letters, and nothing behind them -/
def q_ln (w : Int64) (m n : Int) : Prop := 0 ≤ m ∧ m ≤ n ∧ (∀ k, 0 ≤ k → k < m → 1 ≤ q_le w k ∧ q_le w k ≤ 126) ∧ ∀ k, m ≤ k → k < n → q_le w k = 0
theorem q_ln_u {w : Int64} {m m' n : Int} (h : q_ln w m n) (h' : q_ln w m' n) : m = m' := by
  obtain ⟨a, b, c, d⟩ := h
  obtain ⟨a', b', c', d'⟩ := h'
  by_cases h1 : m < m'
  · have := c' m a h1; have := d m (Int.le_refl _) (by omega); omega
  · by_cases h2 : m' < m
    · have := c m' a' h2; have := d' m' (Int.le_refl _) (by omega); omega
    · omega
theorem q_ln_go {w : Int64} {m : Int} {i : Int} (h : q_ln w m i) (h1 : q_le w i = 0) : q_ln w m (i + 1) := by
  obtain ⟨a, b, c, d⟩ := h
  refine ⟨a, by omega, c, fun k k0 k1 => ?_⟩
  by_cases hk : k = i
  · rw [hk]; exact h1
  · exact d k k0 (by omega)
theorem q_ln_more {w : Int64} {i : Int} (h : q_ln w i i) (h1 : 1 ≤ q_le w i) (h2 : q_le w i ≤ 126) : q_ln w (i + 1) (i + 1) := by
  obtain ⟨a, b, c, d⟩ := h
  refine ⟨by omega, by omega, fun k k0 k1 => ?_, fun k k0 k1 => by omega⟩
  by_cases hk : k = i
  · rw [hk]; exact ⟨h1, h2⟩
  · exact c k k0 (by omega)
/-- a letter that ends it -/
theorem q_ln_no {w : Int64} {m m' i : Int} (h : q_ln w m i) (i8 : i < 8) (hb : 126 < q_le w i ∨ (m < i ∧ ¬ q_le w i = 0)) (h' : q_ln w m' 8) : False := by
  obtain ⟨a, b, c, d⟩ := h
  obtain ⟨a', b', c', d'⟩ := h'
  by_cases h1 : i < m'
  · have := c' i (by omega) h1
    rcases hb with hb | hb
    · omega
    · have := d m (Int.le_refl _) hb.1
      have := c' m a (by omega); omega
  · have := d' i (by omega) i8; omega
theorem m_codeIn {d : Nat} {w : PW} {x : Int64} {i : Int} (i0 : 0 ≤ i) (i1 : i < 8) : ex_cal (d + 1) 85 [.long x, .int (Int32.ofInt i)] w = some (some (.int (Int32.ofInt (q_le x i))), w) := by
  have e : (x.toUInt64 >>> ((Int32.ofInt (8 * i)).toInt64.toUInt64 &&& Int64.toUInt64 63)).toInt64.toInt32 &&& Int32.ofInt 255 = Int32.ofInt (q_le x i) := q_le_e
  rw [ke_85]
  simp (disch := omega) only [e, ev_iload, ev_lload, ev_push, ev_imul, ev_iand, ev_lushr, ev_l2i, nr_i, nr_r, nr_l, nr_n, rx_iret, kb_85_0, kr_85, List.getD_cons_zero, List.getD_cons_succ, List.set_cons_zero, List.set_cons_succ, ex_spl, ex_low, Option.toList, List.cons_append, List.nil_append, reduceIte, Int.reduceToNat, Nat.reduceDiv, Nat.reduceMod, Nat.reduceAdd, Nat.reduceMul, z_0, z_1, z_10, z_01, reduceCtorEq, ite_true, ite_false, true_and, and_true, ↓bI_01, ↓bP_01, ↓zret0, ↓zret1, z_add, z_sub, z_mul, up_1, up_2, not_true, not_false_iff, if_true, if_false, bI_T, bI_F, bP_T, bP_F, or_true, true_or, or_false, false_or, Int.reduceNeg, Int.reduceAdd, Int.reduceSub, Int.reduceMul, Int.reduceEq, Int.reduceLT, Int.reduceLE, Int.natCast_add, Int.cast_ofNat_Int]
theorem m_lettersIn {d : Nat} {w : PW} {x : Int64} {r : Int} (hr : (∃ m, q_ln x m 8 ∧ r = m) ∨ ((¬ ∃ m, q_ln x m 8) ∧ r = -1)) : ex_cal (d + 2) 84 [.long x] w = some (some (.int (Int32.ofInt r)), w) := by
  rw [ke_84]
  simp (disch := omega) only [ev_iload, ev_lload, rx_istore, ev_iinc, ev_push, ev_goto, ev_jsr, rx_ige_t, rx_ige_f, rx_igt_t, rx_igt_f, rx_zeq_t, rx_zeq_f, rx_zne_t, rx_zne_f, ev_call, nr_i, nr_r, nr_l, nr_n, rx_iret, kb_84_0, kb_84_38, kb_84_40, kb_84_50, kb_84_53, kb_84_59, kr_84, List.getD_cons_zero, List.getD_cons_succ, List.set_cons_zero, List.set_cons_succ, ex_spl, ex_low, Option.toList, List.cons_append, List.nil_append, reduceIte, Int.reduceToNat, Nat.reduceDiv, Nat.reduceMod, Nat.reduceAdd, Nat.reduceMul, z_0, z_1, z_10, z_01, reduceCtorEq, ite_true, ite_false, true_and, and_true, ↓bI_01, ↓bP_01, ↓zret0, ↓zret1, z_add, z_sub, z_mul, up_1, up_2, not_true, not_false_iff, if_true, if_false, bI_T, bI_F, bP_T, bP_F, or_true, true_or, or_false, false_or, Int.reduceNeg, Int.reduceAdd, Int.reduceSub, Int.reduceMul, Int.reduceEq, Int.reduceLT, Int.reduceLE, Int.natCast_add, Int.cast_ofNat_Int]
  refine ex_loop (Q := fun q => q = some (some (.int (Int32.ofInt r)), w)) (fun i s => ∃ m v5, s = (ex_blk 84 7, [.long x, .retAddr 0, .int (Int32.ofInt m), .int (Int32.ofInt (if m < (i : Int) then 1 else 0)), .int (Int32.ofInt (i : Int)), v5], [], w) ∧ xv v5 ∧ q_ln x m i) 8 ?_ ?_ ?_
  · exact ⟨0, .null, rfl, xv_n, ⟨Int.le_refl _, Int.le_refl _, fun k k0 k1 => absurd k1 (by omega), fun k k0 k1 => absurd k1 (by omega)⟩⟩
  · rintro i s hi ⟨m, v5, rfl, x5, hm⟩
    have hc := q_le_r (w := x) hi
    have hm0 := hm.1
    have hm1 := hm.2.1
    have bad : (126 < q_le x i ∨ (m < (i : Int) ∧ ¬ q_le x i = 0)) → r = -1 := by
      intro hb
      rcases hr with ⟨m', h1, h2⟩ | ⟨h1, h2⟩
      · exact (q_ln_no hm (by omega) hb h1).elim
      · exact h2
    by_cases h1 : 126 < q_le x i
    · left
      rw [bad (Or.inl h1), kb_84_7]
      simp (disch := omega) only [m_codeIn, x5, ev_iload, ev_lload, rx_istore, ev_iinc, ev_push, ev_goto, ev_jsr, rx_ige_t, rx_ige_f, rx_igt_t, rx_igt_f, rx_zeq_t, rx_zeq_f, rx_zne_t, rx_zne_f, ev_call, nr_i, nr_r, nr_l, nr_n, rx_iret, kb_84_0, kb_84_38, kb_84_40, kb_84_50, kb_84_53, kb_84_59, kr_84, List.getD_cons_zero, List.getD_cons_succ, List.set_cons_zero, List.set_cons_succ, ex_spl, ex_low, Option.toList, List.cons_append, List.nil_append, reduceIte, Int.reduceToNat, Nat.reduceDiv, Nat.reduceMod, Nat.reduceAdd, Nat.reduceMul, z_0, z_1, z_10, z_01, reduceCtorEq, ite_true, ite_false, true_and, and_true, ↓bI_01, ↓bP_01, ↓zret0, ↓zret1, z_add, z_sub, z_mul, up_1, up_2, not_true, not_false_iff, if_true, if_false, bI_T, bI_F, bP_T, bP_F, or_true, true_or, or_false, false_or, Int.reduceNeg, Int.reduceAdd, Int.reduceSub, Int.reduceMul, Int.reduceEq, Int.reduceLT, Int.reduceLE, Int.natCast_add, Int.cast_ofNat_Int]
    · by_cases h2 : m < (i : Int)
      · by_cases h3 : q_le x i = 0
        · right
          refine ⟨(ex_blk 84 7, [.long x, .retAddr 0, .int (Int32.ofInt m), .int (Int32.ofInt 1), .int (Int32.ofInt ((i : Int) + 1)), .int (Int32.ofInt (q_le x i))], [], w), ?_, m, _, by rw [if_pos (by omega)]; rfl, xv_i _, q_ln_go hm h3⟩
          conv => lhs; rw [kb_84_7]
          rw [if_pos h2]
          simp (disch := omega) only [m_codeIn, x5, ev_iload, ev_lload, rx_istore, ev_iinc, ev_push, ev_goto, ev_jsr, rx_ige_t, rx_ige_f, rx_igt_t, rx_igt_f, rx_zeq_t, rx_zeq_f, rx_zne_t, rx_zne_f, ev_call, nr_i, nr_r, nr_l, nr_n, rx_iret, kb_84_0, kb_84_38, kb_84_40, kb_84_50, kb_84_53, kb_84_59, kr_84, List.getD_cons_zero, List.getD_cons_succ, List.set_cons_zero, List.set_cons_succ, ex_spl, ex_low, Option.toList, List.cons_append, List.nil_append, reduceIte, Int.reduceToNat, Nat.reduceDiv, Nat.reduceMod, Nat.reduceAdd, Nat.reduceMul, z_0, z_1, z_10, z_01, reduceCtorEq, ite_true, ite_false, true_and, and_true, ↓bI_01, ↓bP_01, ↓zret0, ↓zret1, z_add, z_sub, z_mul, up_1, up_2, not_true, not_false_iff, if_true, if_false, bI_T, bI_F, bP_T, bP_F, or_true, true_or, or_false, false_or, Int.reduceNeg, Int.reduceAdd, Int.reduceSub, Int.reduceMul, Int.reduceEq, Int.reduceLT, Int.reduceLE, Int.natCast_add, Int.cast_ofNat_Int]
        · left
          rw [bad (Or.inr ⟨h2, h3⟩), kb_84_7, if_pos h2]
          simp (disch := omega) only [m_codeIn, x5, ev_iload, ev_lload, rx_istore, ev_iinc, ev_push, ev_goto, ev_jsr, rx_ige_t, rx_ige_f, rx_igt_t, rx_igt_f, rx_zeq_t, rx_zeq_f, rx_zne_t, rx_zne_f, ev_call, nr_i, nr_r, nr_l, nr_n, rx_iret, kb_84_0, kb_84_38, kb_84_40, kb_84_50, kb_84_53, kb_84_59, kr_84, List.getD_cons_zero, List.getD_cons_succ, List.set_cons_zero, List.set_cons_succ, ex_spl, ex_low, Option.toList, List.cons_append, List.nil_append, reduceIte, Int.reduceToNat, Nat.reduceDiv, Nat.reduceMod, Nat.reduceAdd, Nat.reduceMul, z_0, z_1, z_10, z_01, reduceCtorEq, ite_true, ite_false, true_and, and_true, ↓bI_01, ↓bP_01, ↓zret0, ↓zret1, z_add, z_sub, z_mul, up_1, up_2, not_true, not_false_iff, if_true, if_false, bI_T, bI_F, bP_T, bP_F, or_true, true_or, or_false, false_or, Int.reduceNeg, Int.reduceAdd, Int.reduceSub, Int.reduceMul, Int.reduceEq, Int.reduceLT, Int.reduceLE, Int.natCast_add, Int.cast_ofNat_Int]
      · right
        have hmi : m = i := by omega
        subst hmi
        by_cases h3 : q_le x i = 0
        · refine ⟨(ex_blk 84 7, [.long x, .retAddr 0, .int (Int32.ofInt (i : Int)), .int (Int32.ofInt 1), .int (Int32.ofInt ((i : Int) + 1)), .int (Int32.ofInt (q_le x i))], [], w), ?_, i, _, by rw [if_pos (by omega)]; rfl, xv_i _, q_ln_go hm h3⟩
          conv => lhs; rw [kb_84_7]
          rw [if_neg h2]
          simp (disch := omega) only [m_codeIn, x5, ev_iload, ev_lload, rx_istore, ev_iinc, ev_push, ev_goto, ev_jsr, rx_ige_t, rx_ige_f, rx_igt_t, rx_igt_f, rx_zeq_t, rx_zeq_f, rx_zne_t, rx_zne_f, ev_call, nr_i, nr_r, nr_l, nr_n, rx_iret, kb_84_0, kb_84_38, kb_84_40, kb_84_50, kb_84_53, kb_84_59, kr_84, List.getD_cons_zero, List.getD_cons_succ, List.set_cons_zero, List.set_cons_succ, ex_spl, ex_low, Option.toList, List.cons_append, List.nil_append, reduceIte, Int.reduceToNat, Nat.reduceDiv, Nat.reduceMod, Nat.reduceAdd, Nat.reduceMul, z_0, z_1, z_10, z_01, reduceCtorEq, ite_true, ite_false, true_and, and_true, ↓bI_01, ↓bP_01, ↓zret0, ↓zret1, z_add, z_sub, z_mul, up_1, up_2, not_true, not_false_iff, if_true, if_false, bI_T, bI_F, bP_T, bP_F, or_true, true_or, or_false, false_or, Int.reduceNeg, Int.reduceAdd, Int.reduceSub, Int.reduceMul, Int.reduceEq, Int.reduceLT, Int.reduceLE, Int.natCast_add, Int.cast_ofNat_Int]
        · refine ⟨(ex_blk 84 7, [.long x, .retAddr 0, .int (Int32.ofInt ((i : Int) + 1)), .int (Int32.ofInt 0), .int (Int32.ofInt ((i : Int) + 1)), .int (Int32.ofInt (q_le x i))], [], w), ?_, (i : Int) + 1, _, by rw [if_neg (by omega)]; rfl, xv_i _, q_ln_more hm (by omega) (by omega)⟩
          conv => lhs; rw [kb_84_7]
          rw [if_neg h2]
          simp (disch := omega) only [m_codeIn, x5, ev_iload, ev_lload, rx_istore, ev_iinc, ev_push, ev_goto, ev_jsr, rx_ige_t, rx_ige_f, rx_igt_t, rx_igt_f, rx_zeq_t, rx_zeq_f, rx_zne_t, rx_zne_f, ev_call, nr_i, nr_r, nr_l, nr_n, rx_iret, kb_84_0, kb_84_38, kb_84_40, kb_84_50, kb_84_53, kb_84_59, kr_84, List.getD_cons_zero, List.getD_cons_succ, List.set_cons_zero, List.set_cons_succ, ex_spl, ex_low, Option.toList, List.cons_append, List.nil_append, reduceIte, Int.reduceToNat, Nat.reduceDiv, Nat.reduceMod, Nat.reduceAdd, Nat.reduceMul, z_0, z_1, z_10, z_01, reduceCtorEq, ite_true, ite_false, true_and, and_true, ↓bI_01, ↓bP_01, ↓zret0, ↓zret1, z_add, z_sub, z_mul, up_1, up_2, not_true, not_false_iff, if_true, if_false, bI_T, bI_F, bP_T, bP_F, or_true, true_or, or_false, false_or, Int.reduceNeg, Int.reduceAdd, Int.reduceSub, Int.reduceMul, Int.reduceEq, Int.reduceLT, Int.reduceLE, Int.natCast_add, Int.cast_ofNat_Int]
  · rintro s ⟨m, v5, rfl, x5, hm⟩
    rcases hr with ⟨m', h1, h2⟩ | ⟨h1, h2⟩
    · rw [h2, q_ln_u h1 hm, kb_84_7]
      simp (disch := omega) only [ev_iload, ev_lload, rx_istore, ev_iinc, ev_push, ev_goto, ev_jsr, rx_ige_t, rx_ige_f, rx_igt_t, rx_igt_f, rx_zeq_t, rx_zeq_f, rx_zne_t, rx_zne_f, ev_call, nr_i, nr_r, nr_l, nr_n, rx_iret, kb_84_0, kb_84_38, kb_84_40, kb_84_50, kb_84_53, kb_84_59, kr_84, List.getD_cons_zero, List.getD_cons_succ, List.set_cons_zero, List.set_cons_succ, ex_spl, ex_low, Option.toList, List.cons_append, List.nil_append, reduceIte, Int.reduceToNat, Nat.reduceDiv, Nat.reduceMod, Nat.reduceAdd, Nat.reduceMul, z_0, z_1, z_10, z_01, reduceCtorEq, ite_true, ite_false, true_and, and_true, ↓bI_01, ↓bP_01, ↓zret0, ↓zret1, z_add, z_sub, z_mul, up_1, up_2, not_true, not_false_iff, if_true, if_false, bI_T, bI_F, bP_T, bP_F, or_true, true_or, or_false, false_or, Int.reduceNeg, Int.reduceAdd, Int.reduceSub, Int.reduceMul, Int.reduceEq, Int.reduceLT, Int.reduceLE, Int.natCast_add, Int.cast_ofNat_Int]
    · exact (h1 ⟨m, hm⟩).elim
noncomputable def q_pg (A : AS) (x : Int64) (m : Int) : AS := fun a b => if a = 0 ∧ b = 8 then A 0 8 + m else if a = 8 ∧ A 0 8 ≤ b ∧ b < A 0 8 + m then q_le x (b - A 0 8) else A a b
theorem q_pg_n {A : AS} {x : Int64} {m : Int} : q_pg A x m 0 8 = A 0 8 + m := if_pos ⟨rfl, rfl⟩
theorem q_pg_o {A : AS} {x : Int64} {m k : Int} (h : k < A 0 8) : q_pg A x m 8 k = A 8 k := by
  unfold q_pg; rw [if_neg (by omega), if_neg (by omega)]
theorem q_pg_e {A : AS} {x : Int64} {m k : Int} (h : A 0 8 ≤ k) (h2 : k < A 0 8 + m) : q_pg A x m 8 k = q_le x (k - A 0 8) := by
  unfold q_pg; rw [if_neg (by omega), if_pos ⟨rfl, h, h2⟩]
theorem m_append {d : Nat} {w : PW} {x : Int64} {m n : Int} (m0 : 0 ≤ m) (m1 : m ≤ 8) (n0 : 0 ≤ n) (n1 : n + m ≤ 40) (hs : w.1 1 1 = Int32.ofInt n) : ∃ w', ex_cal (d + 2) 86 [.ref 1, .long x, .int (Int32.ofInt m)] w = some (none, w') ∧ (∀ a k, ¬ (a = 1 ∧ k = 1) → ¬ a = 2 → w'.1 a k = w.1 a k) ∧ w'.1 1 1 = Int32.ofInt (n + m) ∧ (∀ k : Int, 0 ≤ k → k < n → w'.1 2 k.toNat = w.1 2 k.toNat) ∧ ∀ k : Int, 0 ≤ k → k < m → w'.1 2 (n + k).toNat = Int32.ofInt (q_le x k) := by
  rw [ke_86 kc_1]
  simp (disch := omega) only [ev_iload, ev_aload, ev_lload, rx_istore, ev_iinc, ev_push, ev_iadd, ev_dup_r, ev_dup_i, ev_goto, ev_jsr, rx_ige_t, rx_ige_f, ev_getf, ev_putf, ev_putl, ev_call, nr_i, nr_r, nr_l, nr_n, kS_2, kS_6, kS_7, kS_8, kS_9, kS_10, kS_11, kS_12, kS_13, kS_14, kS_15, kS_16, kS_19, kS_22, kS_24, kS_26, kS_28, kS_31, kS_33, kS_35, kS_37, kS_39, kS_40, kS_42, kS_43, kS_44, kS_45, rx_vret, kb_86_0, kb_86_49, kr_86, kf_1_448, kf_1_449, kk_1_449, List.getD_cons_zero, List.getD_cons_succ, List.set_cons_zero, List.set_cons_succ, ex_spl, ex_low, Option.toList, List.cons_append, List.nil_append, reduceIte, Int.reduceToNat, Nat.reduceDiv, Nat.reduceMod, Nat.reduceAdd, Nat.reduceMul, z_0, z_1, z_10, z_01, reduceCtorEq, ite_true, ite_false, true_and, and_true, ↓bI_01, ↓bP_01, ↓zret0, ↓zret1, z_add, z_sub, z_mul, up_1, up_2, not_true, not_false_iff, if_true, if_false, bI_T, bI_F, bP_T, bP_F, or_true, true_or, or_false, false_or, Int.reduceNeg, Int.reduceAdd, Int.reduceSub, Int.reduceMul, Int.reduceEq, Int.reduceLT, Int.reduceLE, Int.natCast_add, Int.cast_ofNat_Int]
  refine ex_loop (Q := fun q => ∃ w', q = some (none, w') ∧ (∀ a k, ¬ (a = 1 ∧ k = 1) → ¬ a = 2 → w'.1 a k = w.1 a k) ∧ w'.1 1 1 = Int32.ofInt (n + m) ∧ (∀ k : Int, 0 ≤ k → k < n → w'.1 2 k.toNat = w.1 2 k.toNat) ∧ ∀ k : Int, 0 ≤ k → k < m → w'.1 2 (n + k).toNat = Int32.ofInt (q_le x k)) (fun i s => ∃ w1, s = (ex_blk 86 3, [.ref 1, .long x, .retAddr 0, .int (Int32.ofInt m), .int (Int32.ofInt (i : Int))], [], w1) ∧ (∀ a k, ¬ (a = 1 ∧ k = 1) → ¬ a = 2 → w1.1 a k = w.1 a k) ∧ w1.1 1 1 = Int32.ofInt (n + i) ∧ (∀ k : Int, 0 ≤ k → k < n → w1.1 2 k.toNat = w.1 2 k.toNat) ∧ ∀ k : Int, 0 ≤ k → k < (i : Int) → w1.1 2 (n + k).toNat = Int32.ofInt (q_le x k)) m.toNat ?_ ?_ ?_
  · exact ⟨w, rfl, fun _ _ _ _ => rfl, by rw [hs]; congr 1; omega, fun _ _ _ => rfl, fun k k0 k1 => absurd k1 (by omega)⟩
  · rintro i s hi ⟨w1, rfl, h1, h2, h3, h4⟩
    right
    refine ⟨(ex_blk 86 3, [.ref 1, .long x, .retAddr 0, .int (Int32.ofInt m), .int (Int32.ofInt ((i : Int) + 1))], [], ex_up (ex_up w1 2 (n + (i : Int)).toNat (Int32.ofInt (q_le x i))) 1 1 (Int32.ofInt (n + i + 1))), ?_, _, rfl, fun a k ha hb => ?_, ?_, fun k k0 k1 => ?_, fun k k0 k1 => ?_⟩
    · conv => lhs; rw [kb_86_3]
      simp (disch := omega) only [h2, m_codeIn, up_n, up_e, ev_iload, ev_aload, ev_lload, rx_istore, ev_iinc, ev_push, ev_iadd, ev_dup_r, ev_dup_i, ev_goto, ev_jsr, rx_ige_t, rx_ige_f, ev_getf, ev_putf, ev_putl, ev_call, nr_i, nr_r, nr_l, nr_n, kS_2, kS_6, kS_7, kS_8, kS_9, kS_10, kS_11, kS_12, kS_13, kS_14, kS_15, kS_16, kS_19, kS_22, kS_24, kS_26, kS_28, kS_31, kS_33, kS_35, kS_37, kS_39, kS_40, kS_42, kS_43, kS_44, kS_45, rx_vret, kb_86_0, kb_86_49, kr_86, kf_1_448, kf_1_449, kk_1_449, List.getD_cons_zero, List.getD_cons_succ, List.set_cons_zero, List.set_cons_succ, ex_spl, ex_low, Option.toList, List.cons_append, List.nil_append, reduceIte, Int.reduceToNat, Nat.reduceDiv, Nat.reduceMod, Nat.reduceAdd, Nat.reduceMul, z_0, z_1, z_10, z_01, reduceCtorEq, ite_true, ite_false, true_and, and_true, ↓bI_01, ↓bP_01, ↓zret0, ↓zret1, z_add, z_sub, z_mul, up_2, not_true, not_false_iff, if_true, if_false, bI_T, bI_F, bP_T, bP_F, or_true, true_or, or_false, false_or, Int.reduceNeg, Int.reduceAdd, Int.reduceSub, Int.reduceMul, Int.reduceEq, Int.reduceLT, Int.reduceLE, Int.natCast_add, Int.cast_ofNat_Int]
    · rw [up_n (by omega), up_n (by omega)]; exact h1 a k ha hb
    · rw [up_e (by omega)]; congr 1; omega
    · rw [up_n (by omega), up_n (by omega)]; exact h3 k k0 k1
    · rw [up_n (by omega)]
      by_cases hk : k = i
      · rw [hk, up_e (by omega)]
      · rw [up_n (by omega)]; exact h4 k k0 (by omega)
  · rintro s ⟨w1, rfl, h1, h2, h3, h4⟩
    rw [Int.toNat_of_nonneg m0] at h2 h4
    refine ⟨w1, ?_, h1, h2, h3, h4⟩
    rw [kb_86_3]
    simp (disch := omega) only [ev_iload, ev_aload, ev_lload, rx_istore, ev_iinc, ev_push, ev_iadd, ev_dup_r, ev_dup_i, ev_goto, ev_jsr, rx_ige_t, rx_ige_f, ev_getf, ev_putf, ev_putl, ev_call, nr_i, nr_r, nr_l, nr_n, kS_2, kS_6, kS_7, kS_8, kS_9, kS_10, kS_11, kS_12, kS_13, kS_14, kS_15, kS_16, kS_19, kS_22, kS_24, kS_26, kS_28, kS_31, kS_33, kS_35, kS_37, kS_39, kS_40, kS_42, kS_43, kS_44, kS_45, rx_vret, kb_86_0, kb_86_49, kr_86, kf_1_448, kf_1_449, kk_1_449, List.getD_cons_zero, List.getD_cons_succ, List.set_cons_zero, List.set_cons_succ, ex_spl, ex_low, Option.toList, List.cons_append, List.nil_append, reduceIte, Int.reduceToNat, Nat.reduceDiv, Nat.reduceMod, Nat.reduceAdd, Nat.reduceMul, z_0, z_1, z_10, z_01, reduceCtorEq, ite_true, ite_false, true_and, and_true, ↓bI_01, ↓bP_01, ↓zret0, ↓zret1, z_add, z_sub, z_mul, up_1, up_2, not_true, not_false_iff, if_true, if_false, bI_T, bI_F, bP_T, bP_F, or_true, true_or, or_false, false_or, Int.reduceNeg, Int.reduceAdd, Int.reduceSub, Int.reduceMul, Int.reduceEq, Int.reduceLT, Int.reduceLE, Int.natCast_add, Int.cast_ofNat_Int]
theorem r_letters {d : Nat} {A : AS} {w : PW} (hV : q_v0 A) (hM : rN A 0 w) {x : Int64} {r : Int} (hr : ((¬ ∃ m, q_ln x m 8) ∧ r = -102) ∨ ∃ m, q_ln x m 8 ∧ 40 < A 0 8 + m ∧ r = -104) : ex_cal (d + 1) 149 [.ref 46, .long x] w = some (some (.int (Int32.ofInt r)), w) := by
  have hrr := q_rng hV
  have g24 := hM.1.2.2.2.2.2.2.2.2.2.1
  rw [ke_149 kc_46]
  simp (disch := omega) only [ev_iload, ev_aload, ev_lload, rx_istore, ev_iinc, ev_push, ev_lpush, ev_iadd, ev_imul, ev_land, ev_lshr, ev_l2i, ev_i2b, ev_dup_r, ev_dup_i, ev_goto, ev_jsr, rx_ige_t, rx_ige_f, rx_igt_t, rx_igt_f, rx_ile_t, rx_ile_f, rx_zeq_t, rx_zeq_f, rx_zne_t, rx_zne_f, ev_getf, ev_putf, ev_putl, nr_i, nr_r, nr_l, nr_n, kD_62, rx_iret, kb_149_0, kb_149_46, kb_149_49, kb_149_59, kb_149_63, kb_149_64, kb_149_76, kb_149_77, kb_149_85, kb_149_99, kb_149_135, kr_149, kf_46_728, kf_46_729, kk_46_728, List.getD_cons_zero, List.getD_cons_succ, List.set_cons_zero, List.set_cons_succ, ex_spl, ex_low, Option.toList, List.cons_append, List.nil_append, reduceIte, Int.reduceToNat, Nat.reduceDiv, Nat.reduceMod, Nat.reduceAdd, Nat.reduceMul, z_0, z_1, z_10, z_01, reduceCtorEq, ite_true, ite_false, true_and, and_true, ↓bI_01, ↓bP_01, ↓zret0, ↓zret1, z_add, z_sub, z_mul, up_1, up_2, not_true, not_false_iff, if_true, if_false, bI_T, bI_F, bP_T, bP_F, or_true, true_or, or_false, false_or, Int.reduceNeg, Int.reduceAdd, Int.reduceSub, Int.reduceMul, Int.reduceEq, Int.reduceLT, Int.reduceLE, Int.natCast_add, Int.cast_ofNat_Int]
  refine ex_loop (Q := fun q => q = some (some (.int (Int32.ofInt r)), w)) (fun i s => ∃ m v6, s = (ex_blk 149 8, [.ref 46, .long x, .retAddr 0, .int (Int32.ofInt m), .int (Int32.ofInt (if m < (i : Int) then 1 else 0)), .int (Int32.ofInt (i : Int)), v6], [], w) ∧ xv v6 ∧ q_ln x m i) 8 ?_ ?_ ?_
  · exact ⟨0, .null, rfl, xv_n, ⟨Int.le_refl _, Int.le_refl _, fun k k0 k1 => absurd k1 (by omega), fun k k0 k1 => absurd k1 (by omega)⟩⟩
  · rintro i s hi ⟨m, v6, rfl, x6, hm⟩
    have hc := q_le_r (w := x) hi
    have hm0 := hm.1
    have hm1 := hm.2.1
    have el := (q_lt_m (w := x) hi).trans q_le_e
    have bad : (126 < q_le x i ∨ (m < (i : Int) ∧ ¬ q_le x i = 0)) → r = -102 := by
      intro hb
      rcases hr with ⟨h1, h2⟩ | ⟨m', h1, h2⟩
      · exact h2
      · exact (q_ln_no hm (by omega) hb h1).elim
    by_cases h1 : 126 < q_le x i
    · left
      rw [bad (Or.inl h1), kb_149_8]
      simp (disch := omega) only [el, x6, ev_iload, ev_aload, ev_lload, rx_istore, ev_iinc, ev_push, ev_lpush, ev_iadd, ev_imul, ev_land, ev_lshr, ev_l2i, ev_i2b, ev_dup_r, ev_dup_i, ev_goto, ev_jsr, rx_ige_t, rx_ige_f, rx_igt_t, rx_igt_f, rx_ile_t, rx_ile_f, rx_zeq_t, rx_zeq_f, rx_zne_t, rx_zne_f, ev_getf, ev_putf, ev_putl, nr_i, nr_r, nr_l, nr_n, kD_62, rx_iret, kb_149_0, kb_149_46, kb_149_49, kb_149_59, kb_149_63, kb_149_64, kb_149_76, kb_149_77, kb_149_85, kb_149_99, kb_149_135, kr_149, kf_46_728, kf_46_729, kk_46_728, List.getD_cons_zero, List.getD_cons_succ, List.set_cons_zero, List.set_cons_succ, ex_spl, ex_low, Option.toList, List.cons_append, List.nil_append, reduceIte, Int.reduceToNat, Nat.reduceDiv, Nat.reduceMod, Nat.reduceAdd, Nat.reduceMul, z_0, z_1, z_10, z_01, reduceCtorEq, ite_true, ite_false, true_and, and_true, ↓bI_01, ↓bP_01, ↓zret0, ↓zret1, z_add, z_sub, z_mul, up_1, up_2, not_true, not_false_iff, if_true, if_false, bI_T, bI_F, bP_T, bP_F, or_true, true_or, or_false, false_or, Int.reduceNeg, Int.reduceAdd, Int.reduceSub, Int.reduceMul, Int.reduceEq, Int.reduceLT, Int.reduceLE, Int.natCast_add, Int.cast_ofNat_Int]
    · by_cases h2 : m < (i : Int)
      · by_cases h3 : q_le x i = 0
        · right
          refine ⟨(ex_blk 149 8, [.ref 46, .long x, .retAddr 0, .int (Int32.ofInt m), .int (Int32.ofInt 1), .int (Int32.ofInt ((i : Int) + 1)), .int (Int32.ofInt (q_le x i))], [], w), ?_, m, _, by rw [if_pos (by omega)]; rfl, xv_i _, q_ln_go hm h3⟩
          conv => lhs; rw [kb_149_8]
          rw [if_pos h2]
          simp (disch := omega) only [el, x6, Int.add_zero, ev_iload, ev_aload, ev_lload, rx_istore, ev_iinc, ev_push, ev_lpush, ev_iadd, ev_imul, ev_land, ev_lshr, ev_l2i, ev_i2b, ev_dup_r, ev_dup_i, ev_goto, ev_jsr, rx_ige_t, rx_ige_f, rx_igt_t, rx_igt_f, rx_ile_t, rx_ile_f, rx_zeq_t, rx_zeq_f, rx_zne_t, rx_zne_f, ev_getf, ev_putf, ev_putl, nr_i, nr_r, nr_l, nr_n, kD_62, rx_iret, kb_149_0, kb_149_46, kb_149_49, kb_149_59, kb_149_63, kb_149_64, kb_149_76, kb_149_77, kb_149_85, kb_149_99, kb_149_135, kr_149, kf_46_728, kf_46_729, kk_46_728, List.getD_cons_zero, List.getD_cons_succ, List.set_cons_zero, List.set_cons_succ, ex_spl, ex_low, Option.toList, List.cons_append, List.nil_append, reduceIte, Int.reduceToNat, Nat.reduceDiv, Nat.reduceMod, Nat.reduceAdd, Nat.reduceMul, z_0, z_1, z_10, z_01, reduceCtorEq, ite_true, ite_false, true_and, and_true, ↓bI_01, ↓bP_01, ↓zret0, ↓zret1, z_add, z_sub, z_mul, up_1, up_2, not_true, not_false_iff, if_true, if_false, bI_T, bI_F, bP_T, bP_F, or_true, true_or, or_false, false_or, Int.reduceNeg, Int.reduceAdd, Int.reduceSub, Int.reduceMul, Int.reduceEq, Int.reduceLT, Int.reduceLE, Int.natCast_add, Int.cast_ofNat_Int]
        · left
          rw [bad (Or.inr ⟨h2, h3⟩), kb_149_8, if_pos h2]
          simp (disch := omega) only [el, x6, ev_iload, ev_aload, ev_lload, rx_istore, ev_iinc, ev_push, ev_lpush, ev_iadd, ev_imul, ev_land, ev_lshr, ev_l2i, ev_i2b, ev_dup_r, ev_dup_i, ev_goto, ev_jsr, rx_ige_t, rx_ige_f, rx_igt_t, rx_igt_f, rx_ile_t, rx_ile_f, rx_zeq_t, rx_zeq_f, rx_zne_t, rx_zne_f, ev_getf, ev_putf, ev_putl, nr_i, nr_r, nr_l, nr_n, kD_62, rx_iret, kb_149_0, kb_149_46, kb_149_49, kb_149_59, kb_149_63, kb_149_64, kb_149_76, kb_149_77, kb_149_85, kb_149_99, kb_149_135, kr_149, kf_46_728, kf_46_729, kk_46_728, List.getD_cons_zero, List.getD_cons_succ, List.set_cons_zero, List.set_cons_succ, ex_spl, ex_low, Option.toList, List.cons_append, List.nil_append, reduceIte, Int.reduceToNat, Nat.reduceDiv, Nat.reduceMod, Nat.reduceAdd, Nat.reduceMul, z_0, z_1, z_10, z_01, reduceCtorEq, ite_true, ite_false, true_and, and_true, ↓bI_01, ↓bP_01, ↓zret0, ↓zret1, z_add, z_sub, z_mul, up_1, up_2, not_true, not_false_iff, if_true, if_false, bI_T, bI_F, bP_T, bP_F, or_true, true_or, or_false, false_or, Int.reduceNeg, Int.reduceAdd, Int.reduceSub, Int.reduceMul, Int.reduceEq, Int.reduceLT, Int.reduceLE, Int.natCast_add, Int.cast_ofNat_Int]
      · right
        have hmi : m = i := by omega
        subst hmi
        by_cases h3 : q_le x i = 0
        · refine ⟨(ex_blk 149 8, [.ref 46, .long x, .retAddr 0, .int (Int32.ofInt (i : Int)), .int (Int32.ofInt 1), .int (Int32.ofInt ((i : Int) + 1)), .int (Int32.ofInt (q_le x i))], [], w), ?_, i, _, by rw [if_pos (by omega)]; rfl, xv_i _, q_ln_go hm h3⟩
          conv => lhs; rw [kb_149_8]
          rw [if_neg h2]
          simp (disch := omega) only [el, x6, Int.add_zero, ev_iload, ev_aload, ev_lload, rx_istore, ev_iinc, ev_push, ev_lpush, ev_iadd, ev_imul, ev_land, ev_lshr, ev_l2i, ev_i2b, ev_dup_r, ev_dup_i, ev_goto, ev_jsr, rx_ige_t, rx_ige_f, rx_igt_t, rx_igt_f, rx_ile_t, rx_ile_f, rx_zeq_t, rx_zeq_f, rx_zne_t, rx_zne_f, ev_getf, ev_putf, ev_putl, nr_i, nr_r, nr_l, nr_n, kD_62, rx_iret, kb_149_0, kb_149_46, kb_149_49, kb_149_59, kb_149_63, kb_149_64, kb_149_76, kb_149_77, kb_149_85, kb_149_99, kb_149_135, kr_149, kf_46_728, kf_46_729, kk_46_728, List.getD_cons_zero, List.getD_cons_succ, List.set_cons_zero, List.set_cons_succ, ex_spl, ex_low, Option.toList, List.cons_append, List.nil_append, reduceIte, Int.reduceToNat, Nat.reduceDiv, Nat.reduceMod, Nat.reduceAdd, Nat.reduceMul, z_0, z_1, z_10, z_01, reduceCtorEq, ite_true, ite_false, true_and, and_true, ↓bI_01, ↓bP_01, ↓zret0, ↓zret1, z_add, z_sub, z_mul, up_1, up_2, not_true, not_false_iff, if_true, if_false, bI_T, bI_F, bP_T, bP_F, or_true, true_or, or_false, false_or, Int.reduceNeg, Int.reduceAdd, Int.reduceSub, Int.reduceMul, Int.reduceEq, Int.reduceLT, Int.reduceLE, Int.natCast_add, Int.cast_ofNat_Int]
        · refine ⟨(ex_blk 149 8, [.ref 46, .long x, .retAddr 0, .int (Int32.ofInt ((i : Int) + 1)), .int (Int32.ofInt 0), .int (Int32.ofInt ((i : Int) + 1)), .int (Int32.ofInt (q_le x i))], [], w), ?_, (i : Int) + 1, _, by rw [if_neg (by omega)]; rfl, xv_i _, q_ln_more hm (by omega) (by omega)⟩
          conv => lhs; rw [kb_149_8]
          rw [if_neg h2]
          simp (disch := omega) only [el, x6, ev_iload, ev_aload, ev_lload, rx_istore, ev_iinc, ev_push, ev_lpush, ev_iadd, ev_imul, ev_land, ev_lshr, ev_l2i, ev_i2b, ev_dup_r, ev_dup_i, ev_goto, ev_jsr, rx_ige_t, rx_ige_f, rx_igt_t, rx_igt_f, rx_ile_t, rx_ile_f, rx_zeq_t, rx_zeq_f, rx_zne_t, rx_zne_f, ev_getf, ev_putf, ev_putl, nr_i, nr_r, nr_l, nr_n, kD_62, rx_iret, kb_149_0, kb_149_46, kb_149_49, kb_149_59, kb_149_63, kb_149_64, kb_149_76, kb_149_77, kb_149_85, kb_149_99, kb_149_135, kr_149, kf_46_728, kf_46_729, kk_46_728, List.getD_cons_zero, List.getD_cons_succ, List.set_cons_zero, List.set_cons_succ, ex_spl, ex_low, Option.toList, List.cons_append, List.nil_append, reduceIte, Int.reduceToNat, Nat.reduceDiv, Nat.reduceMod, Nat.reduceAdd, Nat.reduceMul, z_0, z_1, z_10, z_01, reduceCtorEq, ite_true, ite_false, true_and, and_true, ↓bI_01, ↓bP_01, ↓zret0, ↓zret1, z_add, z_sub, z_mul, up_1, up_2, not_true, not_false_iff, if_true, if_false, bI_T, bI_F, bP_T, bP_F, or_true, true_or, or_false, false_or, Int.reduceNeg, Int.reduceAdd, Int.reduceSub, Int.reduceMul, Int.reduceEq, Int.reduceLT, Int.reduceLE, Int.natCast_add, Int.cast_ofNat_Int]
  · rintro s ⟨m, v6, rfl, x6, hm⟩
    rcases hr with ⟨h1, h2⟩ | ⟨m', h1, h2, h3⟩
    · exact (h1 ⟨m, hm⟩).elim
    · have := q_ln_u h1 hm
      subst this
      have hm1 := h1.2.1
      rw [h3, kb_149_8]
      simp (disch := omega) only [g24, ev_iload, ev_aload, ev_lload, rx_istore, ev_iinc, ev_push, ev_lpush, ev_iadd, ev_imul, ev_land, ev_lshr, ev_l2i, ev_i2b, ev_dup_r, ev_dup_i, ev_goto, ev_jsr, rx_ige_t, rx_ige_f, rx_igt_t, rx_igt_f, rx_ile_t, rx_ile_f, rx_zeq_t, rx_zeq_f, rx_zne_t, rx_zne_f, ev_getf, ev_putf, ev_putl, nr_i, nr_r, nr_l, nr_n, kD_62, rx_iret, kb_149_0, kb_149_46, kb_149_49, kb_149_59, kb_149_63, kb_149_64, kb_149_76, kb_149_77, kb_149_85, kb_149_99, kb_149_135, kr_149, kf_46_728, kf_46_729, kk_46_728, List.getD_cons_zero, List.getD_cons_succ, List.set_cons_zero, List.set_cons_succ, ex_spl, ex_low, Option.toList, List.cons_append, List.nil_append, reduceIte, Int.reduceToNat, Nat.reduceDiv, Nat.reduceMod, Nat.reduceAdd, Nat.reduceMul, z_0, z_1, z_10, z_01, reduceCtorEq, ite_true, ite_false, true_and, and_true, ↓bI_01, ↓bP_01, ↓zret0, ↓zret1, z_add, z_sub, z_mul, up_1, up_2, not_true, not_false_iff, if_true, if_false, bI_T, bI_F, bP_T, bP_F, or_true, true_or, or_false, false_or, Int.reduceNeg, Int.reduceAdd, Int.reduceSub, Int.reduceMul, Int.reduceEq, Int.reduceLT, Int.reduceLE, Int.natCast_add, Int.cast_ofNat_Int]
theorem r_letters2 {d : Nat} {A : AS} {w : PW} (hV : q_v0 A) (hM : rN A 0 w) {x : Int64} {m : Int} (hm : q_ln x m 8) (hf : A 0 8 + m ≤ 40) : ∃ w', ex_cal (d + 1) 149 [.ref 46, .long x] w = some (some (.int (Int32.ofInt (A 0 8 + m))), w') ∧ (∀ a k, ¬ (a = 46 ∧ k = 24) → ¬ a = 62 → w'.1 a k = w.1 a k) ∧ w'.1 46 24 = Int32.ofInt (A 0 8 + m) ∧ (∀ k : Int, 0 ≤ k → k < A 0 8 → w'.1 62 k.toNat = w.1 62 k.toNat) ∧ ∀ k : Int, 0 ≤ k → k < m → w'.1 62 (A 0 8 + k).toNat = Int32.ofInt (q_le x k) := by
  have hrr := q_rng hV
  have g24 := hM.1.2.2.2.2.2.2.2.2.2.1
  have hmm0 := hm.1
  have hmm8 := hm.2.1
  rw [ke_149 kc_46]
  simp (disch := omega) only [ev_iload, ev_aload, ev_lload, rx_istore, ev_iinc, ev_push, ev_lpush, ev_iadd, ev_imul, ev_land, ev_lshr, ev_l2i, ev_i2b, ev_dup_r, ev_dup_i, ev_goto, ev_jsr, rx_ige_t, rx_ige_f, rx_igt_t, rx_igt_f, rx_ile_t, rx_ile_f, rx_zeq_t, rx_zeq_f, rx_zne_t, rx_zne_f, ev_getf, ev_putf, ev_putl, nr_i, nr_r, nr_l, nr_n, kD_62, rx_iret, kb_149_0, kb_149_46, kb_149_49, kb_149_59, kb_149_63, kb_149_64, kb_149_76, kb_149_77, kb_149_85, kb_149_99, kb_149_135, kr_149, kf_46_728, kf_46_729, kk_46_728, List.getD_cons_zero, List.getD_cons_succ, List.set_cons_zero, List.set_cons_succ, ex_spl, ex_low, Option.toList, List.cons_append, List.nil_append, reduceIte, Int.reduceToNat, Nat.reduceDiv, Nat.reduceMod, Nat.reduceAdd, Nat.reduceMul, z_0, z_1, z_10, z_01, reduceCtorEq, ite_true, ite_false, true_and, and_true, ↓bI_01, ↓bP_01, ↓zret0, ↓zret1, z_add, z_sub, z_mul, up_1, up_2, not_true, not_false_iff, if_true, if_false, bI_T, bI_F, bP_T, bP_F, or_true, true_or, or_false, false_or, Int.reduceNeg, Int.reduceAdd, Int.reduceSub, Int.reduceMul, Int.reduceEq, Int.reduceLT, Int.reduceLE, Int.natCast_add, Int.cast_ofNat_Int]
  refine ex_loop (Q := fun q => ∃ w', q = some (some (.int (Int32.ofInt (A 0 8 + m))), w') ∧ (∀ a k, ¬ (a = 46 ∧ k = 24) → ¬ a = 62 → w'.1 a k = w.1 a k) ∧ w'.1 46 24 = Int32.ofInt (A 0 8 + m) ∧ (∀ k : Int, 0 ≤ k → k < A 0 8 → w'.1 62 k.toNat = w.1 62 k.toNat) ∧ ∀ k : Int, 0 ≤ k → k < m → w'.1 62 (A 0 8 + k).toNat = Int32.ofInt (q_le x k)) (fun i s => ∃ m v6, s = (ex_blk 149 8, [.ref 46, .long x, .retAddr 0, .int (Int32.ofInt m), .int (Int32.ofInt (if m < (i : Int) then 1 else 0)), .int (Int32.ofInt (i : Int)), v6], [], w) ∧ xv v6 ∧ q_ln x m i) 8 ?_ ?_ ?_
  · exact ⟨0, .null, rfl, xv_n, ⟨Int.le_refl _, Int.le_refl _, fun k k0 k1 => absurd k1 (by omega), fun k k0 k1 => absurd k1 (by omega)⟩⟩
  · rintro i s hi ⟨m1, v6, rfl, x6, hm1⟩
    right
    have hc := q_le_r (w := x) hi
    have hm0 := hm1.1
    have hm1' := hm1.2.1
    have el := (q_lt_m (w := x) hi).trans q_le_e
    have bad : ¬ (126 < q_le x i ∨ (m1 < (i : Int) ∧ ¬ q_le x i = 0)) := fun hb => q_ln_no hm1 (by omega) hb hm
    by_cases h2 : m1 < (i : Int)
    · have h3 : q_le x i = 0 := Classical.byContradiction fun hh => bad (Or.inr ⟨h2, hh⟩)
      refine ⟨(ex_blk 149 8, [.ref 46, .long x, .retAddr 0, .int (Int32.ofInt m1), .int (Int32.ofInt 1), .int (Int32.ofInt ((i : Int) + 1)), .int (Int32.ofInt (q_le x i))], [], w), ?_, m1, _, by rw [if_pos (by omega)]; rfl, xv_i _, q_ln_go hm1 h3⟩
      conv => lhs; rw [kb_149_8]
      rw [if_pos h2]
      simp (disch := omega) only [el, x6, Int.add_zero, ev_iload, ev_aload, ev_lload, rx_istore, ev_iinc, ev_push, ev_lpush, ev_iadd, ev_imul, ev_land, ev_lshr, ev_l2i, ev_i2b, ev_dup_r, ev_dup_i, ev_goto, ev_jsr, rx_ige_t, rx_ige_f, rx_igt_t, rx_igt_f, rx_ile_t, rx_ile_f, rx_zeq_t, rx_zeq_f, rx_zne_t, rx_zne_f, ev_getf, ev_putf, ev_putl, nr_i, nr_r, nr_l, nr_n, kD_62, rx_iret, kb_149_0, kb_149_46, kb_149_49, kb_149_59, kb_149_63, kb_149_64, kb_149_76, kb_149_77, kb_149_85, kb_149_99, kb_149_135, kr_149, kf_46_728, kf_46_729, kk_46_728, List.getD_cons_zero, List.getD_cons_succ, List.set_cons_zero, List.set_cons_succ, ex_spl, ex_low, Option.toList, List.cons_append, List.nil_append, reduceIte, Int.reduceToNat, Nat.reduceDiv, Nat.reduceMod, Nat.reduceAdd, Nat.reduceMul, z_0, z_1, z_10, z_01, reduceCtorEq, ite_true, ite_false, true_and, and_true, ↓bI_01, ↓bP_01, ↓zret0, ↓zret1, z_add, z_sub, z_mul, up_1, up_2, not_true, not_false_iff, if_true, if_false, bI_T, bI_F, bP_T, bP_F, or_true, true_or, or_false, false_or, Int.reduceNeg, Int.reduceAdd, Int.reduceSub, Int.reduceMul, Int.reduceEq, Int.reduceLT, Int.reduceLE, Int.natCast_add, Int.cast_ofNat_Int]
    · have h1 : ¬ 126 < q_le x i := fun hh => bad (Or.inl hh)
      have hmi : m1 = i := by omega
      subst hmi
      by_cases h3 : q_le x i = 0
      · refine ⟨(ex_blk 149 8, [.ref 46, .long x, .retAddr 0, .int (Int32.ofInt (i : Int)), .int (Int32.ofInt 1), .int (Int32.ofInt ((i : Int) + 1)), .int (Int32.ofInt (q_le x i))], [], w), ?_, i, _, by rw [if_pos (by omega)]; rfl, xv_i _, q_ln_go hm1 h3⟩
        conv => lhs; rw [kb_149_8]
        rw [if_neg h2]
        simp (disch := omega) only [el, x6, Int.add_zero, ev_iload, ev_aload, ev_lload, rx_istore, ev_iinc, ev_push, ev_lpush, ev_iadd, ev_imul, ev_land, ev_lshr, ev_l2i, ev_i2b, ev_dup_r, ev_dup_i, ev_goto, ev_jsr, rx_ige_t, rx_ige_f, rx_igt_t, rx_igt_f, rx_ile_t, rx_ile_f, rx_zeq_t, rx_zeq_f, rx_zne_t, rx_zne_f, ev_getf, ev_putf, ev_putl, nr_i, nr_r, nr_l, nr_n, kD_62, rx_iret, kb_149_0, kb_149_46, kb_149_49, kb_149_59, kb_149_63, kb_149_64, kb_149_76, kb_149_77, kb_149_85, kb_149_99, kb_149_135, kr_149, kf_46_728, kf_46_729, kk_46_728, List.getD_cons_zero, List.getD_cons_succ, List.set_cons_zero, List.set_cons_succ, ex_spl, ex_low, Option.toList, List.cons_append, List.nil_append, reduceIte, Int.reduceToNat, Nat.reduceDiv, Nat.reduceMod, Nat.reduceAdd, Nat.reduceMul, z_0, z_1, z_10, z_01, reduceCtorEq, ite_true, ite_false, true_and, and_true, ↓bI_01, ↓bP_01, ↓zret0, ↓zret1, z_add, z_sub, z_mul, up_1, up_2, not_true, not_false_iff, if_true, if_false, bI_T, bI_F, bP_T, bP_F, or_true, true_or, or_false, false_or, Int.reduceNeg, Int.reduceAdd, Int.reduceSub, Int.reduceMul, Int.reduceEq, Int.reduceLT, Int.reduceLE, Int.natCast_add, Int.cast_ofNat_Int]
      · refine ⟨(ex_blk 149 8, [.ref 46, .long x, .retAddr 0, .int (Int32.ofInt ((i : Int) + 1)), .int (Int32.ofInt 0), .int (Int32.ofInt ((i : Int) + 1)), .int (Int32.ofInt (q_le x i))], [], w), ?_, (i : Int) + 1, _, by rw [if_neg (by omega)]; rfl, xv_i _, q_ln_more hm1 (by omega) (by omega)⟩
        conv => lhs; rw [kb_149_8]
        rw [if_neg h2]
        simp (disch := omega) only [el, x6, ev_iload, ev_aload, ev_lload, rx_istore, ev_iinc, ev_push, ev_lpush, ev_iadd, ev_imul, ev_land, ev_lshr, ev_l2i, ev_i2b, ev_dup_r, ev_dup_i, ev_goto, ev_jsr, rx_ige_t, rx_ige_f, rx_igt_t, rx_igt_f, rx_ile_t, rx_ile_f, rx_zeq_t, rx_zeq_f, rx_zne_t, rx_zne_f, ev_getf, ev_putf, ev_putl, nr_i, nr_r, nr_l, nr_n, kD_62, rx_iret, kb_149_0, kb_149_46, kb_149_49, kb_149_59, kb_149_63, kb_149_64, kb_149_76, kb_149_77, kb_149_85, kb_149_99, kb_149_135, kr_149, kf_46_728, kf_46_729, kk_46_728, List.getD_cons_zero, List.getD_cons_succ, List.set_cons_zero, List.set_cons_succ, ex_spl, ex_low, Option.toList, List.cons_append, List.nil_append, reduceIte, Int.reduceToNat, Nat.reduceDiv, Nat.reduceMod, Nat.reduceAdd, Nat.reduceMul, z_0, z_1, z_10, z_01, reduceCtorEq, ite_true, ite_false, true_and, and_true, ↓bI_01, ↓bP_01, ↓zret0, ↓zret1, z_add, z_sub, z_mul, up_1, up_2, not_true, not_false_iff, if_true, if_false, bI_T, bI_F, bP_T, bP_F, or_true, true_or, or_false, false_or, Int.reduceNeg, Int.reduceAdd, Int.reduceSub, Int.reduceMul, Int.reduceEq, Int.reduceLT, Int.reduceLE, Int.natCast_add, Int.cast_ofNat_Int]
  · rintro s ⟨m1, v6, rfl, x6, hm1⟩
    have := q_ln_u hm hm1
    subst this
    rw [kb_149_8]
    simp (disch := omega) only [g24, ev_iload, ev_aload, ev_lload, rx_istore, ev_iinc, ev_push, ev_lpush, ev_iadd, ev_imul, ev_land, ev_lshr, ev_l2i, ev_i2b, ev_dup_r, ev_dup_i, ev_goto, ev_jsr, rx_ige_t, rx_ige_f, rx_igt_t, rx_igt_f, rx_ile_t, rx_ile_f, rx_zeq_t, rx_zeq_f, rx_zne_t, rx_zne_f, ev_getf, ev_putf, ev_putl, nr_i, nr_r, nr_l, nr_n, kD_62, rx_iret, kb_149_0, kb_149_46, kb_149_49, kb_149_59, kb_149_63, kb_149_64, kb_149_76, kb_149_77, kb_149_85, kb_149_99, kb_149_135, kr_149, kf_46_728, kf_46_729, kk_46_728, List.getD_cons_zero, List.getD_cons_succ, List.set_cons_zero, List.set_cons_succ, ex_spl, ex_low, Option.toList, List.cons_append, List.nil_append, reduceIte, Int.reduceToNat, Nat.reduceDiv, Nat.reduceMod, Nat.reduceAdd, Nat.reduceMul, z_0, z_1, z_10, z_01, reduceCtorEq, ite_true, ite_false, true_and, and_true, ↓bI_01, ↓bP_01, ↓zret0, ↓zret1, z_add, z_sub, z_mul, up_1, up_2, not_true, not_false_iff, if_true, if_false, bI_T, bI_F, bP_T, bP_F, or_true, true_or, or_false, false_or, Int.reduceNeg, Int.reduceAdd, Int.reduceSub, Int.reduceMul, Int.reduceEq, Int.reduceLT, Int.reduceLE, Int.natCast_add, Int.cast_ofNat_Int]
    refine ex_loop (Q := fun q => ∃ w', q = some (some (.int (Int32.ofInt (A 0 8 + m))), w') ∧ (∀ a k, ¬ (a = 46 ∧ k = 24) → ¬ a = 62 → w'.1 a k = w.1 a k) ∧ w'.1 46 24 = Int32.ofInt (A 0 8 + m) ∧ (∀ k : Int, 0 ≤ k → k < A 0 8 → w'.1 62 k.toNat = w.1 62 k.toNat) ∧ ∀ k : Int, 0 ≤ k → k < m → w'.1 62 (A 0 8 + k).toNat = Int32.ofInt (q_le x k)) (fun i s => ∃ w1 v4 v6, s = (ex_blk 149 102, [.ref 46, .long x, .retAddr 0, .int (Int32.ofInt m), v4, .int (Int32.ofInt (i : Int)), v6], [], w1) ∧ (∀ a k, ¬ a = 62 → w1.1 a k = w.1 a k) ∧ (∀ k : Int, 0 ≤ k → k < A 0 8 → w1.1 62 k.toNat = w.1 62 k.toNat) ∧ ∀ k : Int, 0 ≤ k → k < (i : Int) → w1.1 62 (A 0 8 + k).toNat = Int32.ofInt (q_le x k)) m.toNat ?_ ?_ ?_
    · exact ⟨w, _, _, rfl, fun _ _ _ => rfl, fun _ _ _ => rfl, fun k k0 k1 => absurd k1 (by omega)⟩
    · rintro i s hi ⟨w1, v4, v6', rfl, h1, h2, h3⟩
      right
      have hc := hm.2.2.1 i (by omega) (by omega)
      have el := q_le_m (w := x) (n := i) (by omega) (by omega)
      have gg := h1 46 24 (by omega)
      rw [g24] at gg
      refine ⟨(ex_blk 149 102, [.ref 46, .long x, .retAddr 0, .int (Int32.ofInt m), v4, .int (Int32.ofInt ((i : Int) + 1)), v6'], [], ex_up w1 62 (A 0 8 + (i : Int)).toNat (Int32.ofInt (q_le x i))), ?_, _, _, _, rfl, fun a k ha => ?_, fun k k0 k1 => ?_, fun k k0 k1 => ?_⟩
      · conv => lhs; rw [kb_149_102]
        simp (disch := omega) only [gg, el, ev_iload, ev_aload, ev_lload, rx_istore, ev_iinc, ev_push, ev_lpush, ev_iadd, ev_imul, ev_land, ev_lshr, ev_l2i, ev_i2b, ev_dup_r, ev_dup_i, ev_goto, ev_jsr, rx_ige_t, rx_ige_f, rx_igt_t, rx_igt_f, rx_ile_t, rx_ile_f, rx_zeq_t, rx_zeq_f, rx_zne_t, rx_zne_f, ev_getf, ev_putf, ev_putl, nr_i, nr_r, nr_l, nr_n, kD_62, rx_iret, kb_149_0, kb_149_46, kb_149_49, kb_149_59, kb_149_63, kb_149_64, kb_149_76, kb_149_77, kb_149_85, kb_149_99, kb_149_135, kr_149, kf_46_728, kf_46_729, kk_46_728, List.getD_cons_zero, List.getD_cons_succ, List.set_cons_zero, List.set_cons_succ, ex_spl, ex_low, Option.toList, List.cons_append, List.nil_append, reduceIte, Int.reduceToNat, Nat.reduceDiv, Nat.reduceMod, Nat.reduceAdd, Nat.reduceMul, z_0, z_1, z_10, z_01, reduceCtorEq, ite_true, ite_false, true_and, and_true, ↓bI_01, ↓bP_01, ↓zret0, ↓zret1, z_add, z_sub, z_mul, up_1, up_2, not_true, not_false_iff, if_true, if_false, bI_T, bI_F, bP_T, bP_F, or_true, true_or, or_false, false_or, Int.reduceNeg, Int.reduceAdd, Int.reduceSub, Int.reduceMul, Int.reduceEq, Int.reduceLT, Int.reduceLE, Int.natCast_add, Int.cast_ofNat_Int]
      · rw [up_n (by omega)]; exact h1 a k ha
      · rw [up_n (by omega)]; exact h2 k k0 k1
      · by_cases hk : k = i
        · rw [hk, up_e (by omega)]
        · rw [up_n (by omega)]; exact h3 k k0 (by omega)
    · rintro s ⟨w1, v4, v6', rfl, h1, h2, h3⟩
      rw [Int.toNat_of_nonneg hmm0] at h3
      have gg := h1 46 24 (by omega)
      rw [g24] at gg
      refine ⟨ex_up w1 46 24 (Int32.ofInt (A 0 8 + m)), ?_, fun a k ha hb => ?_, up_s, fun k k0 k1 => ?_, fun k k0 k1 => ?_⟩
      · rw [kb_149_102]
        simp (disch := omega) only [gg, up_n, up_e, ev_iload, ev_aload, ev_lload, rx_istore, ev_iinc, ev_push, ev_lpush, ev_iadd, ev_imul, ev_land, ev_lshr, ev_l2i, ev_i2b, ev_dup_r, ev_dup_i, ev_goto, ev_jsr, rx_ige_t, rx_ige_f, rx_igt_t, rx_igt_f, rx_ile_t, rx_ile_f, rx_zeq_t, rx_zeq_f, rx_zne_t, rx_zne_f, ev_getf, ev_putf, ev_putl, nr_i, nr_r, nr_l, nr_n, kD_62, rx_iret, kb_149_0, kb_149_46, kb_149_49, kb_149_59, kb_149_63, kb_149_64, kb_149_76, kb_149_77, kb_149_85, kb_149_99, kb_149_135, kr_149, kf_46_728, kf_46_729, kk_46_728, List.getD_cons_zero, List.getD_cons_succ, List.set_cons_zero, List.set_cons_succ, ex_spl, ex_low, Option.toList, List.cons_append, List.nil_append, reduceIte, Int.reduceToNat, Nat.reduceDiv, Nat.reduceMod, Nat.reduceAdd, Nat.reduceMul, z_0, z_1, z_10, z_01, reduceCtorEq, ite_true, ite_false, true_and, and_true, ↓bI_01, ↓bP_01, ↓zret0, ↓zret1, z_add, z_sub, z_mul, up_2, not_true, not_false_iff, if_true, if_false, bI_T, bI_F, bP_T, bP_F, or_true, true_or, or_false, false_or, Int.reduceNeg, Int.reduceAdd, Int.reduceSub, Int.reduceMul, Int.reduceEq, Int.reduceLT, Int.reduceLE, Int.natCast_add, Int.cast_ofNat_Int]
      · rw [up_n (by omega)]; exact h1 a k hb
      · rw [up_n (by omega)]; exact h2 k k0 k1
      · rw [up_n (by omega)]; exact h3 k k0 k1
theorem g_letters {A : AS} (hV : q_V A) {x : Int64} : q_both A 99 149 [.long x] := by
  have hr := q_rng hV.1
  by_cases hm : ∃ m, q_ln x m 8
  · obtain ⟨m, hm⟩ := hm
    have m0 := hm.1
    have m8 := hm.2.1
    have hlt : ∀ d w, ex_cal (d + 2) 84 [.long x] w = some (some (.int (Int32.ofInt m)), w) := fun d w => m_lettersIn (Or.inl ⟨m, hm, rfl⟩)
    by_cases hf : A 0 8 + m ≤ 40
    · obtain ⟨⟨v1', v2, v3, v4, v5, v6, v7, v8, v9, v10⟩, vd, vi⟩ := id hV
      refine ⟨.int (Int32.ofInt (A 0 8 + m)), q_pg A x m, ⟨⟨v1', v2, ⟨by rw [q_pg_n]; omega, by rw [q_pg_n]; omega, fun k k0 k1 => ?_⟩, v4, v5, v6, v7, v8, v9, v10⟩, vd, vi⟩, fun d w hC => ?_, fun d w hM => ?_, by show A 0 2 ≤ A 0 2 + 1; omega⟩
      · rw [q_pg_n] at k1
        by_cases hk : k < A 0 8
        · rw [q_pg_o hk]; exact v3.2.2 k k0 hk
        · rw [q_pg_e (by omega) (by omega)]; exact hm.2.2.1 _ (by omega) (by omega)
      · have hC' := hC
        obtain ⟨⟨⟨⟨h511, h512, h513⟩, ⟨hk, hro, hco, hli⟩⟩, ⟨hbe, hah, hbs, hos⟩⟩, hdo, ⟨h010, h011, h09, h11⟩, hpc, ht18, ht21, ht23, ht25, ht27, ht30, ht32, ht34, ht36⟩ := id hC
        obtain ⟨w1, e1, o1, o2, o3, o4⟩ := m_append (d := d + 13) (x := x) m0 m8 (show 0 ≤ A 0 8 by omega) hf h11
        have eo : ∀ a k, ¬ a = 1 → ¬ a = 2 → w1.1 a k = w.1 a k := fun a k h1 h2 => o1 a k (by omega) h2
        have et : ∀ o j mm s, (17 ≤ o ∧ o < 37) → rCt A w o j mm s → rCt A w1 o j mm s := fun o j mm s ho ht => ⟨by rw [eo _ _ (by omega) (by omega)]; exact ht.1, by rw [eo _ _ (by omega) (by omega)]; exact ht.2.1, fun k k0 k1 => by rw [eo _ _ (by omega) (by omega)]; exact ht.2.2 k k0 k1⟩
        refine ⟨w1, ?_, ⟨⟨⟨⟨?_, ?_, ?_⟩, ⟨fun k k0 k1 => ?_, fun k k0 k1 => ?_, fun k k0 k1 => ?_, fun k k0 k1 => ?_⟩⟩, ⟨fun k v k0 k1 v0 v1 => ?_, fun k v k0 k1 v0 v1 => ?_, fun k v k0 k1 v0 v1 => ?_, fun k v k0 k1 v0 v1 => ?_⟩⟩, fun k k0 k1 => ?_, ⟨?_, ?_, ?_, ?_⟩, fun k k0 k1 => ?_, et _ _ _ _ (by omega) ht18, et _ _ _ _ (by omega) ht21, et _ _ _ _ (by omega) ht23, et _ _ _ _ (by omega) ht25, et _ _ _ _ (by omega) ht27, et _ _ _ _ (by omega) ht30, et _ _ _ _ (by omega) ht32, et _ _ _ _ (by omega) ht34, et _ _ _ _ (by omega) ht36⟩, fun a k ha => eo a k (by omega) (by omega)⟩
        · have ep : ∀ d, ex_cal (d + 1) 87 [.ref 1] w1 = some (some (.int (Int32.ofInt (A 0 8 + m))), w1) := by
            intro d
            rw [ke_87 kc_1]
            simp (disch := omega) only [o2, ev_aload, ev_getf, nr_i, nr_r, nr_l, nr_n, rx_iret, kb_87_0, kr_87, kf_1_449, List.getD_cons_zero, List.getD_cons_succ, List.set_cons_zero, List.set_cons_succ, ex_spl, ex_low, Option.toList, List.cons_append, List.nil_append, reduceIte, Int.reduceToNat, Nat.reduceDiv, Nat.reduceMod, Nat.reduceAdd, Nat.reduceMul, z_0, z_1, z_10, z_01, reduceCtorEq, ite_true, ite_false, true_and, and_true, ↓bI_01, ↓bP_01, ↓zret0, ↓zret1, z_add, z_sub, z_mul, up_1, up_2, not_true, not_false_iff, if_true, if_false, bI_T, bI_F, bP_T, bP_F, or_true, true_or, or_false, false_or, Int.reduceNeg, Int.reduceAdd, Int.reduceSub, Int.reduceMul, Int.reduceEq, Int.reduceLT, Int.reduceLE, Int.natCast_add, Int.cast_ofNat_Int]
          rw [ke_99 kc_0]
          simp (disch := omega) only [hlt, m_psize hC', e1, ep, ev_iload, ev_aload, ev_lload, rx_istore, ev_push, ev_iadd, rx_ile_t, rx_ile_f, rx_zge_t, rx_zge_f, ev_getf, ev_call, ev_callv, nr_i, nr_r, nr_l, nr_n, rx_iret, kb_99_0, kb_99_12, kb_99_29, kr_99, kf_0_640, List.getD_cons_zero, List.getD_cons_succ, List.set_cons_zero, List.set_cons_succ, ex_spl, ex_low, Option.toList, List.cons_append, List.nil_append, reduceIte, Int.reduceToNat, Nat.reduceDiv, Nat.reduceMod, Nat.reduceAdd, Nat.reduceMul, z_0, z_1, z_10, z_01, reduceCtorEq, ite_true, ite_false, true_and, and_true, ↓bI_01, ↓bP_01, ↓zret0, ↓zret1, z_add, z_sub, z_mul, up_1, up_2, not_true, not_false_iff, if_true, if_false, bI_T, bI_F, bP_T, bP_F, or_true, true_or, or_false, false_or, Int.reduceNeg, Int.reduceAdd, Int.reduceSub, Int.reduceMul, Int.reduceEq, Int.reduceLT, Int.reduceLE, Int.natCast_add, Int.cast_ofNat_Int]
        · rw [eo _ _ (by omega) (by omega)]; exact h511
        · rw [eo _ _ (by omega) (by omega)]; exact h512
        · rw [eo _ _ (by omega) (by omega)]; exact h513
        · rw [eo _ _ (by omega) (by omega)]; exact hk k k0 k1
        · rw [eo _ _ (by omega) (by omega)]; exact hro k k0 k1
        · rw [eo _ _ (by omega) (by omega)]; exact hco k k0 k1
        · rw [eo _ _ (by omega) (by omega)]; exact hli k k0 k1
        · rw [eo _ _ (by omega) (by omega)]; exact hbe k v k0 k1 v0 v1
        · rw [eo _ _ (by omega) (by omega)]; exact hah k v k0 k1 v0 v1
        · rw [eo _ _ (by omega) (by omega)]; exact hbs k v k0 k1 v0 v1
        · rw [eo _ _ (by omega) (by omega)]; exact hos k v k0 k1 v0 v1
        · rw [eo _ _ (by omega) (by omega)]; exact hdo k k0 k1
        · rw [eo _ _ (by omega) (by omega)]; exact h010
        · rw [eo _ _ (by omega) (by omega)]; exact h011
        · rw [eo _ _ (by omega) (by omega)]; exact h09
        · rw [q_pg_n]; exact o2
        · rw [q_pg_n] at k1
          by_cases hk8 : k < A 0 8
          · rw [q_pg_o hk8, o3 k k0 hk8]; exact hpc k k0 hk8
          · rw [q_pg_e (by omega) (by omega)]
            have := o4 (k - A 0 8) (by omega) (by omega)
            rwa [show A 0 8 + (k - A 0 8) = k by omega] at this
      · obtain ⟨hM, hMk⟩ := hM
        obtain ⟨w1, e1, o1, o2, o3, o4⟩ := r_letters2 (d := d + 15) hV.1 hM hm hf
        have eo : ∀ a k, ¬ (a = 46 ∧ k = 24) → ¬ a = 62 → w1.1 a k = w.1 a k := o1
        obtain ⟨⟨g0, g1, g2, g5, g11, g13, g17, g20, g23, g24, g49⟩, ⟨gk, gl⟩, ⟨gs, ga, gf, gt, gn⟩, ⟨gtk, gtc, gtw⟩, ge, ⟨gba, gbh⟩, ⟨gjc, gjs⟩, gp⟩ := id hM
        refine ⟨w1, e1, ⟨⟨⟨?_, ?_, ?_, ?_, ?_, ?_, ?_, ?_, ?_, ?_, ?_⟩, ⟨fun k k0 k1 => ?_, fun k k0 k1 => ?_⟩, ⟨fun k k0 k1 => ?_, fun k k0 k1 => ?_, fun k k0 k1 => ?_, fun k k0 k1 => ?_, fun k k0 k1 => ?_⟩, ⟨fun k k0 k1 => ?_, fun k k0 k1 => ?_, fun k k0 k1 => ?_⟩, fun k k0 k1 => ?_, ⟨fun k k0 k1 => ?_, fun k k0 k1 => ?_⟩, ⟨fun k k0 k1 => ?_, fun k k0 k1 => ?_⟩, fun k k0 k1 => ?_⟩, rMk_g (A := A) hMk (fun k h1 h2 => eo 46 k (by omega) (by omega)) (fun a k h1 h2 => eo a k (by omega) (by omega))⟩, fun a k ha => eo a k (by omega) (by omega)⟩
        · rw [eo _ _ (by omega) (by omega)]; exact g0
        · rw [eo _ _ (by omega) (by omega)]; exact g1
        · rw [eo _ _ (by omega) (by omega)]; exact g2
        · rw [eo _ _ (by omega) (by omega)]; exact g5
        · rw [eo _ _ (by omega) (by omega)]; exact g11
        · rw [eo _ _ (by omega) (by omega)]; exact g13
        · rw [eo _ _ (by omega) (by omega)]; exact g17
        · rw [eo _ _ (by omega) (by omega)]; exact g20
        · rw [eo _ _ (by omega) (by omega)]; exact g23
        · rw [q_pg_n]; exact o2
        · rw [eo _ _ (by omega) (by omega)]; exact g49
        · rw [eo _ _ (by omega) (by omega)]; exact gk k k0 k1
        · rw [eo _ _ (by omega) (by omega)]; exact gl k k0 k1
        · rw [eo _ _ (by omega) (by omega)]; exact gs k k0 k1
        · rw [eo _ _ (by omega) (by omega)]; exact ga k k0 k1
        · rw [eo _ _ (by omega) (by omega)]; exact gf k k0 k1
        · rw [eo _ _ (by omega) (by omega)]; exact gt k k0 k1
        · rw [eo _ _ (by omega) (by omega)]; exact gn k k0 k1
        · rw [eo _ _ (by omega) (by omega)]; exact gtk k k0 k1
        · rw [eo _ _ (by omega) (by omega)]; exact gtc k k0 k1
        · rw [eo _ _ (by omega) (by omega)]; exact gtw k k0 k1
        · rw [eo _ _ (by omega) (by omega)]; exact ge k k0 k1
        · rw [eo _ _ (by omega) (by omega)]; exact gba k k0 k1
        · rw [eo _ _ (by omega) (by omega)]; exact gbh k k0 k1
        · rw [eo _ _ (by omega) (by omega)]; exact gjc k k0 k1
        · rw [eo _ _ (by omega) (by omega)]; exact gjs k k0 k1
        · rw [q_pg_n] at k1
          by_cases hk8 : k < A 0 8
          · rw [q_pg_o hk8, o3 k k0 hk8]; exact gp k k0 hk8
          · rw [q_pg_e (by omega) (by omega)]
            have := o4 (k - A 0 8) (by omega) (by omega)
            rwa [show A 0 8 + (k - A 0 8) = k by omega] at this
    · refine q_deny hV (Int32.ofInt (-104)) (fun d w hC => ?_) (fun d w hM => ?_)
      · rw [ke_99 kc_0]
        simp (disch := omega) only [hlt, m_psize hC, ev_iload, ev_aload, ev_lload, rx_istore, ev_push, ev_iadd, rx_ile_t, rx_ile_f, rx_zge_t, rx_zge_f, ev_getf, ev_call, ev_callv, nr_i, nr_r, nr_l, nr_n, rx_iret, kb_99_0, kb_99_12, kb_99_29, kr_99, kf_0_640, List.getD_cons_zero, List.getD_cons_succ, List.set_cons_zero, List.set_cons_succ, ex_spl, ex_low, Option.toList, List.cons_append, List.nil_append, reduceIte, Int.reduceToNat, Nat.reduceDiv, Nat.reduceMod, Nat.reduceAdd, Nat.reduceMul, z_0, z_1, z_10, z_01, reduceCtorEq, ite_true, ite_false, true_and, and_true, ↓bI_01, ↓bP_01, ↓zret0, ↓zret1, z_add, z_sub, z_mul, up_1, up_2, not_true, not_false_iff, if_true, if_false, bI_T, bI_F, bP_T, bP_F, or_true, true_or, or_false, false_or, Int.reduceNeg, Int.reduceAdd, Int.reduceSub, Int.reduceMul, Int.reduceEq, Int.reduceLT, Int.reduceLE, Int.natCast_add, Int.cast_ofNat_Int]
      · exact r_letters hV.1 hM (Or.inr ⟨m, hm, by omega, rfl⟩)
  · have hlt : ∀ d w, ex_cal (d + 2) 84 [.long x] w = some (some (.int (Int32.ofInt (-1))), w) := fun d w => m_lettersIn (Or.inr ⟨hm, rfl⟩)
    refine q_deny hV (Int32.ofInt (-102)) (fun d w hC => ?_) (fun d w hM => ?_)
    · rw [ke_99 kc_0]
      simp (disch := omega) only [hlt, ev_iload, ev_aload, ev_lload, rx_istore, ev_push, ev_iadd, rx_ile_t, rx_ile_f, rx_zge_t, rx_zge_f, ev_getf, ev_call, ev_callv, nr_i, nr_r, nr_l, nr_n, rx_iret, kb_99_0, kb_99_12, kb_99_29, kr_99, kf_0_640, List.getD_cons_zero, List.getD_cons_succ, List.set_cons_zero, List.set_cons_succ, ex_spl, ex_low, Option.toList, List.cons_append, List.nil_append, reduceIte, Int.reduceToNat, Nat.reduceDiv, Nat.reduceMod, Nat.reduceAdd, Nat.reduceMul, z_0, z_1, z_10, z_01, reduceCtorEq, ite_true, ite_false, true_and, and_true, ↓bI_01, ↓bP_01, ↓zret0, ↓zret1, z_add, z_sub, z_mul, up_1, up_2, not_true, not_false_iff, if_true, if_false, bI_T, bI_F, bP_T, bP_F, or_true, true_or, or_false, false_or, Int.reduceNeg, Int.reduceAdd, Int.reduceSub, Int.reduceMul, Int.reduceEq, Int.reduceLT, Int.reduceLE, Int.natCast_add, Int.cast_ofNat_Int]
    · exact r_letters hV.1 hM (Or.inl ⟨hm, rfl⟩)
