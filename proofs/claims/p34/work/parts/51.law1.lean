/-! the law's own methods: the script, letters, what is beside what -/
def q_s (z : Nat × (Nat → Int32)) (k : Int) : Int := ((if k < z.1 then z.2 k.toNat else Int32.ofInt (7919 * k + 13)) &&& Int32.ofInt 2147483647).toInt
theorem q_s_nn (x : Int32) : 0 ≤ (x &&& Int32.ofInt 2147483647).toInt := by
  rw [← Int32.toInt_toBitVec, Int32.toBitVec_and]
  apply BitVec.toInt_nonneg_of_msb_false
  rw [BitVec.msb_and, show (Int32.ofInt 2147483647).toBitVec.msb = false by decide, Bool.and_false]
theorem q_s_r (z : Nat × (Nat → Int32)) (k : Int) : 0 ≤ q_s z k ∧ q_s z k < 2147483648 := ⟨q_s_nn _, Int32.toInt_lt _⟩
theorem sl_2000 {d : Nat} {cal : Nat → List Value → PW → Option ER} {y : Nat} {c : List Instr} {pl st : List Value} {w : PW} : ex_ev d cal y (.arraylength :: c, pl, .ref 2000 :: st, w) = ex_ev d cal y (c, pl, .int (Int32.ofInt (w.2.2.1 : Int)) :: st, w) := by
  rw [ev_alen, if_pos rfl]
  rfl
theorem sa_2000 {w : PW} {c : Int} (h0 : 0 ≤ c) (h1 : c < (w.2.2.1 : Int)) (h2 : c < 2147483648) : ex_ald w 2000 (Int32.ofInt c) = some (w.2.2.2 c.toNat) := by
  rw [ka_2000, z_clamp h0 h2, if_neg]
  rw [z_0, z_lt (by omega) (by omega) (by omega) (by omega)]
  omega
theorem l_cell {d : Nat} {w : PW} {k : Int} (hz : w.2.2.1 ≤ 260) (k0 : 0 ≤ k) (k1 : k < 1000) : ex_cal (d + 1) 92 [.ref 2000, .int (Int32.ofInt k)] w = some (some (.int (Int32.ofInt (q_s w.2.2 k))), w) := by
  have e : Int32.ofInt (q_s w.2.2 k) = (if k < w.2.2.1 then w.2.2.2 k.toNat else Int32.ofInt (7919 * k + 13)) &&& Int32.ofInt 2147483647 := Int32.ofInt_toInt _
  rw [ke_92, e]
  by_cases h : k < (w.2.2.1 : Int)
  · rw [if_pos h]
    simp (disch := omega) only [sl_2000, sa_2000, ev_iload, ev_aload, ev_push, ev_iadd, ev_imul, ev_iand, ev_goto, ev_jsr, rx_ige_t, rx_ige_f, ev_iald, nr_i, nr_r, nr_l, nr_n, kA_46, kA_47, kA_48, kA_49, kA_50, kA_51, kA_52, rx_iret, kb_92_0, kb_92_12, kb_92_20, kr_92, List.getD_cons_zero, List.getD_cons_succ, List.set_cons_zero, List.set_cons_succ, ex_spl, ex_low, Option.toList, List.cons_append, List.nil_append, reduceIte, Int.reduceToNat, Nat.reduceDiv, Nat.reduceMod, Nat.reduceAdd, Nat.reduceMul, z_0, z_1, z_10, z_01, reduceCtorEq, ite_true, ite_false, true_and, and_true, ↓bI_01, ↓bP_01, ↓zret0, ↓zret1, z_add, z_sub, z_mul, up_1, up_2, not_true, not_false_iff, if_true, if_false, Bool.true_and, bI_T, bI_F, bP_T, bP_F, or_true, true_or, or_false, false_or, Int.reduceNeg, Int.reduceAdd, Int.reduceSub, Int.reduceMul, Int.reduceEq, Int.reduceLT, Int.reduceLE, Int.natCast_add, Int.cast_ofNat_Int]
  · rw [if_neg h]
    simp (disch := omega) only [sl_2000, ev_iload, ev_aload, ev_push, ev_iadd, ev_imul, ev_iand, ev_goto, ev_jsr, rx_ige_t, rx_ige_f, ev_iald, nr_i, nr_r, nr_l, nr_n, kA_46, kA_47, kA_48, kA_49, kA_50, kA_51, kA_52, rx_iret, kb_92_0, kb_92_12, kb_92_20, kr_92, List.getD_cons_zero, List.getD_cons_succ, List.set_cons_zero, List.set_cons_succ, ex_spl, ex_low, Option.toList, List.cons_append, List.nil_append, reduceIte, Int.reduceToNat, Nat.reduceDiv, Nat.reduceMod, Nat.reduceAdd, Nat.reduceMul, z_0, z_1, z_10, z_01, reduceCtorEq, ite_true, ite_false, true_and, and_true, ↓bI_01, ↓bP_01, ↓zret0, ↓zret1, z_add, z_sub, z_mul, up_1, up_2, not_true, not_false_iff, if_true, if_false, Bool.true_and, bI_T, bI_F, bP_T, bP_F, or_true, true_or, or_false, false_or, Int.reduceNeg, Int.reduceAdd, Int.reduceSub, Int.reduceMul, Int.reduceEq, Int.reduceLT, Int.reduceLE, Int.natCast_add, Int.cast_ofNat_Int]
/-- the page with one letter more -/
def q_pc (A : AS) (c : Int) : AS := fun a b => if a = 0 ∧ b = 8 then A 0 8 + 1 else if a = 8 ∧ b = A 0 8 then c else A a b
theorem q_le_c : ∀ c : Nat, c < 127 → ∀ k : Nat, k < 8 → q_le ((Int32.ofInt (c : Int)).toInt64) (k : Int) = if k = 0 then (c : Int) else 0 := by
  have h : ∀ c : Nat, c < 127 → ∀ k : Nat, k < 8 → q_lt ((Int32.ofInt (c : Int)).toInt64) (k : Int) = Int32.ofInt (if k = 0 then (c : Int) else 0) := by decide +kernel
  intro c hc k hk
  unfold q_le
  rw [h c hc k hk, z_toInt (by split <;> omega) (by split <;> omega)]
theorem q_ln_c {c : Int} (c0 : 1 ≤ c) (c1 : c ≤ 126) : q_ln ((Int32.ofInt c).toInt64) 1 8 := by
  obtain ⟨n, rfl⟩ := Int.eq_ofNat_of_zero_le (show 0 ≤ c by omega)
  refine ⟨by omega, by omega, fun k k0 k1 => ?_, fun k k0 k1 => ?_⟩
  · have : k = ((0 : Nat) : Int) := by omega
    rw [this, q_le_c n (by omega) 0 (by omega), if_pos rfl]
    exact ⟨c0, c1⟩
  · obtain ⟨m, rfl⟩ := Int.eq_ofNat_of_zero_le (show 0 ≤ k by omega)
    rw [q_le_c n (by omega) m (by omega), if_neg (by omega)]
theorem q_pg_c {A : AS} {c : Int} (c0 : 1 ≤ c) (c1 : c ≤ 126) : q_pg A ((Int32.ofInt c).toInt64) 1 = q_pc A c := by
  obtain ⟨n, rfl⟩ := Int.eq_ofNat_of_zero_le (show 0 ≤ c by omega)
  funext a b
  unfold q_pg q_pc
  by_cases h1 : a = 0 ∧ b = 8
  · rw [if_pos h1, if_pos h1]
  · rw [if_neg h1, if_neg h1]
    by_cases h2 : a = 8 ∧ b = A 0 8
    · rw [if_pos (by omega), if_pos h2, show b - A 0 8 = ((0 : Nat) : Int) by omega, q_le_c n (by omega) 0 (by omega), if_pos rfl]
    · rw [if_neg (by omega), if_neg h2]
theorem l_put {d : Nat} {A : AS} {w : PW} (hV : q_V A) (hC : rC A w) {c : Int} (c0 : 1 ≤ c) (c1 : c ≤ 126) (hf : A 0 8 < 40) : q_V (q_pc A c) ∧ ∃ w', ex_cal (d + 4) 93 [.ref 0, .int (Int32.ofInt c)] w = some (some (.int (Int32.ofInt 1)), w') ∧ rC (q_pc A c) w' ∧ fC w w' ∧ w'.2 = w.2 := by
  have hr := q_rng hV.1
  obtain ⟨h1, w1, e1, h2, h3⟩ := c_letters (d := d) hV hC (q_ln_c c0 c1) (show A 0 8 + 1 ≤ 40 by omega)
  rw [q_pg_c c0 c1] at h1 h2
  refine ⟨h1, w1, ?_, h2, h3, ex_quiet _ _ _ _ _ _ (by decide) e1⟩
  rw [ke_93]
  simp (disch := omega) only [e1, ev_iload, ev_aload, ev_push, ev_i2l, ev_goto, ev_jsr, rx_zle_t, rx_zle_f, ev_callv, nr_i, nr_r, nr_l, nr_n, rx_zret_t, rx_zretI, rx_zretP, kb_93_0, kb_93_13, kb_93_14, kr_93, List.getD_cons_zero, List.getD_cons_succ, List.set_cons_zero, List.set_cons_succ, ex_spl, ex_low, Option.toList, List.cons_append, List.nil_append, reduceIte, Int.reduceToNat, Nat.reduceDiv, Nat.reduceMod, Nat.reduceAdd, Nat.reduceMul, z_0, z_1, z_10, z_01, reduceCtorEq, ite_true, ite_false, true_and, and_true, ↓bI_01, ↓bP_01, ↓zret0, ↓zret1, z_add, z_sub, z_mul, up_1, up_2, not_true, not_false_iff, if_true, if_false, Bool.true_and, bI_T, bI_F, bP_T, bP_F, or_true, true_or, or_false, false_or, Int.reduceNeg, Int.reduceAdd, Int.reduceSub, Int.reduceMul, Int.reduceEq, Int.reduceLT, Int.reduceLE, Int.natCast_add, Int.cast_ofNat_Int]
def lH (A : AS) (w : PW) : Prop := w.1 46 0 = Int32.ofInt (A 0 0) ∧ w.1 46 1 = Int32.ofInt (A 0 1) ∧ (∀ r, 0 ≤ r → r < A 0 0 → w.1 46 (2 + r).toNat = Int32.ofInt (A 2 r)) ∧ q_ar A w 1 47 (A 0 15)
theorem q_nx_t {A : AS} {c v : Int} (h : 0 ≤ c / A 0 1 + q_dn v ∧ c / A 0 1 + q_dn v < A 0 0 ∧ 0 ≤ c % A 0 1 + q_rt v ∧ c % A 0 1 + q_rt v < A 0 1) : q_nx A c v = A 0 1 * (c / A 0 1 + q_dn v) + (c % A 0 1 + q_rt v) := by
  unfold q_nx
  rw [if_pos h, Int.mul_comm]
theorem q_nx_f {A : AS} {c v : Int} (h : ¬ (0 ≤ c / A 0 1 + q_dn v ∧ c / A 0 1 + q_dn v < A 0 0 ∧ 0 ≤ c % A 0 1 + q_rt v ∧ c % A 0 1 + q_rt v < A 0 1)) : q_nx A c v = -1 := by
  unfold q_nx
  rw [if_neg h]
theorem l_beside {d : Nat} {A : AS} {w : PW} (hV : q_vh A) (hH : lH A w) {c v : Int} (c0 : 0 ≤ c) (c1 : c < A 0 15) (v0 : 0 ≤ v) (v1 : v < 4) : ex_cal (d + 1) 97 [.ref 46, .int (Int32.ofInt c), .int (Int32.ofInt v)] w = some (some (.int (Int32.ofInt (q_nx A c v))), w) := by
  have hr := q_rnh hV
  obtain ⟨d1, d2, d3, d4, d5, d6, d7⟩ := q_dv hV c0 c1
  obtain ⟨e0, e1, -, -⟩ := hH
  have n1 := Int.mul_nonneg (show 0 ≤ A 0 1 by omega) d1
  rw [ke_97]
  have hv : v = 0 ∨ v = 1 ∨ v = 2 ∨ v = 3 := by omega
  rcases hv with e | e | e | e <;> subst e
  · have q1 : q_dn 0 = -1 := rfl
    have q2 : q_rt 0 = 0 := rfl
    by_cases hb : c / A 0 1 = 0
    · rw [q_nx_f (by rw [q1, q2]; omega)]
      simp (disch := omega) only [e0, e1, ev_iload, ev_aload, rx_istore, ev_push, ev_iadd, ev_imul, rx_idiv, rx_irem, ev_goto, ev_jsr, rx_ieq_t, rx_ieq_f, rx_ine_t, rx_ine_f, rx_zne_t, rx_zne_f, rx_zlt_t, rx_zlt_f, ev_iald, nr_i, nr_r, nr_l, nr_n, kA_46, kA_47, kA_48, kA_49, kA_50, kA_51, kA_52, rx_iret, kb_97_0, kb_97_13, kb_97_22, kb_97_23, kb_97_39, kb_97_48, kb_97_49, kb_97_76, kb_97_80, kb_97_88, kr_97, List.getD_cons_zero, List.getD_cons_succ, List.set_cons_zero, List.set_cons_succ, ex_spl, ex_low, Option.toList, List.cons_append, List.nil_append, reduceIte, Int.reduceToNat, Nat.reduceDiv, Nat.reduceMod, Nat.reduceAdd, Nat.reduceMul, z_0, z_1, z_10, z_01, reduceCtorEq, ite_true, ite_false, true_and, and_true, ↓bI_01, ↓bP_01, ↓zret0, ↓zret1, z_add, z_sub, z_mul, up_1, up_2, not_true, not_false_iff, if_true, if_false, Bool.true_and, bI_T, bI_F, bP_T, bP_F, or_true, true_or, or_false, false_or, Int.reduceNeg, Int.reduceAdd, Int.reduceSub, Int.reduceMul, Int.reduceEq, Int.reduceLT, Int.reduceLE, Int.natCast_add, Int.cast_ofNat_Int]
    · rw [q_nx_t (by rw [q1, q2]; omega), q1, q2]
      simp (disch := omega) only [e0, e1, ev_iload, ev_aload, rx_istore, ev_push, ev_iadd, ev_imul, rx_idiv, rx_irem, ev_goto, ev_jsr, rx_ieq_t, rx_ieq_f, rx_ine_t, rx_ine_f, rx_zne_t, rx_zne_f, rx_zlt_t, rx_zlt_f, ev_iald, nr_i, nr_r, nr_l, nr_n, kA_46, kA_47, kA_48, kA_49, kA_50, kA_51, kA_52, rx_iret, kb_97_0, kb_97_13, kb_97_22, kb_97_23, kb_97_39, kb_97_48, kb_97_49, kb_97_76, kb_97_80, kb_97_88, kr_97, List.getD_cons_zero, List.getD_cons_succ, List.set_cons_zero, List.set_cons_succ, ex_spl, ex_low, Option.toList, List.cons_append, List.nil_append, reduceIte, Int.reduceToNat, Nat.reduceDiv, Nat.reduceMod, Nat.reduceAdd, Nat.reduceMul, z_0, z_1, z_10, z_01, reduceCtorEq, ite_true, ite_false, true_and, and_true, ↓bI_01, ↓bP_01, ↓zret0, ↓zret1, z_add, z_sub, z_mul, up_1, up_2, not_true, not_false_iff, if_true, if_false, Bool.true_and, bI_T, bI_F, bP_T, bP_F, or_true, true_or, or_false, false_or, Int.reduceNeg, Int.reduceAdd, Int.reduceSub, Int.reduceMul, Int.reduceEq, Int.reduceLT, Int.reduceLE, Int.natCast_add, Int.cast_ofNat_Int]
  · have q1 : q_dn 1 = 0 := rfl
    have q2 : q_rt 1 = 1 := rfl
    by_cases hb : c % A 0 1 + 1 = A 0 1
    · rw [q_nx_f (by rw [q1, q2]; omega)]
      simp (disch := omega) only [e0, e1, ev_iload, ev_aload, rx_istore, ev_push, ev_iadd, ev_imul, rx_idiv, rx_irem, ev_goto, ev_jsr, rx_ieq_t, rx_ieq_f, rx_ine_t, rx_ine_f, rx_zne_t, rx_zne_f, rx_zlt_t, rx_zlt_f, ev_iald, nr_i, nr_r, nr_l, nr_n, kA_46, kA_47, kA_48, kA_49, kA_50, kA_51, kA_52, rx_iret, kb_97_0, kb_97_13, kb_97_22, kb_97_23, kb_97_39, kb_97_48, kb_97_49, kb_97_76, kb_97_80, kb_97_88, kr_97, List.getD_cons_zero, List.getD_cons_succ, List.set_cons_zero, List.set_cons_succ, ex_spl, ex_low, Option.toList, List.cons_append, List.nil_append, reduceIte, Int.reduceToNat, Nat.reduceDiv, Nat.reduceMod, Nat.reduceAdd, Nat.reduceMul, z_0, z_1, z_10, z_01, reduceCtorEq, ite_true, ite_false, true_and, and_true, ↓bI_01, ↓bP_01, ↓zret0, ↓zret1, z_add, z_sub, z_mul, up_1, up_2, not_true, not_false_iff, if_true, if_false, Bool.true_and, bI_T, bI_F, bP_T, bP_F, or_true, true_or, or_false, false_or, Int.reduceNeg, Int.reduceAdd, Int.reduceSub, Int.reduceMul, Int.reduceEq, Int.reduceLT, Int.reduceLE, Int.natCast_add, Int.cast_ofNat_Int]
    · rw [q_nx_t (by rw [q1, q2]; omega), q1, q2]
      simp (disch := omega) only [e0, e1, ev_iload, ev_aload, rx_istore, ev_push, ev_iadd, ev_imul, rx_idiv, rx_irem, ev_goto, ev_jsr, rx_ieq_t, rx_ieq_f, rx_ine_t, rx_ine_f, rx_zne_t, rx_zne_f, rx_zlt_t, rx_zlt_f, ev_iald, nr_i, nr_r, nr_l, nr_n, kA_46, kA_47, kA_48, kA_49, kA_50, kA_51, kA_52, rx_iret, kb_97_0, kb_97_13, kb_97_22, kb_97_23, kb_97_39, kb_97_48, kb_97_49, kb_97_76, kb_97_80, kb_97_88, kr_97, List.getD_cons_zero, List.getD_cons_succ, List.set_cons_zero, List.set_cons_succ, ex_spl, ex_low, Option.toList, List.cons_append, List.nil_append, reduceIte, Int.reduceToNat, Nat.reduceDiv, Nat.reduceMod, Nat.reduceAdd, Nat.reduceMul, z_0, z_1, z_10, z_01, reduceCtorEq, ite_true, ite_false, true_and, and_true, ↓bI_01, ↓bP_01, ↓zret0, ↓zret1, z_add, z_sub, z_mul, up_1, up_2, not_true, not_false_iff, if_true, if_false, Bool.true_and, bI_T, bI_F, bP_T, bP_F, or_true, true_or, or_false, false_or, Int.reduceNeg, Int.reduceAdd, Int.reduceSub, Int.reduceMul, Int.reduceEq, Int.reduceLT, Int.reduceLE, Int.natCast_add, Int.cast_ofNat_Int]
  · have q1 : q_dn 2 = 1 := rfl
    have q2 : q_rt 2 = 0 := rfl
    by_cases hb : c / A 0 1 + 1 = A 0 0
    · rw [q_nx_f (by rw [q1, q2]; omega)]
      simp (disch := omega) only [e0, e1, ev_iload, ev_aload, rx_istore, ev_push, ev_iadd, ev_imul, rx_idiv, rx_irem, ev_goto, ev_jsr, rx_ieq_t, rx_ieq_f, rx_ine_t, rx_ine_f, rx_zne_t, rx_zne_f, rx_zlt_t, rx_zlt_f, ev_iald, nr_i, nr_r, nr_l, nr_n, kA_46, kA_47, kA_48, kA_49, kA_50, kA_51, kA_52, rx_iret, kb_97_0, kb_97_13, kb_97_22, kb_97_23, kb_97_39, kb_97_48, kb_97_49, kb_97_76, kb_97_80, kb_97_88, kr_97, List.getD_cons_zero, List.getD_cons_succ, List.set_cons_zero, List.set_cons_succ, ex_spl, ex_low, Option.toList, List.cons_append, List.nil_append, reduceIte, Int.reduceToNat, Nat.reduceDiv, Nat.reduceMod, Nat.reduceAdd, Nat.reduceMul, z_0, z_1, z_10, z_01, reduceCtorEq, ite_true, ite_false, true_and, and_true, ↓bI_01, ↓bP_01, ↓zret0, ↓zret1, z_add, z_sub, z_mul, up_1, up_2, not_true, not_false_iff, if_true, if_false, Bool.true_and, bI_T, bI_F, bP_T, bP_F, or_true, true_or, or_false, false_or, Int.reduceNeg, Int.reduceAdd, Int.reduceSub, Int.reduceMul, Int.reduceEq, Int.reduceLT, Int.reduceLE, Int.natCast_add, Int.cast_ofNat_Int]
    · rw [q_nx_t (by rw [q1, q2]; omega), q1, q2]
      simp (disch := omega) only [e0, e1, ev_iload, ev_aload, rx_istore, ev_push, ev_iadd, ev_imul, rx_idiv, rx_irem, ev_goto, ev_jsr, rx_ieq_t, rx_ieq_f, rx_ine_t, rx_ine_f, rx_zne_t, rx_zne_f, rx_zlt_t, rx_zlt_f, ev_iald, nr_i, nr_r, nr_l, nr_n, kA_46, kA_47, kA_48, kA_49, kA_50, kA_51, kA_52, rx_iret, kb_97_0, kb_97_13, kb_97_22, kb_97_23, kb_97_39, kb_97_48, kb_97_49, kb_97_76, kb_97_80, kb_97_88, kr_97, List.getD_cons_zero, List.getD_cons_succ, List.set_cons_zero, List.set_cons_succ, ex_spl, ex_low, Option.toList, List.cons_append, List.nil_append, reduceIte, Int.reduceToNat, Nat.reduceDiv, Nat.reduceMod, Nat.reduceAdd, Nat.reduceMul, z_0, z_1, z_10, z_01, reduceCtorEq, ite_true, ite_false, true_and, and_true, ↓bI_01, ↓bP_01, ↓zret0, ↓zret1, z_add, z_sub, z_mul, up_1, up_2, not_true, not_false_iff, if_true, if_false, Bool.true_and, bI_T, bI_F, bP_T, bP_F, or_true, true_or, or_false, false_or, Int.reduceNeg, Int.reduceAdd, Int.reduceSub, Int.reduceMul, Int.reduceEq, Int.reduceLT, Int.reduceLE, Int.natCast_add, Int.cast_ofNat_Int]
  · have q1 : q_dn 3 = 0 := rfl
    have q2 : q_rt 3 = -1 := rfl
    by_cases hb : c % A 0 1 = 0
    · rw [q_nx_f (by rw [q1, q2]; omega)]
      simp (disch := omega) only [e0, e1, ev_iload, ev_aload, rx_istore, ev_push, ev_iadd, ev_imul, rx_idiv, rx_irem, ev_goto, ev_jsr, rx_ieq_t, rx_ieq_f, rx_ine_t, rx_ine_f, rx_zne_t, rx_zne_f, rx_zlt_t, rx_zlt_f, ev_iald, nr_i, nr_r, nr_l, nr_n, kA_46, kA_47, kA_48, kA_49, kA_50, kA_51, kA_52, rx_iret, kb_97_0, kb_97_13, kb_97_22, kb_97_23, kb_97_39, kb_97_48, kb_97_49, kb_97_76, kb_97_80, kb_97_88, kr_97, List.getD_cons_zero, List.getD_cons_succ, List.set_cons_zero, List.set_cons_succ, ex_spl, ex_low, Option.toList, List.cons_append, List.nil_append, reduceIte, Int.reduceToNat, Nat.reduceDiv, Nat.reduceMod, Nat.reduceAdd, Nat.reduceMul, z_0, z_1, z_10, z_01, reduceCtorEq, ite_true, ite_false, true_and, and_true, ↓bI_01, ↓bP_01, ↓zret0, ↓zret1, z_add, z_sub, z_mul, up_1, up_2, not_true, not_false_iff, if_true, if_false, Bool.true_and, bI_T, bI_F, bP_T, bP_F, or_true, true_or, or_false, false_or, Int.reduceNeg, Int.reduceAdd, Int.reduceSub, Int.reduceMul, Int.reduceEq, Int.reduceLT, Int.reduceLE, Int.natCast_add, Int.cast_ofNat_Int]
    · rw [q_nx_t (by rw [q1, q2]; omega), q1, q2]
      simp (disch := omega) only [e0, e1, ev_iload, ev_aload, rx_istore, ev_push, ev_iadd, ev_imul, rx_idiv, rx_irem, ev_goto, ev_jsr, rx_ieq_t, rx_ieq_f, rx_ine_t, rx_ine_f, rx_zne_t, rx_zne_f, rx_zlt_t, rx_zlt_f, ev_iald, nr_i, nr_r, nr_l, nr_n, kA_46, kA_47, kA_48, kA_49, kA_50, kA_51, kA_52, rx_iret, kb_97_0, kb_97_13, kb_97_22, kb_97_23, kb_97_39, kb_97_48, kb_97_49, kb_97_76, kb_97_80, kb_97_88, kr_97, List.getD_cons_zero, List.getD_cons_succ, List.set_cons_zero, List.set_cons_succ, ex_spl, ex_low, Option.toList, List.cons_append, List.nil_append, reduceIte, Int.reduceToNat, Nat.reduceDiv, Nat.reduceMod, Nat.reduceAdd, Nat.reduceMul, z_0, z_1, z_10, z_01, reduceCtorEq, ite_true, ite_false, true_and, and_true, ↓bI_01, ↓bP_01, ↓zret0, ↓zret1, z_add, z_sub, z_mul, up_1, up_2, not_true, not_false_iff, if_true, if_false, Bool.true_and, bI_T, bI_F, bP_T, bP_F, or_true, true_or, or_false, false_or, Int.reduceNeg, Int.reduceAdd, Int.reduceSub, Int.reduceMul, Int.reduceEq, Int.reduceLT, Int.reduceLE, Int.natCast_add, Int.cast_ofNat_Int]
theorem l_ahead {d : Nat} {A : AS} {w : PW} (hV : q_vh A) (hH : lH A w) {c v : Int} (c0 : 0 ≤ c) (c1 : c < A 0 15) (v0 : 0 ≤ v) (v1 : v < 4) : ex_cal (d + 2) 98 [.ref 46, .ref 47, .int (Int32.ofInt c), .int (Int32.ofInt v)] w = some (some (.int (Int32.ofInt (q_ah A c v))), w) := by
  have hr := q_rnh hV
  have hn := q_nxr hV c0 c1 v
  have hb := fun d => l_beside (d := d) hV hH c0 c1 v0 v1
  rw [ke_98]
  unfold q_ah
  generalize q_nx A c v = t at *
  by_cases ho : q_op A t
  · have e4 := hH.2.2.2 t ho.1 ho.2.1
    have hk := q_kd hV ho.1 ho.2.1
    have ho2 := ho.2.2
    rw [q_if_t ho]
    simp (disch := omega) only [hb, e4, ev_iload, ev_aload, rx_istore, ev_push, ev_goto, ev_jsr, rx_ine_t, rx_ine_f, rx_zlt_t, rx_zlt_f, ev_iald, ev_call, nr_i, nr_r, nr_l, nr_n, kA_46, kA_47, kA_48, kA_49, kA_50, kA_51, kA_52, cg_97, rx_iret, kb_98_0, kb_98_21, kb_98_25, kb_98_27, kr_98, List.getD_cons_zero, List.getD_cons_succ, List.set_cons_zero, List.set_cons_succ, ex_spl, ex_low, Option.toList, List.cons_append, List.nil_append, reduceIte, Int.reduceToNat, Nat.reduceDiv, Nat.reduceMod, Nat.reduceAdd, Nat.reduceMul, z_0, z_1, z_10, z_01, reduceCtorEq, ite_true, ite_false, true_and, and_true, ↓bI_01, ↓bP_01, ↓zret0, ↓zret1, z_add, z_sub, z_mul, up_1, up_2, not_true, not_false_iff, if_true, if_false, Bool.true_and, bI_T, bI_F, bP_T, bP_F, or_true, true_or, or_false, false_or, Int.reduceNeg, Int.reduceAdd, Int.reduceSub, Int.reduceMul, Int.reduceEq, Int.reduceLT, Int.reduceLE, Int.natCast_add, Int.cast_ofNat_Int]
  · rw [q_if_f ho]
    by_cases ht : t < 0
    · simp (disch := omega) only [hb, ev_iload, ev_aload, rx_istore, ev_push, ev_goto, ev_jsr, rx_ine_t, rx_ine_f, rx_zlt_t, rx_zlt_f, ev_iald, ev_call, nr_i, nr_r, nr_l, nr_n, kA_46, kA_47, kA_48, kA_49, kA_50, kA_51, kA_52, cg_97, rx_iret, kb_98_0, kb_98_21, kb_98_25, kb_98_27, kr_98, List.getD_cons_zero, List.getD_cons_succ, List.set_cons_zero, List.set_cons_succ, ex_spl, ex_low, Option.toList, List.cons_append, List.nil_append, reduceIte, Int.reduceToNat, Nat.reduceDiv, Nat.reduceMod, Nat.reduceAdd, Nat.reduceMul, z_0, z_1, z_10, z_01, reduceCtorEq, ite_true, ite_false, true_and, and_true, ↓bI_01, ↓bP_01, ↓zret0, ↓zret1, z_add, z_sub, z_mul, up_1, up_2, not_true, not_false_iff, if_true, if_false, Bool.true_and, bI_T, bI_F, bP_T, bP_F, or_true, true_or, or_false, false_or, Int.reduceNeg, Int.reduceAdd, Int.reduceSub, Int.reduceMul, Int.reduceEq, Int.reduceLT, Int.reduceLE, Int.natCast_add, Int.cast_ofNat_Int]
    · have e4 := hH.2.2.2 t (by omega) (by omega)
      have hk := q_kd hV (c := t) (by omega) (by omega)
      have h1 : A 1 t = 1 := by
        by_cases h1 : A 1 t = 1
        · exact h1
        · exact absurd ⟨by omega, by omega, h1⟩ ho
      simp (disch := omega) only [hb, e4, h1, ev_iload, ev_aload, rx_istore, ev_push, ev_goto, ev_jsr, rx_ine_t, rx_ine_f, rx_zlt_t, rx_zlt_f, ev_iald, ev_call, nr_i, nr_r, nr_l, nr_n, kA_46, kA_47, kA_48, kA_49, kA_50, kA_51, kA_52, cg_97, rx_iret, kb_98_0, kb_98_21, kb_98_25, kb_98_27, kr_98, List.getD_cons_zero, List.getD_cons_succ, List.set_cons_zero, List.set_cons_succ, ex_spl, ex_low, Option.toList, List.cons_append, List.nil_append, reduceIte, Int.reduceToNat, Nat.reduceDiv, Nat.reduceMod, Nat.reduceAdd, Nat.reduceMul, z_0, z_1, z_10, z_01, reduceCtorEq, ite_true, ite_false, true_and, and_true, ↓bI_01, ↓bP_01, ↓zret0, ↓zret1, z_add, z_sub, z_mul, up_1, up_2, not_true, not_false_iff, if_true, if_false, Bool.true_and, bI_T, bI_F, bP_T, bP_F, or_true, true_or, or_false, false_or, Int.reduceNeg, Int.reduceAdd, Int.reduceSub, Int.reduceMul, Int.reduceEq, Int.reduceLT, Int.reduceLE, Int.natCast_add, Int.cast_ofNat_Int]
theorem l_side {d : Nat} {A : AS} {w : PW} (hV : q_vh A) (hH : lH A w) {c b : Int} (c0 : 0 ≤ c) (c1 : c < A 0 15) (b0 : -3 ≤ b) (b1 : b ≤ 3) : ex_cal (d + 1) 99 [.ref 46, .int (Int32.ofInt c), .int (Int32.ofInt b)] w = some (some (.int (Int32.ofInt (q_sd A b c))), w) := by
  have hr := q_rnh hV
  obtain ⟨d1, d2, d3, d4, d5, d6, d7⟩ := q_dv hV c0 c1
  obtain ⟨e0, e1, e2, -⟩ := hH
  have e3 := e2 (c / A 0 1) d1 d2
  have hl := q_li hV d1 d2
  rw [ke_99]
  unfold q_sd
  by_cases h : c % A 0 1 < A 2 (c / A 0 1) + b
  · rw [if_pos h]
    simp (disch := omega) only [e1, e3, ev_iload, ev_aload, rx_istore, ev_push, ev_iadd, rx_idiv, rx_irem, ev_goto, ev_jsr, rx_ige_t, rx_ige_f, ev_iald, nr_i, nr_r, nr_l, nr_n, kA_46, kA_47, kA_48, kA_49, kA_50, kA_51, kA_52, rx_iret, kb_99_0, kb_99_25, kb_99_26, kr_99, List.getD_cons_zero, List.getD_cons_succ, List.set_cons_zero, List.set_cons_succ, ex_spl, ex_low, Option.toList, List.cons_append, List.nil_append, reduceIte, Int.reduceToNat, Nat.reduceDiv, Nat.reduceMod, Nat.reduceAdd, Nat.reduceMul, z_0, z_1, z_10, z_01, reduceCtorEq, ite_true, ite_false, true_and, and_true, ↓bI_01, ↓bP_01, ↓zret0, ↓zret1, z_add, z_sub, z_mul, up_1, up_2, not_true, not_false_iff, if_true, if_false, Bool.true_and, bI_T, bI_F, bP_T, bP_F, or_true, true_or, or_false, false_or, Int.reduceNeg, Int.reduceAdd, Int.reduceSub, Int.reduceMul, Int.reduceEq, Int.reduceLT, Int.reduceLE, Int.natCast_add, Int.cast_ofNat_Int]
  · rw [if_neg h]
    simp (disch := omega) only [e1, e3, ev_iload, ev_aload, rx_istore, ev_push, ev_iadd, rx_idiv, rx_irem, ev_goto, ev_jsr, rx_ige_t, rx_ige_f, ev_iald, nr_i, nr_r, nr_l, nr_n, kA_46, kA_47, kA_48, kA_49, kA_50, kA_51, kA_52, rx_iret, kb_99_0, kb_99_25, kb_99_26, kr_99, List.getD_cons_zero, List.getD_cons_succ, List.set_cons_zero, List.set_cons_succ, ex_spl, ex_low, Option.toList, List.cons_append, List.nil_append, reduceIte, Int.reduceToNat, Nat.reduceDiv, Nat.reduceMod, Nat.reduceAdd, Nat.reduceMul, z_0, z_1, z_10, z_01, reduceCtorEq, ite_true, ite_false, true_and, and_true, ↓bI_01, ↓bP_01, ↓zret0, ↓zret1, z_add, z_sub, z_mul, up_1, up_2, not_true, not_false_iff, if_true, if_false, Bool.true_and, bI_T, bI_F, bP_T, bP_F, or_true, true_or, or_false, false_or, Int.reduceNeg, Int.reduceAdd, Int.reduceSub, Int.reduceMul, Int.reduceEq, Int.reduceLT, Int.reduceLE, Int.natCast_add, Int.cast_ofNat_Int]
