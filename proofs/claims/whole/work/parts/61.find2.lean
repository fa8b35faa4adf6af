/-! moves(): the reference, by one, by two -/
theorem r_one {d : Nat} {A : AS} {w : PW} (hV : q_v0 A) (hM : rN A 0 w) {n m : Nat} (hn : (n : Int) ≤ A 0 5) (hno : ∀ t : Int, 0 ≤ t → t < n → ∀ i : Int, 0 ≤ i → i < 96 → ¬ q_O A t i) (hyes : (n : Int) < A 0 5 → m < 96 ∧ q_O A n m ∧ ∀ i : Int, 0 ≤ i → i < m → ¬ q_O A n i) : ((n : Int) < A 0 5 ∧ ∃ w2, ex_cal (d + 13) 216 [.ref 46] w = some (some (.int (Int32.ofInt 1)), ex_up (ex_up (ex_up w2 46 52 (Int32.ofInt 1)) 46 53 (Int32.ofInt (n : Int))) 46 54 (Int32.ofInt (m : Int))) ∧ rN A 0 w2 ∧ sR w w2) ∨ (¬ (n : Int) < A 0 5 ∧ ∃ w2, ex_cal (d + 13) 216 [.ref 46] w = some (some (.int (Int32.ofInt 0)), w2) ∧ rN A 0 w2 ∧ sR w w2) := by
  have hr := q_rng hV
  have hg : ∀ t, 0 ≤ t → t < A 0 5 → q_gr A t := fun t t0 t1 => q_gr_v hV t0 t1
  rw [ke_216 kc_46]
  simp (disch := omega) only [ev_iload, ev_aload, rx_istore, ev_iinc, ev_push, ev_iadd, ev_imul, rx_idiv, rx_irem, ev_goto, ev_jsr, rx_ige_t, rx_ige_f, rx_zeq_t, rx_zeq_f, ev_getf, ev_putf, ev_putl, ev_iald, ev_callv, nr_i, nr_r, nr_l, nr_n, kA_47, kA_48, kA_49, kA_50, kA_51, kA_52, kA_53, kA_54, kA_55, kA_56, kA_57, kA_58, kA_59, kA_60, kA_61, kA_63, kA_64, kA_65, kA_66, kA_67, kA_68, kA_69, kA_70, rx_zret_t, rx_zretI, rx_zretP, kb_216_0, kb_216_82, kb_216_83, kb_216_124, kb_216_130, kb_216_136, kr_216, kf_46_717, kf_46_718, kf_46_719, kf_46_720, kk_46_756, kk_46_757, kk_46_758, List.getD_cons_zero, List.getD_cons_succ, List.set_cons_zero, List.set_cons_succ, ex_spl, ex_low, Option.toList, List.cons_append, List.nil_append, reduceIte, Int.reduceToNat, Nat.reduceDiv, Nat.reduceMod, Nat.reduceAdd, Nat.reduceMul, z_0, z_1, z_10, z_01, reduceCtorEq, ite_true, ite_false, true_and, and_true, ↓bI_01, ↓bP_01, ↓zret0, ↓zret1, z_add, z_sub, z_mul, up_1, up_2, not_true, not_false_iff, if_true, if_false, bI_T, bI_F, bP_T, bP_F, or_true, true_or, or_false, false_or, Int.reduceNeg, Int.reduceAdd, Int.reduceSub, Int.reduceMul, Int.reduceEq, Int.reduceLT, Int.reduceLE, Int.natCast_add, Int.cast_ofNat_Int]
  refine ex_loop (Q := fun q => ((n : Int) < A 0 5 ∧ ∃ w2, q = some (some (.int (Int32.ofInt 1)), ex_up (ex_up (ex_up w2 46 52 (Int32.ofInt 1)) 46 53 (Int32.ofInt (n : Int))) 46 54 (Int32.ofInt (m : Int))) ∧ rN A 0 w2 ∧ sR w w2) ∨ (¬ (n : Int) < A 0 5 ∧ ∃ w2, q = some (some (.int (Int32.ofInt 0)), w2) ∧ rN A 0 w2 ∧ sR w w2)) (fun i s => ∃ w1 v2 v3 v4, s = (ex_blk 216 2, [.ref 46, .int (Int32.ofInt (i : Int)), v2, v3, v4], [], w1) ∧ xv v2 ∧ xv v3 ∧ xv v4 ∧ rN A 0 w1 ∧ sR w w1) n ?_ ?_ ?_
  · exact ⟨w, .null, .null, .null, rfl, xv_n, xv_n, xv_n, hM, sR_r w⟩
  · rintro i s hi ⟨w1, v2, v3, v4, rfl, x2, x3, x4, M1, o1⟩
    right
    have g13 := M1.1.2.2.2.2.2.1
    have ec := M1.2.2.2.1.2.1 i (by omega) (by omega)
    have ew := M1.2.2.2.1.2.2 i (by omega) (by omega)
    obtain ⟨f1, f2, f3, f4, f5, f6, f7⟩ := hg i (by omega) (by omega)
    rcases r_oneIn (d := d) (P := 96) hV (q_like_r A) hg M1 (t := i) (by omega) (by omega) (Nat.le_refl _) (fun j j0 j1 => hno i (by omega) (by omega) j j0 (by omega)) (fun h => absurd h (by omega)) v4 x4 with ⟨h, -⟩ | ⟨-, w2, z3, z4, e2, y3, y4, M2, o2⟩
    · omega
    · refine ⟨(ex_blk 216 2, [.ref 46, .int (Int32.ofInt ((i : Int) + 1)), .int (Int32.ofInt (4 * A 5 (5 * (i : Int) + 1) + A 5 (5 * (i : Int) + 2))), z3, z4], [], w2), ?_, w2, _, z3, z4, rfl, xv_i _, y3, y4, M2, sR_t o1 o2⟩
      refine Eq.trans ?_ e2
      conv => lhs; rw [kb_216_2]
      simp (disch := omega) only [g13, ec, ew, x2, x3, ev_iload, ev_aload, rx_istore, ev_iinc, ev_push, ev_iadd, ev_imul, rx_idiv, rx_irem, ev_goto, ev_jsr, rx_ige_t, rx_ige_f, rx_zeq_t, rx_zeq_f, ev_getf, ev_putf, ev_putl, ev_iald, ev_callv, nr_i, nr_r, nr_l, nr_n, kA_47, kA_48, kA_49, kA_50, kA_51, kA_52, kA_53, kA_54, kA_55, kA_56, kA_57, kA_58, kA_59, kA_60, kA_61, kA_63, kA_64, kA_65, kA_66, kA_67, kA_68, kA_69, kA_70, rx_zret_t, rx_zretI, rx_zretP, kb_216_0, kb_216_82, kb_216_83, kb_216_124, kb_216_130, kb_216_136, kr_216, kf_46_717, kf_46_718, kf_46_719, kf_46_720, kk_46_756, kk_46_757, kk_46_758, List.getD_cons_zero, List.getD_cons_succ, List.set_cons_zero, List.set_cons_succ, ex_spl, ex_low, Option.toList, List.cons_append, List.nil_append, reduceIte, Int.reduceToNat, Nat.reduceDiv, Nat.reduceMod, Nat.reduceAdd, Nat.reduceMul, z_0, z_1, z_10, z_01, reduceCtorEq, ite_true, ite_false, true_and, and_true, ↓bI_01, ↓bP_01, ↓zret0, ↓zret1, z_add, z_sub, z_mul, up_1, up_2, not_true, not_false_iff, if_true, if_false, bI_T, bI_F, bP_T, bP_F, or_true, true_or, or_false, false_or, Int.reduceNeg, Int.reduceAdd, Int.reduceSub, Int.reduceMul, Int.reduceEq, Int.reduceLT, Int.reduceLE, Int.natCast_add, Int.cast_ofNat_Int]
  · rintro s ⟨w1, v2, v3, v4, rfl, x2, x3, x4, M1, o1⟩
    have g13 := M1.1.2.2.2.2.2.1
    by_cases hl : (n : Int) < A 0 5
    · left
      refine ⟨hl, ?_⟩
      obtain ⟨y1, y2, y3⟩ := hyes hl
      have ec := M1.2.2.2.1.2.1 n (by omega) hl
      have ew := M1.2.2.2.1.2.2 n (by omega) hl
      obtain ⟨f1, f2, f3, f4, f5, f6, f7⟩ := hg n (by omega) hl
      rcases r_oneIn (d := d) (P := m) hV (q_like_r A) hg M1 (t := n) (by omega) hl (by omega) y3 (fun _ => y2) v4 x4 with ⟨-, w2, e2, M2, o2⟩ | ⟨h, -⟩
      · refine ⟨w2, ?_, M2, sR_t o1 o2⟩
        refine Eq.trans ?_ e2
        conv => lhs; rw [kb_216_2]
        simp (disch := omega) only [g13, ec, ew, x2, x3, ev_iload, ev_aload, rx_istore, ev_iinc, ev_push, ev_iadd, ev_imul, rx_idiv, rx_irem, ev_goto, ev_jsr, rx_ige_t, rx_ige_f, rx_zeq_t, rx_zeq_f, ev_getf, ev_putf, ev_putl, ev_iald, ev_callv, nr_i, nr_r, nr_l, nr_n, kA_47, kA_48, kA_49, kA_50, kA_51, kA_52, kA_53, kA_54, kA_55, kA_56, kA_57, kA_58, kA_59, kA_60, kA_61, kA_63, kA_64, kA_65, kA_66, kA_67, kA_68, kA_69, kA_70, rx_zret_t, rx_zretI, rx_zretP, kb_216_0, kb_216_82, kb_216_83, kb_216_124, kb_216_130, kb_216_136, kr_216, kf_46_717, kf_46_718, kf_46_719, kf_46_720, kk_46_756, kk_46_757, kk_46_758, List.getD_cons_zero, List.getD_cons_succ, List.set_cons_zero, List.set_cons_succ, ex_spl, ex_low, Option.toList, List.cons_append, List.nil_append, reduceIte, Int.reduceToNat, Nat.reduceDiv, Nat.reduceMod, Nat.reduceAdd, Nat.reduceMul, z_0, z_1, z_10, z_01, reduceCtorEq, ite_true, ite_false, true_and, and_true, ↓bI_01, ↓bP_01, ↓zret0, ↓zret1, z_add, z_sub, z_mul, up_1, up_2, not_true, not_false_iff, if_true, if_false, bI_T, bI_F, bP_T, bP_F, or_true, true_or, or_false, false_or, Int.reduceNeg, Int.reduceAdd, Int.reduceSub, Int.reduceMul, Int.reduceEq, Int.reduceLT, Int.reduceLE, Int.natCast_add, Int.cast_ofNat_Int]
      · exact absurd y1 h
    · right
      refine ⟨hl, w1, ?_, M1, o1⟩
      rw [kb_216_2]
      simp (disch := omega) only [g13, ev_iload, ev_aload, rx_istore, ev_iinc, ev_push, ev_iadd, ev_imul, rx_idiv, rx_irem, ev_goto, ev_jsr, rx_ige_t, rx_ige_f, rx_zeq_t, rx_zeq_f, ev_getf, ev_putf, ev_putl, ev_iald, ev_callv, nr_i, nr_r, nr_l, nr_n, kA_47, kA_48, kA_49, kA_50, kA_51, kA_52, kA_53, kA_54, kA_55, kA_56, kA_57, kA_58, kA_59, kA_60, kA_61, kA_63, kA_64, kA_65, kA_66, kA_67, kA_68, kA_69, kA_70, rx_zret_t, rx_zretI, rx_zretP, kb_216_0, kb_216_82, kb_216_83, kb_216_124, kb_216_130, kb_216_136, kr_216, kf_46_717, kf_46_718, kf_46_719, kf_46_720, kk_46_756, kk_46_757, kk_46_758, List.getD_cons_zero, List.getD_cons_succ, List.set_cons_zero, List.set_cons_succ, ex_spl, ex_low, Option.toList, List.cons_append, List.nil_append, reduceIte, Int.reduceToNat, Nat.reduceDiv, Nat.reduceMod, Nat.reduceAdd, Nat.reduceMul, z_0, z_1, z_10, z_01, reduceCtorEq, ite_true, ite_false, true_and, and_true, ↓bI_01, ↓bP_01, ↓zret0, ↓zret1, z_add, z_sub, z_mul, up_1, up_2, not_true, not_false_iff, if_true, if_false, bI_T, bI_F, bP_T, bP_F, or_true, true_or, or_false, false_or, Int.reduceNeg, Int.reduceAdd, Int.reduceSub, Int.reduceMul, Int.reduceEq, Int.reduceLT, Int.reduceLE, Int.natCast_add, Int.cast_ofNat_Int]
theorem r_second {d : Nat} {A B : AS} {w : PW} (hV : q_v0 A) (hl : q_like A B) (hg : ∀ t, 0 ≤ t → t < A 0 5 → q_gr B t) (hM : rN B 0 w) {f : Int} (f0 : 0 ≤ f) {n m : Nat} (hn0 : f < (n : Int)) (hn : (n : Int) ≤ A 0 5) (hno : ∀ t : Int, f < t → t < n → ∀ i : Int, 0 ≤ i → i < 96 → ¬ q_O B t i) (hyes : (n : Int) < A 0 5 → m < 96 ∧ q_O B n m ∧ ∀ i : Int, 0 ≤ i → i < m → ¬ q_O B n i) : ((n : Int) < A 0 5 ∧ ∃ w2, ex_cal (d + 13) 217 [.ref 46, .int (Int32.ofInt f)] w = some (some (.int (Int32.ofInt 1)), ex_up (ex_up w2 46 55 (Int32.ofInt (n : Int))) 46 56 (Int32.ofInt (m : Int))) ∧ rN B 0 w2 ∧ sR w w2) ∨ (¬ (n : Int) < A 0 5 ∧ ∃ w2, ex_cal (d + 13) 217 [.ref 46, .int (Int32.ofInt f)] w = some (some (.int (Int32.ofInt 0)), w2) ∧ rN B 0 w2 ∧ sR w w2) := by
  have hr := q_rng hV
  have hb5 : B 0 5 = A 0 5 := by rw [hl.1 0 (by omega)]
  have hb15 : B 0 15 = A 0 15 := by rw [hl.1 0 (by omega)]
  rw [ke_217 kc_46]
  simp (disch := omega) only [ev_iload, ev_aload, rx_istore, ev_iinc, ev_push, ev_iadd, ev_imul, rx_idiv, rx_irem, ev_goto, ev_jsr, rx_ige_t, rx_ige_f, rx_zeq_t, rx_zeq_f, ev_getf, ev_putf, ev_putl, ev_iald, ev_callv, nr_i, nr_r, nr_l, nr_n, kA_47, kA_48, kA_49, kA_50, kA_51, kA_52, kA_53, kA_54, kA_55, kA_56, kA_57, kA_58, kA_59, kA_60, kA_61, kA_63, kA_64, kA_65, kA_66, kA_67, kA_68, kA_69, kA_70, rx_zret_t, rx_zretI, rx_zretP, kb_217_0, kb_217_89, kb_217_90, kb_217_127, kb_217_133, kb_217_139, kr_217, kf_46_717, kf_46_718, kf_46_719, kf_46_720, kk_46_759, kk_46_760, List.getD_cons_zero, List.getD_cons_succ, List.set_cons_zero, List.set_cons_succ, ex_spl, ex_low, Option.toList, List.cons_append, List.nil_append, reduceIte, Int.reduceToNat, Nat.reduceDiv, Nat.reduceMod, Nat.reduceAdd, Nat.reduceMul, z_0, z_1, z_10, z_01, reduceCtorEq, ite_true, ite_false, true_and, and_true, ↓bI_01, ↓bP_01, ↓zret0, ↓zret1, z_add, z_sub, z_mul, up_1, up_2, not_true, not_false_iff, if_true, if_false, bI_T, bI_F, bP_T, bP_F, or_true, true_or, or_false, false_or, Int.reduceNeg, Int.reduceAdd, Int.reduceSub, Int.reduceMul, Int.reduceEq, Int.reduceLT, Int.reduceLE, Int.natCast_add, Int.cast_ofNat_Int]
  refine ex_loop (Q := fun q => ((n : Int) < A 0 5 ∧ ∃ w2, q = some (some (.int (Int32.ofInt 1)), ex_up (ex_up w2 46 55 (Int32.ofInt (n : Int))) 46 56 (Int32.ofInt (m : Int))) ∧ rN B 0 w2 ∧ sR w w2) ∨ (¬ (n : Int) < A 0 5 ∧ ∃ w2, q = some (some (.int (Int32.ofInt 0)), w2) ∧ rN B 0 w2 ∧ sR w w2)) (fun i s => ∃ w1 v2 v3 v4, s = (ex_blk 217 4, [.ref 46, .int (Int32.ofInt f), .int (Int32.ofInt (f + 1 + (i : Int))), v2, v3, v4], [], w1) ∧ xv v2 ∧ xv v3 ∧ xv v4 ∧ rN B 0 w1 ∧ sR w w1) ((n : Int) - f - 1).toNat ?_ ?_ ?_
  · exact ⟨w, .null, .null, .null, by rw [show f + 1 + ((0 : Nat) : Int) = f + 1 by omega], xv_n, xv_n, xv_n, hM, sR_r w⟩
  · rintro i s hi ⟨w1, v2, v3, v4, rfl, x2, x3, x4, M1, o1⟩
    right
    have ei : f + 1 + ((i + 1 : Nat) : Int) = f + 1 + (i : Int) + 1 := by omega
    rw [ei]
    generalize ht : f + 1 + (i : Int) = t at *
    have g13 := M1.1.2.2.2.2.2.1
    have ec := M1.2.2.2.1.2.1 t (by omega) (by omega)
    have ew := M1.2.2.2.1.2.2 t (by omega) (by omega)
    obtain ⟨f1, f2, f3, f4, f5, f6, f7⟩ := hg t (by omega) (by omega)
    rcases r_secIn (d := d) (P := 96) hV hl hg M1 (t := t) (f := f) (by omega) (by omega) (Nat.le_refl _) (fun j j0 j1 => hno t (by omega) (by omega) j j0 (by omega)) (fun h => absurd h (by omega)) v4 x4 with ⟨h, -⟩ | ⟨-, w2, z3, z4, e2, y3, y4, M2, o2⟩
    · omega
    · refine ⟨(ex_blk 217 4, [.ref 46, .int (Int32.ofInt f), .int (Int32.ofInt (t + 1)), .int (Int32.ofInt (4 * B 5 (5 * t + 1) + B 5 (5 * t + 2))), z3, z4], [], w2), ?_, w2, _, z3, z4, rfl, xv_i _, y3, y4, M2, sR_t o1 o2⟩
      refine Eq.trans ?_ e2
      conv => lhs; rw [kb_217_4]
      simp (disch := omega) only [g13, ec, ew, x2, x3, ev_iload, ev_aload, rx_istore, ev_iinc, ev_push, ev_iadd, ev_imul, rx_idiv, rx_irem, ev_goto, ev_jsr, rx_ige_t, rx_ige_f, rx_zeq_t, rx_zeq_f, ev_getf, ev_putf, ev_putl, ev_iald, ev_callv, nr_i, nr_r, nr_l, nr_n, kA_47, kA_48, kA_49, kA_50, kA_51, kA_52, kA_53, kA_54, kA_55, kA_56, kA_57, kA_58, kA_59, kA_60, kA_61, kA_63, kA_64, kA_65, kA_66, kA_67, kA_68, kA_69, kA_70, rx_zret_t, rx_zretI, rx_zretP, kb_217_0, kb_217_89, kb_217_90, kb_217_127, kb_217_133, kb_217_139, kr_217, kf_46_717, kf_46_718, kf_46_719, kf_46_720, kk_46_759, kk_46_760, List.getD_cons_zero, List.getD_cons_succ, List.set_cons_zero, List.set_cons_succ, ex_spl, ex_low, Option.toList, List.cons_append, List.nil_append, reduceIte, Int.reduceToNat, Nat.reduceDiv, Nat.reduceMod, Nat.reduceAdd, Nat.reduceMul, z_0, z_1, z_10, z_01, reduceCtorEq, ite_true, ite_false, true_and, and_true, ↓bI_01, ↓bP_01, ↓zret0, ↓zret1, z_add, z_sub, z_mul, up_1, up_2, not_true, not_false_iff, if_true, if_false, bI_T, bI_F, bP_T, bP_F, or_true, true_or, or_false, false_or, Int.reduceNeg, Int.reduceAdd, Int.reduceSub, Int.reduceMul, Int.reduceEq, Int.reduceLT, Int.reduceLE, Int.natCast_add, Int.cast_ofNat_Int]
  · rintro s ⟨w1, v2, v3, v4, rfl, x2, x3, x4, M1, o1⟩
    have ei : f + 1 + ((((n : Int) - f - 1).toNat : Nat) : Int) = n := by omega
    rw [ei]
    have g13 := M1.1.2.2.2.2.2.1
    by_cases hln : (n : Int) < A 0 5
    · left
      refine ⟨hln, ?_⟩
      obtain ⟨y1, y2, y3⟩ := hyes hln
      have ec := M1.2.2.2.1.2.1 n (by omega) (by omega)
      have ew := M1.2.2.2.1.2.2 n (by omega) (by omega)
      obtain ⟨f1, f2, f3, f4, f5, f6, f7⟩ := hg n (by omega) hln
      rcases r_secIn (d := d) (P := m) hV hl hg M1 (t := n) (f := f) (by omega) hln (by omega) y3 (fun _ => y2) v4 x4 with ⟨-, w2, e2, M2, o2⟩ | ⟨h, -⟩
      · refine ⟨w2, ?_, M2, sR_t o1 o2⟩
        refine Eq.trans ?_ e2
        conv => lhs; rw [kb_217_4]
        simp (disch := omega) only [g13, ec, ew, x2, x3, ev_iload, ev_aload, rx_istore, ev_iinc, ev_push, ev_iadd, ev_imul, rx_idiv, rx_irem, ev_goto, ev_jsr, rx_ige_t, rx_ige_f, rx_zeq_t, rx_zeq_f, ev_getf, ev_putf, ev_putl, ev_iald, ev_callv, nr_i, nr_r, nr_l, nr_n, kA_47, kA_48, kA_49, kA_50, kA_51, kA_52, kA_53, kA_54, kA_55, kA_56, kA_57, kA_58, kA_59, kA_60, kA_61, kA_63, kA_64, kA_65, kA_66, kA_67, kA_68, kA_69, kA_70, rx_zret_t, rx_zretI, rx_zretP, kb_217_0, kb_217_89, kb_217_90, kb_217_127, kb_217_133, kb_217_139, kr_217, kf_46_717, kf_46_718, kf_46_719, kf_46_720, kk_46_759, kk_46_760, List.getD_cons_zero, List.getD_cons_succ, List.set_cons_zero, List.set_cons_succ, ex_spl, ex_low, Option.toList, List.cons_append, List.nil_append, reduceIte, Int.reduceToNat, Nat.reduceDiv, Nat.reduceMod, Nat.reduceAdd, Nat.reduceMul, z_0, z_1, z_10, z_01, reduceCtorEq, ite_true, ite_false, true_and, and_true, ↓bI_01, ↓bP_01, ↓zret0, ↓zret1, z_add, z_sub, z_mul, up_1, up_2, not_true, not_false_iff, if_true, if_false, bI_T, bI_F, bP_T, bP_F, or_true, true_or, or_false, false_or, Int.reduceNeg, Int.reduceAdd, Int.reduceSub, Int.reduceMul, Int.reduceEq, Int.reduceLT, Int.reduceLE, Int.natCast_add, Int.cast_ofNat_Int]
      · exact absurd y1 h
    · right
      refine ⟨hln, w1, ?_, M1, o1⟩
      rw [kb_217_4]
      simp (disch := omega) only [g13, ev_iload, ev_aload, rx_istore, ev_iinc, ev_push, ev_iadd, ev_imul, rx_idiv, rx_irem, ev_goto, ev_jsr, rx_ige_t, rx_ige_f, rx_zeq_t, rx_zeq_f, ev_getf, ev_putf, ev_putl, ev_iald, ev_callv, nr_i, nr_r, nr_l, nr_n, kA_47, kA_48, kA_49, kA_50, kA_51, kA_52, kA_53, kA_54, kA_55, kA_56, kA_57, kA_58, kA_59, kA_60, kA_61, kA_63, kA_64, kA_65, kA_66, kA_67, kA_68, kA_69, kA_70, rx_zret_t, rx_zretI, rx_zretP, kb_217_0, kb_217_89, kb_217_90, kb_217_127, kb_217_133, kb_217_139, kr_217, kf_46_717, kf_46_718, kf_46_719, kf_46_720, kk_46_759, kk_46_760, List.getD_cons_zero, List.getD_cons_succ, List.set_cons_zero, List.set_cons_succ, ex_spl, ex_low, Option.toList, List.cons_append, List.nil_append, reduceIte, Int.reduceToNat, Nat.reduceDiv, Nat.reduceMod, Nat.reduceAdd, Nat.reduceMul, z_0, z_1, z_10, z_01, reduceCtorEq, ite_true, ite_false, true_and, and_true, ↓bI_01, ↓bP_01, ↓zret0, ↓zret1, z_add, z_sub, z_mul, up_1, up_2, not_true, not_false_iff, if_true, if_false, bI_T, bI_F, bP_T, bP_F, or_true, true_or, or_false, false_or, Int.reduceNeg, Int.reduceAdd, Int.reduceSub, Int.reduceMul, Int.reduceEq, Int.reduceLT, Int.reduceLE, Int.natCast_add, Int.cast_ofNat_Int]
/-- a first one so that a second one does it -/
def q_R2 (A : AS) (t p : Int) : Prop := q_ip A t p ∧ ∃ u, t < u ∧ u < A 0 5 ∧ ∃ i, 0 ≤ i ∧ i < 96 ∧ q_O (q_mv A t (p / 4) (p % 4)) u i
theorem rN_56 {A : AS} {b : Int} {w : PW} {k : Nat} {x : Int32} (h : rN A b w) (hk : 52 ≤ k ∧ k < 58) : rN A b (ex_up w 46 k x) := rN_cg h (sM_46 _ _ _ (by omega))
theorem r_twoIn {d : Nat} {A : AS} {w : PW} (hV : q_v0 A) (hM : rN A 0 w) {t : Int} (t0 : 0 ≤ t) (t1 : t < A 0 5) {P U M : Nat} (hP : P ≤ 96) (hno : ∀ i : Int, 0 ≤ i → i < P → ¬ q_R2 A t i) (hyes : P < 96 → q_ip A t P ∧ t < (U : Int) ∧ (U : Int) < A 0 5 ∧ (∀ u : Int, t < u → u < U → ∀ i : Int, 0 ≤ i → i < 96 → ¬ q_O (q_mv A t ((P : Int) / 4) ((P : Int) % 4)) u i) ∧ M < 96 ∧ q_O (q_mv A t ((P : Int) / 4) ((P : Int) % 4)) U M ∧ ∀ i : Int, 0 ≤ i → i < M → ¬ q_O (q_mv A t ((P : Int) / 4) ((P : Int) % 4)) U i) (u4 : Value) (y4 : xv u4) : (fun q => (P < 96 ∧ ∃ w2, q = some (some (.int (Int32.ofInt 1)), ex_up (ex_up (ex_up w2 46 52 (Int32.ofInt 2)) 46 53 (Int32.ofInt t)) 46 54 (Int32.ofInt (P : Int))) ∧ rN A 0 w2 ∧ w2.1 46 55 = Int32.ofInt (U : Int) ∧ w2.1 46 56 = Int32.ofInt (M : Int) ∧ ∀ a k, ¬ (55 ≤ a ∧ a < 58) → a < 69 → ¬ (a = 46 ∧ (k = 55 ∨ k = 56)) → w2.1 a k = w.1 a k) ∨ (¬ P < 96 ∧ ∃ w2 v3 v4, q = ex_ev (d + 13) (ex_cal (d + 13)) 218 (ex_blk 218 2, [.ref 46, .int (Int32.ofInt (t + 1)), .int (Int32.ofInt (4 * A 5 (5 * t + 1) + A 5 (5 * t + 2))), v3, v4], [], w2) ∧ xv v3 ∧ xv v4 ∧ rN A 0 w2 ∧ sR w w2)) (ex_ev (d + 13) (ex_cal (d + 13)) 218 (ex_blk 218 28, [.ref 46, .int (Int32.ofInt t), .int (Int32.ofInt (4 * A 5 (5 * t + 1) + A 5 (5 * t + 2))), .int (Int32.ofInt 0), u4], [], w)) := by
  have hr := q_rng hV
  have hg : ∀ t, 0 ≤ t → t < A 0 5 → q_gr A t := fun t t0 t1 => q_gr_v hV t0 t1
  obtain ⟨g1, g2, g3, g4, g5, g6, g7⟩ := hg t t0 t1
  have hPn : P < 96 → (P : Int) < 4 * A 0 15 := by
    intro h
    have := q_ip_r hV.1 (hyes h).1
    omega
  have z1 : (4 * A 5 (5 * t + 1) + A 5 (5 * t + 2)) / 4 = A 5 (5 * t + 1) := by omega
  have z2 : (4 * A 5 (5 * t + 1) + A 5 (5 * t + 2)) % 4 = A 5 (5 * t + 2) := by omega
  have fin : ∀ (c v : Int) (w2 : PW), rN (q_mv A t c v) 0 w2 → ∃ w3, ex_cal (d + 13) 198 [.ref 46, .int (Int32.ofInt t), .int (Int32.ofInt (A 5 (5 * t))), .int (Int32.ofInt (A 5 (5 * t + 1))), .int (Int32.ofInt (A 5 (5 * t + 2)))] w2 = some (none, w3) ∧ rN A 0 w3 ∧ sR w2 w3 ∧ w2.1 55 t.toNat = Int32.ofInt (A 5 (5 * t)) := by
    intro c v w2 hM2
    have h := rN_mv (c := A 5 (5 * t + 1)) (v := A 5 (5 * t + 2)) hM2 t0 (by show t < A 0 5; omega)
    rw [q_mv_mv, q_mv_id, q_mv_k] at h
    have hk := hM2.2.2.2.1.1 t t0 (by show t < A 0 5; omega)
    rw [q_mv_k] at hk
    exact ⟨_, r_put (d := d + 12) t0 (by omega), h, sR_t (sR_t (sR_u (by omega)) (sR_u (by omega))) (sR_u (by omega)), hk⟩
  have ini : ∀ (w1 : PW) (p : Int), rN A 0 w1 → q_ip A t p → ∃ w2, ex_cal (d + 13) 198 [.ref 46, .int (Int32.ofInt t), .int (Int32.ofInt (A 5 (5 * t))), .int (Int32.ofInt (p / 4)), .int (Int32.ofInt (p % 4))] w1 = some (none, w2) ∧ rN (q_mv A t (p / 4) (p % 4)) 0 w2 ∧ sR w1 w2 ∧ ∀ x, 0 ≤ x → x < A 0 5 → q_gr (q_mv A t (p / 4) (p % 4)) x := by
    intro w1 p M1 h1
    obtain ⟨i1, i2, i3, i4, i5⟩ := q_ip_r hV.1 h1
    exact ⟨_, r_put (d := d + 12) t0 (by omega), rN_mv M1 t0 t1, sR_t (sR_t (sR_u (by omega)) (sR_u (by omega))) (sR_u (by omega)), q_gr_mv2 hg i1 i2 (by omega) (by omega) i3⟩
  refine ex_loop (Q := fun q => (P < 96 ∧ ∃ w2, q = some (some (.int (Int32.ofInt 1)), ex_up (ex_up (ex_up w2 46 52 (Int32.ofInt 2)) 46 53 (Int32.ofInt t)) 46 54 (Int32.ofInt (P : Int))) ∧ rN A 0 w2 ∧ w2.1 46 55 = Int32.ofInt (U : Int) ∧ w2.1 46 56 = Int32.ofInt (M : Int) ∧ ∀ a k, ¬ (55 ≤ a ∧ a < 58) → a < 69 → ¬ (a = 46 ∧ (k = 55 ∨ k = 56)) → w2.1 a k = w.1 a k) ∨ (¬ P < 96 ∧ ∃ w2 v3 v4, q = ex_ev (d + 13) (ex_cal (d + 13)) 218 (ex_blk 218 2, [.ref 46, .int (Int32.ofInt (t + 1)), .int (Int32.ofInt (4 * A 5 (5 * t + 1) + A 5 (5 * t + 2))), v3, v4], [], w2) ∧ xv v3 ∧ xv v4 ∧ rN A 0 w2 ∧ sR w w2)) (fun i s => ∃ w1 v4, s = (ex_blk 218 28, [.ref 46, .int (Int32.ofInt t), .int (Int32.ofInt (4 * A 5 (5 * t + 1) + A 5 (5 * t + 2))), .int (Int32.ofInt (i : Int)), v4], [], w1) ∧ xv v4 ∧ rN A 0 w1 ∧ sR w w1) (if P < 96 then P else (4 * A 0 15).toNat) ?_ ?_ ?_
  · exact ⟨w, u4, rfl, y4, hM, sR_r w⟩
  · rintro i s hi ⟨w1, v4, rfl, x4, M1, o1⟩
    right
    have hiP : (i : Int) < P ∧ (i : Int) < 4 * A 0 15 := by
      by_cases h : P < 96
      · rw [if_pos h] at hi; have := hPn h; omega
      · rw [if_neg h] at hi; omega
    have hn := hno i (by omega) hiP.1
    have ecl := r_cells (d := d + 12) hV.1 M1
    have epl := r_isPlace (d := d + 9) hV.1 M1 (by omega) (t := t) (p := i) t0 t1 (hg t t0 t1) (by omega) hiP.2
    have ek := M1.2.2.2.1.1 t t0 t1
    by_cases h1 : q_ip A t i
    · rw [bP_t h1] at epl
      obtain ⟨w2, e2, M2, o2, hg2⟩ := ini w1 i M1 h1
      rcases r_second (d := d) (m := 0) hV (q_like_mv (q_like_r A)) hg2 M2 t0 (n := (A 0 5).toNat) (by omega) (by omega) (fun u u0 u1 j j0 j1 hO => hn ⟨h1, u, u0, by omega, j, j0, j1, hO⟩) (fun h => absurd h (by omega)) with ⟨h, -⟩ | ⟨-, w3, e3, M3, o3⟩
      · omega
      · obtain ⟨w4, e4, M4, o4, k3⟩ := fin _ _ w3 M3
        refine ⟨(ex_blk 218 28, [.ref 46, .int (Int32.ofInt t), .int (Int32.ofInt (4 * A 5 (5 * t + 1) + A 5 (5 * t + 2))), .int (Int32.ofInt ((i : Int) + 1)), .int (Int32.ofInt 0)], [], w4), ?_, w4, _, rfl, xv_i _, M4, sR_t o1 (sR_t o2 (sR_t o3 o4))⟩
        conv => lhs; rw [kb_218_28]
        simp (disch := omega) only [ecl, epl, ek, e2, e3, e4, k3, z1, z2, x4, ev_iload, ev_aload, rx_istore, ev_iinc, ev_push, ev_iadd, ev_imul, rx_idiv, rx_irem, ev_goto, ev_jsr, rx_ige_t, rx_ige_f, rx_zeq_t, rx_zeq_f, ev_getf, ev_putf, ev_putl, ev_iald, ev_callv, nr_i, nr_r, nr_l, nr_n, kA_47, kA_48, kA_49, kA_50, kA_51, kA_52, kA_53, kA_54, kA_55, kA_56, kA_57, kA_58, kA_59, kA_60, kA_61, kA_63, kA_64, kA_65, kA_66, kA_67, kA_68, kA_69, kA_70, rx_zret_t, rx_zretI, rx_zretP, kb_218_0, kb_218_110, kb_218_116, kb_218_122, kr_218, kf_46_717, kf_46_718, kf_46_719, kf_46_720, kk_46_756, kk_46_757, kk_46_758, List.getD_cons_zero, List.getD_cons_succ, List.set_cons_zero, List.set_cons_succ, ex_spl, ex_low, Option.toList, List.cons_append, List.nil_append, reduceIte, Int.reduceToNat, Nat.reduceDiv, Nat.reduceMod, Nat.reduceAdd, Nat.reduceMul, z_0, z_1, z_10, z_01, reduceCtorEq, ite_true, ite_false, true_and, and_true, ↓bI_01, ↓bP_01, ↓zret0, ↓zret1, z_add, z_sub, z_mul, up_1, up_2, not_true, not_false_iff, if_true, if_false, bI_T, bI_F, bP_T, bP_F, or_true, true_or, or_false, false_or, Int.reduceNeg, Int.reduceAdd, Int.reduceSub, Int.reduceMul, Int.reduceEq, Int.reduceLT, Int.reduceLE, Int.natCast_add, Int.cast_ofNat_Int]
    · rw [bP_f h1] at epl
      refine ⟨(ex_blk 218 28, [.ref 46, .int (Int32.ofInt t), .int (Int32.ofInt (4 * A 5 (5 * t + 1) + A 5 (5 * t + 2))), .int (Int32.ofInt ((i : Int) + 1)), v4], [], w1), ?_, w1, v4, rfl, x4, M1, o1⟩
      conv => lhs; rw [kb_218_28]
      simp (disch := omega) only [ecl, epl, x4, ev_iload, ev_aload, rx_istore, ev_iinc, ev_push, ev_iadd, ev_imul, rx_idiv, rx_irem, ev_goto, ev_jsr, rx_ige_t, rx_ige_f, rx_zeq_t, rx_zeq_f, ev_getf, ev_putf, ev_putl, ev_iald, ev_callv, nr_i, nr_r, nr_l, nr_n, kA_47, kA_48, kA_49, kA_50, kA_51, kA_52, kA_53, kA_54, kA_55, kA_56, kA_57, kA_58, kA_59, kA_60, kA_61, kA_63, kA_64, kA_65, kA_66, kA_67, kA_68, kA_69, kA_70, rx_zret_t, rx_zretI, rx_zretP, kb_218_0, kb_218_110, kb_218_116, kb_218_122, kr_218, kf_46_717, kf_46_718, kf_46_719, kf_46_720, kk_46_756, kk_46_757, kk_46_758, List.getD_cons_zero, List.getD_cons_succ, List.set_cons_zero, List.set_cons_succ, ex_spl, ex_low, Option.toList, List.cons_append, List.nil_append, reduceIte, Int.reduceToNat, Nat.reduceDiv, Nat.reduceMod, Nat.reduceAdd, Nat.reduceMul, z_0, z_1, z_10, z_01, reduceCtorEq, ite_true, ite_false, true_and, and_true, ↓bI_01, ↓bP_01, ↓zret0, ↓zret1, z_add, z_sub, z_mul, up_1, up_2, not_true, not_false_iff, if_true, if_false, bI_T, bI_F, bP_T, bP_F, or_true, true_or, or_false, false_or, Int.reduceNeg, Int.reduceAdd, Int.reduceSub, Int.reduceMul, Int.reduceEq, Int.reduceLT, Int.reduceLE, Int.natCast_add, Int.cast_ofNat_Int]
  · rintro s ⟨w1, v4, rfl, x4, M1, o1⟩
    have ecl := r_cells (d := d + 12) hV.1 M1
    by_cases h96 : P < 96
    · left
      refine ⟨h96, ?_⟩
      rw [if_pos h96]
      have hPN := hPn h96
      obtain ⟨h1, y1, y2, y3, y5, y6, y8⟩ := hyes h96
      have epl := r_isPlace (d := d + 9) hV.1 M1 (by omega) (t := t) (p := P) t0 t1 (hg t t0 t1) (by omega) hPN
      have ek := M1.2.2.2.1.1 t t0 t1
      rw [bP_t h1] at epl
      obtain ⟨w2, e2, M2, o2, hg2⟩ := ini w1 P M1 h1
      rcases r_second (d := d) (m := M) hV (q_like_mv (q_like_r A)) hg2 M2 t0 (n := U) y1 (by omega) y3 (fun _ => ⟨y5, y6, y8⟩) with ⟨-, w3, e3, M3, o3⟩ | ⟨h, -⟩
      · obtain ⟨w4, e4, M4, o4, k3⟩ := fin _ _ (ex_up (ex_up w3 46 55 (Int32.ofInt (U : Int))) 46 56 (Int32.ofInt (M : Int))) (rN_56 (rN_56 M3 (by omega)) (by omega))
        refine ⟨w4, ?_, M4, ?_, ?_, fun a k h1 h2 h3 => ?_⟩
        · rw [kb_218_28]
          simp (disch := omega) only [ecl, epl, ek, e2, e3, e4, k3, z1, z2, x4, ev_iload, ev_aload, rx_istore, ev_iinc, ev_push, ev_iadd, ev_imul, rx_idiv, rx_irem, ev_goto, ev_jsr, rx_ige_t, rx_ige_f, rx_zeq_t, rx_zeq_f, ev_getf, ev_putf, ev_putl, ev_iald, ev_callv, nr_i, nr_r, nr_l, nr_n, kA_47, kA_48, kA_49, kA_50, kA_51, kA_52, kA_53, kA_54, kA_55, kA_56, kA_57, kA_58, kA_59, kA_60, kA_61, kA_63, kA_64, kA_65, kA_66, kA_67, kA_68, kA_69, kA_70, rx_zret_t, rx_zretI, rx_zretP, kb_218_0, kb_218_110, kb_218_116, kb_218_122, kr_218, kf_46_717, kf_46_718, kf_46_719, kf_46_720, kk_46_756, kk_46_757, kk_46_758, List.getD_cons_zero, List.getD_cons_succ, List.set_cons_zero, List.set_cons_succ, ex_spl, ex_low, Option.toList, List.cons_append, List.nil_append, reduceIte, Int.reduceToNat, Nat.reduceDiv, Nat.reduceMod, Nat.reduceAdd, Nat.reduceMul, z_0, z_1, z_10, z_01, reduceCtorEq, ite_true, ite_false, true_and, and_true, ↓bI_01, ↓bP_01, ↓zret0, ↓zret1, z_add, z_sub, z_mul, up_1, up_2, not_true, not_false_iff, if_true, if_false, bI_T, bI_F, bP_T, bP_F, or_true, true_or, or_false, false_or, Int.reduceNeg, Int.reduceAdd, Int.reduceSub, Int.reduceMul, Int.reduceEq, Int.reduceLT, Int.reduceLE, Int.natCast_add, Int.cast_ofNat_Int]
        · rw [o4 _ _ (by omega) (by omega), up_n (by omega), up_e (by omega)]
        · rw [o4 _ _ (by omega) (by omega), up_e (by omega)]
        · rw [o4 _ _ h1 h2, up_n (by omega), up_n (by omega)]
          exact sR_t o1 (sR_t o2 o3) a k h1 h2
      · exact absurd y2 h
    · right
      refine ⟨h96, ?_⟩
      rw [if_neg h96, Int.toNat_of_nonneg (by omega)]
      refine ⟨w1, .int (Int32.ofInt (4 * A 0 15)), v4, ?_, xv_i _, x4, M1, o1⟩
      conv => lhs; rw [kb_218_28]
      simp (disch := omega) only [ecl, ev_iload, ev_aload, rx_istore, ev_iinc, ev_push, ev_iadd, ev_imul, rx_idiv, rx_irem, ev_goto, ev_jsr, rx_ige_t, rx_ige_f, rx_zeq_t, rx_zeq_f, ev_getf, ev_putf, ev_putl, ev_iald, ev_callv, nr_i, nr_r, nr_l, nr_n, kA_47, kA_48, kA_49, kA_50, kA_51, kA_52, kA_53, kA_54, kA_55, kA_56, kA_57, kA_58, kA_59, kA_60, kA_61, kA_63, kA_64, kA_65, kA_66, kA_67, kA_68, kA_69, kA_70, rx_zret_t, rx_zretI, rx_zretP, kb_218_0, kb_218_110, kb_218_116, kb_218_122, kr_218, kf_46_717, kf_46_718, kf_46_719, kf_46_720, kk_46_756, kk_46_757, kk_46_758, List.getD_cons_zero, List.getD_cons_succ, List.set_cons_zero, List.set_cons_succ, ex_spl, ex_low, Option.toList, List.cons_append, List.nil_append, reduceIte, Int.reduceToNat, Nat.reduceDiv, Nat.reduceMod, Nat.reduceAdd, Nat.reduceMul, z_0, z_1, z_10, z_01, reduceCtorEq, ite_true, ite_false, true_and, and_true, ↓bI_01, ↓bP_01, ↓zret0, ↓zret1, z_add, z_sub, z_mul, up_1, up_2, not_true, not_false_iff, if_true, if_false, bI_T, bI_F, bP_T, bP_F, or_true, true_or, or_false, false_or, Int.reduceNeg, Int.reduceAdd, Int.reduceSub, Int.reduceMul, Int.reduceEq, Int.reduceLT, Int.reduceLE, Int.natCast_add, Int.cast_ofNat_Int]
theorem r_two {d : Nat} {A : AS} {w : PW} (hV : q_v0 A) (hM : rN A 0 w) {N P U M : Nat} (hN : (N : Int) ≤ A 0 5) (hno : ∀ t : Int, 0 ≤ t → t < N → ∀ i : Int, 0 ≤ i → i < 96 → ¬ q_R2 A t i) (hyes : (N : Int) < A 0 5 → P < 96 ∧ (∀ i : Int, 0 ≤ i → i < P → ¬ q_R2 A N i) ∧ q_ip A N P ∧ (N : Int) < (U : Int) ∧ (U : Int) < A 0 5 ∧ (∀ u : Int, (N : Int) < u → u < U → ∀ i : Int, 0 ≤ i → i < 96 → ¬ q_O (q_mv A N ((P : Int) / 4) ((P : Int) % 4)) u i) ∧ M < 96 ∧ q_O (q_mv A N ((P : Int) / 4) ((P : Int) % 4)) U M ∧ ∀ i : Int, 0 ≤ i → i < M → ¬ q_O (q_mv A N ((P : Int) / 4) ((P : Int) % 4)) U i) : ((N : Int) < A 0 5 ∧ ∃ w2, ex_cal (d + 14) 218 [.ref 46] w = some (some (.int (Int32.ofInt 1)), ex_up (ex_up (ex_up w2 46 52 (Int32.ofInt 2)) 46 53 (Int32.ofInt (N : Int))) 46 54 (Int32.ofInt (P : Int))) ∧ rN A 0 w2 ∧ w2.1 46 55 = Int32.ofInt (U : Int) ∧ w2.1 46 56 = Int32.ofInt (M : Int) ∧ ∀ a k, ¬ (55 ≤ a ∧ a < 58) → a < 69 → ¬ (a = 46 ∧ (k = 55 ∨ k = 56)) → w2.1 a k = w.1 a k) ∨ (¬ (N : Int) < A 0 5 ∧ ∃ w2, ex_cal (d + 14) 218 [.ref 46] w = some (some (.int (Int32.ofInt 0)), w2) ∧ rN A 0 w2 ∧ sR w w2) := by
  have hr := q_rng hV
  have hg : ∀ t, 0 ≤ t → t < A 0 5 → q_gr A t := fun t t0 t1 => q_gr_v hV t0 t1
  rw [ke_218 kc_46]
  simp (disch := omega) only [ev_iload, ev_aload, rx_istore, ev_iinc, ev_push, ev_iadd, ev_imul, rx_idiv, rx_irem, ev_goto, ev_jsr, rx_ige_t, rx_ige_f, rx_zeq_t, rx_zeq_f, ev_getf, ev_putf, ev_putl, ev_iald, ev_callv, nr_i, nr_r, nr_l, nr_n, kA_47, kA_48, kA_49, kA_50, kA_51, kA_52, kA_53, kA_54, kA_55, kA_56, kA_57, kA_58, kA_59, kA_60, kA_61, kA_63, kA_64, kA_65, kA_66, kA_67, kA_68, kA_69, kA_70, rx_zret_t, rx_zretI, rx_zretP, kb_218_0, kb_218_110, kb_218_116, kb_218_122, kr_218, kf_46_717, kf_46_718, kf_46_719, kf_46_720, kk_46_756, kk_46_757, kk_46_758, List.getD_cons_zero, List.getD_cons_succ, List.set_cons_zero, List.set_cons_succ, ex_spl, ex_low, Option.toList, List.cons_append, List.nil_append, reduceIte, Int.reduceToNat, Nat.reduceDiv, Nat.reduceMod, Nat.reduceAdd, Nat.reduceMul, z_0, z_1, z_10, z_01, reduceCtorEq, ite_true, ite_false, true_and, and_true, ↓bI_01, ↓bP_01, ↓zret0, ↓zret1, z_add, z_sub, z_mul, up_1, up_2, not_true, not_false_iff, if_true, if_false, bI_T, bI_F, bP_T, bP_F, or_true, true_or, or_false, false_or, Int.reduceNeg, Int.reduceAdd, Int.reduceSub, Int.reduceMul, Int.reduceEq, Int.reduceLT, Int.reduceLE, Int.natCast_add, Int.cast_ofNat_Int]
  refine ex_loop (Q := fun q => ((N : Int) < A 0 5 ∧ ∃ w2, q = some (some (.int (Int32.ofInt 1)), ex_up (ex_up (ex_up w2 46 52 (Int32.ofInt 2)) 46 53 (Int32.ofInt (N : Int))) 46 54 (Int32.ofInt (P : Int))) ∧ rN A 0 w2 ∧ w2.1 46 55 = Int32.ofInt (U : Int) ∧ w2.1 46 56 = Int32.ofInt (M : Int) ∧ ∀ a k, ¬ (55 ≤ a ∧ a < 58) → a < 69 → ¬ (a = 46 ∧ (k = 55 ∨ k = 56)) → w2.1 a k = w.1 a k) ∨ (¬ (N : Int) < A 0 5 ∧ ∃ w2, q = some (some (.int (Int32.ofInt 0)), w2) ∧ rN A 0 w2 ∧ sR w w2)) (fun i s => ∃ w1 v2 v3 v4, s = (ex_blk 218 2, [.ref 46, .int (Int32.ofInt (i : Int)), v2, v3, v4], [], w1) ∧ xv v2 ∧ xv v3 ∧ xv v4 ∧ rN A 0 w1 ∧ sR w w1) N ?_ ?_ ?_
  · exact ⟨w, .null, .null, .null, rfl, xv_n, xv_n, xv_n, hM, sR_r w⟩
  · rintro i s hi ⟨w1, v2, v3, v4, rfl, x2, x3, x4, M1, o1⟩
    right
    have g13 := M1.1.2.2.2.2.2.1
    have ec := M1.2.2.2.1.2.1 i (by omega) (by omega)
    have ew := M1.2.2.2.1.2.2 i (by omega) (by omega)
    obtain ⟨f1, f2, f3, f4, f5, f6, f7⟩ := hg i (by omega) (by omega)
    rcases r_twoIn (d := d) (P := 96) (U := 0) (M := 0) hV M1 (t := i) (by omega) (by omega) (Nat.le_refl _) (fun j j0 j1 => hno i (by omega) (by omega) j j0 (by omega)) (fun h => absurd h (by omega)) v4 x4 with ⟨h, -⟩ | ⟨-, w2, z3, z4, e2, y3, y4, M2, o2⟩
    · omega
    · refine ⟨(ex_blk 218 2, [.ref 46, .int (Int32.ofInt ((i : Int) + 1)), .int (Int32.ofInt (4 * A 5 (5 * (i : Int) + 1) + A 5 (5 * (i : Int) + 2))), z3, z4], [], w2), ?_, w2, _, z3, z4, rfl, xv_i _, y3, y4, M2, sR_t o1 o2⟩
      refine Eq.trans ?_ e2
      conv => lhs; rw [kb_218_2]
      simp (disch := omega) only [g13, ec, ew, x2, x3, ev_iload, ev_aload, rx_istore, ev_iinc, ev_push, ev_iadd, ev_imul, rx_idiv, rx_irem, ev_goto, ev_jsr, rx_ige_t, rx_ige_f, rx_zeq_t, rx_zeq_f, ev_getf, ev_putf, ev_putl, ev_iald, ev_callv, nr_i, nr_r, nr_l, nr_n, kA_47, kA_48, kA_49, kA_50, kA_51, kA_52, kA_53, kA_54, kA_55, kA_56, kA_57, kA_58, kA_59, kA_60, kA_61, kA_63, kA_64, kA_65, kA_66, kA_67, kA_68, kA_69, kA_70, rx_zret_t, rx_zretI, rx_zretP, kb_218_0, kb_218_110, kb_218_116, kb_218_122, kr_218, kf_46_717, kf_46_718, kf_46_719, kf_46_720, kk_46_756, kk_46_757, kk_46_758, List.getD_cons_zero, List.getD_cons_succ, List.set_cons_zero, List.set_cons_succ, ex_spl, ex_low, Option.toList, List.cons_append, List.nil_append, reduceIte, Int.reduceToNat, Nat.reduceDiv, Nat.reduceMod, Nat.reduceAdd, Nat.reduceMul, z_0, z_1, z_10, z_01, reduceCtorEq, ite_true, ite_false, true_and, and_true, ↓bI_01, ↓bP_01, ↓zret0, ↓zret1, z_add, z_sub, z_mul, up_1, up_2, not_true, not_false_iff, if_true, if_false, bI_T, bI_F, bP_T, bP_F, or_true, true_or, or_false, false_or, Int.reduceNeg, Int.reduceAdd, Int.reduceSub, Int.reduceMul, Int.reduceEq, Int.reduceLT, Int.reduceLE, Int.natCast_add, Int.cast_ofNat_Int]
  · rintro s ⟨w1, v2, v3, v4, rfl, x2, x3, x4, M1, o1⟩
    have g13 := M1.1.2.2.2.2.2.1
    by_cases hl : (N : Int) < A 0 5
    · left
      refine ⟨hl, ?_⟩
      obtain ⟨y1, y2, y3⟩ := hyes hl
      have ec := M1.2.2.2.1.2.1 N (by omega) hl
      have ew := M1.2.2.2.1.2.2 N (by omega) hl
      obtain ⟨f1, f2, f3, f4, f5, f6, f7⟩ := hg N (by omega) hl
      rcases r_twoIn (d := d) (P := P) (U := U) (M := M) hV M1 (t := N) (by omega) hl (by omega) y2 (fun _ => y3) v4 x4 with ⟨-, w2, e2, M2, k1, k2, o2⟩ | ⟨h, -⟩
      · refine ⟨w2, ?_, M2, k1, k2, fun a k h1 h2 h3 => (o2 a k h1 h2 h3).trans (o1 a k h1 h2)⟩
        refine Eq.trans ?_ e2
        conv => lhs; rw [kb_218_2]
        simp (disch := omega) only [g13, ec, ew, x2, x3, ev_iload, ev_aload, rx_istore, ev_iinc, ev_push, ev_iadd, ev_imul, rx_idiv, rx_irem, ev_goto, ev_jsr, rx_ige_t, rx_ige_f, rx_zeq_t, rx_zeq_f, ev_getf, ev_putf, ev_putl, ev_iald, ev_callv, nr_i, nr_r, nr_l, nr_n, kA_47, kA_48, kA_49, kA_50, kA_51, kA_52, kA_53, kA_54, kA_55, kA_56, kA_57, kA_58, kA_59, kA_60, kA_61, kA_63, kA_64, kA_65, kA_66, kA_67, kA_68, kA_69, kA_70, rx_zret_t, rx_zretI, rx_zretP, kb_218_0, kb_218_110, kb_218_116, kb_218_122, kr_218, kf_46_717, kf_46_718, kf_46_719, kf_46_720, kk_46_756, kk_46_757, kk_46_758, List.getD_cons_zero, List.getD_cons_succ, List.set_cons_zero, List.set_cons_succ, ex_spl, ex_low, Option.toList, List.cons_append, List.nil_append, reduceIte, Int.reduceToNat, Nat.reduceDiv, Nat.reduceMod, Nat.reduceAdd, Nat.reduceMul, z_0, z_1, z_10, z_01, reduceCtorEq, ite_true, ite_false, true_and, and_true, ↓bI_01, ↓bP_01, ↓zret0, ↓zret1, z_add, z_sub, z_mul, up_1, up_2, not_true, not_false_iff, if_true, if_false, bI_T, bI_F, bP_T, bP_F, or_true, true_or, or_false, false_or, Int.reduceNeg, Int.reduceAdd, Int.reduceSub, Int.reduceMul, Int.reduceEq, Int.reduceLT, Int.reduceLE, Int.natCast_add, Int.cast_ofNat_Int]
      · exact absurd y1 h
    · right
      refine ⟨hl, w1, ?_, M1, o1⟩
      rw [kb_218_2]
      simp (disch := omega) only [g13, ev_iload, ev_aload, rx_istore, ev_iinc, ev_push, ev_iadd, ev_imul, rx_idiv, rx_irem, ev_goto, ev_jsr, rx_ige_t, rx_ige_f, rx_zeq_t, rx_zeq_f, ev_getf, ev_putf, ev_putl, ev_iald, ev_callv, nr_i, nr_r, nr_l, nr_n, kA_47, kA_48, kA_49, kA_50, kA_51, kA_52, kA_53, kA_54, kA_55, kA_56, kA_57, kA_58, kA_59, kA_60, kA_61, kA_63, kA_64, kA_65, kA_66, kA_67, kA_68, kA_69, kA_70, rx_zret_t, rx_zretI, rx_zretP, kb_218_0, kb_218_110, kb_218_116, kb_218_122, kr_218, kf_46_717, kf_46_718, kf_46_719, kf_46_720, kk_46_756, kk_46_757, kk_46_758, List.getD_cons_zero, List.getD_cons_succ, List.set_cons_zero, List.set_cons_succ, ex_spl, ex_low, Option.toList, List.cons_append, List.nil_append, reduceIte, Int.reduceToNat, Nat.reduceDiv, Nat.reduceMod, Nat.reduceAdd, Nat.reduceMul, z_0, z_1, z_10, z_01, reduceCtorEq, ite_true, ite_false, true_and, and_true, ↓bI_01, ↓bP_01, ↓zret0, ↓zret1, z_add, z_sub, z_mul, up_1, up_2, not_true, not_false_iff, if_true, if_false, bI_T, bI_F, bP_T, bP_F, or_true, true_or, or_false, false_or, Int.reduceNeg, Int.reduceAdd, Int.reduceSub, Int.reduceMul, Int.reduceEq, Int.reduceLT, Int.reduceLE, Int.natCast_add, Int.cast_ofNat_Int]
