/-! kept(): anywhere; a habit; all of them -/
theorem r_anyWays {d : Nat} {A : AS} {w : PW} (hV : q_v0 A) (hM : rN A 0 w) {a hr c : Int} (a0 : 3 ≤ a) (a1 : a < 6) (r0 : 0 ≤ hr) (r1 : hr < 24) (c0 : 0 ≤ c) (c1 : c < A 0 15) (hw : ¬ A 1 c = 1) (hf : q_ta A c = -1) : ∃ w2 v5, ex_ev (d + 9) (ex_cal (d + 9)) 210 (ex_blk 210 38, [.ref 46, .int (Int32.ofInt a), .int (Int32.ofInt hr), .int (Int32.ofInt 0), .int (Int32.ofInt c), .int (Int32.ofInt 0)], [], w) = ex_ev (d + 9) (ex_cal (d + 9)) 210 (ex_blk 210 83, [.ref 46, .int (Int32.ofInt a), .int (Int32.ofInt hr), .int (bP (q_ex (q_kany A a hr c) 4)), .int (Int32.ofInt c), v5], [], w2) ∧ xv v5 ∧ sQ w w2 := by
  have hrr := q_rng hV
  have hpo := q_po_r a
  have epo : q_po a = if a = 4 then 2 else 0 := by unfold q_po; rw [if_neg (by omega)]
  refine ex_loop (Q := fun q => ∃ w2 v5, q = ex_ev (d + 9) (ex_cal (d + 9)) 210 (ex_blk 210 83, [.ref 46, .int (Int32.ofInt a), .int (Int32.ofInt hr), .int (bP (q_ex (q_kany A a hr c) 4)), .int (Int32.ofInt c), v5], [], w2) ∧ xv v5 ∧ sQ w w2) (fun j s => ∃ w2, s = (ex_blk 210 38, [.ref 46, .int (Int32.ofInt a), .int (Int32.ofInt hr), .int (Int32.ofInt 0), .int (Int32.ofInt c), .int (Int32.ofInt (j : Int))], [], w2) ∧ sQ w w2 ∧ ¬ q_ex (q_kany A a hr c) j) 4 ?_ ?_ ?_
  · exact ⟨w, rfl, sQ_r w, q_ex_0⟩
  · rintro j s hj ⟨w1, rfl, o1, hno⟩
    have hM1 := rN_q hM o1
    obtain ⟨w2, e2, o2⟩ := r_againstBy (d := d) hV hM1 (a := a) (h := hr) (p := q_po a) (c := c) (v := j) (by omega) (by omega) r0 r1 (by omega) (by omega) c0 c1 (by omega) (by omega) (by omega) (by omega)
    by_cases hz : q_br A 0 a hr (q_po a) c j = Int32.ofInt 0
    · left
      rw [hz] at e2
      have hy : q_ex (q_kany A a hr c) 4 := ⟨j, by omega, by omega, hw, hf, hz⟩
      refine ⟨w2, .int (Int32.ofInt ((j : Int) + 1)), ?_, xv_i _, sQ_t o1 o2⟩
      rw [bP_t hy]
      have hh : ex_ev (d + 9) (ex_cal (d + 9)) 210 (ex_blk 210 38, [.ref 46, .int (Int32.ofInt a), .int (Int32.ofInt hr), .int (Int32.ofInt 0), .int (Int32.ofInt c), .int (Int32.ofInt (j : Int))], [], w1) = ex_ev (d + 9) (ex_cal (d + 9)) 210 (ex_blk 210 38, [.ref 46, .int (Int32.ofInt a), .int (Int32.ofInt hr), .int (Int32.ofInt 1), .int (Int32.ofInt c), .int (Int32.ofInt ((j : Int) + 1))], [], w2) := by
        conv => lhs; rw [kb_210_38]
        rw [epo] at e2
        by_cases h4 : a = 4
        · rw [if_pos h4] at e2
          simp (disch := omega) only [e2, ev_iload, ev_aload, rx_istore, ev_iinc, ev_push, ev_goto, ev_jsr, rx_ieq_t, rx_ieq_f, rx_ine_t, rx_ine_f, rx_ige_t, rx_ige_f, rx_zne_t, rx_zne_f, ev_getf, ev_iald, ev_callv, nr_i, nr_r, nr_l, nr_n, kA_47, kA_48, kA_49, kA_50, kA_51, kA_52, kA_53, kA_54, kA_55, kA_56, kA_57, kA_58, kA_59, kA_60, kA_61, kA_63, kA_64, kA_65, kA_66, kA_67, kA_68, kA_69, kA_70, rx_zret_t, rx_zretI, rx_zretP, kb_210_0, kb_210_60, kb_210_61, kb_210_75, kb_210_76, kb_210_89, kr_210, kf_46_707, List.getD_cons_zero, List.getD_cons_succ, List.set_cons_zero, List.set_cons_succ, ex_spl, ex_low, Option.toList, List.cons_append, List.nil_append, reduceIte, Int.reduceToNat, Nat.reduceDiv, Nat.reduceMod, Nat.reduceAdd, Nat.reduceMul, z_0, z_1, z_10, z_01, reduceCtorEq, ite_true, ite_false, true_and, and_true, ↓bI_01, ↓bP_01, ↓zret0, ↓zret1, z_add, z_sub, z_mul, up_1, up_2, not_true, not_false_iff, if_true, if_false, bI_T, bI_F, bP_T, bP_F, or_true, true_or, or_false, false_or, Int.reduceNeg, Int.reduceAdd, Int.reduceSub, Int.reduceMul, Int.reduceEq, Int.reduceLT, Int.reduceLE, Int.natCast_add, Int.cast_ofNat_Int]
        · rw [if_neg h4] at e2
          simp (disch := omega) only [e2, ev_iload, ev_aload, rx_istore, ev_iinc, ev_push, ev_goto, ev_jsr, rx_ieq_t, rx_ieq_f, rx_ine_t, rx_ine_f, rx_ige_t, rx_ige_f, rx_zne_t, rx_zne_f, ev_getf, ev_iald, ev_callv, nr_i, nr_r, nr_l, nr_n, kA_47, kA_48, kA_49, kA_50, kA_51, kA_52, kA_53, kA_54, kA_55, kA_56, kA_57, kA_58, kA_59, kA_60, kA_61, kA_63, kA_64, kA_65, kA_66, kA_67, kA_68, kA_69, kA_70, rx_zret_t, rx_zretI, rx_zretP, kb_210_0, kb_210_60, kb_210_61, kb_210_75, kb_210_76, kb_210_89, kr_210, kf_46_707, List.getD_cons_zero, List.getD_cons_succ, List.set_cons_zero, List.set_cons_succ, ex_spl, ex_low, Option.toList, List.cons_append, List.nil_append, reduceIte, Int.reduceToNat, Nat.reduceDiv, Nat.reduceMod, Nat.reduceAdd, Nat.reduceMul, z_0, z_1, z_10, z_01, reduceCtorEq, ite_true, ite_false, true_and, and_true, ↓bI_01, ↓bP_01, ↓zret0, ↓zret1, z_add, z_sub, z_mul, up_1, up_2, not_true, not_false_iff, if_true, if_false, bI_T, bI_F, bP_T, bP_F, or_true, true_or, or_false, false_or, Int.reduceNeg, Int.reduceAdd, Int.reduceSub, Int.reduceMul, Int.reduceEq, Int.reduceLT, Int.reduceLE, Int.natCast_add, Int.cast_ofNat_Int]
      rw [hh]
      conv => lhs; rw [kb_210_38]
      by_cases hj4 : (j : Int) + 1 < 4
      · simp (disch := omega) only [ev_iload, ev_aload, rx_istore, ev_iinc, ev_push, ev_goto, ev_jsr, rx_ieq_t, rx_ieq_f, rx_ine_t, rx_ine_f, rx_ige_t, rx_ige_f, rx_zne_t, rx_zne_f, ev_getf, ev_iald, ev_callv, nr_i, nr_r, nr_l, nr_n, kA_47, kA_48, kA_49, kA_50, kA_51, kA_52, kA_53, kA_54, kA_55, kA_56, kA_57, kA_58, kA_59, kA_60, kA_61, kA_63, kA_64, kA_65, kA_66, kA_67, kA_68, kA_69, kA_70, rx_zret_t, rx_zretI, rx_zretP, kb_210_0, kb_210_60, kb_210_61, kb_210_75, kb_210_76, kb_210_89, kr_210, kf_46_707, List.getD_cons_zero, List.getD_cons_succ, List.set_cons_zero, List.set_cons_succ, ex_spl, ex_low, Option.toList, List.cons_append, List.nil_append, reduceIte, Int.reduceToNat, Nat.reduceDiv, Nat.reduceMod, Nat.reduceAdd, Nat.reduceMul, z_0, z_1, z_10, z_01, reduceCtorEq, ite_true, ite_false, true_and, and_true, ↓bI_01, ↓bP_01, ↓zret0, ↓zret1, z_add, z_sub, z_mul, up_1, up_2, not_true, not_false_iff, if_true, if_false, bI_T, bI_F, bP_T, bP_F, or_true, true_or, or_false, false_or, Int.reduceNeg, Int.reduceAdd, Int.reduceSub, Int.reduceMul, Int.reduceEq, Int.reduceLT, Int.reduceLE, Int.natCast_add, Int.cast_ofNat_Int]
      · simp (disch := omega) only [ev_iload, ev_aload, rx_istore, ev_iinc, ev_push, ev_goto, ev_jsr, rx_ieq_t, rx_ieq_f, rx_ine_t, rx_ine_f, rx_ige_t, rx_ige_f, rx_zne_t, rx_zne_f, ev_getf, ev_iald, ev_callv, nr_i, nr_r, nr_l, nr_n, kA_47, kA_48, kA_49, kA_50, kA_51, kA_52, kA_53, kA_54, kA_55, kA_56, kA_57, kA_58, kA_59, kA_60, kA_61, kA_63, kA_64, kA_65, kA_66, kA_67, kA_68, kA_69, kA_70, rx_zret_t, rx_zretI, rx_zretP, kb_210_0, kb_210_60, kb_210_61, kb_210_75, kb_210_76, kb_210_89, kr_210, kf_46_707, List.getD_cons_zero, List.getD_cons_succ, List.set_cons_zero, List.set_cons_succ, ex_spl, ex_low, Option.toList, List.cons_append, List.nil_append, reduceIte, Int.reduceToNat, Nat.reduceDiv, Nat.reduceMod, Nat.reduceAdd, Nat.reduceMul, z_0, z_1, z_10, z_01, reduceCtorEq, ite_true, ite_false, true_and, and_true, ↓bI_01, ↓bP_01, ↓zret0, ↓zret1, z_add, z_sub, z_mul, up_1, up_2, not_true, not_false_iff, if_true, if_false, bI_T, bI_F, bP_T, bP_F, or_true, true_or, or_false, false_or, Int.reduceNeg, Int.reduceAdd, Int.reduceSub, Int.reduceMul, Int.reduceEq, Int.reduceLT, Int.reduceLE, Int.natCast_add, Int.cast_ofNat_Int]
    · right
      have hno2 : ¬ q_ex (q_kany A a hr c) ((j + 1 : Nat) : Int) := q_ex_f hno fun hh => hz hh.2.2
      refine ⟨(ex_blk 210 38, [.ref 46, .int (Int32.ofInt a), .int (Int32.ofInt hr), .int (Int32.ofInt 0), .int (Int32.ofInt c), .int (Int32.ofInt ((j : Int) + 1))], [], w2), ?_, w2, rfl, sQ_t o1 o2, hno2⟩
      generalize q_br A 0 a hr (q_po a) c j = z at *
      rw [epo] at e2
      conv => lhs; rw [kb_210_38]
      by_cases h4 : a = 4
      · rw [if_pos h4] at e2
        simp (disch := omega) only [e2, rx_xne_t hz, ev_iload, ev_aload, rx_istore, ev_iinc, ev_push, ev_goto, ev_jsr, rx_ieq_t, rx_ieq_f, rx_ine_t, rx_ine_f, rx_ige_t, rx_ige_f, rx_zne_t, rx_zne_f, ev_getf, ev_iald, ev_callv, nr_i, nr_r, nr_l, nr_n, kA_47, kA_48, kA_49, kA_50, kA_51, kA_52, kA_53, kA_54, kA_55, kA_56, kA_57, kA_58, kA_59, kA_60, kA_61, kA_63, kA_64, kA_65, kA_66, kA_67, kA_68, kA_69, kA_70, rx_zret_t, rx_zretI, rx_zretP, kb_210_0, kb_210_60, kb_210_61, kb_210_75, kb_210_76, kb_210_89, kr_210, kf_46_707, List.getD_cons_zero, List.getD_cons_succ, List.set_cons_zero, List.set_cons_succ, ex_spl, ex_low, Option.toList, List.cons_append, List.nil_append, reduceIte, Int.reduceToNat, Nat.reduceDiv, Nat.reduceMod, Nat.reduceAdd, Nat.reduceMul, z_0, z_1, z_10, z_01, reduceCtorEq, ite_true, ite_false, true_and, and_true, ↓bI_01, ↓bP_01, ↓zret0, ↓zret1, z_add, z_sub, z_mul, up_1, up_2, not_true, not_false_iff, if_true, if_false, bI_T, bI_F, bP_T, bP_F, or_true, true_or, or_false, false_or, Int.reduceNeg, Int.reduceAdd, Int.reduceSub, Int.reduceMul, Int.reduceEq, Int.reduceLT, Int.reduceLE, Int.natCast_add, Int.cast_ofNat_Int]
      · rw [if_neg h4] at e2
        simp (disch := omega) only [e2, rx_xne_t hz, ev_iload, ev_aload, rx_istore, ev_iinc, ev_push, ev_goto, ev_jsr, rx_ieq_t, rx_ieq_f, rx_ine_t, rx_ine_f, rx_ige_t, rx_ige_f, rx_zne_t, rx_zne_f, ev_getf, ev_iald, ev_callv, nr_i, nr_r, nr_l, nr_n, kA_47, kA_48, kA_49, kA_50, kA_51, kA_52, kA_53, kA_54, kA_55, kA_56, kA_57, kA_58, kA_59, kA_60, kA_61, kA_63, kA_64, kA_65, kA_66, kA_67, kA_68, kA_69, kA_70, rx_zret_t, rx_zretI, rx_zretP, kb_210_0, kb_210_60, kb_210_61, kb_210_75, kb_210_76, kb_210_89, kr_210, kf_46_707, List.getD_cons_zero, List.getD_cons_succ, List.set_cons_zero, List.set_cons_succ, ex_spl, ex_low, Option.toList, List.cons_append, List.nil_append, reduceIte, Int.reduceToNat, Nat.reduceDiv, Nat.reduceMod, Nat.reduceAdd, Nat.reduceMul, z_0, z_1, z_10, z_01, reduceCtorEq, ite_true, ite_false, true_and, and_true, ↓bI_01, ↓bP_01, ↓zret0, ↓zret1, z_add, z_sub, z_mul, up_1, up_2, not_true, not_false_iff, if_true, if_false, bI_T, bI_F, bP_T, bP_F, or_true, true_or, or_false, false_or, Int.reduceNeg, Int.reduceAdd, Int.reduceSub, Int.reduceMul, Int.reduceEq, Int.reduceLT, Int.reduceLE, Int.natCast_add, Int.cast_ofNat_Int]
  · rintro s ⟨w1, rfl, o1, hno⟩
    refine ⟨w1, .int (Int32.ofInt ((4 : Nat) : Int)), ?_, xv_i _, o1⟩
    rw [bP_f (show ¬ q_ex (q_kany A a hr c) 4 from hno)]
    conv => lhs; rw [kb_210_38]
    simp (disch := omega) only [ev_iload, ev_aload, rx_istore, ev_iinc, ev_push, ev_goto, ev_jsr, rx_ieq_t, rx_ieq_f, rx_ine_t, rx_ine_f, rx_ige_t, rx_ige_f, rx_zne_t, rx_zne_f, ev_getf, ev_iald, ev_callv, nr_i, nr_r, nr_l, nr_n, kA_47, kA_48, kA_49, kA_50, kA_51, kA_52, kA_53, kA_54, kA_55, kA_56, kA_57, kA_58, kA_59, kA_60, kA_61, kA_63, kA_64, kA_65, kA_66, kA_67, kA_68, kA_69, kA_70, rx_zret_t, rx_zretI, rx_zretP, kb_210_0, kb_210_60, kb_210_61, kb_210_75, kb_210_76, kb_210_89, kr_210, kf_46_707, List.getD_cons_zero, List.getD_cons_succ, List.set_cons_zero, List.set_cons_succ, ex_spl, ex_low, Option.toList, List.cons_append, List.nil_append, reduceIte, Int.reduceToNat, Nat.reduceDiv, Nat.reduceMod, Nat.reduceAdd, Nat.reduceMul, z_0, z_1, z_10, z_01, reduceCtorEq, ite_true, ite_false, true_and, and_true, ↓bI_01, ↓bP_01, ↓zret0, ↓zret1, z_add, z_sub, z_mul, up_1, up_2, not_true, not_false_iff, if_true, if_false, bI_T, bI_F, bP_T, bP_F, or_true, true_or, or_false, false_or, Int.reduceNeg, Int.reduceAdd, Int.reduceSub, Int.reduceMul, Int.reduceEq, Int.reduceLT, Int.reduceLE, Int.natCast_add, Int.cast_ofNat_Int]
theorem r_any {d : Nat} {A : AS} {w : PW} (hV : q_v0 A) (hM : rN A 0 w) {a hr : Int} (a0 : 3 ≤ a) (a1 : a < 6) (r0 : 0 ≤ hr) (r1 : hr < 24) : ∃ w', ex_cal (d + 10) 210 [.ref 46, .int (Int32.ofInt a), .int (Int32.ofInt hr)] w = some (some (.int (bP (q_ex (fun c => q_ex (q_kany A a hr c) 4) (A 0 15)))), w') ∧ sQ w w' := by
  have hrr := q_rng hV
  rw [ke_210 kc_46]
  simp (disch := omega) only [ev_iload, ev_aload, rx_istore, ev_iinc, ev_push, ev_goto, ev_jsr, rx_ieq_t, rx_ieq_f, rx_ine_t, rx_ine_f, rx_ige_t, rx_ige_f, rx_zne_t, rx_zne_f, ev_getf, ev_iald, ev_callv, nr_i, nr_r, nr_l, nr_n, kA_47, kA_48, kA_49, kA_50, kA_51, kA_52, kA_53, kA_54, kA_55, kA_56, kA_57, kA_58, kA_59, kA_60, kA_61, kA_63, kA_64, kA_65, kA_66, kA_67, kA_68, kA_69, kA_70, rx_zret_t, rx_zretI, rx_zretP, kb_210_0, kb_210_60, kb_210_61, kb_210_75, kb_210_76, kb_210_89, kr_210, kf_46_707, List.getD_cons_zero, List.getD_cons_succ, List.set_cons_zero, List.set_cons_succ, ex_spl, ex_low, Option.toList, List.cons_append, List.nil_append, reduceIte, Int.reduceToNat, Nat.reduceDiv, Nat.reduceMod, Nat.reduceAdd, Nat.reduceMul, z_0, z_1, z_10, z_01, reduceCtorEq, ite_true, ite_false, true_and, and_true, ↓bI_01, ↓bP_01, ↓zret0, ↓zret1, z_add, z_sub, z_mul, up_1, up_2, not_true, not_false_iff, if_true, if_false, bI_T, bI_F, bP_T, bP_F, or_true, true_or, or_false, false_or, Int.reduceNeg, Int.reduceAdd, Int.reduceSub, Int.reduceMul, Int.reduceEq, Int.reduceLT, Int.reduceLE, Int.natCast_add, Int.cast_ofNat_Int]
  refine ex_loop (Q := fun q => ∃ w', q = some (some (.int (bP (q_ex (fun c => q_ex (q_kany A a hr c) 4) (A 0 15)))), w') ∧ sQ w w') (fun i s => ∃ w1 v5, s = (ex_blk 210 5, [.ref 46, .int (Int32.ofInt a), .int (Int32.ofInt hr), .int (bP (q_ex (fun c => q_ex (q_kany A a hr c) 4) i)), .int (Int32.ofInt (i : Int)), v5], [], w1) ∧ xv v5 ∧ sQ w w1) (A 0 15).toNat ?_ ?_ ?_
  · exact ⟨w, .null, by rw [q_ex_z]; rfl, xv_n, sQ_r w⟩
  · rintro i s hi ⟨w1, v5, rfl, x5, o1⟩
    right
    have hM1 := rN_q hM o1
    have ecl := r_cells (d := d + 8) hV.1 hM1
    have es := hM1.2.1.1 i (by omega) (by omega)
    have hk := q_kd hV.1 (c := i) (by omega) (by omega)
    have et := r_thingAt (d := d + 4) hV.1 hM1 hV.2.2.2.1 (c := (i : Int)) (by omega) (by omega)
    have hta := q_ta_3 hV.2.2.2.1 (A := A) i
    by_cases hop : ¬ A 1 i = 1 ∧ q_ta A i = -1
    · obtain ⟨hw, hf⟩ := hop
      rw [hf] at et
      by_cases h1 : q_ex (fun c => q_ex (q_kany A a hr c) 4) i
      · refine ⟨(ex_blk 210 5, [.ref 46, .int (Int32.ofInt a), .int (Int32.ofInt hr), .int (Int32.ofInt 1), .int (Int32.ofInt ((i : Int) + 1)), .int (Int32.ofInt 0)], [], w1), ?_, w1, _, by rw [bP_t (show q_ex (fun c => q_ex (q_kany A a hr c) 4) ((i + 1 : Nat) : Int) from q_ex_t h1)]; rfl, xv_i _, o1⟩
        rw [bP_t h1]
        have hh : ex_ev (d + 9) (ex_cal (d + 9)) 210 (ex_blk 210 38, [.ref 46, .int (Int32.ofInt a), .int (Int32.ofInt hr), .int (Int32.ofInt 1), .int (Int32.ofInt (i : Int)), .int (Int32.ofInt 0)], [], w1) = ex_ev (d + 9) (ex_cal (d + 9)) 210 (ex_blk 210 5, [.ref 46, .int (Int32.ofInt a), .int (Int32.ofInt hr), .int (Int32.ofInt 1), .int (Int32.ofInt ((i : Int) + 1)), .int (Int32.ofInt 0)], [], w1) := by
          conv => lhs; rw [kb_210_38]
          simp (disch := omega) only [ev_iload, ev_aload, rx_istore, ev_iinc, ev_push, ev_goto, ev_jsr, rx_ieq_t, rx_ieq_f, rx_ine_t, rx_ine_f, rx_ige_t, rx_ige_f, rx_zne_t, rx_zne_f, ev_getf, ev_iald, ev_callv, nr_i, nr_r, nr_l, nr_n, kA_47, kA_48, kA_49, kA_50, kA_51, kA_52, kA_53, kA_54, kA_55, kA_56, kA_57, kA_58, kA_59, kA_60, kA_61, kA_63, kA_64, kA_65, kA_66, kA_67, kA_68, kA_69, kA_70, rx_zret_t, rx_zretI, rx_zretP, kb_210_0, kb_210_60, kb_210_61, kb_210_75, kb_210_76, kb_210_83, kb_210_89, kr_210, kf_46_707, List.getD_cons_zero, List.getD_cons_succ, List.set_cons_zero, List.set_cons_succ, ex_spl, ex_low, Option.toList, List.cons_append, List.nil_append, reduceIte, Int.reduceToNat, Nat.reduceDiv, Nat.reduceMod, Nat.reduceAdd, Nat.reduceMul, z_0, z_1, z_10, z_01, reduceCtorEq, ite_true, ite_false, true_and, and_true, ↓bI_01, ↓bP_01, ↓zret0, ↓zret1, z_add, z_sub, z_mul, up_1, up_2, not_true, not_false_iff, if_true, if_false, bI_T, bI_F, bP_T, bP_F, or_true, true_or, or_false, false_or, Int.reduceNeg, Int.reduceAdd, Int.reduceSub, Int.reduceMul, Int.reduceEq, Int.reduceLT, Int.reduceLE, Int.natCast_add, Int.cast_ofNat_Int]
        rw [← hh]
        conv => lhs; rw [kb_210_5]
        simp (disch := omega) only [ecl, es, et, x5, ev_iload, ev_aload, rx_istore, ev_iinc, ev_push, ev_goto, ev_jsr, rx_ieq_t, rx_ieq_f, rx_ine_t, rx_ine_f, rx_ige_t, rx_ige_f, rx_zne_t, rx_zne_f, ev_getf, ev_iald, ev_callv, nr_i, nr_r, nr_l, nr_n, kA_47, kA_48, kA_49, kA_50, kA_51, kA_52, kA_53, kA_54, kA_55, kA_56, kA_57, kA_58, kA_59, kA_60, kA_61, kA_63, kA_64, kA_65, kA_66, kA_67, kA_68, kA_69, kA_70, rx_zret_t, rx_zretI, rx_zretP, kb_210_0, kb_210_60, kb_210_61, kb_210_75, kb_210_76, kb_210_89, kr_210, kf_46_707, List.getD_cons_zero, List.getD_cons_succ, List.set_cons_zero, List.set_cons_succ, ex_spl, ex_low, Option.toList, List.cons_append, List.nil_append, reduceIte, Int.reduceToNat, Nat.reduceDiv, Nat.reduceMod, Nat.reduceAdd, Nat.reduceMul, z_0, z_1, z_10, z_01, reduceCtorEq, ite_true, ite_false, true_and, and_true, ↓bI_01, ↓bP_01, ↓zret0, ↓zret1, z_add, z_sub, z_mul, up_1, up_2, not_true, not_false_iff, if_true, if_false, bI_T, bI_F, bP_T, bP_F, or_true, true_or, or_false, false_or, Int.reduceNeg, Int.reduceAdd, Int.reduceSub, Int.reduceMul, Int.reduceEq, Int.reduceLT, Int.reduceLE, Int.natCast_add, Int.cast_ofNat_Int]
      · rw [bP_f h1]
        obtain ⟨w2, z5, e2, y5, o2⟩ := r_anyWays (d := d) hV hM1 a0 a1 r0 r1 (c := i) (by omega) (by omega) hw hf
        have hiff : q_ex (fun c => q_ex (q_kany A a hr c) 4) ((i + 1 : Nat) : Int) ↔ q_ex (q_kany A a hr i) 4 := by
          constructor
          · intro h2
            exact Classical.byContradiction fun h3 => q_ex_f h1 h3 h2
          · intro h2
            exact q_ex_i (P := fun c => q_ex (q_kany A a hr c) 4) (by omega) h2
        refine ⟨(ex_blk 210 5, [.ref 46, .int (Int32.ofInt a), .int (Int32.ofInt hr), .int (bP (q_ex (q_kany A a hr i) 4)), .int (Int32.ofInt ((i : Int) + 1)), z5], [], w2), ?_, w2, z5, by rw [bP_c hiff]; rfl, y5, sQ_t o1 o2⟩
        have hh : ex_ev (d + 9) (ex_cal (d + 9)) 210 (ex_blk 210 83, [.ref 46, .int (Int32.ofInt a), .int (Int32.ofInt hr), .int (bP (q_ex (q_kany A a hr i) 4)), .int (Int32.ofInt (i : Int)), z5], [], w2) = ex_ev (d + 9) (ex_cal (d + 9)) 210 (ex_blk 210 5, [.ref 46, .int (Int32.ofInt a), .int (Int32.ofInt hr), .int (bP (q_ex (q_kany A a hr i) 4)), .int (Int32.ofInt ((i : Int) + 1)), z5], [], w2) := by
          conv => lhs; rw [kb_210_83]
          simp (disch := omega) only [ev_iload, ev_aload, rx_istore, ev_iinc, ev_push, ev_goto, ev_jsr, rx_ieq_t, rx_ieq_f, rx_ine_t, rx_ine_f, rx_ige_t, rx_ige_f, rx_zne_t, rx_zne_f, ev_getf, ev_iald, ev_callv, nr_i, nr_r, nr_l, nr_n, kA_47, kA_48, kA_49, kA_50, kA_51, kA_52, kA_53, kA_54, kA_55, kA_56, kA_57, kA_58, kA_59, kA_60, kA_61, kA_63, kA_64, kA_65, kA_66, kA_67, kA_68, kA_69, kA_70, rx_zret_t, rx_zretI, rx_zretP, kb_210_0, kb_210_60, kb_210_61, kb_210_75, kb_210_76, kb_210_89, kr_210, kf_46_707, List.getD_cons_zero, List.getD_cons_succ, List.set_cons_zero, List.set_cons_succ, ex_spl, ex_low, Option.toList, List.cons_append, List.nil_append, reduceIte, Int.reduceToNat, Nat.reduceDiv, Nat.reduceMod, Nat.reduceAdd, Nat.reduceMul, z_0, z_1, z_10, z_01, reduceCtorEq, ite_true, ite_false, true_and, and_true, ↓bI_01, ↓bP_01, ↓zret0, ↓zret1, z_add, z_sub, z_mul, up_1, up_2, not_true, not_false_iff, if_true, if_false, bI_T, bI_F, bP_T, bP_F, or_true, true_or, or_false, false_or, Int.reduceNeg, Int.reduceAdd, Int.reduceSub, Int.reduceMul, Int.reduceEq, Int.reduceLT, Int.reduceLE, Int.natCast_add, Int.cast_ofNat_Int]
        rw [← hh, ← e2]
        conv => lhs; rw [kb_210_5]
        simp (disch := omega) only [ecl, es, et, x5, ev_iload, ev_aload, rx_istore, ev_iinc, ev_push, ev_goto, ev_jsr, rx_ieq_t, rx_ieq_f, rx_ine_t, rx_ine_f, rx_ige_t, rx_ige_f, rx_zne_t, rx_zne_f, ev_getf, ev_iald, ev_callv, nr_i, nr_r, nr_l, nr_n, kA_47, kA_48, kA_49, kA_50, kA_51, kA_52, kA_53, kA_54, kA_55, kA_56, kA_57, kA_58, kA_59, kA_60, kA_61, kA_63, kA_64, kA_65, kA_66, kA_67, kA_68, kA_69, kA_70, rx_zret_t, rx_zretI, rx_zretP, kb_210_0, kb_210_60, kb_210_61, kb_210_75, kb_210_76, kb_210_89, kr_210, kf_46_707, List.getD_cons_zero, List.getD_cons_succ, List.set_cons_zero, List.set_cons_succ, ex_spl, ex_low, Option.toList, List.cons_append, List.nil_append, reduceIte, Int.reduceToNat, Nat.reduceDiv, Nat.reduceMod, Nat.reduceAdd, Nat.reduceMul, z_0, z_1, z_10, z_01, reduceCtorEq, ite_true, ite_false, true_and, and_true, ↓bI_01, ↓bP_01, ↓zret0, ↓zret1, z_add, z_sub, z_mul, up_1, up_2, not_true, not_false_iff, if_true, if_false, bI_T, bI_F, bP_T, bP_F, or_true, true_or, or_false, false_or, Int.reduceNeg, Int.reduceAdd, Int.reduceSub, Int.reduceMul, Int.reduceEq, Int.reduceLT, Int.reduceLE, Int.natCast_add, Int.cast_ofNat_Int]
    · have hno : ∀ v, ¬ q_kany A a hr i v := fun v hh => hop ⟨hh.1, hh.2.1⟩
      have hiff : q_ex (fun c => q_ex (q_kany A a hr c) 4) ((i + 1 : Nat) : Int) ↔ q_ex (fun c => q_ex (q_kany A a hr c) 4) i := by
        constructor
        · intro h2
          exact Classical.byContradiction fun h3 => q_ex_f h3 (fun ⟨v, _, _, hv⟩ => hno v hv) h2
        · exact q_ex_t
      refine ⟨(ex_blk 210 5, [.ref 46, .int (Int32.ofInt a), .int (Int32.ofInt hr), .int (bP (q_ex (fun c => q_ex (q_kany A a hr c) 4) i)), .int (Int32.ofInt ((i : Int) + 1)), v5], [], w1), ?_, w1, v5, by rw [bP_c hiff]; rfl, x5, o1⟩
      conv => lhs; rw [kb_210_5]
      by_cases hw : A 1 i = 1
      · simp (disch := omega) only [ecl, es, et, x5, ev_iload, ev_aload, rx_istore, ev_iinc, ev_push, ev_goto, ev_jsr, rx_ieq_t, rx_ieq_f, rx_ine_t, rx_ine_f, rx_ige_t, rx_ige_f, rx_zne_t, rx_zne_f, ev_getf, ev_iald, ev_callv, nr_i, nr_r, nr_l, nr_n, kA_47, kA_48, kA_49, kA_50, kA_51, kA_52, kA_53, kA_54, kA_55, kA_56, kA_57, kA_58, kA_59, kA_60, kA_61, kA_63, kA_64, kA_65, kA_66, kA_67, kA_68, kA_69, kA_70, rx_zret_t, rx_zretI, rx_zretP, kb_210_0, kb_210_60, kb_210_61, kb_210_75, kb_210_76, kb_210_83, kb_210_89, kr_210, kf_46_707, List.getD_cons_zero, List.getD_cons_succ, List.set_cons_zero, List.set_cons_succ, ex_spl, ex_low, Option.toList, List.cons_append, List.nil_append, reduceIte, Int.reduceToNat, Nat.reduceDiv, Nat.reduceMod, Nat.reduceAdd, Nat.reduceMul, z_0, z_1, z_10, z_01, reduceCtorEq, ite_true, ite_false, true_and, and_true, ↓bI_01, ↓bP_01, ↓zret0, ↓zret1, z_add, z_sub, z_mul, up_1, up_2, not_true, not_false_iff, if_true, if_false, bI_T, bI_F, bP_T, bP_F, or_true, true_or, or_false, false_or, Int.reduceNeg, Int.reduceAdd, Int.reduceSub, Int.reduceMul, Int.reduceEq, Int.reduceLT, Int.reduceLE, Int.natCast_add, Int.cast_ofNat_Int]
      · have hf : ¬ q_ta A i = -1 := fun hh => hop ⟨hw, hh⟩
        simp (disch := omega) only [ecl, es, et, x5, ev_iload, ev_aload, rx_istore, ev_iinc, ev_push, ev_goto, ev_jsr, rx_ieq_t, rx_ieq_f, rx_ine_t, rx_ine_f, rx_ige_t, rx_ige_f, rx_zne_t, rx_zne_f, ev_getf, ev_iald, ev_callv, nr_i, nr_r, nr_l, nr_n, kA_47, kA_48, kA_49, kA_50, kA_51, kA_52, kA_53, kA_54, kA_55, kA_56, kA_57, kA_58, kA_59, kA_60, kA_61, kA_63, kA_64, kA_65, kA_66, kA_67, kA_68, kA_69, kA_70, rx_zret_t, rx_zretI, rx_zretP, kb_210_0, kb_210_60, kb_210_61, kb_210_75, kb_210_76, kb_210_83, kb_210_89, kr_210, kf_46_707, List.getD_cons_zero, List.getD_cons_succ, List.set_cons_zero, List.set_cons_succ, ex_spl, ex_low, Option.toList, List.cons_append, List.nil_append, reduceIte, Int.reduceToNat, Nat.reduceDiv, Nat.reduceMod, Nat.reduceAdd, Nat.reduceMul, z_0, z_1, z_10, z_01, reduceCtorEq, ite_true, ite_false, true_and, and_true, ↓bI_01, ↓bP_01, ↓zret0, ↓zret1, z_add, z_sub, z_mul, up_1, up_2, not_true, not_false_iff, if_true, if_false, bI_T, bI_F, bP_T, bP_F, or_true, true_or, or_false, false_or, Int.reduceNeg, Int.reduceAdd, Int.reduceSub, Int.reduceMul, Int.reduceEq, Int.reduceLT, Int.reduceLE, Int.natCast_add, Int.cast_ofNat_Int]
  · rintro s ⟨w1, v5, rfl, x5, o1⟩
    have ecl := r_cells (d := d + 8) hV.1 (rN_q hM o1)
    rw [Int.toNat_of_nonneg (by omega)]
    refine ⟨w1, ?_, o1⟩
    rw [kb_210_5]
    simp (disch := omega) only [ecl, ev_iload, ev_aload, rx_istore, ev_iinc, ev_push, ev_goto, ev_jsr, rx_ieq_t, rx_ieq_f, rx_ine_t, rx_ine_f, rx_ige_t, rx_ige_f, rx_zne_t, rx_zne_f, ev_getf, ev_iald, ev_callv, nr_i, nr_r, nr_l, nr_n, kA_47, kA_48, kA_49, kA_50, kA_51, kA_52, kA_53, kA_54, kA_55, kA_56, kA_57, kA_58, kA_59, kA_60, kA_61, kA_63, kA_64, kA_65, kA_66, kA_67, kA_68, kA_69, kA_70, rx_zret_t, rx_zretI, rx_zretP, kb_210_0, kb_210_60, kb_210_61, kb_210_75, kb_210_76, kb_210_89, kr_210, kf_46_707, List.getD_cons_zero, List.getD_cons_succ, List.set_cons_zero, List.set_cons_succ, ex_spl, ex_low, Option.toList, List.cons_append, List.nil_append, reduceIte, Int.reduceToNat, Nat.reduceDiv, Nat.reduceMod, Nat.reduceAdd, Nat.reduceMul, z_0, z_1, z_10, z_01, reduceCtorEq, ite_true, ite_false, true_and, and_true, ↓bI_01, ↓bP_01, ↓zret0, ↓zret1, z_add, z_sub, z_mul, up_1, up_2, not_true, not_false_iff, if_true, if_false, bI_T, bI_F, bP_T, bP_F, or_true, true_or, or_false, false_or, Int.reduceNeg, Int.reduceAdd, Int.reduceSub, Int.reduceMul, Int.reduceEq, Int.reduceLT, Int.reduceLE, Int.natCast_add, Int.cast_ofNat_Int]
theorem q_ex2 {P : Int → Int → Prop} {n : Int} : q_ex (fun c => q_ex (P c) 4) n ↔ ∃ c v, 0 ≤ c ∧ c < n ∧ 0 ≤ v ∧ v < 4 ∧ P c v := by
  constructor
  · rintro ⟨c, c0, c1, v, v0, v1, h⟩; exact ⟨c, v, c0, c1, v0, v1, h⟩
  · rintro ⟨c, v, c0, c1, v0, v1, h⟩; exact ⟨c, c0, c1, v, v0, v1, h⟩
theorem r_isKeptHabit {d : Nat} {A : AS} {w : PW} (hV : q_v0 A) (hM : rN A 0 w) {h : Int} (h0 : 0 ≤ h) (h1 : h < A 0 6) : ∃ w', ex_cal (d + 11) 211 [.ref 46, .int (Int32.ofInt h)] w = some (some (.int (bP (q_kp A h))), w') ∧ sQ w w' := by
  have hrr := q_rng hV
  have hb := hV.2.2.2.2.2.1.2.2 h h0 h1
  have ea := hM.2.2.2.2.2.1.1 h h0 h1
  have eh := hM.2.2.2.2.2.1.2 h h0 h1
  by_cases ha : A 6 (5 * h) = 0
  · obtain ⟨w1, e1, o1⟩ := r_bed (d := d) hV hM (hr := A 6 (5 * h + 1)) (by omega) (by omega)
    have e : q_ex (q_kbed A (A 6 (5 * h + 1))) (A 0 5) ↔ q_kp A h := by unfold q_kp; rw [if_pos ha]; exact Iff.rfl
    rw [bP_c e] at e1
    refine ⟨w1, ?_, o1⟩
    rw [ke_211 kc_46]
    rw [ha] at ea
    simp (disch := omega) only [ea, eh, e1, ev_iload, ev_aload, rx_istore, ev_push, ev_goto, ev_jsr, rx_ige_t, rx_ige_f, rx_zne_t, rx_zne_f, ev_getf, ev_iald, ev_callv, nr_i, nr_r, nr_l, nr_n, kA_47, kA_48, kA_49, kA_50, kA_51, kA_52, kA_53, kA_54, kA_55, kA_56, kA_57, kA_58, kA_59, kA_60, kA_61, kA_63, kA_64, kA_65, kA_66, kA_67, kA_68, kA_69, kA_70, rx_zret_t, rx_zretI, rx_zretP, kb_211_0, kb_211_27, kb_211_41, kb_211_47, kr_211, kf_46_722, kf_46_723, List.getD_cons_zero, List.getD_cons_succ, List.set_cons_zero, List.set_cons_succ, ex_spl, ex_low, Option.toList, List.cons_append, List.nil_append, reduceIte, Int.reduceToNat, Nat.reduceDiv, Nat.reduceMod, Nat.reduceAdd, Nat.reduceMul, z_0, z_1, z_10, z_01, reduceCtorEq, ite_true, ite_false, true_and, and_true, ↓bI_01, ↓bP_01, ↓zret0, ↓zret1, z_add, z_sub, z_mul, up_1, up_2, not_true, not_false_iff, if_true, if_false, bI_T, bI_F, bP_T, bP_F, or_true, true_or, or_false, false_or, Int.reduceNeg, Int.reduceAdd, Int.reduceSub, Int.reduceMul, Int.reduceEq, Int.reduceLT, Int.reduceLE, Int.natCast_add, Int.cast_ofNat_Int]
  · by_cases h3 : A 6 (5 * h) < 3
    · obtain ⟨w1, e1, o1⟩ := r_at (d := d) hV hM (a := A 6 (5 * h)) (hr := A 6 (5 * h + 1)) (by omega) h3 (by omega) (by omega)
      have e : q_ex (fun c => q_ex (q_kat A (A 6 (5 * h)) (A 6 (5 * h + 1)) c) 4) (A 0 15) ↔ q_kp A h := by unfold q_kp; rw [if_neg ha, if_pos h3]; exact q_ex2
      rw [bP_c e] at e1
      refine ⟨w1, ?_, o1⟩
      rw [ke_211 kc_46]
      simp (disch := omega) only [ea, eh, e1, ev_iload, ev_aload, rx_istore, ev_push, ev_goto, ev_jsr, rx_ige_t, rx_ige_f, rx_zne_t, rx_zne_f, ev_getf, ev_iald, ev_callv, nr_i, nr_r, nr_l, nr_n, kA_47, kA_48, kA_49, kA_50, kA_51, kA_52, kA_53, kA_54, kA_55, kA_56, kA_57, kA_58, kA_59, kA_60, kA_61, kA_63, kA_64, kA_65, kA_66, kA_67, kA_68, kA_69, kA_70, rx_zret_t, rx_zretI, rx_zretP, kb_211_0, kb_211_27, kb_211_41, kb_211_47, kr_211, kf_46_722, kf_46_723, List.getD_cons_zero, List.getD_cons_succ, List.set_cons_zero, List.set_cons_succ, ex_spl, ex_low, Option.toList, List.cons_append, List.nil_append, reduceIte, Int.reduceToNat, Nat.reduceDiv, Nat.reduceMod, Nat.reduceAdd, Nat.reduceMul, z_0, z_1, z_10, z_01, reduceCtorEq, ite_true, ite_false, true_and, and_true, ↓bI_01, ↓bP_01, ↓zret0, ↓zret1, z_add, z_sub, z_mul, up_1, up_2, not_true, not_false_iff, if_true, if_false, bI_T, bI_F, bP_T, bP_F, or_true, true_or, or_false, false_or, Int.reduceNeg, Int.reduceAdd, Int.reduceSub, Int.reduceMul, Int.reduceEq, Int.reduceLT, Int.reduceLE, Int.natCast_add, Int.cast_ofNat_Int]
    · obtain ⟨w1, e1, o1⟩ := r_any (d := d) hV hM (a := A 6 (5 * h)) (hr := A 6 (5 * h + 1)) (by omega) (by omega) (by omega) (by omega)
      have e : q_ex (fun c => q_ex (q_kany A (A 6 (5 * h)) (A 6 (5 * h + 1)) c) 4) (A 0 15) ↔ q_kp A h := by unfold q_kp; rw [if_neg ha, if_neg h3]; exact q_ex2
      rw [bP_c e] at e1
      refine ⟨w1, ?_, o1⟩
      rw [ke_211 kc_46]
      simp (disch := omega) only [ea, eh, e1, ev_iload, ev_aload, rx_istore, ev_push, ev_goto, ev_jsr, rx_ige_t, rx_ige_f, rx_zne_t, rx_zne_f, ev_getf, ev_iald, ev_callv, nr_i, nr_r, nr_l, nr_n, kA_47, kA_48, kA_49, kA_50, kA_51, kA_52, kA_53, kA_54, kA_55, kA_56, kA_57, kA_58, kA_59, kA_60, kA_61, kA_63, kA_64, kA_65, kA_66, kA_67, kA_68, kA_69, kA_70, rx_zret_t, rx_zretI, rx_zretP, kb_211_0, kb_211_27, kb_211_41, kb_211_47, kr_211, kf_46_722, kf_46_723, List.getD_cons_zero, List.getD_cons_succ, List.set_cons_zero, List.set_cons_succ, ex_spl, ex_low, Option.toList, List.cons_append, List.nil_append, reduceIte, Int.reduceToNat, Nat.reduceDiv, Nat.reduceMod, Nat.reduceAdd, Nat.reduceMul, z_0, z_1, z_10, z_01, reduceCtorEq, ite_true, ite_false, true_and, and_true, ↓bI_01, ↓bP_01, ↓zret0, ↓zret1, z_add, z_sub, z_mul, up_1, up_2, not_true, not_false_iff, if_true, if_false, bI_T, bI_F, bP_T, bP_F, or_true, true_or, or_false, false_or, Int.reduceNeg, Int.reduceAdd, Int.reduceSub, Int.reduceMul, Int.reduceEq, Int.reduceLT, Int.reduceLE, Int.natCast_add, Int.cast_ofNat_Int]
theorem r_keptNow {d : Nat} {A : AS} {w : PW} (hV : q_v0 A) (hM : rN A 0 w) : ∃ w', ex_cal (d + 12) 212 [.ref 46] w = some (some (.int (q_kb A (A 0 6).toNat)), w') ∧ sQ w w' := by
  have hrr := q_rng hV
  have hh := q_hh hV.1
  by_cases hz : A 0 2 = 0
  · -- without a HOUSE nothing is KEPT
    have h15 : A 0 15 = 0 := by omega
    have hT := hV.2.2.2.1.2.2
    have hn : A 0 5 ≤ 0 := by
      refine Classical.byContradiction fun hc => ?_
      have := (hT 0 (by omega) (by omega)).2.2.2.2.2.1
      have h1 := this.1
      have h2 := this.2.1
      omega
    have hkp : ∀ h, ¬ q_kp A h := by
      intro h
      unfold q_kp
      split
      · rintro ⟨t, t0, t1, -⟩; omega
      · split
        · rintro ⟨c, v, c0, c1, -⟩; omega
        · rintro ⟨c, v, c0, c1, -⟩; omega
    have hkb : ∀ n, q_kb A n = Int32.ofInt 0 := by
      intro n
      induction n with
      | zero => rfl
      | succ n ih => rw [q_kb_f (hkp n)]; exact ih
    refine ⟨w, ?_, sQ_r w⟩
    have g17 := hM.1.2.2.2.2.2.2.1
    have g2 := hM.1.2.2.1
    rw [hz] at g2
    rw [hkb, ke_212 kc_46]
    by_cases h6 : 0 < A 0 6
    · simp (disch := omega) only [g17, g2, ev_iload, ev_aload, rx_istore, ev_iinc, ev_push, ev_ior, ev_ishl, ev_goto, ev_jsr, rx_ige_t, rx_ige_f, rx_zeq_t, rx_zeq_f, rx_zle_t, rx_zle_f, ev_getf, ev_callv, nr_i, nr_r, nr_l, nr_n, rx_iret, kb_212_0, kb_212_4, kb_212_34, kb_212_35, kb_212_43, kr_212, kf_46_706, kf_46_721, List.getD_cons_zero, List.getD_cons_succ, List.set_cons_zero, List.set_cons_succ, ex_spl, ex_low, Option.toList, List.cons_append, List.nil_append, reduceIte, Int.reduceToNat, Nat.reduceDiv, Nat.reduceMod, Nat.reduceAdd, Nat.reduceMul, z_0, z_1, z_10, z_01, reduceCtorEq, ite_true, ite_false, true_and, and_true, ↓bI_01, ↓bP_01, ↓zret0, ↓zret1, z_add, z_sub, z_mul, up_1, up_2, not_true, not_false_iff, if_true, if_false, bI_T, bI_F, bP_T, bP_F, or_true, true_or, or_false, false_or, Int.reduceNeg, Int.reduceAdd, Int.reduceSub, Int.reduceMul, Int.reduceEq, Int.reduceLT, Int.reduceLE, Int.natCast_add, Int.cast_ofNat_Int]
    · simp (disch := omega) only [g17, g2, ev_iload, ev_aload, rx_istore, ev_iinc, ev_push, ev_ior, ev_ishl, ev_goto, ev_jsr, rx_ige_t, rx_ige_f, rx_zeq_t, rx_zeq_f, rx_zle_t, rx_zle_f, ev_getf, ev_callv, nr_i, nr_r, nr_l, nr_n, rx_iret, kb_212_0, kb_212_4, kb_212_34, kb_212_35, kb_212_43, kr_212, kf_46_706, kf_46_721, List.getD_cons_zero, List.getD_cons_succ, List.set_cons_zero, List.set_cons_succ, ex_spl, ex_low, Option.toList, List.cons_append, List.nil_append, reduceIte, Int.reduceToNat, Nat.reduceDiv, Nat.reduceMod, Nat.reduceAdd, Nat.reduceMul, z_0, z_1, z_10, z_01, reduceCtorEq, ite_true, ite_false, true_and, and_true, ↓bI_01, ↓bP_01, ↓zret0, ↓zret1, z_add, z_sub, z_mul, up_1, up_2, not_true, not_false_iff, if_true, if_false, bI_T, bI_F, bP_T, bP_F, or_true, true_or, or_false, false_or, Int.reduceNeg, Int.reduceAdd, Int.reduceSub, Int.reduceMul, Int.reduceEq, Int.reduceLT, Int.reduceLE, Int.natCast_add, Int.cast_ofNat_Int]
  · rw [ke_212 kc_46]
    simp (disch := omega) only [ev_iload, ev_aload, rx_istore, ev_iinc, ev_push, ev_ior, ev_ishl, ev_goto, ev_jsr, rx_ige_t, rx_ige_f, rx_zeq_t, rx_zeq_f, rx_zle_t, rx_zle_f, ev_getf, ev_callv, nr_i, nr_r, nr_l, nr_n, rx_iret, kb_212_0, kb_212_34, kb_212_35, kb_212_43, kr_212, kf_46_706, kf_46_721, List.getD_cons_zero, List.getD_cons_succ, List.set_cons_zero, List.set_cons_succ, ex_spl, ex_low, Option.toList, List.cons_append, List.nil_append, reduceIte, Int.reduceToNat, Nat.reduceDiv, Nat.reduceMod, Nat.reduceAdd, Nat.reduceMul, z_0, z_1, z_10, z_01, reduceCtorEq, ite_true, ite_false, true_and, and_true, ↓bI_01, ↓bP_01, ↓zret0, ↓zret1, z_add, z_sub, z_mul, up_1, up_2, not_true, not_false_iff, if_true, if_false, bI_T, bI_F, bP_T, bP_F, or_true, true_or, or_false, false_or, Int.reduceNeg, Int.reduceAdd, Int.reduceSub, Int.reduceMul, Int.reduceEq, Int.reduceLT, Int.reduceLE, Int.natCast_add, Int.cast_ofNat_Int]
    refine ex_loop (Q := fun q => ∃ w', q = some (some (.int (q_kb A (A 0 6).toNat)), w') ∧ sQ w w') (fun i s => ∃ w1, s = (ex_blk 212 4, [.ref 46, .int (q_kb A i), .int (Int32.ofInt (i : Int))], [], w1) ∧ sQ w w1) (A 0 6).toNat ?_ ?_ ?_
    · exact ⟨w, rfl, sQ_r w⟩
    · rintro i s hi ⟨w1, rfl, o1⟩
      right
      have hM1 := rN_q hM o1
      have g17 := hM1.1.2.2.2.2.2.2.1
      have g2 := hM1.1.2.2.1
      obtain ⟨w2, e2, o2⟩ := r_isKeptHabit (d := d) hV hM1 (h := i) (by omega) (by omega)
      refine ⟨_, ?_, w2, rfl, sQ_t o1 o2⟩
      by_cases hq : q_kp A i
      · rw [bP_t hq] at e2
        rw [q_kb_t hq]
        conv => lhs; rw [kb_212_4]
        simp (disch := omega) only [g17, g2, e2, ev_iload, ev_aload, rx_istore, ev_iinc, ev_push, ev_ior, ev_ishl, ev_goto, ev_jsr, rx_ige_t, rx_ige_f, rx_zeq_t, rx_zeq_f, rx_zle_t, rx_zle_f, ev_getf, ev_callv, nr_i, nr_r, nr_l, nr_n, rx_iret, kb_212_0, kb_212_34, kb_212_35, kb_212_43, kr_212, kf_46_706, kf_46_721, List.getD_cons_zero, List.getD_cons_succ, List.set_cons_zero, List.set_cons_succ, ex_spl, ex_low, Option.toList, List.cons_append, List.nil_append, reduceIte, Int.reduceToNat, Nat.reduceDiv, Nat.reduceMod, Nat.reduceAdd, Nat.reduceMul, z_0, z_1, z_10, z_01, reduceCtorEq, ite_true, ite_false, true_and, and_true, ↓bI_01, ↓bP_01, ↓zret0, ↓zret1, z_add, z_sub, z_mul, up_1, up_2, not_true, not_false_iff, if_true, if_false, bI_T, bI_F, bP_T, bP_F, or_true, true_or, or_false, false_or, Int.reduceNeg, Int.reduceAdd, Int.reduceSub, Int.reduceMul, Int.reduceEq, Int.reduceLT, Int.reduceLE, Int.natCast_add, Int.cast_ofNat_Int]
      · rw [bP_f hq] at e2
        rw [q_kb_f hq]
        conv => lhs; rw [kb_212_4]
        simp (disch := omega) only [g17, g2, e2, m_or0, ev_iload, ev_aload, rx_istore, ev_iinc, ev_push, ev_ior, ev_ishl, ev_goto, ev_jsr, rx_ige_t, rx_ige_f, rx_zeq_t, rx_zeq_f, rx_zle_t, rx_zle_f, ev_getf, ev_callv, nr_i, nr_r, nr_l, nr_n, rx_iret, kb_212_0, kb_212_34, kb_212_35, kb_212_43, kr_212, kf_46_706, kf_46_721, List.getD_cons_zero, List.getD_cons_succ, List.set_cons_zero, List.set_cons_succ, ex_spl, ex_low, Option.toList, List.cons_append, List.nil_append, reduceIte, Int.reduceToNat, Nat.reduceDiv, Nat.reduceMod, Nat.reduceAdd, Nat.reduceMul, z_0, z_1, z_10, z_01, reduceCtorEq, ite_true, ite_false, true_and, and_true, ↓bI_01, ↓bP_01, ↓zret0, ↓zret1, z_add, z_sub, z_mul, up_1, up_2, not_true, not_false_iff, if_true, if_false, bI_T, bI_F, bP_T, bP_F, or_true, true_or, or_false, false_or, Int.reduceNeg, Int.reduceAdd, Int.reduceSub, Int.reduceMul, Int.reduceEq, Int.reduceLT, Int.reduceLE, Int.natCast_add, Int.cast_ofNat_Int]
    · rintro s ⟨w1, rfl, o1⟩
      have g17 := (rN_q hM o1).1.2.2.2.2.2.2.1
      refine ⟨w1, ?_, o1⟩
      rw [kb_212_4]
      simp (disch := omega) only [g17, ev_iload, ev_aload, rx_istore, ev_iinc, ev_push, ev_ior, ev_ishl, ev_goto, ev_jsr, rx_ige_t, rx_ige_f, rx_zeq_t, rx_zeq_f, rx_zle_t, rx_zle_f, ev_getf, ev_callv, nr_i, nr_r, nr_l, nr_n, rx_iret, kb_212_0, kb_212_34, kb_212_35, kb_212_43, kr_212, kf_46_706, kf_46_721, List.getD_cons_zero, List.getD_cons_succ, List.set_cons_zero, List.set_cons_succ, ex_spl, ex_low, Option.toList, List.cons_append, List.nil_append, reduceIte, Int.reduceToNat, Nat.reduceDiv, Nat.reduceMod, Nat.reduceAdd, Nat.reduceMul, z_0, z_1, z_10, z_01, reduceCtorEq, ite_true, ite_false, true_and, and_true, ↓bI_01, ↓bP_01, ↓zret0, ↓zret1, z_add, z_sub, z_mul, up_1, up_2, not_true, not_false_iff, if_true, if_false, bI_T, bI_F, bP_T, bP_F, or_true, true_or, or_false, false_or, Int.reduceNeg, Int.reduceAdd, Int.reduceSub, Int.reduceMul, Int.reduceEq, Int.reduceLT, Int.reduceLE, Int.natCast_add, Int.cast_ofNat_Int]
def q_akp (A : AS) : Prop := ∀ h, 0 ≤ h → h < A 0 6 → q_kp A h
theorem r_areAllKept {d : Nat} {A : AS} {w : PW} (hV : q_v0 A) (hM : rN A 0 w) : ∃ w', ex_cal (d + 12) 214 [.ref 46] w = some (some (.int (bP (q_akp A))), w') ∧ sQ w w' := by
  have hrr := q_rng hV
  rw [ke_214 kc_46]
  simp (disch := omega) only [ev_iload, ev_aload, rx_istore, ev_iinc, ev_push, ev_goto, ev_jsr, rx_ige_t, rx_ige_f, rx_zeq_t, rx_zeq_f, ev_getf, ev_callv, nr_i, nr_r, nr_l, nr_n, rx_zret_t, rx_zretI, rx_zretP, kb_214_0, kb_214_28, kr_214, kf_46_721, List.getD_cons_zero, List.getD_cons_succ, List.set_cons_zero, List.set_cons_succ, ex_spl, ex_low, Option.toList, List.cons_append, List.nil_append, reduceIte, Int.reduceToNat, Nat.reduceDiv, Nat.reduceMod, Nat.reduceAdd, Nat.reduceMul, z_0, z_1, z_10, z_01, reduceCtorEq, ite_true, ite_false, true_and, and_true, ↓bI_01, ↓bP_01, ↓zret0, ↓zret1, z_add, z_sub, z_mul, up_1, up_2, not_true, not_false_iff, if_true, if_false, bI_T, bI_F, bP_T, bP_F, or_true, true_or, or_false, false_or, Int.reduceNeg, Int.reduceAdd, Int.reduceSub, Int.reduceMul, Int.reduceEq, Int.reduceLT, Int.reduceLE, Int.natCast_add, Int.cast_ofNat_Int]
  refine ex_loop (Q := fun q => ∃ w', q = some (some (.int (bP (q_akp A))), w') ∧ sQ w w') (fun i s => ∃ w1, s = (ex_blk 214 4, [.ref 46, .int (Int32.ofInt 1), .int (Int32.ofInt (i : Int))], [], w1) ∧ sQ w w1 ∧ ∀ h, 0 ≤ h → h < (i : Int) → q_kp A h) (A 0 6).toNat ?_ ?_ ?_
  · exact ⟨w, rfl, sQ_r w, fun h h0 h1 => absurd h1 (by omega)⟩
  · rintro i s hi ⟨w1, rfl, o1, hall⟩
    have hM1 := rN_q hM o1
    have g17 := hM1.1.2.2.2.2.2.2.1
    obtain ⟨w2, e2, o2⟩ := r_isKeptHabit (d := d) hV hM1 (h := i) (by omega) (by omega)
    have g17' := (rN_q hM1 o2).1.2.2.2.2.2.2.1
    by_cases hq : q_kp A i
    · right
      rw [bP_t hq] at e2
      refine ⟨(ex_blk 214 4, [.ref 46, .int (Int32.ofInt 1), .int (Int32.ofInt ((i : Int) + 1))], [], w2), ?_, w2, rfl, sQ_t o1 o2, fun h h0 h1 => ?_⟩
      · conv => lhs; rw [kb_214_4]
        simp (disch := omega) only [g17, e2, ev_iload, ev_aload, rx_istore, ev_iinc, ev_push, ev_goto, ev_jsr, rx_ige_t, rx_ige_f, rx_zeq_t, rx_zeq_f, ev_getf, ev_callv, nr_i, nr_r, nr_l, nr_n, rx_zret_t, rx_zretI, rx_zretP, kb_214_0, kb_214_28, kr_214, kf_46_721, List.getD_cons_zero, List.getD_cons_succ, List.set_cons_zero, List.set_cons_succ, ex_spl, ex_low, Option.toList, List.cons_append, List.nil_append, reduceIte, Int.reduceToNat, Nat.reduceDiv, Nat.reduceMod, Nat.reduceAdd, Nat.reduceMul, z_0, z_1, z_10, z_01, reduceCtorEq, ite_true, ite_false, true_and, and_true, ↓bI_01, ↓bP_01, ↓zret0, ↓zret1, z_add, z_sub, z_mul, up_1, up_2, not_true, not_false_iff, if_true, if_false, bI_T, bI_F, bP_T, bP_F, or_true, true_or, or_false, false_or, Int.reduceNeg, Int.reduceAdd, Int.reduceSub, Int.reduceMul, Int.reduceEq, Int.reduceLT, Int.reduceLE, Int.natCast_add, Int.cast_ofNat_Int]
      · by_cases hh : h = i
        · rw [hh]; exact hq
        · exact hall h h0 (by omega)
    · left
      rw [bP_f hq] at e2
      refine ⟨w2, ?_, sQ_t o1 o2⟩
      rw [bP_f (fun hh => hq (hh i (by omega) (by omega)))]
      have hh : ex_ev (d + 11) (ex_cal (d + 11)) 214 (ex_blk 214 4, [.ref 46, .int (Int32.ofInt 1), .int (Int32.ofInt (i : Int))], [], w1) = ex_ev (d + 11) (ex_cal (d + 11)) 214 (ex_blk 214 4, [.ref 46, .int (Int32.ofInt 0), .int (Int32.ofInt ((i : Int) + 1))], [], w2) := by
        conv => lhs; rw [kb_214_4]
        simp (disch := omega) only [g17, e2, ev_iload, ev_aload, rx_istore, ev_iinc, ev_push, ev_goto, ev_jsr, rx_ige_t, rx_ige_f, rx_zeq_t, rx_zeq_f, ev_getf, ev_callv, nr_i, nr_r, nr_l, nr_n, rx_zret_t, rx_zretI, rx_zretP, kb_214_0, kb_214_28, kr_214, kf_46_721, List.getD_cons_zero, List.getD_cons_succ, List.set_cons_zero, List.set_cons_succ, ex_spl, ex_low, Option.toList, List.cons_append, List.nil_append, reduceIte, Int.reduceToNat, Nat.reduceDiv, Nat.reduceMod, Nat.reduceAdd, Nat.reduceMul, z_0, z_1, z_10, z_01, reduceCtorEq, ite_true, ite_false, true_and, and_true, ↓bI_01, ↓bP_01, ↓zret0, ↓zret1, z_add, z_sub, z_mul, up_1, up_2, not_true, not_false_iff, if_true, if_false, bI_T, bI_F, bP_T, bP_F, or_true, true_or, or_false, false_or, Int.reduceNeg, Int.reduceAdd, Int.reduceSub, Int.reduceMul, Int.reduceEq, Int.reduceLT, Int.reduceLE, Int.natCast_add, Int.cast_ofNat_Int]
      rw [hh, kb_214_4]
      by_cases h2 : (i : Int) + 1 < A 0 6
      · simp (disch := omega) only [g17', ev_iload, ev_aload, rx_istore, ev_iinc, ev_push, ev_goto, ev_jsr, rx_ige_t, rx_ige_f, rx_zeq_t, rx_zeq_f, ev_getf, ev_callv, nr_i, nr_r, nr_l, nr_n, rx_zret_t, rx_zretI, rx_zretP, kb_214_0, kb_214_28, kr_214, kf_46_721, List.getD_cons_zero, List.getD_cons_succ, List.set_cons_zero, List.set_cons_succ, ex_spl, ex_low, Option.toList, List.cons_append, List.nil_append, reduceIte, Int.reduceToNat, Nat.reduceDiv, Nat.reduceMod, Nat.reduceAdd, Nat.reduceMul, z_0, z_1, z_10, z_01, reduceCtorEq, ite_true, ite_false, true_and, and_true, ↓bI_01, ↓bP_01, ↓zret0, ↓zret1, z_add, z_sub, z_mul, up_1, up_2, not_true, not_false_iff, if_true, if_false, bI_T, bI_F, bP_T, bP_F, or_true, true_or, or_false, false_or, Int.reduceNeg, Int.reduceAdd, Int.reduceSub, Int.reduceMul, Int.reduceEq, Int.reduceLT, Int.reduceLE, Int.natCast_add, Int.cast_ofNat_Int]
      · simp (disch := omega) only [g17', ev_iload, ev_aload, rx_istore, ev_iinc, ev_push, ev_goto, ev_jsr, rx_ige_t, rx_ige_f, rx_zeq_t, rx_zeq_f, ev_getf, ev_callv, nr_i, nr_r, nr_l, nr_n, rx_zret_t, rx_zretI, rx_zretP, kb_214_0, kb_214_28, kr_214, kf_46_721, List.getD_cons_zero, List.getD_cons_succ, List.set_cons_zero, List.set_cons_succ, ex_spl, ex_low, Option.toList, List.cons_append, List.nil_append, reduceIte, Int.reduceToNat, Nat.reduceDiv, Nat.reduceMod, Nat.reduceAdd, Nat.reduceMul, z_0, z_1, z_10, z_01, reduceCtorEq, ite_true, ite_false, true_and, and_true, ↓bI_01, ↓bP_01, ↓zret0, ↓zret1, z_add, z_sub, z_mul, up_1, up_2, not_true, not_false_iff, if_true, if_false, bI_T, bI_F, bP_T, bP_F, or_true, true_or, or_false, false_or, Int.reduceNeg, Int.reduceAdd, Int.reduceSub, Int.reduceMul, Int.reduceEq, Int.reduceLT, Int.reduceLE, Int.natCast_add, Int.cast_ofNat_Int]
  · rintro s ⟨w1, rfl, o1, hall⟩
    have g17 := (rN_q hM o1).1.2.2.2.2.2.2.1
    refine ⟨w1, ?_, o1⟩
    rw [bP_t (show q_akp A from fun h h0 h1 => hall h h0 (by omega)), kb_214_4]
    simp (disch := omega) only [g17, ev_iload, ev_aload, rx_istore, ev_iinc, ev_push, ev_goto, ev_jsr, rx_ige_t, rx_ige_f, rx_zeq_t, rx_zeq_f, ev_getf, ev_callv, nr_i, nr_r, nr_l, nr_n, rx_zret_t, rx_zretI, rx_zretP, kb_214_0, kb_214_28, kr_214, kf_46_721, List.getD_cons_zero, List.getD_cons_succ, List.set_cons_zero, List.set_cons_succ, ex_spl, ex_low, Option.toList, List.cons_append, List.nil_append, reduceIte, Int.reduceToNat, Nat.reduceDiv, Nat.reduceMod, Nat.reduceAdd, Nat.reduceMul, z_0, z_1, z_10, z_01, reduceCtorEq, ite_true, ite_false, true_and, and_true, ↓bI_01, ↓bP_01, ↓zret0, ↓zret1, z_add, z_sub, z_mul, up_1, up_2, not_true, not_false_iff, if_true, if_false, bI_T, bI_F, bP_T, bP_F, or_true, true_or, or_false, false_or, Int.reduceNeg, Int.reduceAdd, Int.reduceSub, Int.reduceMul, Int.reduceEq, Int.reduceLT, Int.reduceLE, Int.natCast_add, Int.cast_ofNat_Int]
theorem g_kept {A : AS} (hV : q_V A) : q_both A 117 213 [] := by
  refine q_ask hV (.int (q_kb A (A 0 6).toNat)) (fun d w hC => ?_) (fun d w hM => ?_)
  · exact m_kept (d := d + 8) hV hC
  · obtain ⟨w1, e1, o1⟩ := r_keptNow (d := d + 3) hV.1 hM
    refine ⟨w1, ?_, sQ_M o1⟩
    rw [ke_213 kc_46]
    simp (disch := omega) only [e1, ev_aload, ev_callv, nr_i, nr_r, nr_l, nr_n, rx_iret, kb_213_0, kr_213, List.getD_cons_zero, List.getD_cons_succ, List.set_cons_zero, List.set_cons_succ, ex_spl, ex_low, Option.toList, List.cons_append, List.nil_append, reduceIte, Int.reduceToNat, Nat.reduceDiv, Nat.reduceMod, Nat.reduceAdd, Nat.reduceMul, z_0, z_1, z_10, z_01, reduceCtorEq, ite_true, ite_false, true_and, and_true, ↓bI_01, ↓bP_01, ↓zret0, ↓zret1, z_add, z_sub, z_mul, up_1, up_2, not_true, not_false_iff, if_true, if_false, bI_T, bI_F, bP_T, bP_F, or_true, true_or, or_false, false_or, Int.reduceNeg, Int.reduceAdd, Int.reduceSub, Int.reduceMul, Int.reduceEq, Int.reduceLT, Int.reduceLE, Int.natCast_add, Int.cast_ofNat_Int]
