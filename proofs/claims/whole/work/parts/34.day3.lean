/-! habits, judgments, the page made blank, the image -/
theorem g_habit {A : AS} (hV : q_V A) {a h : Int} (a0 : -2147483648 ≤ a) (a1 : a < 2147483648) (h0 : -2147483648 ≤ h) (h1 : h < 2147483648) : q_both A 116 207 [.int (Int32.ofInt a), .int (Int32.ofInt h)] := by
  have hr := q_rng hV.1
  by_cases hA : 0 ≤ a ∧ a < 6
  · by_cases hH : 0 ≤ h ∧ h < 24
    · by_cases hn : A 0 6 < 6
      · obtain ⟨⟨v1', v2, v3, v4, v5, v6, v7, v8, v9, v10⟩, vd, vi⟩ := id hV
        obtain ⟨r0, r1, r2, r3, r4⟩ := q_ad_r (A := A) (j := 6) (s := 6) (a := a) (b := h) (c := 0) (d := 0) (e := 0) (by omega)
        have hvb : q_vb (q_ad A 6 6 a h 0 0 0) 6 6 := by
          obtain ⟨e1, e2, e3⟩ := v6
          refine ⟨by rw [q_ad_n]; omega, by rw [q_ad_n]; omega, fun t t0 t1 => ?_⟩
          rw [q_ad_n] at t1
          by_cases ht : t < A 0 6
          · rw [q_ad_o (by omega) (by omega), q_ad_o (by omega) (by omega)]
            exact e3 t t0 ht
          · have : t = A 0 6 := by omega
            subst this
            rw [r0, r1]
            exact ⟨hA.1, by omega, hH.1, by omega⟩
        refine ⟨.int (Int32.ofInt (A 0 6)), q_ad A 6 6 a h 0 0 0, ⟨⟨v1', v2, v3, v4, v5, hvb, v7, v8, v9, v10⟩, vd, vi⟩, fun d w hC => ?_, fun d w hM => ?_, by show A 0 2 ≤ A 0 2 + 1; omega⟩
        · obtain ⟨⟨⟨⟨h511, h512, h513⟩, ⟨hk, hro, hco, hli⟩⟩, ⟨hbe, hah, hbs, hos⟩⟩, hdo, ⟨h010, h011, h09, h11⟩, hpc, ht18, ht21, ht23, ht25, ht27, ht30, ht32, ht34, ht36⟩ := id hC
          refine ⟨q_add w 25 (A 0 6) (Int32.ofInt a) (Int32.ofInt h) (Int32.ofInt 0) (Int32.ofInt 0) (Int32.ofInt 0), ?_, ⟨hC.1, hC.2.1, hC.2.2.1, hC.2.2.2.1, ht18, ht21, ht23, rCt_ad ht25 (by omega) (by omega), ht27, ht30, ht32, ht34, ht36⟩, fC_ad (by omega)⟩
          rw [ke_116 kc_0]
          simp (disch := omega) only [m_below, bI_t, bI_f, m_tfull tb_25 ht25.2.1 ht25.1, m_tadd tb_25 ht25.2.1 ht25.1, ev_iload, ev_aload, ev_push, ev_jsr, rx_zeq_t, rx_zeq_f, rx_zne_t, rx_zne_f, ev_getf, ev_call, ev_callv, nr_i, nr_r, nr_l, nr_n, rx_iret, kb_116_0, kb_116_18, kb_116_21, kb_116_37, kr_116, kf_20_2, kf_29_2, kf_0_645, List.getD_cons_zero, List.getD_cons_succ, List.set_cons_zero, List.set_cons_succ, ex_spl, ex_low, Option.toList, List.cons_append, List.nil_append, reduceIte, Int.reduceToNat, Nat.reduceDiv, Nat.reduceMod, Nat.reduceAdd, Nat.reduceMul, z_0, z_1, z_10, z_01, reduceCtorEq, ite_true, ite_false, true_and, and_true, ↓bI_01, ↓bP_01, ↓zret0, ↓zret1, z_add, z_sub, z_mul, up_1, up_2, not_true, not_false_iff, if_true, if_false, bI_T, bI_F, bP_T, bP_F, or_true, true_or, or_false, false_or, Int.reduceNeg, Int.reduceAdd, Int.reduceSub, Int.reduceMul, Int.reduceEq, Int.reduceLT, Int.reduceLE, Int.natCast_add, Int.cast_ofNat_Int]
        · obtain ⟨hM, hMk⟩ := hM
          have hMM := hM
          obtain ⟨⟨g0, g1, g2, g5, g11, g13, g17, g20, g23, g24, g49⟩, ⟨gk, gl⟩, ⟨gs, ga, gf, gt, gn⟩, ⟨gtk, gtc, gtw⟩, ge, ⟨gba, gbh⟩, ⟨gjc, gjs⟩, gp⟩ := id hM
          refine ⟨ex_up (ex_up (ex_up w 58 (A 0 6).toNat (Int32.ofInt a)) 59 (A 0 6).toNat (Int32.ofInt h)) 46 17 (Int32.ofInt (A 0 6 + 1)), ?_, ⟨⟨⟨g0, g1, g2, g5, g11, g13, up_s, g20, g23, g24, g49⟩, ⟨gk, gl⟩, ⟨gs, ga, gf, gt, gn⟩, ⟨gtk, gtc, gtw⟩, ge, ⟨fun l l0 l1 => ?_, fun l l0 l1 => ?_⟩, ⟨gjc, gjs⟩, gp⟩, hMk⟩, fM_u (fM_u (fM_u (fM_r w) (by omega)) (by omega)) (by omega)⟩
          · have e1 : A 0 6 + 1 - 1 = A 0 6 := by omega
            rw [ke_207 kc_46]
            simp (disch := omega) only [m_isAct, bI_t, bI_f, g17, up_n, up_e, e1, ev_iload, ev_aload, ev_push, ev_iadd, ev_isub, ev_dup_r, ev_dup_i, rx_ine_t, rx_ine_f, rx_zne_t, rx_zne_f, ev_getf, ev_putf, ev_putl, ev_call, nr_i, nr_r, nr_l, nr_n, kS_47, kS_48, kS_49, kS_50, kS_51, kS_52, kS_53, kS_54, kS_55, kS_56, kS_57, kS_58, kS_59, kS_60, kS_61, kS_63, kS_64, kS_65, kS_66, kS_67, kS_68, kS_69, kS_70, rx_iret, kb_207_0, kb_207_11, kb_207_23, kr_207, kf_46_721, kf_46_722, kf_46_723, kk_46_721, List.getD_cons_zero, List.getD_cons_succ, List.set_cons_zero, List.set_cons_succ, ex_spl, ex_low, Option.toList, List.cons_append, List.nil_append, reduceIte, Int.reduceToNat, Nat.reduceDiv, Nat.reduceMod, Nat.reduceAdd, Nat.reduceMul, z_0, z_1, z_10, z_01, reduceCtorEq, ite_true, ite_false, true_and, and_true, ↓bI_01, ↓bP_01, ↓zret0, ↓zret1, z_add, z_sub, z_mul, up_2, not_true, not_false_iff, if_true, if_false, bI_T, bI_F, bP_T, bP_F, or_true, true_or, or_false, false_or, Int.reduceNeg, Int.reduceAdd, Int.reduceSub, Int.reduceMul, Int.reduceEq, Int.reduceLT, Int.reduceLE, Int.natCast_add, Int.cast_ofNat_Int]
          · rw [q_ad_n] at l1
            rw [up_n (by omega), up_n (by omega)]
            by_cases hl : l < A 0 6
            · rw [up_n (by omega), q_ad_o (by omega) (by omega)]; exact gba l l0 hl
            · have : l = A 0 6 := by omega
              subst this
              rw [up_e (by omega), r0]
          · rw [q_ad_n] at l1
            rw [up_n (by omega)]
            by_cases hl : l < A 0 6
            · rw [up_n (by omega), up_n (by omega), q_ad_o (by omega) (by omega)]; exact gbh l l0 hl
            · have : l = A 0 6 := by omega
              subst this
              rw [up_e (by omega), r1]
      · refine q_deny hV (Int32.ofInt (-104)) (fun d w hC => ?_) (fun d w hM => ?_)
        · obtain ⟨⟨⟨⟨h511, h512, h513⟩, ⟨hk, hro, hco, hli⟩⟩, ⟨hbe, hah, hbs, hos⟩⟩, hdo, ⟨h010, h011, h09, h11⟩, hpc, ht18, ht21, ht23, ht25, ht27, ht30, ht32, ht34, ht36⟩ := id hC
          rw [ke_116 kc_0]
          simp (disch := omega) only [m_below, bI_t, bI_f, m_tfull tb_25 ht25.2.1 ht25.1, ev_iload, ev_aload, ev_push, ev_jsr, rx_zeq_t, rx_zeq_f, rx_zne_t, rx_zne_f, ev_getf, ev_call, ev_callv, nr_i, nr_r, nr_l, nr_n, rx_iret, kb_116_0, kb_116_18, kb_116_21, kb_116_37, kr_116, kf_20_2, kf_29_2, kf_0_645, List.getD_cons_zero, List.getD_cons_succ, List.set_cons_zero, List.set_cons_succ, ex_spl, ex_low, Option.toList, List.cons_append, List.nil_append, reduceIte, Int.reduceToNat, Nat.reduceDiv, Nat.reduceMod, Nat.reduceAdd, Nat.reduceMul, z_0, z_1, z_10, z_01, reduceCtorEq, ite_true, ite_false, true_and, and_true, ↓bI_01, ↓bP_01, ↓zret0, ↓zret1, z_add, z_sub, z_mul, up_1, up_2, not_true, not_false_iff, if_true, if_false, bI_T, bI_F, bP_T, bP_F, or_true, true_or, or_false, false_or, Int.reduceNeg, Int.reduceAdd, Int.reduceSub, Int.reduceMul, Int.reduceEq, Int.reduceLT, Int.reduceLE, Int.natCast_add, Int.cast_ofNat_Int]
        · obtain ⟨⟨g0, g1, g2, g5, g11, g13, g17, g20, g23, g24, g49⟩, ⟨gk, gl⟩, ⟨gs, ga, gf, gt, gn⟩, ⟨gtk, gtc, gtw⟩, ge, ⟨gba, gbh⟩, ⟨gjc, gjs⟩, gp⟩ := id hM
          rw [ke_207 kc_46]
          simp (disch := omega) only [m_isAct, bI_t, bI_f, g17, ev_iload, ev_aload, ev_push, ev_iadd, ev_isub, ev_dup_r, ev_dup_i, rx_ine_t, rx_ine_f, rx_zne_t, rx_zne_f, ev_getf, ev_putf, ev_putl, ev_call, nr_i, nr_r, nr_l, nr_n, kS_47, kS_48, kS_49, kS_50, kS_51, kS_52, kS_53, kS_54, kS_55, kS_56, kS_57, kS_58, kS_59, kS_60, kS_61, kS_63, kS_64, kS_65, kS_66, kS_67, kS_68, kS_69, kS_70, rx_iret, kb_207_0, kb_207_11, kb_207_23, kr_207, kf_46_721, kf_46_722, kf_46_723, kk_46_721, List.getD_cons_zero, List.getD_cons_succ, List.set_cons_zero, List.set_cons_succ, ex_spl, ex_low, Option.toList, List.cons_append, List.nil_append, reduceIte, Int.reduceToNat, Nat.reduceDiv, Nat.reduceMod, Nat.reduceAdd, Nat.reduceMul, z_0, z_1, z_10, z_01, reduceCtorEq, ite_true, ite_false, true_and, and_true, ↓bI_01, ↓bP_01, ↓zret0, ↓zret1, z_add, z_sub, z_mul, up_1, up_2, not_true, not_false_iff, if_true, if_false, bI_T, bI_F, bP_T, bP_F, or_true, true_or, or_false, false_or, Int.reduceNeg, Int.reduceAdd, Int.reduceSub, Int.reduceMul, Int.reduceEq, Int.reduceLT, Int.reduceLE, Int.natCast_add, Int.cast_ofNat_Int]
    · refine q_deny hV (Int32.ofInt (-102)) (fun d w hC => ?_) (fun d w hM => ?_)
      · rw [ke_116 kc_0]
        simp (disch := omega) only [m_below, bI_t, bI_f, ev_iload, ev_aload, ev_push, ev_jsr, rx_zeq_t, rx_zeq_f, rx_zne_t, rx_zne_f, ev_getf, ev_call, ev_callv, nr_i, nr_r, nr_l, nr_n, rx_iret, kb_116_0, kb_116_18, kb_116_21, kb_116_37, kr_116, kf_20_2, kf_29_2, kf_0_645, List.getD_cons_zero, List.getD_cons_succ, List.set_cons_zero, List.set_cons_succ, ex_spl, ex_low, Option.toList, List.cons_append, List.nil_append, reduceIte, Int.reduceToNat, Nat.reduceDiv, Nat.reduceMod, Nat.reduceAdd, Nat.reduceMul, z_0, z_1, z_10, z_01, reduceCtorEq, ite_true, ite_false, true_and, and_true, ↓bI_01, ↓bP_01, ↓zret0, ↓zret1, z_add, z_sub, z_mul, up_1, up_2, not_true, not_false_iff, if_true, if_false, bI_T, bI_F, bP_T, bP_F, or_true, true_or, or_false, false_or, Int.reduceNeg, Int.reduceAdd, Int.reduceSub, Int.reduceMul, Int.reduceEq, Int.reduceLT, Int.reduceLE, Int.natCast_add, Int.cast_ofNat_Int]
      · rw [ke_207 kc_46]
        simp (disch := omega) only [m_isAct, bI_t, bI_f, ev_iload, ev_aload, ev_push, ev_iadd, ev_isub, ev_dup_r, ev_dup_i, rx_ine_t, rx_ine_f, rx_zne_t, rx_zne_f, ev_getf, ev_putf, ev_putl, ev_call, nr_i, nr_r, nr_l, nr_n, kS_47, kS_48, kS_49, kS_50, kS_51, kS_52, kS_53, kS_54, kS_55, kS_56, kS_57, kS_58, kS_59, kS_60, kS_61, kS_63, kS_64, kS_65, kS_66, kS_67, kS_68, kS_69, kS_70, rx_iret, kb_207_0, kb_207_11, kb_207_23, kr_207, kf_46_721, kf_46_722, kf_46_723, kk_46_721, List.getD_cons_zero, List.getD_cons_succ, List.set_cons_zero, List.set_cons_succ, ex_spl, ex_low, Option.toList, List.cons_append, List.nil_append, reduceIte, Int.reduceToNat, Nat.reduceDiv, Nat.reduceMod, Nat.reduceAdd, Nat.reduceMul, z_0, z_1, z_10, z_01, reduceCtorEq, ite_true, ite_false, true_and, and_true, ↓bI_01, ↓bP_01, ↓zret0, ↓zret1, z_add, z_sub, z_mul, up_1, up_2, not_true, not_false_iff, if_true, if_false, bI_T, bI_F, bP_T, bP_F, or_true, true_or, or_false, false_or, Int.reduceNeg, Int.reduceAdd, Int.reduceSub, Int.reduceMul, Int.reduceEq, Int.reduceLT, Int.reduceLE, Int.natCast_add, Int.cast_ofNat_Int]
  · refine q_deny hV (Int32.ofInt (-102)) (fun d w hC => ?_) (fun d w hM => ?_)
    · rw [ke_116 kc_0]
      simp (disch := omega) only [m_below, bI_t, bI_f, ev_iload, ev_aload, ev_push, ev_jsr, rx_zeq_t, rx_zeq_f, rx_zne_t, rx_zne_f, ev_getf, ev_call, ev_callv, nr_i, nr_r, nr_l, nr_n, rx_iret, kb_116_0, kb_116_18, kb_116_21, kb_116_37, kr_116, kf_20_2, kf_29_2, kf_0_645, List.getD_cons_zero, List.getD_cons_succ, List.set_cons_zero, List.set_cons_succ, ex_spl, ex_low, Option.toList, List.cons_append, List.nil_append, reduceIte, Int.reduceToNat, Nat.reduceDiv, Nat.reduceMod, Nat.reduceAdd, Nat.reduceMul, z_0, z_1, z_10, z_01, reduceCtorEq, ite_true, ite_false, true_and, and_true, ↓bI_01, ↓bP_01, ↓zret0, ↓zret1, z_add, z_sub, z_mul, up_1, up_2, not_true, not_false_iff, if_true, if_false, bI_T, bI_F, bP_T, bP_F, or_true, true_or, or_false, false_or, Int.reduceNeg, Int.reduceAdd, Int.reduceSub, Int.reduceMul, Int.reduceEq, Int.reduceLT, Int.reduceLE, Int.natCast_add, Int.cast_ofNat_Int]
    · rw [ke_207 kc_46]
      simp (disch := omega) only [m_isAct, bI_t, bI_f, ev_iload, ev_aload, ev_push, ev_iadd, ev_isub, ev_dup_r, ev_dup_i, rx_ine_t, rx_ine_f, rx_zne_t, rx_zne_f, ev_getf, ev_putf, ev_putl, ev_call, nr_i, nr_r, nr_l, nr_n, kS_47, kS_48, kS_49, kS_50, kS_51, kS_52, kS_53, kS_54, kS_55, kS_56, kS_57, kS_58, kS_59, kS_60, kS_61, kS_63, kS_64, kS_65, kS_66, kS_67, kS_68, kS_69, kS_70, rx_iret, kb_207_0, kb_207_11, kb_207_23, kr_207, kf_46_721, kf_46_722, kf_46_723, kk_46_721, List.getD_cons_zero, List.getD_cons_succ, List.set_cons_zero, List.set_cons_succ, ex_spl, ex_low, Option.toList, List.cons_append, List.nil_append, reduceIte, Int.reduceToNat, Nat.reduceDiv, Nat.reduceMod, Nat.reduceAdd, Nat.reduceMul, z_0, z_1, z_10, z_01, reduceCtorEq, ite_true, ite_false, true_and, and_true, ↓bI_01, ↓bP_01, ↓zret0, ↓zret1, z_add, z_sub, z_mul, up_1, up_2, not_true, not_false_iff, if_true, if_false, bI_T, bI_F, bP_T, bP_F, or_true, true_or, or_false, false_or, Int.reduceNeg, Int.reduceAdd, Int.reduceSub, Int.reduceMul, Int.reduceEq, Int.reduceLT, Int.reduceLE, Int.natCast_add, Int.cast_ofNat_Int]
theorem g_judgment {A : AS} (hV : q_V A) {a h : Int} (a0 : -2147483648 ≤ a) (a1 : a < 2147483648) (h0 : -2147483648 ≤ h) (h1 : h < 2147483648) : q_both A 124 226 [.int (Int32.ofInt a), .int (Int32.ofInt h)] := by
  have hr := q_rng hV.1
  by_cases hA : 0 ≤ a ∧ a < A 0 15
  · by_cases hH : 0 ≤ h ∧ h < 2
    · by_cases hn : A 0 7 < 10
      · obtain ⟨⟨v1', v2, v3, v4, v5, v6, v7, v8, v9, v10⟩, vd, vi⟩ := id hV
        obtain ⟨r0, r1, r2, r3, r4⟩ := q_ad_r (A := A) (j := 7) (s := 7) (a := a) (b := h) (c := 0) (d := 0) (e := 0) (by omega)
        have hvj : q_vj (q_ad A 7 7 a h 0 0 0) 7 7 := by
          obtain ⟨e1, e2, e3⟩ := v7
          refine ⟨by rw [q_ad_n]; omega, by rw [q_ad_n]; omega, fun t t0 t1 => ?_⟩
          rw [q_ad_n] at t1
          by_cases ht : t < A 0 7
          · rw [q_ad_o (by omega) (by omega), q_ad_o (by omega) (by omega)]
            exact e3 t t0 ht
          · have : t = A 0 7 := by omega
            subst this
            rw [r0, r1]
            exact ⟨hA.1, hA.2, hH.1, by omega⟩
        refine ⟨.int (Int32.ofInt (A 0 7 + 1)), q_ad A 7 7 a h 0 0 0, ⟨⟨v1', v2, v3, v4, v5, v6, hvj, v8, v9, v10⟩, vd, vi⟩, fun d w hC => ?_, fun d w hM => ?_, by show A 0 2 ≤ A 0 2 + 1; omega⟩
        · have hC' := hC
          obtain ⟨⟨⟨⟨h511, h512, h513⟩, ⟨hk, hro, hco, hli⟩⟩, ⟨hbe, hah, hbs, hos⟩⟩, hdo, ⟨h010, h011, h09, h11⟩, hpc, ht18, ht21, ht23, ht25, ht27, ht30, ht32, ht34, ht36⟩ := id hC
          have ht' := rCt_ad (a := a) (b := h) (c := 0) (d := 0) (e := 0) ht27 (by omega) (by omega)
          have hs : (q_add w 27 (A 0 7) (Int32.ofInt a) (Int32.ofInt h) (Int32.ofInt 0) (Int32.ofInt 0) (Int32.ofInt 0)).1 27 2 = Int32.ofInt (A 0 7 + 1) := ht'.2.1
          refine ⟨q_add w 27 (A 0 7) (Int32.ofInt a) (Int32.ofInt h) (Int32.ofInt 0) (Int32.ofInt 0) (Int32.ofInt 0), ?_, ⟨hC.1, hC.2.1, hC.2.2.1, hC.2.2.2.1, ht18, ht21, ht23, ht25, ht', ht30, ht32, ht34, ht36⟩, fC_ad (by omega)⟩
          rw [ke_124 kc_0]
          simp (disch := omega) only [m_has hV.1.1 hC'.1.1, m_below, bI_t, bI_f, m_tfull tb_27 ht27.2.1 ht27.1, m_tadd tb_27 ht27.2.1 ht27.1, m_tsize tb_27, hs, ev_iload, ev_aload, ev_push, ev_pop, rx_zeq_t, rx_zeq_f, rx_zne_t, rx_zne_f, ev_getf, ev_call, ev_callv, nr_i, nr_r, nr_l, nr_n, rx_iret, kb_124_0, kb_124_14, kb_124_25, kb_124_41, kr_124, kf_20_3, kf_29_3, kf_0_643, kf_0_645, List.getD_cons_zero, List.getD_cons_succ, List.set_cons_zero, List.set_cons_succ, ex_spl, ex_low, Option.toList, List.cons_append, List.nil_append, reduceIte, Int.reduceToNat, Nat.reduceDiv, Nat.reduceMod, Nat.reduceAdd, Nat.reduceMul, z_0, z_1, z_10, z_01, reduceCtorEq, ite_true, ite_false, true_and, and_true, ↓bI_01, ↓bP_01, ↓zret0, ↓zret1, z_add, z_sub, z_mul, up_1, up_2, not_true, not_false_iff, if_true, if_false, bI_T, bI_F, bP_T, bP_F, or_true, true_or, or_false, false_or, Int.reduceNeg, Int.reduceAdd, Int.reduceSub, Int.reduceMul, Int.reduceEq, Int.reduceLT, Int.reduceLE, Int.natCast_add, Int.cast_ofNat_Int]
        · obtain ⟨hM, hMk⟩ := hM
          have hMM := hM
          obtain ⟨⟨g0, g1, g2, g5, g11, g13, g17, g20, g23, g24, g49⟩, ⟨gk, gl⟩, ⟨gs, ga, gf, gt, gn⟩, ⟨gtk, gtc, gtw⟩, ge, ⟨gba, gbh⟩, ⟨gjc, gjs⟩, gp⟩ := id hM
          refine ⟨ex_up (ex_up (ex_up w 60 (A 0 7).toNat (Int32.ofInt a)) 61 (A 0 7).toNat (Int32.ofInt h)) 46 20 (Int32.ofInt (A 0 7 + 1)), ?_, ⟨⟨⟨g0, g1, g2, g5, g11, g13, g17, up_s, g23, g24, g49⟩, ⟨gk, gl⟩, ⟨gs, ga, gf, gt, gn⟩, ⟨gtk, gtc, gtw⟩, ge, ⟨gba, gbh⟩, ⟨fun l l0 l1 => ?_, fun l l0 l1 => ?_⟩, gp⟩, hMk⟩, fM_u (fM_u (fM_u (fM_r w) (by omega)) (by omega)) (by omega)⟩
          · rw [ke_226 kc_46]
            simp (disch := omega) only [r_isCell hV.1.1 hMM, r_within, bI_t, bI_f, bP_t, bP_f, g20, up_n, up_e, ev_iload, ev_aload, ev_push, ev_iadd, ev_dup_r, ev_dup_i, rx_ine_t, rx_ine_f, rx_zne_t, rx_zne_f, ev_getf, ev_putf, ev_putl, ev_call, ev_callv, nr_i, nr_r, nr_l, nr_n, kS_47, kS_48, kS_49, kS_50, kS_51, kS_52, kS_53, kS_54, kS_55, kS_56, kS_57, kS_58, kS_59, kS_60, kS_61, kS_63, kS_64, kS_65, kS_66, kS_67, kS_68, kS_69, kS_70, rx_iret, kb_226_0, kb_226_11, kb_226_23, kb_226_35, kr_226, kf_46_724, kf_46_725, kf_46_726, kk_46_724, List.getD_cons_zero, List.getD_cons_succ, List.set_cons_zero, List.set_cons_succ, ex_spl, ex_low, Option.toList, List.cons_append, List.nil_append, reduceIte, Int.reduceToNat, Nat.reduceDiv, Nat.reduceMod, Nat.reduceAdd, Nat.reduceMul, z_0, z_1, z_10, z_01, reduceCtorEq, ite_true, ite_false, true_and, and_true, ↓bI_01, ↓bP_01, ↓zret0, ↓zret1, z_add, z_sub, z_mul, up_2, not_true, not_false_iff, if_true, if_false, bI_T, bI_F, bP_T, bP_F, or_true, true_or, or_false, false_or, Int.reduceNeg, Int.reduceAdd, Int.reduceSub, Int.reduceMul, Int.reduceEq, Int.reduceLT, Int.reduceLE, Int.natCast_add, Int.cast_ofNat_Int]
          · rw [q_ad_n] at l1
            rw [up_n (by omega), up_n (by omega)]
            by_cases hl : l < A 0 7
            · rw [up_n (by omega), q_ad_o (by omega) (by omega)]; exact gjc l l0 hl
            · have : l = A 0 7 := by omega
              subst this
              rw [up_e (by omega), r0]
          · rw [q_ad_n] at l1
            rw [up_n (by omega)]
            by_cases hl : l < A 0 7
            · rw [up_n (by omega), up_n (by omega), q_ad_o (by omega) (by omega)]; exact gjs l l0 hl
            · have : l = A 0 7 := by omega
              subst this
              rw [up_e (by omega), r1]
      · refine q_deny hV (Int32.ofInt (-104)) (fun d w hC => ?_) (fun d w hM => ?_)
        · have hC' := hC
          obtain ⟨⟨⟨⟨h511, h512, h513⟩, ⟨hk, hro, hco, hli⟩⟩, ⟨hbe, hah, hbs, hos⟩⟩, hdo, ⟨h010, h011, h09, h11⟩, hpc, ht18, ht21, ht23, ht25, ht27, ht30, ht32, ht34, ht36⟩ := id hC
          rw [ke_124 kc_0]
          simp (disch := omega) only [m_has hV.1.1 hC'.1.1, m_below, bI_t, bI_f, m_tfull tb_27 ht27.2.1 ht27.1, ev_iload, ev_aload, ev_push, ev_pop, rx_zeq_t, rx_zeq_f, rx_zne_t, rx_zne_f, ev_getf, ev_call, ev_callv, nr_i, nr_r, nr_l, nr_n, rx_iret, kb_124_0, kb_124_14, kb_124_25, kb_124_41, kr_124, kf_20_3, kf_29_3, kf_0_643, kf_0_645, List.getD_cons_zero, List.getD_cons_succ, List.set_cons_zero, List.set_cons_succ, ex_spl, ex_low, Option.toList, List.cons_append, List.nil_append, reduceIte, Int.reduceToNat, Nat.reduceDiv, Nat.reduceMod, Nat.reduceAdd, Nat.reduceMul, z_0, z_1, z_10, z_01, reduceCtorEq, ite_true, ite_false, true_and, and_true, ↓bI_01, ↓bP_01, ↓zret0, ↓zret1, z_add, z_sub, z_mul, up_1, up_2, not_true, not_false_iff, if_true, if_false, bI_T, bI_F, bP_T, bP_F, or_true, true_or, or_false, false_or, Int.reduceNeg, Int.reduceAdd, Int.reduceSub, Int.reduceMul, Int.reduceEq, Int.reduceLT, Int.reduceLE, Int.natCast_add, Int.cast_ofNat_Int]
        · have hMM := hM
          obtain ⟨⟨g0, g1, g2, g5, g11, g13, g17, g20, g23, g24, g49⟩, ⟨gk, gl⟩, ⟨gs, ga, gf, gt, gn⟩, ⟨gtk, gtc, gtw⟩, ge, ⟨gba, gbh⟩, ⟨gjc, gjs⟩, gp⟩ := id hM
          rw [ke_226 kc_46]
          simp (disch := omega) only [r_isCell hV.1.1 hMM, r_within, bI_t, bI_f, bP_t, bP_f, g20, ev_iload, ev_aload, ev_push, ev_iadd, ev_dup_r, ev_dup_i, rx_ine_t, rx_ine_f, rx_zne_t, rx_zne_f, ev_getf, ev_putf, ev_putl, ev_call, ev_callv, nr_i, nr_r, nr_l, nr_n, kS_47, kS_48, kS_49, kS_50, kS_51, kS_52, kS_53, kS_54, kS_55, kS_56, kS_57, kS_58, kS_59, kS_60, kS_61, kS_63, kS_64, kS_65, kS_66, kS_67, kS_68, kS_69, kS_70, rx_iret, kb_226_0, kb_226_11, kb_226_23, kb_226_35, kr_226, kf_46_724, kf_46_725, kf_46_726, kk_46_724, List.getD_cons_zero, List.getD_cons_succ, List.set_cons_zero, List.set_cons_succ, ex_spl, ex_low, Option.toList, List.cons_append, List.nil_append, reduceIte, Int.reduceToNat, Nat.reduceDiv, Nat.reduceMod, Nat.reduceAdd, Nat.reduceMul, z_0, z_1, z_10, z_01, reduceCtorEq, ite_true, ite_false, true_and, and_true, ↓bI_01, ↓bP_01, ↓zret0, ↓zret1, z_add, z_sub, z_mul, up_1, up_2, not_true, not_false_iff, if_true, if_false, bI_T, bI_F, bP_T, bP_F, or_true, true_or, or_false, false_or, Int.reduceNeg, Int.reduceAdd, Int.reduceSub, Int.reduceMul, Int.reduceEq, Int.reduceLT, Int.reduceLE, Int.natCast_add, Int.cast_ofNat_Int]
    · refine q_deny hV (Int32.ofInt (-102)) (fun d w hC => ?_) (fun d w hM => ?_)
      · rw [ke_124 kc_0]
        simp (disch := omega) only [m_has hV.1.1 hC.1.1, m_below, bI_t, bI_f, ev_iload, ev_aload, ev_push, ev_pop, rx_zeq_t, rx_zeq_f, rx_zne_t, rx_zne_f, ev_getf, ev_call, ev_callv, nr_i, nr_r, nr_l, nr_n, rx_iret, kb_124_0, kb_124_14, kb_124_25, kb_124_41, kr_124, kf_20_3, kf_29_3, kf_0_643, kf_0_645, List.getD_cons_zero, List.getD_cons_succ, List.set_cons_zero, List.set_cons_succ, ex_spl, ex_low, Option.toList, List.cons_append, List.nil_append, reduceIte, Int.reduceToNat, Nat.reduceDiv, Nat.reduceMod, Nat.reduceAdd, Nat.reduceMul, z_0, z_1, z_10, z_01, reduceCtorEq, ite_true, ite_false, true_and, and_true, ↓bI_01, ↓bP_01, ↓zret0, ↓zret1, z_add, z_sub, z_mul, up_1, up_2, not_true, not_false_iff, if_true, if_false, bI_T, bI_F, bP_T, bP_F, or_true, true_or, or_false, false_or, Int.reduceNeg, Int.reduceAdd, Int.reduceSub, Int.reduceMul, Int.reduceEq, Int.reduceLT, Int.reduceLE, Int.natCast_add, Int.cast_ofNat_Int]
      · rw [ke_226 kc_46]
        simp (disch := omega) only [r_isCell hV.1.1 hM, r_within, bI_t, bI_f, bP_t, bP_f, ev_iload, ev_aload, ev_push, ev_iadd, ev_dup_r, ev_dup_i, rx_ine_t, rx_ine_f, rx_zne_t, rx_zne_f, ev_getf, ev_putf, ev_putl, ev_call, ev_callv, nr_i, nr_r, nr_l, nr_n, kS_47, kS_48, kS_49, kS_50, kS_51, kS_52, kS_53, kS_54, kS_55, kS_56, kS_57, kS_58, kS_59, kS_60, kS_61, kS_63, kS_64, kS_65, kS_66, kS_67, kS_68, kS_69, kS_70, rx_iret, kb_226_0, kb_226_11, kb_226_23, kb_226_35, kr_226, kf_46_724, kf_46_725, kf_46_726, kk_46_724, List.getD_cons_zero, List.getD_cons_succ, List.set_cons_zero, List.set_cons_succ, ex_spl, ex_low, Option.toList, List.cons_append, List.nil_append, reduceIte, Int.reduceToNat, Nat.reduceDiv, Nat.reduceMod, Nat.reduceAdd, Nat.reduceMul, z_0, z_1, z_10, z_01, reduceCtorEq, ite_true, ite_false, true_and, and_true, ↓bI_01, ↓bP_01, ↓zret0, ↓zret1, z_add, z_sub, z_mul, up_1, up_2, not_true, not_false_iff, if_true, if_false, bI_T, bI_F, bP_T, bP_F, or_true, true_or, or_false, false_or, Int.reduceNeg, Int.reduceAdd, Int.reduceSub, Int.reduceMul, Int.reduceEq, Int.reduceLT, Int.reduceLE, Int.natCast_add, Int.cast_ofNat_Int]
  · refine q_deny hV (Int32.ofInt (-101)) (fun d w hC => ?_) (fun d w hM => ?_)
    · rw [ke_124 kc_0]
      simp (disch := omega) only [m_has hV.1.1 hC.1.1, m_below, bI_t, bI_f, ev_iload, ev_aload, ev_push, ev_pop, rx_zeq_t, rx_zeq_f, rx_zne_t, rx_zne_f, ev_getf, ev_call, ev_callv, nr_i, nr_r, nr_l, nr_n, rx_iret, kb_124_0, kb_124_14, kb_124_25, kb_124_41, kr_124, kf_20_3, kf_29_3, kf_0_643, kf_0_645, List.getD_cons_zero, List.getD_cons_succ, List.set_cons_zero, List.set_cons_succ, ex_spl, ex_low, Option.toList, List.cons_append, List.nil_append, reduceIte, Int.reduceToNat, Nat.reduceDiv, Nat.reduceMod, Nat.reduceAdd, Nat.reduceMul, z_0, z_1, z_10, z_01, reduceCtorEq, ite_true, ite_false, true_and, and_true, ↓bI_01, ↓bP_01, ↓zret0, ↓zret1, z_add, z_sub, z_mul, up_1, up_2, not_true, not_false_iff, if_true, if_false, bI_T, bI_F, bP_T, bP_F, or_true, true_or, or_false, false_or, Int.reduceNeg, Int.reduceAdd, Int.reduceSub, Int.reduceMul, Int.reduceEq, Int.reduceLT, Int.reduceLE, Int.natCast_add, Int.cast_ofNat_Int]
    · rw [ke_226 kc_46]
      simp (disch := omega) only [r_isCell hV.1.1 hM, r_within, bI_t, bI_f, bP_t, bP_f, ev_iload, ev_aload, ev_push, ev_iadd, ev_dup_r, ev_dup_i, rx_ine_t, rx_ine_f, rx_zne_t, rx_zne_f, ev_getf, ev_putf, ev_putl, ev_call, ev_callv, nr_i, nr_r, nr_l, nr_n, kS_47, kS_48, kS_49, kS_50, kS_51, kS_52, kS_53, kS_54, kS_55, kS_56, kS_57, kS_58, kS_59, kS_60, kS_61, kS_63, kS_64, kS_65, kS_66, kS_67, kS_68, kS_69, kS_70, rx_iret, kb_226_0, kb_226_11, kb_226_23, kb_226_35, kr_226, kf_46_724, kf_46_725, kf_46_726, kk_46_724, List.getD_cons_zero, List.getD_cons_succ, List.set_cons_zero, List.set_cons_succ, ex_spl, ex_low, Option.toList, List.cons_append, List.nil_append, reduceIte, Int.reduceToNat, Nat.reduceDiv, Nat.reduceMod, Nat.reduceAdd, Nat.reduceMul, z_0, z_1, z_10, z_01, reduceCtorEq, ite_true, ite_false, true_and, and_true, ↓bI_01, ↓bP_01, ↓zret0, ↓zret1, z_add, z_sub, z_mul, up_1, up_2, not_true, not_false_iff, if_true, if_false, bI_T, bI_F, bP_T, bP_F, or_true, true_or, or_false, false_or, Int.reduceNeg, Int.reduceAdd, Int.reduceSub, Int.reduceMul, Int.reduceEq, Int.reduceLT, Int.reduceLE, Int.natCast_add, Int.cast_ofNat_Int]
theorem m_pclear {d : Nat} {w : PW} : ex_cal (d + 1) 89 [.ref 1] w = some (none, ex_up w 1 1 (Int32.ofInt 0)) := by
  rw [ke_89 kc_1]
  simp (disch := omega) only [ev_aload, ev_push, ev_putf, ev_putl, nr_i, nr_r, nr_l, nr_n, rx_vret, kb_89_0, kr_89, kk_1_449, List.getD_cons_zero, List.getD_cons_succ, List.set_cons_zero, List.set_cons_succ, ex_spl, ex_low, Option.toList, List.cons_append, List.nil_append, reduceIte, Int.reduceToNat, Nat.reduceDiv, Nat.reduceMod, Nat.reduceAdd, Nat.reduceMul, z_0, z_1, z_10, z_01, reduceCtorEq, ite_true, ite_false, true_and, and_true, ↓bI_01, ↓bP_01, ↓zret0, ↓zret1, z_add, z_sub, z_mul, up_1, up_2, not_true, not_false_iff, if_true, if_false, bI_T, bI_F, bP_T, bP_F, or_true, true_or, or_false, false_or, Int.reduceNeg, Int.reduceAdd, Int.reduceSub, Int.reduceMul, Int.reduceEq, Int.reduceLT, Int.reduceLE, Int.natCast_add, Int.cast_ofNat_Int]
def q_bk (A : AS) : AS := fun x y => if x = 0 ∧ y = 8 then 0 else A x y
theorem g_blank {A : AS} (hV : q_V A) : q_both A 100 150 [] := by
  have hr := q_rng hV.1
  obtain ⟨⟨v1', v2, v3, v4, v5, v6, v7, v8, v9, v10⟩, vd, vi⟩ := id hV
  have e8 : q_bk A 0 8 = 0 := rfl
  refine ⟨.int (Int32.ofInt (A 0 8)), q_bk A, ⟨⟨v1', v2, ⟨by rw [e8]; omega, by rw [e8]; omega, fun k k0 k1 => by rw [e8] at k1; omega⟩, v4, v5, v6, v7, v8, v9, v10⟩, vd, vi⟩, fun d w hC => ?_, fun d w hM => ?_, by show A 0 2 ≤ A 0 2 + 1; omega⟩
  · have hC' := hC
    obtain ⟨⟨⟨⟨h511, h512, h513⟩, ⟨hk, hro, hco, hli⟩⟩, ⟨hbe, hah, hbs, hos⟩⟩, hdo, ⟨h010, h011, h09, h11⟩, hpc, ht18, ht21, ht23, ht25, ht27, ht30, ht32, ht34, ht36⟩ := id hC
    refine ⟨ex_up w 1 1 (Int32.ofInt 0), ?_, ⟨hC.1, hC.2.1, ⟨h010, h011, h09, up_s⟩, fun k k0 k1 => by rw [e8] at k1; omega, ht18, ht21, ht23, ht25, ht27, ht30, ht32, ht34, ht36⟩, fC_u (fC_r w) (by omega)⟩
    rw [ke_100 kc_0]
    simp (disch := omega) only [m_psize hC', m_pclear, ev_iload, ev_aload, rx_istore, ev_getf, ev_callv, nr_i, nr_r, nr_l, nr_n, rx_iret, kb_100_0, kr_100, kf_0_640, List.getD_cons_zero, List.getD_cons_succ, List.set_cons_zero, List.set_cons_succ, ex_spl, ex_low, Option.toList, List.cons_append, List.nil_append, reduceIte, Int.reduceToNat, Nat.reduceDiv, Nat.reduceMod, Nat.reduceAdd, Nat.reduceMul, z_0, z_1, z_10, z_01, reduceCtorEq, ite_true, ite_false, true_and, and_true, ↓bI_01, ↓bP_01, ↓zret0, ↓zret1, z_add, z_sub, z_mul, up_1, up_2, not_true, not_false_iff, if_true, if_false, bI_T, bI_F, bP_T, bP_F, or_true, true_or, or_false, false_or, Int.reduceNeg, Int.reduceAdd, Int.reduceSub, Int.reduceMul, Int.reduceEq, Int.reduceLT, Int.reduceLE, Int.natCast_add, Int.cast_ofNat_Int]
  · obtain ⟨hM, hMk⟩ := hM
    obtain ⟨⟨g0, g1, g2, g5, g11, g13, g17, g20, g23, g24, g49⟩, ⟨gk, gl⟩, ⟨gs, ga, gf, gt, gn⟩, ⟨gtk, gtc, gtw⟩, ge, ⟨gba, gbh⟩, ⟨gjc, gjs⟩, gp⟩ := id hM
    refine ⟨ex_up w 46 24 (Int32.ofInt 0), ?_, ⟨⟨⟨g0, g1, g2, g5, g11, g13, g17, g20, g23, up_s, g49⟩, ⟨gk, gl⟩, ⟨gs, ga, gf, gt, gn⟩, ⟨gtk, gtc, gtw⟩, ge, ⟨gba, gbh⟩, ⟨gjc, gjs⟩, fun k k0 k1 => by rw [e8] at k1; omega⟩, hMk⟩, fM_u (fM_r w) (by omega)⟩
    rw [ke_150 kc_46]
    simp (disch := omega) only [g24, ev_iload, ev_aload, rx_istore, ev_push, ev_getf, ev_putf, ev_putl, nr_i, nr_r, nr_l, nr_n, rx_iret, kb_150_0, kr_150, kf_46_728, kk_46_728, List.getD_cons_zero, List.getD_cons_succ, List.set_cons_zero, List.set_cons_succ, ex_spl, ex_low, Option.toList, List.cons_append, List.nil_append, reduceIte, Int.reduceToNat, Nat.reduceDiv, Nat.reduceMod, Nat.reduceAdd, Nat.reduceMul, z_0, z_1, z_10, z_01, reduceCtorEq, ite_true, ite_false, true_and, and_true, ↓bI_01, ↓bP_01, ↓zret0, ↓zret1, z_add, z_sub, z_mul, up_1, up_2, not_true, not_false_iff, if_true, if_false, bI_T, bI_F, bP_T, bP_F, or_true, true_or, or_false, false_or, Int.reduceNeg, Int.reduceAdd, Int.reduceSub, Int.reduceMul, Int.reduceEq, Int.reduceLT, Int.reduceLE, Int.natCast_add, Int.cast_ofNat_Int]
/-! tables copied -/
theorem rx_cpy {d : Nat} {cal : Nat → List Value → PW → Option ER} {y : Nat} {c : List Instr} {pl : List Value} {w : PW} {a b : Nat} (ha : ex_cls a = 12) (hb : ex_cls b = 12) (la : ex_len a = 60) (lb : ex_len b = 60) : ex_ev (d + 2) cal y (.invokedynamic 2 :: c, pl, [.int (Int32.ofInt 60), .int (Int32.ofInt 0), .ref b, .int (Int32.ofInt 0), .ref a], w) = ex_ev (d + 2) cal y (c, pl, [], ex_cpy w a b 60) := by
  rw [ev_native]
  have e60 : (Int32.ofInt 60).toNatClampNeg = 60 := by decide
  have e : ex_nat (d + 2) 2 c pl [.int (Int32.ofInt 60), .int (Int32.ofInt 0), .ref b, .int (Int32.ofInt 0), .ref a] w = ex_go c pl [] (ex_cpy w a b 60) := by
    unfold ex_nat
    rw [if_neg (by omega)]
    show (if _ then ex_go c pl [] (ex_cpy w a b (Int32.ofInt 60).toNatClampNeg) else none) = _
    rw [if_pos (by rw [e60, la, lb]; exact ⟨rfl, rfl, ha, hb, by decide, by omega, by omega⟩), e60]
  rw [e]
  rfl
def q_tc (w : PW) (o p : Nat) : PW := ex_up (ex_cpy w (p + 1) (o + 1) 60) o 2 (w.1 p 2)
theorem q_tc_2 {w : PW} {o p : Nat} : (q_tc w o p).1 o 2 = w.1 p 2 := up_s
theorem q_tc_r {w : PW} {o p k : Nat} (hk : k < 60) : (q_tc w o p).1 (o + 1) k = w.1 (p + 1) k := by
  unfold q_tc
  rw [up_n (by omega)]
  exact if_pos ⟨rfl, hk⟩
theorem q_tc_o {w : PW} {o p a k : Nat} (h1 : ¬ (a = o ∧ k = 2)) (h2 : ¬ a = o + 1) : (q_tc w o p).1 a k = w.1 a k := by
  unfold q_tc
  rw [up_n h1]
  exact if_neg (fun h => h2 h.1)
theorem m_tcopy {d : Nat} {w : PW} {o p : Nat} (ho : q_tb o) (hp : q_tb p) (hop : ¬ p = o + 1) : ex_cal (d + 3) 96 [.ref o, .ref p] w = some (none, q_tc w o p) := by
  obtain ⟨h0, h1, h2, h3, h4, h5, h6, h7⟩ := ho
  obtain ⟨g0, g1, g2, g3, g4, g5, g6, g7⟩ := hp
  have e : (ex_cpy w (p + 1) (o + 1) 60).1 p 2 = w.1 p 2 := if_neg (fun h => hop h.1)
  have ec := rx_cpy (d := d) (cal := ex_cal (d + 2)) (y := 96) (c := [.aload 0, .aload 1, .getfield 514, .putfield 514, .return_]) (pl := [.ref o, .ref p]) (w := w) g6 h6 g7 h7
  rw [ke_96 h1]
  simp (disch := omega) only [g2, h2, h5, g4, ec, e, ev_aload, ev_push, ev_getf, ev_putf, ev_putl, rx_max0, rx_min1, nr_i, nr_r, nr_l, nr_n, rx_vret, kb_96_0, kr_96, kf_18_512, kf_21_512, kf_23_512, kf_25_512, kf_27_512, kf_30_512, kf_32_512, kf_34_512, kf_36_512, kf_18_514, kf_21_514, kf_23_514, kf_25_514, kf_27_514, kf_30_514, kf_32_514, kf_34_514, kf_36_514, kk_18_514, kk_21_514, kk_23_514, kk_25_514, kk_27_514, kk_30_514, kk_32_514, kk_34_514, kk_36_514, List.getD_cons_zero, List.getD_cons_succ, List.set_cons_zero, List.set_cons_succ, ex_spl, ex_low, Option.toList, List.cons_append, List.nil_append, reduceIte, Int.reduceToNat, Nat.reduceDiv, Nat.reduceMod, Nat.reduceAdd, Nat.reduceMul, z_0, z_1, z_10, z_01, reduceCtorEq, ite_true, ite_false, true_and, and_true, ↓bI_01, ↓bP_01, ↓zret0, ↓zret1, z_add, z_sub, z_mul, up_1, up_2, not_true, not_false_iff, if_true, if_false, bI_T, bI_F, bP_T, bP_F, or_true, true_or, or_false, false_or, Int.reduceNeg, Int.reduceAdd, Int.reduceSub, Int.reduceMul, Int.reduceEq, Int.reduceLT, Int.reduceLE, Int.natCast_add, Int.cast_ofNat_Int]
  rfl
theorem m_dcopy {d : Nat} {w : PW} {o p : Nat} (hcc : (o = 29 ∧ p = 20) ∨ (o = 20 ∧ p = 29)) : ex_cal (d + 4) 1 [.ref o, .ref p] w = some (none, q_tc (q_tc (q_tc (q_tc w (o + 1) (p + 1)) (o + 3) (p + 3)) (o + 5) (p + 5)) (o + 7) (p + 7)) := by
  rcases hcc with ⟨rfl, rfl⟩ | ⟨rfl, rfl⟩
  · rw [ke_1 kc_29]
    simp (disch := omega) only [m_tcopy tb_30 tb_21 (by omega), m_tcopy tb_32 tb_23 (by omega), m_tcopy tb_34 tb_25 (by omega), m_tcopy tb_36 tb_27 (by omega), ev_aload, ev_getf, ev_callv, nr_i, nr_r, nr_l, nr_n, rx_vret, kb_1_0, kr_1, kf_20_0, kf_29_0, kf_20_1, kf_29_1, kf_20_2, kf_29_2, kf_20_3, kf_29_3, List.getD_cons_zero, List.getD_cons_succ, List.set_cons_zero, List.set_cons_succ, ex_spl, ex_low, Option.toList, List.cons_append, List.nil_append, reduceIte, Int.reduceToNat, Nat.reduceDiv, Nat.reduceMod, Nat.reduceAdd, Nat.reduceMul, z_0, z_1, z_10, z_01, reduceCtorEq, ite_true, ite_false, true_and, and_true, ↓bI_01, ↓bP_01, ↓zret0, ↓zret1, z_add, z_sub, z_mul, up_1, up_2, not_true, not_false_iff, if_true, if_false, bI_T, bI_F, bP_T, bP_F, or_true, true_or, or_false, false_or, Int.reduceNeg, Int.reduceAdd, Int.reduceSub, Int.reduceMul, Int.reduceEq, Int.reduceLT, Int.reduceLE, Int.natCast_add, Int.cast_ofNat_Int]
  · rw [ke_1 kc_20]
    simp (disch := omega) only [m_tcopy tb_21 tb_30 (by omega), m_tcopy tb_23 tb_32 (by omega), m_tcopy tb_25 tb_34 (by omega), m_tcopy tb_27 tb_36 (by omega), ev_aload, ev_getf, ev_callv, nr_i, nr_r, nr_l, nr_n, rx_vret, kb_1_0, kr_1, kf_20_0, kf_29_0, kf_20_1, kf_29_1, kf_20_2, kf_29_2, kf_20_3, kf_29_3, List.getD_cons_zero, List.getD_cons_succ, List.set_cons_zero, List.set_cons_succ, ex_spl, ex_low, Option.toList, List.cons_append, List.nil_append, reduceIte, Int.reduceToNat, Nat.reduceDiv, Nat.reduceMod, Nat.reduceAdd, Nat.reduceMul, z_0, z_1, z_10, z_01, reduceCtorEq, ite_true, ite_false, true_and, and_true, ↓bI_01, ↓bP_01, ↓zret0, ↓zret1, z_add, z_sub, z_mul, up_1, up_2, not_true, not_false_iff, if_true, if_false, bI_T, bI_F, bP_T, bP_F, or_true, true_or, or_false, false_or, Int.reduceNeg, Int.reduceAdd, Int.reduceSub, Int.reduceMul, Int.reduceEq, Int.reduceLT, Int.reduceLE, Int.natCast_add, Int.cast_ofNat_Int]
theorem rCt_w {A A' : AS} {w w' : PW} {o o' s s' : Nat} {j j' m m' : Int} (h : rCt A w o j m s) (h1 : w'.1 o' 1 = Int32.ofInt m') (h2 : w'.1 o' 2 = w.1 o 2) (h3 : ∀ k, k < 60 → w'.1 (o' + 1) k = w.1 (o + 1) k) (hj : A' 0 j' = A 0 j) (hs : A' s' = A s) (hm : A 0 j ≤ 12) : rCt A' w' o' j' m' s' := by
  obtain ⟨a, b, c⟩ := h
  refine ⟨h1, by rw [h2, hj]; exact b, fun k k0 k1 => ?_⟩
  rw [hj] at k1
  rw [h3 _ (by omega), hs]; exact c k k0 k1
