/-! law() -/
theorem m_lfull {d : Nat} {A : AS} {w : PW} (hV : q_v0 A) (hC : rC A w) : ex_cal (d + 2) 65 [.ref 17] w = some (some (.int (bI (8 ≤ A 0 3))), w) := by
  have hr := q_rng hV
  obtain ⟨⟨⟨⟨h511, h512, h513⟩, ⟨hk, hro, hco, hli⟩⟩, ⟨hbe, hah, hbs, hos⟩⟩, hdo, ⟨h010, h011, h09, h11⟩, hpc, ht18, ht21, ht23, ht25, ht27, ht30, ht32, ht34, ht36⟩ := id hC
  rw [ke_65 kc_17]
  simp (disch := omega) only [m_tfull tb_18 ht18.2.1 ht18.1, ev_aload, ev_getf, ev_callv, nr_i, nr_r, nr_l, nr_n, rx_zret_t, rx_zretI, rx_zretP, kb_65_0, kr_65, kf_17_320, List.getD_cons_zero, List.getD_cons_succ, List.set_cons_zero, List.set_cons_succ, ex_spl, ex_low, Option.toList, List.cons_append, List.nil_append, reduceIte, Int.reduceToNat, Nat.reduceDiv, Nat.reduceMod, Nat.reduceAdd, Nat.reduceMul, z_0, z_1, z_10, z_01, reduceCtorEq, ite_true, ite_false, true_and, and_true, ↓bI_01, ↓bP_01, ↓zret0, ↓zret1, z_add, z_sub, z_mul, up_1, up_2, not_true, not_false_iff, if_true, if_false, bI_T, bI_F, bP_T, bP_F, or_true, true_or, or_false, false_or, Int.reduceNeg, Int.reduceAdd, Int.reduceSub, Int.reduceMul, Int.reduceEq, Int.reduceLT, Int.reduceLE, Int.natCast_add, Int.cast_ofNat_Int]
theorem g_law {A : AS} (hV : q_V A) : q_both A 103 164 [] := by
  have hr := q_rng hV.1
  have q7 : q_dp 7 4 = 98 := rfl
  obtain ⟨m, s, hm⟩ := p_tk_ex q_lf q_l0 A (by omega)
  by_cases hw : (m : Int) = A 0 8 ∧ q_lw s
  · by_cases hn : A 0 3 < 8
    · have hli := q_li2_t hm.1
      obtain ⟨st, sd, a, f, t, k⟩ := s
      obtain ⟨b1, b2, b3, b4, b5, b6, b7, b8, b9, b10, b11, b12⟩ := hli
      have h6 : 6 ≤ st := hw.2
      obtain ⟨⟨v1', v2, v3, v4, v5, v6, v7, v8, v9, v10⟩, vd, vi⟩ := id hV
      obtain ⟨r0, r1, r2, r3, r4⟩ := q_ad_r (A := A) (j := 3) (s := 3) (a := sd) (b := a) (c := f) (d := t) (e := k) (by omega)
      have hvl : q_vl (q_ad A 3 3 sd a f t k) := by
        obtain ⟨e1, e2, e3⟩ := v2
        refine ⟨by rw [q_ad_n]; omega, by rw [q_ad_n]; omega, fun l l0 l1 => ?_⟩
        rw [q_ad_n] at l1
        by_cases hl : l < A 0 3
        · rw [q_ad_o (by omega) (by omega), q_ad_o (by omega) (by omega), q_ad_o (by omega) (by omega), q_ad_o (by omega) (by omega), q_ad_o (by omega) (by omega)]
          exact e3 l l0 hl
        · have : l = A 0 3 := by omega
          subst this
          rw [r0, r1, r2, r3, r4]
          exact ⟨b3, b4, b5, b6, b7, b8, b9, b10, b11, b12⟩
      refine ⟨.int (Int32.ofInt (A 0 3)), q_bk (q_ad A 3 3 sd a f t k), ⟨⟨v1', hvl, ⟨Int.le_refl 0, by show (0 : Int) ≤ 40; omega, fun k k0 k1 => absurd k1 (by show ¬ k < 0; omega)⟩, v4, v5, v6, v7, v8, v9, v10⟩, vd, vi⟩, fun d w hC => ?_, fun d w hM => ?_, by show A 0 2 ≤ A 0 2 + 1; omega⟩
      · obtain ⟨w1, e1, R1, o1⟩ := m_lisOn (d := d + 8) hV.1 hC hm
        rw [bP_t hw] at e1
        have hC1 := rC_cg hC (sO_C o1 (by unfold tC; omega))
        have hf := fun d => m_lfull (d := d) hV.1 hC1
        clear hC
        have hC := hC1
        obtain ⟨⟨⟨⟨h511, h512, h513⟩, ⟨hk, hro, hco, hli⟩⟩, ⟨hbe, hah, hbs, hos⟩⟩, hdo, ⟨h010, h011, h09, h11⟩, hpc, ht18, ht21, ht23, ht25, ht27, ht30, ht32, ht34, ht36⟩ := id hC
        have ht18' : rCt A (ex_up w1 1 1 (Int32.ofInt 0)) 18 3 8 3 := ht18
        have ea := m_lawadd (d := d + 11) (w := ex_up w1 1 1 (Int32.ofInt 0)) (st := st) (sd := sd) (a := a) (f := f) (t := t) (k := k) (n := A 0 3) R1 ht18.2.1 ht18.1 (by omega) hn
        refine ⟨q_add (ex_up w1 1 1 (Int32.ofInt 0)) 18 (A 0 3) (Int32.ofInt sd) (Int32.ofInt a) (Int32.ofInt f) (Int32.ofInt t) (Int32.ofInt k), ?_, ⟨hC.1, hC.2.1, ⟨h010, h011, h09, rfl⟩, fun k k0 k1 => absurd k1 (by show ¬ k < 0; omega), rCt_ad ht18' (by omega) (by omega), ht21, ht23, ht25, ht27, ht30, ht32, ht34, ht36⟩, fun x k hx => (fC_ad (w := ex_up w1 1 1 (Int32.ofInt 0)) (by omega) x k hx).trans (by rw [up_n (by omega)]; exact o1 x k (by omega))⟩
        rw [ke_103 kc_0]
        simp (disch := omega) only [q7, e1, hf, bI_t, bI_f, m_pclear, ea, ev_aload, ev_push, rx_zeq_t, rx_zeq_f, rx_zne_t, rx_zne_f, ev_getf, ev_callv, rx_ci0, rx_ci1i, rx_ci1r, nr_i, nr_r, nr_l, nr_n, rx_iret, kb_103_0, kb_103_17, kb_103_30, kr_103, kf_0_640, kf_0_642, kf_0_644, List.getD_cons_zero, List.getD_cons_succ, List.set_cons_zero, List.set_cons_succ, ex_spl, ex_low, Option.toList, List.cons_append, List.nil_append, reduceIte, Int.reduceToNat, Nat.reduceDiv, Nat.reduceMod, Nat.reduceAdd, Nat.reduceMul, z_0, z_1, z_10, z_01, reduceCtorEq, ite_true, ite_false, true_and, and_true, ↓bI_01, ↓bP_01, ↓zret0, ↓zret1, z_add, z_sub, z_mul, up_1, up_2, not_true, not_false_iff, if_true, if_false, bI_T, bI_F, bP_T, bP_F, or_true, true_or, or_false, false_or, Int.reduceNeg, Int.reduceAdd, Int.reduceSub, Int.reduceMul, Int.reduceEq, Int.reduceLT, Int.reduceLE, Int.natCast_add, Int.cast_ofNat_Int]
      · obtain ⟨hM, hMk⟩ := hM
        obtain ⟨w1, e1, o1, R1, -, e3⟩ := r_readLaw (d := d + 10) hV.1 hM hm
        rw [bP_t hw] at e3
        have hM1 := rN_cg hM o1
        have hMk1 := rMk_cg hMk o1
        obtain ⟨p1, p2, p3, p4, p5⟩ := R1
        have p1 := p1 (by omega)
        have p2 := p2 (by omega)
        have p3 := p3 (by omega)
        have p4 := p4 (by omega)
        have hfM := sM_f o1
        clear hM
        have hM := hM1
        obtain ⟨⟨g0, g1, g2, g5, g11, g13, g17, g20, g23, g24, g49⟩, ⟨gk, gl⟩, ⟨gs, ga, gf, gt, gn⟩, ⟨gtk, gtc, gtw⟩, ge, ⟨gba, gbh⟩, ⟨gjc, gjs⟩, gp⟩ := id hM
        refine ⟨ex_up (ex_up (ex_up (ex_up (ex_up (ex_up (ex_up w1 49 (A 0 3).toNat (Int32.ofInt sd)) 50 (A 0 3).toNat (Int32.ofInt a)) 51 (A 0 3).toNat (Int32.ofInt f)) 52 (A 0 3).toNat (Int32.ofInt t)) 53 (A 0 3).toNat (Int32.ofInt k)) 46 5 (Int32.ofInt (A 0 3 + 1))) 46 24 (Int32.ofInt 0), ?_, ⟨⟨⟨g0, g1, g2, rfl, g11, g13, g17, g20, g23, rfl, g49⟩, ⟨gk, gl⟩, ⟨fun l l0 l1 => ?_, fun l l0 l1 => ?_, fun l l0 l1 => ?_, fun l l0 l1 => ?_, fun l l0 l1 => ?_⟩, ⟨gtk, gtc, gtw⟩, ge, ⟨gba, gbh⟩, ⟨gjc, gjs⟩, fun k k0 k1 => absurd k1 (by show ¬ k < 0; omega)⟩, hMk1⟩, fM_u (fM_u (fM_u (fM_u (fM_u (fM_u (fM_u hfM (by omega)) (by omega)) (by omega)) (by omega)) (by omega)) (by omega)) (by omega)⟩
        · have e4 : A 0 3 + 1 - 1 = A 0 3 := by omega
          rw [ke_164 kc_46]
          simp (disch := omega) only [e1, e3, p1, p2, p3, p4, p5, g5, up_n, up_e, e4, ev_aload, ev_push, ev_iadd, ev_isub, ev_dup_r, ev_dup_i, rx_ine_t, rx_ine_f, rx_zne_t, rx_zne_f, ev_getf, ev_putf, ev_putl, ev_callv, nr_i, nr_r, nr_l, nr_n, kS_47, kS_48, kS_49, kS_50, kS_51, kS_52, kS_53, kS_54, kS_55, kS_56, kS_57, kS_58, kS_59, kS_60, kS_61, kS_63, kS_64, kS_65, kS_66, kS_67, kS_68, kS_69, kS_70, rx_iret, kb_164_0, kb_164_14, kb_164_26, kr_164, kf_46_709, kf_46_710, kf_46_711, kf_46_712, kf_46_713, kf_46_714, kf_46_741, kf_46_748, kf_46_749, kf_46_750, kf_46_751, kf_46_752, kk_46_709, kk_46_728, List.getD_cons_zero, List.getD_cons_succ, List.set_cons_zero, List.set_cons_succ, ex_spl, ex_low, Option.toList, List.cons_append, List.nil_append, reduceIte, Int.reduceToNat, Nat.reduceDiv, Nat.reduceMod, Nat.reduceAdd, Nat.reduceMul, z_0, z_1, z_10, z_01, reduceCtorEq, ite_true, ite_false, true_and, and_true, ↓bI_01, ↓bP_01, ↓zret0, ↓zret1, z_add, z_sub, z_mul, up_2, not_true, not_false_iff, if_true, if_false, bI_T, bI_F, bP_T, bP_F, or_true, true_or, or_false, false_or, Int.reduceNeg, Int.reduceAdd, Int.reduceSub, Int.reduceMul, Int.reduceEq, Int.reduceLT, Int.reduceLE, Int.natCast_add, Int.cast_ofNat_Int]
        · show _ = Int32.ofInt (q_ad A 3 3 sd a f t k 3 (5 * l))
          have l1 : l < A 0 3 + 1 := l1
          by_cases hl : l < A 0 3
          · rw [q_ad_o (by omega) (by omega)]; (repeat rw [up_n (by omega)]); exact gs l l0 hl
          · have : l = A 0 3 := by omega
            subst this
            rw [r0]; (repeat rw [up_n (by omega)]); rw [up_e (by omega)]
        · show _ = Int32.ofInt (q_ad A 3 3 sd a f t k 3 (5 * l + 1))
          have l1 : l < A 0 3 + 1 := l1
          by_cases hl : l < A 0 3
          · rw [q_ad_o (by omega) (by omega)]; (repeat rw [up_n (by omega)]); exact ga l l0 hl
          · have : l = A 0 3 := by omega
            subst this
            rw [r1]; (repeat rw [up_n (by omega)]); rw [up_e (by omega)]
        · show _ = Int32.ofInt (q_ad A 3 3 sd a f t k 3 (5 * l + 2))
          have l1 : l < A 0 3 + 1 := l1
          by_cases hl : l < A 0 3
          · rw [q_ad_o (by omega) (by omega)]; (repeat rw [up_n (by omega)]); exact gf l l0 hl
          · have : l = A 0 3 := by omega
            subst this
            rw [r2]; (repeat rw [up_n (by omega)]); rw [up_e (by omega)]
        · show _ = Int32.ofInt (q_ad A 3 3 sd a f t k 3 (5 * l + 3))
          have l1 : l < A 0 3 + 1 := l1
          by_cases hl : l < A 0 3
          · rw [q_ad_o (by omega) (by omega)]; (repeat rw [up_n (by omega)]); exact gt l l0 hl
          · have : l = A 0 3 := by omega
            subst this
            rw [r3]; (repeat rw [up_n (by omega)]); rw [up_e (by omega)]
        · show _ = Int32.ofInt (q_ad A 3 3 sd a f t k 3 (5 * l + 4))
          have l1 : l < A 0 3 + 1 := l1
          by_cases hl : l < A 0 3
          · rw [q_ad_o (by omega) (by omega)]; (repeat rw [up_n (by omega)]); exact gn l l0 hl
          · have : l = A 0 3 := by omega
            subst this
            rw [r4]; (repeat rw [up_n (by omega)]); rw [up_e (by omega)]
    · refine q_ask hV (.int (Int32.ofInt (-104))) (fun d w hC => ?_) (fun d w hM => ?_)
      · obtain ⟨w1, e1, R1, o1⟩ := m_lisOn (d := d + 8) hV.1 hC hm
        rw [bP_t hw] at e1
        have o2 := sO_C o1 (show tC 4 by unfold tC; omega)
        have hf := fun d => m_lfull (d := d) hV.1 (rC_cg hC o2)
        refine ⟨w1, ?_, o2⟩
        rw [ke_103 kc_0]
        simp (disch := omega) only [q7, e1, hf, bI_t, bI_f, ev_aload, ev_push, rx_zeq_t, rx_zeq_f, rx_zne_t, rx_zne_f, ev_getf, ev_callv, rx_ci0, rx_ci1i, rx_ci1r, nr_i, nr_r, nr_l, nr_n, rx_iret, kb_103_0, kb_103_17, kb_103_30, kr_103, kf_0_640, kf_0_642, kf_0_644, List.getD_cons_zero, List.getD_cons_succ, List.set_cons_zero, List.set_cons_succ, ex_spl, ex_low, Option.toList, List.cons_append, List.nil_append, reduceIte, Int.reduceToNat, Nat.reduceDiv, Nat.reduceMod, Nat.reduceAdd, Nat.reduceMul, z_0, z_1, z_10, z_01, reduceCtorEq, ite_true, ite_false, true_and, and_true, ↓bI_01, ↓bP_01, ↓zret0, ↓zret1, z_add, z_sub, z_mul, up_1, up_2, not_true, not_false_iff, if_true, if_false, bI_T, bI_F, bP_T, bP_F, or_true, true_or, or_false, false_or, Int.reduceNeg, Int.reduceAdd, Int.reduceSub, Int.reduceMul, Int.reduceEq, Int.reduceLT, Int.reduceLE, Int.natCast_add, Int.cast_ofNat_Int]
      · obtain ⟨w1, e1, o1, R1, -, e3⟩ := r_readLaw (d := d + 10) hV.1 hM hm
        rw [bP_t hw] at e3
        have g5 := (rN_cg hM o1).1.2.2.2.1
        refine ⟨w1, ?_, o1⟩
        rw [ke_164 kc_46]
        simp (disch := omega) only [e1, e3, g5, ev_aload, ev_push, ev_iadd, ev_isub, ev_dup_r, ev_dup_i, rx_ine_t, rx_ine_f, rx_zne_t, rx_zne_f, ev_getf, ev_putf, ev_putl, ev_callv, nr_i, nr_r, nr_l, nr_n, kS_47, kS_48, kS_49, kS_50, kS_51, kS_52, kS_53, kS_54, kS_55, kS_56, kS_57, kS_58, kS_59, kS_60, kS_61, kS_63, kS_64, kS_65, kS_66, kS_67, kS_68, kS_69, kS_70, rx_iret, kb_164_0, kb_164_14, kb_164_26, kr_164, kf_46_709, kf_46_710, kf_46_711, kf_46_712, kf_46_713, kf_46_714, kf_46_741, kf_46_748, kf_46_749, kf_46_750, kf_46_751, kf_46_752, kk_46_709, kk_46_728, List.getD_cons_zero, List.getD_cons_succ, List.set_cons_zero, List.set_cons_succ, ex_spl, ex_low, Option.toList, List.cons_append, List.nil_append, reduceIte, Int.reduceToNat, Nat.reduceDiv, Nat.reduceMod, Nat.reduceAdd, Nat.reduceMul, z_0, z_1, z_10, z_01, reduceCtorEq, ite_true, ite_false, true_and, and_true, ↓bI_01, ↓bP_01, ↓zret0, ↓zret1, z_add, z_sub, z_mul, up_1, up_2, not_true, not_false_iff, if_true, if_false, bI_T, bI_F, bP_T, bP_F, or_true, true_or, or_false, false_or, Int.reduceNeg, Int.reduceAdd, Int.reduceSub, Int.reduceMul, Int.reduceEq, Int.reduceLT, Int.reduceLE, Int.natCast_add, Int.cast_ofNat_Int]
  · refine q_ask hV (.int (Int32.ofInt (-103))) (fun d w hC => ?_) (fun d w hM => ?_)
    · obtain ⟨w1, e1, R1, o1⟩ := m_lisOn (d := d + 8) hV.1 hC hm
      rw [bP_f hw] at e1
      refine ⟨w1, ?_, sO_C o1 (show tC 4 by unfold tC; omega)⟩
      rw [ke_103 kc_0]
      simp (disch := omega) only [q7, e1, ev_aload, ev_push, rx_zeq_t, rx_zeq_f, rx_zne_t, rx_zne_f, ev_getf, ev_callv, rx_ci0, rx_ci1i, rx_ci1r, nr_i, nr_r, nr_l, nr_n, rx_iret, kb_103_0, kb_103_17, kb_103_30, kr_103, kf_0_640, kf_0_642, kf_0_644, List.getD_cons_zero, List.getD_cons_succ, List.set_cons_zero, List.set_cons_succ, ex_spl, ex_low, Option.toList, List.cons_append, List.nil_append, reduceIte, Int.reduceToNat, Nat.reduceDiv, Nat.reduceMod, Nat.reduceAdd, Nat.reduceMul, z_0, z_1, z_10, z_01, reduceCtorEq, ite_true, ite_false, true_and, and_true, ↓bI_01, ↓bP_01, ↓zret0, ↓zret1, z_add, z_sub, z_mul, up_1, up_2, not_true, not_false_iff, if_true, if_false, bI_T, bI_F, bP_T, bP_F, or_true, true_or, or_false, false_or, Int.reduceNeg, Int.reduceAdd, Int.reduceSub, Int.reduceMul, Int.reduceEq, Int.reduceLT, Int.reduceLE, Int.natCast_add, Int.cast_ofNat_Int]
    · obtain ⟨w1, e1, o1, R1, -, e3⟩ := r_readLaw (d := d + 10) hV.1 hM hm
      rw [bP_f hw] at e3
      refine ⟨w1, ?_, o1⟩
      rw [ke_164 kc_46]
      simp (disch := omega) only [e1, e3, ev_aload, ev_push, ev_iadd, ev_isub, ev_dup_r, ev_dup_i, rx_ine_t, rx_ine_f, rx_zne_t, rx_zne_f, ev_getf, ev_putf, ev_putl, ev_callv, nr_i, nr_r, nr_l, nr_n, kS_47, kS_48, kS_49, kS_50, kS_51, kS_52, kS_53, kS_54, kS_55, kS_56, kS_57, kS_58, kS_59, kS_60, kS_61, kS_63, kS_64, kS_65, kS_66, kS_67, kS_68, kS_69, kS_70, rx_iret, kb_164_0, kb_164_14, kb_164_26, kr_164, kf_46_709, kf_46_710, kf_46_711, kf_46_712, kf_46_713, kf_46_714, kf_46_741, kf_46_748, kf_46_749, kf_46_750, kf_46_751, kf_46_752, kk_46_709, kk_46_728, List.getD_cons_zero, List.getD_cons_succ, List.set_cons_zero, List.set_cons_succ, ex_spl, ex_low, Option.toList, List.cons_append, List.nil_append, reduceIte, Int.reduceToNat, Nat.reduceDiv, Nat.reduceMod, Nat.reduceAdd, Nat.reduceMul, z_0, z_1, z_10, z_01, reduceCtorEq, ite_true, ite_false, true_and, and_true, ↓bI_01, ↓bP_01, ↓zret0, ↓zret1, z_add, z_sub, z_mul, up_1, up_2, not_true, not_false_iff, if_true, if_false, bI_T, bI_F, bP_T, bP_F, or_true, true_or, or_false, false_or, Int.reduceNeg, Int.reduceAdd, Int.reduceSub, Int.reduceMul, Int.reduceEq, Int.reduceLT, Int.reduceLE, Int.natCast_add, Int.cast_ofNat_Int]
