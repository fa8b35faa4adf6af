/-! what the image kept -/
theorem r_put {d : Nat} {w : PW} {t : Int} {x y z : Int32} (t0 : 0 ≤ t) (t1 : t < 3) : ex_cal (d + 1) 198 [.ref 46, .int (Int32.ofInt t), .int x, .int y, .int z] w = some (none, ex_up (ex_up (ex_up w 55 t.toNat x) 56 t.toNat y) 57 t.toNat z) := by
  rw [ke_198 kc_46]
  simp (disch := omega) only [ev_iload, ev_aload, ev_getf, nr_i, nr_r, nr_l, nr_n, kS_47, kS_48, kS_49, kS_50, kS_51, kS_52, kS_53, kS_54, kS_55, kS_56, kS_57, kS_58, kS_59, kS_60, kS_61, kS_63, kS_64, kS_65, kS_66, kS_67, kS_68, kS_69, kS_70, rx_vret, kb_198_0, kr_198, kf_46_718, kf_46_719, kf_46_720, List.getD_cons_zero, List.getD_cons_succ, List.set_cons_zero, List.set_cons_succ, ex_spl, ex_low, Option.toList, List.cons_append, List.nil_append, reduceIte, Int.reduceToNat, Nat.reduceDiv, Nat.reduceMod, Nat.reduceAdd, Nat.reduceMul, z_0, z_1, z_10, z_01, reduceCtorEq, ite_true, ite_false, true_and, and_true, ↓bI_01, ↓bP_01, ↓zret0, ↓zret1, z_add, z_sub, z_mul, up_1, up_2, not_true, not_false_iff, if_true, if_false, bI_T, bI_F, bP_T, bP_F, or_true, true_or, or_false, false_or, Int.reduceNeg, Int.reduceAdd, Int.reduceSub, Int.reduceMul, Int.reduceEq, Int.reduceLT, Int.reduceLE, Int.natCast_add, Int.cast_ofNat_Int]
theorem rMk_g {A : AS} {w w' : PW} (hM : rMk A w) (h46 : ∀ k, 26 ≤ k → k < 32 → w'.1 46 k = w.1 46 k) (e : ∀ a k, 63 ≤ a → a < 67 → w'.1 a k = w.1 a k) : rMk A w' := by
  obtain ⟨h1, ⟨q, h2, h3, h4, h5⟩, h6⟩ := hM
  refine ⟨by rw [h46 _ (by omega) (by omega)]; exact h1, ⟨q, h2, h3, by rw [h46 _ (by omega) (by omega)]; exact h4, by rw [h46 _ (by omega) (by omega)]; exact h5⟩, fun h7 => ?_⟩
  obtain ⟨a1, a2, a3, a4, a5, a6, a7, a8⟩ := h6 h7
  refine ⟨by rw [h46 _ (by omega) (by omega)]; exact a1, by rw [h46 _ (by omega) (by omega)]; exact a2, by rw [h46 _ (by omega) (by omega)]; exact a3, by rw [h46 _ (by omega) (by omega)]; exact a4, fun l l0 l1 => ?_, fun l l0 l1 => ?_, fun l l0 l1 => ?_, fun l l0 l1 => ?_⟩
  · rw [e _ _ (by omega) (by omega), e _ _ (by omega) (by omega), e _ _ (by omega) (by omega)]; exact a5 l l0 l1
  · rw [e _ _ (by omega) (by omega)]; exact a6 l l0 l1
  · rw [e _ _ (by omega) (by omega), e _ _ (by omega) (by omega)]; exact a7 l l0 l1
  · rw [e _ _ (by omega) (by omega), e _ _ (by omega) (by omega)]; exact a8 l l0 l1
theorem g_restore {A : AS} (hV : q_V A) : q_both A 127 230 [] := by
  have hr := q_rng hV.1
  by_cases hk : A 0 10 = 1
  · obtain ⟨⟨v1', v2, v3, v4, v5, v6, v7, v8, v9, v10⟩, vd, vi⟩ := id hV
    obtain ⟨i1, i2, i3, i4, i5, i6⟩ := vi hk
    have c5 := i2.1
    have c5' := i2.2.1
    have c4 := i4.1
    have c4' := i4.2.1
    have c6 := i5.1
    have c6' := i5.2.1
    have c7 := i6.1
    have c7' := i6.2.1
    refine ⟨.int (Int32.ofInt (A 0 11)), q_rs2 A, ⟨⟨v1', v2, v3, i2, i4, i5, i6, v8, v9, v10⟩, i3, vi⟩, fun d w hC => ?_, fun d w hM => ?_, by show A 0 2 ≤ A 0 2 + 1; omega⟩
    · have hC' := hC
      obtain ⟨⟨⟨⟨h511, h512, h513⟩, ⟨hk, hro, hco, hli⟩⟩, ⟨hbe, hah, hbs, hos⟩⟩, hdo, ⟨h010, h011, h09, h11⟩, hpc, ht18, ht21, ht23, ht25, ht27, ht30, ht32, ht34, ht36⟩ := id hC
      refine ⟨q_tc (q_tc (q_tc (q_tc w 21 30) 23 32) 25 34) 27 36, ?_, ⟨hC.1, hC.2.1, ⟨h010, h011, h09, h11⟩, hC.2.2.2.1, ht18, ?_, ?_, ?_, ?_, ht30, ht32, ht34, ht36⟩, ?_⟩
      · have hs : (q_tc (q_tc (q_tc (q_tc w 21 30) 23 32) 25 34) 27 36).1 21 2 = Int32.ofInt (A 0 11) := ht30.2.1
        rw [ke_127 kc_0]
        simp (disch := omega) only [h09, m_dcopy (o := 20) (p := 29) (Or.inr ⟨rfl, rfl⟩), m_tsize tb_21, hs, ev_aload, ev_push, rx_zne_t, rx_zne_f, ev_getf, ev_callv, nr_i, nr_r, nr_l, nr_n, rx_iret, kb_127_0, kb_127_10, kr_127, kf_20_0, kf_29_0, kf_0_645, kf_0_646, kf_0_649, List.getD_cons_zero, List.getD_cons_succ, List.set_cons_zero, List.set_cons_succ, ex_spl, ex_low, Option.toList, List.cons_append, List.nil_append, reduceIte, Int.reduceToNat, Nat.reduceDiv, Nat.reduceMod, Nat.reduceAdd, Nat.reduceMul, z_0, z_1, z_10, z_01, reduceCtorEq, ite_true, ite_false, true_and, and_true, ↓bI_01, ↓bP_01, ↓zret0, ↓zret1, z_add, z_sub, z_mul, up_1, up_2, not_true, not_false_iff, if_true, if_false, bI_T, bI_F, bP_T, bP_F, or_true, true_or, or_false, false_or, Int.reduceNeg, Int.reduceAdd, Int.reduceSub, Int.reduceMul, Int.reduceEq, Int.reduceLT, Int.reduceLE, Int.natCast_add, Int.cast_ofNat_Int]
      · refine rCt_w ht30 ?_ ?_ (fun k hk => ?_) rfl rfl (by omega)
        · rw [q_tc_o (by omega) (by omega), q_tc_o (by omega) (by omega), q_tc_o (by omega) (by omega), q_tc_o (by omega) (by omega)]; exact ht21.1
        · rw [q_tc_o (by omega) (by omega), q_tc_o (by omega) (by omega), q_tc_o (by omega) (by omega), q_tc_2]
        · rw [q_tc_o (by omega) (by omega), q_tc_o (by omega) (by omega), q_tc_o (by omega) (by omega), q_tc_r hk]
      · refine rCt_w ht32 ?_ ?_ (fun k hk => ?_) rfl rfl (by omega)
        · rw [q_tc_o (by omega) (by omega), q_tc_o (by omega) (by omega), q_tc_o (by omega) (by omega), q_tc_o (by omega) (by omega)]; exact ht23.1
        · rw [q_tc_o (by omega) (by omega), q_tc_o (by omega) (by omega), q_tc_2, q_tc_o (by omega) (by omega)]
        · rw [q_tc_o (by omega) (by omega), q_tc_o (by omega) (by omega), q_tc_r hk, q_tc_o (by omega) (by omega)]
      · refine rCt_w ht34 ?_ ?_ (fun k hk => ?_) rfl rfl (by omega)
        · rw [q_tc_o (by omega) (by omega), q_tc_o (by omega) (by omega), q_tc_o (by omega) (by omega), q_tc_o (by omega) (by omega)]; exact ht25.1
        · rw [q_tc_o (by omega) (by omega), q_tc_2, q_tc_o (by omega) (by omega), q_tc_o (by omega) (by omega)]
        · rw [q_tc_o (by omega) (by omega), q_tc_r hk, q_tc_o (by omega) (by omega), q_tc_o (by omega) (by omega)]
      · refine rCt_w ht36 ?_ ?_ (fun k hk => ?_) rfl rfl (by omega)
        · rw [q_tc_o (by omega) (by omega), q_tc_o (by omega) (by omega), q_tc_o (by omega) (by omega), q_tc_o (by omega) (by omega)]; exact ht27.1
        · rw [q_tc_2, q_tc_o (by omega) (by omega), q_tc_o (by omega) (by omega), q_tc_o (by omega) (by omega)]
        · rw [q_tc_r hk, q_tc_o (by omega) (by omega), q_tc_o (by omega) (by omega), q_tc_o (by omega) (by omega)]
      · intro a k ha
        rw [q_tc_o (by omega) (by omega), q_tc_o (by omega) (by omega), q_tc_o (by omega) (by omega), q_tc_o (by omega) (by omega)]
    · obtain ⟨hM, hMk⟩ := hM
      have hMM := hM
      have hMk' := hMk
      obtain ⟨⟨g0, g1, g2, g5, g11, g13, g17, g20, g23, g24, g49⟩, ⟨gk, gl⟩, ⟨gs, ga, gf, gt, gn⟩, ⟨gtk, gtc, gtw⟩, ge, ⟨gba, gbh⟩, ⟨gjc, gjs⟩, gp⟩ := id hM
      obtain ⟨-, ⟨q, q0, q1, q2, q3⟩, q4⟩ := hMk
      obtain ⟨b26, hq⟩ := q3.1 hk
      subst hq
      obtain ⟨b28, b29, b30, b31, k5, k4, k6, k7⟩ := q4 hk
      rw [ke_230 kc_46]
      simp (disch := omega) only [b26, q2, g2, b28, b29, b30, b31, up_n, up_e, ev_iload, ev_aload, rx_istore, ev_iinc, ev_push, ev_iadd, ev_imul, ev_goto, ev_jsr, rx_ieq_t, rx_ieq_f, rx_ige_t, rx_ige_f, rx_zeq_t, rx_zeq_f, ev_getf, ev_putf, ev_putl, ev_iald, ev_callv, nr_i, nr_r, nr_l, nr_n, kA_47, kA_48, kA_49, kA_50, kA_51, kA_52, kA_53, kA_54, kA_55, kA_56, kA_57, kA_58, kA_59, kA_60, kA_61, kA_63, kA_64, kA_65, kA_66, kA_67, kA_68, kA_69, kA_70, kS_47, kS_48, kS_49, kS_50, kS_51, kS_52, kS_53, kS_54, kS_55, kS_56, kS_57, kS_58, kS_59, kS_60, kS_61, kS_63, kS_64, kS_65, kS_66, kS_67, kS_68, kS_69, kS_70, rx_iret, kb_230_0, kb_230_18, kb_230_21, kb_230_99, kb_230_125, kb_230_169, kb_230_213, kr_230, kf_46_706, kf_46_716, kf_46_717, kf_46_722, kf_46_723, kf_46_725, kf_46_726, kf_46_730, kf_46_731, kf_46_732, kf_46_733, kf_46_734, kf_46_735, kf_46_736, kf_46_737, kf_46_738, kf_46_739, kk_46_715, kk_46_717, kk_46_721, kk_46_724, List.getD_cons_zero, List.getD_cons_succ, List.set_cons_zero, List.set_cons_succ, ex_spl, ex_low, Option.toList, List.cons_append, List.nil_append, reduceIte, Int.reduceToNat, Nat.reduceDiv, Nat.reduceMod, Nat.reduceAdd, Nat.reduceMul, z_0, z_1, z_10, z_01, reduceCtorEq, ite_true, ite_false, true_and, and_true, ↓bI_01, ↓bP_01, ↓zret0, ↓zret1, z_add, z_sub, z_mul, up_2, not_true, not_false_iff, if_true, if_false, bI_T, bI_F, bP_T, bP_F, or_true, true_or, or_false, false_or, Int.reduceNeg, Int.reduceAdd, Int.reduceSub, Int.reduceMul, Int.reduceEq, Int.reduceLT, Int.reduceLE, Int.natCast_add, Int.cast_ofNat_Int]
      generalize hw0 : ex_up (ex_up (ex_up (ex_up w 46 13 (Int32.ofInt (A 0 11))) 46 11 (Int32.ofInt (A 0 12))) 46 17 (Int32.ofInt (A 0 13))) 46 20 (Int32.ofInt (A 0 14)) = w0
      have o0 : ∀ a k, ¬ (a = 46 ∧ (k = 13 ∨ k = 11 ∨ k = 17 ∨ k = 20)) → w0.1 a k = w.1 a k := fun a k h => by
        rw [← hw0, up_n (by omega), up_n (by omega), up_n (by omega), up_n (by omega)]
      have d13 : w0.1 46 13 = Int32.ofInt (A 0 11) := by rw [← hw0]; rfl
      have d11 : w0.1 46 11 = Int32.ofInt (A 0 12) := by rw [← hw0]; rfl
      have d17 : w0.1 46 17 = Int32.ofInt (A 0 13) := by rw [← hw0]; rfl
      have d20 : w0.1 46 20 = Int32.ofInt (A 0 14) := by rw [← hw0]; rfl
      clear hw0
      obtain ⟨s1, e1, w1, rfl, o1, c1⟩ := ex_iterI (d := d + 15) (cal := ex_cal (d + 15)) (y := 230) (s := (ex_blk 230 55, [.ref 46, .int (Int32.ofInt 0)], [], w0)) (fun i s => ∃ w1, s = (ex_blk 230 55, [.ref 46, .int (Int32.ofInt (i : Int))], [], w1) ∧ (∀ a k, ¬ (55 ≤ a ∧ a < 58) → w1.1 a k = w0.1 a k) ∧ (∀ l : Int, 0 ≤ l → l < (i : Int) → w1.1 55 l.toNat = w0.1 63 (3 * l).toNat ∧ w1.1 56 l.toNat = w0.1 63 (3 * l + 1).toNat ∧ w1.1 57 l.toNat = w0.1 63 (3 * l + 2).toNat)) (a := 0) (n := 3) (Nat.zero_le _) ⟨w0, rfl, fun _ _ _ => rfl, fun l h0 h1 => absurd h1 (by omega)⟩ (by
        rintro i s - hi ⟨w1, rfl, o1, c1⟩
        have x1 := o1 63 (3 * (i : Int)).toNat (by omega)
        have x2 := o1 63 (3 * (i : Int) + 1).toNat (by omega)
        have x3 := o1 63 (3 * (i : Int) + 2).toNat (by omega)
        refine ⟨(ex_blk 230 55, [.ref 46, .int (Int32.ofInt ((i : Int) + 1))], [], ex_up (ex_up (ex_up w1 55 (i : Int).toNat (w0.1 63 (3 * (i : Int)).toNat)) 56 (i : Int).toNat (w0.1 63 (3 * (i : Int) + 1).toNat)) 57 (i : Int).toNat (w0.1 63 (3 * (i : Int) + 2).toNat)), ?_, _, rfl, fun a k ha => ?_, fun l l0 l1 => ?_⟩
        · conv => lhs; rw [kb_230_55]
          simp (disch := omega) only [r_put, x1, x2, x3, ev_iload, ev_aload, rx_istore, ev_iinc, ev_push, ev_iadd, ev_imul, ev_goto, ev_jsr, rx_ieq_t, rx_ieq_f, rx_ige_t, rx_ige_f, rx_zeq_t, rx_zeq_f, ev_getf, ev_putf, ev_putl, ev_iald, ev_callv, nr_i, nr_r, nr_l, nr_n, kA_47, kA_48, kA_49, kA_50, kA_51, kA_52, kA_53, kA_54, kA_55, kA_56, kA_57, kA_58, kA_59, kA_60, kA_61, kA_63, kA_64, kA_65, kA_66, kA_67, kA_68, kA_69, kA_70, kS_47, kS_48, kS_49, kS_50, kS_51, kS_52, kS_53, kS_54, kS_55, kS_56, kS_57, kS_58, kS_59, kS_60, kS_61, kS_63, kS_64, kS_65, kS_66, kS_67, kS_68, kS_69, kS_70, rx_iret, kb_230_0, kb_230_18, kb_230_21, kb_230_99, kb_230_125, kb_230_169, kb_230_213, kr_230, kf_46_706, kf_46_716, kf_46_717, kf_46_722, kf_46_723, kf_46_725, kf_46_726, kf_46_730, kf_46_731, kf_46_732, kf_46_733, kf_46_734, kf_46_735, kf_46_736, kf_46_737, kf_46_738, kf_46_739, kk_46_715, kk_46_717, kk_46_721, kk_46_724, List.getD_cons_zero, List.getD_cons_succ, List.set_cons_zero, List.set_cons_succ, ex_spl, ex_low, Option.toList, List.cons_append, List.nil_append, reduceIte, Int.reduceToNat, Nat.reduceDiv, Nat.reduceMod, Nat.reduceAdd, Nat.reduceMul, z_0, z_1, z_10, z_01, reduceCtorEq, ite_true, ite_false, true_and, and_true, ↓bI_01, ↓bP_01, ↓zret0, ↓zret1, z_add, z_sub, z_mul, up_1, up_2, not_true, not_false_iff, if_true, if_false, bI_T, bI_F, bP_T, bP_F, or_true, true_or, or_false, false_or, Int.reduceNeg, Int.reduceAdd, Int.reduceSub, Int.reduceMul, Int.reduceEq, Int.reduceLT, Int.reduceLE, Int.natCast_add, Int.cast_ofNat_Int]
        · rw [up_n (by omega), up_n (by omega), up_n (by omega)]; exact o1 a k ha
        · by_cases hl : l = i
          · subst hl
            refine ⟨?_, ?_, ?_⟩
            · rw [up_n (by omega), up_n (by omega), up_e (by omega)]
            · rw [up_n (by omega), up_e (by omega)]
            · rw [up_e (by omega)]
          · refine ⟨?_, ?_, ?_⟩ <;> rw [up_n (by omega), up_n (by omega), up_n (by omega)]
            · exact (c1 l l0 (by omega)).1
            · exact (c1 l l0 (by omega)).2.1
            · exact (c1 l l0 (by omega)).2.2)
      obtain ⟨s2, e2, w2, rfl, o2, c2⟩ := ex_iterI (d := d + 15) (cal := ex_cal (d + 15)) (y := 230) (s := (ex_blk 230 101, [.ref 46, .int (Int32.ofInt 0)], [], w1)) (fun i s => ∃ w2, s = (ex_blk 230 101, [.ref 46, .int (Int32.ofInt (i : Int))], [], w2) ∧ (∀ a k, ¬ a = 54 → w2.1 a k = w1.1 a k) ∧ (∀ l : Int, 0 ≤ l → l < (i : Int) → w2.1 54 l.toNat = w1.1 64 l.toNat)) (a := 0) (n := 60) (Nat.zero_le _) ⟨w1, rfl, fun _ _ _ => rfl, fun l h0 h1 => absurd h1 (by omega)⟩ (by
        rintro i s - hi ⟨w2, rfl, o2, c2⟩
        refine ⟨(ex_blk 230 101, [.ref 46, .int (Int32.ofInt ((i : Int) + 1))], [], ex_up w2 54 (i : Int).toNat (w1.1 64 (i : Int).toNat)), ?_, _, rfl, fun a k ha => ?_, fun l l0 l1 => ?_⟩
        · conv => lhs; rw [kb_230_101]
          simp (disch := omega) only [up_n, up_e, o2, ev_iload, ev_aload, rx_istore, ev_iinc, ev_push, ev_iadd, ev_imul, ev_goto, ev_jsr, rx_ieq_t, rx_ieq_f, rx_ige_t, rx_ige_f, rx_zeq_t, rx_zeq_f, ev_getf, ev_putf, ev_putl, ev_iald, ev_callv, nr_i, nr_r, nr_l, nr_n, kA_47, kA_48, kA_49, kA_50, kA_51, kA_52, kA_53, kA_54, kA_55, kA_56, kA_57, kA_58, kA_59, kA_60, kA_61, kA_63, kA_64, kA_65, kA_66, kA_67, kA_68, kA_69, kA_70, kS_47, kS_48, kS_49, kS_50, kS_51, kS_52, kS_53, kS_54, kS_55, kS_56, kS_57, kS_58, kS_59, kS_60, kS_61, kS_63, kS_64, kS_65, kS_66, kS_67, kS_68, kS_69, kS_70, rx_iret, kb_230_0, kb_230_18, kb_230_21, kb_230_99, kb_230_125, kb_230_169, kb_230_213, kr_230, kf_46_706, kf_46_716, kf_46_717, kf_46_722, kf_46_723, kf_46_725, kf_46_726, kf_46_730, kf_46_731, kf_46_732, kf_46_733, kf_46_734, kf_46_735, kf_46_736, kf_46_737, kf_46_738, kf_46_739, kk_46_715, kk_46_717, kk_46_721, kk_46_724, List.getD_cons_zero, List.getD_cons_succ, List.set_cons_zero, List.set_cons_succ, ex_spl, ex_low, Option.toList, List.cons_append, List.nil_append, reduceIte, Int.reduceToNat, Nat.reduceDiv, Nat.reduceMod, Nat.reduceAdd, Nat.reduceMul, z_0, z_1, z_10, z_01, reduceCtorEq, ite_true, ite_false, true_and, and_true, ↓bI_01, ↓bP_01, ↓zret0, ↓zret1, z_add, z_sub, z_mul, up_2, not_true, not_false_iff, if_true, if_false, bI_T, bI_F, bP_T, bP_F, or_true, true_or, or_false, false_or, Int.reduceNeg, Int.reduceAdd, Int.reduceSub, Int.reduceMul, Int.reduceEq, Int.reduceLT, Int.reduceLE, Int.natCast_add, Int.cast_ofNat_Int]
        · rw [up_n (by omega)]; exact o2 a k ha
        · by_cases hl : l = i
          · subst hl; rw [up_e (by omega)]
          · rw [up_n (by omega)]; exact c2 l l0 (by omega))
      obtain ⟨s3, e3, w3, rfl, o3, c3⟩ := ex_iterI (d := d + 15) (cal := ex_cal (d + 15)) (y := 230) (s := (ex_blk 230 127, [.ref 46, .int (Int32.ofInt 0)], [], w2)) (fun i s => ∃ w3, s = (ex_blk 230 127, [.ref 46, .int (Int32.ofInt (i : Int))], [], w3) ∧ (∀ a k, ¬ (58 ≤ a ∧ a < 60) → w3.1 a k = w2.1 a k) ∧ (∀ l : Int, 0 ≤ l → l < (i : Int) → w3.1 58 l.toNat = w2.1 65 (2 * l).toNat ∧ w3.1 59 l.toNat = w2.1 65 (2 * l + 1).toNat)) (a := 0) (n := 6) (Nat.zero_le _) ⟨w2, rfl, fun _ _ _ => rfl, fun l h0 h1 => absurd h1 (by omega)⟩ (by
        rintro i s - hi ⟨w3, rfl, o3, c3⟩
        refine ⟨(ex_blk 230 127, [.ref 46, .int (Int32.ofInt ((i : Int) + 1))], [], ex_up (ex_up w3 58 (i : Int).toNat (w2.1 65 (2 * (i : Int)).toNat)) 59 (i : Int).toNat (w2.1 65 (2 * (i : Int) + 1).toNat)), ?_, _, rfl, fun a k ha => ?_, fun l l0 l1 => ?_⟩
        · conv => lhs; rw [kb_230_127]
          simp (disch := omega) only [up_n, up_e, o3, ev_iload, ev_aload, rx_istore, ev_iinc, ev_push, ev_iadd, ev_imul, ev_goto, ev_jsr, rx_ieq_t, rx_ieq_f, rx_ige_t, rx_ige_f, rx_zeq_t, rx_zeq_f, ev_getf, ev_putf, ev_putl, ev_iald, ev_callv, nr_i, nr_r, nr_l, nr_n, kA_47, kA_48, kA_49, kA_50, kA_51, kA_52, kA_53, kA_54, kA_55, kA_56, kA_57, kA_58, kA_59, kA_60, kA_61, kA_63, kA_64, kA_65, kA_66, kA_67, kA_68, kA_69, kA_70, kS_47, kS_48, kS_49, kS_50, kS_51, kS_52, kS_53, kS_54, kS_55, kS_56, kS_57, kS_58, kS_59, kS_60, kS_61, kS_63, kS_64, kS_65, kS_66, kS_67, kS_68, kS_69, kS_70, rx_iret, kb_230_0, kb_230_18, kb_230_21, kb_230_99, kb_230_125, kb_230_169, kb_230_213, kr_230, kf_46_706, kf_46_716, kf_46_717, kf_46_722, kf_46_723, kf_46_725, kf_46_726, kf_46_730, kf_46_731, kf_46_732, kf_46_733, kf_46_734, kf_46_735, kf_46_736, kf_46_737, kf_46_738, kf_46_739, kk_46_715, kk_46_717, kk_46_721, kk_46_724, List.getD_cons_zero, List.getD_cons_succ, List.set_cons_zero, List.set_cons_succ, ex_spl, ex_low, Option.toList, List.cons_append, List.nil_append, reduceIte, Int.reduceToNat, Nat.reduceDiv, Nat.reduceMod, Nat.reduceAdd, Nat.reduceMul, z_0, z_1, z_10, z_01, reduceCtorEq, ite_true, ite_false, true_and, and_true, ↓bI_01, ↓bP_01, ↓zret0, ↓zret1, z_add, z_sub, z_mul, up_2, not_true, not_false_iff, if_true, if_false, bI_T, bI_F, bP_T, bP_F, or_true, true_or, or_false, false_or, Int.reduceNeg, Int.reduceAdd, Int.reduceSub, Int.reduceMul, Int.reduceEq, Int.reduceLT, Int.reduceLE, Int.natCast_add, Int.cast_ofNat_Int]
        · rw [up_n (by omega), up_n (by omega)]; exact o3 a k ha
        · by_cases hl : l = i
          · subst hl
            refine ⟨?_, ?_⟩
            · rw [up_n (by omega), up_e (by omega)]
            · rw [up_e (by omega)]
          · refine ⟨?_, ?_⟩ <;> rw [up_n (by omega), up_n (by omega)]
            · exact (c3 l l0 (by omega)).1
            · exact (c3 l l0 (by omega)).2)
      obtain ⟨s4, e4, w4, rfl, o4, c4⟩ := ex_iterI (d := d + 15) (cal := ex_cal (d + 15)) (y := 230) (s := (ex_blk 230 171, [.ref 46, .int (Int32.ofInt 0)], [], w3)) (fun i s => ∃ w4, s = (ex_blk 230 171, [.ref 46, .int (Int32.ofInt (i : Int))], [], w4) ∧ (∀ a k, ¬ (60 ≤ a ∧ a < 62) → w4.1 a k = w3.1 a k) ∧ (∀ l : Int, 0 ≤ l → l < (i : Int) → w4.1 60 l.toNat = w3.1 66 (2 * l).toNat ∧ w4.1 61 l.toNat = w3.1 66 (2 * l + 1).toNat)) (a := 0) (n := 10) (Nat.zero_le _) ⟨w3, rfl, fun _ _ _ => rfl, fun l h0 h1 => absurd h1 (by omega)⟩ (by
        rintro i s - hi ⟨w4, rfl, o4, c4⟩
        refine ⟨(ex_blk 230 171, [.ref 46, .int (Int32.ofInt ((i : Int) + 1))], [], ex_up (ex_up w4 60 (i : Int).toNat (w3.1 66 (2 * (i : Int)).toNat)) 61 (i : Int).toNat (w3.1 66 (2 * (i : Int) + 1).toNat)), ?_, _, rfl, fun a k ha => ?_, fun l l0 l1 => ?_⟩
        · conv => lhs; rw [kb_230_171]
          simp (disch := omega) only [up_n, up_e, o4, ev_iload, ev_aload, rx_istore, ev_iinc, ev_push, ev_iadd, ev_imul, ev_goto, ev_jsr, rx_ieq_t, rx_ieq_f, rx_ige_t, rx_ige_f, rx_zeq_t, rx_zeq_f, ev_getf, ev_putf, ev_putl, ev_iald, ev_callv, nr_i, nr_r, nr_l, nr_n, kA_47, kA_48, kA_49, kA_50, kA_51, kA_52, kA_53, kA_54, kA_55, kA_56, kA_57, kA_58, kA_59, kA_60, kA_61, kA_63, kA_64, kA_65, kA_66, kA_67, kA_68, kA_69, kA_70, kS_47, kS_48, kS_49, kS_50, kS_51, kS_52, kS_53, kS_54, kS_55, kS_56, kS_57, kS_58, kS_59, kS_60, kS_61, kS_63, kS_64, kS_65, kS_66, kS_67, kS_68, kS_69, kS_70, rx_iret, kb_230_0, kb_230_18, kb_230_21, kb_230_99, kb_230_125, kb_230_169, kb_230_213, kr_230, kf_46_706, kf_46_716, kf_46_717, kf_46_722, kf_46_723, kf_46_725, kf_46_726, kf_46_730, kf_46_731, kf_46_732, kf_46_733, kf_46_734, kf_46_735, kf_46_736, kf_46_737, kf_46_738, kf_46_739, kk_46_715, kk_46_717, kk_46_721, kk_46_724, List.getD_cons_zero, List.getD_cons_succ, List.set_cons_zero, List.set_cons_succ, ex_spl, ex_low, Option.toList, List.cons_append, List.nil_append, reduceIte, Int.reduceToNat, Nat.reduceDiv, Nat.reduceMod, Nat.reduceAdd, Nat.reduceMul, z_0, z_1, z_10, z_01, reduceCtorEq, ite_true, ite_false, true_and, and_true, ↓bI_01, ↓bP_01, ↓zret0, ↓zret1, z_add, z_sub, z_mul, up_2, not_true, not_false_iff, if_true, if_false, bI_T, bI_F, bP_T, bP_F, or_true, true_or, or_false, false_or, Int.reduceNeg, Int.reduceAdd, Int.reduceSub, Int.reduceMul, Int.reduceEq, Int.reduceLT, Int.reduceLE, Int.natCast_add, Int.cast_ofNat_Int]
        · rw [up_n (by omega), up_n (by omega)]; exact o4 a k ha
        · by_cases hl : l = i
          · subst hl
            refine ⟨?_, ?_⟩
            · rw [up_n (by omega), up_e (by omega)]
            · rw [up_e (by omega)]
          · refine ⟨?_, ?_⟩ <;> rw [up_n (by omega), up_n (by omega)]
            · exact (c4 l l0 (by omega)).1
            · exact (c4 l l0 (by omega)).2)
      have o46 : ∀ k, w4.1 46 k = w0.1 46 k := fun k => by rw [o4 46 k (by omega), o3 46 k (by omega), o2 46 k (by omega), o1 46 k (by omega)]
      have oo : ∀ a k, ¬ (a = 46 ∧ (k = 13 ∨ k = 11 ∨ k = 17 ∨ k = 20)) → a < 54 ∨ 61 < a → w4.1 a k = w.1 a k := fun a k h1 h2 => by
        rw [o4 a k (by omega), o3 a k (by omega), o2 a k (by omega), o1 a k (by omega), o0 a k h1]
      refine ⟨w4, ?_, ⟨⟨⟨?_, ?_, ?_, ?_, ?_, ?_, ?_, ?_, ?_, ?_, ?_⟩, ⟨fun k k0 k1 => ?_, fun k k0 k1 => ?_⟩, ⟨fun k k0 k1 => ?_, fun k k0 k1 => ?_, fun k k0 k1 => ?_, fun k k0 k1 => ?_, fun k k0 k1 => ?_⟩, ⟨fun k k0 k1 => ?_, fun k k0 k1 => ?_, fun k k0 k1 => ?_⟩, fun k k0 k1 => ?_, ⟨fun k k0 k1 => ?_, fun k k0 k1 => ?_⟩, ⟨fun k k0 k1 => ?_, fun k k0 k1 => ?_⟩, fun k k0 k1 => ?_⟩, ?_⟩, fun a k ha => oo a k (by omega) (by omega)⟩
      · refine e1.trans ?_
        rw [kb_230_55]
        simp (disch := omega) only [ev_iload, ev_aload, rx_istore, ev_iinc, ev_push, ev_iadd, ev_imul, ev_goto, ev_jsr, rx_ieq_t, rx_ieq_f, rx_ige_t, rx_ige_f, rx_zeq_t, rx_zeq_f, ev_getf, ev_putf, ev_putl, ev_iald, ev_callv, nr_i, nr_r, nr_l, nr_n, kA_47, kA_48, kA_49, kA_50, kA_51, kA_52, kA_53, kA_54, kA_55, kA_56, kA_57, kA_58, kA_59, kA_60, kA_61, kA_63, kA_64, kA_65, kA_66, kA_67, kA_68, kA_69, kA_70, kS_47, kS_48, kS_49, kS_50, kS_51, kS_52, kS_53, kS_54, kS_55, kS_56, kS_57, kS_58, kS_59, kS_60, kS_61, kS_63, kS_64, kS_65, kS_66, kS_67, kS_68, kS_69, kS_70, rx_iret, kb_230_0, kb_230_18, kb_230_21, kb_230_99, kb_230_125, kb_230_169, kb_230_213, kr_230, kf_46_706, kf_46_716, kf_46_717, kf_46_722, kf_46_723, kf_46_725, kf_46_726, kf_46_730, kf_46_731, kf_46_732, kf_46_733, kf_46_734, kf_46_735, kf_46_736, kf_46_737, kf_46_738, kf_46_739, kk_46_715, kk_46_717, kk_46_721, kk_46_724, List.getD_cons_zero, List.getD_cons_succ, List.set_cons_zero, List.set_cons_succ, ex_spl, ex_low, Option.toList, List.cons_append, List.nil_append, reduceIte, Int.reduceToNat, Nat.reduceDiv, Nat.reduceMod, Nat.reduceAdd, Nat.reduceMul, z_0, z_1, z_10, z_01, reduceCtorEq, ite_true, ite_false, true_and, and_true, ↓bI_01, ↓bP_01, ↓zret0, ↓zret1, z_add, z_sub, z_mul, up_1, up_2, not_true, not_false_iff, if_true, if_false, bI_T, bI_F, bP_T, bP_F, or_true, true_or, or_false, false_or, Int.reduceNeg, Int.reduceAdd, Int.reduceSub, Int.reduceMul, Int.reduceEq, Int.reduceLT, Int.reduceLE, Int.natCast_add, Int.cast_ofNat_Int]
        refine e2.trans ?_
        rw [kb_230_101]
        simp (disch := omega) only [ev_iload, ev_aload, rx_istore, ev_iinc, ev_push, ev_iadd, ev_imul, ev_goto, ev_jsr, rx_ieq_t, rx_ieq_f, rx_ige_t, rx_ige_f, rx_zeq_t, rx_zeq_f, ev_getf, ev_putf, ev_putl, ev_iald, ev_callv, nr_i, nr_r, nr_l, nr_n, kA_47, kA_48, kA_49, kA_50, kA_51, kA_52, kA_53, kA_54, kA_55, kA_56, kA_57, kA_58, kA_59, kA_60, kA_61, kA_63, kA_64, kA_65, kA_66, kA_67, kA_68, kA_69, kA_70, kS_47, kS_48, kS_49, kS_50, kS_51, kS_52, kS_53, kS_54, kS_55, kS_56, kS_57, kS_58, kS_59, kS_60, kS_61, kS_63, kS_64, kS_65, kS_66, kS_67, kS_68, kS_69, kS_70, rx_iret, kb_230_0, kb_230_18, kb_230_21, kb_230_99, kb_230_125, kb_230_169, kb_230_213, kr_230, kf_46_706, kf_46_716, kf_46_717, kf_46_722, kf_46_723, kf_46_725, kf_46_726, kf_46_730, kf_46_731, kf_46_732, kf_46_733, kf_46_734, kf_46_735, kf_46_736, kf_46_737, kf_46_738, kf_46_739, kk_46_715, kk_46_717, kk_46_721, kk_46_724, List.getD_cons_zero, List.getD_cons_succ, List.set_cons_zero, List.set_cons_succ, ex_spl, ex_low, Option.toList, List.cons_append, List.nil_append, reduceIte, Int.reduceToNat, Nat.reduceDiv, Nat.reduceMod, Nat.reduceAdd, Nat.reduceMul, z_0, z_1, z_10, z_01, reduceCtorEq, ite_true, ite_false, true_and, and_true, ↓bI_01, ↓bP_01, ↓zret0, ↓zret1, z_add, z_sub, z_mul, up_1, up_2, not_true, not_false_iff, if_true, if_false, bI_T, bI_F, bP_T, bP_F, or_true, true_or, or_false, false_or, Int.reduceNeg, Int.reduceAdd, Int.reduceSub, Int.reduceMul, Int.reduceEq, Int.reduceLT, Int.reduceLE, Int.natCast_add, Int.cast_ofNat_Int]
        refine e3.trans ?_
        rw [kb_230_127]
        simp (disch := omega) only [ev_iload, ev_aload, rx_istore, ev_iinc, ev_push, ev_iadd, ev_imul, ev_goto, ev_jsr, rx_ieq_t, rx_ieq_f, rx_ige_t, rx_ige_f, rx_zeq_t, rx_zeq_f, ev_getf, ev_putf, ev_putl, ev_iald, ev_callv, nr_i, nr_r, nr_l, nr_n, kA_47, kA_48, kA_49, kA_50, kA_51, kA_52, kA_53, kA_54, kA_55, kA_56, kA_57, kA_58, kA_59, kA_60, kA_61, kA_63, kA_64, kA_65, kA_66, kA_67, kA_68, kA_69, kA_70, kS_47, kS_48, kS_49, kS_50, kS_51, kS_52, kS_53, kS_54, kS_55, kS_56, kS_57, kS_58, kS_59, kS_60, kS_61, kS_63, kS_64, kS_65, kS_66, kS_67, kS_68, kS_69, kS_70, rx_iret, kb_230_0, kb_230_18, kb_230_21, kb_230_99, kb_230_125, kb_230_169, kb_230_213, kr_230, kf_46_706, kf_46_716, kf_46_717, kf_46_722, kf_46_723, kf_46_725, kf_46_726, kf_46_730, kf_46_731, kf_46_732, kf_46_733, kf_46_734, kf_46_735, kf_46_736, kf_46_737, kf_46_738, kf_46_739, kk_46_715, kk_46_717, kk_46_721, kk_46_724, List.getD_cons_zero, List.getD_cons_succ, List.set_cons_zero, List.set_cons_succ, ex_spl, ex_low, Option.toList, List.cons_append, List.nil_append, reduceIte, Int.reduceToNat, Nat.reduceDiv, Nat.reduceMod, Nat.reduceAdd, Nat.reduceMul, z_0, z_1, z_10, z_01, reduceCtorEq, ite_true, ite_false, true_and, and_true, ↓bI_01, ↓bP_01, ↓zret0, ↓zret1, z_add, z_sub, z_mul, up_1, up_2, not_true, not_false_iff, if_true, if_false, bI_T, bI_F, bP_T, bP_F, or_true, true_or, or_false, false_or, Int.reduceNeg, Int.reduceAdd, Int.reduceSub, Int.reduceMul, Int.reduceEq, Int.reduceLT, Int.reduceLE, Int.natCast_add, Int.cast_ofNat_Int]
        refine e4.trans ?_
        rw [kb_230_171]
        have hs : w4.1 46 13 = Int32.ofInt (A 0 11) := by rw [o46]; exact d13
        simp (disch := omega) only [hs, ev_iload, ev_aload, rx_istore, ev_iinc, ev_push, ev_iadd, ev_imul, ev_goto, ev_jsr, rx_ieq_t, rx_ieq_f, rx_ige_t, rx_ige_f, rx_zeq_t, rx_zeq_f, ev_getf, ev_putf, ev_putl, ev_iald, ev_callv, nr_i, nr_r, nr_l, nr_n, kA_47, kA_48, kA_49, kA_50, kA_51, kA_52, kA_53, kA_54, kA_55, kA_56, kA_57, kA_58, kA_59, kA_60, kA_61, kA_63, kA_64, kA_65, kA_66, kA_67, kA_68, kA_69, kA_70, kS_47, kS_48, kS_49, kS_50, kS_51, kS_52, kS_53, kS_54, kS_55, kS_56, kS_57, kS_58, kS_59, kS_60, kS_61, kS_63, kS_64, kS_65, kS_66, kS_67, kS_68, kS_69, kS_70, rx_iret, kb_230_0, kb_230_18, kb_230_21, kb_230_99, kb_230_125, kb_230_169, kb_230_213, kr_230, kf_46_706, kf_46_716, kf_46_717, kf_46_722, kf_46_723, kf_46_725, kf_46_726, kf_46_730, kf_46_731, kf_46_732, kf_46_733, kf_46_734, kf_46_735, kf_46_736, kf_46_737, kf_46_738, kf_46_739, kk_46_715, kk_46_717, kk_46_721, kk_46_724, List.getD_cons_zero, List.getD_cons_succ, List.set_cons_zero, List.set_cons_succ, ex_spl, ex_low, Option.toList, List.cons_append, List.nil_append, reduceIte, Int.reduceToNat, Nat.reduceDiv, Nat.reduceMod, Nat.reduceAdd, Nat.reduceMul, z_0, z_1, z_10, z_01, reduceCtorEq, ite_true, ite_false, true_and, and_true, ↓bI_01, ↓bP_01, ↓zret0, ↓zret1, z_add, z_sub, z_mul, up_1, up_2, not_true, not_false_iff, if_true, if_false, bI_T, bI_F, bP_T, bP_F, or_true, true_or, or_false, false_or, Int.reduceNeg, Int.reduceAdd, Int.reduceSub, Int.reduceMul, Int.reduceEq, Int.reduceLT, Int.reduceLE, Int.natCast_add, Int.cast_ofNat_Int]
      · rw [oo 46 _ (by omega) (by omega)]; exact g0
      · rw [oo 46 _ (by omega) (by omega)]; exact g1
      · rw [oo 46 _ (by omega) (by omega)]; exact g2
      · rw [oo 46 _ (by omega) (by omega)]; exact g5
      · rw [o46]; exact d11
      · rw [o46]; exact d13
      · rw [o46]; exact d17
      · rw [o46]; exact d20
      · rw [oo 46 _ (by omega) (by omega)]; exact g23
      · rw [oo 46 _ (by omega) (by omega)]; exact g24
      · rw [oo 46 _ (by omega) (by omega)]; exact g49
      · rw [oo _ _ (by omega) (by omega)]; exact gk k k0 k1
      · rw [oo _ _ (by omega) (by omega)]; exact gl k k0 k1
      · rw [oo _ _ (by omega) (by omega)]; exact gs k k0 k1
      · rw [oo _ _ (by omega) (by omega)]; exact ga k k0 k1
      · rw [oo _ _ (by omega) (by omega)]; exact gf k k0 k1
      · rw [oo _ _ (by omega) (by omega)]; exact gt k k0 k1
      · rw [oo _ _ (by omega) (by omega)]; exact gn k k0 k1
      · have k2 : k < A 0 11 := k1
        rw [o4 55 _ (by omega), o3 55 _ (by omega), o2 55 _ (by omega), (c1 k k0 (by omega)).1, o0 63 _ (by omega)]; exact (k5 k k0 k2).1
      · have k2 : k < A 0 11 := k1
        rw [o4 56 _ (by omega), o3 56 _ (by omega), o2 56 _ (by omega), (c1 k k0 (by omega)).2.1, o0 63 _ (by omega)]; exact (k5 k k0 k2).2.1
      · have k2 : k < A 0 11 := k1
        rw [o4 57 _ (by omega), o3 57 _ (by omega), o2 57 _ (by omega), (c1 k k0 (by omega)).2.2, o0 63 _ (by omega)]; exact (k5 k k0 k2).2.2
      · have k2 : k < 5 * A 0 12 := k1
        rw [o4 54 _ (by omega), o3 54 _ (by omega), c2 k k0 (by omega), o1 64 _ (by omega), o0 64 _ (by omega)]; exact k4 k k0 k2
      · have k2 : k < A 0 13 := k1
        rw [o4 58 _ (by omega), (c3 k k0 (by omega)).1, o2 65 _ (by omega), o1 65 _ (by omega), o0 65 _ (by omega)]; exact (k6 k k0 k2).1
      · have k2 : k < A 0 13 := k1
        rw [o4 59 _ (by omega), (c3 k k0 (by omega)).2, o2 65 _ (by omega), o1 65 _ (by omega), o0 65 _ (by omega)]; exact (k6 k k0 k2).2
      · have k2 : k < A 0 14 := k1
        rw [(c4 k k0 (by omega)).1, o3 66 _ (by omega), o2 66 _ (by omega), o1 66 _ (by omega), o0 66 _ (by omega)]; exact (k7 k k0 k2).1
      · have k2 : k < A 0 14 := k1
        rw [(c4 k k0 (by omega)).2, o3 66 _ (by omega), o2 66 _ (by omega), o1 66 _ (by omega), o0 66 _ (by omega)]; exact (k7 k k0 k2).2
      · rw [oo _ _ (by omega) (by omega)]; exact gp k k0 k1
      · exact rMk_g hMk' (fun k h1 h2 => oo 46 k (by omega) (by omega)) (fun a k h1 h2 => oo a k (by omega) (by omega))
  · obtain ⟨-, -, -⟩ := id hV
    have h10 := hV.1.2.2.2.2.2.2.2.2.2
    have hk0 : A 0 10 = 0 := h10.resolve_right hk
    refine ⟨.int (Int32.ofInt (-103)), A, hV, fun d w hC => ⟨w, ?_, hC, fC_r w⟩, fun d w hM => ⟨w, ?_, hM, fM_r w⟩, by omega⟩
    · have h09 := hC.2.2.1.2.2.1
      rw [hk0] at h09
      rw [ke_127 kc_0]
      simp (disch := omega) only [h09, ev_aload, ev_push, rx_zne_t, rx_zne_f, ev_getf, ev_callv, nr_i, nr_r, nr_l, nr_n, rx_iret, kb_127_0, kb_127_10, kr_127, kf_20_0, kf_29_0, kf_0_645, kf_0_646, kf_0_649, List.getD_cons_zero, List.getD_cons_succ, List.set_cons_zero, List.set_cons_succ, ex_spl, ex_low, Option.toList, List.cons_append, List.nil_append, reduceIte, Int.reduceToNat, Nat.reduceDiv, Nat.reduceMod, Nat.reduceAdd, Nat.reduceMul, z_0, z_1, z_10, z_01, reduceCtorEq, ite_true, ite_false, true_and, and_true, ↓bI_01, ↓bP_01, ↓zret0, ↓zret1, z_add, z_sub, z_mul, up_1, up_2, not_true, not_false_iff, if_true, if_false, bI_T, bI_F, bP_T, bP_F, or_true, true_or, or_false, false_or, Int.reduceNeg, Int.reduceAdd, Int.reduceSub, Int.reduceMul, Int.reduceEq, Int.reduceLT, Int.reduceLE, Int.natCast_add, Int.cast_ofNat_Int]
    · obtain ⟨hM, h1, ⟨q, q0, q1, q2, q3⟩, q4⟩ := id hM
      have g2 := hM.1.2.2.1
      rw [ke_230 kc_46]
      rcases h1 with h1 | h1
      · simp (disch := omega) only [h1, ev_iload, ev_aload, rx_istore, ev_iinc, ev_push, ev_iadd, ev_imul, ev_goto, ev_jsr, rx_ieq_t, rx_ieq_f, rx_ige_t, rx_ige_f, rx_zeq_t, rx_zeq_f, ev_getf, ev_putf, ev_putl, ev_iald, ev_callv, nr_i, nr_r, nr_l, nr_n, kA_47, kA_48, kA_49, kA_50, kA_51, kA_52, kA_53, kA_54, kA_55, kA_56, kA_57, kA_58, kA_59, kA_60, kA_61, kA_63, kA_64, kA_65, kA_66, kA_67, kA_68, kA_69, kA_70, kS_47, kS_48, kS_49, kS_50, kS_51, kS_52, kS_53, kS_54, kS_55, kS_56, kS_57, kS_58, kS_59, kS_60, kS_61, kS_63, kS_64, kS_65, kS_66, kS_67, kS_68, kS_69, kS_70, rx_iret, kb_230_0, kb_230_18, kb_230_21, kb_230_99, kb_230_125, kb_230_169, kb_230_213, kr_230, kf_46_706, kf_46_716, kf_46_717, kf_46_722, kf_46_723, kf_46_725, kf_46_726, kf_46_730, kf_46_731, kf_46_732, kf_46_733, kf_46_734, kf_46_735, kf_46_736, kf_46_737, kf_46_738, kf_46_739, kk_46_715, kk_46_717, kk_46_721, kk_46_724, List.getD_cons_zero, List.getD_cons_succ, List.set_cons_zero, List.set_cons_succ, ex_spl, ex_low, Option.toList, List.cons_append, List.nil_append, reduceIte, Int.reduceToNat, Nat.reduceDiv, Nat.reduceMod, Nat.reduceAdd, Nat.reduceMul, z_0, z_1, z_10, z_01, reduceCtorEq, ite_true, ite_false, true_and, and_true, ↓bI_01, ↓bP_01, ↓zret0, ↓zret1, z_add, z_sub, z_mul, up_1, up_2, not_true, not_false_iff, if_true, if_false, bI_T, bI_F, bP_T, bP_F, or_true, true_or, or_false, false_or, Int.reduceNeg, Int.reduceAdd, Int.reduceSub, Int.reduceMul, Int.reduceEq, Int.reduceLT, Int.reduceLE, Int.natCast_add, Int.cast_ofNat_Int]
      · have hne : ¬ q = A 0 2 := fun h => hk (q3.2 ⟨h1, h⟩)
        simp (disch := omega) only [h1, q2, g2, ev_iload, ev_aload, rx_istore, ev_iinc, ev_push, ev_iadd, ev_imul, ev_goto, ev_jsr, rx_ieq_t, rx_ieq_f, rx_ige_t, rx_ige_f, rx_zeq_t, rx_zeq_f, ev_getf, ev_putf, ev_putl, ev_iald, ev_callv, nr_i, nr_r, nr_l, nr_n, kA_47, kA_48, kA_49, kA_50, kA_51, kA_52, kA_53, kA_54, kA_55, kA_56, kA_57, kA_58, kA_59, kA_60, kA_61, kA_63, kA_64, kA_65, kA_66, kA_67, kA_68, kA_69, kA_70, kS_47, kS_48, kS_49, kS_50, kS_51, kS_52, kS_53, kS_54, kS_55, kS_56, kS_57, kS_58, kS_59, kS_60, kS_61, kS_63, kS_64, kS_65, kS_66, kS_67, kS_68, kS_69, kS_70, rx_iret, kb_230_0, kb_230_18, kb_230_21, kb_230_99, kb_230_125, kb_230_169, kb_230_213, kr_230, kf_46_706, kf_46_716, kf_46_717, kf_46_722, kf_46_723, kf_46_725, kf_46_726, kf_46_730, kf_46_731, kf_46_732, kf_46_733, kf_46_734, kf_46_735, kf_46_736, kf_46_737, kf_46_738, kf_46_739, kk_46_715, kk_46_717, kk_46_721, kk_46_724, List.getD_cons_zero, List.getD_cons_succ, List.set_cons_zero, List.set_cons_succ, ex_spl, ex_low, Option.toList, List.cons_append, List.nil_append, reduceIte, Int.reduceToNat, Nat.reduceDiv, Nat.reduceMod, Nat.reduceAdd, Nat.reduceMul, z_0, z_1, z_10, z_01, reduceCtorEq, ite_true, ite_false, true_and, and_true, ↓bI_01, ↓bP_01, ↓zret0, ↓zret1, z_add, z_sub, z_mul, up_1, up_2, not_true, not_false_iff, if_true, if_false, bI_T, bI_F, bP_T, bP_F, or_true, true_or, or_false, false_or, Int.reduceNeg, Int.reduceAdd, Int.reduceSub, Int.reduceMul, Int.reduceEq, Int.reduceLT, Int.reduceLE, Int.natCast_add, Int.cast_ofNat_Int]
