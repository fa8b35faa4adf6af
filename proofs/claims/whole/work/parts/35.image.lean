/-! the image -/
def q_im (A : AS) : AS := fun x y => if x = 0 then (if y = 10 then 1 else if y = 11 then A 0 5 else if y = 12 then A 0 4 else if y = 13 then A 0 6 else if y = 14 then A 0 7 else A 0 y) else if x = 9 then A 5 y else if x = 10 then A 4 y else if x = 11 then A 6 y else if x = 12 then A 7 y else A x y
def q_rs2 (A : AS) : AS := fun x y => if x = 0 then (if y = 5 then A 0 11 else if y = 4 then A 0 12 else if y = 6 then A 0 13 else if y = 7 then A 0 14 else A 0 y) else if x = 5 then A 9 y else if x = 4 then A 10 y else if x = 6 then A 11 y else if x = 7 then A 12 y else A x y
theorem rN_g {A : AS} {b : Int} {w w' : PW} (hM : rN A b w) (h46 : ∀ k, (k = 0 ∨ k = 1 ∨ k = 2 ∨ k = 5 ∨ k = 11 ∨ k = 13 ∨ k = 17 ∨ k = 20 ∨ k = 23 ∨ k = 24 ∨ k = 49) → w'.1 46 k = w.1 46 k) (e : ∀ a k, 47 ≤ a → a < 63 → w'.1 a k = w.1 a k) : rN A b w' := by
  obtain ⟨⟨g0, g1, g2, g5, g11, g13, g17, g20, g23, g24, g49⟩, ⟨gk, gl⟩, ⟨gs, ga, gf, gt, gn⟩, ⟨gtk, gtc, gtw⟩, ge, ⟨gba, gbh⟩, ⟨gjc, gjs⟩, gp⟩ := id hM
  refine ⟨⟨?_, ?_, ?_, ?_, ?_, ?_, ?_, ?_, ?_, ?_, ?_⟩, ⟨fun k k0 k1 => ?_, fun k k0 k1 => ?_⟩, ⟨fun k k0 k1 => ?_, fun k k0 k1 => ?_, fun k k0 k1 => ?_, fun k k0 k1 => ?_, fun k k0 k1 => ?_⟩, ⟨fun k k0 k1 => ?_, fun k k0 k1 => ?_, fun k k0 k1 => ?_⟩, fun k k0 k1 => ?_, ⟨fun k k0 k1 => ?_, fun k k0 k1 => ?_⟩, ⟨fun k k0 k1 => ?_, fun k k0 k1 => ?_⟩, fun k k0 k1 => ?_⟩
  all_goals first | rw [h46 _ (by omega)] | rw [e _ _ (by omega) (by omega)]
  · exact g0
  · exact g1
  · exact g2
  · exact g5
  · exact g11
  · exact g13
  · exact g17
  · exact g20
  · exact g23
  · exact g24
  · exact g49
  · exact gk k k0 k1
  · exact gl k k0 k1
  · exact gs k k0 k1
  · exact ga k k0 k1
  · exact gf k k0 k1
  · exact gt k k0 k1
  · exact gn k k0 k1
  · exact gtk k k0 k1
  · exact gtc k k0 k1
  · exact gtw k k0 k1
  · exact ge k k0 k1
  · exact gba k k0 k1
  · exact gbh k k0 k1
  · exact gjc k k0 k1
  · exact gjs k k0 k1
  · exact gp k k0 k1
theorem g_image {A : AS} (hV : q_V A) : q_both A 126 229 [] := by
  have hr := q_rng hV.1
  by_cases hh : 0 < A 0 2
  · obtain ⟨⟨v1', v2, v3, v4, v5, v6, v7, v8, v9, v10⟩, vd, vi⟩ := id hV
    refine ⟨.int (Int32.ofInt (A 0 5)), q_im A, ⟨⟨v1', v2, v3, v4, v5, v6, v7, v8, v9, Or.inr rfl⟩, vd, fun _ => ⟨hh, v4, vd, v5, v6, v7⟩⟩, fun d w hC => ?_, fun d w hM => ?_, by show A 0 2 ≤ A 0 2 + 1; omega⟩
    · have hC' := hC
      obtain ⟨⟨⟨⟨h511, h512, h513⟩, ⟨hk, hro, hco, hli⟩⟩, ⟨hbe, hah, hbs, hos⟩⟩, hdo, ⟨h010, h011, h09, h11⟩, hpc, ht18, ht21, ht23, ht25, ht27, ht30, ht32, ht34, ht36⟩ := id hC
      refine ⟨ex_up (q_tc (q_tc (q_tc (q_tc w 30 21) 32 23) 34 25) 36 27) 0 9 (Int32.ofInt 1), ?_, ⟨hC.1, hC.2.1, ⟨h010, h011, up_s, h11⟩, hC.2.2.2.1, ht18, ht21, ht23, ht25, ht27, ?_, ?_, ?_, ?_⟩, ?_⟩
      · have hs : (ex_up (q_tc (q_tc (q_tc (q_tc w 30 21) 32 23) 34 25) 36 27) 0 9 (Int32.ofInt 1)).1 21 2 = Int32.ofInt (A 0 5) := ht21.2.1
        rw [ke_126 kc_0]
        simp (disch := omega) only [m_there2 hV.1.1 hC', bI_t, bI_f, m_dcopy (o := 29) (p := 20) (Or.inl ⟨rfl, rfl⟩), m_tsize tb_21, hs, up_n, ev_aload, ev_push, rx_zne_t, rx_zne_f, ev_getf, ev_putf, ev_putl, ev_callv, nr_i, nr_r, nr_l, nr_n, rx_iret, kb_126_0, kb_126_13, kr_126, kf_20_0, kf_29_0, kf_0_643, kf_0_645, kf_0_646, kk_0_649, List.getD_cons_zero, List.getD_cons_succ, List.set_cons_zero, List.set_cons_succ, ex_spl, ex_low, Option.toList, List.cons_append, List.nil_append, reduceIte, Int.reduceToNat, Nat.reduceDiv, Nat.reduceMod, Nat.reduceAdd, Nat.reduceMul, z_0, z_1, z_10, z_01, reduceCtorEq, ite_true, ite_false, true_and, and_true, ↓bI_01, ↓bP_01, ↓zret0, ↓zret1, z_add, z_sub, z_mul, up_2, not_true, not_false_iff, if_true, if_false, bI_T, bI_F, bP_T, bP_F, or_true, true_or, or_false, false_or, Int.reduceNeg, Int.reduceAdd, Int.reduceSub, Int.reduceMul, Int.reduceEq, Int.reduceLT, Int.reduceLE, Int.natCast_add, Int.cast_ofNat_Int]
      · refine rCt_w ht21 ?_ ?_ (fun k hk => ?_) rfl rfl (by omega)
        · rw [up_n (by omega), q_tc_o (by omega) (by omega), q_tc_o (by omega) (by omega), q_tc_o (by omega) (by omega), q_tc_o (by omega) (by omega)]; exact ht30.1
        · rw [up_n (by omega), q_tc_o (by omega) (by omega), q_tc_o (by omega) (by omega), q_tc_o (by omega) (by omega), q_tc_2]
        · rw [up_n (by omega), q_tc_o (by omega) (by omega), q_tc_o (by omega) (by omega), q_tc_o (by omega) (by omega), q_tc_r hk]
      · refine rCt_w ht23 ?_ ?_ (fun k hk => ?_) rfl rfl (by omega)
        · rw [up_n (by omega), q_tc_o (by omega) (by omega), q_tc_o (by omega) (by omega), q_tc_o (by omega) (by omega), q_tc_o (by omega) (by omega)]; exact ht32.1
        · rw [up_n (by omega), q_tc_o (by omega) (by omega), q_tc_o (by omega) (by omega), q_tc_2, q_tc_o (by omega) (by omega)]
        · rw [up_n (by omega), q_tc_o (by omega) (by omega), q_tc_o (by omega) (by omega), q_tc_r hk, q_tc_o (by omega) (by omega)]
      · refine rCt_w ht25 ?_ ?_ (fun k hk => ?_) rfl rfl (by omega)
        · rw [up_n (by omega), q_tc_o (by omega) (by omega), q_tc_o (by omega) (by omega), q_tc_o (by omega) (by omega), q_tc_o (by omega) (by omega)]; exact ht34.1
        · rw [up_n (by omega), q_tc_o (by omega) (by omega), q_tc_2, q_tc_o (by omega) (by omega), q_tc_o (by omega) (by omega)]
        · rw [up_n (by omega), q_tc_o (by omega) (by omega), q_tc_r hk, q_tc_o (by omega) (by omega), q_tc_o (by omega) (by omega)]
      · refine rCt_w ht27 ?_ ?_ (fun k hk => ?_) rfl rfl (by omega)
        · rw [up_n (by omega), q_tc_o (by omega) (by omega), q_tc_o (by omega) (by omega), q_tc_o (by omega) (by omega), q_tc_o (by omega) (by omega)]; exact ht36.1
        · rw [up_n (by omega), q_tc_2, q_tc_o (by omega) (by omega), q_tc_o (by omega) (by omega), q_tc_o (by omega) (by omega)]
        · rw [up_n (by omega), q_tc_r hk, q_tc_o (by omega) (by omega), q_tc_o (by omega) (by omega), q_tc_o (by omega) (by omega)]
      · intro a k ha
        rw [up_n (by omega), q_tc_o (by omega) (by omega), q_tc_o (by omega) (by omega), q_tc_o (by omega) (by omega), q_tc_o (by omega) (by omega)]
    · obtain ⟨hM, hMk⟩ := hM
      have hMM := hM
      obtain ⟨⟨g0, g1, g2, g5, g11, g13, g17, g20, g23, g24, g49⟩, ⟨gk, gl⟩, ⟨gs, ga, gf, gt, gn⟩, ⟨gtk, gtc, gtw⟩, ge, ⟨gba, gbh⟩, ⟨gjc, gjs⟩, gp⟩ := id hM
      rw [ke_229 kc_46]
      simp (disch := omega) only [g2, g13, g11, g17, g20, up_n, up_e, ev_iload, ev_aload, rx_istore, ev_iinc, ev_push, ev_iadd, ev_imul, ev_goto, ev_jsr, rx_ige_t, rx_ige_f, rx_zne_t, rx_zne_f, ev_getf, ev_putf, ev_putl, ev_iald, nr_i, nr_r, nr_l, nr_n, kA_47, kA_48, kA_49, kA_50, kA_51, kA_52, kA_53, kA_54, kA_55, kA_56, kA_57, kA_58, kA_59, kA_60, kA_61, kA_63, kA_64, kA_65, kA_66, kA_67, kA_68, kA_69, kA_70, kS_47, kS_48, kS_49, kS_50, kS_51, kS_52, kS_53, kS_54, kS_55, kS_56, kS_57, kS_58, kS_59, kS_60, kS_61, kS_63, kS_64, kS_65, kS_66, kS_67, kS_68, kS_69, kS_70, rx_iret, kb_229_0, kb_229_10, kb_229_114, kb_229_140, kb_229_184, kb_229_228, kr_229, kf_46_706, kf_46_715, kf_46_716, kf_46_717, kf_46_718, kf_46_719, kf_46_720, kf_46_721, kf_46_722, kf_46_723, kf_46_724, kf_46_725, kf_46_726, kf_46_736, kf_46_737, kf_46_738, kf_46_739, kk_46_730, kk_46_731, kk_46_732, kk_46_733, kk_46_734, kk_46_735, List.getD_cons_zero, List.getD_cons_succ, List.set_cons_zero, List.set_cons_succ, ex_spl, ex_low, Option.toList, List.cons_append, List.nil_append, reduceIte, Int.reduceToNat, Nat.reduceDiv, Nat.reduceMod, Nat.reduceAdd, Nat.reduceMul, z_0, z_1, z_10, z_01, reduceCtorEq, ite_true, ite_false, true_and, and_true, ↓bI_01, ↓bP_01, ↓zret0, ↓zret1, z_add, z_sub, z_mul, up_2, not_true, not_false_iff, if_true, if_false, bI_T, bI_F, bP_T, bP_F, or_true, true_or, or_false, false_or, Int.reduceNeg, Int.reduceAdd, Int.reduceSub, Int.reduceMul, Int.reduceEq, Int.reduceLT, Int.reduceLE, Int.natCast_add, Int.cast_ofNat_Int]
      generalize hw0 : ex_up (ex_up (ex_up (ex_up (ex_up (ex_up w 46 26 (Int32.ofInt 1)) 46 27 (Int32.ofInt (A 0 2))) 46 28 (Int32.ofInt (A 0 5))) 46 29 (Int32.ofInt (A 0 4))) 46 30 (Int32.ofInt (A 0 6))) 46 31 (Int32.ofInt (A 0 7)) = w0
      have o0 : ∀ a k, ¬ (a = 46 ∧ 26 ≤ k ∧ k < 32) → w0.1 a k = w.1 a k := fun a k h => by
        rw [← hw0, up_n (by omega), up_n (by omega), up_n (by omega), up_n (by omega), up_n (by omega), up_n (by omega)]
      have b26 : w0.1 46 26 = Int32.ofInt 1 := by rw [← hw0]; rfl
      have b27 : w0.1 46 27 = Int32.ofInt (A 0 2) := by rw [← hw0]; rfl
      have b28 : w0.1 46 28 = Int32.ofInt (A 0 5) := by rw [← hw0]; rfl
      have b29 : w0.1 46 29 = Int32.ofInt (A 0 4) := by rw [← hw0]; rfl
      have b30 : w0.1 46 30 = Int32.ofInt (A 0 6) := by rw [← hw0]; rfl
      have b31 : w0.1 46 31 = Int32.ofInt (A 0 7) := by rw [← hw0]; rfl
      clear hw0
      obtain ⟨s1, e1, w1, rfl, o1, c1⟩ := ex_iterI (d := d + 15) (cal := ex_cal (d + 15)) (y := 229) (s := (ex_blk 229 57, [.ref 46, .int (Int32.ofInt 0)], [], w0)) (fun i s => ∃ w1, s = (ex_blk 229 57, [.ref 46, .int (Int32.ofInt (i : Int))], [], w1) ∧ (∀ a k, ¬ a = 63 → w1.1 a k = w0.1 a k) ∧ (∀ l : Int, 0 ≤ l → l < (i : Int) → w1.1 63 (3 * l).toNat = w0.1 55 l.toNat ∧ w1.1 63 (3 * l + 1).toNat = w0.1 56 l.toNat ∧ w1.1 63 (3 * l + 2).toNat = w0.1 57 l.toNat)) (a := 0) (n := 3) (Nat.zero_le _) ⟨w0, rfl, fun _ _ _ => rfl, fun l h0 h1 => absurd h1 (by omega)⟩ (by
        rintro i s - hi ⟨w1, rfl, o1, c1⟩
        have x1 := o1 55 i (by omega)
        have x2 := o1 56 i (by omega)
        have x3 := o1 57 i (by omega)
        refine ⟨(ex_blk 229 57, [.ref 46, .int (Int32.ofInt ((i : Int) + 1))], [], ex_up (ex_up (ex_up w1 63 (3 * (i : Int)).toNat (w0.1 55 (i : Int).toNat)) 63 (3 * (i : Int) + 1).toNat (w0.1 56 (i : Int).toNat)) 63 (3 * (i : Int) + 2).toNat (w0.1 57 (i : Int).toNat)), ?_, _, rfl, fun a k ha => ?_, fun l l0 l1 => ?_⟩
        · conv => lhs; rw [kb_229_57]
          simp (disch := omega) only [up_n, up_e, o1, ev_iload, ev_aload, rx_istore, ev_iinc, ev_push, ev_iadd, ev_imul, ev_goto, ev_jsr, rx_ige_t, rx_ige_f, rx_zne_t, rx_zne_f, ev_getf, ev_putf, ev_putl, ev_iald, nr_i, nr_r, nr_l, nr_n, kA_47, kA_48, kA_49, kA_50, kA_51, kA_52, kA_53, kA_54, kA_55, kA_56, kA_57, kA_58, kA_59, kA_60, kA_61, kA_63, kA_64, kA_65, kA_66, kA_67, kA_68, kA_69, kA_70, kS_47, kS_48, kS_49, kS_50, kS_51, kS_52, kS_53, kS_54, kS_55, kS_56, kS_57, kS_58, kS_59, kS_60, kS_61, kS_63, kS_64, kS_65, kS_66, kS_67, kS_68, kS_69, kS_70, rx_iret, kb_229_0, kb_229_10, kb_229_114, kb_229_140, kb_229_184, kb_229_228, kr_229, kf_46_706, kf_46_715, kf_46_716, kf_46_717, kf_46_718, kf_46_719, kf_46_720, kf_46_721, kf_46_722, kf_46_723, kf_46_724, kf_46_725, kf_46_726, kf_46_736, kf_46_737, kf_46_738, kf_46_739, kk_46_730, kk_46_731, kk_46_732, kk_46_733, kk_46_734, kk_46_735, List.getD_cons_zero, List.getD_cons_succ, List.set_cons_zero, List.set_cons_succ, ex_spl, ex_low, Option.toList, List.cons_append, List.nil_append, reduceIte, Int.reduceToNat, Nat.reduceDiv, Nat.reduceMod, Nat.reduceAdd, Nat.reduceMul, z_0, z_1, z_10, z_01, reduceCtorEq, ite_true, ite_false, true_and, and_true, ↓bI_01, ↓bP_01, ↓zret0, ↓zret1, z_add, z_sub, z_mul, up_2, not_true, not_false_iff, if_true, if_false, bI_T, bI_F, bP_T, bP_F, or_true, true_or, or_false, false_or, Int.reduceNeg, Int.reduceAdd, Int.reduceSub, Int.reduceMul, Int.reduceEq, Int.reduceLT, Int.reduceLE, Int.natCast_add, Int.cast_ofNat_Int]
        · rw [up_n (by omega), up_n (by omega), up_n (by omega)]; exact o1 a k ha
        · by_cases hl : l = i
          · subst hl
            refine ⟨?_, ?_, ?_⟩
            · rw [up_n (by omega), up_n (by omega), up_e (by omega)]
            · rw [up_n (by omega), up_e (by omega)]
            · rw [up_e (by omega)]
          · refine ⟨?_, ?_, ?_⟩ <;> rw [up_n (by omega), up_n (by omega), up_n (by omega)]
            · exact (c1 l l0 (by omega)).1
            · exact (c1 l l0 (by omega)).2.1
            · exact (c1 l l0 (by omega)).2.2)
      obtain ⟨s2, e2, w2, rfl, o2, c2⟩ := ex_iterI (d := d + 15) (cal := ex_cal (d + 15)) (y := 229) (s := (ex_blk 229 116, [.ref 46, .int (Int32.ofInt 0)], [], w1)) (fun i s => ∃ w2, s = (ex_blk 229 116, [.ref 46, .int (Int32.ofInt (i : Int))], [], w2) ∧ (∀ a k, ¬ a = 64 → w2.1 a k = w1.1 a k) ∧ (∀ l : Int, 0 ≤ l → l < (i : Int) → w2.1 64 l.toNat = w1.1 54 l.toNat)) (a := 0) (n := 60) (Nat.zero_le _) ⟨w1, rfl, fun _ _ _ => rfl, fun l h0 h1 => absurd h1 (by omega)⟩ (by
        rintro i s - hi ⟨w2, rfl, o2, c2⟩
        refine ⟨(ex_blk 229 116, [.ref 46, .int (Int32.ofInt ((i : Int) + 1))], [], ex_up w2 64 (i : Int).toNat (w1.1 54 (i : Int).toNat)), ?_, _, rfl, fun a k ha => ?_, fun l l0 l1 => ?_⟩
        · conv => lhs; rw [kb_229_116]
          simp (disch := omega) only [up_n, up_e, o2, ev_iload, ev_aload, rx_istore, ev_iinc, ev_push, ev_iadd, ev_imul, ev_goto, ev_jsr, rx_ige_t, rx_ige_f, rx_zne_t, rx_zne_f, ev_getf, ev_putf, ev_putl, ev_iald, nr_i, nr_r, nr_l, nr_n, kA_47, kA_48, kA_49, kA_50, kA_51, kA_52, kA_53, kA_54, kA_55, kA_56, kA_57, kA_58, kA_59, kA_60, kA_61, kA_63, kA_64, kA_65, kA_66, kA_67, kA_68, kA_69, kA_70, kS_47, kS_48, kS_49, kS_50, kS_51, kS_52, kS_53, kS_54, kS_55, kS_56, kS_57, kS_58, kS_59, kS_60, kS_61, kS_63, kS_64, kS_65, kS_66, kS_67, kS_68, kS_69, kS_70, rx_iret, kb_229_0, kb_229_10, kb_229_114, kb_229_140, kb_229_184, kb_229_228, kr_229, kf_46_706, kf_46_715, kf_46_716, kf_46_717, kf_46_718, kf_46_719, kf_46_720, kf_46_721, kf_46_722, kf_46_723, kf_46_724, kf_46_725, kf_46_726, kf_46_736, kf_46_737, kf_46_738, kf_46_739, kk_46_730, kk_46_731, kk_46_732, kk_46_733, kk_46_734, kk_46_735, List.getD_cons_zero, List.getD_cons_succ, List.set_cons_zero, List.set_cons_succ, ex_spl, ex_low, Option.toList, List.cons_append, List.nil_append, reduceIte, Int.reduceToNat, Nat.reduceDiv, Nat.reduceMod, Nat.reduceAdd, Nat.reduceMul, z_0, z_1, z_10, z_01, reduceCtorEq, ite_true, ite_false, true_and, and_true, ↓bI_01, ↓bP_01, ↓zret0, ↓zret1, z_add, z_sub, z_mul, up_2, not_true, not_false_iff, if_true, if_false, bI_T, bI_F, bP_T, bP_F, or_true, true_or, or_false, false_or, Int.reduceNeg, Int.reduceAdd, Int.reduceSub, Int.reduceMul, Int.reduceEq, Int.reduceLT, Int.reduceLE, Int.natCast_add, Int.cast_ofNat_Int]
        · rw [up_n (by omega)]; exact o2 a k ha
        · by_cases hl : l = i
          · subst hl; rw [up_e (by omega)]
          · rw [up_n (by omega)]; exact c2 l l0 (by omega))
      obtain ⟨s3, e3, w3, rfl, o3, c3⟩ := ex_iterI (d := d + 15) (cal := ex_cal (d + 15)) (y := 229) (s := (ex_blk 229 142, [.ref 46, .int (Int32.ofInt 0)], [], w2)) (fun i s => ∃ w3, s = (ex_blk 229 142, [.ref 46, .int (Int32.ofInt (i : Int))], [], w3) ∧ (∀ a k, ¬ a = 65 → w3.1 a k = w2.1 a k) ∧ (∀ l : Int, 0 ≤ l → l < (i : Int) → w3.1 65 (2 * l).toNat = w2.1 58 l.toNat ∧ w3.1 65 (2 * l + 1).toNat = w2.1 59 l.toNat)) (a := 0) (n := 6) (Nat.zero_le _) ⟨w2, rfl, fun _ _ _ => rfl, fun l h0 h1 => absurd h1 (by omega)⟩ (by
        rintro i s - hi ⟨w3, rfl, o3, c3⟩
        refine ⟨(ex_blk 229 142, [.ref 46, .int (Int32.ofInt ((i : Int) + 1))], [], ex_up (ex_up w3 65 (2 * (i : Int)).toNat (w2.1 58 (i : Int).toNat)) 65 (2 * (i : Int) + 1).toNat (w2.1 59 (i : Int).toNat)), ?_, _, rfl, fun a k ha => ?_, fun l l0 l1 => ?_⟩
        · conv => lhs; rw [kb_229_142]
          simp (disch := omega) only [up_n, up_e, o3, ev_iload, ev_aload, rx_istore, ev_iinc, ev_push, ev_iadd, ev_imul, ev_goto, ev_jsr, rx_ige_t, rx_ige_f, rx_zne_t, rx_zne_f, ev_getf, ev_putf, ev_putl, ev_iald, nr_i, nr_r, nr_l, nr_n, kA_47, kA_48, kA_49, kA_50, kA_51, kA_52, kA_53, kA_54, kA_55, kA_56, kA_57, kA_58, kA_59, kA_60, kA_61, kA_63, kA_64, kA_65, kA_66, kA_67, kA_68, kA_69, kA_70, kS_47, kS_48, kS_49, kS_50, kS_51, kS_52, kS_53, kS_54, kS_55, kS_56, kS_57, kS_58, kS_59, kS_60, kS_61, kS_63, kS_64, kS_65, kS_66, kS_67, kS_68, kS_69, kS_70, rx_iret, kb_229_0, kb_229_10, kb_229_114, kb_229_140, kb_229_184, kb_229_228, kr_229, kf_46_706, kf_46_715, kf_46_716, kf_46_717, kf_46_718, kf_46_719, kf_46_720, kf_46_721, kf_46_722, kf_46_723, kf_46_724, kf_46_725, kf_46_726, kf_46_736, kf_46_737, kf_46_738, kf_46_739, kk_46_730, kk_46_731, kk_46_732, kk_46_733, kk_46_734, kk_46_735, List.getD_cons_zero, List.getD_cons_succ, List.set_cons_zero, List.set_cons_succ, ex_spl, ex_low, Option.toList, List.cons_append, List.nil_append, reduceIte, Int.reduceToNat, Nat.reduceDiv, Nat.reduceMod, Nat.reduceAdd, Nat.reduceMul, z_0, z_1, z_10, z_01, reduceCtorEq, ite_true, ite_false, true_and, and_true, ↓bI_01, ↓bP_01, ↓zret0, ↓zret1, z_add, z_sub, z_mul, up_2, not_true, not_false_iff, if_true, if_false, bI_T, bI_F, bP_T, bP_F, or_true, true_or, or_false, false_or, Int.reduceNeg, Int.reduceAdd, Int.reduceSub, Int.reduceMul, Int.reduceEq, Int.reduceLT, Int.reduceLE, Int.natCast_add, Int.cast_ofNat_Int]
        · rw [up_n (by omega), up_n (by omega)]; exact o3 a k ha
        · by_cases hl : l = i
          · subst hl
            refine ⟨?_, ?_⟩
            · rw [up_n (by omega), up_e (by omega)]
            · rw [up_e (by omega)]
          · refine ⟨?_, ?_⟩ <;> rw [up_n (by omega), up_n (by omega)]
            · exact (c3 l l0 (by omega)).1
            · exact (c3 l l0 (by omega)).2)
      obtain ⟨s4, e4, w4, rfl, o4, c4⟩ := ex_iterI (d := d + 15) (cal := ex_cal (d + 15)) (y := 229) (s := (ex_blk 229 186, [.ref 46, .int (Int32.ofInt 0)], [], w3)) (fun i s => ∃ w4, s = (ex_blk 229 186, [.ref 46, .int (Int32.ofInt (i : Int))], [], w4) ∧ (∀ a k, ¬ a = 66 → w4.1 a k = w3.1 a k) ∧ (∀ l : Int, 0 ≤ l → l < (i : Int) → w4.1 66 (2 * l).toNat = w3.1 60 l.toNat ∧ w4.1 66 (2 * l + 1).toNat = w3.1 61 l.toNat)) (a := 0) (n := 10) (Nat.zero_le _) ⟨w3, rfl, fun _ _ _ => rfl, fun l h0 h1 => absurd h1 (by omega)⟩ (by
        rintro i s - hi ⟨w4, rfl, o4, c4⟩
        refine ⟨(ex_blk 229 186, [.ref 46, .int (Int32.ofInt ((i : Int) + 1))], [], ex_up (ex_up w4 66 (2 * (i : Int)).toNat (w3.1 60 (i : Int).toNat)) 66 (2 * (i : Int) + 1).toNat (w3.1 61 (i : Int).toNat)), ?_, _, rfl, fun a k ha => ?_, fun l l0 l1 => ?_⟩
        · conv => lhs; rw [kb_229_186]
          simp (disch := omega) only [up_n, up_e, o4, ev_iload, ev_aload, rx_istore, ev_iinc, ev_push, ev_iadd, ev_imul, ev_goto, ev_jsr, rx_ige_t, rx_ige_f, rx_zne_t, rx_zne_f, ev_getf, ev_putf, ev_putl, ev_iald, nr_i, nr_r, nr_l, nr_n, kA_47, kA_48, kA_49, kA_50, kA_51, kA_52, kA_53, kA_54, kA_55, kA_56, kA_57, kA_58, kA_59, kA_60, kA_61, kA_63, kA_64, kA_65, kA_66, kA_67, kA_68, kA_69, kA_70, kS_47, kS_48, kS_49, kS_50, kS_51, kS_52, kS_53, kS_54, kS_55, kS_56, kS_57, kS_58, kS_59, kS_60, kS_61, kS_63, kS_64, kS_65, kS_66, kS_67, kS_68, kS_69, kS_70, rx_iret, kb_229_0, kb_229_10, kb_229_114, kb_229_140, kb_229_184, kb_229_228, kr_229, kf_46_706, kf_46_715, kf_46_716, kf_46_717, kf_46_718, kf_46_719, kf_46_720, kf_46_721, kf_46_722, kf_46_723, kf_46_724, kf_46_725, kf_46_726, kf_46_736, kf_46_737, kf_46_738, kf_46_739, kk_46_730, kk_46_731, kk_46_732, kk_46_733, kk_46_734, kk_46_735, List.getD_cons_zero, List.getD_cons_succ, List.set_cons_zero, List.set_cons_succ, ex_spl, ex_low, Option.toList, List.cons_append, List.nil_append, reduceIte, Int.reduceToNat, Nat.reduceDiv, Nat.reduceMod, Nat.reduceAdd, Nat.reduceMul, z_0, z_1, z_10, z_01, reduceCtorEq, ite_true, ite_false, true_and, and_true, ↓bI_01, ↓bP_01, ↓zret0, ↓zret1, z_add, z_sub, z_mul, up_2, not_true, not_false_iff, if_true, if_false, bI_T, bI_F, bP_T, bP_F, or_true, true_or, or_false, false_or, Int.reduceNeg, Int.reduceAdd, Int.reduceSub, Int.reduceMul, Int.reduceEq, Int.reduceLT, Int.reduceLE, Int.natCast_add, Int.cast_ofNat_Int]
        · rw [up_n (by omega), up_n (by omega)]; exact o4 a k ha
        · by_cases hl : l = i
          · subst hl
            refine ⟨?_, ?_⟩
            · rw [up_n (by omega), up_e (by omega)]
            · rw [up_e (by omega)]
          · refine ⟨?_, ?_⟩ <;> rw [up_n (by omega), up_n (by omega)]
            · exact (c4 l l0 (by omega)).1
            · exact (c4 l l0 (by omega)).2)
      have oo : ∀ a k, ¬ (a = 46 ∧ 26 ≤ k ∧ k < 32) → a < 63 ∨ 66 < a → w4.1 a k = w.1 a k := fun a k h1 h2 => by
        rw [o4 a k (by omega), o3 a k (by omega), o2 a k (by omega), o1 a k (by omega), o0 a k h1]
      have o46 : ∀ k, w4.1 46 k = w0.1 46 k := fun k => by rw [o4 46 k (by omega), o3 46 k (by omega), o2 46 k (by omega), o1 46 k (by omega)]
      refine ⟨w4, ?_, ⟨rN_g (A := A) hMM (fun k hk => oo 46 k (by omega) (by omega)) (fun a k h1 h2 => oo a k (by omega) (by omega)), ?_⟩, fun a k ha => oo a k (by omega) (by omega)⟩
      · refine e1.trans ?_
        rw [kb_229_57]
        simp (disch := omega) only [ev_iload, ev_aload, rx_istore, ev_iinc, ev_push, ev_iadd, ev_imul, ev_goto, ev_jsr, rx_ige_t, rx_ige_f, rx_zne_t, rx_zne_f, ev_getf, ev_putf, ev_putl, ev_iald, nr_i, nr_r, nr_l, nr_n, kA_47, kA_48, kA_49, kA_50, kA_51, kA_52, kA_53, kA_54, kA_55, kA_56, kA_57, kA_58, kA_59, kA_60, kA_61, kA_63, kA_64, kA_65, kA_66, kA_67, kA_68, kA_69, kA_70, kS_47, kS_48, kS_49, kS_50, kS_51, kS_52, kS_53, kS_54, kS_55, kS_56, kS_57, kS_58, kS_59, kS_60, kS_61, kS_63, kS_64, kS_65, kS_66, kS_67, kS_68, kS_69, kS_70, rx_iret, kb_229_0, kb_229_10, kb_229_114, kb_229_140, kb_229_184, kb_229_228, kr_229, kf_46_706, kf_46_715, kf_46_716, kf_46_717, kf_46_718, kf_46_719, kf_46_720, kf_46_721, kf_46_722, kf_46_723, kf_46_724, kf_46_725, kf_46_726, kf_46_736, kf_46_737, kf_46_738, kf_46_739, kk_46_730, kk_46_731, kk_46_732, kk_46_733, kk_46_734, kk_46_735, List.getD_cons_zero, List.getD_cons_succ, List.set_cons_zero, List.set_cons_succ, ex_spl, ex_low, Option.toList, List.cons_append, List.nil_append, reduceIte, Int.reduceToNat, Nat.reduceDiv, Nat.reduceMod, Nat.reduceAdd, Nat.reduceMul, z_0, z_1, z_10, z_01, reduceCtorEq, ite_true, ite_false, true_and, and_true, ↓bI_01, ↓bP_01, ↓zret0, ↓zret1, z_add, z_sub, z_mul, up_1, up_2, not_true, not_false_iff, if_true, if_false, bI_T, bI_F, bP_T, bP_F, or_true, true_or, or_false, false_or, Int.reduceNeg, Int.reduceAdd, Int.reduceSub, Int.reduceMul, Int.reduceEq, Int.reduceLT, Int.reduceLE, Int.natCast_add, Int.cast_ofNat_Int]
        refine e2.trans ?_
        rw [kb_229_116]
        simp (disch := omega) only [ev_iload, ev_aload, rx_istore, ev_iinc, ev_push, ev_iadd, ev_imul, ev_goto, ev_jsr, rx_ige_t, rx_ige_f, rx_zne_t, rx_zne_f, ev_getf, ev_putf, ev_putl, ev_iald, nr_i, nr_r, nr_l, nr_n, kA_47, kA_48, kA_49, kA_50, kA_51, kA_52, kA_53, kA_54, kA_55, kA_56, kA_57, kA_58, kA_59, kA_60, kA_61, kA_63, kA_64, kA_65, kA_66, kA_67, kA_68, kA_69, kA_70, kS_47, kS_48, kS_49, kS_50, kS_51, kS_52, kS_53, kS_54, kS_55, kS_56, kS_57, kS_58, kS_59, kS_60, kS_61, kS_63, kS_64, kS_65, kS_66, kS_67, kS_68, kS_69, kS_70, rx_iret, kb_229_0, kb_229_10, kb_229_114, kb_229_140, kb_229_184, kb_229_228, kr_229, kf_46_706, kf_46_715, kf_46_716, kf_46_717, kf_46_718, kf_46_719, kf_46_720, kf_46_721, kf_46_722, kf_46_723, kf_46_724, kf_46_725, kf_46_726, kf_46_736, kf_46_737, kf_46_738, kf_46_739, kk_46_730, kk_46_731, kk_46_732, kk_46_733, kk_46_734, kk_46_735, List.getD_cons_zero, List.getD_cons_succ, List.set_cons_zero, List.set_cons_succ, ex_spl, ex_low, Option.toList, List.cons_append, List.nil_append, reduceIte, Int.reduceToNat, Nat.reduceDiv, Nat.reduceMod, Nat.reduceAdd, Nat.reduceMul, z_0, z_1, z_10, z_01, reduceCtorEq, ite_true, ite_false, true_and, and_true, ↓bI_01, ↓bP_01, ↓zret0, ↓zret1, z_add, z_sub, z_mul, up_1, up_2, not_true, not_false_iff, if_true, if_false, bI_T, bI_F, bP_T, bP_F, or_true, true_or, or_false, false_or, Int.reduceNeg, Int.reduceAdd, Int.reduceSub, Int.reduceMul, Int.reduceEq, Int.reduceLT, Int.reduceLE, Int.natCast_add, Int.cast_ofNat_Int]
        refine e3.trans ?_
        rw [kb_229_142]
        simp (disch := omega) only [ev_iload, ev_aload, rx_istore, ev_iinc, ev_push, ev_iadd, ev_imul, ev_goto, ev_jsr, rx_ige_t, rx_ige_f, rx_zne_t, rx_zne_f, ev_getf, ev_putf, ev_putl, ev_iald, nr_i, nr_r, nr_l, nr_n, kA_47, kA_48, kA_49, kA_50, kA_51, kA_52, kA_53, kA_54, kA_55, kA_56, kA_57, kA_58, kA_59, kA_60, kA_61, kA_63, kA_64, kA_65, kA_66, kA_67, kA_68, kA_69, kA_70, kS_47, kS_48, kS_49, kS_50, kS_51, kS_52, kS_53, kS_54, kS_55, kS_56, kS_57, kS_58, kS_59, kS_60, kS_61, kS_63, kS_64, kS_65, kS_66, kS_67, kS_68, kS_69, kS_70, rx_iret, kb_229_0, kb_229_10, kb_229_114, kb_229_140, kb_229_184, kb_229_228, kr_229, kf_46_706, kf_46_715, kf_46_716, kf_46_717, kf_46_718, kf_46_719, kf_46_720, kf_46_721, kf_46_722, kf_46_723, kf_46_724, kf_46_725, kf_46_726, kf_46_736, kf_46_737, kf_46_738, kf_46_739, kk_46_730, kk_46_731, kk_46_732, kk_46_733, kk_46_734, kk_46_735, List.getD_cons_zero, List.getD_cons_succ, List.set_cons_zero, List.set_cons_succ, ex_spl, ex_low, Option.toList, List.cons_append, List.nil_append, reduceIte, Int.reduceToNat, Nat.reduceDiv, Nat.reduceMod, Nat.reduceAdd, Nat.reduceMul, z_0, z_1, z_10, z_01, reduceCtorEq, ite_true, ite_false, true_and, and_true, ↓bI_01, ↓bP_01, ↓zret0, ↓zret1, z_add, z_sub, z_mul, up_1, up_2, not_true, not_false_iff, if_true, if_false, bI_T, bI_F, bP_T, bP_F, or_true, true_or, or_false, false_or, Int.reduceNeg, Int.reduceAdd, Int.reduceSub, Int.reduceMul, Int.reduceEq, Int.reduceLT, Int.reduceLE, Int.natCast_add, Int.cast_ofNat_Int]
        refine e4.trans ?_
        rw [kb_229_186]
        have hs : w4.1 46 13 = Int32.ofInt (A 0 5) := by rw [oo 46 13 (by omega) (by omega)]; exact g13
        simp (disch := omega) only [hs, ev_iload, ev_aload, rx_istore, ev_iinc, ev_push, ev_iadd, ev_imul, ev_goto, ev_jsr, rx_ige_t, rx_ige_f, rx_zne_t, rx_zne_f, ev_getf, ev_putf, ev_putl, ev_iald, nr_i, nr_r, nr_l, nr_n, kA_47, kA_48, kA_49, kA_50, kA_51, kA_52, kA_53, kA_54, kA_55, kA_56, kA_57, kA_58, kA_59, kA_60, kA_61, kA_63, kA_64, kA_65, kA_66, kA_67, kA_68, kA_69, kA_70, kS_47, kS_48, kS_49, kS_50, kS_51, kS_52, kS_53, kS_54, kS_55, kS_56, kS_57, kS_58, kS_59, kS_60, kS_61, kS_63, kS_64, kS_65, kS_66, kS_67, kS_68, kS_69, kS_70, rx_iret, kb_229_0, kb_229_10, kb_229_114, kb_229_140, kb_229_184, kb_229_228, kr_229, kf_46_706, kf_46_715, kf_46_716, kf_46_717, kf_46_718, kf_46_719, kf_46_720, kf_46_721, kf_46_722, kf_46_723, kf_46_724, kf_46_725, kf_46_726, kf_46_736, kf_46_737, kf_46_738, kf_46_739, kk_46_730, kk_46_731, kk_46_732, kk_46_733, kk_46_734, kk_46_735, List.getD_cons_zero, List.getD_cons_succ, List.set_cons_zero, List.set_cons_succ, ex_spl, ex_low, Option.toList, List.cons_append, List.nil_append, reduceIte, Int.reduceToNat, Nat.reduceDiv, Nat.reduceMod, Nat.reduceAdd, Nat.reduceMul, z_0, z_1, z_10, z_01, reduceCtorEq, ite_true, ite_false, true_and, and_true, ↓bI_01, ↓bP_01, ↓zret0, ↓zret1, z_add, z_sub, z_mul, up_1, up_2, not_true, not_false_iff, if_true, if_false, bI_T, bI_F, bP_T, bP_F, or_true, true_or, or_false, false_or, Int.reduceNeg, Int.reduceAdd, Int.reduceSub, Int.reduceMul, Int.reduceEq, Int.reduceLT, Int.reduceLE, Int.natCast_add, Int.cast_ofNat_Int]
      · refine ⟨Or.inr (by rw [o46]; exact b26), ⟨A 0 2, by omega, Int.le_refl _, by rw [o46]; exact b27, ⟨fun _ => ⟨by rw [o46]; exact b26, rfl⟩, fun _ => rfl⟩⟩, fun _ => ⟨by rw [o46]; exact b28, by rw [o46]; exact b29, by rw [o46]; exact b30, by rw [o46]; exact b31, fun l l0 l1 => ?_, fun l l0 l1 => ?_, fun l l0 l1 => ?_, fun l l0 l1 => ?_⟩⟩
        · have l2 : l < A 0 5 := l1
          have cc := c1 l l0 (by omega)
          have y : ∀ k, w4.1 63 k = w1.1 63 k := fun k => by rw [o4 63 k (by omega), o3 63 k (by omega), o2 63 k (by omega)]
          rw [y, y, y, cc.1, cc.2.1, cc.2.2, o0 55 _ (by omega), o0 56 _ (by omega), o0 57 _ (by omega)]
          exact ⟨gtk l l0 l2, gtc l l0 l2, gtw l l0 l2⟩
        · have l2 : l < 5 * A 0 4 := l1
          rw [o4 64 _ (by omega), o3 64 _ (by omega), c2 l l0 (by omega), o1 54 _ (by omega), o0 54 _ (by omega)]
          exact ge l l0 l2
        · have l2 : l < A 0 6 := l1
          have cc := c3 l l0 (by omega)
          rw [o4 65 _ (by omega), o4 65 _ (by omega), cc.1, cc.2, o2 58 _ (by omega), o1 58 _ (by omega), o0 58 _ (by omega), o2 59 _ (by omega), o1 59 _ (by omega), o0 59 _ (by omega)]
          exact ⟨gba l l0 l2, gbh l l0 l2⟩
        · have l2 : l < A 0 7 := l1
          have cc := c4 l l0 (by omega)
          rw [cc.1, cc.2, o3 60 _ (by omega), o2 60 _ (by omega), o1 60 _ (by omega), o0 60 _ (by omega), o3 61 _ (by omega), o2 61 _ (by omega), o1 61 _ (by omega), o0 61 _ (by omega)]
          exact ⟨gjc l l0 l2, gjs l l0 l2⟩
  · refine q_deny hV (Int32.ofInt (-103)) (fun d w hC => ?_) (fun d w hM => ?_)
    · rw [ke_126 kc_0]
      simp (disch := omega) only [m_there2 hV.1.1 hC, bI_t, bI_f, ev_aload, ev_push, rx_zne_t, rx_zne_f, ev_getf, ev_putf, ev_putl, ev_callv, nr_i, nr_r, nr_l, nr_n, rx_iret, kb_126_0, kb_126_13, kr_126, kf_20_0, kf_29_0, kf_0_643, kf_0_645, kf_0_646, kk_0_649, List.getD_cons_zero, List.getD_cons_succ, List.set_cons_zero, List.set_cons_succ, ex_spl, ex_low, Option.toList, List.cons_append, List.nil_append, reduceIte, Int.reduceToNat, Nat.reduceDiv, Nat.reduceMod, Nat.reduceAdd, Nat.reduceMul, z_0, z_1, z_10, z_01, reduceCtorEq, ite_true, ite_false, true_and, and_true, ↓bI_01, ↓bP_01, ↓zret0, ↓zret1, z_add, z_sub, z_mul, up_1, up_2, not_true, not_false_iff, if_true, if_false, bI_T, bI_F, bP_T, bP_F, or_true, true_or, or_false, false_or, Int.reduceNeg, Int.reduceAdd, Int.reduceSub, Int.reduceMul, Int.reduceEq, Int.reduceLT, Int.reduceLE, Int.natCast_add, Int.cast_ofNat_Int]
    · have g2 := hM.1.2.2.1
      rw [ke_229 kc_46]
      simp (disch := omega) only [g2, ev_iload, ev_aload, rx_istore, ev_iinc, ev_push, ev_iadd, ev_imul, ev_goto, ev_jsr, rx_ige_t, rx_ige_f, rx_zne_t, rx_zne_f, ev_getf, ev_putf, ev_putl, ev_iald, nr_i, nr_r, nr_l, nr_n, kA_47, kA_48, kA_49, kA_50, kA_51, kA_52, kA_53, kA_54, kA_55, kA_56, kA_57, kA_58, kA_59, kA_60, kA_61, kA_63, kA_64, kA_65, kA_66, kA_67, kA_68, kA_69, kA_70, kS_47, kS_48, kS_49, kS_50, kS_51, kS_52, kS_53, kS_54, kS_55, kS_56, kS_57, kS_58, kS_59, kS_60, kS_61, kS_63, kS_64, kS_65, kS_66, kS_67, kS_68, kS_69, kS_70, rx_iret, kb_229_0, kb_229_10, kb_229_114, kb_229_140, kb_229_184, kb_229_228, kr_229, kf_46_706, kf_46_715, kf_46_716, kf_46_717, kf_46_718, kf_46_719, kf_46_720, kf_46_721, kf_46_722, kf_46_723, kf_46_724, kf_46_725, kf_46_726, kf_46_736, kf_46_737, kf_46_738, kf_46_739, kk_46_730, kk_46_731, kk_46_732, kk_46_733, kk_46_734, kk_46_735, List.getD_cons_zero, List.getD_cons_succ, List.set_cons_zero, List.set_cons_succ, ex_spl, ex_low, Option.toList, List.cons_append, List.nil_append, reduceIte, Int.reduceToNat, Nat.reduceDiv, Nat.reduceMod, Nat.reduceAdd, Nat.reduceMul, z_0, z_1, z_10, z_01, reduceCtorEq, ite_true, ite_false, true_and, and_true, ↓bI_01, ↓bP_01, ↓zret0, ↓zret1, z_add, z_sub, z_mul, up_1, up_2, not_true, not_false_iff, if_true, if_false, bI_T, bI_F, bP_T, bP_F, or_true, true_or, or_false, false_or, Int.reduceNeg, Int.reduceAdd, Int.reduceSub, Int.reduceMul, Int.reduceEq, Int.reduceLT, Int.reduceLE, Int.natCast_add, Int.cast_ofNat_Int]
