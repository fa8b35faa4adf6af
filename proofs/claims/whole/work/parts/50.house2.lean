/-! house(): the reference, and both -/
theorem r_house {d : Nat} {A : AS} {w : PW} (hV : q_v0 A) (hb : A 0 2 < 1000000) (hM : rN A 0 w) {m : Nat} {r wd c l : Int} {K L : Int → Int} (hm : p_tk q_hf q_h0 A m (r, wd, c, l, K, L)) (hmm : (m : Int) = A 0 8) (hw : q_hw (r, wd, c, l, K, L)) : ∃ w', ex_cal (d + 4) 163 [.ref 46] w = some (some (.int (Int32.ofInt ((r + 1) * wd))), w') ∧ rN (q_nh A r wd K L) 0 w' ∧ (∀ k, 26 ≤ k → k < 32 → w'.1 46 k = w.1 46 k) ∧ (∀ a k, ¬ a = 46 → ¬ a = 47 → ¬ a = 48 → a < 67 → w'.1 a k = w.1 a k) := by
  have hr := q_rng hV
  have hend := q_hi_t hm.1
  obtain ⟨hVh, en⟩ := q_vh_nh hV.1 hb hend hw
  have hN := (q_rnh hVh)
  have hN0 : 0 ≤ (r + 1) * wd := hN.2.2.2.2.2.2.1
  have hN1 : (r + 1) * wd ≤ 24 := hN.2.2.2.2.2.2.2
  obtain ⟨w1, e1, o1, R1, e36, e37⟩ := r_readHouse (d := d) hV hM hm
  rw [bP_t ⟨hmm, hw⟩] at e37
  have hM1 := rN_cg hM o1
  obtain ⟨a1, a2, a3, a4, a5, a6, a7, a8, a9, a10, a11, a12, a13⟩ := hend
  obtain ⟨b1, b2, b3⟩ := hw
  obtain ⟨p1, p2, p3, p4, p5, p6, p7⟩ := R1
  have h8 := a8 (by omega)
  generalize hNN : (r + 1) * wd = N at *
  have f46 : ∀ k, (k < 36 ∨ k = 49) → w1.1 46 k = w.1 46 k := fun k hk => o1 46 k (by unfold tM; omega)
  have fo : ∀ a k, ¬ a = 46 → a < 67 → w1.1 a k = w.1 a k := fun a k h1 h2 => o1 a k (by unfold tM; omega)
  clear hM
  have hM := hM1
  obtain ⟨⟨g0, g1, g2, g5, g11, g13, g17, g20, g23, g24, g49⟩, ⟨gk, gl⟩, ⟨gs, ga, gf, gt, gn⟩, ⟨gtk, gtc, gtw⟩, ge, ⟨gba, gbh⟩, ⟨gjc, gjs⟩, gp⟩ := id hM
  rw [ke_163 kc_46]
  simp (disch := omega) only [e1, e37, p1, p2, up_n, up_e, ev_iload, ev_aload, rx_istore, ev_iinc, ev_push, ev_iadd, ev_imul, ev_dup_r, ev_dup_i, ev_goto, ev_jsr, rx_ige_t, rx_ige_f, rx_zne_t, rx_zne_f, ev_getf, ev_putf, ev_putl, ev_iald, ev_callv, nr_i, nr_r, nr_l, nr_n, kA_47, kA_48, kA_49, kA_50, kA_51, kA_52, kA_53, kA_54, kA_55, kA_56, kA_57, kA_58, kA_59, kA_60, kA_61, kA_63, kA_64, kA_65, kA_66, kA_67, kA_68, kA_69, kA_70, kS_47, kS_48, kS_49, kS_50, kS_51, kS_52, kS_53, kS_54, kS_55, kS_56, kS_57, kS_58, kS_59, kS_60, kS_61, kS_63, kS_64, kS_65, kS_66, kS_67, kS_68, kS_69, kS_70, rx_iret, kb_163_0, kb_163_14, kb_163_65, kb_163_93, kr_163, kf_46_704, kf_46_705, kf_46_706, kf_46_707, kf_46_708, kf_46_741, kf_46_742, kf_46_743, kf_46_746, kf_46_747, kk_46_704, kk_46_705, kk_46_706, kk_46_715, kk_46_717, kk_46_721, kk_46_724, kk_46_728, kk_46_753, List.getD_cons_zero, List.getD_cons_succ, List.set_cons_zero, List.set_cons_succ, ex_spl, ex_low, Option.toList, List.cons_append, List.nil_append, reduceIte, Int.reduceToNat, Nat.reduceDiv, Nat.reduceMod, Nat.reduceAdd, Nat.reduceMul, z_0, z_1, z_10, z_01, reduceCtorEq, ite_true, ite_false, true_and, and_true, ↓bI_01, ↓bP_01, ↓zret0, ↓zret1, z_add, z_sub, z_mul, up_2, not_true, not_false_iff, if_true, if_false, bI_T, bI_F, bP_T, bP_F, or_true, true_or, or_false, false_or, Int.reduceNeg, Int.reduceAdd, Int.reduceSub, Int.reduceMul, Int.reduceEq, Int.reduceLT, Int.reduceLE, Int.natCast_add, Int.cast_ofNat_Int]
  refine ex_loop (Q := fun q => ∃ w', q = some (some (.int (Int32.ofInt N)), w') ∧ rN (q_nh A r wd K L) 0 w' ∧ (∀ k, 26 ≤ k → k < 32 → w'.1 46 k = w.1 46 k) ∧ (∀ a k, ¬ a = 46 → ¬ a = 47 → ¬ a = 48 → a < 67 → w'.1 a k = w.1 a k)) (fun i z => ∃ w2, z = (ex_blk 163 34, [.ref 46, .int (Int32.ofInt (i : Int))], [], w2) ∧ w2.1 46 0 = Int32.ofInt (r + 1) ∧ w2.1 46 1 = Int32.ofInt wd ∧ (∀ k, ¬ k = 0 → ¬ k = 1 → w2.1 46 k = w1.1 46 k) ∧ (∀ a k, ¬ a = 46 → ¬ a = 47 → w2.1 a k = w1.1 a k) ∧ ∀ j, 0 ≤ j → j < (i : Int) → w2.1 47 j.toNat = Int32.ofInt (K j)) N.toNat ?_ ?_ ?_
  · exact ⟨_, rfl, rfl, rfl, fun k h0 h1 => by rw [up_n (by omega), up_n (by omega)], fun a k h0 h1 => by rw [up_n (by omega), up_n (by omega)], fun j j0 j1 => absurd j1 (by omega)⟩
  · rintro i z hi ⟨w2, rfl, q0, q1, q2, q3, q4⟩
    right
    have ek : w2.1 67 (i : Int).toNat = Int32.ofInt (K i) := by rw [q3 _ _ (by omega) (by omega)]; exact p5 i (by omega) (by omega)
    refine ⟨(ex_blk 163 34, [.ref 46, .int (Int32.ofInt ((i : Int) + 1))], [], ex_up w2 47 (i : Int).toNat (Int32.ofInt (K i))), ?_, _, rfl, ?_, ?_, fun k h0 h1 => ?_, fun a k h0 h1 => ?_, fun j j0 j1 => ?_⟩
    · conv => lhs; rw [kb_163_34]
      simp (disch := omega) only [q0, q1, hNN, ek, ev_iload, ev_aload, rx_istore, ev_iinc, ev_push, ev_iadd, ev_imul, ev_dup_r, ev_dup_i, ev_goto, ev_jsr, rx_ige_t, rx_ige_f, rx_zne_t, rx_zne_f, ev_getf, ev_putf, ev_putl, ev_iald, ev_callv, nr_i, nr_r, nr_l, nr_n, kA_47, kA_48, kA_49, kA_50, kA_51, kA_52, kA_53, kA_54, kA_55, kA_56, kA_57, kA_58, kA_59, kA_60, kA_61, kA_63, kA_64, kA_65, kA_66, kA_67, kA_68, kA_69, kA_70, kS_47, kS_48, kS_49, kS_50, kS_51, kS_52, kS_53, kS_54, kS_55, kS_56, kS_57, kS_58, kS_59, kS_60, kS_61, kS_63, kS_64, kS_65, kS_66, kS_67, kS_68, kS_69, kS_70, rx_iret, kb_163_0, kb_163_14, kb_163_65, kb_163_93, kr_163, kf_46_704, kf_46_705, kf_46_706, kf_46_707, kf_46_708, kf_46_741, kf_46_742, kf_46_743, kf_46_746, kf_46_747, kk_46_704, kk_46_705, kk_46_706, kk_46_715, kk_46_717, kk_46_721, kk_46_724, kk_46_728, kk_46_753, List.getD_cons_zero, List.getD_cons_succ, List.set_cons_zero, List.set_cons_succ, ex_spl, ex_low, Option.toList, List.cons_append, List.nil_append, reduceIte, Int.reduceToNat, Nat.reduceDiv, Nat.reduceMod, Nat.reduceAdd, Nat.reduceMul, z_0, z_1, z_10, z_01, reduceCtorEq, ite_true, ite_false, true_and, and_true, ↓bI_01, ↓bP_01, ↓zret0, ↓zret1, z_add, z_sub, z_mul, up_1, up_2, not_true, not_false_iff, if_true, if_false, bI_T, bI_F, bP_T, bP_F, or_true, true_or, or_false, false_or, Int.reduceNeg, Int.reduceAdd, Int.reduceSub, Int.reduceMul, Int.reduceEq, Int.reduceLT, Int.reduceLE, Int.natCast_add, Int.cast_ofNat_Int]
    · rw [up_n (by omega)]; exact q0
    · rw [up_n (by omega)]; exact q1
    · rw [up_n (by omega)]; exact q2 k h0 h1
    · rw [up_n (by omega)]; exact q3 a k h0 h1
    · by_cases hj : j = i
      · rw [hj, up_e (by omega)]
      · rw [up_n (by omega)]; exact q4 j j0 (by omega)
  · rintro z ⟨w2, rfl, q0, q1, q2, q3, q4⟩
    rw [Int.toNat_of_nonneg (by omega)] at q4
    rw [kb_163_34]
    simp (disch := omega) only [q0, q1, hNN, ev_iload, ev_aload, rx_istore, ev_iinc, ev_push, ev_iadd, ev_imul, ev_dup_r, ev_dup_i, ev_goto, ev_jsr, rx_ige_t, rx_ige_f, rx_zne_t, rx_zne_f, ev_getf, ev_putf, ev_putl, ev_iald, ev_callv, nr_i, nr_r, nr_l, nr_n, kA_47, kA_48, kA_49, kA_50, kA_51, kA_52, kA_53, kA_54, kA_55, kA_56, kA_57, kA_58, kA_59, kA_60, kA_61, kA_63, kA_64, kA_65, kA_66, kA_67, kA_68, kA_69, kA_70, kS_47, kS_48, kS_49, kS_50, kS_51, kS_52, kS_53, kS_54, kS_55, kS_56, kS_57, kS_58, kS_59, kS_60, kS_61, kS_63, kS_64, kS_65, kS_66, kS_67, kS_68, kS_69, kS_70, rx_iret, kb_163_0, kb_163_14, kb_163_65, kb_163_93, kr_163, kf_46_704, kf_46_705, kf_46_706, kf_46_707, kf_46_708, kf_46_741, kf_46_742, kf_46_743, kf_46_746, kf_46_747, kk_46_704, kk_46_705, kk_46_706, kk_46_715, kk_46_717, kk_46_721, kk_46_724, kk_46_728, kk_46_753, List.getD_cons_zero, List.getD_cons_succ, List.set_cons_zero, List.set_cons_succ, ex_spl, ex_low, Option.toList, List.cons_append, List.nil_append, reduceIte, Int.reduceToNat, Nat.reduceDiv, Nat.reduceMod, Nat.reduceAdd, Nat.reduceMul, z_0, z_1, z_10, z_01, reduceCtorEq, ite_true, ite_false, true_and, and_true, ↓bI_01, ↓bP_01, ↓zret0, ↓zret1, z_add, z_sub, z_mul, up_1, up_2, not_true, not_false_iff, if_true, if_false, bI_T, bI_F, bP_T, bP_F, or_true, true_or, or_false, false_or, Int.reduceNeg, Int.reduceAdd, Int.reduceSub, Int.reduceMul, Int.reduceEq, Int.reduceLT, Int.reduceLE, Int.natCast_add, Int.cast_ofNat_Int]
    refine ex_loop (Q := fun q => ∃ w', q = some (some (.int (Int32.ofInt N)), w') ∧ rN (q_nh A r wd K L) 0 w' ∧ (∀ k, 26 ≤ k → k < 32 → w'.1 46 k = w.1 46 k) ∧ (∀ a k, ¬ a = 46 → ¬ a = 47 → ¬ a = 48 → a < 67 → w'.1 a k = w.1 a k)) (fun i z => ∃ w3, z = (ex_blk 163 67, [.ref 46, .int (Int32.ofInt (i : Int))], [], w3) ∧ (∀ a k, ¬ a = 48 → w3.1 a k = w2.1 a k) ∧ ∀ j, 0 ≤ j → j < (i : Int) → w3.1 48 j.toNat = Int32.ofInt (L j)) (r + 1).toNat ?_ ?_ ?_
    · exact ⟨w2, rfl, fun _ _ _ => rfl, fun j j0 j1 => absurd j1 (by omega)⟩
    · rintro i z hi ⟨w3, rfl, s3, s4⟩
      right
      have el : w3.1 68 (i : Int).toNat = Int32.ofInt (L i) := by
        rw [s3 _ _ (by omega), q3 _ _ (by omega) (by omega)]
        by_cases hir : (i : Int) = r
        · rw [hir]; exact p7 b1
        · exact p6 i (by omega) (by omega)
      have c0 : w3.1 46 0 = Int32.ofInt (r + 1) := by rw [s3 _ _ (by omega)]; exact q0
      refine ⟨(ex_blk 163 67, [.ref 46, .int (Int32.ofInt ((i : Int) + 1))], [], ex_up w3 48 (i : Int).toNat (Int32.ofInt (L i))), ?_, _, rfl, fun a k ha => ?_, fun j j0 j1 => ?_⟩
      · conv => lhs; rw [kb_163_67]
        simp (disch := omega) only [c0, el, ev_iload, ev_aload, rx_istore, ev_iinc, ev_push, ev_iadd, ev_imul, ev_dup_r, ev_dup_i, ev_goto, ev_jsr, rx_ige_t, rx_ige_f, rx_zne_t, rx_zne_f, ev_getf, ev_putf, ev_putl, ev_iald, ev_callv, nr_i, nr_r, nr_l, nr_n, kA_47, kA_48, kA_49, kA_50, kA_51, kA_52, kA_53, kA_54, kA_55, kA_56, kA_57, kA_58, kA_59, kA_60, kA_61, kA_63, kA_64, kA_65, kA_66, kA_67, kA_68, kA_69, kA_70, kS_47, kS_48, kS_49, kS_50, kS_51, kS_52, kS_53, kS_54, kS_55, kS_56, kS_57, kS_58, kS_59, kS_60, kS_61, kS_63, kS_64, kS_65, kS_66, kS_67, kS_68, kS_69, kS_70, rx_iret, kb_163_0, kb_163_14, kb_163_65, kb_163_93, kr_163, kf_46_704, kf_46_705, kf_46_706, kf_46_707, kf_46_708, kf_46_741, kf_46_742, kf_46_743, kf_46_746, kf_46_747, kk_46_704, kk_46_705, kk_46_706, kk_46_715, kk_46_717, kk_46_721, kk_46_724, kk_46_728, kk_46_753, List.getD_cons_zero, List.getD_cons_succ, List.set_cons_zero, List.set_cons_succ, ex_spl, ex_low, Option.toList, List.cons_append, List.nil_append, reduceIte, Int.reduceToNat, Nat.reduceDiv, Nat.reduceMod, Nat.reduceAdd, Nat.reduceMul, z_0, z_1, z_10, z_01, reduceCtorEq, ite_true, ite_false, true_and, and_true, ↓bI_01, ↓bP_01, ↓zret0, ↓zret1, z_add, z_sub, z_mul, up_1, up_2, not_true, not_false_iff, if_true, if_false, bI_T, bI_F, bP_T, bP_F, or_true, true_or, or_false, false_or, Int.reduceNeg, Int.reduceAdd, Int.reduceSub, Int.reduceMul, Int.reduceEq, Int.reduceLT, Int.reduceLE, Int.natCast_add, Int.cast_ofNat_Int]
      · rw [up_n (by omega)]; exact s3 a k ha
      · by_cases hj : j = i
        · rw [hj, up_e (by omega)]
        · rw [up_n (by omega)]; exact s4 j j0 (by omega)
    · rintro z ⟨w3, rfl, s3, s4⟩
      rw [Int.toNat_of_nonneg (by omega)] at s4
      have c0 : w3.1 46 0 = Int32.ofInt (r + 1) := by rw [s3 _ _ (by omega)]; exact q0
      have c1 : w3.1 46 1 = Int32.ofInt wd := by rw [s3 _ _ (by omega)]; exact q1
      have c2 : w3.1 46 2 = Int32.ofInt (A 0 2) := by rw [s3 _ _ (by omega), q2 _ (by omega) (by omega)]; exact g2
      have ca : ∀ k, ¬ k = 0 → ¬ k = 1 → w3.1 46 k = w1.1 46 k := fun k h0 h1 => by rw [s3 _ _ (by omega)]; exact q2 k h0 h1
      have cb : ∀ a k, ¬ a = 46 → ¬ a = 47 → ¬ a = 48 → w3.1 a k = w1.1 a k := fun a k h0 h1 h2 => by rw [s3 _ _ h2]; exact q3 a k h0 h1
      refine ⟨ex_up (ex_up (ex_up (ex_up (ex_up (ex_up (ex_up w3 46 2 (Int32.ofInt (A 0 2 + 1))) 46 13 (Int32.ofInt 0)) 46 11 (Int32.ofInt 0)) 46 17 (Int32.ofInt 0)) 46 20 (Int32.ofInt 0)) 46 49 (Int32.ofInt 0)) 46 24 (Int32.ofInt 0), ?_, ⟨⟨c0, c1, rfl, ?_, rfl, rfl, rfl, rfl, ?_, rfl, rfl⟩, ⟨fun j j0 j1 => ?_, fun j j0 j1 => ?_⟩, ⟨fun j j0 j1 => ?_, fun j j0 j1 => ?_, fun j j0 j1 => ?_, fun j j0 j1 => ?_, fun j j0 j1 => ?_⟩, ⟨fun j j0 j1 => absurd j1 (by show ¬ j < 0; omega), fun j j0 j1 => absurd j1 (by show ¬ j < 0; omega), fun j j0 j1 => absurd j1 (by show ¬ j < 0; omega)⟩, fun j j0 j1 => absurd j1 (by show ¬ j < 5 * 0; omega), ⟨fun j j0 j1 => absurd j1 (by show ¬ j < 0; omega), fun j j0 j1 => absurd j1 (by show ¬ j < 0; omega)⟩, ⟨fun j j0 j1 => absurd j1 (by show ¬ j < 0; omega), fun j j0 j1 => absurd j1 (by show ¬ j < 0; omega)⟩, fun j j0 j1 => absurd j1 (by show ¬ j < 0; omega)⟩, fun k h0 h1 => ?_, fun a k h0 h1 h2 h3 => ?_⟩
      · rw [kb_163_67]
        simp (disch := omega) only [c0, c1, c2, hNN, up_n, up_e, ev_iload, ev_aload, rx_istore, ev_iinc, ev_push, ev_iadd, ev_imul, ev_dup_r, ev_dup_i, ev_goto, ev_jsr, rx_ige_t, rx_ige_f, rx_zne_t, rx_zne_f, ev_getf, ev_putf, ev_putl, ev_iald, ev_callv, nr_i, nr_r, nr_l, nr_n, kA_47, kA_48, kA_49, kA_50, kA_51, kA_52, kA_53, kA_54, kA_55, kA_56, kA_57, kA_58, kA_59, kA_60, kA_61, kA_63, kA_64, kA_65, kA_66, kA_67, kA_68, kA_69, kA_70, kS_47, kS_48, kS_49, kS_50, kS_51, kS_52, kS_53, kS_54, kS_55, kS_56, kS_57, kS_58, kS_59, kS_60, kS_61, kS_63, kS_64, kS_65, kS_66, kS_67, kS_68, kS_69, kS_70, rx_iret, kb_163_0, kb_163_14, kb_163_65, kb_163_93, kr_163, kf_46_704, kf_46_705, kf_46_706, kf_46_707, kf_46_708, kf_46_741, kf_46_742, kf_46_743, kf_46_746, kf_46_747, kk_46_704, kk_46_705, kk_46_706, kk_46_715, kk_46_717, kk_46_721, kk_46_724, kk_46_728, kk_46_753, List.getD_cons_zero, List.getD_cons_succ, List.set_cons_zero, List.set_cons_succ, ex_spl, ex_low, Option.toList, List.cons_append, List.nil_append, reduceIte, Int.reduceToNat, Nat.reduceDiv, Nat.reduceMod, Nat.reduceAdd, Nat.reduceMul, z_0, z_1, z_10, z_01, reduceCtorEq, ite_true, ite_false, true_and, and_true, ↓bI_01, ↓bP_01, ↓zret0, ↓zret1, z_add, z_sub, z_mul, up_2, not_true, not_false_iff, if_true, if_false, bI_T, bI_F, bP_T, bP_F, or_true, true_or, or_false, false_or, Int.reduceNeg, Int.reduceAdd, Int.reduceSub, Int.reduceMul, Int.reduceEq, Int.reduceLT, Int.reduceLE, Int.natCast_add, Int.cast_ofNat_Int]
      · (repeat rw [up_n (by omega)]); rw [ca _ (by omega) (by omega)]; exact g5
      · (repeat rw [up_n (by omega)]); rw [ca _ (by omega) (by omega)]; exact g23
      · have j1 : j < (r + 1) * wd := j1
        rw [hNN] at j1
        (repeat rw [up_n (by omega)]); rw [s3 _ _ (by omega)]; exact q4 j j0 j1
      · (repeat rw [up_n (by omega)]); exact s4 j j0 j1
      · (repeat rw [up_n (by omega)]); rw [cb _ _ (by omega) (by omega) (by omega)]; exact gs j j0 j1
      · (repeat rw [up_n (by omega)]); rw [cb _ _ (by omega) (by omega) (by omega)]; exact ga j j0 j1
      · (repeat rw [up_n (by omega)]); rw [cb _ _ (by omega) (by omega) (by omega)]; exact gf j j0 j1
      · (repeat rw [up_n (by omega)]); rw [cb _ _ (by omega) (by omega) (by omega)]; exact gt j j0 j1
      · (repeat rw [up_n (by omega)]); rw [cb _ _ (by omega) (by omega) (by omega)]; exact gn j j0 j1
      · (repeat rw [up_n (by omega)]); rw [ca _ (by omega) (by omega)]; exact f46 k (by omega)
      · (repeat rw [up_n (by omega)]); rw [cb _ _ h0 h1 h2]; exact fo a k h0 h3
theorem g_house {A : AS} (hV : q_V A) (hb : A 0 2 < 1000000) : q_both A 102 163 [] := by
  have hr := q_rng hV.1
  have q4 : q_dp 4 3 = 98 := rfl
  obtain ⟨m, s, hm⟩ := p_tk_ex q_hf q_h0 A (by omega)
  by_cases hw : (m : Int) = A 0 8 ∧ q_hw s
  · obtain ⟨r, wd, c, l, K, L⟩ := s
    obtain ⟨hVh, en⟩ := q_vh_nh hV.1.1 hb (q_hi_t hm.1) hw.2
    obtain ⟨⟨v1', v2, v3, v4, v5, v6, v7, v8, v9, v10⟩, vd, vi⟩ := id hV
    have z40 : (0 : Int) ≤ 40 := by omega
    refine ⟨.int (Int32.ofInt ((r + 1) * wd)), q_nh A r wd K L, ⟨⟨hVh, v2, ⟨Int.le_refl 0, z40, fun k k0 k1 => absurd k1 (by show ¬ k < 0; omega)⟩, ⟨Int.le_refl 0, by show (0 : Int) ≤ 3; omega, fun k k0 k1 => absurd k1 (by show ¬ k < 0; omega)⟩, ⟨Int.le_refl 0, by show (0 : Int) ≤ 12; omega, fun k k0 k1 => absurd k1 (by show ¬ k < 0; omega)⟩, ⟨Int.le_refl 0, by show (0 : Int) ≤ 6; omega, fun k k0 k1 => absurd k1 (by show ¬ k < 0; omega)⟩, ⟨Int.le_refl 0, by show (0 : Int) ≤ 10; omega, fun k k0 k1 => absurd k1 (by show ¬ k < 0; omega)⟩, v8, v9, Or.inl rfl⟩, fun t u t0 t1 => absurd t1 (by show ¬ t < 0; omega), fun h => absurd h (by show ¬ (0 : Int) = 1; omega)⟩, fun d w hC => ?_, fun d w hM => ?_, Int.le_refl _⟩
    · obtain ⟨w1, e1, o1⟩ := m_hisOn (d := d + 8) hV.1 hC hm
      rw [bP_t hw] at e1
      have hC1 := rC_cg hC (sO_C o1 (by unfold tC; omega))
      clear hC
      have hC := hC1
      obtain ⟨⟨⟨⟨h511, h512, h513⟩, ⟨hk, hro, hco, hli⟩⟩, ⟨hbe, hah, hbs, hos⟩⟩, hdo, ⟨h010, h011, h09, h11⟩, hpc, ht18, ht21, ht23, ht25, ht27, ht30, ht32, ht34, ht36⟩ := id hC
      obtain ⟨w2, e2, o2, H2, D2⟩ := m_read (d := d + 7) hV.1 hb h11 hpc hm hw.1 hw.2
      have hN : w2.1 5 11 = Int32.ofInt ((r + 1) * wd) := H2.1.1.1
      have f2 : ∀ a k, (a < 5 ∨ 17 ≤ a) → w2.1 a k = w1.1 a k := fun a k ha => o2 a k (by omega)
      have c10 : w2.1 0 10 = Int32.ofInt (A 0 2) := by rw [f2 _ _ (by omega)]; exact h010
      generalize hW : ex_up (ex_up (ex_up (ex_up (ex_up (ex_up (ex_up w2 1 1 (Int32.ofInt 0)) 21 2 (Int32.ofInt 0)) 23 2 (Int32.ofInt 0)) 25 2 (Int32.ofInt 0)) 27 2 (Int32.ofInt 0)) 0 9 (Int32.ofInt 0)) 0 10 (Int32.ofInt (A 0 2 + 1)) = W
      have fW : ∀ a k, ¬ (a = 1 ∧ k = 1) → ¬ ((a = 21 ∨ a = 23 ∨ a = 25 ∨ a = 27) ∧ k = 2) → ¬ (a = 0 ∧ (k = 9 ∨ k = 10)) → W.1 a k = w2.1 a k := by
        intro a k h1 h2 h3
        rw [← hW]
        (repeat rw [up_n (by omega)])
      have et : ∀ o j mm s, (o = 18 ∨ (30 ≤ o ∧ o < 37)) → q_nh A r wd K L 0 j = A 0 j → q_nh A r wd K L s = A s → rCt A w1 o j mm s → rCt (q_nh A r wd K L) W o j mm s := by
        intro o j mm s ho ej es ht
        refine ⟨?_, ?_, fun k k0 k1 => ?_⟩
        · rw [fW _ _ (by omega) (by omega) (by omega), f2 _ _ (by omega)]; exact ht.1
        · rw [fW _ _ (by omega) (by omega) (by omega), f2 _ _ (by omega), ej]; exact ht.2.1
        · rw [ej] at k1
          rw [fW _ _ (by omega) (by omega) (by omega), f2 _ _ (by omega), es]; exact ht.2.2 k k0 k1
      have ez : ∀ o j mm s, (o = 21 ∨ o = 23 ∨ o = 25 ∨ o = 27) → W.1 o 2 = Int32.ofInt 0 → q_nh A r wd K L 0 j = 0 → w1.1 o 1 = Int32.ofInt mm → rCt (q_nh A r wd K L) W o j mm s := by
        intro o j mm s ho h2 hj h1
        refine ⟨by rw [fW _ _ (by omega) (by omega) (by omega), f2 _ _ (by omega)]; exact h1, by rw [hj]; exact h2, fun k k0 k1 => ?_⟩
        rw [hj] at k1
        omega
      refine ⟨W, ?_, ⟨rH_o H2 fun a k h1 h2 => fW a k (by omega) (by omega) (by omega), fun k k0 k1 => by rw [fW _ _ (by omega) (by omega) (by omega)]; exact D2 k k0 k1, ⟨by rw [← hW]; rfl, ?_, by rw [← hW]; rfl, by rw [← hW]; rfl⟩, fun k k0 k1 => absurd k1 (by show ¬ k < 0; omega), et 18 3 8 3 (by omega) rfl rfl ht18, ez 21 5 3 5 (by omega) (by rw [← hW]; rfl) rfl ht21.1, ez 23 4 12 4 (by omega) (by rw [← hW]; rfl) rfl ht23.1, ez 25 6 6 6 (by omega) (by rw [← hW]; rfl) rfl ht25.1, ez 27 7 10 7 (by omega) (by rw [← hW]; rfl) rfl ht27.1, et 30 11 3 9 (by omega) rfl rfl ht30, et 32 12 12 10 (by omega) rfl rfl ht32, et 34 13 6 11 (by omega) rfl rfl ht34, et 36 14 10 12 (by omega) rfl rfl ht36⟩, fun a k ha => ?_⟩
      · rw [ke_102 kc_0]
        simp (disch := omega) only [q4, e1, e2, m_pclear, m_dclear, c10, up_n, up_e, ev_aload, ev_push, ev_iadd, ev_dup_r, ev_dup_i, rx_zne_t, rx_zne_f, ev_getf, ev_putf, ev_putl, ev_callv, rx_ci0, rx_ci1i, rx_ci1r, nr_i, nr_r, nr_l, nr_n, rx_iret, kb_102_0, kb_102_17, kr_102, kf_0_640, kf_0_641, kf_0_643, kf_0_645, kf_0_650, kk_0_649, kk_0_650, List.getD_cons_zero, List.getD_cons_succ, List.set_cons_zero, List.set_cons_succ, ex_spl, ex_low, Option.toList, List.cons_append, List.nil_append, reduceIte, Int.reduceToNat, Nat.reduceDiv, Nat.reduceMod, Nat.reduceAdd, Nat.reduceMul, z_0, z_1, z_10, z_01, reduceCtorEq, ite_true, ite_false, true_and, and_true, ↓bI_01, ↓bP_01, ↓zret0, ↓zret1, z_add, z_sub, z_mul, up_2, not_true, not_false_iff, if_true, if_false, bI_T, bI_F, bP_T, bP_F, or_true, true_or, or_false, false_or, Int.reduceNeg, Int.reduceAdd, Int.reduceSub, Int.reduceMul, Int.reduceEq, Int.reduceLT, Int.reduceLE, Int.natCast_add, Int.cast_ofNat_Int]
        have hcl : ∀ d, ex_cal (d + 1) 20 [.ref 5] W = some (some (.int (Int32.ofInt ((r + 1) * wd))), W) := by
          intro d
          have hx : W.1 5 11 = Int32.ofInt ((r + 1) * wd) := by rw [fW _ _ (by omega) (by omega) (by omega)]; exact hN
          rw [ke_20 kc_5]
          simp (disch := omega) only [hx, ev_aload, ev_getf, nr_i, nr_r, nr_l, nr_n, rx_iret, kb_20_0, kr_20, kf_5_75, List.getD_cons_zero, List.getD_cons_succ, List.set_cons_zero, List.set_cons_succ, ex_spl, ex_low, Option.toList, List.cons_append, List.nil_append, reduceIte, Int.reduceToNat, Nat.reduceDiv, Nat.reduceMod, Nat.reduceAdd, Nat.reduceMul, z_0, z_1, z_10, z_01, reduceCtorEq, ite_true, ite_false, true_and, and_true, ↓bI_01, ↓bP_01, ↓zret0, ↓zret1, z_add, z_sub, z_mul, up_1, up_2, not_true, not_false_iff, if_true, if_false, bI_T, bI_F, bP_T, bP_F, or_true, true_or, or_false, false_or, Int.reduceNeg, Int.reduceAdd, Int.reduceSub, Int.reduceMul, Int.reduceEq, Int.reduceLT, Int.reduceLE, Int.natCast_add, Int.cast_ofNat_Int]
        rw [hW]
        simp (disch := omega) only [hcl, ev_aload, ev_push, ev_iadd, ev_dup_r, ev_dup_i, rx_zne_t, rx_zne_f, ev_getf, ev_putf, ev_putl, ev_callv, rx_ci0, rx_ci1i, rx_ci1r, nr_i, nr_r, nr_l, nr_n, rx_iret, kb_102_0, kb_102_17, kr_102, kf_0_640, kf_0_641, kf_0_643, kf_0_645, kf_0_650, kk_0_649, kk_0_650, List.getD_cons_zero, List.getD_cons_succ, List.set_cons_zero, List.set_cons_succ, ex_spl, ex_low, Option.toList, List.cons_append, List.nil_append, reduceIte, Int.reduceToNat, Nat.reduceDiv, Nat.reduceMod, Nat.reduceAdd, Nat.reduceMul, z_0, z_1, z_10, z_01, reduceCtorEq, ite_true, ite_false, true_and, and_true, ↓bI_01, ↓bP_01, ↓zret0, ↓zret1, z_add, z_sub, z_mul, up_1, up_2, not_true, not_false_iff, if_true, if_false, bI_T, bI_F, bP_T, bP_F, or_true, true_or, or_false, false_or, Int.reduceNeg, Int.reduceAdd, Int.reduceSub, Int.reduceMul, Int.reduceEq, Int.reduceLT, Int.reduceLE, Int.natCast_add, Int.cast_ofNat_Int]
      · rw [fW _ _ (by omega) (by omega) (by omega), f2 _ _ (by omega)]; exact h011
      · rw [fW _ _ (by omega) (by omega) (by omega), f2 _ _ (by omega)]; exact o1 a k (by omega)
    · obtain ⟨hM, hMk⟩ := hM
      obtain ⟨w1, e1, hN1, f46, fo⟩ := r_house (d := d + 12) hV.1 hb hM hm hw.1 hw.2
      refine ⟨w1, e1, ⟨hN1, ?_⟩, fun a k ha => fo a k (by omega) (by omega) (by omega) (by omega)⟩
      obtain ⟨k1, ⟨q, k2, k3, k4, k5⟩, k6⟩ := hMk
      refine ⟨by rw [f46 _ (by omega) (by omega)]; exact k1, ⟨q, k2, by show q ≤ A 0 2 + 1; omega, by rw [f46 _ (by omega) (by omega)]; exact k4, ⟨fun h => absurd h (by show ¬ (0 : Int) = 1; omega), fun h => ?_⟩⟩, fun h => absurd h (by show ¬ (0 : Int) = 1; omega)⟩
      have h2 : q = A 0 2 + 1 := h.2
      omega
  · refine q_ask hV (.int (Int32.ofInt (-103))) (fun d w hC => ?_) (fun d w hM => ?_)
    · obtain ⟨w1, e1, o1⟩ := m_hisOn (d := d + 8) hV.1 hC hm
      rw [bP_f hw] at e1
      refine ⟨w1, ?_, sO_C o1 (show tC 3 by unfold tC; omega)⟩
      rw [ke_102 kc_0]
      simp (disch := omega) only [q4, e1, ev_aload, ev_push, ev_iadd, ev_dup_r, ev_dup_i, rx_zne_t, rx_zne_f, ev_getf, ev_putf, ev_putl, ev_callv, rx_ci0, rx_ci1i, rx_ci1r, nr_i, nr_r, nr_l, nr_n, rx_iret, kb_102_0, kb_102_17, kr_102, kf_0_640, kf_0_641, kf_0_643, kf_0_645, kf_0_650, kk_0_649, kk_0_650, List.getD_cons_zero, List.getD_cons_succ, List.set_cons_zero, List.set_cons_succ, ex_spl, ex_low, Option.toList, List.cons_append, List.nil_append, reduceIte, Int.reduceToNat, Nat.reduceDiv, Nat.reduceMod, Nat.reduceAdd, Nat.reduceMul, z_0, z_1, z_10, z_01, reduceCtorEq, ite_true, ite_false, true_and, and_true, ↓bI_01, ↓bP_01, ↓zret0, ↓zret1, z_add, z_sub, z_mul, up_1, up_2, not_true, not_false_iff, if_true, if_false, bI_T, bI_F, bP_T, bP_F, or_true, true_or, or_false, false_or, Int.reduceNeg, Int.reduceAdd, Int.reduceSub, Int.reduceMul, Int.reduceEq, Int.reduceLT, Int.reduceLE, Int.natCast_add, Int.cast_ofNat_Int]
    · obtain ⟨w1, e1, o1, R1, -, e3⟩ := r_readHouse (d := d + 12) hV.1 hM hm
      rw [bP_f hw] at e3
      refine ⟨w1, ?_, o1⟩
      rw [ke_163 kc_46]
      simp (disch := omega) only [e1, e3, ev_iload, ev_aload, rx_istore, ev_iinc, ev_push, ev_iadd, ev_imul, ev_dup_r, ev_dup_i, ev_goto, ev_jsr, rx_ige_t, rx_ige_f, rx_zne_t, rx_zne_f, ev_getf, ev_putf, ev_putl, ev_iald, ev_callv, nr_i, nr_r, nr_l, nr_n, kA_47, kA_48, kA_49, kA_50, kA_51, kA_52, kA_53, kA_54, kA_55, kA_56, kA_57, kA_58, kA_59, kA_60, kA_61, kA_63, kA_64, kA_65, kA_66, kA_67, kA_68, kA_69, kA_70, kS_47, kS_48, kS_49, kS_50, kS_51, kS_52, kS_53, kS_54, kS_55, kS_56, kS_57, kS_58, kS_59, kS_60, kS_61, kS_63, kS_64, kS_65, kS_66, kS_67, kS_68, kS_69, kS_70, rx_iret, kb_163_0, kb_163_14, kb_163_65, kb_163_93, kr_163, kf_46_704, kf_46_705, kf_46_706, kf_46_707, kf_46_708, kf_46_741, kf_46_742, kf_46_743, kf_46_746, kf_46_747, kk_46_704, kk_46_705, kk_46_706, kk_46_715, kk_46_717, kk_46_721, kk_46_724, kk_46_728, kk_46_753, List.getD_cons_zero, List.getD_cons_succ, List.set_cons_zero, List.set_cons_succ, ex_spl, ex_low, Option.toList, List.cons_append, List.nil_append, reduceIte, Int.reduceToNat, Nat.reduceDiv, Nat.reduceMod, Nat.reduceAdd, Nat.reduceMul, z_0, z_1, z_10, z_01, reduceCtorEq, ite_true, ite_false, true_and, and_true, ↓bI_01, ↓bP_01, ↓zret0, ↓zret1, z_add, z_sub, z_mul, up_1, up_2, not_true, not_false_iff, if_true, if_false, bI_T, bI_F, bP_T, bP_F, or_true, true_or, or_false, false_or, Int.reduceNeg, Int.reduceAdd, Int.reduceSub, Int.reduceMul, Int.reduceEq, Int.reduceLT, Int.reduceLE, Int.natCast_add, Int.cast_ofNat_Int]
