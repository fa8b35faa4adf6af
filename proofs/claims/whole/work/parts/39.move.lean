/-! move -/
theorem m_setPlace {d : Nat} {A : AS} {w : PW} (hV : q_v0 A) (hC : rC A w) {t : Int} {x y : Int32} (t0 : 0 ≤ t) (t1 : t < A 0 5) : ex_cal (d + 3) 7 [.ref 20, .int (Int32.ofInt t), .int x, .int y] w = some (none, ex_up (ex_up w 22 (5 * t + 1).toNat x) 22 (5 * t + 2).toNat y) := by
  have hr := q_rng hV
  obtain ⟨-, -, -, -, -, ht21, -⟩ := id hC
  have h1 : ex_cal (d + 2) 94 [.ref 21, .int (Int32.ofInt t), .int (Int32.ofInt 1), .int x] w = some (none, ex_up w 22 (5 * t + 1).toNat x) := m_tset tb_21 ht21.2.1 t0 t1 (by omega) (by omega) (by omega)
  have h2 : ex_cal (d + 2) 94 [.ref 21, .int (Int32.ofInt t), .int (Int32.ofInt 2), .int y] (ex_up w 22 (5 * t + 1).toNat x) = some (none, ex_up (ex_up w 22 (5 * t + 1).toNat x) 22 (5 * t + 2).toNat y) := m_tset tb_21 (n := A 0 5) (by rw [up_n (by omega)]; exact ht21.2.1) t0 t1 (by omega) (by omega) (by omega)
  rw [ke_7 kc_20]
  simp (disch := omega) only [h1, h2, ev_iload, ev_aload, ev_push, ev_getf, ev_callv, nr_i, nr_r, nr_l, nr_n, rx_vret, kb_7_0, kr_7, kf_20_0, kf_29_0, List.getD_cons_zero, List.getD_cons_succ, List.set_cons_zero, List.set_cons_succ, ex_spl, ex_low, Option.toList, List.cons_append, List.nil_append, reduceIte, Int.reduceToNat, Nat.reduceDiv, Nat.reduceMod, Nat.reduceAdd, Nat.reduceMul, z_0, z_1, z_10, z_01, reduceCtorEq, ite_true, ite_false, true_and, and_true, ↓bI_01, ↓bP_01, ↓zret0, ↓zret1, z_add, z_sub, z_mul, up_1, up_2, not_true, not_false_iff, if_true, if_false, bI_T, bI_F, bP_T, bP_F, or_true, true_or, or_false, false_or, Int.reduceNeg, Int.reduceAdd, Int.reduceSub, Int.reduceMul, Int.reduceEq, Int.reduceLT, Int.reduceLE, Int.natCast_add, Int.cast_ofNat_Int]
theorem g_move {A : AS} (hV : q_V A) {t c v : Int} (t0 : -2147483648 ≤ t) (t1 : t < 2147483648) (c0 : -2147483648 ≤ c) (c1 : c < 2147483648) (v0 : -2147483648 ≤ v) (v1 : v < 2147483648) : q_both A 115 206 [.int (Int32.ofInt t), .int (Int32.ofInt c), .int (Int32.ofInt v)] := by
  have hr := q_rng hV.1
  by_cases ht : 0 ≤ t ∧ t < A 0 5
  · obtain ⟨t2, t3⟩ := ht
    by_cases hc : q_fl A c
    · have hgt := q_gr_v hV.1 t2 t3
      obtain ⟨f1, f2, f3, f4, f5, f6, f7⟩ := id hgt
      have hww : (0 ≤ v ∧ v < 4 ∧ (A 5 (5 * t) = 1 ∨ v = 0)) ∨ (A 5 (5 * t) = 1 ∧ ¬ (0 ≤ v ∧ v < 4)) ∨ (¬ A 5 (5 * t) = 1 ∧ ¬ v = 0) := by omega
      rcases hww with ⟨v2, v3, hw⟩ | hw | hw
      · obtain ⟨c2, c3, c4⟩ := id hc
        have hwk : (if A 5 (5 * t) = 1 then (4 : Int) else 1) = 4 ∨ ((if A 5 (5 * t) = 1 then (4 : Int) else 1) = 1 ∧ v = 0) := by
          by_cases h : A 5 (5 * t) = 1
          · left; rw [if_pos h]
          · right; rw [if_neg h]; exact ⟨rfl, hw.resolve_left h⟩
        have hwr : 0 ≤ (if A 5 (5 * t) = 1 then (3 : Int) else 0) ∧ (if A 5 (5 * t) = 1 then (3 : Int) else 0) ≤ 3 ∧ v ≤ (if A 5 (5 * t) = 1 then (3 : Int) else 0) := by
          by_cases h : A 5 (5 * t) = 1
          · rw [if_pos h]; omega
          · rw [if_neg h]; omega
        generalize hw4 : (if A 5 (5 * t) = 1 then (4 : Int) else 1) = n4 at *
        generalize hw3 : (if A 5 (5 * t) = 1 then (3 : Int) else 0) = n3 at *
        by_cases hR : q_room A (A 5 (5 * t)) c v t
        · refine ⟨.int (Int32.ofInt (4 * A 5 (5 * t + 1) + A 5 (5 * t + 2))), q_mv A t c v, q_V_mv hV t2 t3 v2 v3 hR, fun d w hC => ?_, fun d w hM => ?_⟩
          · have hC' := hC
            have hsz : w.1 21 2 = Int32.ofInt (A 0 5) := hC.2.2.2.2.2.1.2.1
            have hrm := m_isRoom (d := d + 9) hV.1 hC (k := A 5 (5 * t)) (c := c) (v := v) (u := t) f1 (by omega) c2 c3 v2 v3 (by omega) (by omega)
            rw [bP_t hR] at hrm
            obtain ⟨⟨⟨⟨h511, h512, h513⟩, ⟨hk, hro, hco, hli⟩⟩, ⟨hbe, hah, hbs, hos⟩⟩, hdo, ⟨h010, h011, h09, h11⟩, hpc, ht18, ht21, ht23, ht25, ht27, ht30, ht32, ht34, ht36⟩ := id hC
            refine ⟨ex_up (ex_up w 22 (5 * t + 1).toNat (Int32.ofInt c)) 22 (5 * t + 2).toNat (Int32.ofInt v), ?_, ⟨hC.1, hC.2.1, hC.2.2.1, hC.2.2.2.1, ht18, rCt_mv ht21 t2 t3, ht23, ht25, ht27, ht30, ht32, ht34, ht36⟩, fC_u (fC_u (fC_r w) (by omega)) (by omega)⟩
            rw [ke_115 kc_0]
            simp (disch := omega) only [m_tsize tb_21, hsz, m_below, m_isFloor hV.1.1 hC'.1.1, m_waysOf, hw4, bI_t, bI_f, m_dkind hV.1 hC', hrm, m_dplace hV.1 hC', m_setPlace hV.1 hC', ev_iload, ev_aload, rx_istore, ev_push, ev_iadd, ev_imul, ev_jsr, rx_zeq_t, rx_zeq_f, rx_zne_t, rx_zne_f, ev_getf, ev_call, ev_callv, nr_i, nr_r, nr_l, nr_n, rx_iret, kb_115_0, kb_115_28, kb_115_31, kb_115_52, kb_115_76, kr_115, kf_20_0, kf_29_0, kf_0_643, kf_0_645, List.getD_cons_zero, List.getD_cons_succ, List.set_cons_zero, List.set_cons_succ, ex_spl, ex_low, Option.toList, List.cons_append, List.nil_append, reduceIte, Int.reduceToNat, Nat.reduceDiv, Nat.reduceMod, Nat.reduceAdd, Nat.reduceMul, z_0, z_1, z_10, z_01, reduceCtorEq, ite_true, ite_false, true_and, and_true, ↓bI_01, ↓bP_01, ↓zret0, ↓zret1, z_add, z_sub, z_mul, up_1, up_2, not_true, not_false_iff, if_true, if_false, bI_T, bI_F, bP_T, bP_F, or_true, true_or, or_false, false_or, Int.reduceNeg, Int.reduceAdd, Int.reduceSub, Int.reduceMul, Int.reduceEq, Int.reduceLT, Int.reduceLE, Int.natCast_add, Int.cast_ofNat_Int]
          · obtain ⟨hM, hMk⟩ := hM
            have hM2 := rN_mv (c := c) (v := v) hM t2 t3
            have e1 := hM.2.2.2.1.1 t t2 t3
            have e2 := hM.2.2.2.1.2.1 t t2 t3
            have e3 := hM.2.2.2.1.2.2 t t2 t3
            have hrm := r_haveRoom (d := d + 9) (A := q_mv A t c v) (show q_vh (q_mv A t c v) from hV.1.1) hM2 (show 0 ≤ A 0 5 by omega) (show A 0 5 ≤ 3 by omega) (q_gr_mv hV.1 c2 c3 v2 v3 hw)
            rw [bP_t ((q_hr_mv hV.1 hV.2.1 t2 t3 hw).2 hR)] at hrm
            refine ⟨_, ?_, ⟨hM2, hMk⟩, fM_u (fM_u (fM_u (fM_r w) (by omega)) (by omega)) (by omega)⟩
            rw [ke_206 kc_46]
            simp (disch := omega) only [r_isThing hV.1 hM, r_isFloor hV.1.1 hM, bI_t, bI_f, m_isWay, hw3, e1, e2, e3, r_put, hrm, ev_iload, ev_aload, rx_istore, ev_push, ev_iadd, ev_imul, ev_jsr, rx_zeq_t, rx_zeq_f, rx_zne_t, rx_zne_f, ev_getf, ev_iald, ev_call, ev_callv, nr_i, nr_r, nr_l, nr_n, kA_47, kA_48, kA_49, kA_50, kA_51, kA_52, kA_53, kA_54, kA_55, kA_56, kA_57, kA_58, kA_59, kA_60, kA_61, kA_63, kA_64, kA_65, kA_66, kA_67, kA_68, kA_69, kA_70, rx_iret, kb_206_0, kb_206_16, kb_206_19, kb_206_35, kb_206_89, kr_206, kf_46_718, kf_46_719, kf_46_720, List.getD_cons_zero, List.getD_cons_succ, List.set_cons_zero, List.set_cons_succ, ex_spl, ex_low, Option.toList, List.cons_append, List.nil_append, reduceIte, Int.reduceToNat, Nat.reduceDiv, Nat.reduceMod, Nat.reduceAdd, Nat.reduceMul, z_0, z_1, z_10, z_01, reduceCtorEq, ite_true, ite_false, true_and, and_true, ↓bI_01, ↓bP_01, ↓zret0, ↓zret1, z_add, z_sub, z_mul, up_1, up_2, not_true, not_false_iff, if_true, if_false, bI_T, bI_F, bP_T, bP_F, or_true, true_or, or_false, false_or, Int.reduceNeg, Int.reduceAdd, Int.reduceSub, Int.reduceMul, Int.reduceEq, Int.reduceLT, Int.reduceLE, Int.natCast_add, Int.cast_ofNat_Int]
        · refine ⟨.int (Int32.ofInt (-103)), A, hV, fun d w hC => ?_, fun d w hM => ?_⟩
          · have hsz : w.1 21 2 = Int32.ofInt (A 0 5) := hC.2.2.2.2.2.1.2.1
            have hrm := m_isRoom (d := d + 9) hV.1 hC (k := A 5 (5 * t)) (c := c) (v := v) (u := t) f1 (by omega) c2 c3 v2 v3 (by omega) (by omega)
            rw [bP_f hR] at hrm
            refine ⟨w, ?_, hC, fC_r w⟩
            rw [ke_115 kc_0]
            simp (disch := omega) only [m_tsize tb_21, hsz, m_below, m_isFloor hV.1.1 hC.1.1, m_waysOf, hw4, bI_t, bI_f, m_dkind hV.1 hC, hrm, ev_iload, ev_aload, rx_istore, ev_push, ev_iadd, ev_imul, ev_jsr, rx_zeq_t, rx_zeq_f, rx_zne_t, rx_zne_f, ev_getf, ev_call, ev_callv, nr_i, nr_r, nr_l, nr_n, rx_iret, kb_115_0, kb_115_28, kb_115_31, kb_115_52, kb_115_76, kr_115, kf_20_0, kf_29_0, kf_0_643, kf_0_645, List.getD_cons_zero, List.getD_cons_succ, List.set_cons_zero, List.set_cons_succ, ex_spl, ex_low, Option.toList, List.cons_append, List.nil_append, reduceIte, Int.reduceToNat, Nat.reduceDiv, Nat.reduceMod, Nat.reduceAdd, Nat.reduceMul, z_0, z_1, z_10, z_01, reduceCtorEq, ite_true, ite_false, true_and, and_true, ↓bI_01, ↓bP_01, ↓zret0, ↓zret1, z_add, z_sub, z_mul, up_1, up_2, not_true, not_false_iff, if_true, if_false, bI_T, bI_F, bP_T, bP_F, or_true, true_or, or_false, false_or, Int.reduceNeg, Int.reduceAdd, Int.reduceSub, Int.reduceMul, Int.reduceEq, Int.reduceLT, Int.reduceLE, Int.natCast_add, Int.cast_ofNat_Int]
          · obtain ⟨hM, hMk⟩ := hM
            have hM2 := rN_mv (c := c) (v := v) hM t2 t3
            have e1 := hM.2.2.2.1.1 t t2 t3
            have e2 := hM.2.2.2.1.2.1 t t2 t3
            have e3 := hM.2.2.2.1.2.2 t t2 t3
            have hrm := r_haveRoom (d := d + 9) (A := q_mv A t c v) (show q_vh (q_mv A t c v) from hV.1.1) hM2 (show 0 ≤ A 0 5 by omega) (show A 0 5 ≤ 3 by omega) (q_gr_mv hV.1 c2 c3 v2 v3 hw)
            rw [bP_f (fun h => hR ((q_hr_mv hV.1 hV.2.1 t2 t3 hw).1 h))] at hrm
            have e1' := hM2.2.2.2.1.1 t t2 t3
            rw [q_mv_k] at e1'
            refine ⟨ex_up (ex_up (ex_up (ex_up (ex_up (ex_up w 55 t.toNat (Int32.ofInt (A 5 (5 * t)))) 56 t.toNat (Int32.ofInt c)) 57 t.toNat (Int32.ofInt v)) 55 t.toNat (Int32.ofInt (A 5 (5 * t)))) 56 t.toNat (Int32.ofInt (A 5 (5 * t + 1)))) 57 t.toNat (Int32.ofInt (A 5 (5 * t + 2))), ?_, ⟨?_, hMk⟩, fM_u (fM_u (fM_u (fM_u (fM_u (fM_u (fM_r w) (by omega)) (by omega)) (by omega)) (by omega)) (by omega)) (by omega)⟩
            · rw [ke_206 kc_46]
              simp (disch := omega) only [r_isThing hV.1 hM, r_isFloor hV.1.1 hM, bI_t, bI_f, m_isWay, hw3, e1, e2, e3, r_put, hrm, up_n, up_e, ev_iload, ev_aload, rx_istore, ev_push, ev_iadd, ev_imul, ev_jsr, rx_zeq_t, rx_zeq_f, rx_zne_t, rx_zne_f, ev_getf, ev_iald, ev_call, ev_callv, nr_i, nr_r, nr_l, nr_n, kA_47, kA_48, kA_49, kA_50, kA_51, kA_52, kA_53, kA_54, kA_55, kA_56, kA_57, kA_58, kA_59, kA_60, kA_61, kA_63, kA_64, kA_65, kA_66, kA_67, kA_68, kA_69, kA_70, rx_iret, kb_206_0, kb_206_16, kb_206_19, kb_206_35, kb_206_89, kr_206, kf_46_718, kf_46_719, kf_46_720, List.getD_cons_zero, List.getD_cons_succ, List.set_cons_zero, List.set_cons_succ, ex_spl, ex_low, Option.toList, List.cons_append, List.nil_append, reduceIte, Int.reduceToNat, Nat.reduceDiv, Nat.reduceMod, Nat.reduceAdd, Nat.reduceMul, z_0, z_1, z_10, z_01, reduceCtorEq, ite_true, ite_false, true_and, and_true, ↓bI_01, ↓bP_01, ↓zret0, ↓zret1, z_add, z_sub, z_mul, up_2, not_true, not_false_iff, if_true, if_false, bI_T, bI_F, bP_T, bP_F, or_true, true_or, or_false, false_or, Int.reduceNeg, Int.reduceAdd, Int.reduceSub, Int.reduceMul, Int.reduceEq, Int.reduceLT, Int.reduceLE, Int.natCast_add, Int.cast_ofNat_Int]
            · obtain ⟨⟨g0, g1, g2, g5, g11, g13, g17, g20, g23, g24, g49⟩, ⟨gk, gl⟩, ⟨gs, ga, gf, gt, gn⟩, ⟨gtk, gtc, gtw⟩, ge, ⟨gba, gbh⟩, ⟨gjc, gjs⟩, gp⟩ := id hM
              refine ⟨⟨g0, g1, g2, g5, g11, g13, g17, g20, g23, g24, g49⟩, ⟨gk, gl⟩, ⟨gs, ga, gf, gt, gn⟩, ⟨fun l l0 l1 => ?_, fun l l0 l1 => ?_, fun l l0 l1 => ?_⟩, ge, ⟨gba, gbh⟩, ⟨gjc, gjs⟩, gp⟩
              · by_cases hl : l = t
                · subst hl; rw [up_n (by omega), up_n (by omega), up_e (by omega)]
                · rw [up_n (by omega), up_n (by omega), up_n (by omega), up_n (by omega), up_n (by omega), up_n (by omega)]; exact gtk l l0 l1
              · by_cases hl : l = t
                · subst hl; rw [up_n (by omega), up_e (by omega)]
                · rw [up_n (by omega), up_n (by omega), up_n (by omega), up_n (by omega), up_n (by omega), up_n (by omega)]; exact gtc l l0 l1
              · by_cases hl : l = t
                · subst hl; rw [up_e (by omega)]
                · rw [up_n (by omega), up_n (by omega), up_n (by omega), up_n (by omega), up_n (by omega), up_n (by omega)]; exact gtw l l0 l1
      · have hw4 : (if A 5 (5 * t) = 1 then (4 : Int) else 1) = 4 := if_pos hw.1
        have hw3 : (if A 5 (5 * t) = 1 then (3 : Int) else 0) = 3 := if_pos hw.1
        refine q_deny hV (Int32.ofInt (-102)) (fun d w hC => ?_) (fun d w hM => ?_)
        · have hsz : w.1 21 2 = Int32.ofInt (A 0 5) := hC.2.2.2.2.2.1.2.1
          rw [ke_115 kc_0]
          simp (disch := omega) only [m_tsize tb_21, hsz, m_below, m_isFloor hV.1.1 hC.1.1, m_waysOf, hw4, bI_t, bI_f, m_dkind hV.1 hC, ev_iload, ev_aload, rx_istore, ev_push, ev_iadd, ev_imul, ev_jsr, rx_zeq_t, rx_zeq_f, rx_zne_t, rx_zne_f, ev_getf, ev_call, ev_callv, nr_i, nr_r, nr_l, nr_n, rx_iret, kb_115_0, kb_115_28, kb_115_31, kb_115_52, kb_115_76, kr_115, kf_20_0, kf_29_0, kf_0_643, kf_0_645, List.getD_cons_zero, List.getD_cons_succ, List.set_cons_zero, List.set_cons_succ, ex_spl, ex_low, Option.toList, List.cons_append, List.nil_append, reduceIte, Int.reduceToNat, Nat.reduceDiv, Nat.reduceMod, Nat.reduceAdd, Nat.reduceMul, z_0, z_1, z_10, z_01, reduceCtorEq, ite_true, ite_false, true_and, and_true, ↓bI_01, ↓bP_01, ↓zret0, ↓zret1, z_add, z_sub, z_mul, up_1, up_2, not_true, not_false_iff, if_true, if_false, bI_T, bI_F, bP_T, bP_F, or_true, true_or, or_false, false_or, Int.reduceNeg, Int.reduceAdd, Int.reduceSub, Int.reduceMul, Int.reduceEq, Int.reduceLT, Int.reduceLE, Int.natCast_add, Int.cast_ofNat_Int]
        · have e1 := hM.2.2.2.1.1 t t2 t3
          rw [ke_206 kc_46]
          simp (disch := omega) only [r_isThing hV.1 hM, r_isFloor hV.1.1 hM, bI_t, bI_f, m_isWay, hw3, e1, ev_iload, ev_aload, rx_istore, ev_push, ev_iadd, ev_imul, ev_jsr, rx_zeq_t, rx_zeq_f, rx_zne_t, rx_zne_f, ev_getf, ev_iald, ev_call, ev_callv, nr_i, nr_r, nr_l, nr_n, kA_47, kA_48, kA_49, kA_50, kA_51, kA_52, kA_53, kA_54, kA_55, kA_56, kA_57, kA_58, kA_59, kA_60, kA_61, kA_63, kA_64, kA_65, kA_66, kA_67, kA_68, kA_69, kA_70, rx_iret, kb_206_0, kb_206_16, kb_206_19, kb_206_35, kb_206_89, kr_206, kf_46_718, kf_46_719, kf_46_720, List.getD_cons_zero, List.getD_cons_succ, List.set_cons_zero, List.set_cons_succ, ex_spl, ex_low, Option.toList, List.cons_append, List.nil_append, reduceIte, Int.reduceToNat, Nat.reduceDiv, Nat.reduceMod, Nat.reduceAdd, Nat.reduceMul, z_0, z_1, z_10, z_01, reduceCtorEq, ite_true, ite_false, true_and, and_true, ↓bI_01, ↓bP_01, ↓zret0, ↓zret1, z_add, z_sub, z_mul, up_1, up_2, not_true, not_false_iff, if_true, if_false, bI_T, bI_F, bP_T, bP_F, or_true, true_or, or_false, false_or, Int.reduceNeg, Int.reduceAdd, Int.reduceSub, Int.reduceMul, Int.reduceEq, Int.reduceLT, Int.reduceLE, Int.natCast_add, Int.cast_ofNat_Int]
      · have hw4 : (if A 5 (5 * t) = 1 then (4 : Int) else 1) = 1 := if_neg hw.1
        have hw3 : (if A 5 (5 * t) = 1 then (3 : Int) else 0) = 0 := if_neg hw.1
        refine q_deny hV (Int32.ofInt (-102)) (fun d w hC => ?_) (fun d w hM => ?_)
        · have hsz : w.1 21 2 = Int32.ofInt (A 0 5) := hC.2.2.2.2.2.1.2.1
          rw [ke_115 kc_0]
          simp (disch := omega) only [m_tsize tb_21, hsz, m_below, m_isFloor hV.1.1 hC.1.1, m_waysOf, hw4, bI_t, bI_f, m_dkind hV.1 hC, ev_iload, ev_aload, rx_istore, ev_push, ev_iadd, ev_imul, ev_jsr, rx_zeq_t, rx_zeq_f, rx_zne_t, rx_zne_f, ev_getf, ev_call, ev_callv, nr_i, nr_r, nr_l, nr_n, rx_iret, kb_115_0, kb_115_28, kb_115_31, kb_115_52, kb_115_76, kr_115, kf_20_0, kf_29_0, kf_0_643, kf_0_645, List.getD_cons_zero, List.getD_cons_succ, List.set_cons_zero, List.set_cons_succ, ex_spl, ex_low, Option.toList, List.cons_append, List.nil_append, reduceIte, Int.reduceToNat, Nat.reduceDiv, Nat.reduceMod, Nat.reduceAdd, Nat.reduceMul, z_0, z_1, z_10, z_01, reduceCtorEq, ite_true, ite_false, true_and, and_true, ↓bI_01, ↓bP_01, ↓zret0, ↓zret1, z_add, z_sub, z_mul, up_1, up_2, not_true, not_false_iff, if_true, if_false, bI_T, bI_F, bP_T, bP_F, or_true, true_or, or_false, false_or, Int.reduceNeg, Int.reduceAdd, Int.reduceSub, Int.reduceMul, Int.reduceEq, Int.reduceLT, Int.reduceLE, Int.natCast_add, Int.cast_ofNat_Int]
        · have e1 := hM.2.2.2.1.1 t t2 t3
          rw [ke_206 kc_46]
          simp (disch := omega) only [r_isThing hV.1 hM, r_isFloor hV.1.1 hM, bI_t, bI_f, m_isWay, hw3, e1, ev_iload, ev_aload, rx_istore, ev_push, ev_iadd, ev_imul, ev_jsr, rx_zeq_t, rx_zeq_f, rx_zne_t, rx_zne_f, ev_getf, ev_iald, ev_call, ev_callv, nr_i, nr_r, nr_l, nr_n, kA_47, kA_48, kA_49, kA_50, kA_51, kA_52, kA_53, kA_54, kA_55, kA_56, kA_57, kA_58, kA_59, kA_60, kA_61, kA_63, kA_64, kA_65, kA_66, kA_67, kA_68, kA_69, kA_70, rx_iret, kb_206_0, kb_206_16, kb_206_19, kb_206_35, kb_206_89, kr_206, kf_46_718, kf_46_719, kf_46_720, List.getD_cons_zero, List.getD_cons_succ, List.set_cons_zero, List.set_cons_succ, ex_spl, ex_low, Option.toList, List.cons_append, List.nil_append, reduceIte, Int.reduceToNat, Nat.reduceDiv, Nat.reduceMod, Nat.reduceAdd, Nat.reduceMul, z_0, z_1, z_10, z_01, reduceCtorEq, ite_true, ite_false, true_and, and_true, ↓bI_01, ↓bP_01, ↓zret0, ↓zret1, z_add, z_sub, z_mul, up_1, up_2, not_true, not_false_iff, if_true, if_false, bI_T, bI_F, bP_T, bP_F, or_true, true_or, or_false, false_or, Int.reduceNeg, Int.reduceAdd, Int.reduceSub, Int.reduceMul, Int.reduceEq, Int.reduceLT, Int.reduceLE, Int.natCast_add, Int.cast_ofNat_Int]
    · refine q_deny hV (Int32.ofInt (-101)) (fun d w hC => ?_) (fun d w hM => ?_)
      · have hsz : w.1 21 2 = Int32.ofInt (A 0 5) := hC.2.2.2.2.2.1.2.1
        rw [ke_115 kc_0]
        simp (disch := omega) only [m_tsize tb_21, hsz, m_below, m_isFloor hV.1.1 hC.1.1, bI_t, bI_f, ev_iload, ev_aload, rx_istore, ev_push, ev_iadd, ev_imul, ev_jsr, rx_zeq_t, rx_zeq_f, rx_zne_t, rx_zne_f, ev_getf, ev_call, ev_callv, nr_i, nr_r, nr_l, nr_n, rx_iret, kb_115_0, kb_115_28, kb_115_31, kb_115_52, kb_115_76, kr_115, kf_20_0, kf_29_0, kf_0_643, kf_0_645, List.getD_cons_zero, List.getD_cons_succ, List.set_cons_zero, List.set_cons_succ, ex_spl, ex_low, Option.toList, List.cons_append, List.nil_append, reduceIte, Int.reduceToNat, Nat.reduceDiv, Nat.reduceMod, Nat.reduceAdd, Nat.reduceMul, z_0, z_1, z_10, z_01, reduceCtorEq, ite_true, ite_false, true_and, and_true, ↓bI_01, ↓bP_01, ↓zret0, ↓zret1, z_add, z_sub, z_mul, up_1, up_2, not_true, not_false_iff, if_true, if_false, bI_T, bI_F, bP_T, bP_F, or_true, true_or, or_false, false_or, Int.reduceNeg, Int.reduceAdd, Int.reduceSub, Int.reduceMul, Int.reduceEq, Int.reduceLT, Int.reduceLE, Int.natCast_add, Int.cast_ofNat_Int]
      · rw [ke_206 kc_46]
        simp (disch := omega) only [r_isThing hV.1 hM, r_isFloor hV.1.1 hM, bI_t, bI_f, ev_iload, ev_aload, rx_istore, ev_push, ev_iadd, ev_imul, ev_jsr, rx_zeq_t, rx_zeq_f, rx_zne_t, rx_zne_f, ev_getf, ev_iald, ev_call, ev_callv, nr_i, nr_r, nr_l, nr_n, kA_47, kA_48, kA_49, kA_50, kA_51, kA_52, kA_53, kA_54, kA_55, kA_56, kA_57, kA_58, kA_59, kA_60, kA_61, kA_63, kA_64, kA_65, kA_66, kA_67, kA_68, kA_69, kA_70, rx_iret, kb_206_0, kb_206_16, kb_206_19, kb_206_35, kb_206_89, kr_206, kf_46_718, kf_46_719, kf_46_720, List.getD_cons_zero, List.getD_cons_succ, List.set_cons_zero, List.set_cons_succ, ex_spl, ex_low, Option.toList, List.cons_append, List.nil_append, reduceIte, Int.reduceToNat, Nat.reduceDiv, Nat.reduceMod, Nat.reduceAdd, Nat.reduceMul, z_0, z_1, z_10, z_01, reduceCtorEq, ite_true, ite_false, true_and, and_true, ↓bI_01, ↓bP_01, ↓zret0, ↓zret1, z_add, z_sub, z_mul, up_1, up_2, not_true, not_false_iff, if_true, if_false, bI_T, bI_F, bP_T, bP_F, or_true, true_or, or_false, false_or, Int.reduceNeg, Int.reduceAdd, Int.reduceSub, Int.reduceMul, Int.reduceEq, Int.reduceLT, Int.reduceLE, Int.natCast_add, Int.cast_ofNat_Int]
  · refine q_deny hV (Int32.ofInt (-101)) (fun d w hC => ?_) (fun d w hM => ?_)
    · have hsz : w.1 21 2 = Int32.ofInt (A 0 5) := hC.2.2.2.2.2.1.2.1
      rw [ke_115 kc_0]
      simp (disch := omega) only [m_tsize tb_21, hsz, m_below, m_isFloor hV.1.1 hC.1.1, bI_t, bI_f, ev_iload, ev_aload, rx_istore, ev_push, ev_iadd, ev_imul, ev_jsr, rx_zeq_t, rx_zeq_f, rx_zne_t, rx_zne_f, ev_getf, ev_call, ev_callv, nr_i, nr_r, nr_l, nr_n, rx_iret, kb_115_0, kb_115_28, kb_115_31, kb_115_52, kb_115_76, kr_115, kf_20_0, kf_29_0, kf_0_643, kf_0_645, List.getD_cons_zero, List.getD_cons_succ, List.set_cons_zero, List.set_cons_succ, ex_spl, ex_low, Option.toList, List.cons_append, List.nil_append, reduceIte, Int.reduceToNat, Nat.reduceDiv, Nat.reduceMod, Nat.reduceAdd, Nat.reduceMul, z_0, z_1, z_10, z_01, reduceCtorEq, ite_true, ite_false, true_and, and_true, ↓bI_01, ↓bP_01, ↓zret0, ↓zret1, z_add, z_sub, z_mul, up_1, up_2, not_true, not_false_iff, if_true, if_false, bI_T, bI_F, bP_T, bP_F, or_true, true_or, or_false, false_or, Int.reduceNeg, Int.reduceAdd, Int.reduceSub, Int.reduceMul, Int.reduceEq, Int.reduceLT, Int.reduceLE, Int.natCast_add, Int.cast_ofNat_Int]
    · rw [ke_206 kc_46]
      simp (disch := omega) only [r_isThing hV.1 hM, r_isFloor hV.1.1 hM, bI_t, bI_f, ev_iload, ev_aload, rx_istore, ev_push, ev_iadd, ev_imul, ev_jsr, rx_zeq_t, rx_zeq_f, rx_zne_t, rx_zne_f, ev_getf, ev_iald, ev_call, ev_callv, nr_i, nr_r, nr_l, nr_n, kA_47, kA_48, kA_49, kA_50, kA_51, kA_52, kA_53, kA_54, kA_55, kA_56, kA_57, kA_58, kA_59, kA_60, kA_61, kA_63, kA_64, kA_65, kA_66, kA_67, kA_68, kA_69, kA_70, rx_iret, kb_206_0, kb_206_16, kb_206_19, kb_206_35, kb_206_89, kr_206, kf_46_718, kf_46_719, kf_46_720, List.getD_cons_zero, List.getD_cons_succ, List.set_cons_zero, List.set_cons_succ, ex_spl, ex_low, Option.toList, List.cons_append, List.nil_append, reduceIte, Int.reduceToNat, Nat.reduceDiv, Nat.reduceMod, Nat.reduceAdd, Nat.reduceMul, z_0, z_1, z_10, z_01, reduceCtorEq, ite_true, ite_false, true_and, and_true, ↓bI_01, ↓bP_01, ↓zret0, ↓zret1, z_add, z_sub, z_mul, up_1, up_2, not_true, not_false_iff, if_true, if_false, bI_T, bI_F, bP_T, bP_F, or_true, true_or, or_false, false_or, Int.reduceNeg, Int.reduceAdd, Int.reduceSub, Int.reduceMul, Int.reduceEq, Int.reduceLT, Int.reduceLE, Int.natCast_add, Int.cast_ofNat_Int]
