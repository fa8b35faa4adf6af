/-! what changes the day: a new row -/
theorem up_n {w : PW} {o k o' k' : Nat} {x : Int32} (h : ¬ (o' = o ∧ k' = k)) : (ex_up w o k x).1 o' k' = w.1 o' k' := by rw [up_1, if_neg h]
theorem up_e {w : PW} {o k o' k' : Nat} {x : Int32} (h : o' = o ∧ k' = k) : (ex_up w o k x).1 o' k' = x := by rw [up_1, if_pos h]
/-- a row more at the end of table s, counted at j -/
def q_ad (A : AS) (j : Int) (s : Nat) (a b c d e : Int) : AS := fun x y => if x = 0 ∧ y = j then A 0 j + 1 else if x = s ∧ 5 * A 0 j ≤ y ∧ y < 5 * A 0 j + 5 then (if y = 5 * A 0 j then a else if y = 5 * A 0 j + 1 then b else if y = 5 * A 0 j + 2 then c else if y = 5 * A 0 j + 3 then d else e) else A x y
theorem q_ad_n {A : AS} {j : Int} {s : Nat} {a b c d e : Int} : q_ad A j s a b c d e 0 j = A 0 j + 1 := if_pos ⟨rfl, rfl⟩
theorem q_ad_o {A : AS} {j : Int} {s : Nat} {a b c d e y : Int} (hs : ¬ s = 0) (hy : y < 5 * A 0 j) : q_ad A j s a b c d e s y = A s y := by
  unfold q_ad
  rw [if_neg (fun h => hs h.1), if_neg (by omega)]
theorem q_ad_r {A : AS} {j : Int} {s : Nat} {a b c d e : Int} (hs : ¬ s = 0) : q_ad A j s a b c d e s (5 * A 0 j) = a ∧ q_ad A j s a b c d e s (5 * A 0 j + 1) = b ∧ q_ad A j s a b c d e s (5 * A 0 j + 2) = c ∧ q_ad A j s a b c d e s (5 * A 0 j + 3) = d ∧ q_ad A j s a b c d e s (5 * A 0 j + 4) = e := by
  unfold q_ad
  refine ⟨?_, ?_, ?_, ?_, ?_⟩ <;> rw [if_neg (fun h => hs h.1), if_pos (by omega)] <;> (repeat rw [if_neg (by omega)]) <;> first | rfl | rw [if_pos (by omega)]
theorem rCt_ad {A : AS} {w : PW} {o s : Nat} {j m a b c d e : Int} (h : rCt A w o j m s) (hs : ¬ s = 0) (h0 : 0 ≤ A 0 j) : rCt (q_ad A j s a b c d e) (q_add w o (A 0 j) (Int32.ofInt a) (Int32.ofInt b) (Int32.ofInt c) (Int32.ofInt d) (Int32.ofInt e)) o j m s := by
  obtain ⟨h1, h2, h3⟩ := h
  obtain ⟨r0, r1, r2, r3, r4⟩ := q_ad_r (A := A) (j := j) (s := s) (a := a) (b := b) (c := c) (d := d) (e := e) hs
  unfold q_add
  refine ⟨?_, ?_, fun k k0 k1 => ?_⟩
  · rw [up_n (by omega), up_n (by omega), up_n (by omega), up_n (by omega), up_n (by omega), up_n (by omega)]; exact h1
  · rw [up_n (by omega), up_n (by omega), up_n (by omega), up_n (by omega), up_n (by omega), up_e (by omega), q_ad_n]
  · rw [q_ad_n] at k1
    by_cases k2 : k < 5 * A 0 j
    · rw [up_n (by omega), up_n (by omega), up_n (by omega), up_n (by omega), up_n (by omega), up_n (by omega), q_ad_o hs k2]
      exact h3 k k0 k2
    · have hk : k = 5 * A 0 j ∨ k = 5 * A 0 j + 1 ∨ k = 5 * A 0 j + 2 ∨ k = 5 * A 0 j + 3 ∨ k = 5 * A 0 j + 4 := by omega
      rcases hk with hk | hk | hk | hk | hk
      · rw [hk, r0, up_n (by omega), up_n (by omega), up_n (by omega), up_n (by omega), up_e (by omega)]
      · rw [hk, r1, up_n (by omega), up_n (by omega), up_n (by omega), up_e (by omega)]
      · rw [hk, r2, up_n (by omega), up_n (by omega), up_e (by omega)]
      · rw [hk, r3, up_n (by omega), up_e (by omega)]
      · rw [hk, r4, up_e (by omega)]
theorem fC_r (w : PW) : fC w w := fun _ _ _ => rfl
theorem fC_u {w w' : PW} {o k : Nat} {x : Int32} (h : fC w w') (ho : o < 46) : fC w (ex_up w' o k x) := fun a k' ha => by rw [up_n (by omega)]; exact h a k' ha
theorem fM_r (w : PW) : fM w w := fun _ _ _ => rfl
theorem fM_u {w w' : PW} {o k : Nat} {x : Int32} (h : fM w w') (ho : 46 ≤ o) : fM w (ex_up w' o k x) := fun a k' ha => by rw [up_n (by omega)]; exact h a k' ha
theorem fC_ad {w : PW} {o : Nat} {n : Int} {a b c d e : Int32} (ho : o < 45) : fC w (q_add w o n a b c d e) := fC_u (fC_u (fC_u (fC_u (fC_u (fC_u (fC_r w) (by omega)) (by omega)) (by omega)) (by omega)) (by omega)) (by omega)
theorem q_deny {A : AS} {yc ym : Nat} {as : List Value} (hV : q_V A) (r : Int32) (hc : ∀ d w, rC A w → ex_cal (d + 16) yc (.ref 0 :: as) w = some (some (.int r), w)) (hm : ∀ d w, rN A 0 w → ex_cal (d + 16) ym (.ref 46 :: as) w = some (some (.int r), w)) : q_both A yc ym as := q_ask hV (.int r) (fun d w hC => ⟨w, hc d w hC, sC_r w⟩) (fun d w hM => ⟨w, hm d w hM, sM_r w⟩)
theorem q_op_n {A : AS} {c : Int} : q_op A c = q_op (q_hn A) c := rfl
theorem g_event {A : AS} (hV : q_V A) {h a p c v : Int} (h0 : -2147483648 ≤ h) (h1 : h < 2147483648) (a0 : -2147483648 ≤ a) (a1 : a < 2147483648) (p0 : -2147483648 ≤ p) (p1 : p < 2147483648) (c0 : -2147483648 ≤ c) (c1 : c < 2147483648) (v0 : -2147483648 ≤ v) (v1 : v < 2147483648) : q_both A 109 189 [.int (Int32.ofInt h), .int (Int32.ofInt a), .int (Int32.ofInt p), .int (Int32.ofInt c), .int (Int32.ofInt v)] := by
  have hr := q_rng hV.1
  by_cases hc : q_op A c
  · by_cases hA : (0 ≤ a ∧ a < 6) ∧ (0 ≤ h ∧ h < 24)
    · by_cases hP : 0 ≤ p ∧ p < 3
      · by_cases hv : 0 ≤ v ∧ v < 4
        · by_cases hn : A 0 4 < 12
          · obtain ⟨⟨v1', v2, v3, v4, v5, v6, v7, v8, v9, v10⟩, vd, vi⟩ := id hV
            have hve : q_ve (q_ad A 4 4 h a p c v) 4 4 := by
              obtain ⟨e1, e2, e3⟩ := v5
              obtain ⟨r0, r1, r2, r3, r4⟩ := q_ad_r (A := A) (j := 4) (s := 4) (a := h) (b := a) (c := p) (d := c) (e := v) (by omega)
              refine ⟨by rw [q_ad_n]; omega, by rw [q_ad_n]; omega, fun t t0 t1 => ?_⟩
              rw [q_ad_n] at t1
              by_cases ht : t < A 0 4
              · rw [q_ad_o (by omega) (by omega), q_ad_o (by omega) (by omega), q_ad_o (by omega) (by omega), q_ad_o (by omega) (by omega), q_ad_o (by omega) (by omega)]
                exact e3 t t0 ht
              · have : t = A 0 4 := by omega
                subst this
                rw [r0, r1, r2, r3, r4]
                exact ⟨hA.2.1, by omega, hA.1.1, by omega, hP.1, by omega, hc, hv.1, by omega⟩
            refine ⟨.int (Int32.ofInt (A 0 4)), q_ad A 4 4 h a p c v, ⟨⟨v1', v2, v3, v4, hve, v6, v7, v8, v9, v10⟩, vd, vi⟩, fun d w hC => ?_, fun d w hM => ?_, by show A 0 2 ≤ A 0 2 + 1; omega⟩
            · have hC' := hC
              obtain ⟨⟨⟨⟨h511, h512, h513⟩, ⟨hk, hro, hco, hli⟩⟩, ⟨hbe, hah, hbs, hos⟩⟩, hdo, ⟨h010, h011, h09, h11⟩, hpc, ht18, ht21, ht23, ht25, ht27, ht30, ht32, ht34, ht36⟩ := id hC
              refine ⟨q_add w 23 (A 0 4) (Int32.ofInt h) (Int32.ofInt a) (Int32.ofInt p) (Int32.ofInt c) (Int32.ofInt v), ?_, ⟨hC.1, hC.2.1, hC.2.2.1, hC.2.2.2.1, ht18, ht21, rCt_ad ht23 (by omega) (by omega), ht25, ht27, ht30, ht32, ht34, ht36⟩, fC_ad (by omega)⟩
              rw [ke_109 kc_0]
              simp (disch := omega) only [m_isOpen hV.1.1 hC'.1.1, m_isDoing, m_below, bI_t, bI_f, m_tfull tb_23 ht23.2.1 ht23.1, m_tadd tb_23 ht23.2.1 ht23.1, ev_iload, ev_aload, ev_push, ev_jsr, rx_zeq_t, rx_zeq_f, rx_zne_t, rx_zne_f, ev_getf, ev_call, ev_callv, nr_i, nr_r, nr_l, nr_n, rx_iret, kb_109_0, kb_109_15, kb_109_33, kb_109_36, kb_109_52, kr_109, kf_20_1, kf_29_1, kf_0_643, kf_0_645, List.getD_cons_zero, List.getD_cons_succ, List.set_cons_zero, List.set_cons_succ, ex_spl, ex_low, Option.toList, List.cons_append, List.nil_append, reduceIte, Int.reduceToNat, Nat.reduceDiv, Nat.reduceMod, Nat.reduceAdd, Nat.reduceMul, z_0, z_1, z_10, z_01, reduceCtorEq, ite_true, ite_false, true_and, and_true, ↓bI_01, ↓bP_01, ↓zret0, ↓zret1, z_add, z_sub, z_mul, up_1, up_2, not_true, not_false_iff, if_true, if_false, bI_T, bI_F, bP_T, bP_F, or_true, true_or, or_false, false_or, Int.reduceNeg, Int.reduceAdd, Int.reduceSub, Int.reduceMul, Int.reduceEq, Int.reduceLT, Int.reduceLE, Int.natCast_add, Int.cast_ofNat_Int]
            · have hM' := hM
              obtain ⟨hM, hMk⟩ := hM
              have hMM := hM
              obtain ⟨⟨g0, g1, g2, g5, g11, g13, g17, g20, g23, g24, g49⟩, ⟨gk, gl⟩, ⟨gs, ga, gf, gt, gn⟩, ⟨gtk, gtc, gtw⟩, ge, ⟨gba, gbh⟩, ⟨gjc, gjs⟩, gp⟩ := id hM
              refine ⟨ex_up (ex_up (ex_up (ex_up (ex_up (ex_up w 54 (5 * A 0 4).toNat (Int32.ofInt h)) 54 (5 * A 0 4 + 1).toNat (Int32.ofInt a)) 54 (5 * A 0 4 + 2).toNat (Int32.ofInt p)) 54 (5 * A 0 4 + 3).toNat (Int32.ofInt c)) 54 (5 * A 0 4 + 4).toNat (Int32.ofInt v)) 46 11 (Int32.ofInt (A 0 4 + 1)), ?_, ⟨⟨⟨g0, g1, g2, g5, up_s, g13, g17, g20, g23, g24, g49⟩, ⟨gk, gl⟩, ⟨gs, ga, gf, gt, gn⟩, ⟨gtk, gtc, gtw⟩, fun k k0 k1 => ?_, ⟨gba, gbh⟩, ⟨gjc, gjs⟩, gp⟩, hMk⟩, fM_u (fM_u (fM_u (fM_u (fM_u (fM_u (fM_r w) (by omega)) (by omega)) (by omega)) (by omega)) (by omega)) (by omega)⟩
              · have e1 : A 0 4 + 1 - 1 = A 0 4 := by omega
                rw [ke_189 kc_46]
                simp (disch := omega) only [r_isOpen hV.1.1 hMM, m_isAct, m_isPosture, bI_t, bI_f, g11, up_n, up_e, e1, ev_iload, ev_aload, ev_push, ev_iadd, ev_isub, ev_imul, ev_dup_r, ev_dup_i, ev_jsr, rx_ine_t, rx_ine_f, rx_zeq_t, rx_zeq_f, rx_zne_t, rx_zne_f, ev_getf, ev_putf, ev_putl, ev_call, ev_callv, nr_i, nr_r, nr_l, nr_n, kS_47, kS_48, kS_49, kS_50, kS_51, kS_52, kS_53, kS_54, kS_55, kS_56, kS_57, kS_58, kS_59, kS_60, kS_61, kS_63, kS_64, kS_65, kS_66, kS_67, kS_68, kS_69, kS_70, rx_iret, kb_189_0, kb_189_12, kb_189_29, kb_189_32, kb_189_44, kr_189, kf_46_715, kf_46_716, kk_46_715, List.getD_cons_zero, List.getD_cons_succ, List.set_cons_zero, List.set_cons_succ, ex_spl, ex_low, Option.toList, List.cons_append, List.nil_append, reduceIte, Int.reduceToNat, Nat.reduceDiv, Nat.reduceMod, Nat.reduceAdd, Nat.reduceMul, z_0, z_1, z_10, z_01, reduceCtorEq, ite_true, ite_false, true_and, and_true, ↓bI_01, ↓bP_01, ↓zret0, ↓zret1, z_add, z_sub, z_mul, up_2, not_true, not_false_iff, if_true, if_false, bI_T, bI_F, bP_T, bP_F, or_true, true_or, or_false, false_or, Int.reduceNeg, Int.reduceAdd, Int.reduceSub, Int.reduceMul, Int.reduceEq, Int.reduceLT, Int.reduceLE, Int.natCast_add, Int.cast_ofNat_Int]
              · obtain ⟨r0, r1, r2, r3, r4⟩ := q_ad_r (A := A) (j := 4) (s := 4) (a := h) (b := a) (c := p) (d := c) (e := v) (by omega)
                rw [q_ad_n] at k1
                by_cases k2 : k < 5 * A 0 4
                · rw [up_n (by omega), up_n (by omega), up_n (by omega), up_n (by omega), up_n (by omega), up_n (by omega), q_ad_o (by omega) k2]
                  exact ge k k0 k2
                · have hk : k = 5 * A 0 4 ∨ k = 5 * A 0 4 + 1 ∨ k = 5 * A 0 4 + 2 ∨ k = 5 * A 0 4 + 3 ∨ k = 5 * A 0 4 + 4 := by omega
                  rw [up_n (by omega)]
                  rcases hk with hk | hk | hk | hk | hk
                  · rw [hk, r0, up_n (by omega), up_n (by omega), up_n (by omega), up_n (by omega), up_e (by omega)]
                  · rw [hk, r1, up_n (by omega), up_n (by omega), up_n (by omega), up_e (by omega)]
                  · rw [hk, r2, up_n (by omega), up_n (by omega), up_e (by omega)]
                  · rw [hk, r3, up_n (by omega), up_e (by omega)]
                  · rw [hk, r4, up_e (by omega)]
          · refine q_deny hV (Int32.ofInt (-104)) (fun d w hC => ?_) (fun d w hM => ?_)
            · obtain ⟨-, -, -, -, -, -, ht23, -⟩ := id hC
              rw [ke_109 kc_0]
              simp (disch := omega) only [m_isOpen hV.1.1 hC.1.1, m_isDoing, m_below, bI_t, bI_f, m_tfull tb_23 ht23.2.1 ht23.1, ev_iload, ev_aload, ev_push, ev_jsr, rx_zeq_t, rx_zeq_f, rx_zne_t, rx_zne_f, ev_getf, ev_call, ev_callv, nr_i, nr_r, nr_l, nr_n, rx_iret, kb_109_0, kb_109_15, kb_109_33, kb_109_36, kb_109_52, kr_109, kf_20_1, kf_29_1, kf_0_643, kf_0_645, List.getD_cons_zero, List.getD_cons_succ, List.set_cons_zero, List.set_cons_succ, ex_spl, ex_low, Option.toList, List.cons_append, List.nil_append, reduceIte, Int.reduceToNat, Nat.reduceDiv, Nat.reduceMod, Nat.reduceAdd, Nat.reduceMul, z_0, z_1, z_10, z_01, reduceCtorEq, ite_true, ite_false, true_and, and_true, ↓bI_01, ↓bP_01, ↓zret0, ↓zret1, z_add, z_sub, z_mul, up_1, up_2, not_true, not_false_iff, if_true, if_false, bI_T, bI_F, bP_T, bP_F, or_true, true_or, or_false, false_or, Int.reduceNeg, Int.reduceAdd, Int.reduceSub, Int.reduceMul, Int.reduceEq, Int.reduceLT, Int.reduceLE, Int.natCast_add, Int.cast_ofNat_Int]
            · have g11 := hM.1.2.2.2.2.1
              rw [ke_189 kc_46]
              simp (disch := omega) only [r_isOpen hV.1.1 hM, m_isAct, m_isPosture, bI_t, bI_f, g11, ev_iload, ev_aload, ev_push, ev_iadd, ev_isub, ev_imul, ev_dup_r, ev_dup_i, ev_jsr, rx_ine_t, rx_ine_f, rx_zeq_t, rx_zeq_f, rx_zne_t, rx_zne_f, ev_getf, ev_putf, ev_putl, ev_call, ev_callv, nr_i, nr_r, nr_l, nr_n, kS_47, kS_48, kS_49, kS_50, kS_51, kS_52, kS_53, kS_54, kS_55, kS_56, kS_57, kS_58, kS_59, kS_60, kS_61, kS_63, kS_64, kS_65, kS_66, kS_67, kS_68, kS_69, kS_70, rx_iret, kb_189_0, kb_189_12, kb_189_29, kb_189_32, kb_189_44, kr_189, kf_46_715, kf_46_716, kk_46_715, List.getD_cons_zero, List.getD_cons_succ, List.set_cons_zero, List.set_cons_succ, ex_spl, ex_low, Option.toList, List.cons_append, List.nil_append, reduceIte, Int.reduceToNat, Nat.reduceDiv, Nat.reduceMod, Nat.reduceAdd, Nat.reduceMul, z_0, z_1, z_10, z_01, reduceCtorEq, ite_true, ite_false, true_and, and_true, ↓bI_01, ↓bP_01, ↓zret0, ↓zret1, z_add, z_sub, z_mul, up_1, up_2, not_true, not_false_iff, if_true, if_false, bI_T, bI_F, bP_T, bP_F, or_true, true_or, or_false, false_or, Int.reduceNeg, Int.reduceAdd, Int.reduceSub, Int.reduceMul, Int.reduceEq, Int.reduceLT, Int.reduceLE, Int.natCast_add, Int.cast_ofNat_Int]
        · refine q_deny hV (Int32.ofInt (-102)) (fun d w hC => ?_) (fun d w hM => ?_)
          · rw [ke_109 kc_0]
            simp (disch := omega) only [m_isOpen hV.1.1 hC.1.1, m_isDoing, m_below, bI_t, bI_f, ev_iload, ev_aload, ev_push, ev_jsr, rx_zeq_t, rx_zeq_f, rx_zne_t, rx_zne_f, ev_getf, ev_call, ev_callv, nr_i, nr_r, nr_l, nr_n, rx_iret, kb_109_0, kb_109_15, kb_109_33, kb_109_36, kb_109_52, kr_109, kf_20_1, kf_29_1, kf_0_643, kf_0_645, List.getD_cons_zero, List.getD_cons_succ, List.set_cons_zero, List.set_cons_succ, ex_spl, ex_low, Option.toList, List.cons_append, List.nil_append, reduceIte, Int.reduceToNat, Nat.reduceDiv, Nat.reduceMod, Nat.reduceAdd, Nat.reduceMul, z_0, z_1, z_10, z_01, reduceCtorEq, ite_true, ite_false, true_and, and_true, ↓bI_01, ↓bP_01, ↓zret0, ↓zret1, z_add, z_sub, z_mul, up_1, up_2, not_true, not_false_iff, if_true, if_false, bI_T, bI_F, bP_T, bP_F, or_true, true_or, or_false, false_or, Int.reduceNeg, Int.reduceAdd, Int.reduceSub, Int.reduceMul, Int.reduceEq, Int.reduceLT, Int.reduceLE, Int.natCast_add, Int.cast_ofNat_Int]
          · rw [ke_189 kc_46]
            simp (disch := omega) only [r_isOpen hV.1.1 hM, m_isAct, m_isPosture, bI_t, bI_f, ev_iload, ev_aload, ev_push, ev_iadd, ev_isub, ev_imul, ev_dup_r, ev_dup_i, ev_jsr, rx_ine_t, rx_ine_f, rx_zeq_t, rx_zeq_f, rx_zne_t, rx_zne_f, ev_getf, ev_putf, ev_putl, ev_call, ev_callv, nr_i, nr_r, nr_l, nr_n, kS_47, kS_48, kS_49, kS_50, kS_51, kS_52, kS_53, kS_54, kS_55, kS_56, kS_57, kS_58, kS_59, kS_60, kS_61, kS_63, kS_64, kS_65, kS_66, kS_67, kS_68, kS_69, kS_70, rx_iret, kb_189_0, kb_189_12, kb_189_29, kb_189_32, kb_189_44, kr_189, kf_46_715, kf_46_716, kk_46_715, List.getD_cons_zero, List.getD_cons_succ, List.set_cons_zero, List.set_cons_succ, ex_spl, ex_low, Option.toList, List.cons_append, List.nil_append, reduceIte, Int.reduceToNat, Nat.reduceDiv, Nat.reduceMod, Nat.reduceAdd, Nat.reduceMul, z_0, z_1, z_10, z_01, reduceCtorEq, ite_true, ite_false, true_and, and_true, ↓bI_01, ↓bP_01, ↓zret0, ↓zret1, z_add, z_sub, z_mul, up_1, up_2, not_true, not_false_iff, if_true, if_false, bI_T, bI_F, bP_T, bP_F, or_true, true_or, or_false, false_or, Int.reduceNeg, Int.reduceAdd, Int.reduceSub, Int.reduceMul, Int.reduceEq, Int.reduceLT, Int.reduceLE, Int.natCast_add, Int.cast_ofNat_Int]
      · refine q_deny hV (Int32.ofInt (-102)) (fun d w hC => ?_) (fun d w hM => ?_)
        · rw [ke_109 kc_0]
          simp (disch := omega) only [m_isOpen hV.1.1 hC.1.1, m_isDoing, m_below, bI_t, bI_f, ev_iload, ev_aload, ev_push, ev_jsr, rx_zeq_t, rx_zeq_f, rx_zne_t, rx_zne_f, ev_getf, ev_call, ev_callv, nr_i, nr_r, nr_l, nr_n, rx_iret, kb_109_0, kb_109_15, kb_109_33, kb_109_36, kb_109_52, kr_109, kf_20_1, kf_29_1, kf_0_643, kf_0_645, List.getD_cons_zero, List.getD_cons_succ, List.set_cons_zero, List.set_cons_succ, ex_spl, ex_low, Option.toList, List.cons_append, List.nil_append, reduceIte, Int.reduceToNat, Nat.reduceDiv, Nat.reduceMod, Nat.reduceAdd, Nat.reduceMul, z_0, z_1, z_10, z_01, reduceCtorEq, ite_true, ite_false, true_and, and_true, ↓bI_01, ↓bP_01, ↓zret0, ↓zret1, z_add, z_sub, z_mul, up_1, up_2, not_true, not_false_iff, if_true, if_false, bI_T, bI_F, bP_T, bP_F, or_true, true_or, or_false, false_or, Int.reduceNeg, Int.reduceAdd, Int.reduceSub, Int.reduceMul, Int.reduceEq, Int.reduceLT, Int.reduceLE, Int.natCast_add, Int.cast_ofNat_Int]
        · rw [ke_189 kc_46]
          simp (disch := omega) only [r_isOpen hV.1.1 hM, m_isAct, m_isPosture, bI_t, bI_f, ev_iload, ev_aload, ev_push, ev_iadd, ev_isub, ev_imul, ev_dup_r, ev_dup_i, ev_jsr, rx_ine_t, rx_ine_f, rx_zeq_t, rx_zeq_f, rx_zne_t, rx_zne_f, ev_getf, ev_putf, ev_putl, ev_call, ev_callv, nr_i, nr_r, nr_l, nr_n, kS_47, kS_48, kS_49, kS_50, kS_51, kS_52, kS_53, kS_54, kS_55, kS_56, kS_57, kS_58, kS_59, kS_60, kS_61, kS_63, kS_64, kS_65, kS_66, kS_67, kS_68, kS_69, kS_70, rx_iret, kb_189_0, kb_189_12, kb_189_29, kb_189_32, kb_189_44, kr_189, kf_46_715, kf_46_716, kk_46_715, List.getD_cons_zero, List.getD_cons_succ, List.set_cons_zero, List.set_cons_succ, ex_spl, ex_low, Option.toList, List.cons_append, List.nil_append, reduceIte, Int.reduceToNat, Nat.reduceDiv, Nat.reduceMod, Nat.reduceAdd, Nat.reduceMul, z_0, z_1, z_10, z_01, reduceCtorEq, ite_true, ite_false, true_and, and_true, ↓bI_01, ↓bP_01, ↓zret0, ↓zret1, z_add, z_sub, z_mul, up_1, up_2, not_true, not_false_iff, if_true, if_false, bI_T, bI_F, bP_T, bP_F, or_true, true_or, or_false, false_or, Int.reduceNeg, Int.reduceAdd, Int.reduceSub, Int.reduceMul, Int.reduceEq, Int.reduceLT, Int.reduceLE, Int.natCast_add, Int.cast_ofNat_Int]
    · refine q_deny hV (Int32.ofInt (-102)) (fun d w hC => ?_) (fun d w hM => ?_)
      · rw [ke_109 kc_0]
        simp (disch := omega) only [m_isOpen hV.1.1 hC.1.1, m_isDoing, m_below, bI_t, bI_f, ev_iload, ev_aload, ev_push, ev_jsr, rx_zeq_t, rx_zeq_f, rx_zne_t, rx_zne_f, ev_getf, ev_call, ev_callv, nr_i, nr_r, nr_l, nr_n, rx_iret, kb_109_0, kb_109_15, kb_109_33, kb_109_36, kb_109_52, kr_109, kf_20_1, kf_29_1, kf_0_643, kf_0_645, List.getD_cons_zero, List.getD_cons_succ, List.set_cons_zero, List.set_cons_succ, ex_spl, ex_low, Option.toList, List.cons_append, List.nil_append, reduceIte, Int.reduceToNat, Nat.reduceDiv, Nat.reduceMod, Nat.reduceAdd, Nat.reduceMul, z_0, z_1, z_10, z_01, reduceCtorEq, ite_true, ite_false, true_and, and_true, ↓bI_01, ↓bP_01, ↓zret0, ↓zret1, z_add, z_sub, z_mul, up_1, up_2, not_true, not_false_iff, if_true, if_false, bI_T, bI_F, bP_T, bP_F, or_true, true_or, or_false, false_or, Int.reduceNeg, Int.reduceAdd, Int.reduceSub, Int.reduceMul, Int.reduceEq, Int.reduceLT, Int.reduceLE, Int.natCast_add, Int.cast_ofNat_Int]
      · rw [ke_189 kc_46]
        simp (disch := omega) only [r_isOpen hV.1.1 hM, m_isAct, m_isPosture, bI_t, bI_f, ev_iload, ev_aload, ev_push, ev_iadd, ev_isub, ev_imul, ev_dup_r, ev_dup_i, ev_jsr, rx_ine_t, rx_ine_f, rx_zeq_t, rx_zeq_f, rx_zne_t, rx_zne_f, ev_getf, ev_putf, ev_putl, ev_call, ev_callv, nr_i, nr_r, nr_l, nr_n, kS_47, kS_48, kS_49, kS_50, kS_51, kS_52, kS_53, kS_54, kS_55, kS_56, kS_57, kS_58, kS_59, kS_60, kS_61, kS_63, kS_64, kS_65, kS_66, kS_67, kS_68, kS_69, kS_70, rx_iret, kb_189_0, kb_189_12, kb_189_29, kb_189_32, kb_189_44, kr_189, kf_46_715, kf_46_716, kk_46_715, List.getD_cons_zero, List.getD_cons_succ, List.set_cons_zero, List.set_cons_succ, ex_spl, ex_low, Option.toList, List.cons_append, List.nil_append, reduceIte, Int.reduceToNat, Nat.reduceDiv, Nat.reduceMod, Nat.reduceAdd, Nat.reduceMul, z_0, z_1, z_10, z_01, reduceCtorEq, ite_true, ite_false, true_and, and_true, ↓bI_01, ↓bP_01, ↓zret0, ↓zret1, z_add, z_sub, z_mul, up_1, up_2, not_true, not_false_iff, if_true, if_false, bI_T, bI_F, bP_T, bP_F, or_true, true_or, or_false, false_or, Int.reduceNeg, Int.reduceAdd, Int.reduceSub, Int.reduceMul, Int.reduceEq, Int.reduceLT, Int.reduceLE, Int.natCast_add, Int.cast_ofNat_Int]
  · refine q_deny hV (Int32.ofInt (-101)) (fun d w hC => ?_) (fun d w hM => ?_)
    · rw [ke_109 kc_0]
      simp (disch := omega) only [m_isOpen hV.1.1 hC.1.1, bI_t, bI_f, ev_iload, ev_aload, ev_push, ev_jsr, rx_zeq_t, rx_zeq_f, rx_zne_t, rx_zne_f, ev_getf, ev_call, ev_callv, nr_i, nr_r, nr_l, nr_n, rx_iret, kb_109_0, kb_109_15, kb_109_33, kb_109_36, kb_109_52, kr_109, kf_20_1, kf_29_1, kf_0_643, kf_0_645, List.getD_cons_zero, List.getD_cons_succ, List.set_cons_zero, List.set_cons_succ, ex_spl, ex_low, Option.toList, List.cons_append, List.nil_append, reduceIte, Int.reduceToNat, Nat.reduceDiv, Nat.reduceMod, Nat.reduceAdd, Nat.reduceMul, z_0, z_1, z_10, z_01, reduceCtorEq, ite_true, ite_false, true_and, and_true, ↓bI_01, ↓bP_01, ↓zret0, ↓zret1, z_add, z_sub, z_mul, up_1, up_2, not_true, not_false_iff, if_true, if_false, bI_T, bI_F, bP_T, bP_F, or_true, true_or, or_false, false_or, Int.reduceNeg, Int.reduceAdd, Int.reduceSub, Int.reduceMul, Int.reduceEq, Int.reduceLT, Int.reduceLE, Int.natCast_add, Int.cast_ofNat_Int]
    · rw [ke_189 kc_46]
      simp (disch := omega) only [r_isOpen hV.1.1 hM, bI_t, bI_f, ev_iload, ev_aload, ev_push, ev_iadd, ev_isub, ev_imul, ev_dup_r, ev_dup_i, ev_jsr, rx_ine_t, rx_ine_f, rx_zeq_t, rx_zeq_f, rx_zne_t, rx_zne_f, ev_getf, ev_putf, ev_putl, ev_call, ev_callv, nr_i, nr_r, nr_l, nr_n, kS_47, kS_48, kS_49, kS_50, kS_51, kS_52, kS_53, kS_54, kS_55, kS_56, kS_57, kS_58, kS_59, kS_60, kS_61, kS_63, kS_64, kS_65, kS_66, kS_67, kS_68, kS_69, kS_70, rx_iret, kb_189_0, kb_189_12, kb_189_29, kb_189_32, kb_189_44, kr_189, kf_46_715, kf_46_716, kk_46_715, List.getD_cons_zero, List.getD_cons_succ, List.set_cons_zero, List.set_cons_succ, ex_spl, ex_low, Option.toList, List.cons_append, List.nil_append, reduceIte, Int.reduceToNat, Nat.reduceDiv, Nat.reduceMod, Nat.reduceAdd, Nat.reduceMul, z_0, z_1, z_10, z_01, reduceCtorEq, ite_true, ite_false, true_and, and_true, ↓bI_01, ↓bP_01, ↓zret0, ↓zret1, z_add, z_sub, z_mul, up_1, up_2, not_true, not_false_iff, if_true, if_false, bI_T, bI_F, bP_T, bP_F, or_true, true_or, or_false, false_or, Int.reduceNeg, Int.reduceAdd, Int.reduceSub, Int.reduceMul, Int.reduceEq, Int.reduceLT, Int.reduceLE, Int.natCast_add, Int.cast_ofNat_Int]
