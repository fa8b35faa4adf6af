/-! house() -/
def q_nh (A : AS) (r wd : Int) (K L : Int → Int) : AS := fun x y => if x = 0 then (if y = 0 then r + 1 else if y = 1 then wd else if y = 2 then A 0 2 + 1 else if y = 4 ∨ y = 5 ∨ y = 6 ∨ y = 7 ∨ y = 8 ∨ y = 10 then 0 else if y = 15 then (r + 1) * wd else A 0 y) else if x = 1 then K y else if x = 2 then L y else A x y
theorem q_vh_nh {A : AS} (hV : q_vh A) (hb : A 0 2 < 1000000) {r wd c l : Int} {K L : Int → Int} (hi : q_hi (r, wd, c, l, K, L)) (hw : q_hw (r, wd, c, l, K, L)) : q_vh (q_nh A r wd K L) ∧ (r + 1) * wd = r * wd + c := by
  obtain ⟨a1, a2, a3, a4, a5, a6, a7, a8, a9, a10, a11, a12, a13⟩ := hi
  obtain ⟨w1, w2, w3⟩ := hw
  have hr := q_rnh hV
  have h8 := a8 (by omega)
  have h13 := a13 w1
  have e : (r + 1) * wd = r * wd + c := by rw [Int.add_mul, Int.one_mul, w3]
  refine ⟨⟨?_, ?_, rfl, Or.inr ⟨?_, ?_, ?_, ?_, ?_⟩, fun i i0 i1 => ?_, fun i i0 i1 => ?_⟩, e⟩
  · show 0 ≤ A 0 2 + 1; omega
  · show A 0 2 + 1 ≤ 1000000; omega
  · show 2 ≤ r + 1; omega
  · show r + 1 ≤ 4; omega
  · show 2 ≤ wd; omega
  · show wd ≤ 6; omega
  · show 0 < A 0 2 + 1; omega
  · have i1 : i < (r + 1) * wd := i1
    rw [e] at i1
    exact a11 i i0 i1
  · have i1 : i < r + 1 := i1
    show 0 ≤ L i ∧ L i ≤ wd
    by_cases hir : i = r
    · rw [hir]; omega
    · exact a12 i i0 (by omega)
theorem m_read {d : Nat} {A : AS} {w : PW} (hV : q_v0 A) (hb : A 0 2 < 1000000) (h11 : w.1 1 1 = Int32.ofInt (A 0 8)) (hpc : q_ar A w 8 2 (A 0 8)) {m : Nat} {r wd c l : Int} {K L : Int → Int} (hm : p_tk q_hf q_h0 A m (r, wd, c, l, K, L)) (hmm : (m : Int) = A 0 8) (hw : q_hw (r, wd, c, l, K, L)) : ∃ w', ex_cal (d + 8) 6 [.ref 5, .ref 1] w = some (none, w') ∧ (∀ a k, ¬ (5 ≤ a ∧ a < 17) → w'.1 a k = w.1 a k) ∧ rH (q_nh A r wd K L) w' ∧ rCd (q_nh A r wd K L) w' := by
  have hr := q_rng hV
  have hend := q_hi_t hm.1
  obtain ⟨hVh, en⟩ := q_vh_nh hV.1 hb hend hw
  rw [ke_6 kc_5]
  simp (disch := omega) only [ev_iload, ev_aload, rx_istore, ev_iinc, ev_push, ev_iadd, ev_goto, ev_jsr, rx_ine_t, rx_ine_f, rx_ige_t, rx_ige_f, ev_putf, ev_callv, nr_i, nr_r, nr_l, nr_n, rx_vret, kb_6_0, kb_6_44, kb_6_60, kb_6_71, kb_6_77, kr_6, kk_5_75, kk_5_76, kk_5_77, List.getD_cons_zero, List.getD_cons_succ, List.set_cons_zero, List.set_cons_succ, ex_spl, ex_low, Option.toList, List.cons_append, List.nil_append, reduceIte, Int.reduceToNat, Nat.reduceDiv, Nat.reduceMod, Nat.reduceAdd, Nat.reduceMul, z_0, z_1, z_10, z_01, reduceCtorEq, ite_true, ite_false, true_and, and_true, ↓bI_01, ↓bP_01, ↓zret0, ↓zret1, z_add, z_sub, z_mul, up_1, up_2, not_true, not_false_iff, if_true, if_false, Bool.true_and, bI_T, bI_F, bP_T, bP_F, or_true, true_or, or_false, false_or, Int.reduceNeg, Int.reduceAdd, Int.reduceSub, Int.reduceMul, Int.reduceEq, Int.reduceLT, Int.reduceLE, Int.natCast_add, Int.cast_ofNat_Int]
  refine ex_loop (Q := fun q => ∃ w', q = some (none, w') ∧ (∀ a k, ¬ (5 ≤ a ∧ a < 17) → w'.1 a k = w.1 a k) ∧ rH (q_nh A r wd K L) w' ∧ rCd (q_nh A r wd K L) w') (fun i z => ∃ w1 s1 v5, z = (ex_blk 6 12, [.ref 5, .ref 1, .int (Int32.ofInt s1.1), .int (Int32.ofInt s1.2.2.1), .int (Int32.ofInt (i : Int)), v5], [], w1) ∧ xv v5 ∧ p_tr q_hf q_h0 A i s1 ∧ rHC w1 s1 ∧ (∀ a k, ¬ (5 ≤ a ∧ a < 10) → w1.1 a k = w.1 a k)) m ?_ ?_ ?_
  · refine ⟨_, q_h0, .null, rfl, xv_n, rfl, ⟨rfl, fun i i0 i1 => absurd i1 (by omega), fun i i0 i1 => absurd i1 (by omega), fun i i0 i1 => absurd i1 (by omega), fun i i0 i1 => absurd i1 (by omega), fun h => absurd h (by omega)⟩, fun a k ha => up_n (by omega)⟩
  · rintro i z hi ⟨w1, s1, v5, rfl, x5, ht, R1, o1⟩
    right
    have hx := hV.2.2.1.2.2 i (by omega) (by omega)
    have e11 : w1.1 1 1 = Int32.ofInt (A 0 8) := by rw [o1 _ _ (by omega)]; exact h11
    have ep : w1.1 2 (i : Int).toNat = Int32.ofInt (A 8 i) := by rw [o1 _ _ (by omega)]; exact hpc i (by omega) (by omega)
    have hs1 := q_hi_t ht
    obtain ⟨s2, f2, t2⟩ := p_tr_lt hm.1 hi ht
    obtain ⟨r1, wd1, c1, l1, K1, L1⟩ := s1
    obtain ⟨a1, a2, a3, a4, a5, a6, a7, a8, a9, a10, a11, a12, a13⟩ := hs1
    generalize A 8 (i : Int) = x at *
    have hcd := fun d => m_pcd (d := d) (w := w1) (i := i) e11 (by omega) (by omega) (by omega) ep
    have hsz := fun d => m_psz (d := d) (w := w1) e11
    have hc6 : c1 ≤ 6 := by
      by_cases h0 : r1 = 0
      · exact (a7 h0).2
      · have := (a8 (by omega)).2; omega
    unfold q_hf at f2
    dsimp only at f2 ⊢
    by_cases hx1 : x = 46 ∨ x = 35 ∨ x = 100
    · rw [if_pos hx1] at f2
      by_cases hc : c1 = (if r1 = 0 then 6 else wd1)
      · rw [if_pos hc] at f2; cases f2
      · rw [if_neg hc] at f2
        cases f2
        have hw1 : 0 < r1 → c1 < wd1 := by
          intro h0
          rw [if_neg (by omega)] at hc
          have := (a8 h0).2; omega
        have hn : r1 * wd1 + c1 < 24 := by
          by_cases h0 : r1 = 0
          · rw [if_pos h0] at hc; rw [h0, Int.zero_mul]; omega
          · have := hw1 (by omega); omega
        refine ⟨(ex_blk 6 12, [.ref 5, .ref 1, .int (Int32.ofInt r1), .int (Int32.ofInt (c1 + 1)), .int (Int32.ofInt ((i : Int) + 1)), .int (Int32.ofInt x)], [], ex_up (ex_up (ex_up (ex_up w1 6 (r1 * wd1 + c1).toNat (Int32.ofInt (q_kd1 x))) 7 (r1 * wd1 + c1).toNat (Int32.ofInt r1)) 8 (r1 * wd1 + c1).toNat (Int32.ofInt c1)) 5 11 (Int32.ofInt (r1 * wd1 + c1 + 1))), ?_, _, _, _, rfl, xv_i _, t2, rHC_cell R1 a9 a5 a1 (fun h0 => (a7 h0).1) hw1, fun a k ha => ?_⟩
        · have ha := m_addCell (d := d + 6) (w := w1) (x := x) (r := r1) (c := c1) R1.1 (by omega) hn hx1
          conv => lhs; rw [kb_6_12]
          simp (disch := omega) only [hcd, hsz, x5, ha, ev_iload, ev_aload, rx_istore, ev_iinc, ev_push, ev_iadd, ev_goto, ev_jsr, rx_ine_t, rx_ine_f, rx_ige_t, rx_ige_f, ev_putf, ev_callv, nr_i, nr_r, nr_l, nr_n, rx_vret, kb_6_0, kb_6_44, kb_6_60, kb_6_71, kb_6_77, kr_6, kk_5_75, kk_5_76, kk_5_77, List.getD_cons_zero, List.getD_cons_succ, List.set_cons_zero, List.set_cons_succ, ex_spl, ex_low, Option.toList, List.cons_append, List.nil_append, reduceIte, Int.reduceToNat, Nat.reduceDiv, Nat.reduceMod, Nat.reduceAdd, Nat.reduceMul, z_0, z_1, z_10, z_01, reduceCtorEq, ite_true, ite_false, true_and, and_true, ↓bI_01, ↓bP_01, ↓zret0, ↓zret1, z_add, z_sub, z_mul, up_1, up_2, not_true, not_false_iff, if_true, if_false, Bool.true_and, bI_T, bI_F, bP_T, bP_F, or_true, true_or, or_false, false_or, Int.reduceNeg, Int.reduceAdd, Int.reduceSub, Int.reduceMul, Int.reduceEq, Int.reduceLT, Int.reduceLE, Int.natCast_add, Int.cast_ofNat_Int]
        · rw [up_n (by omega), up_n (by omega), up_n (by omega), up_n (by omega)]; exact o1 a k ha
    · rw [if_neg hx1] at f2
      by_cases hx2 : x = 124
      · rw [if_pos hx2] at f2
        by_cases hl : l1 = 1
        · rw [if_pos hl] at f2; cases f2
        · rw [if_neg hl] at f2
          cases f2
          refine ⟨(ex_blk 6 12, [.ref 5, .ref 1, .int (Int32.ofInt r1), .int (Int32.ofInt c1), .int (Int32.ofInt ((i : Int) + 1)), .int (Int32.ofInt x)], [], ex_up w1 9 r1.toNat (Int32.ofInt c1)), ?_, _, _, _, rfl, xv_i _, t2, rHC_line R1 a1, fun a k ha => ?_⟩
          · have ha := m_setLine (d := d + 5) (w := w1) (r := r1) (c := c1) a1 a2
            conv => lhs; rw [kb_6_12]
            simp (disch := omega) only [hcd, hsz, x5, ha, ev_iload, ev_aload, rx_istore, ev_iinc, ev_push, ev_iadd, ev_goto, ev_jsr, rx_ine_t, rx_ine_f, rx_ige_t, rx_ige_f, ev_putf, ev_callv, nr_i, nr_r, nr_l, nr_n, rx_vret, kb_6_0, kb_6_44, kb_6_60, kb_6_71, kb_6_77, kr_6, kk_5_75, kk_5_76, kk_5_77, List.getD_cons_zero, List.getD_cons_succ, List.set_cons_zero, List.set_cons_succ, ex_spl, ex_low, Option.toList, List.cons_append, List.nil_append, reduceIte, Int.reduceToNat, Nat.reduceDiv, Nat.reduceMod, Nat.reduceAdd, Nat.reduceMul, z_0, z_1, z_10, z_01, reduceCtorEq, ite_true, ite_false, true_and, and_true, ↓bI_01, ↓bP_01, ↓zret0, ↓zret1, z_add, z_sub, z_mul, up_1, up_2, not_true, not_false_iff, if_true, if_false, Bool.true_and, bI_T, bI_F, bP_T, bP_F, or_true, true_or, or_false, false_or, Int.reduceNeg, Int.reduceAdd, Int.reduceSub, Int.reduceMul, Int.reduceEq, Int.reduceLT, Int.reduceLE, Int.natCast_add, Int.cast_ofNat_Int]
          · rw [up_n (by omega)]; exact o1 a k ha
      · rw [if_neg hx2] at f2
        by_cases hx3 : x = 47
        · rw [if_pos hx3] at f2
          by_cases hc : l1 = 1 ∧ r1 < 3 ∧ (if r1 = 0 then 1 < c1 else c1 = wd1)
          · rw [if_pos hc] at f2
            cases f2
            obtain ⟨b1, b2, b3⟩ := hc
            refine ⟨(ex_blk 6 12, [.ref 5, .ref 1, .int (Int32.ofInt (r1 + 1)), .int (Int32.ofInt 0), .int (Int32.ofInt ((i : Int) + 1)), .int (Int32.ofInt x)], [], w1), ?_, _, _, _, rfl, xv_i _, t2, rHC_end R1 a1 b1 (fun h0 => (a7 h0).1) (fun h0 => by rw [if_neg (by omega)] at b3; exact b3), o1⟩
            conv => lhs; rw [kb_6_12]
            simp (disch := omega) only [hcd, hsz, x5, ev_iload, ev_aload, rx_istore, ev_iinc, ev_push, ev_iadd, ev_goto, ev_jsr, rx_ine_t, rx_ine_f, rx_ige_t, rx_ige_f, ev_putf, ev_callv, nr_i, nr_r, nr_l, nr_n, rx_vret, kb_6_0, kb_6_44, kb_6_60, kb_6_71, kb_6_77, kr_6, kk_5_75, kk_5_76, kk_5_77, List.getD_cons_zero, List.getD_cons_succ, List.set_cons_zero, List.set_cons_succ, ex_spl, ex_low, Option.toList, List.cons_append, List.nil_append, reduceIte, Int.reduceToNat, Nat.reduceDiv, Nat.reduceMod, Nat.reduceAdd, Nat.reduceMul, z_0, z_1, z_10, z_01, reduceCtorEq, ite_true, ite_false, true_and, and_true, ↓bI_01, ↓bP_01, ↓zret0, ↓zret1, z_add, z_sub, z_mul, up_1, up_2, not_true, not_false_iff, if_true, if_false, Bool.true_and, bI_T, bI_F, bP_T, bP_F, or_true, true_or, or_false, false_or, Int.reduceNeg, Int.reduceAdd, Int.reduceSub, Int.reduceMul, Int.reduceEq, Int.reduceLT, Int.reduceLE, Int.natCast_add, Int.cast_ofNat_Int]
          · rw [if_neg hc] at f2; cases f2
        · rw [if_neg hx3] at f2; cases f2
  · rintro z ⟨w1, s1, v5, rfl, x5, ht, R1, o1⟩
    have hs := p_tr_u ht hm.1
    subst hs
    have e11 : w1.1 1 1 = Int32.ofInt (A 0 8) := by rw [o1 _ _ (by omega)]; exact h11
    obtain ⟨a1, a2, a3, a4, a5, a6, a7, a8, a9, a10, a11, a12, a13⟩ := hend
    obtain ⟨b1, b2, b3⟩ := hw
    have h8 := a8 (by omega)
    obtain ⟨h1, h2, h3, h4, h5, h6⟩ := R1
    have hsz := fun d => m_psz (d := d) (w := w1) e11
    have hK2 : rK (q_nh A r wd K L) (ex_up (ex_up w1 5 12 (Int32.ofInt (r + 1))) 5 13 (Int32.ofInt c)) := by
      refine ⟨⟨?_, rfl, ?_⟩, fun i i0 i1 => ?_, fun i i0 i1 => ?_, fun i i0 i1 => ?_, fun i i0 i1 => ?_⟩
      · show w1.1 5 11 = Int32.ofInt ((r + 1) * wd)
        rw [h1, en]
      · show Int32.ofInt c = Int32.ofInt wd
        rw [b3]
      · have i1 : i < (r + 1) * wd := i1
        rw [en] at i1
        rw [up_n (by omega), up_n (by omega)]; exact h2 i i0 i1
      · have i1 : i < (r + 1) * wd := i1
        rw [en] at i1
        rw [up_n (by omega), up_n (by omega), h3 i i0 i1, if_neg (by omega)]; rfl
      · have i1 : i < (r + 1) * wd := i1
        rw [en] at i1
        rw [up_n (by omega), up_n (by omega), h4 i i0 i1, if_neg (by omega)]; rfl
      · have i1 : i < r + 1 := i1
        rw [up_n (by omega), up_n (by omega)]
        show _ = Int32.ofInt (L i)
        by_cases hir : i = r
        · rw [hir]; exact h6 b1
        · exact h5 i i0 (by omega)
    obtain ⟨w3, e3, o3, n3⟩ := m_joinCells (d := d + 3) hVh hK2
    have hH3 : rH (q_nh A r wd K L) w3 := ⟨rK_o hK2 fun a k q1 q2 => o3 a k (by omega), n3⟩
    obtain ⟨w4, e4, o4, d4⟩ := m_findDoors (d := d) hVh hH3
    refine ⟨w4, ?_, fun a k ha => ?_, rH_o hH3 fun a k q1 q2 => o4 a k (by omega), d4⟩
    · dsimp only
      rw [kb_6_12]
      simp (disch := omega) only [hsz, hmm, e3, e4, ev_iload, ev_aload, rx_istore, ev_iinc, ev_push, ev_iadd, ev_goto, ev_jsr, rx_ine_t, rx_ine_f, rx_ige_t, rx_ige_f, ev_putf, ev_callv, nr_i, nr_r, nr_l, nr_n, rx_vret, kb_6_0, kb_6_44, kb_6_60, kb_6_71, kb_6_77, kr_6, kk_5_75, kk_5_76, kk_5_77, List.getD_cons_zero, List.getD_cons_succ, List.set_cons_zero, List.set_cons_succ, ex_spl, ex_low, Option.toList, List.cons_append, List.nil_append, reduceIte, Int.reduceToNat, Nat.reduceDiv, Nat.reduceMod, Nat.reduceAdd, Nat.reduceMul, z_0, z_1, z_10, z_01, reduceCtorEq, ite_true, ite_false, true_and, and_true, ↓bI_01, ↓bP_01, ↓zret0, ↓zret1, z_add, z_sub, z_mul, up_1, up_2, not_true, not_false_iff, if_true, if_false, Bool.true_and, bI_T, bI_F, bP_T, bP_F, or_true, true_or, or_false, false_or, Int.reduceNeg, Int.reduceAdd, Int.reduceSub, Int.reduceMul, Int.reduceEq, Int.reduceLT, Int.reduceLE, Int.natCast_add, Int.cast_ofNat_Int]
    · rw [o4 a k (by omega), o3 a k (by omega), up_n (by omega), up_n (by omega)]; exact o1 a k (by omega)
theorem m_dclear {d : Nat} {w : PW} : ex_cal (d + 2) 0 [.ref 20] w = some (none, ex_up (ex_up (ex_up (ex_up w 21 2 (Int32.ofInt 0)) 23 2 (Int32.ofInt 0)) 25 2 (Int32.ofInt 0)) 27 2 (Int32.ofInt 0)) := by
  rw [ke_0 kc_20]
  simp (disch := omega) only [m_tclear tb_21, m_tclear tb_23, m_tclear tb_25, m_tclear tb_27, ev_aload, ev_getf, ev_callv, nr_i, nr_r, nr_l, nr_n, rx_vret, kb_0_0, kr_0, kf_20_0, kf_29_0, kf_20_1, kf_29_1, kf_20_2, kf_29_2, kf_20_3, kf_29_3, List.getD_cons_zero, List.getD_cons_succ, List.set_cons_zero, List.set_cons_succ, ex_spl, ex_low, Option.toList, List.cons_append, List.nil_append, reduceIte, Int.reduceToNat, Nat.reduceDiv, Nat.reduceMod, Nat.reduceAdd, Nat.reduceMul, z_0, z_1, z_10, z_01, reduceCtorEq, ite_true, ite_false, true_and, and_true, ↓bI_01, ↓bP_01, ↓zret0, ↓zret1, z_add, z_sub, z_mul, up_1, up_2, not_true, not_false_iff, if_true, if_false, Bool.true_and, bI_T, bI_F, bP_T, bP_F, or_true, true_or, or_false, false_or, Int.reduceNeg, Int.reduceAdd, Int.reduceSub, Int.reduceMul, Int.reduceEq, Int.reduceLT, Int.reduceLE, Int.natCast_add, Int.cast_ofNat_Int]

