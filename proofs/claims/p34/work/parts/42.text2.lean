/-! a text taken by the class; the reference's house text -/
theorem m_taken {d : Nat} {A : AS} {w : PW} {α : Type} {f : α → Int → Option α} {s0 : α} (R : PW → α → Prop) (o : Nat) (ho : o = 3 ∨ o = 4) (hV : q_v0 A) (hC : rC A w) (hbeg : ∀ w, ∃ w', ex_cal (d + 5) (q_dp 1 o) [.ref o] w = some (none, w') ∧ R w' s0 ∧ sO o w w') (htak : ∀ w s x n, p_tr f s0 A n s → R w s → 0 ≤ x → x < 256 → (∀ s', f s x = some s' → ∃ w', ex_cal (d + 5) (q_dp 2 o) [.ref o, .int (Int32.ofInt x)] w = some (some (.int (Int32.ofInt 1)), w') ∧ R w' s' ∧ sO o w w') ∧ (f s x = none → ex_cal (d + 5) (q_dp 2 o) [.ref o, .int (Int32.ofInt x)] w = some (some (.int (Int32.ofInt 0)), w))) {m : Nat} {s : α} (hm : p_tk f s0 A m s) : ∃ w', ex_cal (d + 6) 65 [.ref o, .ref 1] w = some (some (.int (Int32.ofInt (m : Int))), w') ∧ R w' s ∧ sO o w w' := by
  have hr := q_rng hV
  have hto : tC o := by unfold tC; omega
  obtain ⟨w0, e0, R0, o0⟩ := hbeg w
  rw [ke_65 (by rcases ho with h | h <;> subst h; exact Or.inl kc_3; exact Or.inr kc_4)]
  simp (disch := omega) only [e0, ev_iload, ev_aload, rx_istore, ev_iinc, ev_push, ev_goto, ev_jsr, rx_ige_t, rx_ige_f, rx_zne_t, rx_zne_f, ev_callv, rx_ci0, rx_ci1i, rx_ci1r, nr_i, nr_r, nr_l, nr_n, rx_iret, kb_65_0, kb_65_28, kb_65_34, kr_65, List.getD_cons_zero, List.getD_cons_succ, List.set_cons_zero, List.set_cons_succ, ex_spl, ex_low, Option.toList, List.cons_append, List.nil_append, reduceIte, Int.reduceToNat, Nat.reduceDiv, Nat.reduceMod, Nat.reduceAdd, Nat.reduceMul, z_0, z_1, z_10, z_01, reduceCtorEq, ite_true, ite_false, true_and, and_true, ↓bI_01, ↓bP_01, ↓zret0, ↓zret1, z_add, z_sub, z_mul, up_1, up_2, not_true, not_false_iff, if_true, if_false, Bool.true_and, bI_T, bI_F, bP_T, bP_F, or_true, true_or, or_false, false_or, Int.reduceNeg, Int.reduceAdd, Int.reduceSub, Int.reduceMul, Int.reduceEq, Int.reduceLT, Int.reduceLE, Int.natCast_add, Int.cast_ofNat_Int]
  refine ex_loop (Q := fun q => ∃ w', q = some (some (.int (Int32.ofInt (m : Int))), w') ∧ R w' s ∧ sO o w w') (fun i st => ∃ w1 s1, st = (ex_blk 65 6, [.ref o, .ref 1, .int (Int32.ofInt (i : Int))], [], w1) ∧ p_tr f s0 A i s1 ∧ R w1 s1 ∧ sO o w w1) m ?_ ?_ ?_
  · exact ⟨w0, s0, rfl, rfl, R0, o0⟩
  · rintro i st hi ⟨w1, s1, rfl, ht, R1, o1⟩
    right
    have hC1 := rC_cg hC (sO_C o1 hto)
    have hmm := hm.2.1
    have hx := hV.2.2.1.2.2 i (by omega) (by omega)
    obtain ⟨s2, f2, t2⟩ := p_tr_lt hm.1 hi ht
    obtain ⟨w2, e2, R2, o2⟩ := (htak w1 s1 (A 8 i) i ht R1 (by omega) (by omega)).1 s2 f2
    refine ⟨(ex_blk 65 6, [.ref o, .ref 1, .int (Int32.ofInt ((i : Int) + 1))], [], w2), ?_, w2, s2, rfl, t2, R2, sO_t o1 o2⟩
    conv => lhs; rw [kb_65_6]
    simp (disch := omega) only [m_psize hC1, m_codeAt hV hC1, e2, ev_iload, ev_aload, rx_istore, ev_iinc, ev_push, ev_goto, ev_jsr, rx_ige_t, rx_ige_f, rx_zne_t, rx_zne_f, ev_callv, rx_ci0, rx_ci1i, rx_ci1r, nr_i, nr_r, nr_l, nr_n, rx_iret, kb_65_0, kb_65_28, kb_65_34, kr_65, List.getD_cons_zero, List.getD_cons_succ, List.set_cons_zero, List.set_cons_succ, ex_spl, ex_low, Option.toList, List.cons_append, List.nil_append, reduceIte, Int.reduceToNat, Nat.reduceDiv, Nat.reduceMod, Nat.reduceAdd, Nat.reduceMul, z_0, z_1, z_10, z_01, reduceCtorEq, ite_true, ite_false, true_and, and_true, ↓bI_01, ↓bP_01, ↓zret0, ↓zret1, z_add, z_sub, z_mul, up_1, up_2, not_true, not_false_iff, if_true, if_false, Bool.true_and, bI_T, bI_F, bP_T, bP_F, or_true, true_or, or_false, false_or, Int.reduceNeg, Int.reduceAdd, Int.reduceSub, Int.reduceMul, Int.reduceEq, Int.reduceLT, Int.reduceLE, Int.natCast_add, Int.cast_ofNat_Int]
  · rintro st ⟨w1, s1, rfl, ht, R1, o1⟩
    have hC1 := rC_cg hC (sO_C o1 hto)
    have hmm := hm.2.1
    have hs := p_tr_u ht hm.1
    subst hs
    refine ⟨w1, ?_, R1, o1⟩
    rw [kb_65_6]
    by_cases hl : (m : Int) < A 0 8
    · have hx := hV.2.2.1.2.2 m (by omega) hl
      have e2 := (htak w1 s1 (A 8 m) m ht R1 (by omega) (by omega)).2 (hm.2.2 hl)
      simp (disch := omega) only [m_psize hC1, m_codeAt hV hC1, e2, ev_iload, ev_aload, rx_istore, ev_iinc, ev_push, ev_goto, ev_jsr, rx_ige_t, rx_ige_f, rx_zne_t, rx_zne_f, ev_callv, rx_ci0, rx_ci1i, rx_ci1r, nr_i, nr_r, nr_l, nr_n, rx_iret, kb_65_0, kb_65_28, kb_65_34, kr_65, List.getD_cons_zero, List.getD_cons_succ, List.set_cons_zero, List.set_cons_succ, ex_spl, ex_low, Option.toList, List.cons_append, List.nil_append, reduceIte, Int.reduceToNat, Nat.reduceDiv, Nat.reduceMod, Nat.reduceAdd, Nat.reduceMul, z_0, z_1, z_10, z_01, reduceCtorEq, ite_true, ite_false, true_and, and_true, ↓bI_01, ↓bP_01, ↓zret0, ↓zret1, z_add, z_sub, z_mul, up_1, up_2, not_true, not_false_iff, if_true, if_false, Bool.true_and, bI_T, bI_F, bP_T, bP_F, or_true, true_or, or_false, false_or, Int.reduceNeg, Int.reduceAdd, Int.reduceSub, Int.reduceMul, Int.reduceEq, Int.reduceLT, Int.reduceLE, Int.natCast_add, Int.cast_ofNat_Int]
    · have hml : (m : Int) = A 0 8 := by omega
      simp (disch := omega) only [m_psize hC1, hml, ev_iload, ev_aload, rx_istore, ev_iinc, ev_push, ev_goto, ev_jsr, rx_ige_t, rx_ige_f, rx_zne_t, rx_zne_f, ev_callv, rx_ci0, rx_ci1i, rx_ci1r, nr_i, nr_r, nr_l, nr_n, rx_iret, kb_65_0, kb_65_28, kb_65_34, kr_65, List.getD_cons_zero, List.getD_cons_succ, List.set_cons_zero, List.set_cons_succ, ex_spl, ex_low, Option.toList, List.cons_append, List.nil_append, reduceIte, Int.reduceToNat, Nat.reduceDiv, Nat.reduceMod, Nat.reduceAdd, Nat.reduceMul, z_0, z_1, z_10, z_01, reduceCtorEq, ite_true, ite_false, true_and, and_true, ↓bI_01, ↓bP_01, ↓zret0, ↓zret1, z_add, z_sub, z_mul, up_1, up_2, not_true, not_false_iff, if_true, if_false, Bool.true_and, bI_T, bI_F, bP_T, bP_F, or_true, true_or, or_false, false_or, Int.reduceNeg, Int.reduceAdd, Int.reduceSub, Int.reduceMul, Int.reduceEq, Int.reduceLT, Int.reduceLE, Int.natCast_add, Int.cast_ofNat_Int]
theorem m_htaken {d : Nat} {A : AS} {w : PW} (hV : q_v0 A) (hC : rC A w) {m : Nat} {s : HS} (hm : p_tk q_hf q_h0 A m s) : ∃ w', ex_cal (d + 6) 65 [.ref 3, .ref 1] w = some (some (.int (Int32.ofInt (m : Int))), w') ∧ rHT w' s ∧ sO 3 w w' :=
  m_taken rHT 3 (Or.inl rfl) hV hC (fun w => m_hbegin (d := d + 4)) (fun w s x n ht hR x0 x1 => m_htakes (d := d + 2) (q_hi_t ht) hR x0 x1) hm
theorem m_hwhole {d : Nat} {w : PW} {s : HS} (hi : q_hi s) (hR : rHT w s) : ex_cal (d + 2) 34 [.ref 3] w = some (some (.int (bP (q_hw s))), w) := by
  have hrow := m_hrow (d := d) hi hR
  obtain ⟨r, wd, c, l, K, L⟩ := s
  obtain ⟨a1, a2, a3, a4, a5, a6, a7, a8, a9, a10, -⟩ := hi
  obtain ⟨r1, r2, r3, r4⟩ := hR
  rw [ke_34 kc_3]
  dsimp only at hrow
  by_cases h1 : 1 ≤ r
  · by_cases h2 : l = 1 ∧ c = wd
    · rw [bI_t (show l = 1 ∧ (if r = 0 then 2 ≤ c else c = wd) from ⟨h2.1, by rw [if_neg (by omega)]; exact h2.2⟩)] at hrow
      rw [bP_t (show q_hw (r, wd, c, l, K, L) from ⟨h2.1, h1, h2.2⟩)]
      simp (disch := omega) only [r1, hrow, ev_aload, ev_push, ev_iadd, ev_goto, ev_jsr, rx_ilt_t, rx_ilt_f, rx_zeq_t, rx_zeq_f, ev_getf, ev_callv, nr_i, nr_r, nr_l, nr_n, rx_zret_t, rx_zretI, rx_zretP, kb_34_0, kb_34_21, kb_34_22, kr_34, kf_3_128, List.getD_cons_zero, List.getD_cons_succ, List.set_cons_zero, List.set_cons_succ, ex_spl, ex_low, Option.toList, List.cons_append, List.nil_append, reduceIte, Int.reduceToNat, Nat.reduceDiv, Nat.reduceMod, Nat.reduceAdd, Nat.reduceMul, z_0, z_1, z_10, z_01, reduceCtorEq, ite_true, ite_false, true_and, and_true, ↓bI_01, ↓bP_01, ↓zret0, ↓zret1, z_add, z_sub, z_mul, up_1, up_2, not_true, not_false_iff, if_true, if_false, Bool.true_and, bI_T, bI_F, bP_T, bP_F, or_true, true_or, or_false, false_or, Int.reduceNeg, Int.reduceAdd, Int.reduceSub, Int.reduceMul, Int.reduceEq, Int.reduceLT, Int.reduceLE, Int.natCast_add, Int.cast_ofNat_Int]
    · rw [bI_f (show ¬ (l = 1 ∧ (if r = 0 then 2 ≤ c else c = wd)) from fun h => h2 ⟨h.1, by have := h.2; rw [if_neg (by omega)] at this; exact this⟩)] at hrow
      rw [bP_f (show ¬ q_hw (r, wd, c, l, K, L) from fun h => h2 ⟨h.1, h.2.2⟩)]
      simp (disch := omega) only [r1, hrow, ev_aload, ev_push, ev_iadd, ev_goto, ev_jsr, rx_ilt_t, rx_ilt_f, rx_zeq_t, rx_zeq_f, ev_getf, ev_callv, nr_i, nr_r, nr_l, nr_n, rx_zret_t, rx_zretI, rx_zretP, kb_34_0, kb_34_21, kb_34_22, kr_34, kf_3_128, List.getD_cons_zero, List.getD_cons_succ, List.set_cons_zero, List.set_cons_succ, ex_spl, ex_low, Option.toList, List.cons_append, List.nil_append, reduceIte, Int.reduceToNat, Nat.reduceDiv, Nat.reduceMod, Nat.reduceAdd, Nat.reduceMul, z_0, z_1, z_10, z_01, reduceCtorEq, ite_true, ite_false, true_and, and_true, ↓bI_01, ↓bP_01, ↓zret0, ↓zret1, z_add, z_sub, z_mul, up_1, up_2, not_true, not_false_iff, if_true, if_false, Bool.true_and, bI_T, bI_F, bP_T, bP_F, or_true, true_or, or_false, false_or, Int.reduceNeg, Int.reduceAdd, Int.reduceSub, Int.reduceMul, Int.reduceEq, Int.reduceLT, Int.reduceLE, Int.natCast_add, Int.cast_ofNat_Int]
  · rw [bP_f (show ¬ q_hw (r, wd, c, l, K, L) from fun h => h1 h.2.1)]
    simp (disch := omega) only [r1, ev_aload, ev_push, ev_iadd, ev_goto, ev_jsr, rx_ilt_t, rx_ilt_f, rx_zeq_t, rx_zeq_f, ev_getf, ev_callv, nr_i, nr_r, nr_l, nr_n, rx_zret_t, rx_zretI, rx_zretP, kb_34_0, kb_34_21, kb_34_22, kr_34, kf_3_128, List.getD_cons_zero, List.getD_cons_succ, List.set_cons_zero, List.set_cons_succ, ex_spl, ex_low, Option.toList, List.cons_append, List.nil_append, reduceIte, Int.reduceToNat, Nat.reduceDiv, Nat.reduceMod, Nat.reduceAdd, Nat.reduceMul, z_0, z_1, z_10, z_01, reduceCtorEq, ite_true, ite_false, true_and, and_true, ↓bI_01, ↓bP_01, ↓zret0, ↓zret1, z_add, z_sub, z_mul, up_1, up_2, not_true, not_false_iff, if_true, if_false, Bool.true_and, bI_T, bI_F, bP_T, bP_F, or_true, true_or, or_false, false_or, Int.reduceNeg, Int.reduceAdd, Int.reduceSub, Int.reduceMul, Int.reduceEq, Int.reduceLT, Int.reduceLE, Int.natCast_add, Int.cast_ofNat_Int]
theorem m_hisOn {d : Nat} {A : AS} {w : PW} (hV : q_v0 A) (hC : rC A w) {m : Nat} {s : HS} (hm : p_tk q_hf q_h0 A m s) : ∃ w', ex_cal (d + 7) 66 [.ref 3, .ref 1] w = some (some (.int (bP ((m : Int) = A 0 8 ∧ q_hw s))), w') ∧ sO 3 w w' := by
  have hr := q_rng hV
  obtain ⟨w1, e1, R1, o1⟩ := m_htaken (d := d) hV hC hm
  have hC1 := rC_cg hC (sO_C o1 (by unfold tC; omega))
  have hw := m_hwhole (d := d + 4) (q_hi_t hm.1) R1
  have hmm := hm.2.1
  have q5 : q_dp 5 3 = 65 := rfl
  have q6 : q_dp 6 3 = 34 := rfl
  refine ⟨w1, ?_, o1⟩
  rw [ke_66 (Or.inl kc_3)]
  by_cases h1 : (m : Int) = A 0 8
  · by_cases h2 : q_hw s
    · rw [bP_t ⟨h1, h2⟩]
      rw [bP_t h2] at hw
      simp (disch := omega) only [q5, q6, e1, m_psize hC1, hw, ev_aload, ev_push, ev_goto, ev_jsr, rx_ine_t, rx_ine_f, rx_zeq_t, rx_zeq_f, ev_callv, rx_ci0, rx_ci1i, rx_ci1r, nr_i, nr_r, nr_l, nr_n, rx_zret_t, rx_zretI, rx_zretP, kb_66_0, kb_66_23, kb_66_24, kr_66, List.getD_cons_zero, List.getD_cons_succ, List.set_cons_zero, List.set_cons_succ, ex_spl, ex_low, Option.toList, List.cons_append, List.nil_append, reduceIte, Int.reduceToNat, Nat.reduceDiv, Nat.reduceMod, Nat.reduceAdd, Nat.reduceMul, z_0, z_1, z_10, z_01, reduceCtorEq, ite_true, ite_false, true_and, and_true, ↓bI_01, ↓bP_01, ↓zret0, ↓zret1, z_add, z_sub, z_mul, up_1, up_2, not_true, not_false_iff, if_true, if_false, Bool.true_and, bI_T, bI_F, bP_T, bP_F, or_true, true_or, or_false, false_or, Int.reduceNeg, Int.reduceAdd, Int.reduceSub, Int.reduceMul, Int.reduceEq, Int.reduceLT, Int.reduceLE, Int.natCast_add, Int.cast_ofNat_Int]
    · rw [bP_f (fun h => h2 h.2)]
      rw [bP_f h2] at hw
      simp (disch := omega) only [q5, q6, e1, m_psize hC1, hw, ev_aload, ev_push, ev_goto, ev_jsr, rx_ine_t, rx_ine_f, rx_zeq_t, rx_zeq_f, ev_callv, rx_ci0, rx_ci1i, rx_ci1r, nr_i, nr_r, nr_l, nr_n, rx_zret_t, rx_zretI, rx_zretP, kb_66_0, kb_66_23, kb_66_24, kr_66, List.getD_cons_zero, List.getD_cons_succ, List.set_cons_zero, List.set_cons_succ, ex_spl, ex_low, Option.toList, List.cons_append, List.nil_append, reduceIte, Int.reduceToNat, Nat.reduceDiv, Nat.reduceMod, Nat.reduceAdd, Nat.reduceMul, z_0, z_1, z_10, z_01, reduceCtorEq, ite_true, ite_false, true_and, and_true, ↓bI_01, ↓bP_01, ↓zret0, ↓zret1, z_add, z_sub, z_mul, up_1, up_2, not_true, not_false_iff, if_true, if_false, Bool.true_and, bI_T, bI_F, bP_T, bP_F, or_true, true_or, or_false, false_or, Int.reduceNeg, Int.reduceAdd, Int.reduceSub, Int.reduceMul, Int.reduceEq, Int.reduceLT, Int.reduceLE, Int.natCast_add, Int.cast_ofNat_Int]
  · rw [bP_f (fun h => h1 h.1)]
    simp (disch := omega) only [q5, q6, e1, m_psize hC1, ev_aload, ev_push, ev_goto, ev_jsr, rx_ine_t, rx_ine_f, rx_zeq_t, rx_zeq_f, ev_callv, rx_ci0, rx_ci1i, rx_ci1r, nr_i, nr_r, nr_l, nr_n, rx_zret_t, rx_zretI, rx_zretP, kb_66_0, kb_66_23, kb_66_24, kr_66, List.getD_cons_zero, List.getD_cons_succ, List.set_cons_zero, List.set_cons_succ, ex_spl, ex_low, Option.toList, List.cons_append, List.nil_append, reduceIte, Int.reduceToNat, Nat.reduceDiv, Nat.reduceMod, Nat.reduceAdd, Nat.reduceMul, z_0, z_1, z_10, z_01, reduceCtorEq, ite_true, ite_false, true_and, and_true, ↓bI_01, ↓bP_01, ↓zret0, ↓zret1, z_add, z_sub, z_mul, up_1, up_2, not_true, not_false_iff, if_true, if_false, Bool.true_and, bI_T, bI_F, bP_T, bP_F, or_true, true_or, or_false, false_or, Int.reduceNeg, Int.reduceAdd, Int.reduceSub, Int.reduceMul, Int.reduceEq, Int.reduceLT, Int.reduceLE, Int.natCast_add, Int.cast_ofNat_Int]
