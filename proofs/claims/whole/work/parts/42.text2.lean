/-! a text taken by the class; the reference's house text -/
theorem m_taken {d : Nat} {A : AS} {w : PW} {α : Type} {f : α → Int → Option α} {s0 : α} (R : PW → α → Prop) (o : Nat) (ho : o = 3 ∨ o = 4) (hV : q_v0 A) (hC : rC A w) (hbeg : ∀ w, ∃ w', ex_cal (d + 5) (q_dp 1 o) [.ref o] w = some (none, w') ∧ R w' s0 ∧ sO o w w') (htak : ∀ w s x n, p_tr f s0 A n s → R w s → 0 ≤ x → x < 256 → (∀ s', f s x = some s' → ∃ w', ex_cal (d + 5) (q_dp 2 o) [.ref o, .int (Int32.ofInt x)] w = some (some (.int (Int32.ofInt 1)), w') ∧ R w' s' ∧ sO o w w') ∧ (f s x = none → ex_cal (d + 5) (q_dp 2 o) [.ref o, .int (Int32.ofInt x)] w = some (some (.int (Int32.ofInt 0)), w))) {m : Nat} {s : α} (hm : p_tk f s0 A m s) : ∃ w', ex_cal (d + 6) 97 [.ref o, .ref 1] w = some (some (.int (Int32.ofInt (m : Int))), w') ∧ R w' s ∧ sO o w w' := by
  have hr := q_rng hV
  have hto : tC o := by unfold tC; omega
  obtain ⟨w0, e0, R0, o0⟩ := hbeg w
  rw [ke_97 (by rcases ho with h | h <;> subst h; exact Or.inl kc_3; exact Or.inr kc_4)]
  simp (disch := omega) only [e0, ev_iload, ev_aload, rx_istore, ev_iinc, ev_push, ev_goto, ev_jsr, rx_ige_t, rx_ige_f, rx_zne_t, rx_zne_f, ev_callv, rx_ci0, rx_ci1i, rx_ci1r, nr_i, nr_r, nr_l, nr_n, rx_iret, kb_97_0, kb_97_28, kb_97_34, kr_97, List.getD_cons_zero, List.getD_cons_succ, List.set_cons_zero, List.set_cons_succ, ex_spl, ex_low, Option.toList, List.cons_append, List.nil_append, reduceIte, Int.reduceToNat, Nat.reduceDiv, Nat.reduceMod, Nat.reduceAdd, Nat.reduceMul, z_0, z_1, z_10, z_01, reduceCtorEq, ite_true, ite_false, true_and, and_true, ↓bI_01, ↓bP_01, ↓zret0, ↓zret1, z_add, z_sub, z_mul, up_1, up_2, not_true, not_false_iff, if_true, if_false, bI_T, bI_F, bP_T, bP_F, or_true, true_or, or_false, false_or, Int.reduceNeg, Int.reduceAdd, Int.reduceSub, Int.reduceMul, Int.reduceEq, Int.reduceLT, Int.reduceLE, Int.natCast_add, Int.cast_ofNat_Int]
  refine ex_loop (Q := fun q => ∃ w', q = some (some (.int (Int32.ofInt (m : Int))), w') ∧ R w' s ∧ sO o w w') (fun i st => ∃ w1 s1, st = (ex_blk 97 6, [.ref o, .ref 1, .int (Int32.ofInt (i : Int))], [], w1) ∧ p_tr f s0 A i s1 ∧ R w1 s1 ∧ sO o w w1) m ?_ ?_ ?_
  · exact ⟨w0, s0, rfl, rfl, R0, o0⟩
  · rintro i st hi ⟨w1, s1, rfl, ht, R1, o1⟩
    right
    have hC1 := rC_cg hC (sO_C o1 hto)
    have hmm := hm.2.1
    have hx := hV.2.2.1.2.2 i (by omega) (by omega)
    obtain ⟨s2, f2, t2⟩ := p_tr_lt hm.1 hi ht
    obtain ⟨w2, e2, R2, o2⟩ := (htak w1 s1 (A 8 i) i ht R1 (by omega) (by omega)).1 s2 f2
    refine ⟨(ex_blk 97 6, [.ref o, .ref 1, .int (Int32.ofInt ((i : Int) + 1))], [], w2), ?_, w2, s2, rfl, t2, R2, sO_t o1 o2⟩
    conv => lhs; rw [kb_97_6]
    simp (disch := omega) only [m_psize hC1, m_codeAt hV hC1, e2, ev_iload, ev_aload, rx_istore, ev_iinc, ev_push, ev_goto, ev_jsr, rx_ige_t, rx_ige_f, rx_zne_t, rx_zne_f, ev_callv, rx_ci0, rx_ci1i, rx_ci1r, nr_i, nr_r, nr_l, nr_n, rx_iret, kb_97_0, kb_97_28, kb_97_34, kr_97, List.getD_cons_zero, List.getD_cons_succ, List.set_cons_zero, List.set_cons_succ, ex_spl, ex_low, Option.toList, List.cons_append, List.nil_append, reduceIte, Int.reduceToNat, Nat.reduceDiv, Nat.reduceMod, Nat.reduceAdd, Nat.reduceMul, z_0, z_1, z_10, z_01, reduceCtorEq, ite_true, ite_false, true_and, and_true, ↓bI_01, ↓bP_01, ↓zret0, ↓zret1, z_add, z_sub, z_mul, up_1, up_2, not_true, not_false_iff, if_true, if_false, bI_T, bI_F, bP_T, bP_F, or_true, true_or, or_false, false_or, Int.reduceNeg, Int.reduceAdd, Int.reduceSub, Int.reduceMul, Int.reduceEq, Int.reduceLT, Int.reduceLE, Int.natCast_add, Int.cast_ofNat_Int]
  · rintro st ⟨w1, s1, rfl, ht, R1, o1⟩
    have hC1 := rC_cg hC (sO_C o1 hto)
    have hmm := hm.2.1
    have hs := p_tr_u ht hm.1
    subst hs
    refine ⟨w1, ?_, R1, o1⟩
    rw [kb_97_6]
    by_cases hl : (m : Int) < A 0 8
    · have hx := hV.2.2.1.2.2 m (by omega) hl
      have e2 := (htak w1 s1 (A 8 m) m ht R1 (by omega) (by omega)).2 (hm.2.2 hl)
      simp (disch := omega) only [m_psize hC1, m_codeAt hV hC1, e2, ev_iload, ev_aload, rx_istore, ev_iinc, ev_push, ev_goto, ev_jsr, rx_ige_t, rx_ige_f, rx_zne_t, rx_zne_f, ev_callv, rx_ci0, rx_ci1i, rx_ci1r, nr_i, nr_r, nr_l, nr_n, rx_iret, kb_97_0, kb_97_28, kb_97_34, kr_97, List.getD_cons_zero, List.getD_cons_succ, List.set_cons_zero, List.set_cons_succ, ex_spl, ex_low, Option.toList, List.cons_append, List.nil_append, reduceIte, Int.reduceToNat, Nat.reduceDiv, Nat.reduceMod, Nat.reduceAdd, Nat.reduceMul, z_0, z_1, z_10, z_01, reduceCtorEq, ite_true, ite_false, true_and, and_true, ↓bI_01, ↓bP_01, ↓zret0, ↓zret1, z_add, z_sub, z_mul, up_1, up_2, not_true, not_false_iff, if_true, if_false, bI_T, bI_F, bP_T, bP_F, or_true, true_or, or_false, false_or, Int.reduceNeg, Int.reduceAdd, Int.reduceSub, Int.reduceMul, Int.reduceEq, Int.reduceLT, Int.reduceLE, Int.natCast_add, Int.cast_ofNat_Int]
    · have hml : (m : Int) = A 0 8 := by omega
      simp (disch := omega) only [m_psize hC1, hml, ev_iload, ev_aload, rx_istore, ev_iinc, ev_push, ev_goto, ev_jsr, rx_ige_t, rx_ige_f, rx_zne_t, rx_zne_f, ev_callv, rx_ci0, rx_ci1i, rx_ci1r, nr_i, nr_r, nr_l, nr_n, rx_iret, kb_97_0, kb_97_28, kb_97_34, kr_97, List.getD_cons_zero, List.getD_cons_succ, List.set_cons_zero, List.set_cons_succ, ex_spl, ex_low, Option.toList, List.cons_append, List.nil_append, reduceIte, Int.reduceToNat, Nat.reduceDiv, Nat.reduceMod, Nat.reduceAdd, Nat.reduceMul, z_0, z_1, z_10, z_01, reduceCtorEq, ite_true, ite_false, true_and, and_true, ↓bI_01, ↓bP_01, ↓zret0, ↓zret1, z_add, z_sub, z_mul, up_1, up_2, not_true, not_false_iff, if_true, if_false, bI_T, bI_F, bP_T, bP_F, or_true, true_or, or_false, false_or, Int.reduceNeg, Int.reduceAdd, Int.reduceSub, Int.reduceMul, Int.reduceEq, Int.reduceLT, Int.reduceLE, Int.natCast_add, Int.cast_ofNat_Int]
theorem m_htaken {d : Nat} {A : AS} {w : PW} (hV : q_v0 A) (hC : rC A w) {m : Nat} {s : HS} (hm : p_tk q_hf q_h0 A m s) : ∃ w', ex_cal (d + 6) 97 [.ref 3, .ref 1] w = some (some (.int (Int32.ofInt (m : Int))), w') ∧ rHT w' s ∧ sO 3 w w' :=
  m_taken rHT 3 (Or.inl rfl) hV hC (fun w => m_hbegin (d := d + 4)) (fun w s x n ht hR x0 x1 => m_htakes (d := d + 2) (q_hi_t ht) hR x0 x1) hm
theorem m_hwhole {d : Nat} {w : PW} {s : HS} (hi : q_hi s) (hR : rHT w s) : ex_cal (d + 2) 40 [.ref 3] w = some (some (.int (bP (q_hw s))), w) := by
  have hrow := m_hrow (d := d) hi hR
  obtain ⟨r, wd, c, l, K, L⟩ := s
  obtain ⟨a1, a2, a3, a4, a5, a6, a7, a8, a9, a10, -⟩ := hi
  obtain ⟨r1, r2, r3, r4⟩ := hR
  rw [ke_40 kc_3]
  dsimp only at hrow
  by_cases h1 : 1 ≤ r
  · by_cases h2 : l = 1 ∧ c = wd
    · rw [bI_t (show l = 1 ∧ (if r = 0 then 2 ≤ c else c = wd) from ⟨h2.1, by rw [if_neg (by omega)]; exact h2.2⟩)] at hrow
      rw [bP_t (show q_hw (r, wd, c, l, K, L) from ⟨h2.1, h1, h2.2⟩)]
      simp (disch := omega) only [r1, hrow, ev_aload, ev_push, ev_iadd, ev_goto, ev_jsr, rx_ilt_t, rx_ilt_f, rx_zeq_t, rx_zeq_f, ev_getf, ev_callv, nr_i, nr_r, nr_l, nr_n, rx_zret_t, rx_zretI, rx_zretP, kb_40_0, kb_40_21, kb_40_22, kr_40, kf_3_128, List.getD_cons_zero, List.getD_cons_succ, List.set_cons_zero, List.set_cons_succ, ex_spl, ex_low, Option.toList, List.cons_append, List.nil_append, reduceIte, Int.reduceToNat, Nat.reduceDiv, Nat.reduceMod, Nat.reduceAdd, Nat.reduceMul, z_0, z_1, z_10, z_01, reduceCtorEq, ite_true, ite_false, true_and, and_true, ↓bI_01, ↓bP_01, ↓zret0, ↓zret1, z_add, z_sub, z_mul, up_1, up_2, not_true, not_false_iff, if_true, if_false, bI_T, bI_F, bP_T, bP_F, or_true, true_or, or_false, false_or, Int.reduceNeg, Int.reduceAdd, Int.reduceSub, Int.reduceMul, Int.reduceEq, Int.reduceLT, Int.reduceLE, Int.natCast_add, Int.cast_ofNat_Int]
    · rw [bI_f (show ¬ (l = 1 ∧ (if r = 0 then 2 ≤ c else c = wd)) from fun h => h2 ⟨h.1, by have := h.2; rw [if_neg (by omega)] at this; exact this⟩)] at hrow
      rw [bP_f (show ¬ q_hw (r, wd, c, l, K, L) from fun h => h2 ⟨h.1, h.2.2⟩)]
      simp (disch := omega) only [r1, hrow, ev_aload, ev_push, ev_iadd, ev_goto, ev_jsr, rx_ilt_t, rx_ilt_f, rx_zeq_t, rx_zeq_f, ev_getf, ev_callv, nr_i, nr_r, nr_l, nr_n, rx_zret_t, rx_zretI, rx_zretP, kb_40_0, kb_40_21, kb_40_22, kr_40, kf_3_128, List.getD_cons_zero, List.getD_cons_succ, List.set_cons_zero, List.set_cons_succ, ex_spl, ex_low, Option.toList, List.cons_append, List.nil_append, reduceIte, Int.reduceToNat, Nat.reduceDiv, Nat.reduceMod, Nat.reduceAdd, Nat.reduceMul, z_0, z_1, z_10, z_01, reduceCtorEq, ite_true, ite_false, true_and, and_true, ↓bI_01, ↓bP_01, ↓zret0, ↓zret1, z_add, z_sub, z_mul, up_1, up_2, not_true, not_false_iff, if_true, if_false, bI_T, bI_F, bP_T, bP_F, or_true, true_or, or_false, false_or, Int.reduceNeg, Int.reduceAdd, Int.reduceSub, Int.reduceMul, Int.reduceEq, Int.reduceLT, Int.reduceLE, Int.natCast_add, Int.cast_ofNat_Int]
  · rw [bP_f (show ¬ q_hw (r, wd, c, l, K, L) from fun h => h1 h.2.1)]
    simp (disch := omega) only [r1, ev_aload, ev_push, ev_iadd, ev_goto, ev_jsr, rx_ilt_t, rx_ilt_f, rx_zeq_t, rx_zeq_f, ev_getf, ev_callv, nr_i, nr_r, nr_l, nr_n, rx_zret_t, rx_zretI, rx_zretP, kb_40_0, kb_40_21, kb_40_22, kr_40, kf_3_128, List.getD_cons_zero, List.getD_cons_succ, List.set_cons_zero, List.set_cons_succ, ex_spl, ex_low, Option.toList, List.cons_append, List.nil_append, reduceIte, Int.reduceToNat, Nat.reduceDiv, Nat.reduceMod, Nat.reduceAdd, Nat.reduceMul, z_0, z_1, z_10, z_01, reduceCtorEq, ite_true, ite_false, true_and, and_true, ↓bI_01, ↓bP_01, ↓zret0, ↓zret1, z_add, z_sub, z_mul, up_1, up_2, not_true, not_false_iff, if_true, if_false, bI_T, bI_F, bP_T, bP_F, or_true, true_or, or_false, false_or, Int.reduceNeg, Int.reduceAdd, Int.reduceSub, Int.reduceMul, Int.reduceEq, Int.reduceLT, Int.reduceLE, Int.natCast_add, Int.cast_ofNat_Int]
theorem m_hisOn {d : Nat} {A : AS} {w : PW} (hV : q_v0 A) (hC : rC A w) {m : Nat} {s : HS} (hm : p_tk q_hf q_h0 A m s) : ∃ w', ex_cal (d + 7) 98 [.ref 3, .ref 1] w = some (some (.int (bP ((m : Int) = A 0 8 ∧ q_hw s))), w') ∧ sO 3 w w' := by
  have hr := q_rng hV
  obtain ⟨w1, e1, R1, o1⟩ := m_htaken (d := d) hV hC hm
  have hC1 := rC_cg hC (sO_C o1 (by unfold tC; omega))
  have hw := m_hwhole (d := d + 4) (q_hi_t hm.1) R1
  have hmm := hm.2.1
  have q5 : q_dp 5 3 = 97 := rfl
  have q6 : q_dp 6 3 = 40 := rfl
  refine ⟨w1, ?_, o1⟩
  rw [ke_98 (Or.inl kc_3)]
  by_cases h1 : (m : Int) = A 0 8
  · by_cases h2 : q_hw s
    · rw [bP_t ⟨h1, h2⟩]
      rw [bP_t h2] at hw
      simp (disch := omega) only [q5, q6, e1, m_psize hC1, hw, ev_aload, ev_push, ev_goto, ev_jsr, rx_ine_t, rx_ine_f, rx_zeq_t, rx_zeq_f, ev_callv, rx_ci0, rx_ci1i, rx_ci1r, nr_i, nr_r, nr_l, nr_n, rx_zret_t, rx_zretI, rx_zretP, kb_98_0, kb_98_23, kb_98_24, kr_98, List.getD_cons_zero, List.getD_cons_succ, List.set_cons_zero, List.set_cons_succ, ex_spl, ex_low, Option.toList, List.cons_append, List.nil_append, reduceIte, Int.reduceToNat, Nat.reduceDiv, Nat.reduceMod, Nat.reduceAdd, Nat.reduceMul, z_0, z_1, z_10, z_01, reduceCtorEq, ite_true, ite_false, true_and, and_true, ↓bI_01, ↓bP_01, ↓zret0, ↓zret1, z_add, z_sub, z_mul, up_1, up_2, not_true, not_false_iff, if_true, if_false, bI_T, bI_F, bP_T, bP_F, or_true, true_or, or_false, false_or, Int.reduceNeg, Int.reduceAdd, Int.reduceSub, Int.reduceMul, Int.reduceEq, Int.reduceLT, Int.reduceLE, Int.natCast_add, Int.cast_ofNat_Int]
    · rw [bP_f (fun h => h2 h.2)]
      rw [bP_f h2] at hw
      simp (disch := omega) only [q5, q6, e1, m_psize hC1, hw, ev_aload, ev_push, ev_goto, ev_jsr, rx_ine_t, rx_ine_f, rx_zeq_t, rx_zeq_f, ev_callv, rx_ci0, rx_ci1i, rx_ci1r, nr_i, nr_r, nr_l, nr_n, rx_zret_t, rx_zretI, rx_zretP, kb_98_0, kb_98_23, kb_98_24, kr_98, List.getD_cons_zero, List.getD_cons_succ, List.set_cons_zero, List.set_cons_succ, ex_spl, ex_low, Option.toList, List.cons_append, List.nil_append, reduceIte, Int.reduceToNat, Nat.reduceDiv, Nat.reduceMod, Nat.reduceAdd, Nat.reduceMul, z_0, z_1, z_10, z_01, reduceCtorEq, ite_true, ite_false, true_and, and_true, ↓bI_01, ↓bP_01, ↓zret0, ↓zret1, z_add, z_sub, z_mul, up_1, up_2, not_true, not_false_iff, if_true, if_false, bI_T, bI_F, bP_T, bP_F, or_true, true_or, or_false, false_or, Int.reduceNeg, Int.reduceAdd, Int.reduceSub, Int.reduceMul, Int.reduceEq, Int.reduceLT, Int.reduceLE, Int.natCast_add, Int.cast_ofNat_Int]
  · rw [bP_f (fun h => h1 h.1)]
    simp (disch := omega) only [q5, q6, e1, m_psize hC1, ev_aload, ev_push, ev_goto, ev_jsr, rx_ine_t, rx_ine_f, rx_zeq_t, rx_zeq_f, ev_callv, rx_ci0, rx_ci1i, rx_ci1r, nr_i, nr_r, nr_l, nr_n, rx_zret_t, rx_zretI, rx_zretP, kb_98_0, kb_98_23, kb_98_24, kr_98, List.getD_cons_zero, List.getD_cons_succ, List.set_cons_zero, List.set_cons_succ, ex_spl, ex_low, Option.toList, List.cons_append, List.nil_append, reduceIte, Int.reduceToNat, Nat.reduceDiv, Nat.reduceMod, Nat.reduceAdd, Nat.reduceMul, z_0, z_1, z_10, z_01, reduceCtorEq, ite_true, ite_false, true_and, and_true, ↓bI_01, ↓bP_01, ↓zret0, ↓zret1, z_add, z_sub, z_mul, up_1, up_2, not_true, not_false_iff, if_true, if_false, bI_T, bI_F, bP_T, bP_F, or_true, true_or, or_false, false_or, Int.reduceNeg, Int.reduceAdd, Int.reduceSub, Int.reduceMul, Int.reduceEq, Int.reduceLT, Int.reduceLE, Int.natCast_add, Int.cast_ofNat_Int]
/-! the reference -/
def rHR (w : PW) (s : HS) : Prop := match s with
  | (r, wd, c, l, K, L) => w.1 46 38 = Int32.ofInt r ∧ w.1 46 39 = Int32.ofInt wd ∧ w.1 46 40 = Int32.ofInt c ∧ w.1 46 41 = Int32.ofInt l ∧ (∀ i, 0 ≤ i → i < r * wd + c → w.1 67 i.toNat = Int32.ofInt (K i)) ∧ (∀ i, 0 ≤ i → i < r → w.1 68 i.toNat = Int32.ofInt (L i)) ∧ (l = 1 → w.1 68 r.toNat = Int32.ofInt (L r))
theorem r_sortBy {d : Nat} {w : PW} {x : Int} (x0 : 0 ≤ x) (x1 : x < 256) : ex_cal (d + 1) 152 [.int (Int32.ofInt x)] w = some (some (.int (Int32.ofInt (if x = 46 then 0 else if x = 35 then 1 else if x = 100 then 2 else -1))), w) := by
  rw [ke_152]
  by_cases h1 : x = 46
  · rw [if_pos h1]
    simp (disch := omega) only [ev_iload, ev_push, ev_goto, ev_jsr, rx_ine_t, rx_ine_f, nr_i, nr_r, nr_l, nr_n, rx_iret, kb_152_0, kb_152_10, kb_152_20, kb_152_30, kb_152_31, kr_152, List.getD_cons_zero, List.getD_cons_succ, List.set_cons_zero, List.set_cons_succ, ex_spl, ex_low, Option.toList, List.cons_append, List.nil_append, reduceIte, Int.reduceToNat, Nat.reduceDiv, Nat.reduceMod, Nat.reduceAdd, Nat.reduceMul, z_0, z_1, z_10, z_01, reduceCtorEq, ite_true, ite_false, true_and, and_true, ↓bI_01, ↓bP_01, ↓zret0, ↓zret1, z_add, z_sub, z_mul, up_1, up_2, not_true, not_false_iff, if_true, if_false, bI_T, bI_F, bP_T, bP_F, or_true, true_or, or_false, false_or, Int.reduceNeg, Int.reduceAdd, Int.reduceSub, Int.reduceMul, Int.reduceEq, Int.reduceLT, Int.reduceLE, Int.natCast_add, Int.cast_ofNat_Int]
  · rw [if_neg h1]
    by_cases h2 : x = 35
    · rw [if_pos h2]
      simp (disch := omega) only [ev_iload, ev_push, ev_goto, ev_jsr, rx_ine_t, rx_ine_f, nr_i, nr_r, nr_l, nr_n, rx_iret, kb_152_0, kb_152_10, kb_152_20, kb_152_30, kb_152_31, kr_152, List.getD_cons_zero, List.getD_cons_succ, List.set_cons_zero, List.set_cons_succ, ex_spl, ex_low, Option.toList, List.cons_append, List.nil_append, reduceIte, Int.reduceToNat, Nat.reduceDiv, Nat.reduceMod, Nat.reduceAdd, Nat.reduceMul, z_0, z_1, z_10, z_01, reduceCtorEq, ite_true, ite_false, true_and, and_true, ↓bI_01, ↓bP_01, ↓zret0, ↓zret1, z_add, z_sub, z_mul, up_1, up_2, not_true, not_false_iff, if_true, if_false, bI_T, bI_F, bP_T, bP_F, or_true, true_or, or_false, false_or, Int.reduceNeg, Int.reduceAdd, Int.reduceSub, Int.reduceMul, Int.reduceEq, Int.reduceLT, Int.reduceLE, Int.natCast_add, Int.cast_ofNat_Int]
    · rw [if_neg h2]
      by_cases h3 : x = 100
      · rw [if_pos h3]
        simp (disch := omega) only [ev_iload, ev_push, ev_goto, ev_jsr, rx_ine_t, rx_ine_f, nr_i, nr_r, nr_l, nr_n, rx_iret, kb_152_0, kb_152_10, kb_152_20, kb_152_30, kb_152_31, kr_152, List.getD_cons_zero, List.getD_cons_succ, List.set_cons_zero, List.set_cons_succ, ex_spl, ex_low, Option.toList, List.cons_append, List.nil_append, reduceIte, Int.reduceToNat, Nat.reduceDiv, Nat.reduceMod, Nat.reduceAdd, Nat.reduceMul, z_0, z_1, z_10, z_01, reduceCtorEq, ite_true, ite_false, true_and, and_true, ↓bI_01, ↓bP_01, ↓zret0, ↓zret1, z_add, z_sub, z_mul, up_1, up_2, not_true, not_false_iff, if_true, if_false, bI_T, bI_F, bP_T, bP_F, or_true, true_or, or_false, false_or, Int.reduceNeg, Int.reduceAdd, Int.reduceSub, Int.reduceMul, Int.reduceEq, Int.reduceLT, Int.reduceLE, Int.natCast_add, Int.cast_ofNat_Int]
      · rw [if_neg h3]
        simp (disch := omega) only [ev_iload, ev_push, ev_goto, ev_jsr, rx_ine_t, rx_ine_f, nr_i, nr_r, nr_l, nr_n, rx_iret, kb_152_0, kb_152_10, kb_152_20, kb_152_30, kb_152_31, kr_152, List.getD_cons_zero, List.getD_cons_succ, List.set_cons_zero, List.set_cons_succ, ex_spl, ex_low, Option.toList, List.cons_append, List.nil_append, reduceIte, Int.reduceToNat, Nat.reduceDiv, Nat.reduceMod, Nat.reduceAdd, Nat.reduceMul, z_0, z_1, z_10, z_01, reduceCtorEq, ite_true, ite_false, true_and, and_true, ↓bI_01, ↓bP_01, ↓zret0, ↓zret1, z_add, z_sub, z_mul, up_1, up_2, not_true, not_false_iff, if_true, if_false, bI_T, bI_F, bP_T, bP_F, or_true, true_or, or_false, false_or, Int.reduceNeg, Int.reduceAdd, Int.reduceSub, Int.reduceMul, Int.reduceEq, Int.reduceLT, Int.reduceLE, Int.natCast_add, Int.cast_ofNat_Int]
theorem sM_46 (w : PW) (k : Nat) (x : Int32) (h : (36 ≤ k ∧ k < 42) ∨ (44 ≤ k ∧ k < 49) ∨ (52 ≤ k ∧ k < 58)) : sM w (ex_up w 46 k x) := sM_u w 46 k x (Or.inr ⟨rfl, h⟩)
theorem sM_67 (w : PW) (o k : Nat) (x : Int32) (h : 67 ≤ o) : sM w (ex_up w o k x) := sM_u w o k x (Or.inl h)
theorem r_takeHouse {d : Nat} {w : PW} {s : HS} {x : Int} (hi : q_hi s) (hR : rHR w s) (x0 : 0 ≤ x) (x1 : x < 256) : (∀ s', q_hf s x = some s' → ∃ w', ex_cal (d + 2) 153 [.ref 46, .int (Int32.ofInt x)] w = some (some (.int (Int32.ofInt 1)), w') ∧ rHR w' s' ∧ sM w w') ∧ (q_hf s x = none → ex_cal (d + 2) 153 [.ref 46, .int (Int32.ofInt x)] w = some (some (.int (Int32.ofInt 0)), w)) := by
  obtain ⟨r, wd, c, l, K, L⟩ := s
  obtain ⟨a1, a2, a3, a4, a5, a6, a7, a8, a9, a10, -⟩ := hi
  obtain ⟨r1, r2, r3, r4, r5, r6, r7⟩ := hR
  unfold q_hf
  dsimp only
  by_cases hx : x = 46 ∨ x = 35 ∨ x = 100
  · rw [if_pos hx]
    have hsort : ∀ d w, ex_cal (d + 1) 152 [.int (Int32.ofInt x)] w = some (some (.int (Int32.ofInt (q_kd1 x))), w) := by
      intro d w
      rw [r_sortBy x0 x1]
      unfold q_kd1
      rcases hx with hx | hx | hx <;> subst hx <;> rfl
    have hk : 0 ≤ q_kd1 x ∧ q_kd1 x ≤ 2 := by unfold q_kd1; split <;> (try split) <;> omega
    have hle : c ≤ (if r = 0 then 6 else wd) ∧ (if r = 0 then 6 else wd) ≤ 6 := by
      by_cases h0 : r = 0
      · rw [if_pos h0]; have := a7 h0; omega
      · rw [if_neg h0]; have := a8 (by omega); omega
    constructor
    · intro s' hs
      by_cases hc : c = (if r = 0 then 6 else wd)
      · rw [if_pos hc] at hs; cases hs
      · rw [if_neg hc] at hs
        cases hs
        refine ⟨ex_up (ex_up w 67 (r * wd + c).toNat (Int32.ofInt (q_kd1 x))) 46 40 (Int32.ofInt (c + 1)), ?_, ⟨r1, r2, rfl, r4, fun i i0 i1 => ?_, fun i i0 i1 => ?_, fun h => ?_⟩, sM_t (sM_67 _ _ _ _ (by omega)) (sM_46 _ _ _ (by omega))⟩
        · rw [ke_153 kc_46]
          by_cases h0 : r = 0
          · rw [if_pos h0] at hc hle
            simp (disch := omega) only [hsort, r1, r2, r3, r4, up_n, up_e, ev_iload, ev_aload, rx_istore, ev_push, ev_iadd, ev_imul, ev_dup_r, ev_dup_i, ev_goto, ev_jsr, rx_ieq_t, rx_ieq_f, rx_ine_t, rx_ine_f, rx_ige_t, rx_ige_f, rx_ile_t, rx_ile_f, rx_zeq_t, rx_zeq_f, rx_zne_t, rx_zne_f, ev_getf, ev_putf, ev_putl, ev_call, nr_i, nr_r, nr_l, nr_n, kS_47, kS_48, kS_49, kS_50, kS_51, kS_52, kS_53, kS_54, kS_55, kS_56, kS_57, kS_58, kS_59, kS_60, kS_61, kS_63, kS_64, kS_65, kS_66, kS_67, kS_68, kS_69, kS_70, rx_zret_t, rx_zretI, rx_zretP, kb_153_0, kb_153_24, kb_153_28, kb_153_33, kb_153_68, kb_153_101, kb_153_140, kb_153_151, kb_153_155, kb_153_156, kb_153_189, kr_153, kf_46_742, kf_46_743, kf_46_744, kf_46_745, kf_46_746, kf_46_747, kk_46_742, kk_46_743, kk_46_744, kk_46_745, List.getD_cons_zero, List.getD_cons_succ, List.set_cons_zero, List.set_cons_succ, ex_spl, ex_low, Option.toList, List.cons_append, List.nil_append, reduceIte, Int.reduceToNat, Nat.reduceDiv, Nat.reduceMod, Nat.reduceAdd, Nat.reduceMul, z_0, z_1, z_10, z_01, reduceCtorEq, ite_true, ite_false, true_and, and_true, ↓bI_01, ↓bP_01, ↓zret0, ↓zret1, z_add, z_sub, z_mul, up_2, not_true, not_false_iff, if_true, if_false, bI_T, bI_F, bP_T, bP_F, or_true, true_or, or_false, false_or, Int.reduceNeg, Int.reduceAdd, Int.reduceSub, Int.reduceMul, Int.reduceEq, Int.reduceLT, Int.reduceLE, Int.natCast_add, Int.cast_ofNat_Int]
          · rw [if_neg h0] at hc hle
            simp (disch := omega) only [hsort, r1, r2, r3, r4, up_n, up_e, ev_iload, ev_aload, rx_istore, ev_push, ev_iadd, ev_imul, ev_dup_r, ev_dup_i, ev_goto, ev_jsr, rx_ieq_t, rx_ieq_f, rx_ine_t, rx_ine_f, rx_ige_t, rx_ige_f, rx_ile_t, rx_ile_f, rx_zeq_t, rx_zeq_f, rx_zne_t, rx_zne_f, ev_getf, ev_putf, ev_putl, ev_call, nr_i, nr_r, nr_l, nr_n, kS_47, kS_48, kS_49, kS_50, kS_51, kS_52, kS_53, kS_54, kS_55, kS_56, kS_57, kS_58, kS_59, kS_60, kS_61, kS_63, kS_64, kS_65, kS_66, kS_67, kS_68, kS_69, kS_70, rx_zret_t, rx_zretI, rx_zretP, kb_153_0, kb_153_24, kb_153_28, kb_153_33, kb_153_68, kb_153_101, kb_153_140, kb_153_151, kb_153_155, kb_153_156, kb_153_189, kr_153, kf_46_742, kf_46_743, kf_46_744, kf_46_745, kf_46_746, kf_46_747, kk_46_742, kk_46_743, kk_46_744, kk_46_745, List.getD_cons_zero, List.getD_cons_succ, List.set_cons_zero, List.set_cons_succ, ex_spl, ex_low, Option.toList, List.cons_append, List.nil_append, reduceIte, Int.reduceToNat, Nat.reduceDiv, Nat.reduceMod, Nat.reduceAdd, Nat.reduceMul, z_0, z_1, z_10, z_01, reduceCtorEq, ite_true, ite_false, true_and, and_true, ↓bI_01, ↓bP_01, ↓zret0, ↓zret1, z_add, z_sub, z_mul, up_2, not_true, not_false_iff, if_true, if_false, bI_T, bI_F, bP_T, bP_F, or_true, true_or, or_false, false_or, Int.reduceNeg, Int.reduceAdd, Int.reduceSub, Int.reduceMul, Int.reduceEq, Int.reduceLT, Int.reduceLE, Int.natCast_add, Int.cast_ofNat_Int]
        · rw [up_n (by omega)]
          by_cases hi : i = r * wd + c
          · rw [hi, up_e (by omega), q_fu_s]
          · rw [up_n (by omega), q_fu_o hi]; exact r5 i i0 (by omega)
        · rw [up_n (by omega), up_n (by omega)]; exact r6 i i0 i1
        · rw [up_n (by omega), up_n (by omega)]; exact r7 h
    · intro hs
      by_cases hc : c = (if r = 0 then 6 else wd)
      · rw [ke_153 kc_46]
        by_cases h0 : r = 0
        · rw [if_pos h0] at hc
          simp (disch := omega) only [hsort, r1, r2, r3, r4, ev_iload, ev_aload, rx_istore, ev_push, ev_iadd, ev_imul, ev_dup_r, ev_dup_i, ev_goto, ev_jsr, rx_ieq_t, rx_ieq_f, rx_ine_t, rx_ine_f, rx_ige_t, rx_ige_f, rx_ile_t, rx_ile_f, rx_zeq_t, rx_zeq_f, rx_zne_t, rx_zne_f, ev_getf, ev_putf, ev_putl, ev_call, nr_i, nr_r, nr_l, nr_n, kS_47, kS_48, kS_49, kS_50, kS_51, kS_52, kS_53, kS_54, kS_55, kS_56, kS_57, kS_58, kS_59, kS_60, kS_61, kS_63, kS_64, kS_65, kS_66, kS_67, kS_68, kS_69, kS_70, rx_zret_t, rx_zretI, rx_zretP, kb_153_0, kb_153_24, kb_153_28, kb_153_33, kb_153_68, kb_153_101, kb_153_140, kb_153_151, kb_153_155, kb_153_156, kb_153_189, kr_153, kf_46_742, kf_46_743, kf_46_744, kf_46_745, kf_46_746, kf_46_747, kk_46_742, kk_46_743, kk_46_744, kk_46_745, List.getD_cons_zero, List.getD_cons_succ, List.set_cons_zero, List.set_cons_succ, ex_spl, ex_low, Option.toList, List.cons_append, List.nil_append, reduceIte, Int.reduceToNat, Nat.reduceDiv, Nat.reduceMod, Nat.reduceAdd, Nat.reduceMul, z_0, z_1, z_10, z_01, reduceCtorEq, ite_true, ite_false, true_and, and_true, ↓bI_01, ↓bP_01, ↓zret0, ↓zret1, z_add, z_sub, z_mul, up_1, up_2, not_true, not_false_iff, if_true, if_false, bI_T, bI_F, bP_T, bP_F, or_true, true_or, or_false, false_or, Int.reduceNeg, Int.reduceAdd, Int.reduceSub, Int.reduceMul, Int.reduceEq, Int.reduceLT, Int.reduceLE, Int.natCast_add, Int.cast_ofNat_Int]
        · rw [if_neg h0] at hc
          simp (disch := omega) only [hsort, r1, r2, r3, r4, ev_iload, ev_aload, rx_istore, ev_push, ev_iadd, ev_imul, ev_dup_r, ev_dup_i, ev_goto, ev_jsr, rx_ieq_t, rx_ieq_f, rx_ine_t, rx_ine_f, rx_ige_t, rx_ige_f, rx_ile_t, rx_ile_f, rx_zeq_t, rx_zeq_f, rx_zne_t, rx_zne_f, ev_getf, ev_putf, ev_putl, ev_call, nr_i, nr_r, nr_l, nr_n, kS_47, kS_48, kS_49, kS_50, kS_51, kS_52, kS_53, kS_54, kS_55, kS_56, kS_57, kS_58, kS_59, kS_60, kS_61, kS_63, kS_64, kS_65, kS_66, kS_67, kS_68, kS_69, kS_70, rx_zret_t, rx_zretI, rx_zretP, kb_153_0, kb_153_24, kb_153_28, kb_153_33, kb_153_68, kb_153_101, kb_153_140, kb_153_151, kb_153_155, kb_153_156, kb_153_189, kr_153, kf_46_742, kf_46_743, kf_46_744, kf_46_745, kf_46_746, kf_46_747, kk_46_742, kk_46_743, kk_46_744, kk_46_745, List.getD_cons_zero, List.getD_cons_succ, List.set_cons_zero, List.set_cons_succ, ex_spl, ex_low, Option.toList, List.cons_append, List.nil_append, reduceIte, Int.reduceToNat, Nat.reduceDiv, Nat.reduceMod, Nat.reduceAdd, Nat.reduceMul, z_0, z_1, z_10, z_01, reduceCtorEq, ite_true, ite_false, true_and, and_true, ↓bI_01, ↓bP_01, ↓zret0, ↓zret1, z_add, z_sub, z_mul, up_1, up_2, not_true, not_false_iff, if_true, if_false, bI_T, bI_F, bP_T, bP_F, or_true, true_or, or_false, false_or, Int.reduceNeg, Int.reduceAdd, Int.reduceSub, Int.reduceMul, Int.reduceEq, Int.reduceLT, Int.reduceLE, Int.natCast_add, Int.cast_ofNat_Int]
      · rw [if_neg hc] at hs; cases hs
  · rw [if_neg hx]
    have hsort : ∀ d w, ex_cal (d + 1) 152 [.int (Int32.ofInt x)] w = some (some (.int (Int32.ofInt (-1))), w) := by
      intro d w
      rw [r_sortBy x0 x1, if_neg (fun h => hx (Or.inl h)), if_neg (fun h => hx (Or.inr (Or.inl h))), if_neg (fun h => hx (Or.inr (Or.inr h)))]
    by_cases hx2 : x = 124
    · rw [if_pos hx2]
      subst hx2
      constructor
      · intro s' hs
        by_cases hl : l = 1
        · rw [if_pos hl] at hs; cases hs
        · rw [if_neg hl] at hs
          cases hs
          have hl0 : l = 0 := by omega
          have hc6 : c ≤ 6 := by
            by_cases h0 : r = 0
            · exact (a7 h0).2
            · have := (a8 (by omega)).2; omega
          refine ⟨ex_up (ex_up w 68 r.toNat (Int32.ofInt c)) 46 41 (Int32.ofInt 1), ?_, ⟨r1, r2, r3, rfl, fun i i0 i1 => ?_, fun i i0 i1 => ?_, fun _ => ?_⟩, sM_t (sM_67 _ _ _ _ (by omega)) (sM_46 _ _ _ (by omega))⟩
          · rw [ke_153 kc_46]
            simp (disch := omega) only [hsort, r1, r2, r3, r4, hl0, ev_iload, ev_aload, rx_istore, ev_push, ev_iadd, ev_imul, ev_dup_r, ev_dup_i, ev_goto, ev_jsr, rx_ieq_t, rx_ieq_f, rx_ine_t, rx_ine_f, rx_ige_t, rx_ige_f, rx_ile_t, rx_ile_f, rx_zeq_t, rx_zeq_f, rx_zne_t, rx_zne_f, ev_getf, ev_putf, ev_putl, ev_call, nr_i, nr_r, nr_l, nr_n, kS_47, kS_48, kS_49, kS_50, kS_51, kS_52, kS_53, kS_54, kS_55, kS_56, kS_57, kS_58, kS_59, kS_60, kS_61, kS_63, kS_64, kS_65, kS_66, kS_67, kS_68, kS_69, kS_70, rx_zret_t, rx_zretI, rx_zretP, kb_153_0, kb_153_24, kb_153_28, kb_153_33, kb_153_68, kb_153_101, kb_153_140, kb_153_151, kb_153_155, kb_153_156, kb_153_189, kr_153, kf_46_742, kf_46_743, kf_46_744, kf_46_745, kf_46_746, kf_46_747, kk_46_742, kk_46_743, kk_46_744, kk_46_745, List.getD_cons_zero, List.getD_cons_succ, List.set_cons_zero, List.set_cons_succ, ex_spl, ex_low, Option.toList, List.cons_append, List.nil_append, reduceIte, Int.reduceToNat, Nat.reduceDiv, Nat.reduceMod, Nat.reduceAdd, Nat.reduceMul, z_0, z_1, z_10, z_01, reduceCtorEq, ite_true, ite_false, true_and, and_true, ↓bI_01, ↓bP_01, ↓zret0, ↓zret1, z_add, z_sub, z_mul, up_1, up_2, not_true, not_false_iff, if_true, if_false, bI_T, bI_F, bP_T, bP_F, or_true, true_or, or_false, false_or, Int.reduceNeg, Int.reduceAdd, Int.reduceSub, Int.reduceMul, Int.reduceEq, Int.reduceLT, Int.reduceLE, Int.natCast_add, Int.cast_ofNat_Int]
          · rw [up_n (by omega), up_n (by omega)]; exact r5 i i0 i1
          · rw [up_n (by omega), up_n (by omega), q_fu_o (by omega)]; exact r6 i i0 i1
          · rw [up_n (by omega), up_e (by omega), q_fu_s]
      · intro hs
        by_cases hl : l = 1
        · rw [ke_153 kc_46]
          simp (disch := omega) only [hsort, r1, r2, r3, r4, hl, ev_iload, ev_aload, rx_istore, ev_push, ev_iadd, ev_imul, ev_dup_r, ev_dup_i, ev_goto, ev_jsr, rx_ieq_t, rx_ieq_f, rx_ine_t, rx_ine_f, rx_ige_t, rx_ige_f, rx_ile_t, rx_ile_f, rx_zeq_t, rx_zeq_f, rx_zne_t, rx_zne_f, ev_getf, ev_putf, ev_putl, ev_call, nr_i, nr_r, nr_l, nr_n, kS_47, kS_48, kS_49, kS_50, kS_51, kS_52, kS_53, kS_54, kS_55, kS_56, kS_57, kS_58, kS_59, kS_60, kS_61, kS_63, kS_64, kS_65, kS_66, kS_67, kS_68, kS_69, kS_70, rx_zret_t, rx_zretI, rx_zretP, kb_153_0, kb_153_24, kb_153_28, kb_153_33, kb_153_68, kb_153_101, kb_153_140, kb_153_151, kb_153_155, kb_153_156, kb_153_189, kr_153, kf_46_742, kf_46_743, kf_46_744, kf_46_745, kf_46_746, kf_46_747, kk_46_742, kk_46_743, kk_46_744, kk_46_745, List.getD_cons_zero, List.getD_cons_succ, List.set_cons_zero, List.set_cons_succ, ex_spl, ex_low, Option.toList, List.cons_append, List.nil_append, reduceIte, Int.reduceToNat, Nat.reduceDiv, Nat.reduceMod, Nat.reduceAdd, Nat.reduceMul, z_0, z_1, z_10, z_01, reduceCtorEq, ite_true, ite_false, true_and, and_true, ↓bI_01, ↓bP_01, ↓zret0, ↓zret1, z_add, z_sub, z_mul, up_1, up_2, not_true, not_false_iff, if_true, if_false, bI_T, bI_F, bP_T, bP_F, or_true, true_or, or_false, false_or, Int.reduceNeg, Int.reduceAdd, Int.reduceSub, Int.reduceMul, Int.reduceEq, Int.reduceLT, Int.reduceLE, Int.natCast_add, Int.cast_ofNat_Int]
        · rw [if_neg hl] at hs; cases hs
    · rw [if_neg hx2]
      by_cases hx3 : x = 47
      · rw [if_pos hx3]
        subst hx3
        constructor
        · intro s' hs
          by_cases hc : l = 1 ∧ r < 3 ∧ (if r = 0 then 1 < c else c = wd)
          · rw [if_pos hc] at hs
            cases hs
            obtain ⟨c1, c2, c3⟩ := hc
            refine ⟨ex_up (ex_up (ex_up (ex_up w 46 39 (Int32.ofInt c)) 46 38 (Int32.ofInt (r + 1))) 46 40 (Int32.ofInt 0)) 46 41 (Int32.ofInt 0), ?_, ⟨rfl, rfl, rfl, rfl, fun i i0 i1 => ?_, fun i i0 i1 => ?_, fun h => absurd h (by omega)⟩, sM_t (sM_t (sM_t (sM_46 _ _ _ (by omega)) (sM_46 _ _ _ (by omega))) (sM_46 _ _ _ (by omega))) (sM_46 _ _ _ (by omega))⟩
            · rw [ke_153 kc_46]
              by_cases h0 : r = 0
              · rw [if_pos h0] at c3
                have := (a7 h0).2
                simp (disch := omega) only [hsort, r1, r2, r3, r4, c1, up_n, up_e, ev_iload, ev_aload, rx_istore, ev_push, ev_iadd, ev_imul, ev_dup_r, ev_dup_i, ev_goto, ev_jsr, rx_ieq_t, rx_ieq_f, rx_ine_t, rx_ine_f, rx_ige_t, rx_ige_f, rx_ile_t, rx_ile_f, rx_zeq_t, rx_zeq_f, rx_zne_t, rx_zne_f, ev_getf, ev_putf, ev_putl, ev_call, nr_i, nr_r, nr_l, nr_n, kS_47, kS_48, kS_49, kS_50, kS_51, kS_52, kS_53, kS_54, kS_55, kS_56, kS_57, kS_58, kS_59, kS_60, kS_61, kS_63, kS_64, kS_65, kS_66, kS_67, kS_68, kS_69, kS_70, rx_zret_t, rx_zretI, rx_zretP, kb_153_0, kb_153_24, kb_153_28, kb_153_33, kb_153_68, kb_153_101, kb_153_140, kb_153_151, kb_153_155, kb_153_156, kb_153_189, kr_153, kf_46_742, kf_46_743, kf_46_744, kf_46_745, kf_46_746, kf_46_747, kk_46_742, kk_46_743, kk_46_744, kk_46_745, List.getD_cons_zero, List.getD_cons_succ, List.set_cons_zero, List.set_cons_succ, ex_spl, ex_low, Option.toList, List.cons_append, List.nil_append, reduceIte, Int.reduceToNat, Nat.reduceDiv, Nat.reduceMod, Nat.reduceAdd, Nat.reduceMul, z_0, z_1, z_10, z_01, reduceCtorEq, ite_true, ite_false, true_and, and_true, ↓bI_01, ↓bP_01, ↓zret0, ↓zret1, z_add, z_sub, z_mul, up_2, not_true, not_false_iff, if_true, if_false, bI_T, bI_F, bP_T, bP_F, or_true, true_or, or_false, false_or, Int.reduceNeg, Int.reduceAdd, Int.reduceSub, Int.reduceMul, Int.reduceEq, Int.reduceLT, Int.reduceLE, Int.natCast_add, Int.cast_ofNat_Int]
              · rw [if_neg h0] at c3
                simp (disch := omega) only [hsort, r1, r2, r3, r4, c1, up_n, up_e, ev_iload, ev_aload, rx_istore, ev_push, ev_iadd, ev_imul, ev_dup_r, ev_dup_i, ev_goto, ev_jsr, rx_ieq_t, rx_ieq_f, rx_ine_t, rx_ine_f, rx_ige_t, rx_ige_f, rx_ile_t, rx_ile_f, rx_zeq_t, rx_zeq_f, rx_zne_t, rx_zne_f, ev_getf, ev_putf, ev_putl, ev_call, nr_i, nr_r, nr_l, nr_n, kS_47, kS_48, kS_49, kS_50, kS_51, kS_52, kS_53, kS_54, kS_55, kS_56, kS_57, kS_58, kS_59, kS_60, kS_61, kS_63, kS_64, kS_65, kS_66, kS_67, kS_68, kS_69, kS_70, rx_zret_t, rx_zretI, rx_zretP, kb_153_0, kb_153_24, kb_153_28, kb_153_33, kb_153_68, kb_153_101, kb_153_140, kb_153_151, kb_153_155, kb_153_156, kb_153_189, kr_153, kf_46_742, kf_46_743, kf_46_744, kf_46_745, kf_46_746, kf_46_747, kk_46_742, kk_46_743, kk_46_744, kk_46_745, List.getD_cons_zero, List.getD_cons_succ, List.set_cons_zero, List.set_cons_succ, ex_spl, ex_low, Option.toList, List.cons_append, List.nil_append, reduceIte, Int.reduceToNat, Nat.reduceDiv, Nat.reduceMod, Nat.reduceAdd, Nat.reduceMul, z_0, z_1, z_10, z_01, reduceCtorEq, ite_true, ite_false, true_and, and_true, ↓bI_01, ↓bP_01, ↓zret0, ↓zret1, z_add, z_sub, z_mul, up_2, not_true, not_false_iff, if_true, if_false, bI_T, bI_F, bP_T, bP_F, or_true, true_or, or_false, false_or, Int.reduceNeg, Int.reduceAdd, Int.reduceSub, Int.reduceMul, Int.reduceEq, Int.reduceLT, Int.reduceLE, Int.natCast_add, Int.cast_ofNat_Int]
            · rw [up_n (by omega), up_n (by omega), up_n (by omega), up_n (by omega)]
              refine r5 i i0 ?_
              rw [Int.add_mul, Int.one_mul, Int.add_zero] at i1
              by_cases h0 : r = 0
              · subst h0; rw [Int.zero_mul] at i1 ⊢; exact i1
              · rw [if_neg h0] at c3; subst c3; exact i1
            · rw [up_n (by omega), up_n (by omega), up_n (by omega), up_n (by omega)]
              by_cases hi : i = r
              · rw [hi]; exact r7 c1
              · exact r6 i i0 (by omega)
          · rw [if_neg hc] at hs; cases hs
        · intro hs
          by_cases hc : l = 1 ∧ r < 3 ∧ (if r = 0 then 1 < c else c = wd)
          · rw [if_pos hc] at hs; cases hs
          · have hc6 : c ≤ 6 := by
              by_cases h0 : r = 0
              · exact (a7 h0).2
              · have := (a8 (by omega)).2; omega
            rw [ke_153 kc_46]
            by_cases hl : l = 1
            · by_cases hr3 : r < 3
              · by_cases h0 : r = 0
                · have h1 : ¬ 1 < c := fun h => hc ⟨hl, hr3, by rw [if_pos h0]; exact h⟩
                  simp (disch := omega) only [hsort, r1, r2, r3, r4, hl, ev_iload, ev_aload, rx_istore, ev_push, ev_iadd, ev_imul, ev_dup_r, ev_dup_i, ev_goto, ev_jsr, rx_ieq_t, rx_ieq_f, rx_ine_t, rx_ine_f, rx_ige_t, rx_ige_f, rx_ile_t, rx_ile_f, rx_zeq_t, rx_zeq_f, rx_zne_t, rx_zne_f, ev_getf, ev_putf, ev_putl, ev_call, nr_i, nr_r, nr_l, nr_n, kS_47, kS_48, kS_49, kS_50, kS_51, kS_52, kS_53, kS_54, kS_55, kS_56, kS_57, kS_58, kS_59, kS_60, kS_61, kS_63, kS_64, kS_65, kS_66, kS_67, kS_68, kS_69, kS_70, rx_zret_t, rx_zretI, rx_zretP, kb_153_0, kb_153_24, kb_153_28, kb_153_33, kb_153_68, kb_153_101, kb_153_140, kb_153_151, kb_153_155, kb_153_156, kb_153_189, kr_153, kf_46_742, kf_46_743, kf_46_744, kf_46_745, kf_46_746, kf_46_747, kk_46_742, kk_46_743, kk_46_744, kk_46_745, List.getD_cons_zero, List.getD_cons_succ, List.set_cons_zero, List.set_cons_succ, ex_spl, ex_low, Option.toList, List.cons_append, List.nil_append, reduceIte, Int.reduceToNat, Nat.reduceDiv, Nat.reduceMod, Nat.reduceAdd, Nat.reduceMul, z_0, z_1, z_10, z_01, reduceCtorEq, ite_true, ite_false, true_and, and_true, ↓bI_01, ↓bP_01, ↓zret0, ↓zret1, z_add, z_sub, z_mul, up_1, up_2, not_true, not_false_iff, if_true, if_false, bI_T, bI_F, bP_T, bP_F, or_true, true_or, or_false, false_or, Int.reduceNeg, Int.reduceAdd, Int.reduceSub, Int.reduceMul, Int.reduceEq, Int.reduceLT, Int.reduceLE, Int.natCast_add, Int.cast_ofNat_Int]
                · have h1 : ¬ c = wd := fun h => hc ⟨hl, hr3, by rw [if_neg h0]; exact h⟩
                  simp (disch := omega) only [hsort, r1, r2, r3, r4, hl, ev_iload, ev_aload, rx_istore, ev_push, ev_iadd, ev_imul, ev_dup_r, ev_dup_i, ev_goto, ev_jsr, rx_ieq_t, rx_ieq_f, rx_ine_t, rx_ine_f, rx_ige_t, rx_ige_f, rx_ile_t, rx_ile_f, rx_zeq_t, rx_zeq_f, rx_zne_t, rx_zne_f, ev_getf, ev_putf, ev_putl, ev_call, nr_i, nr_r, nr_l, nr_n, kS_47, kS_48, kS_49, kS_50, kS_51, kS_52, kS_53, kS_54, kS_55, kS_56, kS_57, kS_58, kS_59, kS_60, kS_61, kS_63, kS_64, kS_65, kS_66, kS_67, kS_68, kS_69, kS_70, rx_zret_t, rx_zretI, rx_zretP, kb_153_0, kb_153_24, kb_153_28, kb_153_33, kb_153_68, kb_153_101, kb_153_140, kb_153_151, kb_153_155, kb_153_156, kb_153_189, kr_153, kf_46_742, kf_46_743, kf_46_744, kf_46_745, kf_46_746, kf_46_747, kk_46_742, kk_46_743, kk_46_744, kk_46_745, List.getD_cons_zero, List.getD_cons_succ, List.set_cons_zero, List.set_cons_succ, ex_spl, ex_low, Option.toList, List.cons_append, List.nil_append, reduceIte, Int.reduceToNat, Nat.reduceDiv, Nat.reduceMod, Nat.reduceAdd, Nat.reduceMul, z_0, z_1, z_10, z_01, reduceCtorEq, ite_true, ite_false, true_and, and_true, ↓bI_01, ↓bP_01, ↓zret0, ↓zret1, z_add, z_sub, z_mul, up_1, up_2, not_true, not_false_iff, if_true, if_false, bI_T, bI_F, bP_T, bP_F, or_true, true_or, or_false, false_or, Int.reduceNeg, Int.reduceAdd, Int.reduceSub, Int.reduceMul, Int.reduceEq, Int.reduceLT, Int.reduceLE, Int.natCast_add, Int.cast_ofNat_Int]
              · simp (disch := omega) only [hsort, r1, r2, r3, r4, hl, ev_iload, ev_aload, rx_istore, ev_push, ev_iadd, ev_imul, ev_dup_r, ev_dup_i, ev_goto, ev_jsr, rx_ieq_t, rx_ieq_f, rx_ine_t, rx_ine_f, rx_ige_t, rx_ige_f, rx_ile_t, rx_ile_f, rx_zeq_t, rx_zeq_f, rx_zne_t, rx_zne_f, ev_getf, ev_putf, ev_putl, ev_call, nr_i, nr_r, nr_l, nr_n, kS_47, kS_48, kS_49, kS_50, kS_51, kS_52, kS_53, kS_54, kS_55, kS_56, kS_57, kS_58, kS_59, kS_60, kS_61, kS_63, kS_64, kS_65, kS_66, kS_67, kS_68, kS_69, kS_70, rx_zret_t, rx_zretI, rx_zretP, kb_153_0, kb_153_24, kb_153_28, kb_153_33, kb_153_68, kb_153_101, kb_153_140, kb_153_151, kb_153_155, kb_153_156, kb_153_189, kr_153, kf_46_742, kf_46_743, kf_46_744, kf_46_745, kf_46_746, kf_46_747, kk_46_742, kk_46_743, kk_46_744, kk_46_745, List.getD_cons_zero, List.getD_cons_succ, List.set_cons_zero, List.set_cons_succ, ex_spl, ex_low, Option.toList, List.cons_append, List.nil_append, reduceIte, Int.reduceToNat, Nat.reduceDiv, Nat.reduceMod, Nat.reduceAdd, Nat.reduceMul, z_0, z_1, z_10, z_01, reduceCtorEq, ite_true, ite_false, true_and, and_true, ↓bI_01, ↓bP_01, ↓zret0, ↓zret1, z_add, z_sub, z_mul, up_1, up_2, not_true, not_false_iff, if_true, if_false, bI_T, bI_F, bP_T, bP_F, or_true, true_or, or_false, false_or, Int.reduceNeg, Int.reduceAdd, Int.reduceSub, Int.reduceMul, Int.reduceEq, Int.reduceLT, Int.reduceLE, Int.natCast_add, Int.cast_ofNat_Int]
            · have hl0 : l = 0 := by omega
              simp (disch := omega) only [hsort, r1, r2, r3, r4, hl0, ev_iload, ev_aload, rx_istore, ev_push, ev_iadd, ev_imul, ev_dup_r, ev_dup_i, ev_goto, ev_jsr, rx_ieq_t, rx_ieq_f, rx_ine_t, rx_ine_f, rx_ige_t, rx_ige_f, rx_ile_t, rx_ile_f, rx_zeq_t, rx_zeq_f, rx_zne_t, rx_zne_f, ev_getf, ev_putf, ev_putl, ev_call, nr_i, nr_r, nr_l, nr_n, kS_47, kS_48, kS_49, kS_50, kS_51, kS_52, kS_53, kS_54, kS_55, kS_56, kS_57, kS_58, kS_59, kS_60, kS_61, kS_63, kS_64, kS_65, kS_66, kS_67, kS_68, kS_69, kS_70, rx_zret_t, rx_zretI, rx_zretP, kb_153_0, kb_153_24, kb_153_28, kb_153_33, kb_153_68, kb_153_101, kb_153_140, kb_153_151, kb_153_155, kb_153_156, kb_153_189, kr_153, kf_46_742, kf_46_743, kf_46_744, kf_46_745, kf_46_746, kf_46_747, kk_46_742, kk_46_743, kk_46_744, kk_46_745, List.getD_cons_zero, List.getD_cons_succ, List.set_cons_zero, List.set_cons_succ, ex_spl, ex_low, Option.toList, List.cons_append, List.nil_append, reduceIte, Int.reduceToNat, Nat.reduceDiv, Nat.reduceMod, Nat.reduceAdd, Nat.reduceMul, z_0, z_1, z_10, z_01, reduceCtorEq, ite_true, ite_false, true_and, and_true, ↓bI_01, ↓bP_01, ↓zret0, ↓zret1, z_add, z_sub, z_mul, up_1, up_2, not_true, not_false_iff, if_true, if_false, bI_T, bI_F, bP_T, bP_F, or_true, true_or, or_false, false_or, Int.reduceNeg, Int.reduceAdd, Int.reduceSub, Int.reduceMul, Int.reduceEq, Int.reduceLT, Int.reduceLE, Int.natCast_add, Int.cast_ofNat_Int]
      · rw [if_neg hx3]
        refine ⟨fun s' hs => (by cases hs), fun _ => ?_⟩
        rw [ke_153 kc_46]
        simp (disch := omega) only [hsort, ev_iload, ev_aload, rx_istore, ev_push, ev_iadd, ev_imul, ev_dup_r, ev_dup_i, ev_goto, ev_jsr, rx_ieq_t, rx_ieq_f, rx_ine_t, rx_ine_f, rx_ige_t, rx_ige_f, rx_ile_t, rx_ile_f, rx_zeq_t, rx_zeq_f, rx_zne_t, rx_zne_f, ev_getf, ev_putf, ev_putl, ev_call, nr_i, nr_r, nr_l, nr_n, kS_47, kS_48, kS_49, kS_50, kS_51, kS_52, kS_53, kS_54, kS_55, kS_56, kS_57, kS_58, kS_59, kS_60, kS_61, kS_63, kS_64, kS_65, kS_66, kS_67, kS_68, kS_69, kS_70, rx_zret_t, rx_zretI, rx_zretP, kb_153_0, kb_153_24, kb_153_28, kb_153_33, kb_153_68, kb_153_101, kb_153_140, kb_153_151, kb_153_155, kb_153_156, kb_153_189, kr_153, kf_46_742, kf_46_743, kf_46_744, kf_46_745, kf_46_746, kf_46_747, kk_46_742, kk_46_743, kk_46_744, kk_46_745, List.getD_cons_zero, List.getD_cons_succ, List.set_cons_zero, List.set_cons_succ, ex_spl, ex_low, Option.toList, List.cons_append, List.nil_append, reduceIte, Int.reduceToNat, Nat.reduceDiv, Nat.reduceMod, Nat.reduceAdd, Nat.reduceMul, z_0, z_1, z_10, z_01, reduceCtorEq, ite_true, ite_false, true_and, and_true, ↓bI_01, ↓bP_01, ↓zret0, ↓zret1, z_add, z_sub, z_mul, up_1, up_2, not_true, not_false_iff, if_true, if_false, bI_T, bI_F, bP_T, bP_F, or_true, true_or, or_false, false_or, Int.reduceNeg, Int.reduceAdd, Int.reduceSub, Int.reduceMul, Int.reduceEq, Int.reduceLT, Int.reduceLE, Int.natCast_add, Int.cast_ofNat_Int]
theorem r_readHouse {d : Nat} {A : AS} {b : Int} {w : PW} (hV : q_v0 A) (hM : rN A b w) {m : Nat} {s : HS} (hm : p_tk q_hf q_h0 A m s) : ∃ w', ex_cal (d + 3) 154 [.ref 46] w = some (none, w') ∧ sM w w' ∧ rHR w' s ∧ w'.1 46 36 = Int32.ofInt (m : Int) ∧ w'.1 46 37 = bP ((m : Int) = A 0 8 ∧ q_hw s) := by
  have hr := q_rng hV
  rw [ke_154 kc_46]
  simp (disch := omega) only [ev_iload, ev_aload, rx_istore, ev_iinc, ev_push, ev_goto, ev_jsr, rx_ine_t, rx_ine_f, rx_ige_t, rx_ige_f, rx_zeq_t, rx_zeq_f, rx_zle_t, rx_zle_f, ev_getf, ev_putf, ev_putl, ev_callv, nr_i, nr_r, nr_l, nr_n, kB_62, rx_vret, kb_154_0, kb_154_49, kb_154_92, kb_154_93, kr_154, kf_46_728, kf_46_729, kf_46_742, kf_46_743, kf_46_744, kf_46_745, kk_46_740, kk_46_741, kk_46_742, kk_46_743, kk_46_744, kk_46_745, List.getD_cons_zero, List.getD_cons_succ, List.set_cons_zero, List.set_cons_succ, ex_spl, ex_low, Option.toList, List.cons_append, List.nil_append, reduceIte, Int.reduceToNat, Nat.reduceDiv, Nat.reduceMod, Nat.reduceAdd, Nat.reduceMul, z_0, z_1, z_10, z_01, reduceCtorEq, ite_true, ite_false, true_and, and_true, ↓bI_01, ↓bP_01, ↓zret0, ↓zret1, z_add, z_sub, z_mul, up_1, up_2, not_true, not_false_iff, if_true, if_false, bI_T, bI_F, bP_T, bP_F, or_true, true_or, or_false, false_or, Int.reduceNeg, Int.reduceAdd, Int.reduceSub, Int.reduceMul, Int.reduceEq, Int.reduceLT, Int.reduceLE, Int.natCast_add, Int.cast_ofNat_Int]
  refine ex_loop (Q := fun q => ∃ w', q = some (none, w') ∧ sM w w' ∧ rHR w' s ∧ w'.1 46 36 = Int32.ofInt (m : Int) ∧ w'.1 46 37 = bP ((m : Int) = A 0 8 ∧ q_hw s)) (fun i st => ∃ w1 s1, st = (ex_blk 154 22, [.ref 46, .int (Int32.ofInt (i : Int))], [], w1) ∧ p_tr q_hf q_h0 A i s1 ∧ rHR w1 s1 ∧ sM w w1) m ?_ ?_ ?_
  · exact ⟨_, q_h0, rfl, rfl, ⟨rfl, rfl, rfl, rfl, fun i i0 i1 => absurd i1 (by omega), fun i i0 i1 => absurd i1 (by omega), fun h => absurd h (by omega)⟩, sM_t (sM_t (sM_t (sM_46 _ _ _ (by omega)) (sM_46 _ _ _ (by omega))) (sM_46 _ _ _ (by omega))) (sM_46 _ _ _ (by omega))⟩
  · rintro i st hi ⟨w1, s1, rfl, ht, R1, o1⟩
    right
    have hM1 := rN_cg hM o1
    have g24 := hM1.1.2.2.2.2.2.2.2.2.2.1
    have hmm := hm.2.1
    have hx := hV.2.2.1.2.2 i (by omega) (by omega)
    have hp := hM1.2.2.2.2.2.2.2 i (by omega) (by omega)
    obtain ⟨s2, f2, t2⟩ := p_tr_lt hm.1 hi ht
    obtain ⟨w2, e2, R2, o2⟩ := (r_takeHouse (d := d) (x := A 8 i) (q_hi_t ht) R1 (by omega) (by omega)).1 s2 f2
    refine ⟨(ex_blk 154 22, [.ref 46, .int (Int32.ofInt ((i : Int) + 1))], [], w2), ?_, w2, s2, rfl, t2, R2, sM_t o1 o2⟩
    conv => lhs; rw [kb_154_22]
    simp (disch := omega) only [g24, hp, e2, ev_iload, ev_aload, rx_istore, ev_iinc, ev_push, ev_goto, ev_jsr, rx_ine_t, rx_ine_f, rx_ige_t, rx_ige_f, rx_zeq_t, rx_zeq_f, rx_zle_t, rx_zle_f, ev_getf, ev_putf, ev_putl, ev_callv, nr_i, nr_r, nr_l, nr_n, kB_62, rx_vret, kb_154_0, kb_154_49, kb_154_92, kb_154_93, kr_154, kf_46_728, kf_46_729, kf_46_742, kf_46_743, kf_46_744, kf_46_745, kk_46_740, kk_46_741, kk_46_742, kk_46_743, kk_46_744, kk_46_745, List.getD_cons_zero, List.getD_cons_succ, List.set_cons_zero, List.set_cons_succ, ex_spl, ex_low, Option.toList, List.cons_append, List.nil_append, reduceIte, Int.reduceToNat, Nat.reduceDiv, Nat.reduceMod, Nat.reduceAdd, Nat.reduceMul, z_0, z_1, z_10, z_01, reduceCtorEq, ite_true, ite_false, true_and, and_true, ↓bI_01, ↓bP_01, ↓zret0, ↓zret1, z_add, z_sub, z_mul, up_1, up_2, not_true, not_false_iff, if_true, if_false, bI_T, bI_F, bP_T, bP_F, or_true, true_or, or_false, false_or, Int.reduceNeg, Int.reduceAdd, Int.reduceSub, Int.reduceMul, Int.reduceEq, Int.reduceLT, Int.reduceLE, Int.natCast_add, Int.cast_ofNat_Int]
  · rintro st ⟨w1, s1, rfl, ht, R1, o1⟩
    have hM1 := rN_cg hM o1
    have g24 := hM1.1.2.2.2.2.2.2.2.2.2.1
    have hmm := hm.2.1
    have hs := p_tr_u ht hm.1
    subst hs
    have hi := q_hi_t ht
    refine ⟨ex_up (ex_up w1 46 36 (Int32.ofInt (m : Int))) 46 37 (bP ((m : Int) = A 0 8 ∧ q_hw s1)), ?_, sM_t o1 (sM_t (sM_46 _ _ _ (by omega)) (sM_46 _ _ _ (by omega))), ?_, ?_, up_s⟩
    · rw [kb_154_22]
      by_cases hl : (m : Int) < A 0 8
      · have hx := hV.2.2.1.2.2 m (by omega) hl
        have hp := hM1.2.2.2.2.2.2.2 m (by omega) hl
        have e2 := (r_takeHouse (d := d) (x := A 8 m) hi R1 (by omega) (by omega)).2 (hm.2.2 hl)
        rw [bP_f (fun h => by have := h.1; omega)]
        simp (disch := omega) only [g24, hp, e2, up_n, up_e, ev_iload, ev_aload, rx_istore, ev_iinc, ev_push, ev_goto, ev_jsr, rx_ine_t, rx_ine_f, rx_ige_t, rx_ige_f, rx_zeq_t, rx_zeq_f, rx_zle_t, rx_zle_f, ev_getf, ev_putf, ev_putl, ev_callv, nr_i, nr_r, nr_l, nr_n, kB_62, rx_vret, kb_154_0, kb_154_49, kb_154_92, kb_154_93, kr_154, kf_46_728, kf_46_729, kf_46_742, kf_46_743, kf_46_744, kf_46_745, kk_46_740, kk_46_741, kk_46_742, kk_46_743, kk_46_744, kk_46_745, List.getD_cons_zero, List.getD_cons_succ, List.set_cons_zero, List.set_cons_succ, ex_spl, ex_low, Option.toList, List.cons_append, List.nil_append, reduceIte, Int.reduceToNat, Nat.reduceDiv, Nat.reduceMod, Nat.reduceAdd, Nat.reduceMul, z_0, z_1, z_10, z_01, reduceCtorEq, ite_true, ite_false, true_and, and_true, ↓bI_01, ↓bP_01, ↓zret0, ↓zret1, z_add, z_sub, z_mul, up_2, not_true, not_false_iff, if_true, if_false, bI_T, bI_F, bP_T, bP_F, or_true, true_or, or_false, false_or, Int.reduceNeg, Int.reduceAdd, Int.reduceSub, Int.reduceMul, Int.reduceEq, Int.reduceLT, Int.reduceLE, Int.natCast_add, Int.cast_ofNat_Int]
      · have hml : (m : Int) = A 0 8 := by omega
        obtain ⟨r, wd, c, l, K, L⟩ := s1
        obtain ⟨a1, a2, a3, a4, a5, a6, a7, a8, a9, a10, -⟩ := hi
        obtain ⟨r1, r2, r3, r4, -⟩ := R1
        have hc6 : c ≤ 6 := by
          by_cases h0 : r = 0
          · exact (a7 h0).2
          · have := (a8 (by omega)).2; omega
        rw [hml]
        by_cases hl1 : l = 1
        · by_cases h1 : 1 ≤ r
          · by_cases hcw : c = wd
            · rw [bP_t (show A 0 8 = A 0 8 ∧ q_hw (r, wd, c, l, K, L) from ⟨rfl, hl1, h1, hcw⟩)]
              simp (disch := omega) only [g24, r1, r2, r3, r4, hl1, up_n, up_e, ev_iload, ev_aload, rx_istore, ev_iinc, ev_push, ev_goto, ev_jsr, rx_ine_t, rx_ine_f, rx_ige_t, rx_ige_f, rx_zeq_t, rx_zeq_f, rx_zle_t, rx_zle_f, ev_getf, ev_putf, ev_putl, ev_callv, nr_i, nr_r, nr_l, nr_n, kB_62, rx_vret, kb_154_0, kb_154_49, kb_154_92, kb_154_93, kr_154, kf_46_728, kf_46_729, kf_46_742, kf_46_743, kf_46_744, kf_46_745, kk_46_740, kk_46_741, kk_46_742, kk_46_743, kk_46_744, kk_46_745, List.getD_cons_zero, List.getD_cons_succ, List.set_cons_zero, List.set_cons_succ, ex_spl, ex_low, Option.toList, List.cons_append, List.nil_append, reduceIte, Int.reduceToNat, Nat.reduceDiv, Nat.reduceMod, Nat.reduceAdd, Nat.reduceMul, z_0, z_1, z_10, z_01, reduceCtorEq, ite_true, ite_false, true_and, and_true, ↓bI_01, ↓bP_01, ↓zret0, ↓zret1, z_add, z_sub, z_mul, up_2, not_true, not_false_iff, if_true, if_false, bI_T, bI_F, bP_T, bP_F, or_true, true_or, or_false, false_or, Int.reduceNeg, Int.reduceAdd, Int.reduceSub, Int.reduceMul, Int.reduceEq, Int.reduceLT, Int.reduceLE, Int.natCast_add, Int.cast_ofNat_Int]
            · rw [bP_f (fun h => hcw h.2.2.2)]
              simp (disch := omega) only [g24, r1, r2, r3, r4, hl1, up_n, up_e, ev_iload, ev_aload, rx_istore, ev_iinc, ev_push, ev_goto, ev_jsr, rx_ine_t, rx_ine_f, rx_ige_t, rx_ige_f, rx_zeq_t, rx_zeq_f, rx_zle_t, rx_zle_f, ev_getf, ev_putf, ev_putl, ev_callv, nr_i, nr_r, nr_l, nr_n, kB_62, rx_vret, kb_154_0, kb_154_49, kb_154_92, kb_154_93, kr_154, kf_46_728, kf_46_729, kf_46_742, kf_46_743, kf_46_744, kf_46_745, kk_46_740, kk_46_741, kk_46_742, kk_46_743, kk_46_744, kk_46_745, List.getD_cons_zero, List.getD_cons_succ, List.set_cons_zero, List.set_cons_succ, ex_spl, ex_low, Option.toList, List.cons_append, List.nil_append, reduceIte, Int.reduceToNat, Nat.reduceDiv, Nat.reduceMod, Nat.reduceAdd, Nat.reduceMul, z_0, z_1, z_10, z_01, reduceCtorEq, ite_true, ite_false, true_and, and_true, ↓bI_01, ↓bP_01, ↓zret0, ↓zret1, z_add, z_sub, z_mul, up_2, not_true, not_false_iff, if_true, if_false, bI_T, bI_F, bP_T, bP_F, or_true, true_or, or_false, false_or, Int.reduceNeg, Int.reduceAdd, Int.reduceSub, Int.reduceMul, Int.reduceEq, Int.reduceLT, Int.reduceLE, Int.natCast_add, Int.cast_ofNat_Int]
          · rw [bP_f (fun h => h1 h.2.2.1)]
            simp (disch := omega) only [g24, r1, r2, r3, r4, hl1, up_n, up_e, ev_iload, ev_aload, rx_istore, ev_iinc, ev_push, ev_goto, ev_jsr, rx_ine_t, rx_ine_f, rx_ige_t, rx_ige_f, rx_zeq_t, rx_zeq_f, rx_zle_t, rx_zle_f, ev_getf, ev_putf, ev_putl, ev_callv, nr_i, nr_r, nr_l, nr_n, kB_62, rx_vret, kb_154_0, kb_154_49, kb_154_92, kb_154_93, kr_154, kf_46_728, kf_46_729, kf_46_742, kf_46_743, kf_46_744, kf_46_745, kk_46_740, kk_46_741, kk_46_742, kk_46_743, kk_46_744, kk_46_745, List.getD_cons_zero, List.getD_cons_succ, List.set_cons_zero, List.set_cons_succ, ex_spl, ex_low, Option.toList, List.cons_append, List.nil_append, reduceIte, Int.reduceToNat, Nat.reduceDiv, Nat.reduceMod, Nat.reduceAdd, Nat.reduceMul, z_0, z_1, z_10, z_01, reduceCtorEq, ite_true, ite_false, true_and, and_true, ↓bI_01, ↓bP_01, ↓zret0, ↓zret1, z_add, z_sub, z_mul, up_2, not_true, not_false_iff, if_true, if_false, bI_T, bI_F, bP_T, bP_F, or_true, true_or, or_false, false_or, Int.reduceNeg, Int.reduceAdd, Int.reduceSub, Int.reduceMul, Int.reduceEq, Int.reduceLT, Int.reduceLE, Int.natCast_add, Int.cast_ofNat_Int]
        · have hl0 : l = 0 := by omega
          rw [bP_f (fun h => hl1 h.2.1)]
          simp (disch := omega) only [g24, r1, r2, r3, r4, hl0, up_n, up_e, ev_iload, ev_aload, rx_istore, ev_iinc, ev_push, ev_goto, ev_jsr, rx_ine_t, rx_ine_f, rx_ige_t, rx_ige_f, rx_zeq_t, rx_zeq_f, rx_zle_t, rx_zle_f, ev_getf, ev_putf, ev_putl, ev_callv, nr_i, nr_r, nr_l, nr_n, kB_62, rx_vret, kb_154_0, kb_154_49, kb_154_92, kb_154_93, kr_154, kf_46_728, kf_46_729, kf_46_742, kf_46_743, kf_46_744, kf_46_745, kk_46_740, kk_46_741, kk_46_742, kk_46_743, kk_46_744, kk_46_745, List.getD_cons_zero, List.getD_cons_succ, List.set_cons_zero, List.set_cons_succ, ex_spl, ex_low, Option.toList, List.cons_append, List.nil_append, reduceIte, Int.reduceToNat, Nat.reduceDiv, Nat.reduceMod, Nat.reduceAdd, Nat.reduceMul, z_0, z_1, z_10, z_01, reduceCtorEq, ite_true, ite_false, true_and, and_true, ↓bI_01, ↓bP_01, ↓zret0, ↓zret1, z_add, z_sub, z_mul, up_2, not_true, not_false_iff, if_true, if_false, bI_T, bI_F, bP_T, bP_F, or_true, true_or, or_false, false_or, Int.reduceNeg, Int.reduceAdd, Int.reduceSub, Int.reduceMul, Int.reduceEq, Int.reduceLT, Int.reduceLE, Int.natCast_add, Int.cast_ofNat_Int]
    · obtain ⟨r, wd, c, l, K, L⟩ := s1
      obtain ⟨r1, r2, r3, r4, r5, r6, r7⟩ := R1
      exact ⟨r1, r2, r3, r4, r5, r6, r7⟩
    · rw [up_n (by omega), up_e (by omega)]
