/-! moves(): the class, by none, one, two -/
def rAn (w : PW) (a b x c y : Int) : Prop := w.1 45 0 = Int32.ofInt a ∧ w.1 45 1 = Int32.ofInt b ∧ w.1 45 2 = Int32.ofInt x ∧ w.1 45 3 = Int32.ofInt c ∧ w.1 45 4 = Int32.ofInt y
def q_plc (w : PW) (b x : Int) : Prop := (b = -1 ∧ x = -1) ∨ (0 ≤ b ∧ b < 3 ∧ w.1 43 b.toNat = Int32.ofInt x)
theorem m_placeOf {d : Nat} {w : PW} {b x : Int} (h : q_plc w b x) : ex_cal (d + 2) 75 [.ref 41, .int (Int32.ofInt b)] w = some (some (.int (Int32.ofInt x)), w) := by
  rw [ke_75 kc_41]
  rcases h with ⟨h1, h2⟩ | ⟨h1, h2, h3⟩
  · rw [h2]
    simp (disch := omega) only [m_below, bI_t, bI_f, ev_iload, ev_aload, ev_push, ev_goto, ev_jsr, rx_zeq_t, rx_zeq_f, ev_getf, ev_iald, ev_call, nr_i, nr_r, nr_l, nr_n, kA_2, kA_6, kA_7, kA_8, kA_9, kA_10, kA_11, kA_12, kA_13, kA_14, kA_15, kA_16, kA_19, kA_22, kA_24, kA_26, kA_28, kA_31, kA_33, kA_35, kA_37, kA_39, kA_40, kA_42, kA_43, kA_44, kA_45, rx_iret, kb_75_0, kb_75_17, kb_75_18, kr_75, kf_41_385, List.getD_cons_zero, List.getD_cons_succ, List.set_cons_zero, List.set_cons_succ, ex_spl, ex_low, Option.toList, List.cons_append, List.nil_append, reduceIte, Int.reduceToNat, Nat.reduceDiv, Nat.reduceMod, Nat.reduceAdd, Nat.reduceMul, z_0, z_1, z_10, z_01, reduceCtorEq, ite_true, ite_false, true_and, and_true, ↓bI_01, ↓bP_01, ↓zret0, ↓zret1, z_add, z_sub, z_mul, up_1, up_2, not_true, not_false_iff, if_true, if_false, bI_T, bI_F, bP_T, bP_F, or_true, true_or, or_false, false_or, Int.reduceNeg, Int.reduceAdd, Int.reduceSub, Int.reduceMul, Int.reduceEq, Int.reduceLT, Int.reduceLE, Int.natCast_add, Int.cast_ofNat_Int]
  · simp (disch := omega) only [m_below, bI_t, bI_f, h3, ev_iload, ev_aload, ev_push, ev_goto, ev_jsr, rx_zeq_t, rx_zeq_f, ev_getf, ev_iald, ev_call, nr_i, nr_r, nr_l, nr_n, kA_2, kA_6, kA_7, kA_8, kA_9, kA_10, kA_11, kA_12, kA_13, kA_14, kA_15, kA_16, kA_19, kA_22, kA_24, kA_26, kA_28, kA_31, kA_33, kA_35, kA_37, kA_39, kA_40, kA_42, kA_43, kA_44, kA_45, rx_iret, kb_75_0, kb_75_17, kb_75_18, kr_75, kf_41_385, List.getD_cons_zero, List.getD_cons_succ, List.set_cons_zero, List.set_cons_succ, ex_spl, ex_low, Option.toList, List.cons_append, List.nil_append, reduceIte, Int.reduceToNat, Nat.reduceDiv, Nat.reduceMod, Nat.reduceAdd, Nat.reduceMul, z_0, z_1, z_10, z_01, reduceCtorEq, ite_true, ite_false, true_and, and_true, ↓bI_01, ↓bP_01, ↓zret0, ↓zret1, z_add, z_sub, z_mul, up_1, up_2, not_true, not_false_iff, if_true, if_false, bI_T, bI_F, bP_T, bP_F, or_true, true_or, or_false, false_or, Int.reduceNeg, Int.reduceAdd, Int.reduceSub, Int.reduceMul, Int.reduceEq, Int.reduceLT, Int.reduceLE, Int.natCast_add, Int.cast_ofNat_Int]
theorem m_tell {d : Nat} {w : PW} {a b x c y : Int} (hb : q_plc w b x) (hc : q_plc w c y) : ∃ w', ex_cal (d + 3) 74 [.ref 41, .int (Int32.ofInt a), .int (Int32.ofInt b), .int (Int32.ofInt c)] w = some (none, w') ∧ (∀ o k, ¬ o = 45 → w'.1 o k = w.1 o k) ∧ rAn w' a b x c y := by
  have e1 := m_placeOf (d := d) (w := ex_up (ex_up w 45 0 (Int32.ofInt a)) 45 1 (Int32.ofInt b)) (b := b) (x := x) (hb.imp id fun q => ⟨q.1, q.2.1, by rw [up_n (by omega), up_n (by omega)]; exact q.2.2⟩)
  have e2 := m_placeOf (d := d) (w := ex_up (ex_up (ex_up (ex_up w 45 0 (Int32.ofInt a)) 45 1 (Int32.ofInt b)) 45 2 (Int32.ofInt x)) 45 3 (Int32.ofInt c)) (b := c) (x := y) (hc.imp id fun q => ⟨q.1, q.2.1, by rw [up_n (by omega), up_n (by omega), up_n (by omega), up_n (by omega)]; exact q.2.2⟩)
  refine ⟨ex_up (ex_up (ex_up (ex_up (ex_up w 45 0 (Int32.ofInt a)) 45 1 (Int32.ofInt b)) 45 2 (Int32.ofInt x)) 45 3 (Int32.ofInt c)) 45 4 (Int32.ofInt y), ?_, fun o k ho => by rw [up_n (by omega), up_n (by omega), up_n (by omega), up_n (by omega), up_n (by omega)], rfl, rfl, rfl, rfl, rfl⟩
  rw [ke_74 kc_41]
  simp (disch := omega) only [e1, e2, ev_iload, ev_aload, ev_push, ev_getf, ev_callv, nr_i, nr_r, nr_l, nr_n, kS_2, kS_6, kS_7, kS_8, kS_9, kS_10, kS_11, kS_12, kS_13, kS_14, kS_15, kS_16, kS_19, kS_22, kS_24, kS_26, kS_28, kS_31, kS_33, kS_35, kS_37, kS_39, kS_40, kS_42, kS_43, kS_44, kS_45, rx_vret, kb_74_0, kr_74, kf_41_387, List.getD_cons_zero, List.getD_cons_succ, List.set_cons_zero, List.set_cons_succ, ex_spl, ex_low, Option.toList, List.cons_append, List.nil_append, reduceIte, Int.reduceToNat, Nat.reduceDiv, Nat.reduceMod, Nat.reduceAdd, Nat.reduceMul, z_0, z_1, z_10, z_01, reduceCtorEq, ite_true, ite_false, true_and, and_true, ↓bI_01, ↓bP_01, ↓zret0, ↓zret1, z_add, z_sub, z_mul, up_1, up_2, not_true, not_false_iff, if_true, if_false, bI_T, bI_F, bP_T, bP_F, or_true, true_or, or_false, false_or, Int.reduceNeg, Int.reduceAdd, Int.reduceSub, Int.reduceMul, Int.reduceEq, Int.reduceLT, Int.reduceLE, Int.natCast_add, Int.cast_ofNat_Int]
theorem sMv_f {B : AS} {w0 w w' : PW} (h : sMv B w0 w) (e : ∀ o k, ¬ o = 45 → w'.1 o k = w.1 o k) : sMv B w0 w' := by
  obtain ⟨⟨m1, m2⟩, ⟨z, z0, z1, hz⟩, o1⟩ := h
  refine ⟨⟨by rw [e _ _ (by omega)]; exact m1, fun t t0 t1 => ?_⟩, ⟨z, z0, z1, by rw [e _ _ (by omega)]; exact hz⟩, fun o k hk => by rw [e _ _ (by omega)]; exact o1 o k hk⟩
  rw [e _ _ (by omega), e _ _ (by omega), e _ _ (by omega)]; exact m2 t t0 t1
theorem m_byNone {d : Nat} {A : AS} {w0 w : PW} (hV : q_v0 A) (hW : q_w0 A w0) (hs : sMv A w0 w) : ∃ w', ex_cal (d + 5) 73 [.ref 41, .ref 38] w = some (some (.int (bP (q_ka A))), w') ∧ sMv A w0 w' ∧ rAn w' (q_if (q_ka A) 0 (-1)) (-1) (-1) (-1) (-1) := by
  have hr := q_rng hV
  have hW1 := q_w0_f hW hs.2.2
  obtain ⟨M1, ⟨z, z0, z1, hz⟩, o1⟩ := id hs
  obtain ⟨m, em, hm⟩ := m_mtaken (d := d + 3) M1 (by omega) (by omega) (u := -1) (v := -1) (by omega) (by omega) (by omega) (by omega)
  obtain ⟨w3, z3, e3, o3, hz3, z30, z31⟩ := m_allKept (d := d) (m := m) (q_gr3_v hV) hV.2.2.2.2.2.1 hW1.2.1 hW1.2.2 M1 z0 z1 hz
  rw [bP_c (q_ka_i hm)] at e3
  obtain ⟨w4, e4, o4, a4⟩ := m_tell (d := d + 1) (w := w3) (a := q_if (q_ka A) 0 (-1)) (b := -1) (x := -1) (c := -1) (y := -1) (Or.inl ⟨rfl, rfl⟩) (Or.inl ⟨rfl, rfl⟩)
  have s3 : sMv A w0 w3 := by
    refine ⟨⟨by rw [o3 _ _ (by omega)]; exact M1.1, fun t t0 t1 => ?_⟩, ⟨z3, z30, z31, hz3⟩, fun o k hk => by rw [o3 _ _ (by omega)]; exact o1 o k hk⟩
    rw [o3 _ _ (by omega), o3 _ _ (by omega), o3 _ _ (by omega)]; exact M1.2 t t0 t1
  refine ⟨w4, ?_, sMv_f s3 o4, a4⟩
  rw [ke_73 kc_41]
  by_cases hk : q_ka A
  · rw [bP_t hk] at e3 ⊢
    rw [q_if_t hk] at e4
    simp (disch := omega) only [em, e3, e4, ev_iload, ev_aload, rx_istore, ev_push, ev_goto, ev_jsr, rx_zeq_t, rx_zeq_f, ev_callv, nr_i, nr_r, nr_l, nr_n, rx_zret_t, rx_zretI, rx_zretP, kb_73_0, kb_73_21, kb_73_22, kr_73, List.getD_cons_zero, List.getD_cons_succ, List.set_cons_zero, List.set_cons_succ, ex_spl, ex_low, Option.toList, List.cons_append, List.nil_append, reduceIte, Int.reduceToNat, Nat.reduceDiv, Nat.reduceMod, Nat.reduceAdd, Nat.reduceMul, z_0, z_1, z_10, z_01, reduceCtorEq, ite_true, ite_false, true_and, and_true, ↓bI_01, ↓bP_01, ↓zret0, ↓zret1, z_add, z_sub, z_mul, up_1, up_2, not_true, not_false_iff, if_true, if_false, bI_T, bI_F, bP_T, bP_F, or_true, true_or, or_false, false_or, Int.reduceNeg, Int.reduceAdd, Int.reduceSub, Int.reduceMul, Int.reduceEq, Int.reduceLT, Int.reduceLE, Int.natCast_add, Int.cast_ofNat_Int]
  · rw [bP_f hk] at e3 ⊢
    rw [q_if_f hk] at e4
    simp (disch := omega) only [em, e3, e4, ev_iload, ev_aload, rx_istore, ev_push, ev_goto, ev_jsr, rx_zeq_t, rx_zeq_f, ev_callv, nr_i, nr_r, nr_l, nr_n, rx_zret_t, rx_zretI, rx_zretP, kb_73_0, kb_73_21, kb_73_22, kr_73, List.getD_cons_zero, List.getD_cons_succ, List.set_cons_zero, List.set_cons_succ, ex_spl, ex_low, Option.toList, List.cons_append, List.nil_append, reduceIte, Int.reduceToNat, Nat.reduceDiv, Nat.reduceMod, Nat.reduceAdd, Nat.reduceMul, z_0, z_1, z_10, z_01, reduceCtorEq, ite_true, ite_false, true_and, and_true, ↓bI_01, ↓bP_01, ↓zret0, ↓zret1, z_add, z_sub, z_mul, up_1, up_2, not_true, not_false_iff, if_true, if_false, bI_T, bI_F, bP_T, bP_F, or_true, true_or, or_false, false_or, Int.reduceNeg, Int.reduceAdd, Int.reduceSub, Int.reduceMul, Int.reduceEq, Int.reduceLT, Int.reduceLE, Int.natCast_add, Int.cast_ofNat_Int]
theorem m_byOne {d : Nat} {A : AS} {w0 w : PW} (hV : q_v0 A) (hW : q_w0 A w0) (hs : sMv A w0 w) {n m : Nat} (hn : (n : Int) ≤ A 0 5) (hno : ∀ t : Int, 0 ≤ t → t < n → ∀ i : Int, 0 ≤ i → i < 96 → ¬ q_D A t i) (hyes : (n : Int) < A 0 5 → m < 96 ∧ q_D A n m ∧ ∀ i : Int, 0 ≤ i → i < m → ¬ q_D A n i) : ∃ w', ex_cal (d + 6) 76 [.ref 41, .ref 5, .ref 38] w = some (some (.int (Int32.ofInt (if (n : Int) < A 0 5 then 1 else 0))), w') ∧ (∀ o k, ¬ (41 ≤ o ∧ o < 46) → w'.1 o k = w0.1 o k) ∧ ((n : Int) < A 0 5 → rAn w' 1 n m (-1) (-1)) ∧ (¬ (n : Int) < A 0 5 → sMv A w0 w' ∧ ∀ k, w'.1 45 k = w.1 45 k) := by
  have hr := q_rng hV
  have hg : ∀ t, 0 ≤ t → t < A 0 5 → q_gr A t := fun t t0 t1 => q_gr_v hV t0 t1
  rw [ke_76 kc_41]
  simp (disch := omega) only [ev_iload, ev_aload, rx_istore, ev_iinc, ev_push, ev_goto, ev_jsr, rx_ige_t, rx_ige_f, rx_zeq_t, rx_zeq_f, ev_getf, ev_callv, nr_i, nr_r, nr_l, nr_n, rx_zret_t, rx_zretI, rx_zretP, kb_76_0, kb_76_29, kb_76_35, kr_76, kf_41_388, List.getD_cons_zero, List.getD_cons_succ, List.set_cons_zero, List.set_cons_succ, ex_spl, ex_low, Option.toList, List.cons_append, List.nil_append, reduceIte, Int.reduceToNat, Nat.reduceDiv, Nat.reduceMod, Nat.reduceAdd, Nat.reduceMul, z_0, z_1, z_10, z_01, reduceCtorEq, ite_true, ite_false, true_and, and_true, ↓bI_01, ↓bP_01, ↓zret0, ↓zret1, z_add, z_sub, z_mul, up_1, up_2, not_true, not_false_iff, if_true, if_false, bI_T, bI_F, bP_T, bP_F, or_true, true_or, or_false, false_or, Int.reduceNeg, Int.reduceAdd, Int.reduceSub, Int.reduceMul, Int.reduceEq, Int.reduceLT, Int.reduceLE, Int.natCast_add, Int.cast_ofNat_Int]
  refine ex_loop (Q := fun q => ∃ w', q = some (some (.int (Int32.ofInt (if (n : Int) < A 0 5 then 1 else 0))), w') ∧ (∀ o k, ¬ (41 ≤ o ∧ o < 46) → w'.1 o k = w0.1 o k) ∧ ((n : Int) < A 0 5 → rAn w' 1 n m (-1) (-1)) ∧ (¬ (n : Int) < A 0 5 → sMv A w0 w' ∧ ∀ k, w'.1 45 k = w.1 45 k)) (fun i s => ∃ w1, s = (ex_blk 76 2, [.ref 41, .ref 5, .ref 38, .int (Int32.ofInt (i : Int))], [], w1) ∧ sMv A w0 w1 ∧ ∀ k, w1.1 45 k = w.1 45 k) n ?_ ?_ ?_
  · exact ⟨w, rfl, hs, fun _ => rfl⟩
  · rintro i s hi ⟨w1, rfl, s1, a1⟩
    right
    obtain ⟨w2, e2, s2, a2⟩ := m_isDoneBy (d := d) hV hW (q_like_r A) hg s1 (u := i) (by omega) (by omega) (m := 96) (Nat.le_refl _) (fun j j0 j1 => hno i (by omega) (by omega) j j0 (by omega)) (fun h => absurd h (by omega))
    rw [if_neg (by omega)] at e2 s2
    have m1 := s1.1.1
    refine ⟨(ex_blk 76 2, [.ref 41, .ref 5, .ref 38, .int (Int32.ofInt ((i : Int) + 1))], [], w2), ?_, w2, rfl, s2, fun k => (a2 k).trans (a1 k)⟩
    conv => lhs; rw [kb_76_2]
    simp (disch := omega) only [m1, e2, ev_iload, ev_aload, rx_istore, ev_iinc, ev_push, ev_goto, ev_jsr, rx_ige_t, rx_ige_f, rx_zeq_t, rx_zeq_f, ev_getf, ev_callv, nr_i, nr_r, nr_l, nr_n, rx_zret_t, rx_zretI, rx_zretP, kb_76_0, kb_76_29, kb_76_35, kr_76, kf_41_388, List.getD_cons_zero, List.getD_cons_succ, List.set_cons_zero, List.set_cons_succ, ex_spl, ex_low, Option.toList, List.cons_append, List.nil_append, reduceIte, Int.reduceToNat, Nat.reduceDiv, Nat.reduceMod, Nat.reduceAdd, Nat.reduceMul, z_0, z_1, z_10, z_01, reduceCtorEq, ite_true, ite_false, true_and, and_true, ↓bI_01, ↓bP_01, ↓zret0, ↓zret1, z_add, z_sub, z_mul, up_1, up_2, not_true, not_false_iff, if_true, if_false, bI_T, bI_F, bP_T, bP_F, or_true, true_or, or_false, false_or, Int.reduceNeg, Int.reduceAdd, Int.reduceSub, Int.reduceMul, Int.reduceEq, Int.reduceLT, Int.reduceLE, Int.natCast_add, Int.cast_ofNat_Int]
  · rintro s ⟨w1, rfl, s1, a1⟩
    have m1 := s1.1.1
    by_cases hl : (n : Int) < A 0 5
    · obtain ⟨h96, hD, hf⟩ := hyes hl
      obtain ⟨w2, e2, s2, a2⟩ := m_isDoneBy (d := d) hV hW (q_like_r A) hg s1 (u := n) (by omega) hl (m := m) (by omega) hf (fun _ => hD)
      rw [if_pos h96] at e2 s2
      have p2 : w2.1 43 (n : Int).toNat = Int32.ofInt (m : Int) := by
        have := (s2.1.2 n (by omega) hl).2.1
        rw [q_mv_s.1, q_mv_s.2, show 4 * ((m : Int) / 4) + (m : Int) % 4 = m by omega] at this
        exact this
      obtain ⟨w3, e3, o3, a3⟩ := m_tell (d := d + 2) (w := w2) (a := 1) (b := n) (x := m) (c := -1) (y := -1) (Or.inr ⟨by omega, by omega, p2⟩) (Or.inl ⟨rfl, rfl⟩)
      refine ⟨w3, ?_, fun o k hk => ?_, fun _ => a3, fun h => absurd hl h⟩
      · rw [if_pos hl, kb_76_2]
        simp (disch := omega) only [m1, e2, e3, ev_iload, ev_aload, rx_istore, ev_iinc, ev_push, ev_goto, ev_jsr, rx_ige_t, rx_ige_f, rx_zeq_t, rx_zeq_f, ev_getf, ev_callv, nr_i, nr_r, nr_l, nr_n, rx_zret_t, rx_zretI, rx_zretP, kb_76_0, kb_76_29, kb_76_35, kr_76, kf_41_388, List.getD_cons_zero, List.getD_cons_succ, List.set_cons_zero, List.set_cons_succ, ex_spl, ex_low, Option.toList, List.cons_append, List.nil_append, reduceIte, Int.reduceToNat, Nat.reduceDiv, Nat.reduceMod, Nat.reduceAdd, Nat.reduceMul, z_0, z_1, z_10, z_01, reduceCtorEq, ite_true, ite_false, true_and, and_true, ↓bI_01, ↓bP_01, ↓zret0, ↓zret1, z_add, z_sub, z_mul, up_1, up_2, not_true, not_false_iff, if_true, if_false, bI_T, bI_F, bP_T, bP_F, or_true, true_or, or_false, false_or, Int.reduceNeg, Int.reduceAdd, Int.reduceSub, Int.reduceMul, Int.reduceEq, Int.reduceLT, Int.reduceLE, Int.natCast_add, Int.cast_ofNat_Int]
      · rw [o3 _ _ (by omega)]; exact s2.2.2 o k hk
    · refine ⟨w1, ?_, s1.2.2, fun h => absurd h hl, fun _ => ⟨s1, a1⟩⟩
      rw [if_neg hl, kb_76_2]
      simp (disch := omega) only [m1, ev_iload, ev_aload, rx_istore, ev_iinc, ev_push, ev_goto, ev_jsr, rx_ige_t, rx_ige_f, rx_zeq_t, rx_zeq_f, ev_getf, ev_callv, nr_i, nr_r, nr_l, nr_n, rx_zret_t, rx_zretI, rx_zretP, kb_76_0, kb_76_29, kb_76_35, kr_76, kf_41_388, List.getD_cons_zero, List.getD_cons_succ, List.set_cons_zero, List.set_cons_succ, ex_spl, ex_low, Option.toList, List.cons_append, List.nil_append, reduceIte, Int.reduceToNat, Nat.reduceDiv, Nat.reduceMod, Nat.reduceAdd, Nat.reduceMul, z_0, z_1, z_10, z_01, reduceCtorEq, ite_true, ite_false, true_and, and_true, ↓bI_01, ↓bP_01, ↓zret0, ↓zret1, z_add, z_sub, z_mul, up_1, up_2, not_true, not_false_iff, if_true, if_false, bI_T, bI_F, bP_T, bP_F, or_true, true_or, or_false, false_or, Int.reduceNeg, Int.reduceAdd, Int.reduceSub, Int.reduceMul, Int.reduceEq, Int.reduceLT, Int.reduceLE, Int.natCast_add, Int.cast_ofNat_Int]
/-! by two -/
def q_di2 (B : AS) (t u : Int) : Prop := ∀ x, 0 ≤ x → x < B 0 5 → ¬ x = t → ¬ x = u → q_sp B (B 5 (5 * t)) (B 5 (5 * t + 1)) (B 5 (5 * t + 2)) &&& q_sp B (B 5 (5 * x)) (B 5 (5 * x + 1)) (B 5 (5 * x + 2)) = Int32.ofInt 0
def q_W (B : AS) (t u : Int) : Prop := q_di2 B t u ∧ ∃ i, 0 ≤ i ∧ i < 96 ∧ q_D B u i
theorem q_di2_m {B : AS} {t u : Int} {m : Int32} (hm : q_tkm B t u m) : q_sp B (B 5 (5 * t)) (B 5 (5 * t + 1)) (B 5 (5 * t + 2)) &&& m = Int32.ofInt 0 ↔ q_di2 B t u := by
  constructor
  · intro h x x0 x1 hx hu
    rw [m_and0] at h ⊢
    intro y y0 y1 hh
    exact h y y0 y1 ⟨hh.1, (hm y y0 y1).2 ⟨x, x0, x1, hx, hu, hh.2⟩⟩
  · intro h
    rw [m_and0]
    intro y y0 y1 hh
    obtain ⟨x, x0, x1, x2, x3, x4⟩ := (hm y y0 y1).1 hh.2
    exact m_and0.1 (h x x0 x1 x2 x3) y y0 y1 ⟨hh.1, x4⟩
theorem m_doneWith {d : Nat} {A B : AS} {w0 w : PW} (hV : q_v0 A) (hW : q_w0 A w0) (hl : q_like A B) (hg : ∀ t, 0 ≤ t → t < A 0 5 → q_gr B t) (hs : sMv B w0 w) {t : Int} (t0 : 0 ≤ t) (t1 : t < A 0 5) {n m : Nat} (hn0 : t < n) (hn : (n : Int) ≤ A 0 5) (hno : ∀ u : Int, t < u → u < n → ¬ q_W B t u) (hyes : (n : Int) < A 0 5 → q_di2 B t n ∧ m < 96 ∧ q_D B n m ∧ ∀ i : Int, 0 ≤ i → i < m → ¬ q_D B n i) : ∃ w', ex_cal (d + 6) 79 [.ref 41, .int (Int32.ofInt t), .ref 5, .ref 38] w = some (some (.int (Int32.ofInt (if (n : Int) < A 0 5 then 1 else 0))), w') ∧ (∀ o k, ¬ (41 ≤ o ∧ o < 46) → w'.1 o k = w0.1 o k) ∧ ((n : Int) < A 0 5 → rAn w' 2 t (4 * B 5 (5 * t + 1) + B 5 (5 * t + 2)) n m) ∧ (¬ (n : Int) < A 0 5 → sMv B w0 w' ∧ ∀ k, w'.1 45 k = w.1 45 k) := by
  have hr := q_rng hV
  have h0 := hl.1 0 (by omega)
  have hb0 : B 0 5 = A 0 5 := by rw [h0]
  have e44 := (hs.1.2 t t0 (by omega)).2.2
  rw [ke_79 kc_41]
  simp (disch := omega) only [m_below, bI_t, bI_f, e44, ev_iload, ev_aload, rx_istore, ev_iinc, ev_push, ev_iadd, ev_iand, ev_goto, ev_jsr, rx_ige_t, rx_ige_f, rx_zeq_t, rx_zeq_f, rx_zne_t, rx_zne_f, ev_getf, ev_iald, ev_call, ev_callv, nr_i, nr_r, nr_l, nr_n, kA_2, kA_6, kA_7, kA_8, kA_9, kA_10, kA_11, kA_12, kA_13, kA_14, kA_15, kA_16, kA_19, kA_22, kA_24, kA_26, kA_28, kA_31, kA_33, kA_35, kA_37, kA_39, kA_40, kA_42, kA_43, kA_44, kA_45, rx_zret_t, rx_zretI, rx_zretP, kb_79_0, kb_79_17, kb_79_18, kb_79_68, kb_79_74, kr_79, kf_41_386, kf_41_388, List.getD_cons_zero, List.getD_cons_succ, List.set_cons_zero, List.set_cons_succ, ex_spl, ex_low, Option.toList, List.cons_append, List.nil_append, reduceIte, Int.reduceToNat, Nat.reduceDiv, Nat.reduceMod, Nat.reduceAdd, Nat.reduceMul, z_0, z_1, z_10, z_01, reduceCtorEq, ite_true, ite_false, true_and, and_true, ↓bI_01, ↓bP_01, ↓zret0, ↓zret1, z_add, z_sub, z_mul, up_1, up_2, not_true, not_false_iff, if_true, if_false, bI_T, bI_F, bP_T, bP_F, or_true, true_or, or_false, false_or, Int.reduceNeg, Int.reduceAdd, Int.reduceSub, Int.reduceMul, Int.reduceEq, Int.reduceLT, Int.reduceLE, Int.natCast_add, Int.cast_ofNat_Int]
  refine ex_loop (Q := fun q => ∃ w', q = some (some (.int (Int32.ofInt (if (n : Int) < A 0 5 then 1 else 0))), w') ∧ (∀ o k, ¬ (41 ≤ o ∧ o < 46) → w'.1 o k = w0.1 o k) ∧ ((n : Int) < A 0 5 → rAn w' 2 t (4 * B 5 (5 * t + 1) + B 5 (5 * t + 2)) n m) ∧ (¬ (n : Int) < A 0 5 → sMv B w0 w' ∧ ∀ k, w'.1 45 k = w.1 45 k)) (fun i s => ∃ w1, s = (ex_blk 79 25, [.ref 41, .int (Int32.ofInt t), .ref 5, .ref 38, .int (q_sp B (B 5 (5 * t)) (B 5 (5 * t + 1)) (B 5 (5 * t + 2))), .int (Int32.ofInt (t + 1 + (i : Int)))], [], w1) ∧ sMv B w0 w1 ∧ ∀ k, w1.1 45 k = w.1 45 k) ((n : Int) - t - 1).toNat ?_ ?_ ?_
  · exact ⟨w, by rw [show t + 1 + ((0 : Nat) : Int) = t + 1 by omega], hs, fun _ => rfl⟩
  · rintro i s hi ⟨w1, rfl, s1, a1⟩
    right
    have ei : t + 1 + ((i + 1 : Nat) : Int) = t + 1 + (i : Int) + 1 := by omega
    rw [ei]
    generalize hu : t + 1 + (i : Int) = u at *
    have hnu := hno u (by omega) (by omega)
    have m1 := s1.1.1
    obtain ⟨mo, emo, hmo⟩ := m_mtaken (d := d + 4) s1.1 (by omega) (by omega) (u := t) (v := u) (by omega) (by omega) (by omega) (by omega)
    have hd2 := q_di2_m hmo
    generalize q_sp B (B 5 (5 * t)) (B 5 (5 * t + 1)) (B 5 (5 * t + 2)) = S at *
    by_cases h2 : S &&& mo = Int32.ofInt 0
    · have hnD : ∀ j : Int, 0 ≤ j → j < (96 : Nat) → ¬ q_D B u j := fun j j0 j1 hD => hnu ⟨hd2.1 h2, j, j0, by omega, hD⟩
      obtain ⟨w2, e2, s2, a2⟩ := m_isDoneBy (d := d) hV hW hl hg s1 (u := u) (by omega) (by omega) (m := 96) (Nat.le_refl _) hnD (fun h => absurd h (by omega))
      rw [if_neg (by omega)] at e2 s2
      refine ⟨(ex_blk 79 25, [.ref 41, .int (Int32.ofInt t), .ref 5, .ref 38, .int S, .int (Int32.ofInt (u + 1))], [], w2), ?_, w2, rfl, s2, fun k => (a2 k).trans (a1 k)⟩
      conv => lhs; rw [kb_79_25]
      simp (disch := omega) only [m1, emo, h2, e2, ev_iload, ev_aload, rx_istore, ev_iinc, ev_push, ev_iadd, ev_iand, ev_goto, ev_jsr, rx_ige_t, rx_ige_f, rx_zeq_t, rx_zeq_f, rx_zne_t, rx_zne_f, ev_getf, ev_iald, ev_call, ev_callv, nr_i, nr_r, nr_l, nr_n, kA_2, kA_6, kA_7, kA_8, kA_9, kA_10, kA_11, kA_12, kA_13, kA_14, kA_15, kA_16, kA_19, kA_22, kA_24, kA_26, kA_28, kA_31, kA_33, kA_35, kA_37, kA_39, kA_40, kA_42, kA_43, kA_44, kA_45, rx_zret_t, rx_zretI, rx_zretP, kb_79_0, kb_79_17, kb_79_18, kb_79_68, kb_79_74, kr_79, kf_41_386, kf_41_388, List.getD_cons_zero, List.getD_cons_succ, List.set_cons_zero, List.set_cons_succ, ex_spl, ex_low, Option.toList, List.cons_append, List.nil_append, reduceIte, Int.reduceToNat, Nat.reduceDiv, Nat.reduceMod, Nat.reduceAdd, Nat.reduceMul, z_0, z_1, z_10, z_01, reduceCtorEq, ite_true, ite_false, true_and, and_true, ↓bI_01, ↓bP_01, ↓zret0, ↓zret1, z_add, z_sub, z_mul, up_1, up_2, not_true, not_false_iff, if_true, if_false, bI_T, bI_F, bP_T, bP_F, or_true, true_or, or_false, false_or, Int.reduceNeg, Int.reduceAdd, Int.reduceSub, Int.reduceMul, Int.reduceEq, Int.reduceLT, Int.reduceLE, Int.natCast_add, Int.cast_ofNat_Int]
    · refine ⟨(ex_blk 79 25, [.ref 41, .int (Int32.ofInt t), .ref 5, .ref 38, .int S, .int (Int32.ofInt (u + 1))], [], w1), ?_, w1, rfl, s1, a1⟩
      conv => lhs; rw [kb_79_25]
      simp (disch := omega) only [m1, emo, rx_xne_t h2, ev_iload, ev_aload, rx_istore, ev_iinc, ev_push, ev_iadd, ev_iand, ev_goto, ev_jsr, rx_ige_t, rx_ige_f, rx_zeq_t, rx_zeq_f, rx_zne_t, rx_zne_f, ev_getf, ev_iald, ev_call, ev_callv, nr_i, nr_r, nr_l, nr_n, kA_2, kA_6, kA_7, kA_8, kA_9, kA_10, kA_11, kA_12, kA_13, kA_14, kA_15, kA_16, kA_19, kA_22, kA_24, kA_26, kA_28, kA_31, kA_33, kA_35, kA_37, kA_39, kA_40, kA_42, kA_43, kA_44, kA_45, rx_zret_t, rx_zretI, rx_zretP, kb_79_0, kb_79_17, kb_79_18, kb_79_68, kb_79_74, kr_79, kf_41_386, kf_41_388, List.getD_cons_zero, List.getD_cons_succ, List.set_cons_zero, List.set_cons_succ, ex_spl, ex_low, Option.toList, List.cons_append, List.nil_append, reduceIte, Int.reduceToNat, Nat.reduceDiv, Nat.reduceMod, Nat.reduceAdd, Nat.reduceMul, z_0, z_1, z_10, z_01, reduceCtorEq, ite_true, ite_false, true_and, and_true, ↓bI_01, ↓bP_01, ↓zret0, ↓zret1, z_add, z_sub, z_mul, up_1, up_2, not_true, not_false_iff, if_true, if_false, bI_T, bI_F, bP_T, bP_F, or_true, true_or, or_false, false_or, Int.reduceNeg, Int.reduceAdd, Int.reduceSub, Int.reduceMul, Int.reduceEq, Int.reduceLT, Int.reduceLE, Int.natCast_add, Int.cast_ofNat_Int]
  · rintro s ⟨w1, rfl, s1, a1⟩
    have ei : t + 1 + ((((n : Int) - t - 1).toNat : Nat) : Int) = n := by omega
    rw [ei]
    have m1 := s1.1.1
    by_cases hln : (n : Int) < A 0 5
    · obtain ⟨hd, h96, hD, hf⟩ := hyes hln
      obtain ⟨mo, emo, hmo⟩ := m_mtaken (d := d + 4) s1.1 (by omega) (by omega) (u := t) (v := n) (by omega) (by omega) (by omega) (by omega)
      have hd2 := (q_di2_m hmo).2 hd
      generalize hS : q_sp B (B 5 (5 * t)) (B 5 (5 * t + 1)) (B 5 (5 * t + 2)) = S at *
      obtain ⟨w2, e2, s2, a2⟩ := m_isDoneBy (d := d) hV hW hl hg s1 (u := n) (by omega) hln (m := m) (by omega) hf (fun _ => hD)
      rw [if_pos h96] at e2 s2
      have p2 : w2.1 43 (n : Int).toNat = Int32.ofInt (m : Int) := by
        have := (s2.1.2 n (by omega) (by show (n : Int) < B 0 5; omega)).2.1
        rw [q_mv_s.1, q_mv_s.2, show 4 * ((m : Int) / 4) + (m : Int) % 4 = m by omega] at this
        exact this
      have p1 : w2.1 43 t.toNat = Int32.ofInt (4 * B 5 (5 * t + 1) + B 5 (5 * t + 2)) := by
        have := (s2.1.2 t t0 (by show t < B 0 5; omega)).2.1
        rw [(q_mv_o (by omega)).1, (q_mv_o (by omega)).2] at this
        exact this
      obtain ⟨w3, e3, o3, a3⟩ := m_tell (d := d + 2) (w := w2) (a := 2) (b := t) (x := 4 * B 5 (5 * t + 1) + B 5 (5 * t + 2)) (c := n) (y := m) (Or.inr ⟨by omega, by omega, p1⟩) (Or.inr ⟨by omega, by omega, p2⟩)
      refine ⟨w3, ?_, fun o k hk => ?_, fun _ => a3, fun h => absurd hln h⟩
      · rw [if_pos hln, kb_79_25]
        simp (disch := omega) only [m1, emo, hd2, e2, e3, ev_iload, ev_aload, rx_istore, ev_iinc, ev_push, ev_iadd, ev_iand, ev_goto, ev_jsr, rx_ige_t, rx_ige_f, rx_zeq_t, rx_zeq_f, rx_zne_t, rx_zne_f, ev_getf, ev_iald, ev_call, ev_callv, nr_i, nr_r, nr_l, nr_n, kA_2, kA_6, kA_7, kA_8, kA_9, kA_10, kA_11, kA_12, kA_13, kA_14, kA_15, kA_16, kA_19, kA_22, kA_24, kA_26, kA_28, kA_31, kA_33, kA_35, kA_37, kA_39, kA_40, kA_42, kA_43, kA_44, kA_45, rx_zret_t, rx_zretI, rx_zretP, kb_79_0, kb_79_17, kb_79_18, kb_79_68, kb_79_74, kr_79, kf_41_386, kf_41_388, List.getD_cons_zero, List.getD_cons_succ, List.set_cons_zero, List.set_cons_succ, ex_spl, ex_low, Option.toList, List.cons_append, List.nil_append, reduceIte, Int.reduceToNat, Nat.reduceDiv, Nat.reduceMod, Nat.reduceAdd, Nat.reduceMul, z_0, z_1, z_10, z_01, reduceCtorEq, ite_true, ite_false, true_and, and_true, ↓bI_01, ↓bP_01, ↓zret0, ↓zret1, z_add, z_sub, z_mul, up_1, up_2, not_true, not_false_iff, if_true, if_false, bI_T, bI_F, bP_T, bP_F, or_true, true_or, or_false, false_or, Int.reduceNeg, Int.reduceAdd, Int.reduceSub, Int.reduceMul, Int.reduceEq, Int.reduceLT, Int.reduceLE, Int.natCast_add, Int.cast_ofNat_Int]
      · rw [o3 _ _ (by omega)]; exact s2.2.2 o k hk
    · refine ⟨w1, ?_, s1.2.2, fun h => absurd h hln, fun _ => ⟨s1, a1⟩⟩
      rw [if_neg hln, kb_79_25]
      simp (disch := omega) only [m1, ev_iload, ev_aload, rx_istore, ev_iinc, ev_push, ev_iadd, ev_iand, ev_goto, ev_jsr, rx_ige_t, rx_ige_f, rx_zeq_t, rx_zeq_f, rx_zne_t, rx_zne_f, ev_getf, ev_iald, ev_call, ev_callv, nr_i, nr_r, nr_l, nr_n, kA_2, kA_6, kA_7, kA_8, kA_9, kA_10, kA_11, kA_12, kA_13, kA_14, kA_15, kA_16, kA_19, kA_22, kA_24, kA_26, kA_28, kA_31, kA_33, kA_35, kA_37, kA_39, kA_40, kA_42, kA_43, kA_44, kA_45, rx_zret_t, rx_zretI, rx_zretP, kb_79_0, kb_79_17, kb_79_18, kb_79_68, kb_79_74, kr_79, kf_41_386, kf_41_388, List.getD_cons_zero, List.getD_cons_succ, List.set_cons_zero, List.set_cons_succ, ex_spl, ex_low, Option.toList, List.cons_append, List.nil_append, reduceIte, Int.reduceToNat, Nat.reduceDiv, Nat.reduceMod, Nat.reduceAdd, Nat.reduceMul, z_0, z_1, z_10, z_01, reduceCtorEq, ite_true, ite_false, true_and, and_true, ↓bI_01, ↓bP_01, ↓zret0, ↓zret1, z_add, z_sub, z_mul, up_1, up_2, not_true, not_false_iff, if_true, if_false, bI_T, bI_F, bP_T, bP_F, or_true, true_or, or_false, false_or, Int.reduceNeg, Int.reduceAdd, Int.reduceSub, Int.reduceMul, Int.reduceEq, Int.reduceLT, Int.reduceLE, Int.natCast_add, Int.cast_ofNat_Int]
