/-! things set and moved -/
/-- room for a thing of kind k at c, way v, thing u away -/
def q_room (A : AS) (k c v u : Int) : Prop := (q_fl A c ∧ q_fl A (q_ls A k c v) ∧ (k = 1 ∨ v = 0)) ∧ ∀ t, 0 ≤ t → t < A 0 5 → ¬ t = u → ¬ q_at A t c ∧ ¬ q_at A t (q_ls A k c v)
theorem m_isRoom {d : Nat} {A : AS} {w : PW} (hV : q_v0 A) (hC : rC A w) {k c v u : Int} (k0 : 0 ≤ k) (k1 : k < 4) (c0 : 0 ≤ c) (c1 : c < A 0 15) (v0 : 0 ≤ v) (v1 : v < 4) (u0 : -1 ≤ u) (u1 : u < 3) : ex_cal (d + 6) 137 [.ref 0, .int (Int32.ofInt k), .int (Int32.ofInt (4 * c + v)), .int (Int32.ofInt u)] w = some (some (.int (bP (q_room A k c v u))), w) := by
  have hr := q_rng hV
  rw [ke_137 kc_0]
  by_cases hs : q_sp A k c v = Int32.ofInt 0
  · rw [bP_f (fun h => (q_sp0 hV.1).1 hs h.1)]
    simp (disch := omega) only [m_spot hV.1 hC.1, hs, ev_iload, ev_aload, rx_istore, ev_push, ev_iand, ev_goto, ev_jsr, rx_zeq_t, rx_zeq_f, rx_zne_t, rx_zne_f, ev_getf, ev_callv, nr_i, nr_r, nr_l, nr_n, rx_zret_t, rx_zretI, rx_zretP, kb_137_0, kb_137_38, kb_137_39, kr_137, kf_0_643, kf_0_645, List.getD_cons_zero, List.getD_cons_succ, List.set_cons_zero, List.set_cons_succ, ex_spl, ex_low, Option.toList, List.cons_append, List.nil_append, reduceIte, Int.reduceToNat, Nat.reduceDiv, Nat.reduceMod, Nat.reduceAdd, Nat.reduceMul, z_0, z_1, z_10, z_01, reduceCtorEq, ite_true, ite_false, true_and, and_true, ↓bI_01, ↓bP_01, ↓zret0, ↓zret1, z_add, z_sub, z_mul, up_1, up_2, not_true, not_false_iff, if_true, if_false, bI_T, bI_F, bP_T, bP_F, or_true, true_or, or_false, false_or, Int.reduceNeg, Int.reduceAdd, Int.reduceSub, Int.reduceMul, Int.reduceEq, Int.reduceLT, Int.reduceLE, Int.natCast_add, Int.cast_ofNat_Int]
  · have hfit := Classical.not_not.1 (fun h => hs ((q_sp0 hV.1).2 h))
    have key : q_sp A k c v &&& q_tk A u = Int32.ofInt 0 ↔ q_room A k c v u := by
      rw [m_and0]
      constructor
      · intro h
        refine ⟨hfit, fun t t0 t1 t2 => ⟨fun ha => ?_, fun ha => ?_⟩⟩
        · exact h c c0 (by omega) ⟨(q_bt_sp hV.1 c0 (by omega)).2 ⟨hfit, Or.inl rfl⟩, (q_bt_tk hV.1 hV.2.2.2.1 c0 (by omega)).2 ⟨t, t0, t1, t2, ha⟩⟩
        · have hl := hfit.2.1
          exact h (q_ls A k c v) hl.1 (by have := hl.2.1; omega) ⟨(q_bt_sp hV.1 hl.1 (by have := hl.2.1; omega)).2 ⟨hfit, Or.inr rfl⟩, (q_bt_tk hV.1 hV.2.2.2.1 hl.1 (by have := hl.2.1; omega)).2 ⟨t, t0, t1, t2, ha⟩⟩
      · intro h x x0 x1 hx
        have h1 := ((q_bt_sp hV.1 x0 x1).1 hx.1).2
        obtain ⟨t, t0, t1, t2, ha⟩ := (q_bt_tk hV.1 hV.2.2.2.1 x0 x1).1 hx.2
        have h2 := h.2 t t0 t1 t2
        rcases h1 with h1 | h1
        · rw [h1] at ha; exact h2.1 ha
        · rw [h1] at ha; exact h2.2 ha
    by_cases hq : q_room A k c v u
    · rw [bP_t hq]
      have e := key.2 hq
      simp (disch := omega) only [m_spot hV.1 hC.1, rx_xeq_f hs, m_takenBut hV hC, e, ev_iload, ev_aload, rx_istore, ev_push, ev_iand, ev_goto, ev_jsr, rx_zeq_t, rx_zeq_f, rx_zne_t, rx_zne_f, ev_getf, ev_callv, nr_i, nr_r, nr_l, nr_n, rx_zret_t, rx_zretI, rx_zretP, kb_137_0, kb_137_38, kb_137_39, kr_137, kf_0_643, kf_0_645, List.getD_cons_zero, List.getD_cons_succ, List.set_cons_zero, List.set_cons_succ, ex_spl, ex_low, Option.toList, List.cons_append, List.nil_append, reduceIte, Int.reduceToNat, Nat.reduceDiv, Nat.reduceMod, Nat.reduceAdd, Nat.reduceMul, z_0, z_1, z_10, z_01, reduceCtorEq, ite_true, ite_false, true_and, and_true, ↓bI_01, ↓bP_01, ↓zret0, ↓zret1, z_add, z_sub, z_mul, up_1, up_2, not_true, not_false_iff, if_true, if_false, bI_T, bI_F, bP_T, bP_F, or_true, true_or, or_false, false_or, Int.reduceNeg, Int.reduceAdd, Int.reduceSub, Int.reduceMul, Int.reduceEq, Int.reduceLT, Int.reduceLE, Int.natCast_add, Int.cast_ofNat_Int]
    · rw [bP_f hq]
      have e : ¬ q_sp A k c v &&& q_tk A u = Int32.ofInt 0 := fun h => hq (key.1 h)
      simp (disch := omega) only [m_spot hV.1 hC.1, rx_xeq_f hs, m_takenBut hV hC, rx_xne_t e, ev_iload, ev_aload, rx_istore, ev_push, ev_iand, ev_goto, ev_jsr, rx_zeq_t, rx_zeq_f, rx_zne_t, rx_zne_f, ev_getf, ev_callv, nr_i, nr_r, nr_l, nr_n, rx_zret_t, rx_zretI, rx_zretP, kb_137_0, kb_137_38, kb_137_39, kr_137, kf_0_643, kf_0_645, List.getD_cons_zero, List.getD_cons_succ, List.set_cons_zero, List.set_cons_succ, ex_spl, ex_low, Option.toList, List.cons_append, List.nil_append, reduceIte, Int.reduceToNat, Nat.reduceDiv, Nat.reduceMod, Nat.reduceAdd, Nat.reduceMul, z_0, z_1, z_10, z_01, reduceCtorEq, ite_true, ite_false, true_and, and_true, ↓bI_01, ↓bP_01, ↓zret0, ↓zret1, z_add, z_sub, z_mul, up_1, up_2, not_true, not_false_iff, if_true, if_false, bI_T, bI_F, bP_T, bP_F, or_true, true_or, or_false, false_or, Int.reduceNeg, Int.reduceAdd, Int.reduceSub, Int.reduceMul, Int.reduceEq, Int.reduceLT, Int.reduceLE, Int.natCast_add, Int.cast_ofNat_Int]
/-! the reference: whether all things have room -/
def q_gr (A : AS) (t : Int) : Prop := 0 ≤ A 5 (5 * t) ∧ A 5 (5 * t) ≤ 3 ∧ 0 ≤ A 5 (5 * t + 2) ∧ A 5 (5 * t + 2) ≤ 3 ∧ (A 5 (5 * t) = 1 ∨ A 5 (5 * t + 2) = 0) ∧ 0 ≤ A 5 (5 * t + 1) ∧ A 5 (5 * t + 1) < A 0 15
def q_o1 (A : AS) (t : Int) : Prop := q_fl A (A 5 (5 * t + 1)) ∧ q_fl A (q_la A t)
def q_hr (A : AS) : Prop := ∀ t, 0 ≤ t → t < A 0 5 → q_o1 A t ∧ ∀ u, 0 ≤ u → u < t → q_ap A 5 t u
theorem q_gr_f {A : AS} {t : Int} (h : q_gr A t) (h2 : q_o1 A t) : q_fit A (A 5 (5 * t)) (A 5 (5 * t + 1)) (A 5 (5 * t + 2)) := by
  obtain ⟨a, b, c, d, e, f, g⟩ := h
  exact ⟨a, b, c, d, e, h2.1, h2.2⟩
theorem r_touches {d : Nat} {A : AS} {b : Int} {w : PW} (hV : q_vh A) (hM : rN A b w) (n1 : A 0 5 ≤ 3) {t u : Int} (t0 : 0 ≤ t) (t1 : t < A 0 5) (u0 : 0 ≤ u) (u1 : u < A 0 5) (gt : q_gr A t) (gu : q_gr A u) (ot : q_o1 A t) (ou : q_o1 A u) : ex_cal (d + 5) 196 [.ref 46, .int (Int32.ofInt t), .int (Int32.ofInt u)] w = some (some (.int (bP (¬ q_ap A 5 t u))), w) := by
  have hr := q_rnh hV
  have lt := q_la_r (q_gr_f gt ot)
  have lu := q_la_r (q_gr_f gu ou)
  have e1 := hM.2.2.2.1.2.1 t t0 t1
  have e2 := hM.2.2.2.1.2.1 u u0 u1
  have rt := gt.2.2.2.2.2
  have ru := gu.2.2.2.2.2
  have hap : q_ap A 5 t u ↔ ¬ A 5 (5 * t + 1) = A 5 (5 * u + 1) ∧ ¬ A 5 (5 * t + 1) = q_la A u ∧ ¬ q_la A t = A 5 (5 * u + 1) ∧ ¬ q_la A t = q_la A u := Iff.rfl
  rw [ke_196 kc_46]
  by_cases h1 : A 5 (5 * t + 1) = A 5 (5 * u + 1)
  · rw [bP_t (fun h => (hap.1 h).1 h1)]
    simp (disch := omega) only [r_lastCell hV hM t0 t1 n1 (q_gr_f gt ot), r_lastCell hV hM u0 u1 n1 (q_gr_f gu ou), e1, e2, ev_iload, ev_aload, rx_istore, ev_push, ev_goto, ev_jsr, rx_ieq_t, rx_ieq_f, rx_ine_t, rx_ine_f, ev_getf, ev_iald, ev_callv, nr_i, nr_r, nr_l, nr_n, kA_47, kA_48, kA_49, kA_50, kA_51, kA_52, kA_53, kA_54, kA_55, kA_56, kA_57, kA_58, kA_59, kA_60, kA_61, kA_63, kA_64, kA_65, kA_66, kA_67, kA_68, kA_69, kA_70, rx_zret_t, rx_zretI, rx_zretP, kb_196_0, kb_196_55, kb_196_59, kb_196_60, kr_196, kf_46_719, List.getD_cons_zero, List.getD_cons_succ, List.set_cons_zero, List.set_cons_succ, ex_spl, ex_low, Option.toList, List.cons_append, List.nil_append, reduceIte, Int.reduceToNat, Nat.reduceDiv, Nat.reduceMod, Nat.reduceAdd, Nat.reduceMul, z_0, z_1, z_10, z_01, reduceCtorEq, ite_true, ite_false, true_and, and_true, ↓bI_01, ↓bP_01, ↓zret0, ↓zret1, z_add, z_sub, z_mul, up_1, up_2, not_true, not_false_iff, if_true, if_false, bI_T, bI_F, bP_T, bP_F, or_true, true_or, or_false, false_or, Int.reduceNeg, Int.reduceAdd, Int.reduceSub, Int.reduceMul, Int.reduceEq, Int.reduceLT, Int.reduceLE, Int.natCast_add, Int.cast_ofNat_Int]
  · by_cases h2 : A 5 (5 * t + 1) = q_la A u
    · rw [bP_t (fun h => (hap.1 h).2.1 h2)]
      simp (disch := omega) only [r_lastCell hV hM t0 t1 n1 (q_gr_f gt ot), r_lastCell hV hM u0 u1 n1 (q_gr_f gu ou), e1, e2, ev_iload, ev_aload, rx_istore, ev_push, ev_goto, ev_jsr, rx_ieq_t, rx_ieq_f, rx_ine_t, rx_ine_f, ev_getf, ev_iald, ev_callv, nr_i, nr_r, nr_l, nr_n, kA_47, kA_48, kA_49, kA_50, kA_51, kA_52, kA_53, kA_54, kA_55, kA_56, kA_57, kA_58, kA_59, kA_60, kA_61, kA_63, kA_64, kA_65, kA_66, kA_67, kA_68, kA_69, kA_70, rx_zret_t, rx_zretI, rx_zretP, kb_196_0, kb_196_55, kb_196_59, kb_196_60, kr_196, kf_46_719, List.getD_cons_zero, List.getD_cons_succ, List.set_cons_zero, List.set_cons_succ, ex_spl, ex_low, Option.toList, List.cons_append, List.nil_append, reduceIte, Int.reduceToNat, Nat.reduceDiv, Nat.reduceMod, Nat.reduceAdd, Nat.reduceMul, z_0, z_1, z_10, z_01, reduceCtorEq, ite_true, ite_false, true_and, and_true, ↓bI_01, ↓bP_01, ↓zret0, ↓zret1, z_add, z_sub, z_mul, up_1, up_2, not_true, not_false_iff, if_true, if_false, bI_T, bI_F, bP_T, bP_F, or_true, true_or, or_false, false_or, Int.reduceNeg, Int.reduceAdd, Int.reduceSub, Int.reduceMul, Int.reduceEq, Int.reduceLT, Int.reduceLE, Int.natCast_add, Int.cast_ofNat_Int]
    · by_cases h3 : q_la A t = A 5 (5 * u + 1)
      · rw [bP_t (fun h => (hap.1 h).2.2.1 h3)]
        simp (disch := omega) only [r_lastCell hV hM t0 t1 n1 (q_gr_f gt ot), r_lastCell hV hM u0 u1 n1 (q_gr_f gu ou), e1, e2, ev_iload, ev_aload, rx_istore, ev_push, ev_goto, ev_jsr, rx_ieq_t, rx_ieq_f, rx_ine_t, rx_ine_f, ev_getf, ev_iald, ev_callv, nr_i, nr_r, nr_l, nr_n, kA_47, kA_48, kA_49, kA_50, kA_51, kA_52, kA_53, kA_54, kA_55, kA_56, kA_57, kA_58, kA_59, kA_60, kA_61, kA_63, kA_64, kA_65, kA_66, kA_67, kA_68, kA_69, kA_70, rx_zret_t, rx_zretI, rx_zretP, kb_196_0, kb_196_55, kb_196_59, kb_196_60, kr_196, kf_46_719, List.getD_cons_zero, List.getD_cons_succ, List.set_cons_zero, List.set_cons_succ, ex_spl, ex_low, Option.toList, List.cons_append, List.nil_append, reduceIte, Int.reduceToNat, Nat.reduceDiv, Nat.reduceMod, Nat.reduceAdd, Nat.reduceMul, z_0, z_1, z_10, z_01, reduceCtorEq, ite_true, ite_false, true_and, and_true, ↓bI_01, ↓bP_01, ↓zret0, ↓zret1, z_add, z_sub, z_mul, up_1, up_2, not_true, not_false_iff, if_true, if_false, bI_T, bI_F, bP_T, bP_F, or_true, true_or, or_false, false_or, Int.reduceNeg, Int.reduceAdd, Int.reduceSub, Int.reduceMul, Int.reduceEq, Int.reduceLT, Int.reduceLE, Int.natCast_add, Int.cast_ofNat_Int]
      · by_cases h4 : q_la A t = q_la A u
        · rw [bP_t (fun h => (hap.1 h).2.2.2 h4)]
          simp (disch := omega) only [r_lastCell hV hM t0 t1 n1 (q_gr_f gt ot), r_lastCell hV hM u0 u1 n1 (q_gr_f gu ou), e1, e2, ev_iload, ev_aload, rx_istore, ev_push, ev_goto, ev_jsr, rx_ieq_t, rx_ieq_f, rx_ine_t, rx_ine_f, ev_getf, ev_iald, ev_callv, nr_i, nr_r, nr_l, nr_n, kA_47, kA_48, kA_49, kA_50, kA_51, kA_52, kA_53, kA_54, kA_55, kA_56, kA_57, kA_58, kA_59, kA_60, kA_61, kA_63, kA_64, kA_65, kA_66, kA_67, kA_68, kA_69, kA_70, rx_zret_t, rx_zretI, rx_zretP, kb_196_0, kb_196_55, kb_196_59, kb_196_60, kr_196, kf_46_719, List.getD_cons_zero, List.getD_cons_succ, List.set_cons_zero, List.set_cons_succ, ex_spl, ex_low, Option.toList, List.cons_append, List.nil_append, reduceIte, Int.reduceToNat, Nat.reduceDiv, Nat.reduceMod, Nat.reduceAdd, Nat.reduceMul, z_0, z_1, z_10, z_01, reduceCtorEq, ite_true, ite_false, true_and, and_true, ↓bI_01, ↓bP_01, ↓zret0, ↓zret1, z_add, z_sub, z_mul, up_1, up_2, not_true, not_false_iff, if_true, if_false, bI_T, bI_F, bP_T, bP_F, or_true, true_or, or_false, false_or, Int.reduceNeg, Int.reduceAdd, Int.reduceSub, Int.reduceMul, Int.reduceEq, Int.reduceLT, Int.reduceLE, Int.natCast_add, Int.cast_ofNat_Int]
        · rw [bP_f (fun h => h (hap.2 ⟨h1, h2, h3, h4⟩))]
          simp (disch := omega) only [r_lastCell hV hM t0 t1 n1 (q_gr_f gt ot), r_lastCell hV hM u0 u1 n1 (q_gr_f gu ou), e1, e2, ev_iload, ev_aload, rx_istore, ev_push, ev_goto, ev_jsr, rx_ieq_t, rx_ieq_f, rx_ine_t, rx_ine_f, ev_getf, ev_iald, ev_callv, nr_i, nr_r, nr_l, nr_n, kA_47, kA_48, kA_49, kA_50, kA_51, kA_52, kA_53, kA_54, kA_55, kA_56, kA_57, kA_58, kA_59, kA_60, kA_61, kA_63, kA_64, kA_65, kA_66, kA_67, kA_68, kA_69, kA_70, rx_zret_t, rx_zretI, rx_zretP, kb_196_0, kb_196_55, kb_196_59, kb_196_60, kr_196, kf_46_719, List.getD_cons_zero, List.getD_cons_succ, List.set_cons_zero, List.set_cons_succ, ex_spl, ex_low, Option.toList, List.cons_append, List.nil_append, reduceIte, Int.reduceToNat, Nat.reduceDiv, Nat.reduceMod, Nat.reduceAdd, Nat.reduceMul, z_0, z_1, z_10, z_01, reduceCtorEq, ite_true, ite_false, true_and, and_true, ↓bI_01, ↓bP_01, ↓zret0, ↓zret1, z_add, z_sub, z_mul, up_1, up_2, not_true, not_false_iff, if_true, if_false, bI_T, bI_F, bP_T, bP_F, or_true, true_or, or_false, false_or, Int.reduceNeg, Int.reduceAdd, Int.reduceSub, Int.reduceMul, Int.reduceEq, Int.reduceLT, Int.reduceLE, Int.natCast_add, Int.cast_ofNat_Int]
theorem r_haveRoom {d : Nat} {A : AS} {b : Int} {w : PW} (hV : q_vh A) (hM : rN A b w) (n0 : 0 ≤ A 0 5) (n1 : A 0 5 ≤ 3) (hg : ∀ t, 0 ≤ t → t < A 0 5 → q_gr A t) : ex_cal (d + 6) 197 [.ref 46] w = some (some (.int (bP (q_hr A))), w) := by
  have hr := q_rnh hV
  have g13 := hM.1.2.2.2.2.2.1
  rw [ke_197 kc_46]
  simp (disch := omega) only [ev_iload, ev_aload, rx_istore, ev_iinc, ev_push, ev_goto, ev_jsr, rx_ige_t, rx_ige_f, rx_zeq_t, rx_zeq_f, rx_zne_t, rx_zne_f, ev_getf, ev_iald, ev_callv, nr_i, nr_r, nr_l, nr_n, kA_47, kA_48, kA_49, kA_50, kA_51, kA_52, kA_53, kA_54, kA_55, kA_56, kA_57, kA_58, kA_59, kA_60, kA_61, kA_63, kA_64, kA_65, kA_66, kA_67, kA_68, kA_69, kA_70, rx_zret_t, rx_zretI, rx_zretP, kb_197_0, kb_197_45, kb_197_46, kb_197_71, kb_197_72, kb_197_79, kb_197_85, kr_197, kf_46_717, kf_46_718, kf_46_719, kf_46_720, List.getD_cons_zero, List.getD_cons_succ, List.set_cons_zero, List.set_cons_succ, ex_spl, ex_low, Option.toList, List.cons_append, List.nil_append, reduceIte, Int.reduceToNat, Nat.reduceDiv, Nat.reduceMod, Nat.reduceAdd, Nat.reduceMul, z_0, z_1, z_10, z_01, reduceCtorEq, ite_true, ite_false, true_and, and_true, ↓bI_01, ↓bP_01, ↓zret0, ↓zret1, z_add, z_sub, z_mul, up_1, up_2, not_true, not_false_iff, if_true, if_false, bI_T, bI_F, bP_T, bP_F, or_true, true_or, or_false, false_or, Int.reduceNeg, Int.reduceAdd, Int.reduceSub, Int.reduceMul, Int.reduceEq, Int.reduceLT, Int.reduceLE, Int.natCast_add, Int.cast_ofNat_Int]
  refine ex_loop (Q := fun r => r = some (some (.int (bP (q_hr A))), w)) (fun i s => ∃ P : Prop, ∃ v3, s = (ex_blk 197 4, [.ref 46, .int (bP P), .int (Int32.ofInt (i : Int)), v3], [], w) ∧ xv v3 ∧ (P ↔ ∀ t : Int, 0 ≤ t → t < (i : Int) → q_o1 A t ∧ ∀ u, 0 ≤ u → u < t → q_ap A 5 t u)) (A 0 5).toNat ?_ ?_ ?_
  · exact ⟨True, .null, by rw [bP_t trivial]; rfl, xv_n, ⟨fun _ t h0 h1 => absurd h1 (by omega), fun _ => trivial⟩⟩
  · rintro i s hi ⟨P, v3, rfl, x3, hP⟩
    right
    have gi := hg i (by omega) (by omega)
    obtain ⟨q1, q2, q3, q4, q5, q6, q7⟩ := id gi
    have e1 := hM.2.2.2.1.1 i (by omega) (by omega)
    have e2 := hM.2.2.2.1.2.1 i (by omega) (by omega)
    have e3 := hM.2.2.2.1.2.2 i (by omega) (by omega)
    have hfit := r_fitsIn (d := d + 2) hV hM (k := A 5 (5 * i)) (c := A 5 (5 * i + 1)) (v := A 5 (5 * i + 2)) q1 (by omega) q6 q7 q3 (by omega)
    have inner : ∀ R : Prop, (R → P ∧ q_o1 A i) → ∃ s', ex_ev (d + 5) (ex_cal (d + 5)) 197 (ex_blk 197 49, [.ref 46, .int (bP R), .int (Int32.ofInt (i : Int)), .int (Int32.ofInt 0)], [], w) = ex_ev (d + 5) (ex_cal (d + 5)) 197 s' ∧ ∃ S : Prop, s' = (ex_blk 197 49, [.ref 46, .int (bP S), .int (Int32.ofInt (i : Int)), .int (Int32.ofInt (i : Int))], [], w) ∧ (S ↔ R ∧ ∀ u : Int, 0 ≤ u → u < (i : Int) → q_ap A 5 i u) := by
      intro R hR
      refine ex_iterI (fun j s' => ∃ S : Prop, s' = (ex_blk 197 49, [.ref 46, .int (bP S), .int (Int32.ofInt (i : Int)), .int (Int32.ofInt (j : Int))], [], w) ∧ (S ↔ R ∧ ∀ u : Int, 0 ≤ u → u < (j : Int) → q_ap A 5 i u)) (a := 0) (n := i) (Nat.zero_le _) ⟨R, rfl, ⟨fun h => ⟨h, fun u h0 h1 => absurd h1 (by omega)⟩, fun h => h.1⟩⟩ ?_
      rintro j s - hj ⟨S, rfl, hS⟩
      have ext : ∀ Q : Prop, (Q ↔ S ∧ q_ap A 5 i j) → (Q ↔ R ∧ ∀ u : Int, 0 ≤ u → u < ((j + 1 : Nat) : Int) → q_ap A 5 i u) := by
        intro Q hQ
        rw [hQ, hS]
        constructor
        · rintro ⟨⟨a, b⟩, c⟩
          refine ⟨a, fun u u0 u1 => ?_⟩
          by_cases hu : u = j
          · rw [hu]; exact c
          · exact b u u0 (by omega)
        · exact fun a => ⟨⟨a.1, fun u u0 u1 => a.2 u u0 (by omega)⟩, a.2 j (by omega) (by omega)⟩
      by_cases hs : S
      · have hRR := (hS.1 hs).1
        have hPo := hR hRR
        have ht := r_touches (d := d) hV hM n1 (t := i) (u := j) (by omega) (by omega) (by omega) (by omega) gi (hg j (by omega) (by omega)) hPo.2 ((hP.1 hPo.1) j (by omega) (by omega)).1
        by_cases ha : q_ap A 5 i j
        · refine ⟨(ex_blk 197 49, [.ref 46, .int (bP True), .int (Int32.ofInt (i : Int)), .int (Int32.ofInt ((j : Int) + 1))], [], w), ?_, True, rfl, ext True ⟨fun _ => ⟨hs, ha⟩, fun _ => trivial⟩⟩
          rw [bP_t hs, bP_t trivial]
          rw [bP_f (fun h => h ha)] at ht
          conv => lhs; rw [kb_197_49]
          simp (disch := omega) only [ht, ev_iload, ev_aload, rx_istore, ev_iinc, ev_push, ev_goto, ev_jsr, rx_ige_t, rx_ige_f, rx_zeq_t, rx_zeq_f, rx_zne_t, rx_zne_f, ev_getf, ev_iald, ev_callv, nr_i, nr_r, nr_l, nr_n, kA_47, kA_48, kA_49, kA_50, kA_51, kA_52, kA_53, kA_54, kA_55, kA_56, kA_57, kA_58, kA_59, kA_60, kA_61, kA_63, kA_64, kA_65, kA_66, kA_67, kA_68, kA_69, kA_70, rx_zret_t, rx_zretI, rx_zretP, kb_197_0, kb_197_45, kb_197_46, kb_197_71, kb_197_72, kb_197_79, kb_197_85, kr_197, kf_46_717, kf_46_718, kf_46_719, kf_46_720, List.getD_cons_zero, List.getD_cons_succ, List.set_cons_zero, List.set_cons_succ, ex_spl, ex_low, Option.toList, List.cons_append, List.nil_append, reduceIte, Int.reduceToNat, Nat.reduceDiv, Nat.reduceMod, Nat.reduceAdd, Nat.reduceMul, z_0, z_1, z_10, z_01, reduceCtorEq, ite_true, ite_false, true_and, and_true, ↓bI_01, ↓bP_01, ↓zret0, ↓zret1, z_add, z_sub, z_mul, up_1, up_2, not_true, not_false_iff, if_true, if_false, bI_T, bI_F, bP_T, bP_F, or_true, true_or, or_false, false_or, Int.reduceNeg, Int.reduceAdd, Int.reduceSub, Int.reduceMul, Int.reduceEq, Int.reduceLT, Int.reduceLE, Int.natCast_add, Int.cast_ofNat_Int]
        · refine ⟨(ex_blk 197 49, [.ref 46, .int (bP False), .int (Int32.ofInt (i : Int)), .int (Int32.ofInt ((j : Int) + 1))], [], w), ?_, False, rfl, ext False ⟨False.elim, fun h => ha h.2⟩⟩
          rw [bP_t hs, bP_f id]
          rw [bP_t ha] at ht
          conv => lhs; rw [kb_197_49]
          simp (disch := omega) only [ht, ev_iload, ev_aload, rx_istore, ev_iinc, ev_push, ev_goto, ev_jsr, rx_ige_t, rx_ige_f, rx_zeq_t, rx_zeq_f, rx_zne_t, rx_zne_f, ev_getf, ev_iald, ev_callv, nr_i, nr_r, nr_l, nr_n, kA_47, kA_48, kA_49, kA_50, kA_51, kA_52, kA_53, kA_54, kA_55, kA_56, kA_57, kA_58, kA_59, kA_60, kA_61, kA_63, kA_64, kA_65, kA_66, kA_67, kA_68, kA_69, kA_70, rx_zret_t, rx_zretI, rx_zretP, kb_197_0, kb_197_45, kb_197_46, kb_197_71, kb_197_72, kb_197_79, kb_197_85, kr_197, kf_46_717, kf_46_718, kf_46_719, kf_46_720, List.getD_cons_zero, List.getD_cons_succ, List.set_cons_zero, List.set_cons_succ, ex_spl, ex_low, Option.toList, List.cons_append, List.nil_append, reduceIte, Int.reduceToNat, Nat.reduceDiv, Nat.reduceMod, Nat.reduceAdd, Nat.reduceMul, z_0, z_1, z_10, z_01, reduceCtorEq, ite_true, ite_false, true_and, and_true, ↓bI_01, ↓bP_01, ↓zret0, ↓zret1, z_add, z_sub, z_mul, up_1, up_2, not_true, not_false_iff, if_true, if_false, bI_T, bI_F, bP_T, bP_F, or_true, true_or, or_false, false_or, Int.reduceNeg, Int.reduceAdd, Int.reduceSub, Int.reduceMul, Int.reduceEq, Int.reduceLT, Int.reduceLE, Int.natCast_add, Int.cast_ofNat_Int]
      · refine ⟨(ex_blk 197 49, [.ref 46, .int (bP False), .int (Int32.ofInt (i : Int)), .int (Int32.ofInt ((j : Int) + 1))], [], w), ?_, False, rfl, ext False ⟨False.elim, fun h => hs h.1⟩⟩
        rw [bP_f hs, bP_f id]
        conv => lhs; rw [kb_197_49]
        simp (disch := omega) only [ev_iload, ev_aload, rx_istore, ev_iinc, ev_push, ev_goto, ev_jsr, rx_ige_t, rx_ige_f, rx_zeq_t, rx_zeq_f, rx_zne_t, rx_zne_f, ev_getf, ev_iald, ev_callv, nr_i, nr_r, nr_l, nr_n, kA_47, kA_48, kA_49, kA_50, kA_51, kA_52, kA_53, kA_54, kA_55, kA_56, kA_57, kA_58, kA_59, kA_60, kA_61, kA_63, kA_64, kA_65, kA_66, kA_67, kA_68, kA_69, kA_70, rx_zret_t, rx_zretI, rx_zretP, kb_197_0, kb_197_45, kb_197_46, kb_197_71, kb_197_72, kb_197_79, kb_197_85, kr_197, kf_46_717, kf_46_718, kf_46_719, kf_46_720, List.getD_cons_zero, List.getD_cons_succ, List.set_cons_zero, List.set_cons_succ, ex_spl, ex_low, Option.toList, List.cons_append, List.nil_append, reduceIte, Int.reduceToNat, Nat.reduceDiv, Nat.reduceMod, Nat.reduceAdd, Nat.reduceMul, z_0, z_1, z_10, z_01, reduceCtorEq, ite_true, ite_false, true_and, and_true, ↓bI_01, ↓bP_01, ↓zret0, ↓zret1, z_add, z_sub, z_mul, up_1, up_2, not_true, not_false_iff, if_true, if_false, bI_T, bI_F, bP_T, bP_F, or_true, true_or, or_false, false_or, Int.reduceNeg, Int.reduceAdd, Int.reduceSub, Int.reduceMul, Int.reduceEq, Int.reduceLT, Int.reduceLE, Int.natCast_add, Int.cast_ofNat_Int]
    have fin : ∀ S : Prop, ex_ev (d + 5) (ex_cal (d + 5)) 197 (ex_blk 197 49, [.ref 46, .int (bP S), .int (Int32.ofInt (i : Int)), .int (Int32.ofInt (i : Int))], [], w) = ex_ev (d + 5) (ex_cal (d + 5)) 197 (ex_blk 197 4, [.ref 46, .int (bP S), .int (Int32.ofInt ((i : Int) + 1)), .int (Int32.ofInt (i : Int))], [], w) := by
      intro S
      conv => lhs; rw [kb_197_49]
      simp (disch := omega) only [ev_iload, ev_aload, rx_istore, ev_iinc, ev_push, ev_goto, ev_jsr, rx_ige_t, rx_ige_f, rx_zeq_t, rx_zeq_f, rx_zne_t, rx_zne_f, ev_getf, ev_iald, ev_callv, nr_i, nr_r, nr_l, nr_n, kA_47, kA_48, kA_49, kA_50, kA_51, kA_52, kA_53, kA_54, kA_55, kA_56, kA_57, kA_58, kA_59, kA_60, kA_61, kA_63, kA_64, kA_65, kA_66, kA_67, kA_68, kA_69, kA_70, rx_zret_t, rx_zretI, rx_zretP, kb_197_0, kb_197_45, kb_197_46, kb_197_71, kb_197_72, kb_197_79, kb_197_85, kr_197, kf_46_717, kf_46_718, kf_46_719, kf_46_720, List.getD_cons_zero, List.getD_cons_succ, List.set_cons_zero, List.set_cons_succ, ex_spl, ex_low, Option.toList, List.cons_append, List.nil_append, reduceIte, Int.reduceToNat, Nat.reduceDiv, Nat.reduceMod, Nat.reduceAdd, Nat.reduceMul, z_0, z_1, z_10, z_01, reduceCtorEq, ite_true, ite_false, true_and, and_true, ↓bI_01, ↓bP_01, ↓zret0, ↓zret1, z_add, z_sub, z_mul, up_1, up_2, not_true, not_false_iff, if_true, if_false, bI_T, bI_F, bP_T, bP_F, or_true, true_or, or_false, false_or, Int.reduceNeg, Int.reduceAdd, Int.reduceSub, Int.reduceMul, Int.reduceEq, Int.reduceLT, Int.reduceLE, Int.natCast_add, Int.cast_ofNat_Int]
    have ext : ∀ Q : Prop, (Q ↔ (P ∧ q_o1 A i) ∧ ∀ u : Int, 0 ≤ u → u < (i : Int) → q_ap A 5 i u) → (Q ↔ ∀ t : Int, 0 ≤ t → t < ((i + 1 : Nat) : Int) → q_o1 A t ∧ ∀ u, 0 ≤ u → u < t → q_ap A 5 t u) := by
      intro Q hQ
      rw [hQ, hP]
      constructor
      · rintro ⟨⟨a, b⟩, c⟩ t t0 t1
        by_cases ht : t = i
        · rw [ht]; exact ⟨b, c⟩
        · exact a t t0 (by omega)
      · exact fun a => ⟨⟨fun t t0 t1 => a t t0 (by omega), (a i (by omega) (by omega)).1⟩, (a i (by omega) (by omega)).2⟩
    have o1e : (q_fl A (A 5 (5 * i + 1)) ∧ q_fl A (q_ls A (A 5 (5 * i)) (A 5 (5 * i + 1)) (A 5 (5 * i + 2)))) = q_o1 A i := rfl
    rw [o1e] at hfit
    by_cases hp : P ∧ q_o1 A i
    · obtain ⟨s2, h2, S, rfl, hS⟩ := inner True (fun _ => hp)
      refine ⟨(ex_blk 197 4, [.ref 46, .int (bP S), .int (Int32.ofInt ((i : Int) + 1)), .int (Int32.ofInt (i : Int))], [], w), ?_, S, _, rfl, xv_i _, ext S ⟨fun h => ⟨hp, (hS.1 h).2⟩, fun h => hS.2 ⟨trivial, h.2⟩⟩⟩
      rw [bP_t trivial] at h2
      rw [bP_t hp.2] at hfit
      rw [bP_t hp.1]
      refine Eq.trans ?_ (h2.trans (fin S))
      conv => lhs; rw [kb_197_4]
      simp (disch := omega) only [g13, e1, e2, e3, hfit, x3, ev_iload, ev_aload, rx_istore, ev_iinc, ev_push, ev_goto, ev_jsr, rx_ige_t, rx_ige_f, rx_zeq_t, rx_zeq_f, rx_zne_t, rx_zne_f, ev_getf, ev_iald, ev_callv, nr_i, nr_r, nr_l, nr_n, kA_47, kA_48, kA_49, kA_50, kA_51, kA_52, kA_53, kA_54, kA_55, kA_56, kA_57, kA_58, kA_59, kA_60, kA_61, kA_63, kA_64, kA_65, kA_66, kA_67, kA_68, kA_69, kA_70, rx_zret_t, rx_zretI, rx_zretP, kb_197_0, kb_197_45, kb_197_46, kb_197_71, kb_197_72, kb_197_79, kb_197_85, kr_197, kf_46_717, kf_46_718, kf_46_719, kf_46_720, List.getD_cons_zero, List.getD_cons_succ, List.set_cons_zero, List.set_cons_succ, ex_spl, ex_low, Option.toList, List.cons_append, List.nil_append, reduceIte, Int.reduceToNat, Nat.reduceDiv, Nat.reduceMod, Nat.reduceAdd, Nat.reduceMul, z_0, z_1, z_10, z_01, reduceCtorEq, ite_true, ite_false, true_and, and_true, ↓bI_01, ↓bP_01, ↓zret0, ↓zret1, z_add, z_sub, z_mul, up_1, up_2, not_true, not_false_iff, if_true, if_false, bI_T, bI_F, bP_T, bP_F, or_true, true_or, or_false, false_or, Int.reduceNeg, Int.reduceAdd, Int.reduceSub, Int.reduceMul, Int.reduceEq, Int.reduceLT, Int.reduceLE, Int.natCast_add, Int.cast_ofNat_Int]
    · obtain ⟨s2, h2, S, rfl, hS⟩ := inner False (fun h => h.elim)
      refine ⟨(ex_blk 197 4, [.ref 46, .int (bP S), .int (Int32.ofInt ((i : Int) + 1)), .int (Int32.ofInt (i : Int))], [], w), ?_, S, _, rfl, xv_i _, ext S ⟨fun h => ((hS.1 h).1).elim, fun h => absurd h.1 hp⟩⟩
      rw [bP_f id] at h2
      refine Eq.trans ?_ (h2.trans (fin S))
      conv => lhs; rw [kb_197_4]
      by_cases hpp : P
      · have ho : ¬ q_o1 A i := fun h => hp ⟨hpp, h⟩
        rw [bP_f ho] at hfit
        rw [bP_t hpp]
        simp (disch := omega) only [g13, e1, e2, e3, hfit, x3, ev_iload, ev_aload, rx_istore, ev_iinc, ev_push, ev_goto, ev_jsr, rx_ige_t, rx_ige_f, rx_zeq_t, rx_zeq_f, rx_zne_t, rx_zne_f, ev_getf, ev_iald, ev_callv, nr_i, nr_r, nr_l, nr_n, kA_47, kA_48, kA_49, kA_50, kA_51, kA_52, kA_53, kA_54, kA_55, kA_56, kA_57, kA_58, kA_59, kA_60, kA_61, kA_63, kA_64, kA_65, kA_66, kA_67, kA_68, kA_69, kA_70, rx_zret_t, rx_zretI, rx_zretP, kb_197_0, kb_197_45, kb_197_46, kb_197_71, kb_197_72, kb_197_79, kb_197_85, kr_197, kf_46_717, kf_46_718, kf_46_719, kf_46_720, List.getD_cons_zero, List.getD_cons_succ, List.set_cons_zero, List.set_cons_succ, ex_spl, ex_low, Option.toList, List.cons_append, List.nil_append, reduceIte, Int.reduceToNat, Nat.reduceDiv, Nat.reduceMod, Nat.reduceAdd, Nat.reduceMul, z_0, z_1, z_10, z_01, reduceCtorEq, ite_true, ite_false, true_and, and_true, ↓bI_01, ↓bP_01, ↓zret0, ↓zret1, z_add, z_sub, z_mul, up_1, up_2, not_true, not_false_iff, if_true, if_false, bI_T, bI_F, bP_T, bP_F, or_true, true_or, or_false, false_or, Int.reduceNeg, Int.reduceAdd, Int.reduceSub, Int.reduceMul, Int.reduceEq, Int.reduceLT, Int.reduceLE, Int.natCast_add, Int.cast_ofNat_Int]
      · rw [bP_f hpp]
        simp (disch := omega) only [g13, x3, ev_iload, ev_aload, rx_istore, ev_iinc, ev_push, ev_goto, ev_jsr, rx_ige_t, rx_ige_f, rx_zeq_t, rx_zeq_f, rx_zne_t, rx_zne_f, ev_getf, ev_iald, ev_callv, nr_i, nr_r, nr_l, nr_n, kA_47, kA_48, kA_49, kA_50, kA_51, kA_52, kA_53, kA_54, kA_55, kA_56, kA_57, kA_58, kA_59, kA_60, kA_61, kA_63, kA_64, kA_65, kA_66, kA_67, kA_68, kA_69, kA_70, rx_zret_t, rx_zretI, rx_zretP, kb_197_0, kb_197_45, kb_197_46, kb_197_71, kb_197_72, kb_197_79, kb_197_85, kr_197, kf_46_717, kf_46_718, kf_46_719, kf_46_720, List.getD_cons_zero, List.getD_cons_succ, List.set_cons_zero, List.set_cons_succ, ex_spl, ex_low, Option.toList, List.cons_append, List.nil_append, reduceIte, Int.reduceToNat, Nat.reduceDiv, Nat.reduceMod, Nat.reduceAdd, Nat.reduceMul, z_0, z_1, z_10, z_01, reduceCtorEq, ite_true, ite_false, true_and, and_true, ↓bI_01, ↓bP_01, ↓zret0, ↓zret1, z_add, z_sub, z_mul, up_1, up_2, not_true, not_false_iff, if_true, if_false, bI_T, bI_F, bP_T, bP_F, or_true, true_or, or_false, false_or, Int.reduceNeg, Int.reduceAdd, Int.reduceSub, Int.reduceMul, Int.reduceEq, Int.reduceLT, Int.reduceLE, Int.natCast_add, Int.cast_ofNat_Int]
  · rintro s ⟨P, v3, rfl, x3, hP⟩
    rw [Int.toNat_of_nonneg n0] at hP
    rw [kb_197_4, show bP (q_hr A) = bP P from bP_c ⟨fun h => hP.2 h, fun h => hP.1 h⟩]
    simp (disch := omega) only [g13, ev_iload, ev_aload, rx_istore, ev_iinc, ev_push, ev_goto, ev_jsr, rx_ige_t, rx_ige_f, rx_zeq_t, rx_zeq_f, rx_zne_t, rx_zne_f, ev_getf, ev_iald, ev_callv, nr_i, nr_r, nr_l, nr_n, kA_47, kA_48, kA_49, kA_50, kA_51, kA_52, kA_53, kA_54, kA_55, kA_56, kA_57, kA_58, kA_59, kA_60, kA_61, kA_63, kA_64, kA_65, kA_66, kA_67, kA_68, kA_69, kA_70, rx_zret_t, rx_zretI, rx_zretP, kb_197_0, kb_197_45, kb_197_46, kb_197_71, kb_197_72, kb_197_79, kb_197_85, kr_197, kf_46_717, kf_46_718, kf_46_719, kf_46_720, List.getD_cons_zero, List.getD_cons_succ, List.set_cons_zero, List.set_cons_succ, ex_spl, ex_low, Option.toList, List.cons_append, List.nil_append, reduceIte, Int.reduceToNat, Nat.reduceDiv, Nat.reduceMod, Nat.reduceAdd, Nat.reduceMul, z_0, z_1, z_10, z_01, reduceCtorEq, ite_true, ite_false, true_and, and_true, ↓bI_01, ↓bP_01, ↓zret0, ↓zret1, z_add, z_sub, z_mul, up_1, up_2, not_true, not_false_iff, if_true, if_false, bI_T, bI_F, bP_T, bP_F, or_true, true_or, or_false, false_or, Int.reduceNeg, Int.reduceAdd, Int.reduceSub, Int.reduceMul, Int.reduceEq, Int.reduceLT, Int.reduceLE, Int.natCast_add, Int.cast_ofNat_Int]
/-! the new state's room, told of the old one -/
def q_mv (A : AS) (t c v : Int) : AS := fun x y => if x = 5 ∧ y = 5 * t + 1 then c else if x = 5 ∧ y = 5 * t + 2 then v else A x y
theorem q_mv_k {A : AS} {t c v u : Int} : q_mv A t c v 5 (5 * u) = A 5 (5 * u) := by
  unfold q_mv; rw [if_neg (by omega), if_neg (by omega)]
theorem q_mv_s {A : AS} {t c v : Int} : q_mv A t c v 5 (5 * t + 1) = c ∧ q_mv A t c v 5 (5 * t + 2) = v := by
  unfold q_mv; exact ⟨if_pos ⟨rfl, rfl⟩, by rw [if_neg (by omega), if_pos ⟨rfl, rfl⟩]⟩
theorem q_mv_o {A : AS} {t c v u : Int} (h : ¬ u = t) : q_mv A t c v 5 (5 * u + 1) = A 5 (5 * u + 1) ∧ q_mv A t c v 5 (5 * u + 2) = A 5 (5 * u + 2) := by
  unfold q_mv; exact ⟨by rw [if_neg (by omega), if_neg (by omega)], by rw [if_neg (by omega), if_neg (by omega)]⟩
theorem q_mv_la {A : AS} {t c v u : Int} (h : ¬ u = t) : q_la (q_mv A t c v) u = q_la A u := by
  show q_ls A (q_mv A t c v 5 (5 * u)) (q_mv A t c v 5 (5 * u + 1)) (q_mv A t c v 5 (5 * u + 2)) = _
  rw [q_mv_k, (q_mv_o h).1, (q_mv_o h).2]; rfl
theorem q_mv_ls {A : AS} {t c v : Int} : q_la (q_mv A t c v) t = q_ls A (A 5 (5 * t)) c v := by
  show q_ls A (q_mv A t c v 5 (5 * t)) (q_mv A t c v 5 (5 * t + 1)) (q_mv A t c v 5 (5 * t + 2)) = _
  rw [q_mv_k, q_mv_s.1, q_mv_s.2]
theorem q_ad_la {A : AS} {k c v a b u : Int} (h : u < A 0 5) : q_la (q_ad A 5 5 k c v a b) u = q_la A u := by
  show q_ls A (q_ad A 5 5 k c v a b 5 (5 * u)) (q_ad A 5 5 k c v a b 5 (5 * u + 1)) (q_ad A 5 5 k c v a b 5 (5 * u + 2)) = _
  rw [q_ad_o (by omega) (by omega), q_ad_o (by omega) (by omega), q_ad_o (by omega) (by omega)]; rfl
theorem q_ad_ls {A : AS} {k c v a b : Int} : q_la (q_ad A 5 5 k c v a b) (A 0 5) = q_ls A k c v := by
  obtain ⟨r0, r1, r2, r3, r4⟩ := q_ad_r (A := A) (j := 5) (s := 5) (a := k) (b := c) (c := v) (d := a) (e := b) (by omega)
  show q_ls A (q_ad A 5 5 k c v a b 5 (5 * A 0 5)) (q_ad A 5 5 k c v a b 5 (5 * A 0 5 + 1)) (q_ad A 5 5 k c v a b 5 (5 * A 0 5 + 2)) = _
  rw [r0, r1, r2]
theorem q_ap_e {A : AS} {t u : Int} : q_ap A 5 t u ↔ ¬ A 5 (5 * t + 1) = A 5 (5 * u + 1) ∧ ¬ A 5 (5 * t + 1) = q_la A u ∧ ¬ q_la A t = A 5 (5 * u + 1) ∧ ¬ q_la A t = q_la A u := Iff.rfl
theorem q_ap_s {A : AS} {t u : Int} (h : q_ap A 5 t u) : q_ap A 5 u t := by
  obtain ⟨a, b, c, d⟩ := q_ap_e.1 h
  exact q_ap_e.2 ⟨fun e => a e.symm, fun e => c e.symm, fun e => b e.symm, fun e => d e.symm⟩
theorem q_hr_ad {A : AS} (hV : q_v0 A) (hd : q_vd A 5 5) {k c v : Int} (hw : k = 1 ∨ v = 0) : q_hr (q_ad A 5 5 k c v 0 0) ↔ q_room A k c v (-1) := by
  have hr := q_rng hV
  obtain ⟨r0, r1, r2, r3, r4⟩ := q_ad_r (A := A) (j := 5) (s := 5) (a := k) (b := c) (c := v) (d := 0) (e := 0) (by omega)
  have hT := hV.2.2.2.1.2.2
  constructor
  · intro h
    have hn := h (A 0 5) (by omega) (by rw [q_ad_n]; omega)
    have h1 : q_fl A c := by have := hn.1.1; rw [r1] at this; exact this
    have h2 : q_fl A (q_ls A k c v) := by have := hn.1.2; rw [q_ad_ls] at this; exact this
    refine ⟨⟨h1, h2, hw⟩, fun t t0 t1 _ => ?_⟩
    obtain ⟨a, b, c', d⟩ := q_ap_e.1 (hn.2 t t0 t1)
    rw [r1, q_ad_o (by omega) (by omega)] at a
    rw [r1, q_ad_la t1] at b
    rw [q_ad_ls, q_ad_o (by omega) (by omega)] at c'
    rw [q_ad_ls, q_ad_la t1] at d
    unfold q_at
    exact ⟨fun h => by rcases h with h | h <;> omega, fun h => by rcases h with h | h <;> omega⟩
  · rintro ⟨⟨h1, h2, h3⟩, h4⟩ t t0 t1
    rw [q_ad_n] at t1
    by_cases ht : t < A 0 5
    · refine ⟨⟨?_, ?_⟩, fun u u0 u1 => q_ap_e.2 ?_⟩
      · rw [q_ad_o (by omega) (by omega)]; exact (hT t t0 ht).2.2.2.2.2.1
      · rw [q_ad_la ht]; exact (hT t t0 ht).2.2.2.2.2.2
      · rw [q_ad_o (by omega) (by omega), q_ad_o (by omega) (by omega), q_ad_la ht, q_ad_la (by omega)]
        exact q_ap_e.1 (hd t u t0 ht u0 u1)
    · have : t = A 0 5 := by omega
      subst this
      refine ⟨⟨?_, ?_⟩, fun u u0 u1 => q_ap_e.2 ?_⟩
      · rw [r1]; exact h1
      · rw [q_ad_ls]; exact h2
      · rw [r1, q_ad_ls, q_ad_o (by omega) (by omega), q_ad_la u1]
        have := h4 u u0 u1 (by omega)
        unfold q_at at this
        exact ⟨fun e => this.1 (Or.inl e.symm), fun e => this.1 (Or.inr e.symm), fun e => this.2 (Or.inl e.symm), fun e => this.2 (Or.inr e.symm)⟩
theorem q_hr_mv {A : AS} (hV : q_v0 A) (hd : q_vd A 5 5) {t c v : Int} (t0 : 0 ≤ t) (t1 : t < A 0 5) (hw : A 5 (5 * t) = 1 ∨ v = 0) : q_hr (q_mv A t c v) ↔ q_room A (A 5 (5 * t)) c v t := by
  have hr := q_rng hV
  have hT := hV.2.2.2.1.2.2
  have hdd : ∀ u x, 0 ≤ u → u < A 0 5 → 0 ≤ x → x < A 0 5 → ¬ u = x → q_ap A 5 u x := by
    intro u x u0 u1 x0 x1 hux
    by_cases h : x < u
    · exact hd u x u0 u1 x0 h
    · exact q_ap_s (hd x u x0 x1 u0 (by omega))
  constructor
  · intro h
    have hn := h t t0 t1
    have h1 : q_fl A c := by have := hn.1.1; rw [q_mv_s.1] at this; exact this
    have h2 : q_fl A (q_ls A (A 5 (5 * t)) c v) := by have := hn.1.2; rw [q_mv_ls] at this; exact this
    refine ⟨⟨h1, h2, hw⟩, fun u u0 u1 hut => ?_⟩
    have hap : q_ap (q_mv A t c v) 5 t u := by
      by_cases hlt : u < t
      · exact hn.2 u u0 hlt
      · exact q_ap_s ((h u u0 u1).2 t t0 (by omega))
    obtain ⟨a, b, c', d⟩ := q_ap_e.1 hap
    rw [q_mv_s.1, (q_mv_o hut).1] at a
    rw [q_mv_s.1, q_mv_la hut] at b
    rw [q_mv_ls, (q_mv_o hut).1] at c'
    rw [q_mv_ls, q_mv_la hut] at d
    unfold q_at
    exact ⟨fun h => by rcases h with h | h <;> omega, fun h => by rcases h with h | h <;> omega⟩
  · rintro ⟨⟨h1, h2, h3⟩, h4⟩ u u0 u1
    have u1' : u < A 0 5 := u1
    have hnew : ∀ x, 0 ≤ x → x < A 0 5 → ¬ x = t → q_ap (q_mv A t c v) 5 t x := by
      intro x x0 x1 hx
      have := h4 x x0 x1 hx
      unfold q_at at this
      refine q_ap_e.2 ?_
      rw [q_mv_s.1, q_mv_ls, (q_mv_o hx).1, q_mv_la hx]
      exact ⟨fun e => this.1 (Or.inl e.symm), fun e => this.1 (Or.inr e.symm), fun e => this.2 (Or.inl e.symm), fun e => this.2 (Or.inr e.symm)⟩
    by_cases hut : u = t
    · subst hut
      refine ⟨⟨by rw [q_mv_s.1]; exact h1, by rw [q_mv_ls]; exact h2⟩, fun x x0 x1 => hnew x x0 (by omega) (by omega)⟩
    · refine ⟨⟨by rw [(q_mv_o hut).1]; exact (hT u u0 u1').2.2.2.2.2.1, by rw [q_mv_la hut]; exact (hT u u0 u1').2.2.2.2.2.2⟩, fun x x0 x1 => ?_⟩
      by_cases hxt : x = t
      · rw [hxt]; exact q_ap_s (hnew u u0 u1' hut)
      · refine q_ap_e.2 ?_
        rw [(q_mv_o hut).1, (q_mv_o hxt).1, q_mv_la hut, q_mv_la hxt]
        exact q_ap_e.1 (hdd u x u0 u1' x0 (by omega) (by omega))
