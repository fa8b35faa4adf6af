/-! house, its cells -/
def q_x3 (k : Int) : Int := if k = 0 then 46 else if k = 1 then 35 else 100
theorem q_K_r (z : Nat × (Nat → Int32)) (c : Int) : 0 ≤ q_K z c ∧ q_K z c ≤ 2 := by
  unfold q_K
  split <;> (try split) <;> omega
theorem l_hc1 {d : Nat} {w w1 : PW} (hw : w1.2 = w.2) (hz : w.2.2.1 ≤ 260) {C : Int} (h1 : w1.1 46 1 = Int32.ofInt C) {r i c : Int} (hc : C * r + i = c) (c0 : 0 ≤ c) (c1 : c < 24) (i0 : 0 ≤ i) (i1 : i < C) (C6 : C ≤ 6) {v8 v9 : Value} (x8 : xv v8) (x9 : xv v9) : ex_ev (d + 9) (ex_cal (d + 9)) 95 (ex_blk 95 141, [.ref 0, .ref 2000, .int (Int32.ofInt 0), .ref 46, .ref 47, .int (Int32.ofInt 1), .int (Int32.ofInt r), .int (Int32.ofInt i), v8, v9], [], w1) = ex_ev (d + 9) (ex_cal (d + 9)) 95 (ex_blk 95 218, [.ref 0, .ref 2000, .int (Int32.ofInt 0), .ref 46, .ref 47, .int (Int32.ofInt 1), .int (Int32.ofInt r), .int (Int32.ofInt i), .int (Int32.ofInt c), .int (Int32.ofInt (q_v3 w.2.2 c))], [.int (Int32.ofInt (q_K w.2.2 c)), .int (Int32.ofInt c), .ref 47], w1) := by
  have hce : ∀ d, ex_cal (d + 1) 92 [.ref 2000, .int (Int32.ofInt (1 + c / 8))] w1 = some (some (.int (Int32.ofInt (q_s w.2.2 (1 + c / 8)))), w1) := fun d => by
    have h := l_cell (d := d) (w := w1) (by rw [hw]; exact hz) (k := 1 + c / 8) (by omega) (by omega)
    rw [hw] at h
    exact h
  have hv := q_v3_r w.2.2 c
  have e7 := q_v3_e w.2.2 c
  conv => lhs; rw [kb_95_141]
  by_cases hK : c = 0 ∨ q_v3 w.2.2 c < 6
  · have hk : q_K w.2.2 c = 0 := by unfold q_K; rw [if_pos hK]
    rw [hk]
    by_cases hc0 : c = 0
    · simp (disch := omega) only [h1, hc, hce, e7, x8, x9, ev_iload, ev_aload, rx_istore, ev_iinc, ev_push, ev_iadd, ev_imul, ev_iand, ev_ishr, rx_idiv, rx_irem, ev_goto, ev_jsr, rx_ine_t, rx_ine_f, rx_ige_t, rx_ige_f, rx_zeq_t, rx_zeq_f, rx_zne_t, rx_zne_f, rx_zgt_t, rx_zgt_f, ev_iald, ev_call, ev_callv, nr_i, nr_r, nr_l, nr_n, kA_46, kA_47, kA_48, kA_49, kA_50, kA_51, kA_52, kS_46, kS_47, kS_48, kS_49, kS_50, kS_51, kS_52, cg_92, cg_93, rx_zret_t, rx_zretI, rx_zretP, kb_95_0, kb_95_60, kb_95_72, kb_95_84, kb_95_113, kb_95_131, kb_95_135, kb_95_136, kb_95_202, kb_95_206, kb_95_217, kb_95_238, kb_95_252, kb_95_254, kb_95_282, kb_95_286, kb_95_287, kb_95_295, kb_95_301, kb_95_338, kb_95_339, kr_95, List.getD_cons_zero, List.getD_cons_succ, List.set_cons_zero, List.set_cons_succ, ex_spl, ex_low, Option.toList, List.cons_append, List.nil_append, reduceIte, Int.reduceToNat, Nat.reduceDiv, Nat.reduceMod, Nat.reduceAdd, Nat.reduceMul, z_0, z_1, z_10, z_01, reduceCtorEq, ite_true, ite_false, true_and, and_true, ↓bI_01, ↓bP_01, ↓zret0, ↓zret1, z_add, z_sub, z_mul, up_1, up_2, not_true, not_false_iff, if_true, if_false, Bool.true_and, bI_T, bI_F, bP_T, bP_F, or_true, true_or, or_false, false_or, Int.reduceNeg, Int.reduceAdd, Int.reduceSub, Int.reduceMul, Int.reduceEq, Int.reduceLT, Int.reduceLE, Int.natCast_add, Int.cast_ofNat_Int]
    · simp (disch := omega) only [h1, hc, hce, e7, x8, x9, ev_iload, ev_aload, rx_istore, ev_iinc, ev_push, ev_iadd, ev_imul, ev_iand, ev_ishr, rx_idiv, rx_irem, ev_goto, ev_jsr, rx_ine_t, rx_ine_f, rx_ige_t, rx_ige_f, rx_zeq_t, rx_zeq_f, rx_zne_t, rx_zne_f, rx_zgt_t, rx_zgt_f, ev_iald, ev_call, ev_callv, nr_i, nr_r, nr_l, nr_n, kA_46, kA_47, kA_48, kA_49, kA_50, kA_51, kA_52, kS_46, kS_47, kS_48, kS_49, kS_50, kS_51, kS_52, cg_92, cg_93, rx_zret_t, rx_zretI, rx_zretP, kb_95_0, kb_95_60, kb_95_72, kb_95_84, kb_95_113, kb_95_131, kb_95_135, kb_95_136, kb_95_202, kb_95_206, kb_95_217, kb_95_238, kb_95_252, kb_95_254, kb_95_282, kb_95_286, kb_95_287, kb_95_295, kb_95_301, kb_95_338, kb_95_339, kr_95, List.getD_cons_zero, List.getD_cons_succ, List.set_cons_zero, List.set_cons_succ, ex_spl, ex_low, Option.toList, List.cons_append, List.nil_append, reduceIte, Int.reduceToNat, Nat.reduceDiv, Nat.reduceMod, Nat.reduceAdd, Nat.reduceMul, z_0, z_1, z_10, z_01, reduceCtorEq, ite_true, ite_false, true_and, and_true, ↓bI_01, ↓bP_01, ↓zret0, ↓zret1, z_add, z_sub, z_mul, up_1, up_2, not_true, not_false_iff, if_true, if_false, Bool.true_and, bI_T, bI_F, bP_T, bP_F, or_true, true_or, or_false, false_or, Int.reduceNeg, Int.reduceAdd, Int.reduceSub, Int.reduceMul, Int.reduceEq, Int.reduceLT, Int.reduceLE, Int.natCast_add, Int.cast_ofNat_Int]
  · by_cases h6 : q_v3 w.2.2 c = 6
    · have hk : q_K w.2.2 c = 1 := by unfold q_K; rw [if_neg hK, if_pos h6]
      rw [hk]
      simp (disch := omega) only [h1, hc, hce, e7, x8, x9, ev_iload, ev_aload, rx_istore, ev_iinc, ev_push, ev_iadd, ev_imul, ev_iand, ev_ishr, rx_idiv, rx_irem, ev_goto, ev_jsr, rx_ine_t, rx_ine_f, rx_ige_t, rx_ige_f, rx_zeq_t, rx_zeq_f, rx_zne_t, rx_zne_f, rx_zgt_t, rx_zgt_f, ev_iald, ev_call, ev_callv, nr_i, nr_r, nr_l, nr_n, kA_46, kA_47, kA_48, kA_49, kA_50, kA_51, kA_52, kS_46, kS_47, kS_48, kS_49, kS_50, kS_51, kS_52, cg_92, cg_93, rx_zret_t, rx_zretI, rx_zretP, kb_95_0, kb_95_60, kb_95_72, kb_95_84, kb_95_113, kb_95_131, kb_95_135, kb_95_136, kb_95_202, kb_95_206, kb_95_217, kb_95_238, kb_95_252, kb_95_254, kb_95_282, kb_95_286, kb_95_287, kb_95_295, kb_95_301, kb_95_338, kb_95_339, kr_95, List.getD_cons_zero, List.getD_cons_succ, List.set_cons_zero, List.set_cons_succ, ex_spl, ex_low, Option.toList, List.cons_append, List.nil_append, reduceIte, Int.reduceToNat, Nat.reduceDiv, Nat.reduceMod, Nat.reduceAdd, Nat.reduceMul, z_0, z_1, z_10, z_01, reduceCtorEq, ite_true, ite_false, true_and, and_true, ↓bI_01, ↓bP_01, ↓zret0, ↓zret1, z_add, z_sub, z_mul, up_1, up_2, not_true, not_false_iff, if_true, if_false, Bool.true_and, bI_T, bI_F, bP_T, bP_F, or_true, true_or, or_false, false_or, Int.reduceNeg, Int.reduceAdd, Int.reduceSub, Int.reduceMul, Int.reduceEq, Int.reduceLT, Int.reduceLE, Int.natCast_add, Int.cast_ofNat_Int]
    · have hk : q_K w.2.2 c = 2 := by unfold q_K; rw [if_neg hK, if_neg h6]
      rw [hk]
      simp (disch := omega) only [h1, hc, hce, e7, x8, x9, ev_iload, ev_aload, rx_istore, ev_iinc, ev_push, ev_iadd, ev_imul, ev_iand, ev_ishr, rx_idiv, rx_irem, ev_goto, ev_jsr, rx_ine_t, rx_ine_f, rx_ige_t, rx_ige_f, rx_zeq_t, rx_zeq_f, rx_zne_t, rx_zne_f, rx_zgt_t, rx_zgt_f, ev_iald, ev_call, ev_callv, nr_i, nr_r, nr_l, nr_n, kA_46, kA_47, kA_48, kA_49, kA_50, kA_51, kA_52, kS_46, kS_47, kS_48, kS_49, kS_50, kS_51, kS_52, cg_92, cg_93, rx_zret_t, rx_zretI, rx_zretP, kb_95_0, kb_95_60, kb_95_72, kb_95_84, kb_95_113, kb_95_131, kb_95_135, kb_95_136, kb_95_202, kb_95_206, kb_95_217, kb_95_238, kb_95_252, kb_95_254, kb_95_282, kb_95_286, kb_95_287, kb_95_295, kb_95_301, kb_95_338, kb_95_339, kr_95, List.getD_cons_zero, List.getD_cons_succ, List.set_cons_zero, List.set_cons_succ, ex_spl, ex_low, Option.toList, List.cons_append, List.nil_append, reduceIte, Int.reduceToNat, Nat.reduceDiv, Nat.reduceMod, Nat.reduceAdd, Nat.reduceMul, z_0, z_1, z_10, z_01, reduceCtorEq, ite_true, ite_false, true_and, and_true, ↓bI_01, ↓bP_01, ↓zret0, ↓zret1, z_add, z_sub, z_mul, up_1, up_2, not_true, not_false_iff, if_true, if_false, Bool.true_and, bI_T, bI_F, bP_T, bP_F, or_true, true_or, or_false, false_or, Int.reduceNeg, Int.reduceAdd, Int.reduceSub, Int.reduceMul, Int.reduceEq, Int.reduceLT, Int.reduceLE, Int.natCast_add, Int.cast_ofNat_Int]
theorem l_hcell {d : Nat} {A B : AS} {w w1 : PW} (hz : w.2.2.1 ≤ 260) {r i : Nat} {l : Int} (hs : l_hs A B w w1 ((r : Int) + 1) (q_C w.2.2 * r + i)) (hr : (r : Int) < q_R w.2.2) (hi : (i : Int) < q_C w.2.2) (hb : 0 ≤ q_C w.2.2 * r ∧ q_C w.2.2 * r + q_C w.2.2 ≤ 24) (hrd : l_rd w.2.2 B r i l) (hl : l = if q_N w.2.2 r ≤ (i : Int) then 1 else 0) (h8 : B 0 8 ≤ 8 * (r : Int) + 1 + (i : Int) + l) {v8 v9 : Value} (x8 : xv v8) (x9 : xv v9) :
    ∃ B2 w2 l2 y8 y9, ex_ev (d + 9) (ex_cal (d + 9)) 95 (ex_blk 95 141, [.ref 0, .ref 2000, .int (Int32.ofInt 0), .ref 46, .ref 47, .int (Int32.ofInt 1), .int (Int32.ofInt (r : Int)), .int (Int32.ofInt (i : Int)), v8, v9], [], w1) = ex_ev (d + 9) (ex_cal (d + 9)) 95 (ex_blk 95 141, [.ref 0, .ref 2000, .int (Int32.ofInt 0), .ref 46, .ref 47, .int (Int32.ofInt 1), .int (Int32.ofInt (r : Int)), .int (Int32.ofInt ((i : Int) + 1)), y8, y9], [], w2) ∧ (xv y8 ∧ xv y9) ∧ l_hs A B2 w w2 ((r : Int) + 1) (q_C w.2.2 * r + ((i : Int) + 1)) ∧ l_rd w.2.2 B2 r ((i : Int) + 1) l2 ∧ (l2 = if q_N w.2.2 r ≤ (i : Int) + 1 then 1 else 0) ∧ B2 0 8 ≤ 8 * (r : Int) + 1 + ((i : Int) + 1) + l2 := by
  have hRC := q_RC w.2.2
  have hN := q_N_r w.2.2 r
  have hw1 : w1.2 = w.2 := hs.1.2.2.1
  have e1 := l_hc1 (d := d) hw1 hz hs.2.2.1.2 (r := r) (i := i) (c := q_C w.2.2 * r + i) rfl (by omega) (by omega) (by omega) hi (by omega) x8 x9
  generalize hc : q_C w.2.2 * (r : Int) + (i : Int) = c at *
  have hK := q_K_r w.2.2 c
  have hs2 := l_hup hs (o := 47) (k := c.toNat) (x := Int32.ofInt (q_K w.2.2 c)) (Or.inr rfl) (fun h => absurd h (by omega)) (fun _ => ⟨rfl, by omega, rfl⟩)
  rw [if_neg (by omega), if_pos rfl] at hs2
  have ekc := hs2.2.2.2.2 c (by omega) (by omega)
  generalize hu : ex_up w1 47 c.toNat (Int32.ofInt (q_K w.2.2 c)) = u at *
  obtain ⟨K, L, hp, hKK, hL, hL1⟩ := hrd
  have hx3 : q_x3 (q_K w.2.2 c) = 46 ∨ q_x3 (q_K w.2.2 c) = 35 ∨ q_x3 (q_K w.2.2 c) = 100 := by
    unfold q_x3
    split
    · exact Or.inl rfl
    · split
      · exact Or.inr (Or.inl rfl)
      · exact Or.inr (Or.inr rfl)
  have hkd : q_kd1 (q_x3 (q_K w.2.2 c)) = q_K w.2.2 c := by
    have h3 : q_K w.2.2 c = 0 ∨ q_K w.2.2 c = 1 ∨ q_K w.2.2 c = 2 := by omega
    rcases h3 with h | h | h <;> rw [h] <;> rfl
  have hidx : (r : Int) * (if (r : Int) = 0 then 0 else q_C w.2.2) + (i : Int) = c := by
    by_cases h0 : (r : Int) = 0
    · rw [if_pos h0, ← hc, h0, Int.mul_zero, Int.mul_zero]
    · rw [if_neg h0, Int.mul_comm, hc]
  have hf := q_hf_c (r := (r : Int)) (wd := if (r : Int) = 0 then 0 else q_C w.2.2) (c := (i : Int)) (l := l) (K := K) (L := L) hx3 (by split <;> omega)
  rw [hidx, hkd] at hf
  obtain ⟨B2, w2, e2, a1, a2, a3, a4⟩ := l_hput (d := d + 5) hs2 hp hf (by omega) (by omega) (by split at hl <;> omega)
  have en := a1.2.2.2.1 r (by omega) (by omega)
  have hK2 : ∀ j, 0 ≤ j → j < c + 1 → q_fu K c (q_K w.2.2 c) j = q_K w.2.2 j := fun j j0 j1 => by
    by_cases hj : j = c
    · rw [hj, q_fu_s]
    · rw [q_fu_o hj]; exact hKK j j0 (by omega)
  have e218 : ∀ Z, (∀ x, x = q_x3 (q_K w.2.2 c) → ex_ev (d + 9) (ex_cal (d + 9)) 95 (ex_blk 95 254, [.ref 0, .ref 2000, .int (Int32.ofInt 0), .ref 46, .ref 47, .int (Int32.ofInt 1), .int (Int32.ofInt (r : Int)), .int (Int32.ofInt (i : Int)), .int (Int32.ofInt c), .int (Int32.ofInt (q_v3 w.2.2 c))], [.int (Int32.ofInt x), .ref 0], u) = Z) → ex_ev (d + 9) (ex_cal (d + 9)) 95 (ex_blk 95 218, [.ref 0, .ref 2000, .int (Int32.ofInt 0), .ref 46, .ref 47, .int (Int32.ofInt 1), .int (Int32.ofInt (r : Int)), .int (Int32.ofInt (i : Int)), .int (Int32.ofInt c), .int (Int32.ofInt (q_v3 w.2.2 c))], [.int (Int32.ofInt (q_K w.2.2 c)), .int (Int32.ofInt c), .ref 47], w1) = Z := by
    intro Z hZ
    rw [kb_95_218]
    have h3 : q_K w.2.2 c = 0 ∨ q_K w.2.2 c = 1 ∨ q_K w.2.2 c = 2 := by omega
    rcases h3 with h | h | h
    · rw [← hZ 46 (by rw [h]; rfl)]
      rw [h] at hu ekc ⊢
      simp (disch := omega) only [hu, ekc, ev_iload, ev_aload, rx_istore, ev_iinc, ev_push, ev_iadd, ev_imul, ev_iand, ev_ishr, rx_idiv, rx_irem, ev_goto, ev_jsr, rx_ine_t, rx_ine_f, rx_ige_t, rx_ige_f, rx_zeq_t, rx_zeq_f, rx_zne_t, rx_zne_f, rx_zgt_t, rx_zgt_f, ev_iald, ev_call, ev_callv, nr_i, nr_r, nr_l, nr_n, kA_46, kA_47, kA_48, kA_49, kA_50, kA_51, kA_52, kS_46, kS_47, kS_48, kS_49, kS_50, kS_51, kS_52, cg_92, cg_93, rx_zret_t, rx_zretI, rx_zretP, kb_95_0, kb_95_60, kb_95_72, kb_95_84, kb_95_113, kb_95_131, kb_95_135, kb_95_136, kb_95_202, kb_95_206, kb_95_217, kb_95_218, kb_95_238, kb_95_252, kb_95_282, kb_95_286, kb_95_287, kb_95_295, kb_95_301, kb_95_338, kb_95_339, kr_95, List.getD_cons_zero, List.getD_cons_succ, List.set_cons_zero, List.set_cons_succ, ex_spl, ex_low, Option.toList, List.cons_append, List.nil_append, reduceIte, Int.reduceToNat, Nat.reduceDiv, Nat.reduceMod, Nat.reduceAdd, Nat.reduceMul, z_0, z_1, z_10, z_01, reduceCtorEq, ite_true, ite_false, true_and, and_true, ↓bI_01, ↓bP_01, ↓zret0, ↓zret1, z_add, z_sub, z_mul, up_1, up_2, not_true, not_false_iff, if_true, if_false, Bool.true_and, bI_T, bI_F, bP_T, bP_F, or_true, true_or, or_false, false_or, Int.reduceNeg, Int.reduceAdd, Int.reduceSub, Int.reduceMul, Int.reduceEq, Int.reduceLT, Int.reduceLE, Int.natCast_add, Int.cast_ofNat_Int]
    · rw [← hZ 35 (by rw [h]; rfl)]
      rw [h] at hu ekc ⊢
      simp (disch := omega) only [hu, ekc, ev_iload, ev_aload, rx_istore, ev_iinc, ev_push, ev_iadd, ev_imul, ev_iand, ev_ishr, rx_idiv, rx_irem, ev_goto, ev_jsr, rx_ine_t, rx_ine_f, rx_ige_t, rx_ige_f, rx_zeq_t, rx_zeq_f, rx_zne_t, rx_zne_f, rx_zgt_t, rx_zgt_f, ev_iald, ev_call, ev_callv, nr_i, nr_r, nr_l, nr_n, kA_46, kA_47, kA_48, kA_49, kA_50, kA_51, kA_52, kS_46, kS_47, kS_48, kS_49, kS_50, kS_51, kS_52, cg_92, cg_93, rx_zret_t, rx_zretI, rx_zretP, kb_95_0, kb_95_60, kb_95_72, kb_95_84, kb_95_113, kb_95_131, kb_95_135, kb_95_136, kb_95_202, kb_95_206, kb_95_217, kb_95_218, kb_95_238, kb_95_252, kb_95_282, kb_95_286, kb_95_287, kb_95_295, kb_95_301, kb_95_338, kb_95_339, kr_95, List.getD_cons_zero, List.getD_cons_succ, List.set_cons_zero, List.set_cons_succ, ex_spl, ex_low, Option.toList, List.cons_append, List.nil_append, reduceIte, Int.reduceToNat, Nat.reduceDiv, Nat.reduceMod, Nat.reduceAdd, Nat.reduceMul, z_0, z_1, z_10, z_01, reduceCtorEq, ite_true, ite_false, true_and, and_true, ↓bI_01, ↓bP_01, ↓zret0, ↓zret1, z_add, z_sub, z_mul, up_1, up_2, not_true, not_false_iff, if_true, if_false, Bool.true_and, bI_T, bI_F, bP_T, bP_F, or_true, true_or, or_false, false_or, Int.reduceNeg, Int.reduceAdd, Int.reduceSub, Int.reduceMul, Int.reduceEq, Int.reduceLT, Int.reduceLE, Int.natCast_add, Int.cast_ofNat_Int]
    · rw [← hZ 100 (by rw [h]; rfl)]
      rw [h] at hu ekc ⊢
      simp (disch := omega) only [hu, ekc, ev_iload, ev_aload, rx_istore, ev_iinc, ev_push, ev_iadd, ev_imul, ev_iand, ev_ishr, rx_idiv, rx_irem, ev_goto, ev_jsr, rx_ine_t, rx_ine_f, rx_ige_t, rx_ige_f, rx_zeq_t, rx_zeq_f, rx_zne_t, rx_zne_f, rx_zgt_t, rx_zgt_f, ev_iald, ev_call, ev_callv, nr_i, nr_r, nr_l, nr_n, kA_46, kA_47, kA_48, kA_49, kA_50, kA_51, kA_52, kS_46, kS_47, kS_48, kS_49, kS_50, kS_51, kS_52, cg_92, cg_93, rx_zret_t, rx_zretI, rx_zretP, kb_95_0, kb_95_60, kb_95_72, kb_95_84, kb_95_113, kb_95_131, kb_95_135, kb_95_136, kb_95_202, kb_95_206, kb_95_217, kb_95_218, kb_95_238, kb_95_252, kb_95_282, kb_95_286, kb_95_287, kb_95_295, kb_95_301, kb_95_338, kb_95_339, kr_95, List.getD_cons_zero, List.getD_cons_succ, List.set_cons_zero, List.set_cons_succ, ex_spl, ex_low, Option.toList, List.cons_append, List.nil_append, reduceIte, Int.reduceToNat, Nat.reduceDiv, Nat.reduceMod, Nat.reduceAdd, Nat.reduceMul, z_0, z_1, z_10, z_01, reduceCtorEq, ite_true, ite_false, true_and, and_true, ↓bI_01, ↓bP_01, ↓zret0, ↓zret1, z_add, z_sub, z_mul, up_1, up_2, not_true, not_false_iff, if_true, if_false, Bool.true_and, bI_T, bI_F, bP_T, bP_F, or_true, true_or, or_false, false_or, Int.reduceNeg, Int.reduceAdd, Int.reduceSub, Int.reduceMul, Int.reduceEq, Int.reduceLT, Int.reduceLE, Int.natCast_add, Int.cast_ofNat_Int]
  by_cases hN1 : q_N w.2.2 r = (i : Int) + 1
  · have hl0 : l = 0 := by rw [hl, if_neg (by omega)]
    rw [hl0] at a2
    obtain ⟨B3, w3, e3, b1, b2, b3, b4⟩ := l_hput (d := d + 5) a1 a2 (c := 124) q_hf_l (by omega) (by omega) (by split at hl <;> omega)
    refine ⟨B3, w3, 1, .int (Int32.ofInt c), .int (Int32.ofInt (q_v3 w.2.2 c)), e1.trans (e218 _ fun x hx => ?_), ⟨xv_i _, xv_i _⟩, by rw [← Int.add_assoc, hc]; exact b1, ⟨_, _, b2, fun j j0 j1 => hK2 j j0 (by omega), fun j j0 j1 => ?_, fun _ => ?_⟩, by rw [if_pos (by omega)], by omega⟩
    · subst hx
      rw [kb_95_254]
      simp (disch := omega) only [e2, en, hN1, e3, ev_iload, ev_aload, rx_istore, ev_iinc, ev_push, ev_iadd, ev_imul, ev_iand, ev_ishr, rx_idiv, rx_irem, ev_goto, ev_jsr, rx_ine_t, rx_ine_f, rx_ige_t, rx_ige_f, rx_zeq_t, rx_zeq_f, rx_zne_t, rx_zne_f, rx_zgt_t, rx_zgt_f, ev_iald, ev_call, ev_callv, nr_i, nr_r, nr_l, nr_n, kA_46, kA_47, kA_48, kA_49, kA_50, kA_51, kA_52, kS_46, kS_47, kS_48, kS_49, kS_50, kS_51, kS_52, cg_92, cg_93, rx_zret_t, rx_zretI, rx_zretP, kb_95_0, kb_95_60, kb_95_72, kb_95_84, kb_95_113, kb_95_131, kb_95_135, kb_95_136, kb_95_202, kb_95_206, kb_95_217, kb_95_218, kb_95_238, kb_95_252, kb_95_254, kb_95_282, kb_95_286, kb_95_287, kb_95_295, kb_95_301, kb_95_338, kb_95_339, kr_95, List.getD_cons_zero, List.getD_cons_succ, List.set_cons_zero, List.set_cons_succ, ex_spl, ex_low, Option.toList, List.cons_append, List.nil_append, reduceIte, Int.reduceToNat, Nat.reduceDiv, Nat.reduceMod, Nat.reduceAdd, Nat.reduceMul, z_0, z_1, z_10, z_01, reduceCtorEq, ite_true, ite_false, true_and, and_true, ↓bI_01, ↓bP_01, ↓zret0, ↓zret1, z_add, z_sub, z_mul, up_1, up_2, not_true, not_false_iff, if_true, if_false, Bool.true_and, bI_T, bI_F, bP_T, bP_F, or_true, true_or, or_false, false_or, Int.reduceNeg, Int.reduceAdd, Int.reduceSub, Int.reduceMul, Int.reduceEq, Int.reduceLT, Int.reduceLE, Int.natCast_add, Int.cast_ofNat_Int]
    · rw [q_fu_o (by omega)]; exact hL j j0 j1
    · rw [q_fu_s]; omega
  · refine ⟨B2, w2, l, .int (Int32.ofInt c), .int (Int32.ofInt (q_v3 w.2.2 c)), e1.trans (e218 _ fun x hx => ?_), ⟨xv_i _, xv_i _⟩, by rw [← Int.add_assoc, hc]; exact a1, ⟨_, _, a2, fun j j0 j1 => hK2 j j0 (by omega), hL, hL1⟩, ?_, by omega⟩
    · subst hx
      rw [kb_95_254]
      simp (disch := omega) only [e2, en, ev_iload, ev_aload, rx_istore, ev_iinc, ev_push, ev_iadd, ev_imul, ev_iand, ev_ishr, rx_idiv, rx_irem, ev_goto, ev_jsr, rx_ine_t, rx_ine_f, rx_ige_t, rx_ige_f, rx_zeq_t, rx_zeq_f, rx_zne_t, rx_zne_f, rx_zgt_t, rx_zgt_f, ev_iald, ev_call, ev_callv, nr_i, nr_r, nr_l, nr_n, kA_46, kA_47, kA_48, kA_49, kA_50, kA_51, kA_52, kS_46, kS_47, kS_48, kS_49, kS_50, kS_51, kS_52, cg_92, cg_93, rx_zret_t, rx_zretI, rx_zretP, kb_95_0, kb_95_60, kb_95_72, kb_95_84, kb_95_113, kb_95_131, kb_95_135, kb_95_136, kb_95_202, kb_95_206, kb_95_217, kb_95_218, kb_95_238, kb_95_252, kb_95_254, kb_95_282, kb_95_286, kb_95_287, kb_95_295, kb_95_301, kb_95_338, kb_95_339, kr_95, List.getD_cons_zero, List.getD_cons_succ, List.set_cons_zero, List.set_cons_succ, ex_spl, ex_low, Option.toList, List.cons_append, List.nil_append, reduceIte, Int.reduceToNat, Nat.reduceDiv, Nat.reduceMod, Nat.reduceAdd, Nat.reduceMul, z_0, z_1, z_10, z_01, reduceCtorEq, ite_true, ite_false, true_and, and_true, ↓bI_01, ↓bP_01, ↓zret0, ↓zret1, z_add, z_sub, z_mul, up_1, up_2, not_true, not_false_iff, if_true, if_false, Bool.true_and, bI_T, bI_F, bP_T, bP_F, or_true, true_or, or_false, false_or, Int.reduceNeg, Int.reduceAdd, Int.reduceSub, Int.reduceMul, Int.reduceEq, Int.reduceLT, Int.reduceLE, Int.natCast_add, Int.cast_ofNat_Int]
    · rw [hl]
      by_cases h : q_N w.2.2 r ≤ (i : Int)
      · rw [if_pos h, if_pos (by omega)]
      · rw [if_neg h, if_neg (by omega)]
theorem l_hrow {d : Nat} {A B : AS} {w w1 : PW} (hz : w.2.2.1 ≤ 260) {r : Nat} (hs : l_hs A B w w1 r (q_C w.2.2 * r)) (hr : (r : Int) < q_R w.2.2) (hb : l_bf w.2.2 B r) (h8 : B 0 8 ≤ 8 * (r : Int)) {v7 v8 v9 : Value} (x7 : xv v7) (x8 : xv v8) (x9 : xv v9) : ∃ B2 w2 y7 y8 y9, ex_ev (d + 9) (ex_cal (d + 9)) 95 (ex_blk 95 32, [.ref 0, .ref 2000, .int (Int32.ofInt 0), .ref 46, .ref 47, .int (Int32.ofInt 1), .int (Int32.ofInt (r : Int)), v7, v8, v9], [], w1) = ex_ev (d + 9) (ex_cal (d + 9)) 95 (ex_blk 95 32, [.ref 0, .ref 2000, .int (Int32.ofInt 0), .ref 46, .ref 47, .int (Int32.ofInt 1), .int (Int32.ofInt ((r : Int) + 1)), y7, y8, y9], [], w2) ∧ (xv y7 ∧ xv y8 ∧ xv y9) ∧ l_hs A B2 w w2 ((r : Int) + 1) (q_C w.2.2 * ((r : Int) + 1)) ∧ l_bf w.2.2 B2 ((r : Int) + 1) ∧ B2 0 8 ≤ 8 * ((r : Int) + 1) := by
  have hRC := q_RC w.2.2
  have hN := q_N_r w.2.2 r
  have hb24 : 0 ≤ q_C w.2.2 * r ∧ q_C w.2.2 * r + q_C w.2.2 ≤ 24 := by
    have h1 : q_C w.2.2 * ((r : Int) + 1) ≤ 6 * 4 := Int.mul_le_mul hRC.2.2.2 (by omega) (by omega) (by omega)
    rw [Int.mul_add, Int.mul_one] at h1
    exact ⟨Int.mul_nonneg (by omega) (by omega), by omega⟩
  obtain ⟨B2, w2, l, e2, hs2, hrd2, hl2, n2⟩ := l_hd2 (d := d) hz hs hr hb h8 (v7 := v7) (v8 := v8) (v9 := v9) x7
  obtain ⟨s3, e3, B3, w3, l3, y8, y9, rfl, ⟨z8, z9⟩, hs3, hrd3, hl3, n3⟩ := ex_iterI (d := d + 9) (cal := ex_cal (d + 9)) (y := 95) (s := (ex_blk 95 141, [.ref 0, .ref 2000, .int (Int32.ofInt 0), .ref 46, .ref 47, .int (Int32.ofInt 1), .int (Int32.ofInt (r : Int)), .int (Int32.ofInt 0), v8, v9], [], w2)) (fun i s => ∃ B3 w3 l3 y8 y9, s = (ex_blk 95 141, [.ref 0, .ref 2000, .int (Int32.ofInt 0), .ref 46, .ref 47, .int (Int32.ofInt 1), .int (Int32.ofInt (r : Int)), .int (Int32.ofInt (i : Int)), y8, y9], [], w3) ∧ (xv y8 ∧ xv y9) ∧ l_hs A B3 w w3 ((r : Int) + 1) (q_C w.2.2 * r + (i : Int)) ∧ l_rd w.2.2 B3 r (i : Int) l3 ∧ (l3 = if q_N w.2.2 r ≤ (i : Int) then 1 else 0) ∧ B3 0 8 ≤ 8 * (r : Int) + 1 + (i : Int) + l3) (a := 0) (n := (q_C w.2.2).toNat) (Nat.zero_le _) ⟨B2, w2, l, v8, v9, rfl, ⟨x8, x9⟩, by rw [show q_C w.2.2 * (r : Int) + ((0 : Nat) : Int) = q_C w.2.2 * r by omega]; exact hs2, hrd2, hl2, by omega⟩ (by
    rintro i s - hi ⟨B3, w3, l3, y8, y9, rfl, ⟨z8, z9⟩, hs3, hrd3, hl3, n3⟩
    obtain ⟨B4, w4, l4, q8, q9, e4, p89, hs4, hrd4, hl4, n4⟩ := l_hcell (d := d) hz (r := r) (i := i) hs3 hr (by omega) hb24 hrd3 hl3 n3 z8 z9
    exact ⟨_, e4, B4, w4, l4, q8, q9, rfl, p89, hs4, hrd4, hl4, n4⟩)
  rw [Int.toNat_of_nonneg (by omega)] at e3 hs3 hrd3 hl3 n3
  have hl1 : l3 = 1 := by rw [hl3, if_pos (by omega)]
  rw [hl1] at hrd3 n3
  refine ⟨B3, w3, .int (Int32.ofInt (q_C w.2.2)), y8, y9, e2.trans (e3.trans ?_), ⟨xv_i _, z8, z9⟩, by rw [Int.mul_add, Int.mul_one]; exact hs3, Or.inr ⟨by omega, by rw [show (r : Int) + 1 - 1 = r by omega]; exact hrd3⟩, by omega⟩
  have h11 := hs3.2.2.1.2
  conv => lhs; rw [kb_95_141]
  simp (disch := omega) only [h11, ev_iload, ev_aload, rx_istore, ev_iinc, ev_push, ev_iadd, ev_imul, ev_iand, ev_ishr, rx_idiv, rx_irem, ev_goto, ev_jsr, rx_ine_t, rx_ine_f, rx_ige_t, rx_ige_f, rx_zeq_t, rx_zeq_f, rx_zne_t, rx_zne_f, rx_zgt_t, rx_zgt_f, ev_iald, ev_call, ev_callv, nr_i, nr_r, nr_l, nr_n, kA_46, kA_47, kA_48, kA_49, kA_50, kA_51, kA_52, kS_46, kS_47, kS_48, kS_49, kS_50, kS_51, kS_52, cg_92, cg_93, rx_zret_t, rx_zretI, rx_zretP, kb_95_0, kb_95_60, kb_95_72, kb_95_84, kb_95_113, kb_95_131, kb_95_135, kb_95_136, kb_95_202, kb_95_206, kb_95_217, kb_95_238, kb_95_252, kb_95_254, kb_95_282, kb_95_286, kb_95_287, kb_95_295, kb_95_301, kb_95_338, kb_95_339, kr_95, List.getD_cons_zero, List.getD_cons_succ, List.set_cons_zero, List.set_cons_succ, ex_spl, ex_low, Option.toList, List.cons_append, List.nil_append, reduceIte, Int.reduceToNat, Nat.reduceDiv, Nat.reduceMod, Nat.reduceAdd, Nat.reduceMul, z_0, z_1, z_10, z_01, reduceCtorEq, ite_true, ite_false, true_and, and_true, ↓bI_01, ↓bP_01, ↓zret0, ↓zret1, z_add, z_sub, z_mul, up_1, up_2, not_true, not_false_iff, if_true, if_false, Bool.true_and, bI_T, bI_F, bP_T, bP_F, or_true, true_or, or_false, false_or, Int.reduceNeg, Int.reduceAdd, Int.reduceSub, Int.reduceMul, Int.reduceEq, Int.reduceLT, Int.reduceLE, Int.natCast_add, Int.cast_ofNat_Int]
set_option maxHeartbeats 4000000 in
theorem l_house {d : Nat} {A : AS} {w : PW} (hz : w.2.2.1 ≤ 260) (hV : q_V A) (hC : rC A w) (h8 : A 0 8 = 0) (hb : A 0 2 < 1000000) : ∃ B w1, ex_cal (d + 10) 95 [.ref 0, .ref 2000, .int (Int32.ofInt 0), .ref 46, .ref 47] w = some (some (.int (Int32.ofInt 1)), w1) ∧ q_V B ∧ rC B w1 ∧ (∀ a k, 48 ≤ a → w1.1 a k = w.1 a k) ∧ w1.2 = w.2 ∧ lH B w1 ∧ (B 0 2 = A 0 2 + 1 ∧ B 0 3 = A 0 3 ∧ B 0 4 = 0 ∧ B 0 5 = 0 ∧ B 0 7 = 0 ∧ B 0 8 = 0 ∧ B 1 0 = 0 ∧ 0 < B 0 15) := by
  have hr := q_rng hV.1
  have hRC := q_RC w.2.2
  have hsr := q_s_r w.2.2 0
  have hc := fun d w1 (hw : w1.2 = w.2) => l_cell (d := d) (w := w1) (by rw [hw]; exact hz) (k := 0) (by omega) (by omega)
  generalize hu0 : ex_up w 46 0 (Int32.ofInt (2 + q_s w.2.2 0 % 3)) = u0
  have hw0 : u0.2 = w.2 := by rw [← hu0]; rfl
  generalize hu1 : ex_up u0 46 1 (Int32.ofInt (2 + q_s w.2.2 0 / 4 % 5)) = u1
  have hw1 : u1.2 = w.2 := by rw [← hu1]; exact hw0
  have c0 := fun d => hc d w rfl
  have c1 : ∀ d, ex_cal (d + 1) 92 [.ref 2000, .int (Int32.ofInt 0)] u0 = some (some (.int (Int32.ofInt (q_s w.2.2 0))), u0) := fun d => by
    have h := hc d u0 hw0
    rw [hw0] at h
    exact h
  have hs0 : l_hs A A w u1 ((0 : Nat) : Int) (q_C w.2.2 * ((0 : Nat) : Int)) := by
    refine ⟨⟨hV, ?_, hw1, q_pe_r A⟩, fun a k ha => ?_, ⟨?_, ?_⟩, fun j j0 j1 => absurd j1 (by omega), fun j j0 j1 => absurd j1 (by rw [show ((0 : Nat) : Int) = 0 from rfl, Int.mul_zero]; omega)⟩
    · refine rC_f hC fun a k ha => ?_
      rw [← hu1, ← hu0, up_n (by omega), up_n (by omega)]
    · rw [← hu1, ← hu0, up_n (by omega), up_n (by omega)]
    · rw [← hu1, ← hu0, up_n (by omega), up_e (by omega)]; rfl
    · rw [← hu1, up_e (by omega)]; rfl
  obtain ⟨s2, e2, B2, w2, y7, y8, y9, rfl, -, hs2, hb2, n2⟩ := ex_iterI (d := d + 9) (cal := ex_cal (d + 9)) (y := 95) (s := (ex_blk 95 32, [.ref 0, .ref 2000, .int (Int32.ofInt 0), .ref 46, .ref 47, .int (Int32.ofInt 1), .int (Int32.ofInt 0), .null, .null, .null], [], u1)) (fun r s => ∃ B2 w2 y7 y8 y9, s = (ex_blk 95 32, [.ref 0, .ref 2000, .int (Int32.ofInt 0), .ref 46, .ref 47, .int (Int32.ofInt 1), .int (Int32.ofInt (r : Int)), y7, y8, y9], [], w2) ∧ (xv y7 ∧ xv y8 ∧ xv y9) ∧ l_hs A B2 w w2 (r : Int) (q_C w.2.2 * (r : Int)) ∧ l_bf w.2.2 B2 (r : Int) ∧ B2 0 8 ≤ 8 * (r : Int)) (a := 0) (n := (q_R w.2.2).toNat) (Nat.zero_le _) ⟨A, u1, .null, .null, .null, rfl, ⟨xv_n, xv_n, xv_n⟩, hs0, Or.inl ⟨rfl, l_pg_0 h8⟩, by omega⟩ (by
    rintro r s - hrr ⟨B3, w3, y7, y8, y9, rfl, ⟨z7, z8, z9⟩, hs3, hb3, n3⟩
    obtain ⟨B4, w4, q7, q8, q9, e4, p, hs4, hb4, n4⟩ := l_hrow (d := d) hz (r := r) hs3 (by omega) hb3 n3 z7 z8 z9
    exact ⟨_, e4, B4, w4, q7, q8, q9, rfl, p, hs4, hb4, n4⟩)
  rw [Int.toNat_of_nonneg (by omega)] at e2 hs2 hb2 n2
  obtain ⟨⟨hV2, hC2, hw2, hpe2⟩, ho2, ⟨h0, h1⟩, hl2, hk2⟩ := hs2
  rcases hb2 with ⟨hb2, -⟩ | ⟨-, K, L, hp, hK, hL, hL1⟩
  · omega
  · have hwd : (if q_R w.2.2 - 1 = 0 then 0 else q_C w.2.2) = q_C w.2.2 := if_neg (by omega)
    rw [hwd] at hp
    have hr2 := q_rng hV2.1
    have htk := l_tk (by omega) hp
    obtain ⟨w3, e3, hC3, f3⟩ := c_fault0 (d := d + 2) hV2 hC2 htk
    rw [Int.toNat_of_nonneg (by omega)] at e3
    have h02 : B2 0 2 = A 0 2 := hpe2 0 2 (by omega) (by omega)
    have h03 : B2 0 3 = A 0 3 := hpe2 0 3 (by omega) (by omega)
    obtain ⟨hV4, w4, e4, hC4, f4⟩ := c_house (d := d) hV2 hC3 (by omega) htk ⟨by omega, rfl, by omega, rfl⟩
    have ec := m_count (d := d + 6) hV2.1 hC3 (k := 6) (by omega) (by omega)
    rw [q_cnt6] at ec
    rw [show q_R w.2.2 - 1 + 1 = q_R w.2.2 by omega] at e4
    have hmul : q_C w.2.2 * (q_R w.2.2 - 1) + q_C w.2.2 = q_R w.2.2 * q_C w.2.2 := by rw [Int.mul_sub, Int.mul_one, Int.mul_comm]; omega
    have hmc : q_C w.2.2 * q_R w.2.2 = q_R w.2.2 * q_C w.2.2 := Int.mul_comm _ _
    have hf : fC w2 w4 := fC_t f3 f4
    have hRC24 : 0 ≤ q_R w.2.2 * q_C w.2.2 ∧ q_R w.2.2 * q_C w.2.2 ≤ 24 := by
      have h1 : q_R w.2.2 * q_C w.2.2 ≤ 4 * 6 := Int.mul_le_mul hRC.2.1 hRC.2.2.2 (by omega) (by omega)
      exact ⟨Int.mul_nonneg (by omega) (by omega), by omega⟩
    have g0 : w4.1 46 0 = Int32.ofInt (q_R w.2.2) := by rw [hf _ _ (by omega)]; exact h0
    have g1 : w4.1 46 1 = Int32.ofInt (q_C w.2.2) := by rw [hf _ _ (by omega)]; exact h1
    refine ⟨q_nh B2 (q_R w.2.2 - 1) (q_C w.2.2) K L, w4, ?_, hV4, hC4, fun a k ha => by rw [hf _ _ (by omega)]; exact ho2 a k ha, ?_, ⟨?_, g1, fun j j0 j1 => ?_, fun j j0 j1 => ?_⟩, ⟨?_, h03, rfl, rfl, rfl, rfl, ?_, ?_⟩⟩
    · rw [ke_95]
      simp (disch := omega) only [c0, hu0, c1, hu1, ev_iload, ev_aload, rx_istore, ev_iinc, ev_push, ev_iadd, ev_imul, ev_iand, ev_ishr, rx_idiv, rx_irem, ev_goto, ev_jsr, rx_ine_t, rx_ine_f, rx_ige_t, rx_ige_f, rx_zeq_t, rx_zeq_f, rx_zne_t, rx_zne_f, rx_zgt_t, rx_zgt_f, ev_iald, ev_call, ev_callv, nr_i, nr_r, nr_l, nr_n, kA_46, kA_47, kA_48, kA_49, kA_50, kA_51, kA_52, kS_46, kS_47, kS_48, kS_49, kS_50, kS_51, kS_52, cg_92, cg_93, rx_zret_t, rx_zretI, rx_zretP, kb_95_0, kb_95_60, kb_95_72, kb_95_84, kb_95_113, kb_95_131, kb_95_135, kb_95_136, kb_95_202, kb_95_206, kb_95_217, kb_95_238, kb_95_252, kb_95_254, kb_95_282, kb_95_286, kb_95_287, kb_95_295, kb_95_301, kb_95_338, kb_95_339, kr_95, List.getD_cons_zero, List.getD_cons_succ, List.set_cons_zero, List.set_cons_succ, ex_spl, ex_low, Option.toList, List.cons_append, List.nil_append, reduceIte, Int.reduceToNat, Nat.reduceDiv, Nat.reduceMod, Nat.reduceAdd, Nat.reduceMul, z_0, z_1, z_10, z_01, reduceCtorEq, ite_true, ite_false, true_and, and_true, ↓bI_01, ↓bP_01, ↓zret0, ↓zret1, z_add, z_sub, z_mul, up_1, up_2, not_true, not_false_iff, if_true, if_false, Bool.true_and, bI_T, bI_F, bP_T, bP_F, or_true, true_or, or_false, false_or, Int.reduceNeg, Int.reduceAdd, Int.reduceSub, Int.reduceMul, Int.reduceEq, Int.reduceLT, Int.reduceLE, Int.natCast_add, Int.cast_ofNat_Int]
      refine e2.trans ?_
      rw [kb_95_32]
      simp (disch := omega) only [h0, e3, ec, e4, g0, g1, ev_iload, ev_aload, rx_istore, ev_iinc, ev_push, ev_iadd, ev_imul, ev_iand, ev_ishr, rx_idiv, rx_irem, ev_goto, ev_jsr, rx_ine_t, rx_ine_f, rx_ige_t, rx_ige_f, rx_zeq_t, rx_zeq_f, rx_zne_t, rx_zne_f, rx_zgt_t, rx_zgt_f, ev_iald, ev_call, ev_callv, nr_i, nr_r, nr_l, nr_n, kA_46, kA_47, kA_48, kA_49, kA_50, kA_51, kA_52, kS_46, kS_47, kS_48, kS_49, kS_50, kS_51, kS_52, cg_92, cg_93, rx_zret_t, rx_zretI, rx_zretP, kb_95_0, kb_95_60, kb_95_72, kb_95_84, kb_95_113, kb_95_131, kb_95_135, kb_95_136, kb_95_202, kb_95_206, kb_95_217, kb_95_238, kb_95_252, kb_95_254, kb_95_282, kb_95_286, kb_95_287, kb_95_295, kb_95_301, kb_95_338, kb_95_339, kr_95, List.getD_cons_zero, List.getD_cons_succ, List.set_cons_zero, List.set_cons_succ, ex_spl, ex_low, Option.toList, List.cons_append, List.nil_append, reduceIte, Int.reduceToNat, Nat.reduceDiv, Nat.reduceMod, Nat.reduceAdd, Nat.reduceMul, z_0, z_1, z_10, z_01, reduceCtorEq, ite_true, ite_false, true_and, and_true, ↓bI_01, ↓bP_01, ↓zret0, ↓zret1, z_add, z_sub, z_mul, up_1, up_2, not_true, not_false_iff, if_true, if_false, Bool.true_and, bI_T, bI_F, bP_T, bP_F, or_true, true_or, or_false, false_or, Int.reduceNeg, Int.reduceAdd, Int.reduceSub, Int.reduceMul, Int.reduceEq, Int.reduceLT, Int.reduceLE, Int.natCast_add, Int.cast_ofNat_Int]
    · rw [ex_quiet _ _ _ _ _ _ (by decide) e4, ex_quiet _ _ _ _ _ _ (by decide) e3, hw2]
    · show w4.1 46 0 = Int32.ofInt (q_R w.2.2 - 1 + 1)
      rw [show q_R w.2.2 - 1 + 1 = q_R w.2.2 by omega]; exact g0
    · have j1 : j < q_R w.2.2 - 1 + 1 := j1
      show w4.1 46 (2 + j).toNat = Int32.ofInt (L j)
      rw [hf _ _ (by omega), hl2 j j0 (by omega)]
      by_cases hj : j = q_R w.2.2 - 1
      · rw [hj, hL1 rfl]
      · rw [hL j j0 (by omega)]
    · have j1 : j < (q_R w.2.2 - 1 + 1) * q_C w.2.2 := j1
      rw [show q_R w.2.2 - 1 + 1 = q_R w.2.2 by omega] at j1
      show w4.1 47 j.toNat = Int32.ofInt (K j)
      rw [hf _ _ (by omega), hk2 j j0 (by omega), hK j j0 (by omega)]
    · show B2 0 2 + 1 = _
      rw [h02]
    · show K 0 = 0
      rw [hK 0 (by omega) (by
        have h1 : 2 * 2 ≤ q_R w.2.2 * q_C w.2.2 := Int.mul_le_mul hRC.1 hRC.2.2.1 (by omega) (by omega)
        omega)]
      unfold q_K
      rw [if_pos (Or.inl rfl)]
    · show 0 < (q_R w.2.2 - 1 + 1) * q_C w.2.2
      rw [show q_R w.2.2 - 1 + 1 = q_R w.2.2 by omega]
      have h1 : 2 * 2 ≤ q_R w.2.2 * q_C w.2.2 := Int.mul_le_mul hRC.1 hRC.2.2.1 (by omega) (by omega)
      omega
