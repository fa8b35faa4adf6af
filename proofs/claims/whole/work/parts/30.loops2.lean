/-! fits -/
def q_all (A : AS) (b : Int) : Prop := ∀ i, 0 ≤ i → i < A 0 7 → q_sd A b (A 7 (5 * i)) = A 7 (5 * i + 1)
noncomputable def q_ft (A : AS) : Nat → Int32
  | 0 => Int32.ofInt 0
  | n + 1 => q_ft A n ||| q_iw (q_all A ((n : Int) - 3)) (q_b n) (Int32.ofInt 0)
theorem q_ft_t {A : AS} {n : Nat} (h : q_all A ((n : Int) - 3)) : q_ft A (n + 1) = q_ft A n ||| (Int32.ofInt 1 <<< (Int32.ofInt (n : Int) &&& 31)) := by
  show _ ||| q_iw _ _ _ = _
  rw [q_iw_t h]; rfl
theorem q_ft_f {A : AS} {n : Nat} (h : ¬ q_all A ((n : Int) - 3)) : q_ft A (n + 1) = q_ft A n := by
  show _ ||| q_iw _ _ _ = _
  rw [q_iw_f h, m_or0]
theorem m_allJudgedSo {d : Nat} {A : AS} {w : PW} (hV : q_v0 A) (hC : rC A w) {b : Int} (b0 : -3 ≤ b) (b1 : b ≤ 3) : ex_cal (d + 3) 142 [.ref 0, .int (Int32.ofInt b)] w = some (some (.int (bP (q_all A b))), w) := by
  have hr := q_rng hV
  obtain ⟨-, -, -, -, -, -, -, -, ht27, -⟩ := id hC
  have hsz : w.1 27 2 = Int32.ofInt (A 0 7) := ht27.2.1
  rw [ke_142 kc_0]
  simp (disch := omega) only [ev_iload, ev_aload, rx_istore, ev_iinc, ev_push, ev_goto, ev_jsr, rx_ieq_t, rx_ieq_f, rx_ige_t, rx_ige_f, ev_getf, ev_callv, nr_i, nr_r, nr_l, nr_n, rx_zret_t, rx_zretI, rx_zretP, kb_142_0, kb_142_53, kb_142_59, kr_142, kf_20_3, kf_29_3, kf_0_643, kf_0_645, List.getD_cons_zero, List.getD_cons_succ, List.set_cons_zero, List.set_cons_succ, ex_spl, ex_low, Option.toList, List.cons_append, List.nil_append, reduceIte, Int.reduceToNat, Nat.reduceDiv, Nat.reduceMod, Nat.reduceAdd, Nat.reduceMul, z_0, z_1, z_10, z_01, reduceCtorEq, ite_true, ite_false, true_and, and_true, ↓bI_01, ↓bP_01, ↓zret0, ↓zret1, z_add, z_sub, z_mul, up_1, up_2, not_true, not_false_iff, if_true, if_false, bI_T, bI_F, Int.reduceNeg, Int.reduceAdd, Int.reduceSub, Int.reduceMul, Int.reduceEq, Int.reduceLT, Int.reduceLE, Int.natCast_add, Int.cast_ofNat_Int]
  refine ex_loop (Q := fun r => r = some (some (.int (bP (q_all A b))), w)) (fun i s => s = (ex_blk 142 2, [.ref 0, .int (Int32.ofInt b), .int (Int32.ofInt (i : Int))], [], w) ∧ ∀ j : Int, 0 ≤ j → j < (i : Int) → q_sd A b (A 7 (5 * j)) = A 7 (5 * j + 1)) (A 0 7).toNat ?_ ?_ ?_
  · exact ⟨rfl, fun u h0 h1 => absurd h1 (by omega)⟩
  · rintro i s hi ⟨rfl, hn⟩
    have hj := hV.2.2.2.2.2.2.1.2.2 i (by omega) (by omega)
    have hs := q_sdr A b (A 7 (5 * i))
    by_cases hq : q_sd A b (A 7 (5 * i)) = A 7 (5 * i + 1)
    · right
      refine ⟨(ex_blk 142 2, [.ref 0, .int (Int32.ofInt b), .int (Int32.ofInt ((i : Int) + 1))], [], w), ?_, rfl, fun j j0 j1 => ?_⟩
      · conv => lhs; rw [kb_142_2]
        simp (disch := omega) only [m_tsize tb_27, hsz, m_tget tb_27 ht27, m_sideOf hV.1 hC.1.1, Int.add_zero, ev_iload, ev_aload, rx_istore, ev_iinc, ev_push, ev_goto, ev_jsr, rx_ieq_t, rx_ieq_f, rx_ige_t, rx_ige_f, ev_getf, ev_callv, nr_i, nr_r, nr_l, nr_n, rx_zret_t, rx_zretI, rx_zretP, kb_142_0, kb_142_53, kb_142_59, kr_142, kf_20_3, kf_29_3, kf_0_643, kf_0_645, List.getD_cons_zero, List.getD_cons_succ, List.set_cons_zero, List.set_cons_succ, ex_spl, ex_low, Option.toList, List.cons_append, List.nil_append, reduceIte, Int.reduceToNat, Nat.reduceDiv, Nat.reduceMod, Nat.reduceAdd, Nat.reduceMul, z_0, z_1, z_10, z_01, reduceCtorEq, ite_true, ite_false, true_and, and_true, ↓bI_01, ↓bP_01, ↓zret0, ↓zret1, z_add, z_sub, z_mul, up_1, up_2, not_true, not_false_iff, if_true, if_false, bI_T, bI_F, Int.reduceNeg, Int.reduceAdd, Int.reduceSub, Int.reduceMul, Int.reduceEq, Int.reduceLT, Int.reduceLE, Int.natCast_add, Int.cast_ofNat_Int]
      · by_cases hji : j = i
        · rw [hji]; exact hq
        · exact hn j j0 (by omega)
    · left
      rw [bP_f (fun hh => hq (hh i (by omega) (by omega))), kb_142_2]
      simp (disch := omega) only [m_tsize tb_27, hsz, m_tget tb_27 ht27, m_sideOf hV.1 hC.1.1, Int.add_zero, ev_iload, ev_aload, rx_istore, ev_iinc, ev_push, ev_goto, ev_jsr, rx_ieq_t, rx_ieq_f, rx_ige_t, rx_ige_f, ev_getf, ev_callv, nr_i, nr_r, nr_l, nr_n, rx_zret_t, rx_zretI, rx_zretP, kb_142_0, kb_142_53, kb_142_59, kr_142, kf_20_3, kf_29_3, kf_0_643, kf_0_645, List.getD_cons_zero, List.getD_cons_succ, List.set_cons_zero, List.set_cons_succ, ex_spl, ex_low, Option.toList, List.cons_append, List.nil_append, reduceIte, Int.reduceToNat, Nat.reduceDiv, Nat.reduceMod, Nat.reduceAdd, Nat.reduceMul, z_0, z_1, z_10, z_01, reduceCtorEq, ite_true, ite_false, true_and, and_true, ↓bI_01, ↓bP_01, ↓zret0, ↓zret1, z_add, z_sub, z_mul, up_1, up_2, not_true, not_false_iff, if_true, if_false, bI_T, bI_F, Int.reduceNeg, Int.reduceAdd, Int.reduceSub, Int.reduceMul, Int.reduceEq, Int.reduceLT, Int.reduceLE, Int.natCast_add, Int.cast_ofNat_Int]
  · rintro s ⟨rfl, hn⟩
    rw [bP_t (show q_all A b from fun j j0 j1 => hn j j0 (by omega)), kb_142_2]
    simp (disch := omega) only [m_tsize tb_27, hsz, ev_iload, ev_aload, rx_istore, ev_iinc, ev_push, ev_goto, ev_jsr, rx_ieq_t, rx_ieq_f, rx_ige_t, rx_ige_f, ev_getf, ev_callv, nr_i, nr_r, nr_l, nr_n, rx_zret_t, rx_zretI, rx_zretP, kb_142_0, kb_142_53, kb_142_59, kr_142, kf_20_3, kf_29_3, kf_0_643, kf_0_645, List.getD_cons_zero, List.getD_cons_succ, List.set_cons_zero, List.set_cons_succ, ex_spl, ex_low, Option.toList, List.cons_append, List.nil_append, reduceIte, Int.reduceToNat, Nat.reduceDiv, Nat.reduceMod, Nat.reduceAdd, Nat.reduceMul, z_0, z_1, z_10, z_01, reduceCtorEq, ite_true, ite_false, true_and, and_true, ↓bI_01, ↓bP_01, ↓zret0, ↓zret1, z_add, z_sub, z_mul, up_1, up_2, not_true, not_false_iff, if_true, if_false, bI_T, bI_F, Int.reduceNeg, Int.reduceAdd, Int.reduceSub, Int.reduceMul, Int.reduceEq, Int.reduceLT, Int.reduceLE, Int.natCast_add, Int.cast_ofNat_Int]
theorem m_fitting {d : Nat} {A : AS} {w : PW} (hV : q_v0 A) (hC : rC A w) : ex_cal (d + 4) 141 [.ref 0] w = some (some (.int (q_ft A 7)), w) := by
  rw [ke_141 kc_0]
  simp (disch := omega) only [ev_iload, ev_aload, rx_istore, ev_iinc, ev_push, ev_iadd, ev_ior, ev_ishl, ev_goto, ev_jsr, rx_igt_t, rx_igt_f, rx_zeq_t, rx_zeq_f, ev_callv, nr_i, nr_r, nr_l, nr_n, rx_iret, kb_141_0, kb_141_26, kb_141_32, kr_141, List.getD_cons_zero, List.getD_cons_succ, List.set_cons_zero, List.set_cons_succ, ex_spl, ex_low, Option.toList, List.cons_append, List.nil_append, reduceIte, Int.reduceToNat, Nat.reduceDiv, Nat.reduceMod, Nat.reduceAdd, Nat.reduceMul, z_0, z_1, z_10, z_01, reduceCtorEq, ite_true, ite_false, true_and, and_true, ↓bI_01, ↓bP_01, ↓zret0, ↓zret1, z_add, z_sub, z_mul, up_1, up_2, not_true, not_false_iff, if_true, if_false, bI_T, bI_F, Int.reduceNeg, Int.reduceAdd, Int.reduceSub, Int.reduceMul, Int.reduceEq, Int.reduceLT, Int.reduceLE, Int.natCast_add, Int.cast_ofNat_Int]
  have key := ex_iter (d := d + 3) (cal := ex_cal (d + 3)) (y := 141) (fun i => (ex_blk 141 5, [.ref 0, .int (q_ft A i), .int (Int32.ofInt ((i : Int) - 3))], [], w)) (Nat.zero_le 7) (fun i _ hi => by
    (try dsimp only)
    have e1 : (i : Int) - 3 + 1 = (i : Int) + 1 - 3 := by omega
    have e2 : (i : Int) - 3 + 3 = i := by omega
    conv => lhs; rw [kb_141_5]
    by_cases hv : q_all A ((i : Int) - 3)
    · rw [q_ft_t hv]
      have e3 := bP_t hv
      simp (disch := omega) only [m_allJudgedSo hV hC, e1, e2, e3, ev_iload, ev_aload, rx_istore, ev_iinc, ev_push, ev_iadd, ev_ior, ev_ishl, ev_goto, ev_jsr, rx_igt_t, rx_igt_f, rx_zeq_t, rx_zeq_f, ev_callv, nr_i, nr_r, nr_l, nr_n, rx_iret, kb_141_0, kb_141_26, kb_141_32, kr_141, List.getD_cons_zero, List.getD_cons_succ, List.set_cons_zero, List.set_cons_succ, ex_spl, ex_low, Option.toList, List.cons_append, List.nil_append, reduceIte, Int.reduceToNat, Nat.reduceDiv, Nat.reduceMod, Nat.reduceAdd, Nat.reduceMul, z_0, z_1, z_10, z_01, reduceCtorEq, ite_true, ite_false, true_and, and_true, ↓bI_01, ↓bP_01, ↓zret0, ↓zret1, z_add, z_sub, z_mul, up_1, up_2, not_true, not_false_iff, if_true, if_false, bI_T, bI_F, Int.reduceNeg, Int.reduceAdd, Int.reduceSub, Int.reduceMul, Int.reduceEq, Int.reduceLT, Int.reduceLE, Int.natCast_add, Int.cast_ofNat_Int]
    · rw [q_ft_f hv]
      have e3 := bP_f hv
      simp (disch := omega) only [m_allJudgedSo hV hC, e1, e2, e3, ev_iload, ev_aload, rx_istore, ev_iinc, ev_push, ev_iadd, ev_ior, ev_ishl, ev_goto, ev_jsr, rx_igt_t, rx_igt_f, rx_zeq_t, rx_zeq_f, ev_callv, nr_i, nr_r, nr_l, nr_n, rx_iret, kb_141_0, kb_141_26, kb_141_32, kr_141, List.getD_cons_zero, List.getD_cons_succ, List.set_cons_zero, List.set_cons_succ, ex_spl, ex_low, Option.toList, List.cons_append, List.nil_append, reduceIte, Int.reduceToNat, Nat.reduceDiv, Nat.reduceMod, Nat.reduceAdd, Nat.reduceMul, z_0, z_1, z_10, z_01, reduceCtorEq, ite_true, ite_false, true_and, and_true, ↓bI_01, ↓bP_01, ↓zret0, ↓zret1, z_add, z_sub, z_mul, up_1, up_2, not_true, not_false_iff, if_true, if_false, bI_T, bI_F, Int.reduceNeg, Int.reduceAdd, Int.reduceSub, Int.reduceMul, Int.reduceEq, Int.reduceLT, Int.reduceLE, Int.natCast_add, Int.cast_ofNat_Int])
  refine key.trans ?_
  (try dsimp only)
  rw [kb_141_5]
  simp (disch := omega) only [ev_iload, ev_aload, rx_istore, ev_iinc, ev_push, ev_iadd, ev_ior, ev_ishl, ev_goto, ev_jsr, rx_igt_t, rx_igt_f, rx_zeq_t, rx_zeq_f, ev_callv, nr_i, nr_r, nr_l, nr_n, rx_iret, kb_141_0, kb_141_26, kb_141_32, kr_141, List.getD_cons_zero, List.getD_cons_succ, List.set_cons_zero, List.set_cons_succ, ex_spl, ex_low, Option.toList, List.cons_append, List.nil_append, reduceIte, Int.reduceToNat, Nat.reduceDiv, Nat.reduceMod, Nat.reduceAdd, Nat.reduceMul, z_0, z_1, z_10, z_01, reduceCtorEq, ite_true, ite_false, true_and, and_true, ↓bI_01, ↓bP_01, ↓zret0, ↓zret1, z_add, z_sub, z_mul, up_1, up_2, not_true, not_false_iff, if_true, if_false, bI_T, bI_F, Int.reduceNeg, Int.reduceAdd, Int.reduceSub, Int.reduceMul, Int.reduceEq, Int.reduceLT, Int.reduceLE, Int.natCast_add, Int.cast_ofNat_Int]
theorem r_fitsNow {d : Nat} {A : AS} {w : PW} (hV : q_v0 A) (hM : rN A 0 w) : ∃ w', ex_cal (d + 3) 227 [.ref 46] w = some (some (.int (q_ft A 7)), w') ∧ sM w w' := by
  have hr := q_rng hV
  have g49 := hM.1.2.2.2.2.2.2.2.2.2.2
  rw [ke_227 kc_46]
  simp (disch := omega) only [ev_iload, ev_aload, rx_istore, ev_iinc, ev_push, ev_iadd, ev_ior, ev_ishl, ev_goto, ev_jsr, rx_ine_t, rx_ine_f, rx_ige_t, rx_ige_f, rx_zeq_t, rx_zeq_f, ev_getf, ev_putf, ev_putl, ev_iald, ev_callv, nr_i, nr_r, nr_l, nr_n, kA_47, kA_48, kA_49, kA_50, kA_51, kA_52, kA_53, kA_54, kA_55, kA_56, kA_57, kA_58, kA_59, kA_60, kA_61, kA_63, kA_64, kA_65, kA_66, kA_67, kA_68, kA_69, kA_70, rx_iret, kb_227_0, kb_227_58, kb_227_59, kb_227_66, kb_227_79, kb_227_80, kb_227_88, kr_227, kf_46_724, kf_46_725, kf_46_726, kk_46_753, List.getD_cons_zero, List.getD_cons_succ, List.set_cons_zero, List.set_cons_succ, ex_spl, ex_low, Option.toList, List.cons_append, List.nil_append, reduceIte, Int.reduceToNat, Nat.reduceDiv, Nat.reduceMod, Nat.reduceAdd, Nat.reduceMul, z_0, z_1, z_10, z_01, reduceCtorEq, ite_true, ite_false, true_and, and_true, ↓bI_01, ↓bP_01, ↓zret0, ↓zret1, z_add, z_sub, z_mul, up_1, up_2, not_true, not_false_iff, if_true, if_false, bI_T, bI_F, Int.reduceNeg, Int.reduceAdd, Int.reduceSub, Int.reduceMul, Int.reduceEq, Int.reduceLT, Int.reduceLE, Int.natCast_add, Int.cast_ofNat_Int]
  refine ex_loop (Q := fun r => ∃ w', r = some (some (.int (q_ft A 7)), w') ∧ sM w w') (fun i s => ∃ w1 v3 v4, s = (ex_blk 227 5, [.ref 46, .int (q_ft A i), .int (Int32.ofInt ((i : Int) - 3)), v3, v4], [], w1) ∧ (xv v3 ∧ xv v4) ∧ (∃ b, rN A b w1) ∧ ∃ x, sM (ex_up w 46 49 x) w1) 7 ?_ ?_ ?_
  · exact ⟨w, .null, .null, rfl, ⟨xv_n, xv_n⟩, ⟨0, hM⟩, Int32.ofInt 0, fun a k hk => by
      rw [up_1]
      by_cases ha : a = 46 ∧ k = 49
      · rw [if_pos ha, ha.1, ha.2]; exact g49
      · rw [if_neg ha]⟩
  · rintro i s hi ⟨w1, v3, v4, rfl, ⟨x3, x4⟩, ⟨b, hMb⟩, x, ho⟩
    right
    have e1 : (i : Int) - 3 + 1 = (i : Int) + 1 - 3 := by omega
    have e2 : (i : Int) - 3 + 3 = i := by omega
    have hM1 := rN_b (c := (i : Int) - 3) hMb
    have g20 := hM1.1.2.2.2.2.2.2.2.1
    obtain ⟨s2, h2, ch, rfl, hch⟩ := ex_iterI (d := d + 2) (cal := ex_cal (d + 2)) (y := 227) (s := (ex_blk 227 20, [.ref 46, .int (q_ft A i), .int (Int32.ofInt ((i : Int) - 3)), .int (Int32.ofInt 1), .int (Int32.ofInt 0)], [], ex_up w1 46 49 (Int32.ofInt ((i : Int) - 3)))) (fun j s => ∃ P : Prop, s = (ex_blk 227 20, [.ref 46, .int (q_ft A i), .int (Int32.ofInt ((i : Int) - 3)), .int (bP P), .int (Int32.ofInt (j : Int))], [], ex_up w1 46 49 (Int32.ofInt ((i : Int) - 3))) ∧ (P ↔ ∀ k : Int, 0 ≤ k → k < (j : Int) → q_sd A ((i : Int) - 3) (A 7 (5 * k)) = A 7 (5 * k + 1))) (a := 0) (n := (A 0 7).toNat) (Nat.zero_le _) ⟨True, by rw [bP_t trivial]; rfl, ⟨fun _ k k0 k1 => absurd k1 (by omega), fun _ => trivial⟩⟩ (by
      rintro j s - hj ⟨P, rfl, hP⟩
      have hjj := hV.2.2.2.2.2.2.1.2.2 j (by omega) (by omega)
      have hs := q_sdr A ((i : Int) - 3) (A 7 (5 * j))
      obtain ⟨gjc, gjs⟩ := hM1.2.2.2.2.2.2.1
      have ec := gjc j (by omega) (by omega)
      have es := gjs j (by omega) (by omega)
      have ext : ∀ Q : Prop, (Q ↔ P ∧ q_sd A ((i : Int) - 3) (A 7 (5 * j)) = A 7 (5 * j + 1)) → (Q ↔ ∀ k : Int, 0 ≤ k → k < ((j + 1 : Nat) : Int) → q_sd A ((i : Int) - 3) (A 7 (5 * k)) = A 7 (5 * k + 1)) := by
        intro Q hQ
        rw [hQ, hP]
        constructor
        · rintro ⟨a, b⟩ k k0 k1
          by_cases hk : k = j
          · rw [hk]; exact b
          · exact a k k0 (by omega)
        · exact fun a => ⟨fun k k0 k1 => a k k0 (by omega), a j (by omega) (by omega)⟩
      by_cases hp : P
      · by_cases hq : q_sd A ((i : Int) - 3) (A 7 (5 * j)) = A 7 (5 * j + 1)
        · refine ⟨(ex_blk 227 20, [.ref 46, .int (q_ft A i), .int (Int32.ofInt ((i : Int) - 3)), .int (bP True), .int (Int32.ofInt ((j : Int) + 1))], [], ex_up w1 46 49 (Int32.ofInt ((i : Int) - 3))), ?_, True, rfl, ext True ⟨fun _ => ⟨hp, hq⟩, fun _ => trivial⟩⟩
          rw [bP_t hp, bP_t trivial]
          conv => lhs; rw [kb_227_20]
          simp (disch := omega) only [g20, ec, es, r_sideOf hV.1 hM1 (by omega) (by omega), ev_iload, ev_aload, rx_istore, ev_iinc, ev_push, ev_iadd, ev_ior, ev_ishl, ev_goto, ev_jsr, rx_ine_t, rx_ine_f, rx_ige_t, rx_ige_f, rx_zeq_t, rx_zeq_f, ev_getf, ev_putf, ev_putl, ev_iald, ev_callv, nr_i, nr_r, nr_l, nr_n, kA_47, kA_48, kA_49, kA_50, kA_51, kA_52, kA_53, kA_54, kA_55, kA_56, kA_57, kA_58, kA_59, kA_60, kA_61, kA_63, kA_64, kA_65, kA_66, kA_67, kA_68, kA_69, kA_70, rx_iret, kb_227_0, kb_227_58, kb_227_59, kb_227_66, kb_227_79, kb_227_80, kb_227_88, kr_227, kf_46_724, kf_46_725, kf_46_726, kk_46_753, List.getD_cons_zero, List.getD_cons_succ, List.set_cons_zero, List.set_cons_succ, ex_spl, ex_low, Option.toList, List.cons_append, List.nil_append, reduceIte, Int.reduceToNat, Nat.reduceDiv, Nat.reduceMod, Nat.reduceAdd, Nat.reduceMul, z_0, z_1, z_10, z_01, reduceCtorEq, ite_true, ite_false, true_and, and_true, ↓bI_01, ↓bP_01, ↓zret0, ↓zret1, z_add, z_sub, z_mul, up_1, up_2, not_true, not_false_iff, if_true, if_false, bI_T, bI_F, Int.reduceNeg, Int.reduceAdd, Int.reduceSub, Int.reduceMul, Int.reduceEq, Int.reduceLT, Int.reduceLE, Int.natCast_add, Int.cast_ofNat_Int]
        · refine ⟨(ex_blk 227 20, [.ref 46, .int (q_ft A i), .int (Int32.ofInt ((i : Int) - 3)), .int (bP False), .int (Int32.ofInt ((j : Int) + 1))], [], ex_up w1 46 49 (Int32.ofInt ((i : Int) - 3))), ?_, False, rfl, ext False ⟨False.elim, fun h => hq h.2⟩⟩
          rw [bP_t hp, bP_f id]
          conv => lhs; rw [kb_227_20]
          simp (disch := omega) only [g20, ec, es, r_sideOf hV.1 hM1 (by omega) (by omega), ev_iload, ev_aload, rx_istore, ev_iinc, ev_push, ev_iadd, ev_ior, ev_ishl, ev_goto, ev_jsr, rx_ine_t, rx_ine_f, rx_ige_t, rx_ige_f, rx_zeq_t, rx_zeq_f, ev_getf, ev_putf, ev_putl, ev_iald, ev_callv, nr_i, nr_r, nr_l, nr_n, kA_47, kA_48, kA_49, kA_50, kA_51, kA_52, kA_53, kA_54, kA_55, kA_56, kA_57, kA_58, kA_59, kA_60, kA_61, kA_63, kA_64, kA_65, kA_66, kA_67, kA_68, kA_69, kA_70, rx_iret, kb_227_0, kb_227_58, kb_227_59, kb_227_66, kb_227_79, kb_227_80, kb_227_88, kr_227, kf_46_724, kf_46_725, kf_46_726, kk_46_753, List.getD_cons_zero, List.getD_cons_succ, List.set_cons_zero, List.set_cons_succ, ex_spl, ex_low, Option.toList, List.cons_append, List.nil_append, reduceIte, Int.reduceToNat, Nat.reduceDiv, Nat.reduceMod, Nat.reduceAdd, Nat.reduceMul, z_0, z_1, z_10, z_01, reduceCtorEq, ite_true, ite_false, true_and, and_true, ↓bI_01, ↓bP_01, ↓zret0, ↓zret1, z_add, z_sub, z_mul, up_1, up_2, not_true, not_false_iff, if_true, if_false, bI_T, bI_F, Int.reduceNeg, Int.reduceAdd, Int.reduceSub, Int.reduceMul, Int.reduceEq, Int.reduceLT, Int.reduceLE, Int.natCast_add, Int.cast_ofNat_Int]
      · refine ⟨(ex_blk 227 20, [.ref 46, .int (q_ft A i), .int (Int32.ofInt ((i : Int) - 3)), .int (bP False), .int (Int32.ofInt ((j : Int) + 1))], [], ex_up w1 46 49 (Int32.ofInt ((i : Int) - 3))), ?_, False, rfl, ext False ⟨False.elim, fun h => hp h.1⟩⟩
        rw [bP_f hp, bP_f id]
        conv => lhs; rw [kb_227_20]
        simp (disch := omega) only [g20, ec, es, r_sideOf hV.1 hM1 (by omega) (by omega), ev_iload, ev_aload, rx_istore, ev_iinc, ev_push, ev_iadd, ev_ior, ev_ishl, ev_goto, ev_jsr, rx_ine_t, rx_ine_f, rx_ige_t, rx_ige_f, rx_zeq_t, rx_zeq_f, ev_getf, ev_putf, ev_putl, ev_iald, ev_callv, nr_i, nr_r, nr_l, nr_n, kA_47, kA_48, kA_49, kA_50, kA_51, kA_52, kA_53, kA_54, kA_55, kA_56, kA_57, kA_58, kA_59, kA_60, kA_61, kA_63, kA_64, kA_65, kA_66, kA_67, kA_68, kA_69, kA_70, rx_iret, kb_227_0, kb_227_58, kb_227_59, kb_227_66, kb_227_79, kb_227_80, kb_227_88, kr_227, kf_46_724, kf_46_725, kf_46_726, kk_46_753, List.getD_cons_zero, List.getD_cons_succ, List.set_cons_zero, List.set_cons_succ, ex_spl, ex_low, Option.toList, List.cons_append, List.nil_append, reduceIte, Int.reduceToNat, Nat.reduceDiv, Nat.reduceMod, Nat.reduceAdd, Nat.reduceMul, z_0, z_1, z_10, z_01, reduceCtorEq, ite_true, ite_false, true_and, and_true, ↓bI_01, ↓bP_01, ↓zret0, ↓zret1, z_add, z_sub, z_mul, up_1, up_2, not_true, not_false_iff, if_true, if_false, bI_T, bI_F, Int.reduceNeg, Int.reduceAdd, Int.reduceSub, Int.reduceMul, Int.reduceEq, Int.reduceLT, Int.reduceLE, Int.natCast_add, Int.cast_ofNat_Int])
    have hchI : ch ↔ q_all A ((i : Int) - 3) := hch.trans ⟨fun h k k0 k1 => h k k0 (by omega), fun h k k0 k1 => h k k0 (by omega)⟩
    refine ⟨(ex_blk 227 5, [.ref 46, .int (q_ft A (i + 1)), .int (Int32.ofInt ((i : Int) + 1 - 3)), .int (bP ch), .int (Int32.ofInt (((A 0 7).toNat : Nat) : Int))], [], ex_up w1 46 49 (Int32.ofInt ((i : Int) - 3))), ?_, _, _, _, rfl, ⟨fun _ => rfl, xv_i _⟩, ⟨_, hM1⟩, Int32.ofInt ((i : Int) - 3), fun a k hk => ?_⟩
    · conv => lhs; rw [kb_227_5]
      simp (disch := omega) only [x3, x4, ev_iload, ev_aload, rx_istore, ev_iinc, ev_push, ev_iadd, ev_ior, ev_ishl, ev_goto, ev_jsr, rx_ine_t, rx_ine_f, rx_ige_t, rx_ige_f, rx_zeq_t, rx_zeq_f, ev_getf, ev_putf, ev_putl, ev_iald, ev_callv, nr_i, nr_r, nr_l, nr_n, kA_47, kA_48, kA_49, kA_50, kA_51, kA_52, kA_53, kA_54, kA_55, kA_56, kA_57, kA_58, kA_59, kA_60, kA_61, kA_63, kA_64, kA_65, kA_66, kA_67, kA_68, kA_69, kA_70, rx_iret, kb_227_0, kb_227_58, kb_227_59, kb_227_66, kb_227_79, kb_227_80, kb_227_88, kr_227, kf_46_724, kf_46_725, kf_46_726, kk_46_753, List.getD_cons_zero, List.getD_cons_succ, List.set_cons_zero, List.set_cons_succ, ex_spl, ex_low, Option.toList, List.cons_append, List.nil_append, reduceIte, Int.reduceToNat, Nat.reduceDiv, Nat.reduceMod, Nat.reduceAdd, Nat.reduceMul, z_0, z_1, z_10, z_01, reduceCtorEq, ite_true, ite_false, true_and, and_true, ↓bI_01, ↓bP_01, ↓zret0, ↓zret1, z_add, z_sub, z_mul, up_1, up_2, not_true, not_false_iff, if_true, if_false, bI_T, bI_F, Int.reduceNeg, Int.reduceAdd, Int.reduceSub, Int.reduceMul, Int.reduceEq, Int.reduceLT, Int.reduceLE, Int.natCast_add, Int.cast_ofNat_Int]
      refine h2.trans ?_
      conv => lhs; rw [kb_227_20]
      by_cases hv : ch
      · rw [q_ft_t (hchI.1 hv), bP_t hv]
        simp (disch := omega) only [g20, e1, e2, ev_iload, ev_aload, rx_istore, ev_iinc, ev_push, ev_iadd, ev_ior, ev_ishl, ev_goto, ev_jsr, rx_ine_t, rx_ine_f, rx_ige_t, rx_ige_f, rx_zeq_t, rx_zeq_f, ev_getf, ev_putf, ev_putl, ev_iald, ev_callv, nr_i, nr_r, nr_l, nr_n, kA_47, kA_48, kA_49, kA_50, kA_51, kA_52, kA_53, kA_54, kA_55, kA_56, kA_57, kA_58, kA_59, kA_60, kA_61, kA_63, kA_64, kA_65, kA_66, kA_67, kA_68, kA_69, kA_70, rx_iret, kb_227_0, kb_227_58, kb_227_59, kb_227_66, kb_227_79, kb_227_80, kb_227_88, kr_227, kf_46_724, kf_46_725, kf_46_726, kk_46_753, List.getD_cons_zero, List.getD_cons_succ, List.set_cons_zero, List.set_cons_succ, ex_spl, ex_low, Option.toList, List.cons_append, List.nil_append, reduceIte, Int.reduceToNat, Nat.reduceDiv, Nat.reduceMod, Nat.reduceAdd, Nat.reduceMul, z_0, z_1, z_10, z_01, reduceCtorEq, ite_true, ite_false, true_and, and_true, ↓bI_01, ↓bP_01, ↓zret0, ↓zret1, z_add, z_sub, z_mul, up_1, up_2, not_true, not_false_iff, if_true, if_false, bI_T, bI_F, Int.reduceNeg, Int.reduceAdd, Int.reduceSub, Int.reduceMul, Int.reduceEq, Int.reduceLT, Int.reduceLE, Int.natCast_add, Int.cast_ofNat_Int]
      · rw [q_ft_f (fun hh => hv (hchI.2 hh)), bP_f hv]
        simp (disch := omega) only [g20, e1, e2, m_or0, ev_iload, ev_aload, rx_istore, ev_iinc, ev_push, ev_iadd, ev_ior, ev_ishl, ev_goto, ev_jsr, rx_ine_t, rx_ine_f, rx_ige_t, rx_ige_f, rx_zeq_t, rx_zeq_f, ev_getf, ev_putf, ev_putl, ev_iald, ev_callv, nr_i, nr_r, nr_l, nr_n, kA_47, kA_48, kA_49, kA_50, kA_51, kA_52, kA_53, kA_54, kA_55, kA_56, kA_57, kA_58, kA_59, kA_60, kA_61, kA_63, kA_64, kA_65, kA_66, kA_67, kA_68, kA_69, kA_70, rx_iret, kb_227_0, kb_227_58, kb_227_59, kb_227_66, kb_227_79, kb_227_80, kb_227_88, kr_227, kf_46_724, kf_46_725, kf_46_726, kk_46_753, List.getD_cons_zero, List.getD_cons_succ, List.set_cons_zero, List.set_cons_succ, ex_spl, ex_low, Option.toList, List.cons_append, List.nil_append, reduceIte, Int.reduceToNat, Nat.reduceDiv, Nat.reduceMod, Nat.reduceAdd, Nat.reduceMul, z_0, z_1, z_10, z_01, reduceCtorEq, ite_true, ite_false, true_and, and_true, ↓bI_01, ↓bP_01, ↓zret0, ↓zret1, z_add, z_sub, z_mul, up_1, up_2, not_true, not_false_iff, if_true, if_false, bI_T, bI_F, Int.reduceNeg, Int.reduceAdd, Int.reduceSub, Int.reduceMul, Int.reduceEq, Int.reduceLT, Int.reduceLE, Int.natCast_add, Int.cast_ofNat_Int]
    · rw [up_1, up_1]
      by_cases ha : a = 46 ∧ k = 49
      · rw [if_pos ha, if_pos ha]
      · rw [if_neg ha, if_neg ha]
        have := ho a k hk
        rw [up_1, if_neg ha] at this
        exact this
  · rintro s ⟨w1, v3, v4, rfl, ⟨x3, x4⟩, ⟨b, hMb⟩, x, ho⟩
    refine ⟨ex_up w1 46 49 (Int32.ofInt 0), ?_, sS (w1 := w) g49 ho⟩
    rw [kb_227_5]
    simp (disch := omega) only [ev_iload, ev_aload, rx_istore, ev_iinc, ev_push, ev_iadd, ev_ior, ev_ishl, ev_goto, ev_jsr, rx_ine_t, rx_ine_f, rx_ige_t, rx_ige_f, rx_zeq_t, rx_zeq_f, ev_getf, ev_putf, ev_putl, ev_iald, ev_callv, nr_i, nr_r, nr_l, nr_n, kA_47, kA_48, kA_49, kA_50, kA_51, kA_52, kA_53, kA_54, kA_55, kA_56, kA_57, kA_58, kA_59, kA_60, kA_61, kA_63, kA_64, kA_65, kA_66, kA_67, kA_68, kA_69, kA_70, rx_iret, kb_227_0, kb_227_58, kb_227_59, kb_227_66, kb_227_79, kb_227_80, kb_227_88, kr_227, kf_46_724, kf_46_725, kf_46_726, kk_46_753, List.getD_cons_zero, List.getD_cons_succ, List.set_cons_zero, List.set_cons_succ, ex_spl, ex_low, Option.toList, List.cons_append, List.nil_append, reduceIte, Int.reduceToNat, Nat.reduceDiv, Nat.reduceMod, Nat.reduceAdd, Nat.reduceMul, z_0, z_1, z_10, z_01, reduceCtorEq, ite_true, ite_false, true_and, and_true, ↓bI_01, ↓bP_01, ↓zret0, ↓zret1, z_add, z_sub, z_mul, up_1, up_2, not_true, not_false_iff, if_true, if_false, bI_T, bI_F, Int.reduceNeg, Int.reduceAdd, Int.reduceSub, Int.reduceMul, Int.reduceEq, Int.reduceLT, Int.reduceLE, Int.natCast_add, Int.cast_ofNat_Int]
theorem g_fits {A : AS} (hV : q_V A) : q_both A 125 228 [] := by
  have hr := q_rng hV.1
  by_cases hh : 0 < A 0 2
  · refine q_ask hV (.int (q_ft A 7)) (fun d w hC => ⟨w, ?_, sC_r w⟩) (fun d w hM => ?_)
    · rw [ke_125 kc_0]
      simp (disch := omega) only [m_there2 hV.1.1 hC, bI_t, bI_f, m_fitting hV.1 hC, ev_aload, ev_push, ev_goto, ev_jsr, rx_zeq_t, rx_zeq_f, ev_getf, ev_callv, nr_i, nr_r, nr_l, nr_n, rx_iret, kb_125_0, kb_125_17, kb_125_19, kr_125, kf_0_643, List.getD_cons_zero, List.getD_cons_succ, List.set_cons_zero, List.set_cons_succ, ex_spl, ex_low, Option.toList, List.cons_append, List.nil_append, reduceIte, Int.reduceToNat, Nat.reduceDiv, Nat.reduceMod, Nat.reduceAdd, Nat.reduceMul, z_0, z_1, z_10, z_01, reduceCtorEq, ite_true, ite_false, true_and, and_true, ↓bI_01, ↓bP_01, ↓zret0, ↓zret1, z_add, z_sub, z_mul, up_1, up_2, not_true, not_false_iff, if_true, if_false, bI_T, bI_F, Int.reduceNeg, Int.reduceAdd, Int.reduceSub, Int.reduceMul, Int.reduceEq, Int.reduceLT, Int.reduceLE, Int.natCast_add, Int.cast_ofNat_Int]
    · have g2 := hM.1.2.2.1
      obtain ⟨w1, e1, ho⟩ := r_fitsNow (d := d + 12) hV.1 hM
      refine ⟨w1, ?_, ho⟩
      rw [ke_228 kc_46]
      simp (disch := omega) only [g2, e1, ev_aload, ev_push, ev_goto, ev_jsr, rx_zne_t, rx_zne_f, ev_getf, ev_callv, nr_i, nr_r, nr_l, nr_n, rx_iret, kb_228_0, kb_228_12, kb_228_16, kr_228, kf_46_706, List.getD_cons_zero, List.getD_cons_succ, List.set_cons_zero, List.set_cons_succ, ex_spl, ex_low, Option.toList, List.cons_append, List.nil_append, reduceIte, Int.reduceToNat, Nat.reduceDiv, Nat.reduceMod, Nat.reduceAdd, Nat.reduceMul, z_0, z_1, z_10, z_01, reduceCtorEq, ite_true, ite_false, true_and, and_true, ↓bI_01, ↓bP_01, ↓zret0, ↓zret1, z_add, z_sub, z_mul, up_1, up_2, not_true, not_false_iff, if_true, if_false, bI_T, bI_F, Int.reduceNeg, Int.reduceAdd, Int.reduceSub, Int.reduceMul, Int.reduceEq, Int.reduceLT, Int.reduceLE, Int.natCast_add, Int.cast_ofNat_Int]
  · refine q_ask hV (.int (Int32.ofInt (-103))) (fun d w hC => ⟨w, ?_, sC_r w⟩) (fun d w hM => ⟨w, ?_, sM_r w⟩)
    · rw [ke_125 kc_0]
      simp (disch := omega) only [m_there2 hV.1.1 hC, bI_t, bI_f, ev_aload, ev_push, ev_goto, ev_jsr, rx_zeq_t, rx_zeq_f, ev_getf, ev_callv, nr_i, nr_r, nr_l, nr_n, rx_iret, kb_125_0, kb_125_17, kb_125_19, kr_125, kf_0_643, List.getD_cons_zero, List.getD_cons_succ, List.set_cons_zero, List.set_cons_succ, ex_spl, ex_low, Option.toList, List.cons_append, List.nil_append, reduceIte, Int.reduceToNat, Nat.reduceDiv, Nat.reduceMod, Nat.reduceAdd, Nat.reduceMul, z_0, z_1, z_10, z_01, reduceCtorEq, ite_true, ite_false, true_and, and_true, ↓bI_01, ↓bP_01, ↓zret0, ↓zret1, z_add, z_sub, z_mul, up_1, up_2, not_true, not_false_iff, if_true, if_false, bI_T, bI_F, Int.reduceNeg, Int.reduceAdd, Int.reduceSub, Int.reduceMul, Int.reduceEq, Int.reduceLT, Int.reduceLE, Int.natCast_add, Int.cast_ofNat_Int]
    · have g2 := hM.1.2.2.1
      rw [ke_228 kc_46]
      simp (disch := omega) only [g2, ev_aload, ev_push, ev_goto, ev_jsr, rx_zne_t, rx_zne_f, ev_getf, ev_callv, nr_i, nr_r, nr_l, nr_n, rx_iret, kb_228_0, kb_228_12, kb_228_16, kr_228, kf_46_706, List.getD_cons_zero, List.getD_cons_succ, List.set_cons_zero, List.set_cons_succ, ex_spl, ex_low, Option.toList, List.cons_append, List.nil_append, reduceIte, Int.reduceToNat, Nat.reduceDiv, Nat.reduceMod, Nat.reduceAdd, Nat.reduceMul, z_0, z_1, z_10, z_01, reduceCtorEq, ite_true, ite_false, true_and, and_true, ↓bI_01, ↓bP_01, ↓zret0, ↓zret1, z_add, z_sub, z_mul, up_1, up_2, not_true, not_false_iff, if_true, if_false, bI_T, bI_F, Int.reduceNeg, Int.reduceAdd, Int.reduceSub, Int.reduceMul, Int.reduceEq, Int.reduceLT, Int.reduceLE, Int.natCast_add, Int.cast_ofNat_Int]
/-! first -/
theorem q_lb_ex {x : Int32} (h : ¬ x = Int32.ofInt 0) : ∃ m : Nat, m < 32 ∧ (∀ i : Int, 0 ≤ i → i < (m : Int) → ¬ q_bt x i) ∧ q_bt x m := by
  obtain ⟨m, h1, h2, h3⟩ := ex_fst (fun n => q_bt x n) 32
  by_cases hm : m < 32
  · exact ⟨m, hm, fun i i0 i1 => by have := h2 i.toNat (by omega); rwa [Int.toNat_of_nonneg i0] at this, h3 hm⟩
  · exfalso
    exact h (m_eq0.2 fun i i0 i1 => by have := h2 i.toNat (by omega); rwa [Int.toNat_of_nonneg i0] at this)
theorem m_leastBit {d : Nat} {w : PW} {x : Int32} {m : Nat} (h1 : m < 32) (h2 : ∀ i : Int, 0 ≤ i → i < (m : Int) → ¬ q_bt x i) (h3 : q_bt x m) : ex_cal (d + 1) 132 [.int x] w = some (some (.int (Int32.ofInt (m : Int))), w) := by
  rw [ke_132]
  simp (disch := omega) only [ev_iload, rx_istore, ev_iinc, ev_push, ev_iand, ev_ishr, ev_goto, ev_jsr, rx_ige_t, rx_ige_f, rx_zeq_t, rx_zeq_f, nr_i, nr_r, nr_l, nr_n, rx_iret, kb_132_0, kb_132_18, kb_132_24, kr_132, List.getD_cons_zero, List.getD_cons_succ, List.set_cons_zero, List.set_cons_succ, ex_spl, ex_low, Option.toList, List.cons_append, List.nil_append, reduceIte, Int.reduceToNat, Nat.reduceDiv, Nat.reduceMod, Nat.reduceAdd, Nat.reduceMul, z_0, z_1, z_10, z_01, reduceCtorEq, ite_true, ite_false, true_and, and_true, ↓bI_01, ↓bP_01, ↓zret0, ↓zret1, z_add, z_sub, z_mul, up_1, up_2, not_true, not_false_iff, if_true, if_false, bI_T, bI_F, Int.reduceNeg, Int.reduceAdd, Int.reduceSub, Int.reduceMul, Int.reduceEq, Int.reduceLT, Int.reduceLE, Int.natCast_add, Int.cast_ofNat_Int]
  have key := ex_iter (d := d) (cal := ex_cal d) (y := 132) (fun i => (ex_blk 132 2, [.int x, .int (Int32.ofInt (i : Int))], [], w)) (Nat.zero_le m) (fun i _ hi => by
    (try dsimp only)
    have hb : (x >>> (Int32.ofInt (i : Int) &&& 31)) &&& Int32.ofInt 1 = Int32.ofInt 0 := Classical.not_not.1 (h2 i (by omega) (by omega))
    conv => lhs; rw [kb_132_2]
    simp (disch := omega) only [hb, ev_iload, rx_istore, ev_iinc, ev_push, ev_iand, ev_ishr, ev_goto, ev_jsr, rx_ige_t, rx_ige_f, rx_zeq_t, rx_zeq_f, nr_i, nr_r, nr_l, nr_n, rx_iret, kb_132_0, kb_132_18, kb_132_24, kr_132, List.getD_cons_zero, List.getD_cons_succ, List.set_cons_zero, List.set_cons_succ, ex_spl, ex_low, Option.toList, List.cons_append, List.nil_append, reduceIte, Int.reduceToNat, Nat.reduceDiv, Nat.reduceMod, Nat.reduceAdd, Nat.reduceMul, z_0, z_1, z_10, z_01, reduceCtorEq, ite_true, ite_false, true_and, and_true, ↓bI_01, ↓bP_01, ↓zret0, ↓zret1, z_add, z_sub, z_mul, up_1, up_2, not_true, not_false_iff, if_true, if_false, bI_T, bI_F, Int.reduceNeg, Int.reduceAdd, Int.reduceSub, Int.reduceMul, Int.reduceEq, Int.reduceLT, Int.reduceLE, Int.natCast_add, Int.cast_ofNat_Int])
  refine key.trans ?_
  (try dsimp only)
  rw [kb_132_2]
  simp (disch := omega) only [rx_xeq_f h3, ev_iload, rx_istore, ev_iinc, ev_push, ev_iand, ev_ishr, ev_goto, ev_jsr, rx_ige_t, rx_ige_f, rx_zeq_t, rx_zeq_f, nr_i, nr_r, nr_l, nr_n, rx_iret, kb_132_0, kb_132_18, kb_132_24, kr_132, List.getD_cons_zero, List.getD_cons_succ, List.set_cons_zero, List.set_cons_succ, ex_spl, ex_low, Option.toList, List.cons_append, List.nil_append, reduceIte, Int.reduceToNat, Nat.reduceDiv, Nat.reduceMod, Nat.reduceAdd, Nat.reduceMul, z_0, z_1, z_10, z_01, reduceCtorEq, ite_true, ite_false, true_and, and_true, ↓bI_01, ↓bP_01, ↓zret0, ↓zret1, z_add, z_sub, z_mul, up_1, up_2, not_true, not_false_iff, if_true, if_false, bI_T, bI_F, Int.reduceNeg, Int.reduceAdd, Int.reduceSub, Int.reduceMul, Int.reduceEq, Int.reduceLT, Int.reduceLE, Int.natCast_add, Int.cast_ofNat_Int]
theorem r_lowest {d : Nat} {w : PW} {x : Int32} {m : Nat} (h1 : m < 32) (h2 : ∀ i : Int, 0 ≤ i → i < (m : Int) → ¬ q_bt x i) (h3 : q_bt x m) : ex_cal (d + 1) 191 [.int x] w = some (some (.int (Int32.ofInt (m : Int))), w) := by
  rw [ke_191]
  simp (disch := omega) only [ev_iload, rx_istore, ev_iinc, ev_push, ev_iand, ev_ishr, ev_goto, ev_jsr, rx_zne_t, rx_zne_f, nr_i, nr_r, nr_l, nr_n, rx_iret, kb_191_0, kb_191_16, kr_191, List.getD_cons_zero, List.getD_cons_succ, List.set_cons_zero, List.set_cons_succ, ex_spl, ex_low, Option.toList, List.cons_append, List.nil_append, reduceIte, Int.reduceToNat, Nat.reduceDiv, Nat.reduceMod, Nat.reduceAdd, Nat.reduceMul, z_0, z_1, z_10, z_01, reduceCtorEq, ite_true, ite_false, true_and, and_true, ↓bI_01, ↓bP_01, ↓zret0, ↓zret1, z_add, z_sub, z_mul, up_1, up_2, not_true, not_false_iff, if_true, if_false, bI_T, bI_F, Int.reduceNeg, Int.reduceAdd, Int.reduceSub, Int.reduceMul, Int.reduceEq, Int.reduceLT, Int.reduceLE, Int.natCast_add, Int.cast_ofNat_Int]
  have key := ex_iter (d := d) (cal := ex_cal d) (y := 191) (fun i => (ex_blk 191 2, [.int x, .int (Int32.ofInt (i : Int))], [], w)) (Nat.zero_le m) (fun i _ hi => by
    (try dsimp only)
    have hb : (x >>> (Int32.ofInt (i : Int) &&& 31)) &&& Int32.ofInt 1 = Int32.ofInt 0 := Classical.not_not.1 (h2 i (by omega) (by omega))
    conv => lhs; rw [kb_191_2]
    simp (disch := omega) only [hb, ev_iload, rx_istore, ev_iinc, ev_push, ev_iand, ev_ishr, ev_goto, ev_jsr, rx_zne_t, rx_zne_f, nr_i, nr_r, nr_l, nr_n, rx_iret, kb_191_0, kb_191_16, kr_191, List.getD_cons_zero, List.getD_cons_succ, List.set_cons_zero, List.set_cons_succ, ex_spl, ex_low, Option.toList, List.cons_append, List.nil_append, reduceIte, Int.reduceToNat, Nat.reduceDiv, Nat.reduceMod, Nat.reduceAdd, Nat.reduceMul, z_0, z_1, z_10, z_01, reduceCtorEq, ite_true, ite_false, true_and, and_true, ↓bI_01, ↓bP_01, ↓zret0, ↓zret1, z_add, z_sub, z_mul, up_1, up_2, not_true, not_false_iff, if_true, if_false, bI_T, bI_F, Int.reduceNeg, Int.reduceAdd, Int.reduceSub, Int.reduceMul, Int.reduceEq, Int.reduceLT, Int.reduceLE, Int.natCast_add, Int.cast_ofNat_Int])
  refine key.trans ?_
  (try dsimp only)
  rw [kb_191_2]
  simp (disch := omega) only [rx_xne_t h3, ev_iload, rx_istore, ev_iinc, ev_push, ev_iand, ev_ishr, ev_goto, ev_jsr, rx_zne_t, rx_zne_f, nr_i, nr_r, nr_l, nr_n, rx_iret, kb_191_0, kb_191_16, kr_191, List.getD_cons_zero, List.getD_cons_succ, List.set_cons_zero, List.set_cons_succ, ex_spl, ex_low, Option.toList, List.cons_append, List.nil_append, reduceIte, Int.reduceToNat, Nat.reduceDiv, Nat.reduceMod, Nat.reduceAdd, Nat.reduceMul, z_0, z_1, z_10, z_01, reduceCtorEq, ite_true, ite_false, true_and, and_true, ↓bI_01, ↓bP_01, ↓zret0, ↓zret1, z_add, z_sub, z_mul, up_1, up_2, not_true, not_false_iff, if_true, if_false, bI_T, bI_F, Int.reduceNeg, Int.reduceAdd, Int.reduceSub, Int.reduceMul, Int.reduceEq, Int.reduceLT, Int.reduceLE, Int.natCast_add, Int.cast_ofNat_Int]
/-- the first against a law among the first n -/
def q_fi (A : AS) (best n : Int) : Prop := (best = -1 ∧ ∀ e, 0 ≤ e → e < n → q_eb A 0 e = Int32.ofInt 0) ∨ (0 ≤ best ∧ best < n ∧ ¬ q_eb A 0 best = Int32.ofInt 0 ∧ ∀ e, 0 ≤ e → e < n → ¬ q_eb A 0 e = Int32.ofInt 0 → A 4 (5 * best) < A 4 (5 * e) ∨ (A 4 (5 * best) = A 4 (5 * e) ∧ best ≤ e))
theorem q_fi_u {A : AS} {n x y : Int} (hx : q_fi A x n) (hy : q_fi A y n) : x = y := by
  rcases hx with ⟨a, b⟩ | ⟨a, b, c, e⟩ <;> rcases hy with ⟨a2, b2⟩ | ⟨a2, b2, c2, e2⟩
  · omega
  · exact absurd (b y a2 b2) c2
  · exact absurd (b2 x a b) c
  · have := e y a2 b2 c2; have := e2 x a b c; omega
theorem q_fi_stay {A : AS} {n best : Int} (h : q_fi A best n) (hn : 0 ≤ n) (hs : ¬ q_eb A 0 n = Int32.ofInt 0 → 0 ≤ best ∧ A 4 (5 * best) ≤ A 4 (5 * n)) : q_fi A best (n + 1) := by
  rcases h with ⟨a, b⟩ | ⟨a, b, c, e⟩
  · refine Or.inl ⟨a, fun e e0 e1 => ?_⟩
    by_cases he : e = n
    · refine Classical.byContradiction fun hh => ?_
      rw [he] at hh; have := hs hh; omega
    · exact b e e0 (by omega)
  · refine Or.inr ⟨a, by omega, c, fun e' e0 e1 e2 => ?_⟩
    by_cases he : e' = n
    · rw [he] at e2 ⊢; have := hs e2; omega
    · exact e e' e0 (by omega) e2
theorem q_fi_take {A : AS} {n best : Int} (h : q_fi A best n) (hn : 0 ≤ n) (h1 : ¬ q_eb A 0 n = Int32.ofInt 0) (h2 : best = -1 ∨ A 4 (5 * n) < A 4 (5 * best)) : q_fi A n (n + 1) := by
  refine Or.inr ⟨hn, by omega, h1, fun e e0 e1 e2 => ?_⟩
  by_cases he : e = n
  · rw [he]; right; omega
  · rcases h with ⟨a, b⟩ | ⟨a, b, c, e'⟩
    · exact absurd (b e e0 (by omega)) e2
    · have := e' e e0 (by omega) e2; omega
theorem q_fi_r {A : AS} {n best : Int} (h : q_fi A best n) : -1 ≤ best ∧ (best < n ∨ best = -1) := by
  rcases h with ⟨a, b⟩ | ⟨a, b, c, e⟩ <;> omega
theorem q_fi_ex (A : AS) : ∀ n : Nat, ∃ best, q_fi A best n := by
  intro n
  induction n with
  | zero => exact ⟨-1, Or.inl ⟨rfl, fun e h0 h1 => absurd h1 (by omega)⟩⟩
  | succ n ih =>
    obtain ⟨best, h⟩ := ih
    by_cases h1 : q_eb A 0 n = Int32.ofInt 0
    · exact ⟨best, q_fi_stay h (by omega) (fun hh => absurd h1 hh)⟩
    · by_cases h2 : best = -1 ∨ A 4 (5 * n) < A 4 (5 * best)
      · exact ⟨n, q_fi_take h (by omega) h1 h2⟩
      · have := q_fi_r h
        exact ⟨best, q_fi_stay h (by omega) (fun _ => by omega)⟩
theorem m_firstAgainst {d : Nat} {A : AS} {w : PW} (hV : q_v0 A) (hC : rC A w) {best : Int} (hb : q_fi A best (A 0 4)) : ex_cal (d + 6) 139 [.ref 0] w = some (some (.int (Int32.ofInt best)), w) := by
  have hr := q_rng hV
  obtain ⟨-, -, -, -, -, -, ht23, -⟩ := id hC
  have hsz : w.1 23 2 = Int32.ofInt (A 0 4) := ht23.2.1
  rw [ke_139 kc_0]
  simp (disch := omega) only [ev_iload, ev_aload, rx_istore, ev_iinc, ev_push, ev_goto, ev_jsr, rx_ige_t, rx_ige_f, rx_zeq_t, rx_zeq_f, ev_getf, ev_callv, nr_i, nr_r, nr_l, nr_n, rx_iret, kb_139_0, kb_139_55, kb_139_61, kr_139, kf_20_1, kf_29_1, kf_0_645, List.getD_cons_zero, List.getD_cons_succ, List.set_cons_zero, List.set_cons_succ, ex_spl, ex_low, Option.toList, List.cons_append, List.nil_append, reduceIte, Int.reduceToNat, Nat.reduceDiv, Nat.reduceMod, Nat.reduceAdd, Nat.reduceMul, z_0, z_1, z_10, z_01, reduceCtorEq, ite_true, ite_false, true_and, and_true, ↓bI_01, ↓bP_01, ↓zret0, ↓zret1, z_add, z_sub, z_mul, up_1, up_2, not_true, not_false_iff, if_true, if_false, bI_T, bI_F, Int.reduceNeg, Int.reduceAdd, Int.reduceSub, Int.reduceMul, Int.reduceEq, Int.reduceLT, Int.reduceLE, Int.natCast_add, Int.cast_ofNat_Int]
  refine ex_loop (Q := fun r => r = some (some (.int (Int32.ofInt best)), w)) (fun i s => ∃ x least v4, s = (ex_blk 139 7, [.ref 0, .int (Int32.ofInt x), .int (Int32.ofInt least), .int (Int32.ofInt (i : Int)), v4], [], w) ∧ xv v4 ∧ q_fi A x i ∧ ((x = -1 ∧ least = 24) ∨ (0 ≤ x ∧ least = A 4 (5 * x)))) (A 0 4).toNat ?_ ?_ ?_
  · exact ⟨-1, 24, .null, rfl, xv_n, Or.inl ⟨rfl, fun e h0 h1 => absurd h1 (by omega)⟩, Or.inl ⟨rfl, rfl⟩⟩
  · rintro i s hi ⟨x, least, v4, rfl, x4, hfi, hl⟩
    right
    have he := hV.2.2.2.2.1.2.2 i (by omega) (by omega)
    have hxr := q_fi_r hfi
    have hle : 0 ≤ least ∧ least ≤ 24 := by
      rcases hl with ⟨a, b⟩ | ⟨a, b⟩
      · omega
      · have := hV.2.2.2.2.1.2.2 x (by omega) (by omega); omega
    by_cases hlt : A 4 (5 * i) < least
    · by_cases hv : q_eb A 0 i = Int32.ofInt 0
      · refine ⟨(ex_blk 139 7, [.ref 0, .int (Int32.ofInt x), .int (Int32.ofInt least), .int (Int32.ofInt ((i : Int) + 1)), .int (Int32.ofInt (A 4 (5 * i)))], [], w), ?_, x, least, _, rfl, xv_i _, q_fi_stay hfi (by omega) (fun hh => absurd hv hh), hl⟩
        conv => lhs; rw [kb_139_7]
        simp (disch := omega) only [m_tsize tb_23, hsz, m_tget tb_23 ht23, m_eb hV hC, hv, x4, Int.add_zero, ev_iload, ev_aload, rx_istore, ev_iinc, ev_push, ev_goto, ev_jsr, rx_ige_t, rx_ige_f, rx_zeq_t, rx_zeq_f, ev_getf, ev_callv, nr_i, nr_r, nr_l, nr_n, rx_iret, kb_139_0, kb_139_55, kb_139_61, kr_139, kf_20_1, kf_29_1, kf_0_645, List.getD_cons_zero, List.getD_cons_succ, List.set_cons_zero, List.set_cons_succ, ex_spl, ex_low, Option.toList, List.cons_append, List.nil_append, reduceIte, Int.reduceToNat, Nat.reduceDiv, Nat.reduceMod, Nat.reduceAdd, Nat.reduceMul, z_0, z_1, z_10, z_01, reduceCtorEq, ite_true, ite_false, true_and, and_true, ↓bI_01, ↓bP_01, ↓zret0, ↓zret1, z_add, z_sub, z_mul, up_1, up_2, not_true, not_false_iff, if_true, if_false, bI_T, bI_F, Int.reduceNeg, Int.reduceAdd, Int.reduceSub, Int.reduceMul, Int.reduceEq, Int.reduceLT, Int.reduceLE, Int.natCast_add, Int.cast_ofNat_Int]
      · refine ⟨(ex_blk 139 7, [.ref 0, .int (Int32.ofInt (i : Int)), .int (Int32.ofInt (A 4 (5 * i))), .int (Int32.ofInt ((i : Int) + 1)), .int (Int32.ofInt (A 4 (5 * i)))], [], w), ?_, i, A 4 (5 * i), _, rfl, xv_i _, q_fi_take hfi (by omega) hv (by omega), Or.inr ⟨by omega, rfl⟩⟩
        conv => lhs; rw [kb_139_7]
        simp (disch := omega) only [m_tsize tb_23, hsz, m_tget tb_23 ht23, m_eb hV hC, rx_xeq_f hv, x4, Int.add_zero, ev_iload, ev_aload, rx_istore, ev_iinc, ev_push, ev_goto, ev_jsr, rx_ige_t, rx_ige_f, rx_zeq_t, rx_zeq_f, ev_getf, ev_callv, nr_i, nr_r, nr_l, nr_n, rx_iret, kb_139_0, kb_139_55, kb_139_61, kr_139, kf_20_1, kf_29_1, kf_0_645, List.getD_cons_zero, List.getD_cons_succ, List.set_cons_zero, List.set_cons_succ, ex_spl, ex_low, Option.toList, List.cons_append, List.nil_append, reduceIte, Int.reduceToNat, Nat.reduceDiv, Nat.reduceMod, Nat.reduceAdd, Nat.reduceMul, z_0, z_1, z_10, z_01, reduceCtorEq, ite_true, ite_false, true_and, and_true, ↓bI_01, ↓bP_01, ↓zret0, ↓zret1, z_add, z_sub, z_mul, up_1, up_2, not_true, not_false_iff, if_true, if_false, bI_T, bI_F, Int.reduceNeg, Int.reduceAdd, Int.reduceSub, Int.reduceMul, Int.reduceEq, Int.reduceLT, Int.reduceLE, Int.natCast_add, Int.cast_ofNat_Int]
    · refine ⟨(ex_blk 139 7, [.ref 0, .int (Int32.ofInt x), .int (Int32.ofInt least), .int (Int32.ofInt ((i : Int) + 1)), .int (Int32.ofInt (A 4 (5 * i)))], [], w), ?_, x, least, _, rfl, xv_i _, q_fi_stay hfi (by omega) (fun hh => by omega), hl⟩
      conv => lhs; rw [kb_139_7]
      simp (disch := omega) only [m_tsize tb_23, hsz, m_tget tb_23 ht23, x4, Int.add_zero, ev_iload, ev_aload, rx_istore, ev_iinc, ev_push, ev_goto, ev_jsr, rx_ige_t, rx_ige_f, rx_zeq_t, rx_zeq_f, ev_getf, ev_callv, nr_i, nr_r, nr_l, nr_n, rx_iret, kb_139_0, kb_139_55, kb_139_61, kr_139, kf_20_1, kf_29_1, kf_0_645, List.getD_cons_zero, List.getD_cons_succ, List.set_cons_zero, List.set_cons_succ, ex_spl, ex_low, Option.toList, List.cons_append, List.nil_append, reduceIte, Int.reduceToNat, Nat.reduceDiv, Nat.reduceMod, Nat.reduceAdd, Nat.reduceMul, z_0, z_1, z_10, z_01, reduceCtorEq, ite_true, ite_false, true_and, and_true, ↓bI_01, ↓bP_01, ↓zret0, ↓zret1, z_add, z_sub, z_mul, up_1, up_2, not_true, not_false_iff, if_true, if_false, bI_T, bI_F, Int.reduceNeg, Int.reduceAdd, Int.reduceSub, Int.reduceMul, Int.reduceEq, Int.reduceLT, Int.reduceLE, Int.natCast_add, Int.cast_ofNat_Int]
  · rintro s ⟨x, least, v4, rfl, x4, hfi, hl⟩
    rw [Int.toNat_of_nonneg (by omega)] at hfi
    rw [q_fi_u hb hfi, kb_139_7]
    simp (disch := omega) only [m_tsize tb_23, hsz, ev_iload, ev_aload, rx_istore, ev_iinc, ev_push, ev_goto, ev_jsr, rx_ige_t, rx_ige_f, rx_zeq_t, rx_zeq_f, ev_getf, ev_callv, nr_i, nr_r, nr_l, nr_n, rx_iret, kb_139_0, kb_139_55, kb_139_61, kr_139, kf_20_1, kf_29_1, kf_0_645, List.getD_cons_zero, List.getD_cons_succ, List.set_cons_zero, List.set_cons_succ, ex_spl, ex_low, Option.toList, List.cons_append, List.nil_append, reduceIte, Int.reduceToNat, Nat.reduceDiv, Nat.reduceMod, Nat.reduceAdd, Nat.reduceMul, z_0, z_1, z_10, z_01, reduceCtorEq, ite_true, ite_false, true_and, and_true, ↓bI_01, ↓bP_01, ↓zret0, ↓zret1, z_add, z_sub, z_mul, up_1, up_2, not_true, not_false_iff, if_true, if_false, bI_T, bI_F, Int.reduceNeg, Int.reduceAdd, Int.reduceSub, Int.reduceMul, Int.reduceEq, Int.reduceLT, Int.reduceLE, Int.natCast_add, Int.cast_ofNat_Int]
theorem r_first {d : Nat} {A : AS} {w : PW} (hV : q_v0 A) (hM : rN A 0 w) {best k : Int} (k0 : 0 ≤ k) (k1 : k < 2) (hb : q_fi A best (A 0 4)) {r : Int32} (hr1 : best = -1 ∨ k = 0 → r = Int32.ofInt best) (hr2 : ¬ best = -1 → k = 1 → ∃ m : Nat, r = Int32.ofInt m ∧ m < 32 ∧ (∀ i : Int, 0 ≤ i → i < (m : Int) → ¬ q_bt (q_eb A 0 best) i) ∧ q_bt (q_eb A 0 best) m) : ∃ w', ex_cal (d + 11) 192 [.ref 46, .int (Int32.ofInt k)] w = some (some (.int r), w') ∧ sQ w w' := by
  have hr := q_rng hV
  rw [ke_192 kc_46]
  simp (disch := omega) only [r_within, bP_t, bP_f, ev_iload, ev_aload, rx_istore, ev_iinc, ev_push, ev_imul, ev_goto, ev_jsr, rx_ieq_t, rx_ieq_f, rx_ige_t, rx_ige_f, rx_zeq_t, rx_zeq_f, rx_zne_t, rx_zne_f, ev_getf, ev_iald, ev_call, ev_callv, nr_i, nr_r, nr_l, nr_n, kA_47, kA_48, kA_49, kA_50, kA_51, kA_52, kA_53, kA_54, kA_55, kA_56, kA_57, kA_58, kA_59, kA_60, kA_61, kA_63, kA_64, kA_65, kA_66, kA_67, kA_68, kA_69, kA_70, rx_iret, kb_192_0, kb_192_12, kb_192_56, kb_192_58, kb_192_64, kb_192_73, kb_192_77, kb_192_85, kr_192, kf_46_715, kf_46_716, List.getD_cons_zero, List.getD_cons_succ, List.set_cons_zero, List.set_cons_succ, ex_spl, ex_low, Option.toList, List.cons_append, List.nil_append, reduceIte, Int.reduceToNat, Nat.reduceDiv, Nat.reduceMod, Nat.reduceAdd, Nat.reduceMul, z_0, z_1, z_10, z_01, reduceCtorEq, ite_true, ite_false, true_and, and_true, ↓bI_01, ↓bP_01, ↓zret0, ↓zret1, z_add, z_sub, z_mul, up_1, up_2, not_true, not_false_iff, if_true, if_false, bI_T, bI_F, Int.reduceNeg, Int.reduceAdd, Int.reduceSub, Int.reduceMul, Int.reduceEq, Int.reduceLT, Int.reduceLE, Int.natCast_add, Int.cast_ofNat_Int]
  refine ex_loop (Q := fun q => ∃ w', q = some (some (.int r), w') ∧ sQ w w') (fun i s => ∃ w1 x, s = (ex_blk 192 16, [.ref 46, .int (Int32.ofInt k), .int (Int32.ofInt x), .int (Int32.ofInt (i : Int))], [], w1) ∧ sQ w w1 ∧ q_fi A x i) (A 0 4).toNat ?_ ?_ ?_
  · exact ⟨w, -1, rfl, sQ_r w, Or.inl ⟨rfl, fun e h0 h1 => absurd h1 (by omega)⟩⟩
  · rintro i s hi ⟨w1, x, rfl, ho, hfi⟩
    right
    have hM1 := rN_q hM ho
    obtain ⟨w2, e2, ho2⟩ := r_eb (d := d) (e := i) hV hM1 (by omega) (by omega) (by omega) (by omega)
    have hM2 := rN_q hM1 ho2
    have g11 := hM1.1.2.2.2.2.1
    have ge := hM2.2.2.2.2.1
    have he := hV.2.2.2.2.1.2.2 i (by omega) (by omega)
    have ei := ge (5 * i) (by omega) (by omega)
    have hxr := q_fi_r hfi
    by_cases hv : q_eb A 0 i = Int32.ofInt 0
    · refine ⟨(ex_blk 192 16, [.ref 46, .int (Int32.ofInt k), .int (Int32.ofInt x), .int (Int32.ofInt ((i : Int) + 1))], [], w2), ?_, w2, x, rfl, sQ_t ho ho2, q_fi_stay hfi (by omega) (fun hh => absurd hv hh)⟩
      conv => lhs; rw [kb_192_16]
      simp (disch := omega) only [g11, e2, hv, ev_iload, ev_aload, rx_istore, ev_iinc, ev_push, ev_imul, ev_goto, ev_jsr, rx_ieq_t, rx_ieq_f, rx_ige_t, rx_ige_f, rx_zeq_t, rx_zeq_f, rx_zne_t, rx_zne_f, ev_getf, ev_iald, ev_call, ev_callv, nr_i, nr_r, nr_l, nr_n, kA_47, kA_48, kA_49, kA_50, kA_51, kA_52, kA_53, kA_54, kA_55, kA_56, kA_57, kA_58, kA_59, kA_60, kA_61, kA_63, kA_64, kA_65, kA_66, kA_67, kA_68, kA_69, kA_70, rx_iret, kb_192_0, kb_192_12, kb_192_56, kb_192_58, kb_192_64, kb_192_73, kb_192_77, kb_192_85, kr_192, kf_46_715, kf_46_716, List.getD_cons_zero, List.getD_cons_succ, List.set_cons_zero, List.set_cons_succ, ex_spl, ex_low, Option.toList, List.cons_append, List.nil_append, reduceIte, Int.reduceToNat, Nat.reduceDiv, Nat.reduceMod, Nat.reduceAdd, Nat.reduceMul, z_0, z_1, z_10, z_01, reduceCtorEq, ite_true, ite_false, true_and, and_true, ↓bI_01, ↓bP_01, ↓zret0, ↓zret1, z_add, z_sub, z_mul, up_1, up_2, not_true, not_false_iff, if_true, if_false, bI_T, bI_F, Int.reduceNeg, Int.reduceAdd, Int.reduceSub, Int.reduceMul, Int.reduceEq, Int.reduceLT, Int.reduceLE, Int.natCast_add, Int.cast_ofNat_Int]
    · by_cases hx : x = -1
      · refine ⟨(ex_blk 192 16, [.ref 46, .int (Int32.ofInt k), .int (Int32.ofInt (i : Int)), .int (Int32.ofInt ((i : Int) + 1))], [], w2), ?_, w2, i, rfl, sQ_t ho ho2, q_fi_take hfi (by omega) hv (Or.inl hx)⟩
        conv => lhs; rw [kb_192_16]
        simp (disch := omega) only [g11, e2, rx_xeq_f hv, hx, ev_iload, ev_aload, rx_istore, ev_iinc, ev_push, ev_imul, ev_goto, ev_jsr, rx_ieq_t, rx_ieq_f, rx_ige_t, rx_ige_f, rx_zeq_t, rx_zeq_f, rx_zne_t, rx_zne_f, ev_getf, ev_iald, ev_call, ev_callv, nr_i, nr_r, nr_l, nr_n, kA_47, kA_48, kA_49, kA_50, kA_51, kA_52, kA_53, kA_54, kA_55, kA_56, kA_57, kA_58, kA_59, kA_60, kA_61, kA_63, kA_64, kA_65, kA_66, kA_67, kA_68, kA_69, kA_70, rx_iret, kb_192_0, kb_192_12, kb_192_56, kb_192_58, kb_192_64, kb_192_73, kb_192_77, kb_192_85, kr_192, kf_46_715, kf_46_716, List.getD_cons_zero, List.getD_cons_succ, List.set_cons_zero, List.set_cons_succ, ex_spl, ex_low, Option.toList, List.cons_append, List.nil_append, reduceIte, Int.reduceToNat, Nat.reduceDiv, Nat.reduceMod, Nat.reduceAdd, Nat.reduceMul, z_0, z_1, z_10, z_01, reduceCtorEq, ite_true, ite_false, true_and, and_true, ↓bI_01, ↓bP_01, ↓zret0, ↓zret1, z_add, z_sub, z_mul, up_1, up_2, not_true, not_false_iff, if_true, if_false, bI_T, bI_F, Int.reduceNeg, Int.reduceAdd, Int.reduceSub, Int.reduceMul, Int.reduceEq, Int.reduceLT, Int.reduceLE, Int.natCast_add, Int.cast_ofNat_Int]
      · have hex := hV.2.2.2.2.1.2.2 x (by omega) (by omega)
        have exx := ge (5 * x) (by omega) (by omega)
        by_cases hlt : A 4 (5 * i) < A 4 (5 * x)
        · refine ⟨(ex_blk 192 16, [.ref 46, .int (Int32.ofInt k), .int (Int32.ofInt (i : Int)), .int (Int32.ofInt ((i : Int) + 1))], [], w2), ?_, w2, i, rfl, sQ_t ho ho2, q_fi_take hfi (by omega) hv (Or.inr hlt)⟩
          conv => lhs; rw [kb_192_16]
          simp (disch := omega) only [g11, e2, rx_xeq_f hv, ei, exx, ev_iload, ev_aload, rx_istore, ev_iinc, ev_push, ev_imul, ev_goto, ev_jsr, rx_ieq_t, rx_ieq_f, rx_ige_t, rx_ige_f, rx_zeq_t, rx_zeq_f, rx_zne_t, rx_zne_f, ev_getf, ev_iald, ev_call, ev_callv, nr_i, nr_r, nr_l, nr_n, kA_47, kA_48, kA_49, kA_50, kA_51, kA_52, kA_53, kA_54, kA_55, kA_56, kA_57, kA_58, kA_59, kA_60, kA_61, kA_63, kA_64, kA_65, kA_66, kA_67, kA_68, kA_69, kA_70, rx_iret, kb_192_0, kb_192_12, kb_192_56, kb_192_58, kb_192_64, kb_192_73, kb_192_77, kb_192_85, kr_192, kf_46_715, kf_46_716, List.getD_cons_zero, List.getD_cons_succ, List.set_cons_zero, List.set_cons_succ, ex_spl, ex_low, Option.toList, List.cons_append, List.nil_append, reduceIte, Int.reduceToNat, Nat.reduceDiv, Nat.reduceMod, Nat.reduceAdd, Nat.reduceMul, z_0, z_1, z_10, z_01, reduceCtorEq, ite_true, ite_false, true_and, and_true, ↓bI_01, ↓bP_01, ↓zret0, ↓zret1, z_add, z_sub, z_mul, up_1, up_2, not_true, not_false_iff, if_true, if_false, bI_T, bI_F, Int.reduceNeg, Int.reduceAdd, Int.reduceSub, Int.reduceMul, Int.reduceEq, Int.reduceLT, Int.reduceLE, Int.natCast_add, Int.cast_ofNat_Int]
        · refine ⟨(ex_blk 192 16, [.ref 46, .int (Int32.ofInt k), .int (Int32.ofInt x), .int (Int32.ofInt ((i : Int) + 1))], [], w2), ?_, w2, x, rfl, sQ_t ho ho2, q_fi_stay hfi (by omega) (fun _ => by omega)⟩
          conv => lhs; rw [kb_192_16]
          simp (disch := omega) only [g11, e2, rx_xeq_f hv, ei, exx, ev_iload, ev_aload, rx_istore, ev_iinc, ev_push, ev_imul, ev_goto, ev_jsr, rx_ieq_t, rx_ieq_f, rx_ige_t, rx_ige_f, rx_zeq_t, rx_zeq_f, rx_zne_t, rx_zne_f, ev_getf, ev_iald, ev_call, ev_callv, nr_i, nr_r, nr_l, nr_n, kA_47, kA_48, kA_49, kA_50, kA_51, kA_52, kA_53, kA_54, kA_55, kA_56, kA_57, kA_58, kA_59, kA_60, kA_61, kA_63, kA_64, kA_65, kA_66, kA_67, kA_68, kA_69, kA_70, rx_iret, kb_192_0, kb_192_12, kb_192_56, kb_192_58, kb_192_64, kb_192_73, kb_192_77, kb_192_85, kr_192, kf_46_715, kf_46_716, List.getD_cons_zero, List.getD_cons_succ, List.set_cons_zero, List.set_cons_succ, ex_spl, ex_low, Option.toList, List.cons_append, List.nil_append, reduceIte, Int.reduceToNat, Nat.reduceDiv, Nat.reduceMod, Nat.reduceAdd, Nat.reduceMul, z_0, z_1, z_10, z_01, reduceCtorEq, ite_true, ite_false, true_and, and_true, ↓bI_01, ↓bP_01, ↓zret0, ↓zret1, z_add, z_sub, z_mul, up_1, up_2, not_true, not_false_iff, if_true, if_false, bI_T, bI_F, Int.reduceNeg, Int.reduceAdd, Int.reduceSub, Int.reduceMul, Int.reduceEq, Int.reduceLT, Int.reduceLE, Int.natCast_add, Int.cast_ofNat_Int]
  · rintro s ⟨w1, x, rfl, ho, hfi⟩
    rw [Int.toNat_of_nonneg (by omega)] at hfi
    have hxb := q_fi_u hb hfi
    subst hxb
    have hM1 := rN_q hM ho
    have g11 := hM1.1.2.2.2.2.1
    have hxr := q_fi_r hb
    by_cases hx : best = -1 ∨ k = 0
    · refine ⟨w1, ?_, ho⟩
      rw [hr1 hx, kb_192_16]
      by_cases hx1 : best = -1
      · simp (disch := omega) only [g11, hx1, ev_iload, ev_aload, rx_istore, ev_iinc, ev_push, ev_imul, ev_goto, ev_jsr, rx_ieq_t, rx_ieq_f, rx_ige_t, rx_ige_f, rx_zeq_t, rx_zeq_f, rx_zne_t, rx_zne_f, ev_getf, ev_iald, ev_call, ev_callv, nr_i, nr_r, nr_l, nr_n, kA_47, kA_48, kA_49, kA_50, kA_51, kA_52, kA_53, kA_54, kA_55, kA_56, kA_57, kA_58, kA_59, kA_60, kA_61, kA_63, kA_64, kA_65, kA_66, kA_67, kA_68, kA_69, kA_70, rx_iret, kb_192_0, kb_192_12, kb_192_56, kb_192_58, kb_192_64, kb_192_73, kb_192_77, kb_192_85, kr_192, kf_46_715, kf_46_716, List.getD_cons_zero, List.getD_cons_succ, List.set_cons_zero, List.set_cons_succ, ex_spl, ex_low, Option.toList, List.cons_append, List.nil_append, reduceIte, Int.reduceToNat, Nat.reduceDiv, Nat.reduceMod, Nat.reduceAdd, Nat.reduceMul, z_0, z_1, z_10, z_01, reduceCtorEq, ite_true, ite_false, true_and, and_true, ↓bI_01, ↓bP_01, ↓zret0, ↓zret1, z_add, z_sub, z_mul, up_1, up_2, not_true, not_false_iff, if_true, if_false, bI_T, bI_F, Int.reduceNeg, Int.reduceAdd, Int.reduceSub, Int.reduceMul, Int.reduceEq, Int.reduceLT, Int.reduceLE, Int.natCast_add, Int.cast_ofNat_Int]
      · simp (disch := omega) only [g11, ev_iload, ev_aload, rx_istore, ev_iinc, ev_push, ev_imul, ev_goto, ev_jsr, rx_ieq_t, rx_ieq_f, rx_ige_t, rx_ige_f, rx_zeq_t, rx_zeq_f, rx_zne_t, rx_zne_f, ev_getf, ev_iald, ev_call, ev_callv, nr_i, nr_r, nr_l, nr_n, kA_47, kA_48, kA_49, kA_50, kA_51, kA_52, kA_53, kA_54, kA_55, kA_56, kA_57, kA_58, kA_59, kA_60, kA_61, kA_63, kA_64, kA_65, kA_66, kA_67, kA_68, kA_69, kA_70, rx_iret, kb_192_0, kb_192_12, kb_192_56, kb_192_58, kb_192_64, kb_192_73, kb_192_77, kb_192_85, kr_192, kf_46_715, kf_46_716, List.getD_cons_zero, List.getD_cons_succ, List.set_cons_zero, List.set_cons_succ, ex_spl, ex_low, Option.toList, List.cons_append, List.nil_append, reduceIte, Int.reduceToNat, Nat.reduceDiv, Nat.reduceMod, Nat.reduceAdd, Nat.reduceMul, z_0, z_1, z_10, z_01, reduceCtorEq, ite_true, ite_false, true_and, and_true, ↓bI_01, ↓bP_01, ↓zret0, ↓zret1, z_add, z_sub, z_mul, up_1, up_2, not_true, not_false_iff, if_true, if_false, bI_T, bI_F, Int.reduceNeg, Int.reduceAdd, Int.reduceSub, Int.reduceMul, Int.reduceEq, Int.reduceLT, Int.reduceLE, Int.natCast_add, Int.cast_ofNat_Int]
    · obtain ⟨m, h1, h2, h3, h4⟩ := hr2 (fun h => hx (Or.inl h)) (by omega)
      obtain ⟨w2, e2, ho2⟩ := r_eb (d := d) (e := best) hV hM1 (by omega) (by omega) (by omega) (by omega)
      refine ⟨w2, ?_, sQ_t ho ho2⟩
      rw [h1, kb_192_16]
      simp (disch := omega) only [g11, e2, r_lowest h2 h3 h4, ev_iload, ev_aload, rx_istore, ev_iinc, ev_push, ev_imul, ev_goto, ev_jsr, rx_ieq_t, rx_ieq_f, rx_ige_t, rx_ige_f, rx_zeq_t, rx_zeq_f, rx_zne_t, rx_zne_f, ev_getf, ev_iald, ev_call, ev_callv, nr_i, nr_r, nr_l, nr_n, kA_47, kA_48, kA_49, kA_50, kA_51, kA_52, kA_53, kA_54, kA_55, kA_56, kA_57, kA_58, kA_59, kA_60, kA_61, kA_63, kA_64, kA_65, kA_66, kA_67, kA_68, kA_69, kA_70, rx_iret, kb_192_0, kb_192_12, kb_192_56, kb_192_58, kb_192_64, kb_192_73, kb_192_77, kb_192_85, kr_192, kf_46_715, kf_46_716, List.getD_cons_zero, List.getD_cons_succ, List.set_cons_zero, List.set_cons_succ, ex_spl, ex_low, Option.toList, List.cons_append, List.nil_append, reduceIte, Int.reduceToNat, Nat.reduceDiv, Nat.reduceMod, Nat.reduceAdd, Nat.reduceMul, z_0, z_1, z_10, z_01, reduceCtorEq, ite_true, ite_false, true_and, and_true, ↓bI_01, ↓bP_01, ↓zret0, ↓zret1, z_add, z_sub, z_mul, up_1, up_2, not_true, not_false_iff, if_true, if_false, bI_T, bI_F, Int.reduceNeg, Int.reduceAdd, Int.reduceSub, Int.reduceMul, Int.reduceEq, Int.reduceLT, Int.reduceLE, Int.natCast_add, Int.cast_ofNat_Int]
theorem g_first {A : AS} (hV : q_V A) {k : Int} (k0 : -2147483648 ≤ k) (k1 : k < 2147483648) : q_both A 110 192 [.int (Int32.ofInt k)] := by
  have hr := q_rng hV.1
  by_cases hk : 0 ≤ k ∧ k < 2
  · obtain ⟨best, hb⟩ := q_fi_ex A (A 0 4).toNat
    rw [Int.toNat_of_nonneg (by omega)] at hb
    have hxr := q_fi_r hb
    by_cases hx : best = -1 ∨ k = 0
    · refine q_ask hV (.int (Int32.ofInt best)) (fun d w hC => ⟨w, ?_, sC_r w⟩) (fun d w hM => ?_)
      · rw [ke_110 kc_0]
        by_cases hx1 : best = -1
        · simp (disch := omega) only [m_below, bI_t, bI_f, m_firstAgainst hV.1 hC hb, hx1, ev_iload, ev_aload, rx_istore, ev_push, ev_jsr, rx_ieq_t, rx_ieq_f, rx_zne_t, rx_zne_f, ev_call, ev_callv, nr_i, nr_r, nr_l, nr_n, rx_iret, kb_110_0, kb_110_11, kb_110_25, kb_110_27, kr_110, List.getD_cons_zero, List.getD_cons_succ, List.set_cons_zero, List.set_cons_succ, ex_spl, ex_low, Option.toList, List.cons_append, List.nil_append, reduceIte, Int.reduceToNat, Nat.reduceDiv, Nat.reduceMod, Nat.reduceAdd, Nat.reduceMul, z_0, z_1, z_10, z_01, reduceCtorEq, ite_true, ite_false, true_and, and_true, ↓bI_01, ↓bP_01, ↓zret0, ↓zret1, z_add, z_sub, z_mul, up_1, up_2, not_true, not_false_iff, if_true, if_false, bI_T, bI_F, Int.reduceNeg, Int.reduceAdd, Int.reduceSub, Int.reduceMul, Int.reduceEq, Int.reduceLT, Int.reduceLE, Int.natCast_add, Int.cast_ofNat_Int]
        · simp (disch := omega) only [m_below, bI_t, bI_f, m_firstAgainst hV.1 hC hb, ev_iload, ev_aload, rx_istore, ev_push, ev_jsr, rx_ieq_t, rx_ieq_f, rx_zne_t, rx_zne_f, ev_call, ev_callv, nr_i, nr_r, nr_l, nr_n, rx_iret, kb_110_0, kb_110_11, kb_110_25, kb_110_27, kr_110, List.getD_cons_zero, List.getD_cons_succ, List.set_cons_zero, List.set_cons_succ, ex_spl, ex_low, Option.toList, List.cons_append, List.nil_append, reduceIte, Int.reduceToNat, Nat.reduceDiv, Nat.reduceMod, Nat.reduceAdd, Nat.reduceMul, z_0, z_1, z_10, z_01, reduceCtorEq, ite_true, ite_false, true_and, and_true, ↓bI_01, ↓bP_01, ↓zret0, ↓zret1, z_add, z_sub, z_mul, up_1, up_2, not_true, not_false_iff, if_true, if_false, bI_T, bI_F, Int.reduceNeg, Int.reduceAdd, Int.reduceSub, Int.reduceMul, Int.reduceEq, Int.reduceLT, Int.reduceLE, Int.natCast_add, Int.cast_ofNat_Int]
      · obtain ⟨w1, h1, ho⟩ := r_first (d := d + 5) hV.1 hM (k := k) (by omega) (by omega) hb (r := Int32.ofInt best) (fun _ => rfl) (fun h1 h2 => absurd hx (by omega))
        exact ⟨w1, h1, sQ_M ho⟩
    · have hne : ¬ q_eb A 0 best = Int32.ofInt 0 := by
        rcases hb with ⟨a, b⟩ | ⟨a, b, c, e⟩
        · exact absurd (Or.inl a) hx
        · exact c
      obtain ⟨m, h1, h2, h3⟩ := q_lb_ex hne
      refine q_ask hV (.int (Int32.ofInt (m : Int))) (fun d w hC => ⟨w, ?_, sC_r w⟩) (fun d w hM => ?_)
      · rw [ke_110 kc_0]
        simp (disch := omega) only [m_below, bI_t, bI_f, m_firstAgainst hV.1 hC hb, m_eb hV.1 hC, m_leastBit h1 h2 h3, ev_iload, ev_aload, rx_istore, ev_push, ev_jsr, rx_ieq_t, rx_ieq_f, rx_zne_t, rx_zne_f, ev_call, ev_callv, nr_i, nr_r, nr_l, nr_n, rx_iret, kb_110_0, kb_110_11, kb_110_25, kb_110_27, kr_110, List.getD_cons_zero, List.getD_cons_succ, List.set_cons_zero, List.set_cons_succ, ex_spl, ex_low, Option.toList, List.cons_append, List.nil_append, reduceIte, Int.reduceToNat, Nat.reduceDiv, Nat.reduceMod, Nat.reduceAdd, Nat.reduceMul, z_0, z_1, z_10, z_01, reduceCtorEq, ite_true, ite_false, true_and, and_true, ↓bI_01, ↓bP_01, ↓zret0, ↓zret1, z_add, z_sub, z_mul, up_1, up_2, not_true, not_false_iff, if_true, if_false, bI_T, bI_F, Int.reduceNeg, Int.reduceAdd, Int.reduceSub, Int.reduceMul, Int.reduceEq, Int.reduceLT, Int.reduceLE, Int.natCast_add, Int.cast_ofNat_Int]
      · obtain ⟨w1, e1, ho⟩ := r_first (d := d + 5) hV.1 hM (k := k) (by omega) (by omega) hb (r := Int32.ofInt (m : Int)) (fun h => absurd h hx) (fun _ _ => ⟨m, rfl, h1, h2, h3⟩)
        exact ⟨w1, e1, sQ_M ho⟩
  · refine q_ask hV (.int (Int32.ofInt (-102))) (fun d w hC => ⟨w, ?_, sC_r w⟩) (fun d w hM => ⟨w, ?_, sM_r w⟩)
    · rw [ke_110 kc_0]
      simp (disch := omega) only [m_below, bI_t, bI_f, ev_iload, ev_aload, rx_istore, ev_push, ev_jsr, rx_ieq_t, rx_ieq_f, rx_zne_t, rx_zne_f, ev_call, ev_callv, nr_i, nr_r, nr_l, nr_n, rx_iret, kb_110_0, kb_110_11, kb_110_25, kb_110_27, kr_110, List.getD_cons_zero, List.getD_cons_succ, List.set_cons_zero, List.set_cons_succ, ex_spl, ex_low, Option.toList, List.cons_append, List.nil_append, reduceIte, Int.reduceToNat, Nat.reduceDiv, Nat.reduceMod, Nat.reduceAdd, Nat.reduceMul, z_0, z_1, z_10, z_01, reduceCtorEq, ite_true, ite_false, true_and, and_true, ↓bI_01, ↓bP_01, ↓zret0, ↓zret1, z_add, z_sub, z_mul, up_1, up_2, not_true, not_false_iff, if_true, if_false, bI_T, bI_F, Int.reduceNeg, Int.reduceAdd, Int.reduceSub, Int.reduceMul, Int.reduceEq, Int.reduceLT, Int.reduceLE, Int.natCast_add, Int.cast_ofNat_Int]
    · rw [ke_192 kc_46]
      simp (disch := omega) only [r_within, bP_t, bP_f, ev_iload, ev_aload, rx_istore, ev_iinc, ev_push, ev_imul, ev_goto, ev_jsr, rx_ieq_t, rx_ieq_f, rx_ige_t, rx_ige_f, rx_zeq_t, rx_zeq_f, rx_zne_t, rx_zne_f, ev_getf, ev_iald, ev_call, ev_callv, nr_i, nr_r, nr_l, nr_n, kA_47, kA_48, kA_49, kA_50, kA_51, kA_52, kA_53, kA_54, kA_55, kA_56, kA_57, kA_58, kA_59, kA_60, kA_61, kA_63, kA_64, kA_65, kA_66, kA_67, kA_68, kA_69, kA_70, rx_iret, kb_192_0, kb_192_12, kb_192_16, kb_192_56, kb_192_58, kb_192_64, kb_192_73, kb_192_77, kb_192_85, kr_192, kf_46_715, kf_46_716, List.getD_cons_zero, List.getD_cons_succ, List.set_cons_zero, List.set_cons_succ, ex_spl, ex_low, Option.toList, List.cons_append, List.nil_append, reduceIte, Int.reduceToNat, Nat.reduceDiv, Nat.reduceMod, Nat.reduceAdd, Nat.reduceMul, z_0, z_1, z_10, z_01, reduceCtorEq, ite_true, ite_false, true_and, and_true, ↓bI_01, ↓bP_01, ↓zret0, ↓zret1, z_add, z_sub, z_mul, up_1, up_2, not_true, not_false_iff, if_true, if_false, bI_T, bI_F, Int.reduceNeg, Int.reduceAdd, Int.reduceSub, Int.reduceMul, Int.reduceEq, Int.reduceLT, Int.reduceLE, Int.natCast_add, Int.cast_ofNat_Int]
