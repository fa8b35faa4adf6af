/-! fits -/
def q_all (A : AS) (b : Int) : Prop := ∀ i, 0 ≤ i → i < A 0 7 → q_sd A b (A 7 (5 * i)) = A 7 (5 * i + 1)
noncomputable def q_ft (A : AS) : Nat → Int32
  | 0 => Int32.ofInt 0
  | n + 1 => q_ft A n ||| q_iw (q_all A ((n : Int) - 3)) (q_b n) (Int32.ofInt 0)
theorem q_ft_t {A : AS} {n : Nat} (h : q_all A ((n : Int) - 3)) : q_ft A (n + 1) = q_ft A n ||| (Int32.ofInt 1 <<< (Int32.ofInt (n : Int) &&& 31)) := by
  show _ ||| q_iw _ _ _ = _
  rw [q_iw_t h]; rfl
theorem q_ft_f {A : AS} {n : Nat} (h : ¬ q_all A ((n : Int) - 3)) : q_ft A (n + 1) = q_ft A n := by
  show _ ||| q_iw _ _ _ = _
  rw [q_iw_f h, m_or0]
theorem m_allJudgedSo {d : Nat} {A : AS} {w : PW} (hV : q_v0 A) (hC : rC A w) {b : Int} (b0 : -3 ≤ b) (b1 : b ≤ 3) : ex_cal (d + 3) 91 [.ref 0, .int (Int32.ofInt b)] w = some (some (.int (bP (q_all A b))), w) := by
  have hr := q_rng hV
  obtain ⟨-, -, -, -, -, -, -, -, ht27, -⟩ := id hC
  have hsz : w.1 27 2 = Int32.ofInt (A 0 7) := ht27.2.1
  rw [ke_91 kc_0]
  simp (disch := omega) only [ev_iload, ev_aload, rx_istore, ev_iinc, ev_push, ev_goto, ev_jsr, rx_ieq_t, rx_ieq_f, rx_ige_t, rx_ige_f, ev_getf, ev_callv, nr_i, nr_r, nr_l, nr_n, rx_zret_t, rx_zretI, rx_zretP, kb_91_0, kb_91_53, kb_91_59, kr_91, kf_20_3, kf_29_3, kf_0_643, kf_0_645, List.getD_cons_zero, List.getD_cons_succ, List.set_cons_zero, List.set_cons_succ, ex_spl, ex_low, Option.toList, List.cons_append, List.nil_append, reduceIte, Int.reduceToNat, Nat.reduceDiv, Nat.reduceMod, Nat.reduceAdd, Nat.reduceMul, z_0, z_1, z_10, z_01, reduceCtorEq, ite_true, ite_false, true_and, and_true, ↓bI_01, ↓bP_01, ↓zret0, ↓zret1, z_add, z_sub, z_mul, up_1, up_2, not_true, not_false_iff, if_true, if_false, Bool.true_and, bI_T, bI_F, bP_T, bP_F, or_true, true_or, or_false, false_or, Int.reduceNeg, Int.reduceAdd, Int.reduceSub, Int.reduceMul, Int.reduceEq, Int.reduceLT, Int.reduceLE, Int.natCast_add, Int.cast_ofNat_Int]
  refine ex_loop (Q := fun r => r = some (some (.int (bP (q_all A b))), w)) (fun i s => s = (ex_blk 91 2, [.ref 0, .int (Int32.ofInt b), .int (Int32.ofInt (i : Int))], [], w) ∧ ∀ j : Int, 0 ≤ j → j < (i : Int) → q_sd A b (A 7 (5 * j)) = A 7 (5 * j + 1)) (A 0 7).toNat ?_ ?_ ?_
  · exact ⟨rfl, fun u h0 h1 => absurd h1 (by omega)⟩
  · rintro i s hi ⟨rfl, hn⟩
    have hj := hV.2.2.2.2.2.2.1.2.2 i (by omega) (by omega)
    have hs := q_sdr A b (A 7 (5 * i))
    by_cases hq : q_sd A b (A 7 (5 * i)) = A 7 (5 * i + 1)
    · right
      refine ⟨(ex_blk 91 2, [.ref 0, .int (Int32.ofInt b), .int (Int32.ofInt ((i : Int) + 1))], [], w), ?_, rfl, fun j j0 j1 => ?_⟩
      · conv => lhs; rw [kb_91_2]
        simp (disch := omega) only [m_tsize tb_27, hsz, m_tget tb_27 ht27, m_sideOf hV.1 hC.1.1, Int.add_zero, ev_iload, ev_aload, rx_istore, ev_iinc, ev_push, ev_goto, ev_jsr, rx_ieq_t, rx_ieq_f, rx_ige_t, rx_ige_f, ev_getf, ev_callv, nr_i, nr_r, nr_l, nr_n, rx_zret_t, rx_zretI, rx_zretP, kb_91_0, kb_91_53, kb_91_59, kr_91, kf_20_3, kf_29_3, kf_0_643, kf_0_645, List.getD_cons_zero, List.getD_cons_succ, List.set_cons_zero, List.set_cons_succ, ex_spl, ex_low, Option.toList, List.cons_append, List.nil_append, reduceIte, Int.reduceToNat, Nat.reduceDiv, Nat.reduceMod, Nat.reduceAdd, Nat.reduceMul, z_0, z_1, z_10, z_01, reduceCtorEq, ite_true, ite_false, true_and, and_true, ↓bI_01, ↓bP_01, ↓zret0, ↓zret1, z_add, z_sub, z_mul, up_1, up_2, not_true, not_false_iff, if_true, if_false, Bool.true_and, bI_T, bI_F, bP_T, bP_F, or_true, true_or, or_false, false_or, Int.reduceNeg, Int.reduceAdd, Int.reduceSub, Int.reduceMul, Int.reduceEq, Int.reduceLT, Int.reduceLE, Int.natCast_add, Int.cast_ofNat_Int]
      · by_cases hji : j = i
        · rw [hji]; exact hq
        · exact hn j j0 (by omega)
    · left
      rw [bP_f (fun hh => hq (hh i (by omega) (by omega))), kb_91_2]
      simp (disch := omega) only [m_tsize tb_27, hsz, m_tget tb_27 ht27, m_sideOf hV.1 hC.1.1, Int.add_zero, ev_iload, ev_aload, rx_istore, ev_iinc, ev_push, ev_goto, ev_jsr, rx_ieq_t, rx_ieq_f, rx_ige_t, rx_ige_f, ev_getf, ev_callv, nr_i, nr_r, nr_l, nr_n, rx_zret_t, rx_zretI, rx_zretP, kb_91_0, kb_91_53, kb_91_59, kr_91, kf_20_3, kf_29_3, kf_0_643, kf_0_645, List.getD_cons_zero, List.getD_cons_succ, List.set_cons_zero, List.set_cons_succ, ex_spl, ex_low, Option.toList, List.cons_append, List.nil_append, reduceIte, Int.reduceToNat, Nat.reduceDiv, Nat.reduceMod, Nat.reduceAdd, Nat.reduceMul, z_0, z_1, z_10, z_01, reduceCtorEq, ite_true, ite_false, true_and, and_true, ↓bI_01, ↓bP_01, ↓zret0, ↓zret1, z_add, z_sub, z_mul, up_1, up_2, not_true, not_false_iff, if_true, if_false, Bool.true_and, bI_T, bI_F, bP_T, bP_F, or_true, true_or, or_false, false_or, Int.reduceNeg, Int.reduceAdd, Int.reduceSub, Int.reduceMul, Int.reduceEq, Int.reduceLT, Int.reduceLE, Int.natCast_add, Int.cast_ofNat_Int]
  · rintro s ⟨rfl, hn⟩
    rw [bP_t (show q_all A b from fun j j0 j1 => hn j j0 (by omega)), kb_91_2]
    simp (disch := omega) only [m_tsize tb_27, hsz, ev_iload, ev_aload, rx_istore, ev_iinc, ev_push, ev_goto, ev_jsr, rx_ieq_t, rx_ieq_f, rx_ige_t, rx_ige_f, ev_getf, ev_callv, nr_i, nr_r, nr_l, nr_n, rx_zret_t, rx_zretI, rx_zretP, kb_91_0, kb_91_53, kb_91_59, kr_91, kf_20_3, kf_29_3, kf_0_643, kf_0_645, List.getD_cons_zero, List.getD_cons_succ, List.set_cons_zero, List.set_cons_succ, ex_spl, ex_low, Option.toList, List.cons_append, List.nil_append, reduceIte, Int.reduceToNat, Nat.reduceDiv, Nat.reduceMod, Nat.reduceAdd, Nat.reduceMul, z_0, z_1, z_10, z_01, reduceCtorEq, ite_true, ite_false, true_and, and_true, ↓bI_01, ↓bP_01, ↓zret0, ↓zret1, z_add, z_sub, z_mul, up_1, up_2, not_true, not_false_iff, if_true, if_false, Bool.true_and, bI_T, bI_F, bP_T, bP_F, or_true, true_or, or_false, false_or, Int.reduceNeg, Int.reduceAdd, Int.reduceSub, Int.reduceMul, Int.reduceEq, Int.reduceLT, Int.reduceLE, Int.natCast_add, Int.cast_ofNat_Int]
theorem m_fitting {d : Nat} {A : AS} {w : PW} (hV : q_v0 A) (hC : rC A w) : ex_cal (d + 4) 90 [.ref 0] w = some (some (.int (q_ft A 7)), w) := by
  rw [ke_90 kc_0]
  simp (disch := omega) only [ev_iload, ev_aload, rx_istore, ev_iinc, ev_push, ev_iadd, ev_ior, ev_ishl, ev_goto, ev_jsr, rx_igt_t, rx_igt_f, rx_zeq_t, rx_zeq_f, ev_callv, nr_i, nr_r, nr_l, nr_n, rx_iret, kb_90_0, kb_90_26, kb_90_32, kr_90, List.getD_cons_zero, List.getD_cons_succ, List.set_cons_zero, List.set_cons_succ, ex_spl, ex_low, Option.toList, List.cons_append, List.nil_append, reduceIte, Int.reduceToNat, Nat.reduceDiv, Nat.reduceMod, Nat.reduceAdd, Nat.reduceMul, z_0, z_1, z_10, z_01, reduceCtorEq, ite_true, ite_false, true_and, and_true, ↓bI_01, ↓bP_01, ↓zret0, ↓zret1, z_add, z_sub, z_mul, up_1, up_2, not_true, not_false_iff, if_true, if_false, Bool.true_and, bI_T, bI_F, bP_T, bP_F, or_true, true_or, or_false, false_or, Int.reduceNeg, Int.reduceAdd, Int.reduceSub, Int.reduceMul, Int.reduceEq, Int.reduceLT, Int.reduceLE, Int.natCast_add, Int.cast_ofNat_Int]
  have key := ex_iter (d := d + 3) (cal := ex_cal (d + 3)) (y := 90) (fun i => (ex_blk 90 5, [.ref 0, .int (q_ft A i), .int (Int32.ofInt ((i : Int) - 3))], [], w)) (Nat.zero_le 7) (fun i _ hi => by
    (try dsimp only)
    have e1 : (i : Int) - 3 + 1 = (i : Int) + 1 - 3 := by omega
    have e2 : (i : Int) - 3 + 3 = i := by omega
    conv => lhs; rw [kb_90_5]
    by_cases hv : q_all A ((i : Int) - 3)
    · rw [q_ft_t hv]
      have e3 := bP_t hv
      simp (disch := omega) only [m_allJudgedSo hV hC, e1, e2, e3, ev_iload, ev_aload, rx_istore, ev_iinc, ev_push, ev_iadd, ev_ior, ev_ishl, ev_goto, ev_jsr, rx_igt_t, rx_igt_f, rx_zeq_t, rx_zeq_f, ev_callv, nr_i, nr_r, nr_l, nr_n, rx_iret, kb_90_0, kb_90_26, kb_90_32, kr_90, List.getD_cons_zero, List.getD_cons_succ, List.set_cons_zero, List.set_cons_succ, ex_spl, ex_low, Option.toList, List.cons_append, List.nil_append, reduceIte, Int.reduceToNat, Nat.reduceDiv, Nat.reduceMod, Nat.reduceAdd, Nat.reduceMul, z_0, z_1, z_10, z_01, reduceCtorEq, ite_true, ite_false, true_and, and_true, ↓bI_01, ↓bP_01, ↓zret0, ↓zret1, z_add, z_sub, z_mul, up_1, up_2, not_true, not_false_iff, if_true, if_false, Bool.true_and, bI_T, bI_F, bP_T, bP_F, or_true, true_or, or_false, false_or, Int.reduceNeg, Int.reduceAdd, Int.reduceSub, Int.reduceMul, Int.reduceEq, Int.reduceLT, Int.reduceLE, Int.natCast_add, Int.cast_ofNat_Int]
    · rw [q_ft_f hv]
      have e3 := bP_f hv
      simp (disch := omega) only [m_allJudgedSo hV hC, e1, e2, e3, ev_iload, ev_aload, rx_istore, ev_iinc, ev_push, ev_iadd, ev_ior, ev_ishl, ev_goto, ev_jsr, rx_igt_t, rx_igt_f, rx_zeq_t, rx_zeq_f, ev_callv, nr_i, nr_r, nr_l, nr_n, rx_iret, kb_90_0, kb_90_26, kb_90_32, kr_90, List.getD_cons_zero, List.getD_cons_succ, List.set_cons_zero, List.set_cons_succ, ex_spl, ex_low, Option.toList, List.cons_append, List.nil_append, reduceIte, Int.reduceToNat, Nat.reduceDiv, Nat.reduceMod, Nat.reduceAdd, Nat.reduceMul, z_0, z_1, z_10, z_01, reduceCtorEq, ite_true, ite_false, true_and, and_true, ↓bI_01, ↓bP_01, ↓zret0, ↓zret1, z_add, z_sub, z_mul, up_1, up_2, not_true, not_false_iff, if_true, if_false, Bool.true_and, bI_T, bI_F, bP_T, bP_F, or_true, true_or, or_false, false_or, Int.reduceNeg, Int.reduceAdd, Int.reduceSub, Int.reduceMul, Int.reduceEq, Int.reduceLT, Int.reduceLE, Int.natCast_add, Int.cast_ofNat_Int])
  refine key.trans ?_
  (try dsimp only)
  rw [kb_90_5]
  simp (disch := omega) only [ev_iload, ev_aload, rx_istore, ev_iinc, ev_push, ev_iadd, ev_ior, ev_ishl, ev_goto, ev_jsr, rx_igt_t, rx_igt_f, rx_zeq_t, rx_zeq_f, ev_callv, nr_i, nr_r, nr_l, nr_n, rx_iret, kb_90_0, kb_90_26, kb_90_32, kr_90, List.getD_cons_zero, List.getD_cons_succ, List.set_cons_zero, List.set_cons_succ, ex_spl, ex_low, Option.toList, List.cons_append, List.nil_append, reduceIte, Int.reduceToNat, Nat.reduceDiv, Nat.reduceMod, Nat.reduceAdd, Nat.reduceMul, z_0, z_1, z_10, z_01, reduceCtorEq, ite_true, ite_false, true_and, and_true, ↓bI_01, ↓bP_01, ↓zret0, ↓zret1, z_add, z_sub, z_mul, up_1, up_2, not_true, not_false_iff, if_true, if_false, Bool.true_and, bI_T, bI_F, bP_T, bP_F, or_true, true_or, or_false, false_or, Int.reduceNeg, Int.reduceAdd, Int.reduceSub, Int.reduceMul, Int.reduceEq, Int.reduceLT, Int.reduceLE, Int.natCast_add, Int.cast_ofNat_Int]
/-! first -/
theorem q_lb_ex {x : Int32} (h : ¬ x = Int32.ofInt 0) : ∃ m : Nat, m < 32 ∧ (∀ i : Int, 0 ≤ i → i < (m : Int) → ¬ q_bt x i) ∧ q_bt x m := by
  obtain ⟨m, h1, h2, h3⟩ := ex_fst (fun n => q_bt x n) 32
  by_cases hm : m < 32
  · exact ⟨m, hm, fun i i0 i1 => by have := h2 i.toNat (by omega); rwa [Int.toNat_of_nonneg i0] at this, h3 hm⟩
  · exfalso
    exact h (m_eq0.2 fun i i0 i1 => by have := h2 i.toNat (by omega); rwa [Int.toNat_of_nonneg i0] at this)
theorem m_leastBit {d : Nat} {w : PW} {x : Int32} {m : Nat} (h1 : m < 32) (h2 : ∀ i : Int, 0 ≤ i → i < (m : Int) → ¬ q_bt x i) (h3 : q_bt x m) : ex_cal (d + 1) 85 [.int x] w = some (some (.int (Int32.ofInt (m : Int))), w) := by
  rw [ke_85]
  simp (disch := omega) only [ev_iload, rx_istore, ev_iinc, ev_push, ev_iand, ev_ishr, ev_goto, ev_jsr, rx_ige_t, rx_ige_f, rx_zeq_t, rx_zeq_f, nr_i, nr_r, nr_l, nr_n, rx_iret, kb_85_0, kb_85_18, kb_85_24, kr_85, List.getD_cons_zero, List.getD_cons_succ, List.set_cons_zero, List.set_cons_succ, ex_spl, ex_low, Option.toList, List.cons_append, List.nil_append, reduceIte, Int.reduceToNat, Nat.reduceDiv, Nat.reduceMod, Nat.reduceAdd, Nat.reduceMul, z_0, z_1, z_10, z_01, reduceCtorEq, ite_true, ite_false, true_and, and_true, ↓bI_01, ↓bP_01, ↓zret0, ↓zret1, z_add, z_sub, z_mul, up_1, up_2, not_true, not_false_iff, if_true, if_false, Bool.true_and, bI_T, bI_F, bP_T, bP_F, or_true, true_or, or_false, false_or, Int.reduceNeg, Int.reduceAdd, Int.reduceSub, Int.reduceMul, Int.reduceEq, Int.reduceLT, Int.reduceLE, Int.natCast_add, Int.cast_ofNat_Int]
  have key := ex_iter (d := d) (cal := ex_cal d) (y := 85) (fun i => (ex_blk 85 2, [.int x, .int (Int32.ofInt (i : Int))], [], w)) (Nat.zero_le m) (fun i _ hi => by
    (try dsimp only)
    have hb : (x >>> (Int32.ofInt (i : Int) &&& 31)) &&& Int32.ofInt 1 = Int32.ofInt 0 := Classical.not_not.1 (h2 i (by omega) (by omega))
    conv => lhs; rw [kb_85_2]
    simp (disch := omega) only [hb, ev_iload, rx_istore, ev_iinc, ev_push, ev_iand, ev_ishr, ev_goto, ev_jsr, rx_ige_t, rx_ige_f, rx_zeq_t, rx_zeq_f, nr_i, nr_r, nr_l, nr_n, rx_iret, kb_85_0, kb_85_18, kb_85_24, kr_85, List.getD_cons_zero, List.getD_cons_succ, List.set_cons_zero, List.set_cons_succ, ex_spl, ex_low, Option.toList, List.cons_append, List.nil_append, reduceIte, Int.reduceToNat, Nat.reduceDiv, Nat.reduceMod, Nat.reduceAdd, Nat.reduceMul, z_0, z_1, z_10, z_01, reduceCtorEq, ite_true, ite_false, true_and, and_true, ↓bI_01, ↓bP_01, ↓zret0, ↓zret1, z_add, z_sub, z_mul, up_1, up_2, not_true, not_false_iff, if_true, if_false, Bool.true_and, bI_T, bI_F, bP_T, bP_F, or_true, true_or, or_false, false_or, Int.reduceNeg, Int.reduceAdd, Int.reduceSub, Int.reduceMul, Int.reduceEq, Int.reduceLT, Int.reduceLE, Int.natCast_add, Int.cast_ofNat_Int])
  refine key.trans ?_
  (try dsimp only)
  rw [kb_85_2]
  simp (disch := omega) only [rx_xeq_f h3, ev_iload, rx_istore, ev_iinc, ev_push, ev_iand, ev_ishr, ev_goto, ev_jsr, rx_ige_t, rx_ige_f, rx_zeq_t, rx_zeq_f, nr_i, nr_r, nr_l, nr_n, rx_iret, kb_85_0, kb_85_18, kb_85_24, kr_85, List.getD_cons_zero, List.getD_cons_succ, List.set_cons_zero, List.set_cons_succ, ex_spl, ex_low, Option.toList, List.cons_append, List.nil_append, reduceIte, Int.reduceToNat, Nat.reduceDiv, Nat.reduceMod, Nat.reduceAdd, Nat.reduceMul, z_0, z_1, z_10, z_01, reduceCtorEq, ite_true, ite_false, true_and, and_true, ↓bI_01, ↓bP_01, ↓zret0, ↓zret1, z_add, z_sub, z_mul, up_1, up_2, not_true, not_false_iff, if_true, if_false, Bool.true_and, bI_T, bI_F, bP_T, bP_F, or_true, true_or, or_false, false_or, Int.reduceNeg, Int.reduceAdd, Int.reduceSub, Int.reduceMul, Int.reduceEq, Int.reduceLT, Int.reduceLE, Int.natCast_add, Int.cast_ofNat_Int]
/-- the first against a law among the first n -/
def q_fi (A : AS) (best n : Int) : Prop := (best = -1 ∧ ∀ e, 0 ≤ e → e < n → q_eb A 0 e = Int32.ofInt 0) ∨ (0 ≤ best ∧ best < n ∧ ¬ q_eb A 0 best = Int32.ofInt 0 ∧ ∀ e, 0 ≤ e → e < n → ¬ q_eb A 0 e = Int32.ofInt 0 → A 4 (5 * best) < A 4 (5 * e) ∨ (A 4 (5 * best) = A 4 (5 * e) ∧ best ≤ e))
theorem q_fi_u {A : AS} {n x y : Int} (hx : q_fi A x n) (hy : q_fi A y n) : x = y := by
  rcases hx with ⟨a, b⟩ | ⟨a, b, c, e⟩ <;> rcases hy with ⟨a2, b2⟩ | ⟨a2, b2, c2, e2⟩
  · omega
  · exact absurd (b y a2 b2) c2
  · exact absurd (b2 x a b) c
  · have := e y a2 b2 c2; have := e2 x a b c; omega
theorem q_fi_stay {A : AS} {n best : Int} (h : q_fi A best n) (hn : 0 ≤ n) (hs : ¬ q_eb A 0 n = Int32.ofInt 0 → 0 ≤ best ∧ A 4 (5 * best) ≤ A 4 (5 * n)) : q_fi A best (n + 1) := by
  rcases h with ⟨a, b⟩ | ⟨a, b, c, e⟩
  · refine Or.inl ⟨a, fun e e0 e1 => ?_⟩
    by_cases he : e = n
    · refine Classical.byContradiction fun hh => ?_
      rw [he] at hh; have := hs hh; omega
    · exact b e e0 (by omega)
  · refine Or.inr ⟨a, by omega, c, fun e' e0 e1 e2 => ?_⟩
    by_cases he : e' = n
    · rw [he] at e2 ⊢; have := hs e2; omega
    · exact e e' e0 (by omega) e2
theorem q_fi_take {A : AS} {n best : Int} (h : q_fi A best n) (hn : 0 ≤ n) (h1 : ¬ q_eb A 0 n = Int32.ofInt 0) (h2 : best = -1 ∨ A 4 (5 * n) < A 4 (5 * best)) : q_fi A n (n + 1) := by
  refine Or.inr ⟨hn, by omega, h1, fun e e0 e1 e2 => ?_⟩
  by_cases he : e = n
  · rw [he]; right; omega
  · rcases h with ⟨a, b⟩ | ⟨a, b, c, e'⟩
    · exact absurd (b e e0 (by omega)) e2
    · have := e' e e0 (by omega) e2; omega
theorem q_fi_r {A : AS} {n best : Int} (h : q_fi A best n) : -1 ≤ best ∧ (best < n ∨ best = -1) := by
  rcases h with ⟨a, b⟩ | ⟨a, b, c, e⟩ <;> omega
theorem q_fi_ex (A : AS) : ∀ n : Nat, ∃ best, q_fi A best n := by
  intro n
  induction n with
  | zero => exact ⟨-1, Or.inl ⟨rfl, fun e h0 h1 => absurd h1 (by omega)⟩⟩
  | succ n ih =>
    obtain ⟨best, h⟩ := ih
    by_cases h1 : q_eb A 0 n = Int32.ofInt 0
    · exact ⟨best, q_fi_stay h (by omega) (fun hh => absurd h1 hh)⟩
    · by_cases h2 : best = -1 ∨ A 4 (5 * n) < A 4 (5 * best)
      · exact ⟨n, q_fi_take h (by omega) h1 h2⟩
      · have := q_fi_r h
        exact ⟨best, q_fi_stay h (by omega) (fun _ => by omega)⟩
theorem m_firstAgainst {d : Nat} {A : AS} {w : PW} (hV : q_v0 A) (hC : rC A w) {best : Int} (hb : q_fi A best (A 0 4)) : ex_cal (d + 6) 88 [.ref 0] w = some (some (.int (Int32.ofInt best)), w) := by
  have hr := q_rng hV
  obtain ⟨-, -, -, -, -, -, ht23, -⟩ := id hC
  have hsz : w.1 23 2 = Int32.ofInt (A 0 4) := ht23.2.1
  rw [ke_88 kc_0]
  simp (disch := omega) only [ev_iload, ev_aload, rx_istore, ev_iinc, ev_push, ev_goto, ev_jsr, rx_ige_t, rx_ige_f, rx_zeq_t, rx_zeq_f, ev_getf, ev_callv, nr_i, nr_r, nr_l, nr_n, rx_iret, kb_88_0, kb_88_55, kb_88_61, kr_88, kf_20_1, kf_29_1, kf_0_645, List.getD_cons_zero, List.getD_cons_succ, List.set_cons_zero, List.set_cons_succ, ex_spl, ex_low, Option.toList, List.cons_append, List.nil_append, reduceIte, Int.reduceToNat, Nat.reduceDiv, Nat.reduceMod, Nat.reduceAdd, Nat.reduceMul, z_0, z_1, z_10, z_01, reduceCtorEq, ite_true, ite_false, true_and, and_true, ↓bI_01, ↓bP_01, ↓zret0, ↓zret1, z_add, z_sub, z_mul, up_1, up_2, not_true, not_false_iff, if_true, if_false, Bool.true_and, bI_T, bI_F, bP_T, bP_F, or_true, true_or, or_false, false_or, Int.reduceNeg, Int.reduceAdd, Int.reduceSub, Int.reduceMul, Int.reduceEq, Int.reduceLT, Int.reduceLE, Int.natCast_add, Int.cast_ofNat_Int]
  refine ex_loop (Q := fun r => r = some (some (.int (Int32.ofInt best)), w)) (fun i s => ∃ x least v4, s = (ex_blk 88 7, [.ref 0, .int (Int32.ofInt x), .int (Int32.ofInt least), .int (Int32.ofInt (i : Int)), v4], [], w) ∧ xv v4 ∧ q_fi A x i ∧ ((x = -1 ∧ least = 24) ∨ (0 ≤ x ∧ least = A 4 (5 * x)))) (A 0 4).toNat ?_ ?_ ?_
  · exact ⟨-1, 24, .null, rfl, xv_n, Or.inl ⟨rfl, fun e h0 h1 => absurd h1 (by omega)⟩, Or.inl ⟨rfl, rfl⟩⟩
  · rintro i s hi ⟨x, least, v4, rfl, x4, hfi, hl⟩
    right
    have he := hV.2.2.2.2.1.2.2 i (by omega) (by omega)
    have hxr := q_fi_r hfi
    have hle : 0 ≤ least ∧ least ≤ 24 := by
      rcases hl with ⟨a, b⟩ | ⟨a, b⟩
      · omega
      · have := hV.2.2.2.2.1.2.2 x (by omega) (by omega); omega
    by_cases hlt : A 4 (5 * i) < least
    · by_cases hv : q_eb A 0 i = Int32.ofInt 0
      · refine ⟨(ex_blk 88 7, [.ref 0, .int (Int32.ofInt x), .int (Int32.ofInt least), .int (Int32.ofInt ((i : Int) + 1)), .int (Int32.ofInt (A 4 (5 * i)))], [], w), ?_, x, least, _, rfl, xv_i _, q_fi_stay hfi (by omega) (fun hh => absurd hv hh), hl⟩
        conv => lhs; rw [kb_88_7]
        simp (disch := omega) only [m_tsize tb_23, hsz, m_tget tb_23 ht23, m_eb hV hC, hv, x4, Int.add_zero, ev_iload, ev_aload, rx_istore, ev_iinc, ev_push, ev_goto, ev_jsr, rx_ige_t, rx_ige_f, rx_zeq_t, rx_zeq_f, ev_getf, ev_callv, nr_i, nr_r, nr_l, nr_n, rx_iret, kb_88_0, kb_88_55, kb_88_61, kr_88, kf_20_1, kf_29_1, kf_0_645, List.getD_cons_zero, List.getD_cons_succ, List.set_cons_zero, List.set_cons_succ, ex_spl, ex_low, Option.toList, List.cons_append, List.nil_append, reduceIte, Int.reduceToNat, Nat.reduceDiv, Nat.reduceMod, Nat.reduceAdd, Nat.reduceMul, z_0, z_1, z_10, z_01, reduceCtorEq, ite_true, ite_false, true_and, and_true, ↓bI_01, ↓bP_01, ↓zret0, ↓zret1, z_add, z_sub, z_mul, up_1, up_2, not_true, not_false_iff, if_true, if_false, Bool.true_and, bI_T, bI_F, bP_T, bP_F, or_true, true_or, or_false, false_or, Int.reduceNeg, Int.reduceAdd, Int.reduceSub, Int.reduceMul, Int.reduceEq, Int.reduceLT, Int.reduceLE, Int.natCast_add, Int.cast_ofNat_Int]
      · refine ⟨(ex_blk 88 7, [.ref 0, .int (Int32.ofInt (i : Int)), .int (Int32.ofInt (A 4 (5 * i))), .int (Int32.ofInt ((i : Int) + 1)), .int (Int32.ofInt (A 4 (5 * i)))], [], w), ?_, i, A 4 (5 * i), _, rfl, xv_i _, q_fi_take hfi (by omega) hv (by omega), Or.inr ⟨by omega, rfl⟩⟩
        conv => lhs; rw [kb_88_7]
        simp (disch := omega) only [m_tsize tb_23, hsz, m_tget tb_23 ht23, m_eb hV hC, rx_xeq_f hv, x4, Int.add_zero, ev_iload, ev_aload, rx_istore, ev_iinc, ev_push, ev_goto, ev_jsr, rx_ige_t, rx_ige_f, rx_zeq_t, rx_zeq_f, ev_getf, ev_callv, nr_i, nr_r, nr_l, nr_n, rx_iret, kb_88_0, kb_88_55, kb_88_61, kr_88, kf_20_1, kf_29_1, kf_0_645, List.getD_cons_zero, List.getD_cons_succ, List.set_cons_zero, List.set_cons_succ, ex_spl, ex_low, Option.toList, List.cons_append, List.nil_append, reduceIte, Int.reduceToNat, Nat.reduceDiv, Nat.reduceMod, Nat.reduceAdd, Nat.reduceMul, z_0, z_1, z_10, z_01, reduceCtorEq, ite_true, ite_false, true_and, and_true, ↓bI_01, ↓bP_01, ↓zret0, ↓zret1, z_add, z_sub, z_mul, up_1, up_2, not_true, not_false_iff, if_true, if_false, Bool.true_and, bI_T, bI_F, bP_T, bP_F, or_true, true_or, or_false, false_or, Int.reduceNeg, Int.reduceAdd, Int.reduceSub, Int.reduceMul, Int.reduceEq, Int.reduceLT, Int.reduceLE, Int.natCast_add, Int.cast_ofNat_Int]
    · refine ⟨(ex_blk 88 7, [.ref 0, .int (Int32.ofInt x), .int (Int32.ofInt least), .int (Int32.ofInt ((i : Int) + 1)), .int (Int32.ofInt (A 4 (5 * i)))], [], w), ?_, x, least, _, rfl, xv_i _, q_fi_stay hfi (by omega) (fun hh => by omega), hl⟩
      conv => lhs; rw [kb_88_7]
      simp (disch := omega) only [m_tsize tb_23, hsz, m_tget tb_23 ht23, x4, Int.add_zero, ev_iload, ev_aload, rx_istore, ev_iinc, ev_push, ev_goto, ev_jsr, rx_ige_t, rx_ige_f, rx_zeq_t, rx_zeq_f, ev_getf, ev_callv, nr_i, nr_r, nr_l, nr_n, rx_iret, kb_88_0, kb_88_55, kb_88_61, kr_88, kf_20_1, kf_29_1, kf_0_645, List.getD_cons_zero, List.getD_cons_succ, List.set_cons_zero, List.set_cons_succ, ex_spl, ex_low, Option.toList, List.cons_append, List.nil_append, reduceIte, Int.reduceToNat, Nat.reduceDiv, Nat.reduceMod, Nat.reduceAdd, Nat.reduceMul, z_0, z_1, z_10, z_01, reduceCtorEq, ite_true, ite_false, true_and, and_true, ↓bI_01, ↓bP_01, ↓zret0, ↓zret1, z_add, z_sub, z_mul, up_1, up_2, not_true, not_false_iff, if_true, if_false, Bool.true_and, bI_T, bI_F, bP_T, bP_F, or_true, true_or, or_false, false_or, Int.reduceNeg, Int.reduceAdd, Int.reduceSub, Int.reduceMul, Int.reduceEq, Int.reduceLT, Int.reduceLE, Int.natCast_add, Int.cast_ofNat_Int]
  · rintro s ⟨x, least, v4, rfl, x4, hfi, hl⟩
    rw [Int.toNat_of_nonneg (by omega)] at hfi
    rw [q_fi_u hb hfi, kb_88_7]
    simp (disch := omega) only [m_tsize tb_23, hsz, ev_iload, ev_aload, rx_istore, ev_iinc, ev_push, ev_goto, ev_jsr, rx_ige_t, rx_ige_f, rx_zeq_t, rx_zeq_f, ev_getf, ev_callv, nr_i, nr_r, nr_l, nr_n, rx_iret, kb_88_0, kb_88_55, kb_88_61, kr_88, kf_20_1, kf_29_1, kf_0_645, List.getD_cons_zero, List.getD_cons_succ, List.set_cons_zero, List.set_cons_succ, ex_spl, ex_low, Option.toList, List.cons_append, List.nil_append, reduceIte, Int.reduceToNat, Nat.reduceDiv, Nat.reduceMod, Nat.reduceAdd, Nat.reduceMul, z_0, z_1, z_10, z_01, reduceCtorEq, ite_true, ite_false, true_and, and_true, ↓bI_01, ↓bP_01, ↓zret0, ↓zret1, z_add, z_sub, z_mul, up_1, up_2, not_true, not_false_iff, if_true, if_false, Bool.true_and, bI_T, bI_F, bP_T, bP_F, or_true, true_or, or_false, false_or, Int.reduceNeg, Int.reduceAdd, Int.reduceSub, Int.reduceMul, Int.reduceEq, Int.reduceLT, Int.reduceLE, Int.natCast_add, Int.cast_ofNat_Int]
