theorem q_hh {A : AS} (h : q_vh A) : 0 < A 0 15 ↔ 0 < A 0 2 := by
  have hr := q_rnh h
  obtain ⟨h1, h2, h3, h4, h5, h6⟩ := h
  rcases h4 with ⟨a, b, c⟩ | ⟨a, b, c, d, e⟩
  · rw [h3, a, b, c]; omega
  · have : 2 * 2 ≤ A 0 0 * A 0 1 := Int.mul_le_mul a c (by omega) (by omega)
    omega
/-- what an event is against, the line drawn b further -/
noncomputable def q_eb (A : AS) (b e : Int) : Int32 := q_br A b (A 4 (5 * e + 1)) (A 4 (5 * e)) (A 4 (5 * e + 2)) (A 4 (5 * e + 3)) (A 4 (5 * e + 4))
theorem m_eb {d : Nat} {A : AS} {w : PW} (hV : q_v0 A) (hC : rC A w) {e b : Int} (e0 : 0 ≤ e) (e1 : e < A 0 4) (b0 : -3 ≤ b) (b1 : b ≤ 3) : ex_cal (d + 5) 87 [.ref 0, .int (Int32.ofInt e), .int (Int32.ofInt b)] w = some (some (.int (q_eb A b e)), w) := m_eventBroken hV hC e0 e1 b0 b1
/-! drawn -/
noncomputable def q_drn (A : AS) (b : Int) : Nat → Int32
  | 0 => Int32.ofInt 0
  | n + 1 => q_drn A b n ||| q_iw (¬ q_eb A b n = Int32.ofInt 0) (q_b n) (Int32.ofInt 0)
theorem q_drn_t {A : AS} {b : Int} {n : Nat} (h : ¬ q_eb A b n = Int32.ofInt 0) : q_drn A b (n + 1) = q_drn A b n ||| (Int32.ofInt 1 <<< (Int32.ofInt (n : Int) &&& 31)) := by
  show _ ||| q_iw _ _ _ = _
  rw [q_iw_t h]; rfl
theorem q_drn_f {A : AS} {b : Int} {n : Nat} (h : q_eb A b n = Int32.ofInt 0) : q_drn A b (n + 1) = q_drn A b n := by
  show _ ||| q_iw _ _ _ = _
  rw [q_iw_f (fun hh => hh h), m_or0]
theorem m_there2 {d : Nat} {A : AS} {w : PW} (hV : q_vh A) (hC : rC A w) : ex_cal (d + 1) 14 [.ref 5] w = some (some (.int (bI (0 < A 0 2))), w) := by
  rw [m_there hV hC.1.1, bI_congr (q_hh hV)]
/-! count -/
noncomputable def q_cnt (A : AS) (k : Int) : Int := if k = 0 then A 0 15 else if k = 1 then A 0 3 else if k = 2 then A 0 4 else if k = 3 then A 0 5 else if k = 4 then A 0 6 else if k = 5 then A 0 7 else if k = 6 then A 0 8 else if k = 7 then A 0 2 else if k = 8 then A 0 9 else -102
theorem m_psize {d : Nat} {A : AS} {w : PW} (hC : rC A w) : ex_cal (d + 1) 56 [.ref 1] w = some (some (.int (Int32.ofInt (A 0 8))), w) := by
  obtain ⟨⟨⟨⟨h511, h512, h513⟩, ⟨hk, hro, hco, hli⟩⟩, ⟨hbe, hah, hbs, hos⟩⟩, hdo, ⟨h010, h011, h09, h11⟩, hpc, ht18, ht21, ht23, ht25, ht27, ht30, ht32, ht34, ht36⟩ := id hC
  rw [ke_56 kc_1]
  simp (disch := omega) only [h11, ev_aload, ev_getf, nr_i, nr_r, nr_l, nr_n, rx_iret, kb_56_0, kr_56, kf_1_449, List.getD_cons_zero, List.getD_cons_succ, List.set_cons_zero, List.set_cons_succ, ex_spl, ex_low, Option.toList, List.cons_append, List.nil_append, reduceIte, Int.reduceToNat, Nat.reduceDiv, Nat.reduceMod, Nat.reduceAdd, Nat.reduceMul, z_0, z_1, z_10, z_01, reduceCtorEq, ite_true, ite_false, true_and, and_true, ↓bI_01, ↓bP_01, ↓zret0, ↓zret1, z_add, z_sub, z_mul, up_1, up_2, not_true, not_false_iff, if_true, if_false, Bool.true_and, bI_T, bI_F, bP_T, bP_F, or_true, true_or, or_false, false_or, Int.reduceNeg, Int.reduceAdd, Int.reduceSub, Int.reduceMul, Int.reduceEq, Int.reduceLT, Int.reduceLE, Int.natCast_add, Int.cast_ofNat_Int]
theorem m_count {d : Nat} {A : AS} {w : PW} (hV : q_v0 A) (hC : rC A w) {k : Int} (k0 : -2147483648 ≤ k) (k1 : k < 2147483648) : ex_cal (d + 3) 82 [.ref 0, .int (Int32.ofInt k)] w = some (some (.int (Int32.ofInt (q_cnt A k))), w) := by
  have hr := q_rng hV
  obtain ⟨⟨⟨⟨h511, h512, h513⟩, ⟨hk, hro, hco, hli⟩⟩, ⟨hbe, hah, hbs, hos⟩⟩, hdo, ⟨h010, h011, h09, h11⟩, hpc, ht18, ht21, ht23, ht25, ht27, ht30, ht32, ht34, ht36⟩ := id hC
  have s21 : w.1 21 2 = Int32.ofInt (A 0 5) := ht21.2.1
  have s23 : w.1 23 2 = Int32.ofInt (A 0 4) := ht23.2.1
  have s25 : w.1 25 2 = Int32.ofInt (A 0 6) := ht25.2.1
  have s27 : w.1 27 2 = Int32.ofInt (A 0 7) := ht27.2.1
  rw [ke_82 kc_0]
  unfold q_cnt
  by_cases hk : 0 ≤ k ∧ k ≤ 8
  · have hkk : k = 0 ∨ k = 1 ∨ k = 2 ∨ k = 3 ∨ k = 4 ∨ k = 5 ∨ k = 6 ∨ k = 7 ∨ k = 8 := by omega
    rcases hkk with e | e | e | e | e | e | e | e | e <;> subst e <;> simp only [reduceIte, Int.reduceEq] <;> simp (disch := omega) only [m_cells hC.1.1, m_lsize hC, m_tsize tb_21, m_tsize tb_23, m_tsize tb_25, m_tsize tb_27, s21, s23, s25, s27, m_psize hC, h010, h011, ev_iload, ev_aload, ev_push, ev_getf, ev_callv, nr_i, nr_r, nr_l, nr_n, rx_tsw, rx_tsd, ar_tl, Int.reduceSub, rx_iret, kb_82_0, kb_82_52, kb_82_60, kb_82_68, kb_82_79, kb_82_90, kb_82_101, kb_82_112, kb_82_120, kb_82_125, kb_82_130, kr_82, kf_20_0, kf_29_0, kf_20_1, kf_29_1, kf_20_2, kf_29_2, kf_20_3, kf_29_3, kf_0_640, kf_0_643, kf_0_644, kf_0_645, kf_0_650, kf_0_651, List.getD_cons_zero, List.getD_cons_succ, List.set_cons_zero, List.set_cons_succ, ex_spl, ex_low, Option.toList, List.cons_append, List.nil_append, reduceIte, Int.reduceToNat, Nat.reduceDiv, Nat.reduceMod, Nat.reduceAdd, Nat.reduceMul, z_0, z_1, z_10, z_01, reduceCtorEq, ite_true, ite_false, true_and, and_true, ↓bI_01, ↓bP_01, ↓zret0, ↓zret1, z_add, z_sub, z_mul, up_1, up_2, not_true, not_false_iff, if_true, if_false, Bool.true_and, bI_T, bI_F, bP_T, bP_F, or_true, true_or, or_false, false_or, Int.reduceNeg, Int.reduceAdd, Int.reduceSub, Int.reduceMul, Int.reduceEq, Int.reduceLT, Int.reduceLE, Int.natCast_add, Int.cast_ofNat_Int]
  · repeat rw [if_neg (by omega)]
    simp (disch := omega) only [ev_iload, ev_aload, ev_push, ev_getf, ev_callv, nr_i, nr_r, nr_l, nr_n, rx_tsw, rx_tsd, ar_tl, Int.reduceSub, rx_iret, kb_82_0, kb_82_52, kb_82_60, kb_82_68, kb_82_79, kb_82_90, kb_82_101, kb_82_112, kb_82_120, kb_82_125, kb_82_130, kr_82, kf_20_0, kf_29_0, kf_20_1, kf_29_1, kf_20_2, kf_29_2, kf_20_3, kf_29_3, kf_0_640, kf_0_643, kf_0_644, kf_0_645, kf_0_650, kf_0_651, List.getD_cons_zero, List.getD_cons_succ, List.set_cons_zero, List.set_cons_succ, ex_spl, ex_low, Option.toList, List.cons_append, List.nil_append, reduceIte, Int.reduceToNat, Nat.reduceDiv, Nat.reduceMod, Nat.reduceAdd, Nat.reduceMul, z_0, z_1, z_10, z_01, reduceCtorEq, ite_true, ite_false, true_and, and_true, ↓bI_01, ↓bP_01, ↓zret0, ↓zret1, z_add, z_sub, z_mul, up_1, up_2, not_true, not_false_iff, if_true, if_false, Bool.true_and, bI_T, bI_F, bP_T, bP_F, or_true, true_or, or_false, false_or, Int.reduceNeg, Int.reduceAdd, Int.reduceSub, Int.reduceMul, Int.reduceEq, Int.reduceLT, Int.reduceLE, Int.natCast_add, Int.cast_ofNat_Int]
