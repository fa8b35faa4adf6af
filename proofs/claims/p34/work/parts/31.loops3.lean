/-! map -/
noncomputable def q_mw (A : AS) (a h p c : Int) : Nat → Int
  | 0 => 0
  | n + 1 => q_mw A a h p c n + q_if (q_br A 0 a h p c n = Int32.ofInt 0) 0 1
theorem q_mw_t {A : AS} {a h p c : Int} {n : Nat} (hx : q_br A 0 a h p c n = Int32.ofInt 0) : q_mw A a h p c (n + 1) = q_mw A a h p c n := by
  show q_mw A a h p c n + q_if _ _ _ = _
  rw [q_if_t hx]; omega
theorem q_mw_f {A : AS} {a h p c : Int} {n : Nat} (hx : ¬ q_br A 0 a h p c n = Int32.ofInt 0) : q_mw A a h p c (n + 1) = q_mw A a h p c n + 1 := by
  show q_mw A a h p c n + q_if _ _ _ = _
  rw [q_if_f hx]
theorem q_mw_r (A : AS) (a h p c : Int) (n : Nat) : 0 ≤ q_mw A a h p c n ∧ q_mw A a h p c n ≤ n := by
  induction n with
  | zero => exact ⟨Int.le_refl _, Int.le_refl _⟩
  | succ n ih =>
    by_cases hx : q_br A 0 a h p c n = Int32.ofInt 0
    · rw [q_mw_t hx]; omega
    · rw [q_mw_f hx]; omega
noncomputable def q_mk1 (A : AS) (a h p c : Int) : Int := if q_mw A a h p c 4 = 0 then 0 else if q_mw A a h p c 4 = 4 then 2 else 1
noncomputable def q_map (A : AS) (a h p k : Int) : Nat → Int
  | 0 => 0
  | n + 1 => q_map A a h p k n + q_if (¬ A 1 n = 1 ∧ q_mk1 A a h p n = k) 1 0
theorem q_map_t {A : AS} {a h p k : Int} {n : Nat} (h1 : ¬ A 1 n = 1) (h2 : q_mk1 A a h p n = k) : q_map A a h p k (n + 1) = q_map A a h p k n + 1 := by
  show q_map A a h p k n + q_if _ _ _ = _
  rw [q_if_t ⟨h1, h2⟩]
theorem q_map_f {A : AS} {a h p k : Int} {n : Nat} (hx : ¬ (¬ A 1 n = 1 ∧ q_mk1 A a h p n = k)) : q_map A a h p k (n + 1) = q_map A a h p k n := by
  show q_map A a h p k n + q_if _ _ _ = _
  rw [q_if_f hx]; omega
theorem m_mapOf {d : Nat} {A : AS} {w : PW} (hV : q_v0 A) (hC : rC A w) {a h p c : Int} (a0 : 0 ≤ a) (a1 : a < 6) (h0 : 0 ≤ h) (h1 : h < 24) (p0 : 0 ≤ p) (p1 : p < 3) (c0 : 0 ≤ c) (c1 : c < A 0 15) : ex_cal (d + 5) 89 [.ref 0, .int (Int32.ofInt a), .int (Int32.ofInt h), .int (Int32.ofInt p), .int (Int32.ofInt c)] w = some (some (.int (Int32.ofInt (q_mk1 A a h p c))), w) := by
  rw [ke_89 kc_0]
  simp (disch := omega) only [ev_iload, ev_aload, rx_istore, ev_iinc, ev_push, ev_iadd, ev_imul, ev_goto, ev_jsr, rx_ige_t, rx_ige_f, rx_zeq_t, rx_zeq_f, rx_zne_t, rx_zne_f, ev_getf, ev_callv, nr_i, nr_r, nr_l, nr_n, rx_iret, kb_89_0, kb_89_40, kb_89_46, kb_89_53, kb_89_63, kb_89_64, kr_89, kf_0_643, kf_0_644, List.getD_cons_zero, List.getD_cons_succ, List.set_cons_zero, List.set_cons_succ, ex_spl, ex_low, Option.toList, List.cons_append, List.nil_append, reduceIte, Int.reduceToNat, Nat.reduceDiv, Nat.reduceMod, Nat.reduceAdd, Nat.reduceMul, z_0, z_1, z_10, z_01, reduceCtorEq, ite_true, ite_false, true_and, and_true, ↓bI_01, ↓bP_01, ↓zret0, ↓zret1, z_add, z_sub, z_mul, up_1, up_2, not_true, not_false_iff, if_true, if_false, Bool.true_and, bI_T, bI_F, bP_T, bP_F, or_true, true_or, or_false, false_or, Int.reduceNeg, Int.reduceAdd, Int.reduceSub, Int.reduceMul, Int.reduceEq, Int.reduceLT, Int.reduceLE, Int.natCast_add, Int.cast_ofNat_Int]
  have key := ex_iter (d := d + 4) (cal := ex_cal (d + 4)) (y := 89) (fun i => (ex_blk 89 6, [.ref 0, .int (Int32.ofInt a), .int (Int32.ofInt h), .int (Int32.ofInt p), .int (Int32.ofInt c), .int (Int32.ofInt (q_mw A a h p c i)), .int (Int32.ofInt (i : Int))], [], w)) (Nat.zero_le 4) (fun i _ hi => by
    (try dsimp only)
    conv => lhs; rw [kb_89_6]
    by_cases hv : q_br A 0 a h p c i = Int32.ofInt 0
    · rw [q_mw_t hv]
      simp (disch := omega) only [m_broken hV hC, hv, ev_iload, ev_aload, rx_istore, ev_iinc, ev_push, ev_iadd, ev_imul, ev_goto, ev_jsr, rx_ige_t, rx_ige_f, rx_zeq_t, rx_zeq_f, rx_zne_t, rx_zne_f, ev_getf, ev_callv, nr_i, nr_r, nr_l, nr_n, rx_iret, kb_89_0, kb_89_40, kb_89_46, kb_89_53, kb_89_63, kb_89_64, kr_89, kf_0_643, kf_0_644, List.getD_cons_zero, List.getD_cons_succ, List.set_cons_zero, List.set_cons_succ, ex_spl, ex_low, Option.toList, List.cons_append, List.nil_append, reduceIte, Int.reduceToNat, Nat.reduceDiv, Nat.reduceMod, Nat.reduceAdd, Nat.reduceMul, z_0, z_1, z_10, z_01, reduceCtorEq, ite_true, ite_false, true_and, and_true, ↓bI_01, ↓bP_01, ↓zret0, ↓zret1, z_add, z_sub, z_mul, up_1, up_2, not_true, not_false_iff, if_true, if_false, Bool.true_and, bI_T, bI_F, bP_T, bP_F, or_true, true_or, or_false, false_or, Int.reduceNeg, Int.reduceAdd, Int.reduceSub, Int.reduceMul, Int.reduceEq, Int.reduceLT, Int.reduceLE, Int.natCast_add, Int.cast_ofNat_Int]
    · rw [q_mw_f hv]
      simp (disch := omega) only [m_broken hV hC, rx_xeq_f hv, ev_iload, ev_aload, rx_istore, ev_iinc, ev_push, ev_iadd, ev_imul, ev_goto, ev_jsr, rx_ige_t, rx_ige_f, rx_zeq_t, rx_zeq_f, rx_zne_t, rx_zne_f, ev_getf, ev_callv, nr_i, nr_r, nr_l, nr_n, rx_iret, kb_89_0, kb_89_40, kb_89_46, kb_89_53, kb_89_63, kb_89_64, kr_89, kf_0_643, kf_0_644, List.getD_cons_zero, List.getD_cons_succ, List.set_cons_zero, List.set_cons_succ, ex_spl, ex_low, Option.toList, List.cons_append, List.nil_append, reduceIte, Int.reduceToNat, Nat.reduceDiv, Nat.reduceMod, Nat.reduceAdd, Nat.reduceMul, z_0, z_1, z_10, z_01, reduceCtorEq, ite_true, ite_false, true_and, and_true, ↓bI_01, ↓bP_01, ↓zret0, ↓zret1, z_add, z_sub, z_mul, up_1, up_2, not_true, not_false_iff, if_true, if_false, Bool.true_and, bI_T, bI_F, bP_T, bP_F, or_true, true_or, or_false, false_or, Int.reduceNeg, Int.reduceAdd, Int.reduceSub, Int.reduceMul, Int.reduceEq, Int.reduceLT, Int.reduceLE, Int.natCast_add, Int.cast_ofNat_Int])
  refine key.trans ?_
  (try dsimp only)
  have hm := q_mw_r A a h p c 4
  rw [kb_89_6]
  unfold q_mk1
  by_cases e0 : q_mw A a h p c 4 = 0
  · rw [if_pos e0]
    simp (disch := omega) only [ev_iload, ev_aload, rx_istore, ev_iinc, ev_push, ev_iadd, ev_imul, ev_goto, ev_jsr, rx_ige_t, rx_ige_f, rx_zeq_t, rx_zeq_f, rx_zne_t, rx_zne_f, ev_getf, ev_callv, nr_i, nr_r, nr_l, nr_n, rx_iret, kb_89_0, kb_89_40, kb_89_46, kb_89_53, kb_89_63, kb_89_64, kr_89, kf_0_643, kf_0_644, List.getD_cons_zero, List.getD_cons_succ, List.set_cons_zero, List.set_cons_succ, ex_spl, ex_low, Option.toList, List.cons_append, List.nil_append, reduceIte, Int.reduceToNat, Nat.reduceDiv, Nat.reduceMod, Nat.reduceAdd, Nat.reduceMul, z_0, z_1, z_10, z_01, reduceCtorEq, ite_true, ite_false, true_and, and_true, ↓bI_01, ↓bP_01, ↓zret0, ↓zret1, z_add, z_sub, z_mul, up_1, up_2, not_true, not_false_iff, if_true, if_false, Bool.true_and, bI_T, bI_F, bP_T, bP_F, or_true, true_or, or_false, false_or, Int.reduceNeg, Int.reduceAdd, Int.reduceSub, Int.reduceMul, Int.reduceEq, Int.reduceLT, Int.reduceLE, Int.natCast_add, Int.cast_ofNat_Int]
  · rw [if_neg e0]
    by_cases e1 : q_mw A a h p c 4 = 4
    · rw [if_pos e1]
      simp (disch := omega) only [ev_iload, ev_aload, rx_istore, ev_iinc, ev_push, ev_iadd, ev_imul, ev_goto, ev_jsr, rx_ige_t, rx_ige_f, rx_zeq_t, rx_zeq_f, rx_zne_t, rx_zne_f, ev_getf, ev_callv, nr_i, nr_r, nr_l, nr_n, rx_iret, kb_89_0, kb_89_40, kb_89_46, kb_89_53, kb_89_63, kb_89_64, kr_89, kf_0_643, kf_0_644, List.getD_cons_zero, List.getD_cons_succ, List.set_cons_zero, List.set_cons_succ, ex_spl, ex_low, Option.toList, List.cons_append, List.nil_append, reduceIte, Int.reduceToNat, Nat.reduceDiv, Nat.reduceMod, Nat.reduceAdd, Nat.reduceMul, z_0, z_1, z_10, z_01, reduceCtorEq, ite_true, ite_false, true_and, and_true, ↓bI_01, ↓bP_01, ↓zret0, ↓zret1, z_add, z_sub, z_mul, up_1, up_2, not_true, not_false_iff, if_true, if_false, Bool.true_and, bI_T, bI_F, bP_T, bP_F, or_true, true_or, or_false, false_or, Int.reduceNeg, Int.reduceAdd, Int.reduceSub, Int.reduceMul, Int.reduceEq, Int.reduceLT, Int.reduceLE, Int.natCast_add, Int.cast_ofNat_Int]
    · rw [if_neg e1]
      simp (disch := omega) only [ev_iload, ev_aload, rx_istore, ev_iinc, ev_push, ev_iadd, ev_imul, ev_goto, ev_jsr, rx_ige_t, rx_ige_f, rx_zeq_t, rx_zeq_f, rx_zne_t, rx_zne_f, ev_getf, ev_callv, nr_i, nr_r, nr_l, nr_n, rx_iret, kb_89_0, kb_89_40, kb_89_46, kb_89_53, kb_89_63, kb_89_64, kr_89, kf_0_643, kf_0_644, List.getD_cons_zero, List.getD_cons_succ, List.set_cons_zero, List.set_cons_succ, ex_spl, ex_low, Option.toList, List.cons_append, List.nil_append, reduceIte, Int.reduceToNat, Nat.reduceDiv, Nat.reduceMod, Nat.reduceAdd, Nat.reduceMul, z_0, z_1, z_10, z_01, reduceCtorEq, ite_true, ite_false, true_and, and_true, ↓bI_01, ↓bP_01, ↓zret0, ↓zret1, z_add, z_sub, z_mul, up_1, up_2, not_true, not_false_iff, if_true, if_false, Bool.true_and, bI_T, bI_F, bP_T, bP_F, or_true, true_or, or_false, false_or, Int.reduceNeg, Int.reduceAdd, Int.reduceSub, Int.reduceMul, Int.reduceEq, Int.reduceLT, Int.reduceLE, Int.natCast_add, Int.cast_ofNat_Int]
