/-! the class: laws and things asked -/
theorem m_holds {d : Nat} {A : AS} {w : PW} (hV : q_v0 A) (hC : rC A w) {l h : Int} (l0 : 0 ≤ l) (l1 : l < A 0 3) (h0 : 0 ≤ h) (h1 : h < 24) : ex_cal (d + 3) 69 [.ref 17, .int (Int32.ofInt l), .int (Int32.ofInt h)] w = some (some (.int (bP (q_hl A l h))), w) := by
  have hr := q_rng hV
  have hl := hV.2.1.2.2 l l0 l1
  obtain ⟨⟨⟨⟨h511, h512, h513⟩, ⟨hk, hro, hco, hli⟩⟩, ⟨hbe, hah, hbs, hos⟩⟩, hdo, ⟨h010, h011, h09, h11⟩, hpc, ht18, ht21, ht23, ht25, ht27, ht30, ht32, ht34, ht36⟩ := id hC
  rw [ke_69 kc_17]
  unfold q_hl
  generalize hf : A 3 (5 * l + 2) = f at *
  generalize ht : A 3 (5 * l + 3) = t at *
  by_cases c1 : f < t
  · rw [if_neg (by omega), if_pos c1]
    by_cases c2 : f ≤ h ∧ h < t
    · rw [bP_t c2]
      simp (disch := omega) only [m_tget tb_18 ht18, hf, ht, ev_iload, ev_aload, rx_istore, ev_push, ev_goto, ev_jsr, ev_icmp_eq, ev_icmp_lt, ev_icmp_ge, ev_getf, ev_callv, nr_i, nr_r, nr_l, nr_n, rx_zret, kb_69_0, kb_69_42, kb_69_43, kb_69_44, kb_69_61, kb_69_65, kb_69_66, kr_69, kf_17_320, List.getD_cons_zero, List.getD_cons_succ, List.set_cons_zero, List.set_cons_succ, ex_spl, ex_low, Option.toList, List.cons_append, List.nil_append, if_pos, reduceIte, Int.reduceToNat, Nat.reduceDiv, Nat.reduceMod, Nat.reduceAdd, Nat.reduceMul, z_0, z_1, z_10, z_01, reduceCtorEq, ite_true, ite_false, true_and, and_true, bI_z, bI_n, ↓bI_01, ↓zret0, ↓zret1, z_add, z_sub, z_mul, up_1, up_2, not_true, not_false_iff, if_true, if_false, if_neg, z_lt, z_le, z_eq]
    · rw [bP_f c2]
      by_cases c3 : h < f
      · simp (disch := omega) only [m_tget tb_18 ht18, hf, ht, ev_iload, ev_aload, rx_istore, ev_push, ev_goto, ev_jsr, ev_icmp_eq, ev_icmp_lt, ev_icmp_ge, ev_getf, ev_callv, nr_i, nr_r, nr_l, nr_n, rx_zret, kb_69_0, kb_69_42, kb_69_43, kb_69_44, kb_69_61, kb_69_65, kb_69_66, kr_69, kf_17_320, List.getD_cons_zero, List.getD_cons_succ, List.set_cons_zero, List.set_cons_succ, ex_spl, ex_low, Option.toList, List.cons_append, List.nil_append, if_pos, reduceIte, Int.reduceToNat, Nat.reduceDiv, Nat.reduceMod, Nat.reduceAdd, Nat.reduceMul, z_0, z_1, z_10, z_01, reduceCtorEq, ite_true, ite_false, true_and, and_true, bI_z, bI_n, ↓bI_01, ↓zret0, ↓zret1, z_add, z_sub, z_mul, up_1, up_2, not_true, not_false_iff, if_true, if_false, if_neg, z_lt, z_le, z_eq]
      · simp (disch := omega) only [m_tget tb_18 ht18, hf, ht, ev_iload, ev_aload, rx_istore, ev_push, ev_goto, ev_jsr, ev_icmp_eq, ev_icmp_lt, ev_icmp_ge, ev_getf, ev_callv, nr_i, nr_r, nr_l, nr_n, rx_zret, kb_69_0, kb_69_42, kb_69_43, kb_69_44, kb_69_61, kb_69_65, kb_69_66, kr_69, kf_17_320, List.getD_cons_zero, List.getD_cons_succ, List.set_cons_zero, List.set_cons_succ, ex_spl, ex_low, Option.toList, List.cons_append, List.nil_append, if_pos, reduceIte, Int.reduceToNat, Nat.reduceDiv, Nat.reduceMod, Nat.reduceAdd, Nat.reduceMul, z_0, z_1, z_10, z_01, reduceCtorEq, ite_true, ite_false, true_and, and_true, bI_z, bI_n, ↓bI_01, ↓zret0, ↓zret1, z_add, z_sub, z_mul, up_1, up_2, not_true, not_false_iff, if_true, if_false, if_neg, z_lt, z_le, z_eq]
  · by_cases c2 : f = t
    · rw [if_pos c2, bP_t trivial]
      simp (disch := omega) only [m_tget tb_18 ht18, hf, ht, ev_iload, ev_aload, rx_istore, ev_push, ev_goto, ev_jsr, ev_icmp_eq, ev_icmp_lt, ev_icmp_ge, ev_getf, ev_callv, nr_i, nr_r, nr_l, nr_n, rx_zret, kb_69_0, kb_69_42, kb_69_43, kb_69_44, kb_69_61, kb_69_65, kb_69_66, kr_69, kf_17_320, List.getD_cons_zero, List.getD_cons_succ, List.set_cons_zero, List.set_cons_succ, ex_spl, ex_low, Option.toList, List.cons_append, List.nil_append, if_pos, reduceIte, Int.reduceToNat, Nat.reduceDiv, Nat.reduceMod, Nat.reduceAdd, Nat.reduceMul, z_0, z_1, z_10, z_01, reduceCtorEq, ite_true, ite_false, true_and, and_true, bI_z, bI_n, ↓bI_01, ↓zret0, ↓zret1, z_add, z_sub, z_mul, up_1, up_2, not_true, not_false_iff, if_true, if_false, if_neg, z_lt, z_le, z_eq]
    · rw [if_neg c2, if_neg c1]
      by_cases c3 : f ≤ h
      · rw [bP_t (Or.inl c3)]
        simp (disch := omega) only [m_tget tb_18 ht18, hf, ht, ev_iload, ev_aload, rx_istore, ev_push, ev_goto, ev_jsr, ev_icmp_eq, ev_icmp_lt, ev_icmp_ge, ev_getf, ev_callv, nr_i, nr_r, nr_l, nr_n, rx_zret, kb_69_0, kb_69_42, kb_69_43, kb_69_44, kb_69_61, kb_69_65, kb_69_66, kr_69, kf_17_320, List.getD_cons_zero, List.getD_cons_succ, List.set_cons_zero, List.set_cons_succ, ex_spl, ex_low, Option.toList, List.cons_append, List.nil_append, if_pos, reduceIte, Int.reduceToNat, Nat.reduceDiv, Nat.reduceMod, Nat.reduceAdd, Nat.reduceMul, z_0, z_1, z_10, z_01, reduceCtorEq, ite_true, ite_false, true_and, and_true, bI_z, bI_n, ↓bI_01, ↓zret0, ↓zret1, z_add, z_sub, z_mul, up_1, up_2, not_true, not_false_iff, if_true, if_false, if_neg, z_lt, z_le, z_eq]
      · by_cases c4 : h < t
        · rw [bP_t (Or.inr c4)]
          simp (disch := omega) only [m_tget tb_18 ht18, hf, ht, ev_iload, ev_aload, rx_istore, ev_push, ev_goto, ev_jsr, ev_icmp_eq, ev_icmp_lt, ev_icmp_ge, ev_getf, ev_callv, nr_i, nr_r, nr_l, nr_n, rx_zret, kb_69_0, kb_69_42, kb_69_43, kb_69_44, kb_69_61, kb_69_65, kb_69_66, kr_69, kf_17_320, List.getD_cons_zero, List.getD_cons_succ, List.set_cons_zero, List.set_cons_succ, ex_spl, ex_low, Option.toList, List.cons_append, List.nil_append, if_pos, reduceIte, Int.reduceToNat, Nat.reduceDiv, Nat.reduceMod, Nat.reduceAdd, Nat.reduceMul, z_0, z_1, z_10, z_01, reduceCtorEq, ite_true, ite_false, true_and, and_true, bI_z, bI_n, ↓bI_01, ↓zret0, ↓zret1, z_add, z_sub, z_mul, up_1, up_2, not_true, not_false_iff, if_true, if_false, if_neg, z_lt, z_le, z_eq]
        · rw [bP_f (by omega)]
          simp (disch := omega) only [m_tget tb_18 ht18, hf, ht, ev_iload, ev_aload, rx_istore, ev_push, ev_goto, ev_jsr, ev_icmp_eq, ev_icmp_lt, ev_icmp_ge, ev_getf, ev_callv, nr_i, nr_r, nr_l, nr_n, rx_zret, kb_69_0, kb_69_42, kb_69_43, kb_69_44, kb_69_61, kb_69_65, kb_69_66, kr_69, kf_17_320, List.getD_cons_zero, List.getD_cons_succ, List.set_cons_zero, List.set_cons_succ, ex_spl, ex_low, Option.toList, List.cons_append, List.nil_append, if_pos, reduceIte, Int.reduceToNat, Nat.reduceDiv, Nat.reduceMod, Nat.reduceAdd, Nat.reduceMul, z_0, z_1, z_10, z_01, reduceCtorEq, ite_true, ite_false, true_and, and_true, bI_z, bI_n, ↓bI_01, ↓zret0, ↓zret1, z_add, z_sub, z_mul, up_1, up_2, not_true, not_false_iff, if_true, if_false, if_neg, z_lt, z_le, z_eq]
theorem m_doorOrOwn {d : Nat} {A : AS} {w : PW} (hV : q_vh A) (hC : rC A w) {c : Int} (h0 : 0 ≤ c) (h1 : c < A 0 15) : ex_cal (d + 2) 29 [.ref 5, .int (Int32.ofInt c)] w = some (some (.int (Int32.ofInt (q_do A c))), w) := by
  have hr := q_rnh hV
  have hd := q_dr_r hV h0 h1
  rw [ke_29 kc_5]
  unfold q_do
  by_cases hn : q_dr A c = -1
  · rw [if_pos hn]
    simp (disch := omega) only [m_doorOf hV hC, hn, ev_iload, ev_aload, rx_istore, ev_push, ev_goto, ev_jsr, ev_icmp_ne, ev_callv, nr_i, nr_r, nr_l, nr_n, rx_iret, kb_29_0, kb_29_15, kb_29_16, kr_29, List.getD_cons_zero, List.getD_cons_succ, List.set_cons_zero, List.set_cons_succ, ex_spl, ex_low, Option.toList, List.cons_append, List.nil_append, if_pos, reduceIte, Int.reduceToNat, Nat.reduceDiv, Nat.reduceMod, Nat.reduceAdd, Nat.reduceMul, z_0, z_1, z_10, z_01, reduceCtorEq, ite_true, ite_false, true_and, and_true, bI_z, bI_n, ↓bI_01, ↓zret0, ↓zret1, z_add, z_sub, z_mul, up_1, up_2, not_true, not_false_iff, if_true, if_false, if_neg, z_lt, z_le, z_eq]
  · rw [if_neg hn]
    simp (disch := omega) only [m_doorOf hV hC, ev_iload, ev_aload, rx_istore, ev_push, ev_goto, ev_jsr, ev_icmp_ne, ev_callv, nr_i, nr_r, nr_l, nr_n, rx_iret, kb_29_0, kb_29_15, kb_29_16, kr_29, List.getD_cons_zero, List.getD_cons_succ, List.set_cons_zero, List.set_cons_succ, ex_spl, ex_low, Option.toList, List.cons_append, List.nil_append, if_pos, reduceIte, Int.reduceToNat, Nat.reduceDiv, Nat.reduceMod, Nat.reduceAdd, Nat.reduceMul, z_0, z_1, z_10, z_01, reduceCtorEq, ite_true, ite_false, true_and, and_true, bI_z, bI_n, ↓bI_01, ↓zret0, ↓zret1, z_add, z_sub, z_mul, up_1, up_2, not_true, not_false_iff, if_true, if_false, if_neg, z_lt, z_le, z_eq]
theorem m_counts {d : Nat} {A : AS} {w : PW} (hV : q_v0 A) (hC : rC A w) {l p c v b : Int} (l0 : 0 ≤ l) (l1 : l < A 0 3) (p0 : 0 ≤ p) (p1 : p < 3) (c0 : 0 ≤ c) (c1 : c < A 0 15) (v0 : 0 ≤ v) (v1 : v < 4) (b0 : -3 ≤ b) (b1 : b ≤ 3) : ex_cal (d + 3) 70 [.ref 17, .ref 5, .int (Int32.ofInt l), .int (Int32.ofInt p), .int (Int32.ofInt (4 * c + v)), .int (Int32.ofInt b)] w = some (some (.int (bP (q_cn A b l p c v))), w) := by
  have hr := q_rng hV
  have hl := hV.2.1.2.2 l l0 l1
  have hH := hC.1
  have hK := hH.1
  have hp1 := q_ptr hV.1 c0 c1 p v 1
  have hp2 := q_ptr hV.1 c0 c1 p v 2
  have hp3 := q_ptr hV.1 c0 c1 p v 3
  have hdo := q_do_r hV.1 c0 c1
  have s0 := q_sdr A b c
  have s1 := q_sdr A b (q_pt A p c v 1)
  have s2 := q_sdr A b (q_pt A p c v 2)
  have s3 := q_sdr A b (q_pt A p c v 3)
  have s4 := q_sdr A b (q_do A c)
  obtain ⟨-, -, -, -, ht18, -⟩ := id hC
  rw [ke_70 kc_17]
  unfold q_cn
  generalize hk : A 3 (5 * l + 4) = k at *
  have hkk : k = 0 ∨ k = 1 ∨ k = 2 ∨ k = 3 ∨ k = 4 := by omega
  rcases hkk with e | e | e | e | e <;> subst e
  · rw [if_neg (by omega), if_neg (by omega), if_neg (by omega), if_neg (by omega), bP_t trivial]
    simp (disch := omega) only [m_tget tb_18 ht18, hk, z_sh2, z_c4, Int.add_zero, ev_iload, ev_aload, rx_istore, ev_push, ev_ishr, ev_goto, ev_jsr, ev_icmp_ne, ev_getf, ev_callv, nr_i, nr_r, nr_l, nr_n, rx_tsw, rx_tsd, ar_tl, Int.reduceSub, rx_zret, kb_70_0, kb_70_56, kb_70_73, kb_70_74, kb_70_75, kb_70_98, kb_70_99, kb_70_100, kb_70_155, kb_70_156, kb_70_157, kb_70_178, kb_70_179, kb_70_180, kr_70, kf_17_320, List.getD_cons_zero, List.getD_cons_succ, List.set_cons_zero, List.set_cons_succ, ex_spl, ex_low, Option.toList, List.cons_append, List.nil_append, if_pos, reduceIte, Int.reduceToNat, Nat.reduceDiv, Nat.reduceMod, Nat.reduceAdd, Nat.reduceMul, z_0, z_1, z_10, z_01, reduceCtorEq, ite_true, ite_false, true_and, and_true, bI_z, bI_n, ↓bI_01, ↓zret0, ↓zret1, z_add, z_sub, z_mul, up_1, up_2, not_true, not_false_iff, if_true, if_false, if_neg, z_lt, z_le, z_eq]
  · rw [if_pos rfl]
    by_cases q : q_sd A b c = A 3 (5 * l)
    · rw [bP_t q]
      simp (disch := omega) only [m_tget tb_18 ht18, hk, z_sh2, z_c4, Int.add_zero, m_sideOf hV.1 hK, ev_iload, ev_aload, rx_istore, ev_push, ev_ishr, ev_goto, ev_jsr, ev_icmp_ne, ev_getf, ev_callv, nr_i, nr_r, nr_l, nr_n, rx_tsw, rx_tsd, ar_tl, Int.reduceSub, rx_zret, kb_70_0, kb_70_56, kb_70_73, kb_70_74, kb_70_75, kb_70_98, kb_70_99, kb_70_100, kb_70_155, kb_70_156, kb_70_157, kb_70_178, kb_70_179, kb_70_180, kr_70, kf_17_320, List.getD_cons_zero, List.getD_cons_succ, List.set_cons_zero, List.set_cons_succ, ex_spl, ex_low, Option.toList, List.cons_append, List.nil_append, if_pos, reduceIte, Int.reduceToNat, Nat.reduceDiv, Nat.reduceMod, Nat.reduceAdd, Nat.reduceMul, z_0, z_1, z_10, z_01, reduceCtorEq, ite_true, ite_false, true_and, and_true, bI_z, bI_n, ↓bI_01, ↓zret0, ↓zret1, z_add, z_sub, z_mul, up_1, up_2, not_true, not_false_iff, if_true, if_false, if_neg, z_lt, z_le, z_eq]
    · rw [bP_f q]
      simp (disch := omega) only [m_tget tb_18 ht18, hk, z_sh2, z_c4, Int.add_zero, m_sideOf hV.1 hK, ev_iload, ev_aload, rx_istore, ev_push, ev_ishr, ev_goto, ev_jsr, ev_icmp_ne, ev_getf, ev_callv, nr_i, nr_r, nr_l, nr_n, rx_tsw, rx_tsd, ar_tl, Int.reduceSub, rx_zret, kb_70_0, kb_70_56, kb_70_73, kb_70_74, kb_70_75, kb_70_98, kb_70_99, kb_70_100, kb_70_155, kb_70_156, kb_70_157, kb_70_178, kb_70_179, kb_70_180, kr_70, kf_17_320, List.getD_cons_zero, List.getD_cons_succ, List.set_cons_zero, List.set_cons_succ, ex_spl, ex_low, Option.toList, List.cons_append, List.nil_append, if_pos, reduceIte, Int.reduceToNat, Nat.reduceDiv, Nat.reduceMod, Nat.reduceAdd, Nat.reduceMul, z_0, z_1, z_10, z_01, reduceCtorEq, ite_true, ite_false, true_and, and_true, bI_z, bI_n, ↓bI_01, ↓zret0, ↓zret1, z_add, z_sub, z_mul, up_1, up_2, not_true, not_false_iff, if_true, if_false, if_neg, z_lt, z_le, z_eq]
  · rw [if_neg (by omega), if_pos rfl]
    by_cases q : q_sd A b (q_pt A p c v 1) = A 3 (5 * l)
    · rw [bP_t q]
      simp (disch := omega) only [m_tget tb_18 ht18, hk, z_sh2, z_c4, Int.add_zero, m_sideOf hV.1 hK, m_partAt hV.1 hH, ev_iload, ev_aload, rx_istore, ev_push, ev_ishr, ev_goto, ev_jsr, ev_icmp_ne, ev_getf, ev_callv, nr_i, nr_r, nr_l, nr_n, rx_tsw, rx_tsd, ar_tl, Int.reduceSub, rx_zret, kb_70_0, kb_70_56, kb_70_73, kb_70_74, kb_70_75, kb_70_98, kb_70_99, kb_70_100, kb_70_155, kb_70_156, kb_70_157, kb_70_178, kb_70_179, kb_70_180, kr_70, kf_17_320, List.getD_cons_zero, List.getD_cons_succ, List.set_cons_zero, List.set_cons_succ, ex_spl, ex_low, Option.toList, List.cons_append, List.nil_append, if_pos, reduceIte, Int.reduceToNat, Nat.reduceDiv, Nat.reduceMod, Nat.reduceAdd, Nat.reduceMul, z_0, z_1, z_10, z_01, reduceCtorEq, ite_true, ite_false, true_and, and_true, bI_z, bI_n, ↓bI_01, ↓zret0, ↓zret1, z_add, z_sub, z_mul, up_1, up_2, not_true, not_false_iff, if_true, if_false, if_neg, z_lt, z_le, z_eq]
    · rw [bP_f q]
      simp (disch := omega) only [m_tget tb_18 ht18, hk, z_sh2, z_c4, Int.add_zero, m_sideOf hV.1 hK, m_partAt hV.1 hH, ev_iload, ev_aload, rx_istore, ev_push, ev_ishr, ev_goto, ev_jsr, ev_icmp_ne, ev_getf, ev_callv, nr_i, nr_r, nr_l, nr_n, rx_tsw, rx_tsd, ar_tl, Int.reduceSub, rx_zret, kb_70_0, kb_70_56, kb_70_73, kb_70_74, kb_70_75, kb_70_98, kb_70_99, kb_70_100, kb_70_155, kb_70_156, kb_70_157, kb_70_178, kb_70_179, kb_70_180, kr_70, kf_17_320, List.getD_cons_zero, List.getD_cons_succ, List.set_cons_zero, List.set_cons_succ, ex_spl, ex_low, Option.toList, List.cons_append, List.nil_append, if_pos, reduceIte, Int.reduceToNat, Nat.reduceDiv, Nat.reduceMod, Nat.reduceAdd, Nat.reduceMul, z_0, z_1, z_10, z_01, reduceCtorEq, ite_true, ite_false, true_and, and_true, bI_z, bI_n, ↓bI_01, ↓zret0, ↓zret1, z_add, z_sub, z_mul, up_1, up_2, not_true, not_false_iff, if_true, if_false, if_neg, z_lt, z_le, z_eq]
  · rw [if_neg (by omega), if_neg (by omega), if_pos rfl]
    by_cases q : q_sd A b c = A 3 (5 * l)
    · by_cases q2 : q_sd A b (q_pt A p c v 2) = A 3 (5 * l)
      · by_cases q3 : q_sd A b (q_pt A p c v 3) = A 3 (5 * l)
        · rw [bP_t ⟨q, q2, q3⟩]
          simp (disch := omega) only [m_tget tb_18 ht18, hk, z_sh2, z_c4, Int.add_zero, m_sideOf hV.1 hK, m_partAt hV.1 hH, ev_iload, ev_aload, rx_istore, ev_push, ev_ishr, ev_goto, ev_jsr, ev_icmp_ne, ev_getf, ev_callv, nr_i, nr_r, nr_l, nr_n, rx_tsw, rx_tsd, ar_tl, Int.reduceSub, rx_zret, kb_70_0, kb_70_56, kb_70_73, kb_70_74, kb_70_75, kb_70_98, kb_70_99, kb_70_100, kb_70_155, kb_70_156, kb_70_157, kb_70_178, kb_70_179, kb_70_180, kr_70, kf_17_320, List.getD_cons_zero, List.getD_cons_succ, List.set_cons_zero, List.set_cons_succ, ex_spl, ex_low, Option.toList, List.cons_append, List.nil_append, if_pos, reduceIte, Int.reduceToNat, Nat.reduceDiv, Nat.reduceMod, Nat.reduceAdd, Nat.reduceMul, z_0, z_1, z_10, z_01, reduceCtorEq, ite_true, ite_false, true_and, and_true, bI_z, bI_n, ↓bI_01, ↓zret0, ↓zret1, z_add, z_sub, z_mul, up_1, up_2, not_true, not_false_iff, if_true, if_false, if_neg, z_lt, z_le, z_eq]
        · rw [bP_f (fun h => q3 h.2.2)]
          simp (disch := omega) only [m_tget tb_18 ht18, hk, z_sh2, z_c4, Int.add_zero, m_sideOf hV.1 hK, m_partAt hV.1 hH, ev_iload, ev_aload, rx_istore, ev_push, ev_ishr, ev_goto, ev_jsr, ev_icmp_ne, ev_getf, ev_callv, nr_i, nr_r, nr_l, nr_n, rx_tsw, rx_tsd, ar_tl, Int.reduceSub, rx_zret, kb_70_0, kb_70_56, kb_70_73, kb_70_74, kb_70_75, kb_70_98, kb_70_99, kb_70_100, kb_70_155, kb_70_156, kb_70_157, kb_70_178, kb_70_179, kb_70_180, kr_70, kf_17_320, List.getD_cons_zero, List.getD_cons_succ, List.set_cons_zero, List.set_cons_succ, ex_spl, ex_low, Option.toList, List.cons_append, List.nil_append, if_pos, reduceIte, Int.reduceToNat, Nat.reduceDiv, Nat.reduceMod, Nat.reduceAdd, Nat.reduceMul, z_0, z_1, z_10, z_01, reduceCtorEq, ite_true, ite_false, true_and, and_true, bI_z, bI_n, ↓bI_01, ↓zret0, ↓zret1, z_add, z_sub, z_mul, up_1, up_2, not_true, not_false_iff, if_true, if_false, if_neg, z_lt, z_le, z_eq]
      · rw [bP_f (fun h => q2 h.2.1)]
        simp (disch := omega) only [m_tget tb_18 ht18, hk, z_sh2, z_c4, Int.add_zero, m_sideOf hV.1 hK, m_partAt hV.1 hH, ev_iload, ev_aload, rx_istore, ev_push, ev_ishr, ev_goto, ev_jsr, ev_icmp_ne, ev_getf, ev_callv, nr_i, nr_r, nr_l, nr_n, rx_tsw, rx_tsd, ar_tl, Int.reduceSub, rx_zret, kb_70_0, kb_70_56, kb_70_73, kb_70_74, kb_70_75, kb_70_98, kb_70_99, kb_70_100, kb_70_155, kb_70_156, kb_70_157, kb_70_178, kb_70_179, kb_70_180, kr_70, kf_17_320, List.getD_cons_zero, List.getD_cons_succ, List.set_cons_zero, List.set_cons_succ, ex_spl, ex_low, Option.toList, List.cons_append, List.nil_append, if_pos, reduceIte, Int.reduceToNat, Nat.reduceDiv, Nat.reduceMod, Nat.reduceAdd, Nat.reduceMul, z_0, z_1, z_10, z_01, reduceCtorEq, ite_true, ite_false, true_and, and_true, bI_z, bI_n, ↓bI_01, ↓zret0, ↓zret1, z_add, z_sub, z_mul, up_1, up_2, not_true, not_false_iff, if_true, if_false, if_neg, z_lt, z_le, z_eq]
    · rw [bP_f (fun h => q h.1)]
      simp (disch := omega) only [m_tget tb_18 ht18, hk, z_sh2, z_c4, Int.add_zero, m_sideOf hV.1 hK, m_partAt hV.1 hH, ev_iload, ev_aload, rx_istore, ev_push, ev_ishr, ev_goto, ev_jsr, ev_icmp_ne, ev_getf, ev_callv, nr_i, nr_r, nr_l, nr_n, rx_tsw, rx_tsd, ar_tl, Int.reduceSub, rx_zret, kb_70_0, kb_70_56, kb_70_73, kb_70_74, kb_70_75, kb_70_98, kb_70_99, kb_70_100, kb_70_155, kb_70_156, kb_70_157, kb_70_178, kb_70_179, kb_70_180, kr_70, kf_17_320, List.getD_cons_zero, List.getD_cons_succ, List.set_cons_zero, List.set_cons_succ, ex_spl, ex_low, Option.toList, List.cons_append, List.nil_append, if_pos, reduceIte, Int.reduceToNat, Nat.reduceDiv, Nat.reduceMod, Nat.reduceAdd, Nat.reduceMul, z_0, z_1, z_10, z_01, reduceCtorEq, ite_true, ite_false, true_and, and_true, bI_z, bI_n, ↓bI_01, ↓zret0, ↓zret1, z_add, z_sub, z_mul, up_1, up_2, not_true, not_false_iff, if_true, if_false, if_neg, z_lt, z_le, z_eq]
  · rw [if_neg (by omega), if_neg (by omega), if_neg (by omega), if_pos rfl]
    by_cases q : q_sd A b (q_do A c) = A 3 (5 * l)
    · rw [bP_t q]
      simp (disch := omega) only [m_tget tb_18 ht18, hk, z_sh2, z_c4, Int.add_zero, m_sideOf hV.1 hK, m_doorOrOwn hV.1 hC, ev_iload, ev_aload, rx_istore, ev_push, ev_ishr, ev_goto, ev_jsr, ev_icmp_ne, ev_getf, ev_callv, nr_i, nr_r, nr_l, nr_n, rx_tsw, rx_tsd, ar_tl, Int.reduceSub, rx_zret, kb_70_0, kb_70_56, kb_70_73, kb_70_74, kb_70_75, kb_70_98, kb_70_99, kb_70_100, kb_70_155, kb_70_156, kb_70_157, kb_70_178, kb_70_179, kb_70_180, kr_70, kf_17_320, List.getD_cons_zero, List.getD_cons_succ, List.set_cons_zero, List.set_cons_succ, ex_spl, ex_low, Option.toList, List.cons_append, List.nil_append, if_pos, reduceIte, Int.reduceToNat, Nat.reduceDiv, Nat.reduceMod, Nat.reduceAdd, Nat.reduceMul, z_0, z_1, z_10, z_01, reduceCtorEq, ite_true, ite_false, true_and, and_true, bI_z, bI_n, ↓bI_01, ↓zret0, ↓zret1, z_add, z_sub, z_mul, up_1, up_2, not_true, not_false_iff, if_true, if_false, if_neg, z_lt, z_le, z_eq]
    · rw [bP_f q]
      simp (disch := omega) only [m_tget tb_18 ht18, hk, z_sh2, z_c4, Int.add_zero, m_sideOf hV.1 hK, m_doorOrOwn hV.1 hC, ev_iload, ev_aload, rx_istore, ev_push, ev_ishr, ev_goto, ev_jsr, ev_icmp_ne, ev_getf, ev_callv, nr_i, nr_r, nr_l, nr_n, rx_tsw, rx_tsd, ar_tl, Int.reduceSub, rx_zret, kb_70_0, kb_70_56, kb_70_73, kb_70_74, kb_70_75, kb_70_98, kb_70_99, kb_70_100, kb_70_155, kb_70_156, kb_70_157, kb_70_178, kb_70_179, kb_70_180, kr_70, kf_17_320, List.getD_cons_zero, List.getD_cons_succ, List.set_cons_zero, List.set_cons_succ, ex_spl, ex_low, Option.toList, List.cons_append, List.nil_append, if_pos, reduceIte, Int.reduceToNat, Nat.reduceDiv, Nat.reduceMod, Nat.reduceAdd, Nat.reduceMul, z_0, z_1, z_10, z_01, reduceCtorEq, ite_true, ite_false, true_and, and_true, bI_z, bI_n, ↓bI_01, ↓zret0, ↓zret1, z_add, z_sub, z_mul, up_1, up_2, not_true, not_false_iff, if_true, if_false, if_neg, z_lt, z_le, z_eq]
theorem m_broken {d : Nat} {A : AS} {w : PW} (hV : q_v0 A) (hC : rC A w) {a h p c v b : Int} (a0 : 0 ≤ a) (a1 : a < 6) (h0 : 0 ≤ h) (h1 : h < 24) (p0 : 0 ≤ p) (p1 : p < 3) (c0 : 0 ≤ c) (c1 : c < A 0 15) (v0 : 0 ≤ v) (v1 : v < 4) (b0 : -3 ≤ b) (b1 : b ≤ 3) : ex_cal (d + 4) 68 [.ref 17, .ref 5, .int (Int32.ofInt a), .int (Int32.ofInt h), .int (Int32.ofInt p), .int (Int32.ofInt (4 * c + v)), .int (Int32.ofInt b)] w = some (some (.int (q_br A b a h p c v)), w) := by
  have hr := q_rng hV
  obtain ⟨-, -, -, -, ht18, -⟩ := id hC
  have hsz : w.1 18 2 = Int32.ofInt (A 0 3) := ht18.2.1
  rw [ke_68 kc_17]
  simp (disch := omega) only [ev_iload, ev_aload, rx_istore, ev_iinc, ev_push, ev_ior, ev_ishl, ev_goto, ev_jsr, ev_icmp_ne, ev_icmp_ge, ev_if_eq, ev_getf, ev_callv, nr_i, nr_r, nr_l, nr_n, rx_iret, kb_68_0, kb_68_67, kb_68_73, kr_68, kf_17_320, List.getD_cons_zero, List.getD_cons_succ, List.set_cons_zero, List.set_cons_succ, ex_spl, ex_low, Option.toList, List.cons_append, List.nil_append, if_pos, reduceIte, Int.reduceToNat, Nat.reduceDiv, Nat.reduceMod, Nat.reduceAdd, Nat.reduceMul, z_0, z_1, z_10, z_01, reduceCtorEq, ite_true, ite_false, true_and, and_true, bI_z, bI_n, ↓bI_01, ↓zret0, ↓zret1, z_add, z_sub, z_mul, up_1, up_2, not_true, not_false_iff, if_true, if_false, if_neg, z_lt, z_le, z_eq]
  have key := ex_iter (d := d + 3) (cal := ex_cal (d + 3)) (y := 68) (fun i => (ex_blk 68 6, [.ref 17, .ref 5, .int (Int32.ofInt a), .int (Int32.ofInt h), .int (Int32.ofInt p), .int (Int32.ofInt (4 * c + v)), .int (Int32.ofInt b), .int (q_brn A b a h p c v i), .int (Int32.ofInt (i : Int))], [], w)) (Nat.zero_le (A 0 3).toNat) (fun i _ hi => by
    have hl := hV.2.1.2.2 i (by omega) (by omega)
    (try dsimp only)
    conv => lhs; rw [kb_68_6]
    by_cases hv : q_vi A b a h p c v i
    · have e : q_brn A b a h p c v (i + 1) = q_brn A b a h p c v i ||| (Int32.ofInt 1 <<< (Int32.ofInt (i : Int) &&& 31)) := by
        show _ ||| q_iw _ _ _ = _
        rw [q_iw_t hv]; rfl
      obtain ⟨v1', v2, v3⟩ := hv
      have e2 := bP_t v2
      have e3 := bP_t v3
      simp (disch := omega) only [m_tsize tb_18, hsz, m_tget tb_18 ht18, m_holds hV hC, m_counts hV hC, e2, e3, e, Int.natCast_add, Int.cast_ofNat_Int, ev_iload, ev_aload, rx_istore, ev_iinc, ev_push, ev_ior, ev_ishl, ev_goto, ev_jsr, ev_icmp_ne, ev_icmp_ge, ev_if_eq, ev_getf, ev_callv, nr_i, nr_r, nr_l, nr_n, rx_iret, kb_68_0, kb_68_67, kb_68_73, kr_68, kf_17_320, List.getD_cons_zero, List.getD_cons_succ, List.set_cons_zero, List.set_cons_succ, ex_spl, ex_low, Option.toList, List.cons_append, List.nil_append, if_pos, reduceIte, Int.reduceToNat, Nat.reduceDiv, Nat.reduceMod, Nat.reduceAdd, Nat.reduceMul, z_0, z_1, z_10, z_01, reduceCtorEq, ite_true, ite_false, true_and, and_true, bI_z, bI_n, ↓bI_01, ↓zret0, ↓zret1, z_add, z_sub, z_mul, up_1, up_2, not_true, not_false_iff, if_true, if_false, if_neg, z_lt, z_le, z_eq]
    · have e : q_brn A b a h p c v (i + 1) = q_brn A b a h p c v i := by
        show _ ||| q_iw _ _ _ = _
        rw [q_iw_f hv, m_or0]
      rw [e]
      by_cases v1' : A 3 (5 * i + 1) = a
      · by_cases v2 : q_hl A i h
        · have v3 : ¬ q_cn A b i p c v := fun hh => hv ⟨v1', v2, hh⟩
          have e2 := bP_t v2
          have e3 := bP_f v3
          simp (disch := omega) only [m_tsize tb_18, hsz, m_tget tb_18 ht18, m_holds hV hC, m_counts hV hC, e2, e3, Int.natCast_add, Int.cast_ofNat_Int, ev_iload, ev_aload, rx_istore, ev_iinc, ev_push, ev_ior, ev_ishl, ev_goto, ev_jsr, ev_icmp_ne, ev_icmp_ge, ev_if_eq, ev_getf, ev_callv, nr_i, nr_r, nr_l, nr_n, rx_iret, kb_68_0, kb_68_67, kb_68_73, kr_68, kf_17_320, List.getD_cons_zero, List.getD_cons_succ, List.set_cons_zero, List.set_cons_succ, ex_spl, ex_low, Option.toList, List.cons_append, List.nil_append, if_pos, reduceIte, Int.reduceToNat, Nat.reduceDiv, Nat.reduceMod, Nat.reduceAdd, Nat.reduceMul, z_0, z_1, z_10, z_01, reduceCtorEq, ite_true, ite_false, true_and, and_true, bI_z, bI_n, ↓bI_01, ↓zret0, ↓zret1, z_add, z_sub, z_mul, up_1, up_2, not_true, not_false_iff, if_true, if_false, if_neg, z_lt, z_le, z_eq]
        · have e2 := bP_f v2
          simp (disch := omega) only [m_tsize tb_18, hsz, m_tget tb_18 ht18, m_holds hV hC, e2, Int.natCast_add, Int.cast_ofNat_Int, ev_iload, ev_aload, rx_istore, ev_iinc, ev_push, ev_ior, ev_ishl, ev_goto, ev_jsr, ev_icmp_ne, ev_icmp_ge, ev_if_eq, ev_getf, ev_callv, nr_i, nr_r, nr_l, nr_n, rx_iret, kb_68_0, kb_68_67, kb_68_73, kr_68, kf_17_320, List.getD_cons_zero, List.getD_cons_succ, List.set_cons_zero, List.set_cons_succ, ex_spl, ex_low, Option.toList, List.cons_append, List.nil_append, if_pos, reduceIte, Int.reduceToNat, Nat.reduceDiv, Nat.reduceMod, Nat.reduceAdd, Nat.reduceMul, z_0, z_1, z_10, z_01, reduceCtorEq, ite_true, ite_false, true_and, and_true, bI_z, bI_n, ↓bI_01, ↓zret0, ↓zret1, z_add, z_sub, z_mul, up_1, up_2, not_true, not_false_iff, if_true, if_false, if_neg, z_lt, z_le, z_eq]
      · simp (disch := omega) only [m_tsize tb_18, hsz, m_tget tb_18 ht18, Int.natCast_add, Int.cast_ofNat_Int, ev_iload, ev_aload, rx_istore, ev_iinc, ev_push, ev_ior, ev_ishl, ev_goto, ev_jsr, ev_icmp_ne, ev_icmp_ge, ev_if_eq, ev_getf, ev_callv, nr_i, nr_r, nr_l, nr_n, rx_iret, kb_68_0, kb_68_67, kb_68_73, kr_68, kf_17_320, List.getD_cons_zero, List.getD_cons_succ, List.set_cons_zero, List.set_cons_succ, ex_spl, ex_low, Option.toList, List.cons_append, List.nil_append, if_pos, reduceIte, Int.reduceToNat, Nat.reduceDiv, Nat.reduceMod, Nat.reduceAdd, Nat.reduceMul, z_0, z_1, z_10, z_01, reduceCtorEq, ite_true, ite_false, true_and, and_true, bI_z, bI_n, ↓bI_01, ↓zret0, ↓zret1, z_add, z_sub, z_mul, up_1, up_2, not_true, not_false_iff, if_true, if_false, if_neg, z_lt, z_le, z_eq])
  refine key.trans ?_
  (try dsimp only)
  rw [kb_68_6]
  simp (disch := omega) only [m_tsize tb_18, hsz, ev_iload, ev_aload, rx_istore, ev_iinc, ev_push, ev_ior, ev_ishl, ev_goto, ev_jsr, ev_icmp_ne, ev_icmp_ge, ev_if_eq, ev_getf, ev_callv, nr_i, nr_r, nr_l, nr_n, rx_iret, kb_68_0, kb_68_67, kb_68_73, kr_68, kf_17_320, List.getD_cons_zero, List.getD_cons_succ, List.set_cons_zero, List.set_cons_succ, ex_spl, ex_low, Option.toList, List.cons_append, List.nil_append, if_pos, reduceIte, Int.reduceToNat, Nat.reduceDiv, Nat.reduceMod, Nat.reduceAdd, Nat.reduceMul, z_0, z_1, z_10, z_01, reduceCtorEq, ite_true, ite_false, true_and, and_true, bI_z, bI_n, ↓bI_01, ↓zret0, ↓zret1, z_add, z_sub, z_mul, up_1, up_2, not_true, not_false_iff, if_true, if_false, if_neg, z_lt, z_le, z_eq]
  rfl
/-! things -/
theorem m_dkind {d : Nat} {A : AS} {w : PW} (hV : q_v0 A) (hC : rC A w) {t : Int} (t0 : 0 ≤ t) (t1 : t < A 0 5) : ex_cal (d + 3) 3 [.ref 20, .int (Int32.ofInt t)] w = some (some (.int (Int32.ofInt (A 5 (5 * t)))), w) := by
  have hr := q_rng hV
  obtain ⟨⟨⟨⟨h511, h512, h513⟩, ⟨hk, hro, hco, hli⟩⟩, ⟨hbe, hah, hbs, hos⟩⟩, hdo, ⟨h010, h011, h09, h11⟩, hpc, ht18, ht21, ht23, ht25, ht27, ht30, ht32, ht34, ht36⟩ := id hC
  rw [ke_3 kc_20]
  simp (disch := omega) only [m_tget tb_21 ht21, Int.add_zero, ev_iload, ev_aload, ev_push, ev_getf, ev_callv, nr_i, nr_r, nr_l, nr_n, rx_iret, kb_3_0, kr_3, kf_20_0, kf_29_0, List.getD_cons_zero, List.getD_cons_succ, List.set_cons_zero, List.set_cons_succ, ex_spl, ex_low, Option.toList, List.cons_append, List.nil_append, if_pos, reduceIte, Int.reduceToNat, Nat.reduceDiv, Nat.reduceMod, Nat.reduceAdd, Nat.reduceMul, z_0, z_1, z_10, z_01, reduceCtorEq, ite_true, ite_false, true_and, and_true, bI_z, bI_n, ↓bI_01, ↓zret0, ↓zret1, z_add, z_sub, z_mul, up_1, up_2, not_true, not_false_iff, if_true, if_false, if_neg, z_lt, z_le, z_eq]
theorem m_dcell {d : Nat} {A : AS} {w : PW} (hV : q_v0 A) (hC : rC A w) {t : Int} (t0 : 0 ≤ t) (t1 : t < A 0 5) : ex_cal (d + 3) 4 [.ref 20, .int (Int32.ofInt t)] w = some (some (.int (Int32.ofInt (A 5 (5 * t + 1)))), w) := by
  have hr := q_rng hV
  obtain ⟨⟨⟨⟨h511, h512, h513⟩, ⟨hk, hro, hco, hli⟩⟩, ⟨hbe, hah, hbs, hos⟩⟩, hdo, ⟨h010, h011, h09, h11⟩, hpc, ht18, ht21, ht23, ht25, ht27, ht30, ht32, ht34, ht36⟩ := id hC
  rw [ke_4 kc_20]
  simp (disch := omega) only [m_tget tb_21 ht21, ev_iload, ev_aload, ev_push, ev_getf, ev_callv, nr_i, nr_r, nr_l, nr_n, rx_iret, kb_4_0, kr_4, kf_20_0, kf_29_0, List.getD_cons_zero, List.getD_cons_succ, List.set_cons_zero, List.set_cons_succ, ex_spl, ex_low, Option.toList, List.cons_append, List.nil_append, if_pos, reduceIte, Int.reduceToNat, Nat.reduceDiv, Nat.reduceMod, Nat.reduceAdd, Nat.reduceMul, z_0, z_1, z_10, z_01, reduceCtorEq, ite_true, ite_false, true_and, and_true, bI_z, bI_n, ↓bI_01, ↓zret0, ↓zret1, z_add, z_sub, z_mul, up_1, up_2, not_true, not_false_iff, if_true, if_false, if_neg, z_lt, z_le, z_eq]
theorem m_dway {d : Nat} {A : AS} {w : PW} (hV : q_v0 A) (hC : rC A w) {t : Int} (t0 : 0 ≤ t) (t1 : t < A 0 5) : ex_cal (d + 3) 5 [.ref 20, .int (Int32.ofInt t)] w = some (some (.int (Int32.ofInt (A 5 (5 * t + 2)))), w) := by
  have hr := q_rng hV
  obtain ⟨⟨⟨⟨h511, h512, h513⟩, ⟨hk, hro, hco, hli⟩⟩, ⟨hbe, hah, hbs, hos⟩⟩, hdo, ⟨h010, h011, h09, h11⟩, hpc, ht18, ht21, ht23, ht25, ht27, ht30, ht32, ht34, ht36⟩ := id hC
  rw [ke_5 kc_20]
  simp (disch := omega) only [m_tget tb_21 ht21, ev_iload, ev_aload, ev_push, ev_getf, ev_callv, nr_i, nr_r, nr_l, nr_n, rx_iret, kb_5_0, kr_5, kf_20_0, kf_29_0, List.getD_cons_zero, List.getD_cons_succ, List.set_cons_zero, List.set_cons_succ, ex_spl, ex_low, Option.toList, List.cons_append, List.nil_append, if_pos, reduceIte, Int.reduceToNat, Nat.reduceDiv, Nat.reduceMod, Nat.reduceAdd, Nat.reduceMul, z_0, z_1, z_10, z_01, reduceCtorEq, ite_true, ite_false, true_and, and_true, bI_z, bI_n, ↓bI_01, ↓zret0, ↓zret1, z_add, z_sub, z_mul, up_1, up_2, not_true, not_false_iff, if_true, if_false, if_neg, z_lt, z_le, z_eq]
theorem m_dplace {d : Nat} {A : AS} {w : PW} (hV : q_v0 A) (hC : rC A w) {t : Int} (t0 : 0 ≤ t) (t1 : t < A 0 5) : ex_cal (d + 4) 6 [.ref 20, .int (Int32.ofInt t)] w = some (some (.int (Int32.ofInt (4 * A 5 (5 * t + 1) + A 5 (5 * t + 2)))), w) := by
  rw [ke_6 kc_20]
  simp (disch := omega) only [m_dcell hV hC, m_dway hV hC, ev_iload, ev_aload, ev_push, ev_iadd, ev_imul, ev_callv, nr_i, nr_r, nr_l, nr_n, rx_iret, kb_6_0, kr_6, List.getD_cons_zero, List.getD_cons_succ, List.set_cons_zero, List.set_cons_succ, ex_spl, ex_low, Option.toList, List.cons_append, List.nil_append, if_pos, reduceIte, Int.reduceToNat, Nat.reduceDiv, Nat.reduceMod, Nat.reduceAdd, Nat.reduceMul, z_0, z_1, z_10, z_01, reduceCtorEq, ite_true, ite_false, true_and, and_true, bI_z, bI_n, ↓bI_01, ↓zret0, ↓zret1, z_add, z_sub, z_mul, up_1, up_2, not_true, not_false_iff, if_true, if_false, if_neg, z_lt, z_le, z_eq]
theorem m_dlast {d : Nat} {A : AS} {w : PW} (hV : q_v0 A) (hC : rC A w) {t : Int} (t0 : 0 ≤ t) (t1 : t < A 0 5) : ex_cal (d + 4) 8 [.ref 20, .ref 5, .int (Int32.ofInt t)] w = some (some (.int (Int32.ofInt (q_la A t))), w) := by
  have hr := q_rng hV
  obtain ⟨f1, f2, f3, f4, f5, f6, f7⟩ := hV.2.2.2.1.2.2 t t0 t1
  rw [ke_8 kc_20]
  unfold q_la q_ls
  by_cases hk : A 5 (5 * t) = 1
  · rw [if_pos hk]
    simp (disch := omega) only [m_dkind hV hC, m_dcell hV hC, m_dway hV hC, m_next hV.1 hC.1, ev_iload, ev_aload, rx_istore, ev_push, ev_goto, ev_jsr, ev_icmp_ne, ev_callv, nr_i, nr_r, nr_l, nr_n, rx_iret, kb_8_0, kb_8_28, kb_8_29, kr_8, List.getD_cons_zero, List.getD_cons_succ, List.set_cons_zero, List.set_cons_succ, ex_spl, ex_low, Option.toList, List.cons_append, List.nil_append, if_pos, reduceIte, Int.reduceToNat, Nat.reduceDiv, Nat.reduceMod, Nat.reduceAdd, Nat.reduceMul, z_0, z_1, z_10, z_01, reduceCtorEq, ite_true, ite_false, true_and, and_true, bI_z, bI_n, ↓bI_01, ↓zret0, ↓zret1, z_add, z_sub, z_mul, up_1, up_2, not_true, not_false_iff, if_true, if_false, if_neg, z_lt, z_le, z_eq]
  · rw [if_neg hk]
    simp (disch := omega) only [m_dkind hV hC, m_dcell hV hC, m_dway hV hC, m_next hV.1 hC.1, ev_iload, ev_aload, rx_istore, ev_push, ev_goto, ev_jsr, ev_icmp_ne, ev_callv, nr_i, nr_r, nr_l, nr_n, rx_iret, kb_8_0, kb_8_28, kb_8_29, kr_8, List.getD_cons_zero, List.getD_cons_succ, List.set_cons_zero, List.set_cons_succ, ex_spl, ex_low, Option.toList, List.cons_append, List.nil_append, if_pos, reduceIte, Int.reduceToNat, Nat.reduceDiv, Nat.reduceMod, Nat.reduceAdd, Nat.reduceMul, z_0, z_1, z_10, z_01, reduceCtorEq, ite_true, ite_false, true_and, and_true, bI_z, bI_n, ↓bI_01, ↓zret0, ↓zret1, z_add, z_sub, z_mul, up_1, up_2, not_true, not_false_iff, if_true, if_false, if_neg, z_lt, z_le, z_eq]
theorem m_takenBut {d : Nat} {A : AS} {w : PW} (hV : q_v0 A) (hC : rC A w) {u : Int} (u0 : -1 ≤ u) (u1 : u < 3) : ex_cal (d + 5) 9 [.ref 20, .ref 5, .int (Int32.ofInt u)] w = some (some (.int (q_tk A u)), w) := by
  have hr := q_rng hV
  obtain ⟨-, -, -, -, -, ht21, -⟩ := id hC
  have hsz : w.1 21 2 = Int32.ofInt (A 0 5) := ht21.2.1
  rw [ke_9 kc_20]
  simp (disch := omega) only [ev_iload, ev_aload, rx_istore, ev_iinc, ev_push, ev_ior, ev_goto, ev_jsr, ev_icmp_eq, ev_icmp_ge, ev_getf, ev_callv, nr_i, nr_r, nr_l, nr_n, rx_iret, kb_9_0, kb_9_42, kb_9_48, kr_9, kf_20_0, kf_29_0, List.getD_cons_zero, List.getD_cons_succ, List.set_cons_zero, List.set_cons_succ, ex_spl, ex_low, Option.toList, List.cons_append, List.nil_append, if_pos, reduceIte, Int.reduceToNat, Nat.reduceDiv, Nat.reduceMod, Nat.reduceAdd, Nat.reduceMul, z_0, z_1, z_10, z_01, reduceCtorEq, ite_true, ite_false, true_and, and_true, bI_z, bI_n, ↓bI_01, ↓zret0, ↓zret1, z_add, z_sub, z_mul, up_1, up_2, not_true, not_false_iff, if_true, if_false, if_neg, z_lt, z_le, z_eq]
  have key := ex_iter (d := d + 4) (cal := ex_cal (d + 4)) (y := 9) (fun i => (ex_blk 9 5, [.ref 20, .ref 5, .int (Int32.ofInt u), .int (q_tkn A u i), .int (Int32.ofInt (i : Int))], [], w)) (Nat.zero_le (A 0 5).toNat) (fun i _ hi => by
    obtain ⟨f1, f2, f3, f4, f5, f6, f7⟩ := hV.2.2.2.1.2.2 i (by omega) (by omega)
    (try dsimp only)
    conv => lhs; rw [kb_9_5]
    by_cases hu : (i : Int) = u
    · have e : q_tkn A u (i + 1) = q_tkn A u i := by
        show _ ||| (if (i : Int) = u then _ else _) = _
        rw [if_pos hu, m_or0]
      rw [e]
      simp (disch := omega) only [m_tsize tb_21, hsz, Int.natCast_add, Int.cast_ofNat_Int, ev_iload, ev_aload, rx_istore, ev_iinc, ev_push, ev_ior, ev_goto, ev_jsr, ev_icmp_eq, ev_icmp_ge, ev_getf, ev_callv, nr_i, nr_r, nr_l, nr_n, rx_iret, kb_9_0, kb_9_42, kb_9_48, kr_9, kf_20_0, kf_29_0, List.getD_cons_zero, List.getD_cons_succ, List.set_cons_zero, List.set_cons_succ, ex_spl, ex_low, Option.toList, List.cons_append, List.nil_append, if_pos, reduceIte, Int.reduceToNat, Nat.reduceDiv, Nat.reduceMod, Nat.reduceAdd, Nat.reduceMul, z_0, z_1, z_10, z_01, reduceCtorEq, ite_true, ite_false, true_and, and_true, bI_z, bI_n, ↓bI_01, ↓zret0, ↓zret1, z_add, z_sub, z_mul, up_1, up_2, not_true, not_false_iff, if_true, if_false, if_neg, z_lt, z_le, z_eq]
    · have e : q_tkn A u (i + 1) = q_tkn A u i ||| q_sp A (A 5 (5 * i)) (A 5 (5 * i + 1)) (A 5 (5 * i + 2)) := by
        show _ ||| (if (i : Int) = u then _ else _) = _
        rw [if_neg hu]
      rw [e]
      simp (disch := omega) only [m_tsize tb_21, hsz, m_dkind hV hC, m_dplace hV hC, m_spot hV.1 hC.1, Int.natCast_add, Int.cast_ofNat_Int, ev_iload, ev_aload, rx_istore, ev_iinc, ev_push, ev_ior, ev_goto, ev_jsr, ev_icmp_eq, ev_icmp_ge, ev_getf, ev_callv, nr_i, nr_r, nr_l, nr_n, rx_iret, kb_9_0, kb_9_42, kb_9_48, kr_9, kf_20_0, kf_29_0, List.getD_cons_zero, List.getD_cons_succ, List.set_cons_zero, List.set_cons_succ, ex_spl, ex_low, Option.toList, List.cons_append, List.nil_append, if_pos, reduceIte, Int.reduceToNat, Nat.reduceDiv, Nat.reduceMod, Nat.reduceAdd, Nat.reduceMul, z_0, z_1, z_10, z_01, reduceCtorEq, ite_true, ite_false, true_and, and_true, bI_z, bI_n, ↓bI_01, ↓zret0, ↓zret1, z_add, z_sub, z_mul, up_1, up_2, not_true, not_false_iff, if_true, if_false, if_neg, z_lt, z_le, z_eq])
  refine key.trans ?_
  (try dsimp only)
  rw [kb_9_5]
  simp (disch := omega) only [m_tsize tb_21, hsz, ev_iload, ev_aload, rx_istore, ev_iinc, ev_push, ev_ior, ev_goto, ev_jsr, ev_icmp_eq, ev_icmp_ge, ev_getf, ev_callv, nr_i, nr_r, nr_l, nr_n, rx_iret, kb_9_0, kb_9_42, kb_9_48, kr_9, kf_20_0, kf_29_0, List.getD_cons_zero, List.getD_cons_succ, List.set_cons_zero, List.set_cons_succ, ex_spl, ex_low, Option.toList, List.cons_append, List.nil_append, if_pos, reduceIte, Int.reduceToNat, Nat.reduceDiv, Nat.reduceMod, Nat.reduceAdd, Nat.reduceMul, z_0, z_1, z_10, z_01, reduceCtorEq, ite_true, ite_false, true_and, and_true, bI_z, bI_n, ↓bI_01, ↓zret0, ↓zret1, z_add, z_sub, z_mul, up_1, up_2, not_true, not_false_iff, if_true, if_false, if_neg, z_lt, z_le, z_eq]
  rfl
theorem m_thingAt {d : Nat} {A : AS} {w : PW} (hV : q_v0 A) (hC : rC A w) {c : Int} (c0 : 0 ≤ c) (c1 : c < A 0 15) : ex_cal (d + 5) 10 [.ref 20, .ref 5, .int (Int32.ofInt c)] w = some (some (.int (Int32.ofInt (q_ta A c))), w) := by
  have hr := q_rng hV
  obtain ⟨-, -, -, -, -, ht21, -⟩ := id hC
  have hsz : w.1 21 2 = Int32.ofInt (A 0 5) := ht21.2.1
  rw [ke_10 kc_20]
  simp (disch := omega) only [ev_iload, ev_aload, rx_istore, ev_iinc, ev_push, ev_iand, ev_ishr, ev_goto, ev_jsr, ev_icmp_ge, ev_if_eq, ev_getf, ev_callv, nr_i, nr_r, nr_l, nr_n, rx_iret, kb_10_0, kb_10_36, kb_10_42, kr_10, kf_20_0, kf_29_0, List.getD_cons_zero, List.getD_cons_succ, List.set_cons_zero, List.set_cons_succ, ex_spl, ex_low, Option.toList, List.cons_append, List.nil_append, if_pos, reduceIte, Int.reduceToNat, Nat.reduceDiv, Nat.reduceMod, Nat.reduceAdd, Nat.reduceMul, z_0, z_1, z_10, z_01, reduceCtorEq, ite_true, ite_false, true_and, and_true, bI_z, bI_n, ↓bI_01, ↓zret0, ↓zret1, z_add, z_sub, z_mul, up_1, up_2, not_true, not_false_iff, if_true, if_false, if_neg, z_lt, z_le, z_eq]
  refine ex_loop (Q := fun r => r = some (some (.int (Int32.ofInt (q_ta A c))), w)) (fun i s => s = (ex_blk 10 2, [.ref 20, .ref 5, .int (Int32.ofInt c), .int (Int32.ofInt (i : Int))], [], w) ∧ ∀ u, 0 ≤ u → u < (i : Int) → ¬ q_at A u c) (A 0 5).toNat ?_ ?_ ?_
  · exact ⟨rfl, fun u h0 h1 => absurd h1 (by omega)⟩
  · rintro i s hi ⟨rfl, hn⟩
    obtain ⟨f1, f2, f3, f4, f5, f6, f7⟩ := hV.2.2.2.1.2.2 i (by omega) (by omega)
    have hb := q_at_b hV.1 hV.2.2.2.1 (t := i) (x := c) (by omega) (by omega) c0 (by omega)
    by_cases ha : q_at A i c
    · left
      rw [q_ta_i (t := i) (Or.inr ⟨by omega, by omega, ha, hn⟩), kb_10_2]
      have hb2 : ¬ (q_sp A (A 5 (5 * i)) (A 5 (5 * i + 1)) (A 5 (5 * i + 2)) >>> (Int32.ofInt c &&& 31)) &&& Int32.ofInt 1 = Int32.ofInt 0 := hb.2 ha
      simp (disch := omega) only [m_tsize tb_21, hsz, m_dkind hV hC, m_dplace hV hC, m_spot hV.1 hC.1, hb2, ev_iload, ev_aload, rx_istore, ev_iinc, ev_push, ev_iand, ev_ishr, ev_goto, ev_jsr, ev_icmp_ge, ev_if_eq, ev_getf, ev_callv, nr_i, nr_r, nr_l, nr_n, rx_iret, kb_10_0, kb_10_36, kb_10_42, kr_10, kf_20_0, kf_29_0, List.getD_cons_zero, List.getD_cons_succ, List.set_cons_zero, List.set_cons_succ, ex_spl, ex_low, Option.toList, List.cons_append, List.nil_append, if_pos, reduceIte, Int.reduceToNat, Nat.reduceDiv, Nat.reduceMod, Nat.reduceAdd, Nat.reduceMul, z_0, z_1, z_10, z_01, reduceCtorEq, ite_true, ite_false, true_and, and_true, bI_z, bI_n, ↓bI_01, ↓zret0, ↓zret1, z_add, z_sub, z_mul, up_1, up_2, not_true, not_false_iff, if_true, if_false, if_neg, z_lt, z_le, z_eq]
    · right
      have hb2 : (q_sp A (A 5 (5 * i)) (A 5 (5 * i + 1)) (A 5 (5 * i + 2)) >>> (Int32.ofInt c &&& 31)) &&& Int32.ofInt 1 = Int32.ofInt 0 := Classical.not_not.1 (fun hh => ha (hb.1 hh))
      refine ⟨(ex_blk 10 2, [.ref 20, .ref 5, .int (Int32.ofInt c), .int (Int32.ofInt ((i : Int) + 1))], [], w), ?_, rfl, fun u h0 h1 => ?_⟩
      · conv => lhs; rw [kb_10_2]
        simp (disch := omega) only [m_tsize tb_21, hsz, m_dkind hV hC, m_dplace hV hC, m_spot hV.1 hC.1, hb2, ev_iload, ev_aload, rx_istore, ev_iinc, ev_push, ev_iand, ev_ishr, ev_goto, ev_jsr, ev_icmp_ge, ev_if_eq, ev_getf, ev_callv, nr_i, nr_r, nr_l, nr_n, rx_iret, kb_10_0, kb_10_36, kb_10_42, kr_10, kf_20_0, kf_29_0, List.getD_cons_zero, List.getD_cons_succ, List.set_cons_zero, List.set_cons_succ, ex_spl, ex_low, Option.toList, List.cons_append, List.nil_append, if_pos, reduceIte, Int.reduceToNat, Nat.reduceDiv, Nat.reduceMod, Nat.reduceAdd, Nat.reduceMul, z_0, z_1, z_10, z_01, reduceCtorEq, ite_true, ite_false, true_and, and_true, bI_z, bI_n, ↓bI_01, ↓zret0, ↓zret1, z_add, z_sub, z_mul, up_1, up_2, not_true, not_false_iff, if_true, if_false, if_neg, z_lt, z_le, z_eq]
      · by_cases hu : u = i
        · rw [hu]; exact ha
        · exact hn u h0 (by omega)
  · rintro s ⟨rfl, hn⟩
    rw [q_ta_i (t := -1) (Or.inl ⟨rfl, fun u u0 u1 => hn u u0 (by omega)⟩), kb_10_2]
    simp (disch := omega) only [m_tsize tb_21, hsz, ev_iload, ev_aload, rx_istore, ev_iinc, ev_push, ev_iand, ev_ishr, ev_goto, ev_jsr, ev_icmp_ge, ev_if_eq, ev_getf, ev_callv, nr_i, nr_r, nr_l, nr_n, rx_iret, kb_10_0, kb_10_36, kb_10_42, kr_10, kf_20_0, kf_29_0, List.getD_cons_zero, List.getD_cons_succ, List.set_cons_zero, List.set_cons_succ, ex_spl, ex_low, Option.toList, List.cons_append, List.nil_append, if_pos, reduceIte, Int.reduceToNat, Nat.reduceDiv, Nat.reduceMod, Nat.reduceAdd, Nat.reduceMul, z_0, z_1, z_10, z_01, reduceCtorEq, ite_true, ite_false, true_and, and_true, bI_z, bI_n, ↓bI_01, ↓zret0, ↓zret1, z_add, z_sub, z_mul, up_1, up_2, not_true, not_false_iff, if_true, if_false, if_neg, z_lt, z_le, z_eq]
theorem q_ta_r {A : AS} {c : Int} (h : q_v0 A) : q_ta A c = -1 ∨ (0 ≤ q_ta A c ∧ q_ta A c < A 0 5 ∧ q_at A (q_ta A c) c) := by
  have hr := q_rng h
  have hx : ∃ t, q_ist A c t := by
    obtain ⟨m, h1, h2, h3⟩ := ex_fst (fun n => q_at A n c) (A 0 5).toNat
    by_cases hm : m < (A 0 5).toNat
    · exact ⟨m, Or.inr ⟨by omega, by omega, h3 hm, fun u u0 u1 => by have := h2 u.toNat (by omega); rwa [Int.toNat_of_nonneg u0] at this⟩⟩
    · exact ⟨-1, Or.inl ⟨rfl, fun u u0 u1 => by have := h2 u.toNat (by omega); rwa [Int.toNat_of_nonneg u0] at this⟩⟩
  rcases Classical.epsilon_spec hx with ⟨a, b⟩ | ⟨a, b, c, e⟩
  · exact Or.inl a
  · exact Or.inr ⟨a, b, c⟩
theorem q_ta_n {A : AS} {c : Int} (h : q_v0 A) : q_ta A c = -1 ↔ ∀ u, 0 ≤ u → u < A 0 5 → ¬ q_at A u c := by
  have hx : ∃ t, q_ist A c t := by
    obtain ⟨m, h1, h2, h3⟩ := ex_fst (fun n => q_at A n c) (A 0 5).toNat
    have hr := q_rng h
    by_cases hm : m < (A 0 5).toNat
    · exact ⟨m, Or.inr ⟨by omega, by omega, h3 hm, fun u u0 u1 => by have := h2 u.toNat (by omega); rwa [Int.toNat_of_nonneg u0] at this⟩⟩
    · exact ⟨-1, Or.inl ⟨rfl, fun u u0 u1 => by have := h2 u.toNat (by omega); rwa [Int.toNat_of_nonneg u0] at this⟩⟩
  have hs : q_ist A c (q_ta A c) := Classical.epsilon_spec hx
  constructor
  · intro hn
    rcases hs with ⟨a, b⟩ | ⟨a, b, c, e⟩
    · exact b
    · omega
  · intro hn
    exact q_ta_i (Or.inl ⟨rfl, hn⟩)
theorem m_eventBroken {d : Nat} {A : AS} {w : PW} (hV : q_v0 A) (hC : rC A w) {e b : Int} (e0 : 0 ≤ e) (e1 : e < A 0 4) (b0 : -3 ≤ b) (b1 : b ≤ 3) : ex_cal (d + 5) 138 [.ref 0, .int (Int32.ofInt e), .int (Int32.ofInt b)] w = some (some (.int (q_br A b (A 4 (5 * e + 1)) (A 4 (5 * e)) (A 4 (5 * e + 2)) (A 4 (5 * e + 3)) (A 4 (5 * e + 4)))), w) := by
  have hr := q_rng hV
  obtain ⟨f1, f2, f3, f4, f5, f6, ⟨f7, f8, f9⟩, f10, f11⟩ := hV.2.2.2.2.1.2.2 e e0 e1
  obtain ⟨⟨⟨⟨h511, h512, h513⟩, ⟨hk, hro, hco, hli⟩⟩, ⟨hbe, hah, hbs, hos⟩⟩, hdo, ⟨h010, h011, h09, h11⟩, hpc, ht18, ht21, ht23, ht25, ht27, ht30, ht32, ht34, ht36⟩ := id hC
  rw [ke_138 kc_0]
  simp (disch := omega) only [m_tget tb_23 ht23, m_broken hV hC, Int.add_zero, ev_iload, ev_aload, rx_istore, rx_astore, ev_push, ev_iadd, ev_imul, ev_getf, ev_callv, nr_i, nr_r, nr_l, nr_n, rx_iret, kb_138_0, kr_138, kf_20_1, kf_29_1, kf_0_643, kf_0_644, kf_0_645, List.getD_cons_zero, List.getD_cons_succ, List.set_cons_zero, List.set_cons_succ, ex_spl, ex_low, Option.toList, List.cons_append, List.nil_append, if_pos, reduceIte, Int.reduceToNat, Nat.reduceDiv, Nat.reduceMod, Nat.reduceAdd, Nat.reduceMul, z_0, z_1, z_10, z_01, reduceCtorEq, ite_true, ite_false, true_and, and_true, bI_z, bI_n, ↓bI_01, ↓zret0, ↓zret1, z_add, z_sub, z_mul, up_1, up_2, not_true, not_false_iff, if_true, if_false, if_neg, z_lt, z_le, z_eq]
