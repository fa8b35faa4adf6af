/-! law() -/
theorem m_lfull {d : Nat} {A : AS} {w : PW} (hV : q_v0 A) (hC : rC A w) : ex_cal (d + 2) 47 [.ref 17] w = some (some (.int (bI (8 ≤ A 0 3))), w) := by
  have hr := q_rng hV
  obtain ⟨⟨⟨⟨h511, h512, h513⟩, ⟨hk, hro, hco, hli⟩⟩, ⟨hbe, hah, hbs, hos⟩⟩, hdo, ⟨h010, h011, h09, h11⟩, hpc, ht18, ht21, ht23, ht25, ht27, ht30, ht32, ht34, ht36⟩ := id hC
  rw [ke_47 kc_17]
  simp (disch := omega) only [m_tfull tb_18 ht18.2.1 ht18.1, ev_aload, ev_getf, ev_callv, nr_i, nr_r, nr_l, nr_n, rx_zret_t, rx_zretI, rx_zretP, kb_47_0, kr_47, kf_17_320, List.getD_cons_zero, List.getD_cons_succ, List.set_cons_zero, List.set_cons_succ, ex_spl, ex_low, Option.toList, List.cons_append, List.nil_append, reduceIte, Int.reduceToNat, Nat.reduceDiv, Nat.reduceMod, Nat.reduceAdd, Nat.reduceMul, z_0, z_1, z_10, z_01, reduceCtorEq, ite_true, ite_false, true_and, and_true, ↓bI_01, ↓bP_01, ↓zret0, ↓zret1, z_add, z_sub, z_mul, up_1, up_2, not_true, not_false_iff, if_true, if_false, Bool.true_and, bI_T, bI_F, bP_T, bP_F, or_true, true_or, or_false, false_or, Int.reduceNeg, Int.reduceAdd, Int.reduceSub, Int.reduceMul, Int.reduceEq, Int.reduceLT, Int.reduceLE, Int.natCast_add, Int.cast_ofNat_Int]
