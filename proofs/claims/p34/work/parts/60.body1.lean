/-! the law's body: the house -/
theorem h_hf {A B : AS} (h0 : B 0 0 = A 0 0) (h1 : B 0 1 = A 0 1) (h15 : B 0 15 = A 0 15) (hk : B 1 = A 1) (hl : B 2 = A 2) : q_do B = q_do A := by
  have e1 : q_nx B = q_nx A := by funext c v; unfold q_nx; rw [h0, h1]
  have e2 : ∀ c, q_op B c ↔ q_op A c := fun c => by
    show (0 ≤ c ∧ c < B 0 15 ∧ ¬ B 1 c = 1) ↔ (0 ≤ c ∧ c < A 0 15 ∧ ¬ A 1 c = 1)
    rw [h15, hk]
  have e3 : q_sd B = q_sd A := by funext b c; unfold q_sd; rw [h1, hl]
  have e4 : ∀ f t b, q_ed B f t b = q_ed A f t b := fun f t b => by
    funext u c s
    unfold q_ed
    rw [e1, e3]
    apply propext
    exact ⟨fun ⟨v, a1, a2, a3, a4, a5, a6⟩ => ⟨v, a1, a2, a3, a4, (e2 c).1 a5, a6⟩, fun ⟨v, a1, a2, a3, a4, a5, a6⟩ => ⟨v, a1, a2, a3, a4, (e2 c).2 a5, a6⟩⟩
  have e5 : q_st B = q_st A := by
    funext f c
    unfold q_st q_co
    rw [e4]
  have e6 : q_isd B = q_isd A := by
    funext c d
    unfold q_isd
    rw [e5, h15, hk]
  have e7 : q_dr B = q_dr A := by
    funext c
    unfold q_dr
    rw [e6, hk]
  funext c
  unfold q_do
  rw [e7]
/-- the house is the same -/
def q_hs (A B : AS) : Prop := B 0 0 = A 0 0 ∧ B 0 1 = A 0 1 ∧ B 0 15 = A 0 15 ∧ B 1 = A 1 ∧ B 2 = A 2 ∧ B 0 2 = A 0 2 ∧ B 0 5 = A 0 5
theorem lR_c {A B : AS} {w w1 : PW} (h : lR A w) (hs : q_hs A B) (ho : ∀ a k, (a = 46 ∨ a = 47 ∨ a = 48) → w1.1 a k = w.1 a k) (h49 : q_ar B w1 3 49 (5 * B 0 3)) : lR B w1 := by
  obtain ⟨⟨a1, a2, a3, a4⟩, -, a5⟩ := h
  have hd := h_hf hs.1 hs.2.1 hs.2.2.1 hs.2.2.2.1 hs.2.2.2.2.1
  obtain ⟨b1, b2, b3, b4, b5, -⟩ := hs
  refine ⟨⟨by rw [ho _ _ (by omega), b1]; exact a1, by rw [ho _ _ (by omega), b2]; exact a2, fun r r0 r1 => by rw [ho _ _ (by omega), b5]; exact a3 r r0 (by omega), fun k k0 k1 => by rw [ho _ _ (by omega), b4]; exact a4 k k0 (by omega)⟩, h49, fun c c0 c1 => by rw [ho _ _ (by omega), hd]; exact a5 c c0 (by omega)⟩
theorem lR_w {A : AS} {w w1 : PW} (h : lR A w) (ho : ∀ a k, (46 ≤ a ∧ a < 50) → w1.1 a k = w.1 a k) : lR A w1 :=
  lR_c h ⟨rfl, rfl, rfl, rfl, rfl, rfl, rfl⟩ (fun a k ha => ho a k (by omega)) fun k k0 k1 => by rw [ho _ _ (by omega)]; exact h.2.1 k k0 k1
theorem q_ta_0 {A : AS} (h : A 0 5 = 0) (c : Int) : q_ta A c = -1 := q_ta_i (Or.inl ⟨rfl, fun u u0 u1 => absurd u1 (by omega)⟩)
theorem q_ta_0c {A : AS} (h : A 0 5 = 0) (c : Int) : q_cell A c 2 = -1 := by
  unfold q_cell
  rw [if_neg (by omega), if_neg (by omega), if_pos rfl]
  exact q_ta_0 h c
theorem q_cell_0 {A : AS} {c : Int} : q_cell A c 0 = A 1 c := rfl
theorem q_cell_1 {A : AS} {c : Int} : q_cell A c 1 = q_sd A 0 c := rfl
theorem q_cell_3 {A : AS} {c : Int} : q_cell A c 3 = q_dr A c := rfl
/-- from the entry to the first loop -/
theorem b_start {d : Nat} {A : AS} {w : PW} (hz : w.2.2.1 ≤ 260) (hV : q_V A) (hC : rC A w) (h8 : A 0 8 = 0) (hb : A 0 2 < 1000000) (h3 : A 0 3 = 0) (hA2 : 0 ≤ A 0 2) : ∃ B w1, ex_ev (d + 10) (ex_cal (d + 10)) 104 (ex_blk 104 30, [.ref 2000, .ref 0, .ref 46, .ref 47, .ref 48, .ref 49, .null, .null, .null, .null, .null, .null, .null, .null, .null, .null, .null, .null, .null, .null, .null, .null, .null], [], w) = ex_ev (d + 10) (ex_cal (d + 10)) 104 (ex_blk 104 62, [.ref 2000, .ref 0, .ref 46, .ref 47, .ref 48, .ref 49, .int (Int32.ofInt (B 0 15)), .int (Int32.ofInt 0), .null, .null, .null, .null, .null, .null, .null, .null, .null, .null, .null, .null, .null, .null, .null], [], w1) ∧ q_V B ∧ rC B w1 ∧ lR B w1 ∧ w1.2.2 = w.2.2 ∧ w1.2.1 ≤ w.2.1 + 24 ∧ (B 0 2 = A 0 2 + 1 ∧ B 0 3 = 0 ∧ B 0 4 = 0 ∧ B 0 5 = 0 ∧ B 0 7 = 0 ∧ B 0 8 = 0 ∧ B 1 0 = 0 ∧ 0 < B 0 15) := by
  obtain ⟨B, w1, e1, hV1, hC1, ho1, hw1, hH1, f2, f3, f4, f5, f7, f8, f10⟩ := l_house (d := d) hz hV hC h8 hb
  have hr := q_rng hV1.1
  obtain ⟨w2, e2, ho2, hw2, hN⟩ := l_doors (d := d + 6) hV1.1.1 hH1
  have hcl : B 0 0 * B 0 1 = B 0 15 := hV1.1.1.2.2.1.symm
  obtain ⟨g0, g1, -, -⟩ := id hH1
  refine ⟨B, w2, ?_, hV1, rC_f hC1 fun a k ha => ho2 a k (by omega), ⟨lH_o hH1 fun a k ha => ho2 a k (by omega), fun k k0 k1 => absurd k1 (by omega), hN⟩, by rw [hw2, hw1], by rw [hw2, hw1]; show w.2.1 + (B 0 15).toNat ≤ _; omega, f2, by omega, f4, f5, f7, f8, f10⟩
  conv => lhs; rw [kb_104_30]
  simp (disch := omega) only [e1, g0, g1, hcl, e2, List.all_cons, List.all_nil, n51_i, n51_n, n51_0, n51_46, n51_47, n51_48, n51_49, n51_2000, Bool.and_true, ev_iload, ev_aload, rx_istore, rx_astore, ev_iinc, ev_push, ev_iadd, ev_isub, ev_imul, ev_iand, ev_ior, ev_ixor, ev_ishl, ev_ishr, rx_idiv, rx_irem, ev_dup2, ev_goto, ev_jsr, rx_ieq_t, rx_ieq_f, rx_ine_t, rx_ine_f, rx_ilt_t, rx_ilt_f, rx_ige_t, rx_ige_f, rx_zeq_t, rx_zeq_f, rx_zne_t, rx_zne_f, rx_zlt_t, rx_zlt_f, rx_zle_t, rx_zle_f, ev_iald, ev_call, ev_callv, nr_i, nr_r, nr_l, nr_n, kA_46, kA_47, kA_48, kA_49, kA_50, kA_51, kA_52, kS_46, kS_47, kS_48, kS_49, kS_50, kS_51, kS_52, cg_92, cg_95, cg_96, cg_98, cg_99, cg_101, cg_102, cg_103, rx_zret_t, rx_zretI, rx_zretP, kb_104_30, kb_104_43, kb_104_128, kb_104_130, kb_104_136, kb_104_149, kb_104_177, kb_104_180, kb_104_250, kb_104_255, kb_104_256, kb_104_259, kb_104_261, kb_104_267, kb_104_273, kb_104_291, kb_104_362, kb_104_380, kb_104_388, kb_104_452, kb_104_454, kb_104_502, kb_104_504, kb_104_529, kb_104_531, kb_104_555, kb_104_557, kb_104_560, kb_104_562, kb_104_631, kb_104_633, kb_104_636, kb_104_638, kb_104_667, kb_104_674, kb_104_690, kb_104_746, kb_104_754, kb_104_767, kb_104_812, kb_104_813, kb_104_822, kb_104_833, kb_104_843, kb_104_844, kb_104_858, kb_104_859, kb_104_867, kb_104_870, kb_104_898, kb_104_904, kb_104_910, kb_104_940, kb_104_942, kb_104_946, kb_104_958, kb_104_1026, kb_104_1030, kb_104_1034, kb_104_1043, kb_104_1056, kb_104_1062, kb_104_1093, kb_104_1140, kb_104_1148, kb_104_1167, kb_104_1171, kb_104_1197, kb_104_1205, kb_104_1214, kb_104_1220, kb_104_1291, kb_104_1363, kb_104_1429, kb_104_1491, kb_104_1542, kb_104_1546, kb_104_1547, kr_104, List.getD_cons_zero, List.getD_cons_succ, List.set_cons_zero, List.set_cons_succ, ex_spl, ex_low, Option.toList, List.cons_append, List.nil_append, reduceIte, Int.reduceToNat, Nat.reduceDiv, Nat.reduceMod, Nat.reduceAdd, Nat.reduceMul, z_0, z_1, z_10, z_01, reduceCtorEq, ite_true, ite_false, true_and, and_true, ↓bI_01, ↓bP_01, ↓zret0, ↓zret1, z_add, z_sub, z_mul, up_1, up_2, not_true, not_false_iff, if_true, if_false, Bool.true_and, bI_T, bI_F, bP_T, bP_F, or_true, true_or, or_false, false_or, Int.reduceNeg, Int.reduceAdd, Int.reduceSub, Int.reduceMul, Int.reduceEq, Int.reduceLT, Int.reduceLE, Int.natCast_add, Int.cast_ofNat_Int]
theorem b_cells {d : Nat} {A : AS} {w : PW} (hV : q_V A) (hC : rC A w) (hR : lR A w) (h5 : A 0 5 = 0) : ∃ w1, ex_ev (d + 10) (ex_cal (d + 10)) 104 (ex_blk 104 62, [.ref 2000, .ref 0, .ref 46, .ref 47, .ref 48, .ref 49, .int (Int32.ofInt (A 0 15)), .int (Int32.ofInt 0), .null, .null, .null, .null, .null, .null, .null, .null, .null, .null, .null, .null, .null, .null, .null], [], w) = ex_ev (d + 10) (ex_cal (d + 10)) 104 (ex_blk 104 136, [.ref 2000, .ref 0, .ref 46, .ref 47, .ref 48, .ref 49, .int (Int32.ofInt (A 0 15)), .int (Int32.ofInt (A 0 15)), .null, .null, .null, .null, .null, .null, .null, .null, .null, .null, .null, .null, .null, .null, .null], [], w1) ∧ rC A w1 ∧ lR A w1 ∧ w1.2.2 = w.2.2 ∧ w1.2.1 ≤ w.2.1 + 24 := by
  have hr := q_rng hV.1
  obtain ⟨s2, e2, w2, rfl, ho2, hw2⟩ := ex_iterI (d := d + 10) (cal := ex_cal (d + 10)) (y := 104) (s := (ex_blk 104 62, [.ref 2000, .ref 0, .ref 46, .ref 47, .ref 48, .ref 49, .int (Int32.ofInt (A 0 15)), .int (Int32.ofInt 0), .null, .null, .null, .null, .null, .null, .null, .null, .null, .null, .null, .null, .null, .null, .null], [], w)) (fun c s => ∃ w2, s = (ex_blk 104 62, [.ref 2000, .ref 0, .ref 46, .ref 47, .ref 48, .ref 49, .int (Int32.ofInt (A 0 15)), .int (Int32.ofInt (c : Int)), .null, .null, .null, .null, .null, .null, .null, .null, .null, .null, .null, .null, .null, .null, .null], [], w2) ∧ sO 51 w w2 ∧ w2.2 = (w.2.1 + c, w.2.2)) (a := 0) (n := (A 0 15).toNat) (Nat.zero_le _) ⟨w, rfl, sO_r 51 w, rfl⟩ (by
    rintro c s - hc ⟨w2, rfl, ho2, hw2⟩
    have c1 : (c : Int) < A 0 15 := by omega
    have hR2 := lR_w hR fun a k ha => ho2 a k (by omega)
    have hC2 := rC_f hC fun a k ha => ho2 a k (by omega)
    have hk := q_kd hV.1.1 (c := c) (by omega) c1
    have hs := q_sdr A 0 c
    have hd := q_dr_r hV.1.1 (c := c) (by omega) c1
    have ek := hR2.1.2.2.2 c (by omega) c1
    have a0 := c_cell (d := d + 3) hV hC2 (c := c) (k := 0) (by omega) c1 (by omega) (by omega)
    have a1 := c_cell (d := d + 3) hV hC2 (c := c) (k := 1) (by omega) c1 (by omega) (by omega)
    have a2 := c_cell (d := d + 3) hV hC2 (c := c) (k := 2) (by omega) c1 (by omega) (by omega)
    have a3 := c_cell (d := d + 3) hV hC2 (c := c) (k := 3) (by omega) c1 (by omega) (by omega)
    rw [q_cell_0] at a0
    rw [q_cell_1] at a1
    rw [q_ta_0c h5] at a2
    rw [q_cell_3] at a3
    have a4 := l_side (d := d + 9) hV.1.1 hR2.1 (c := c) (b := 0) (by omega) c1 (by omega) (by omega)
    obtain ⟨w3, e3, ho3, hw3⟩ := l_door (d := d + 7) hV.1.1 hR2.1 (c := c) (by omega) c1
    refine ⟨(ex_blk 104 62, [.ref 2000, .ref 0, .ref 46, .ref 47, .ref 48, .ref 49, .int (Int32.ofInt (A 0 15)), .int (Int32.ofInt ((c : Int) + 1)), .null, .null, .null, .null, .null, .null, .null, .null, .null, .null, .null, .null, .null, .null, .null], [], w3), ?_, w3, rfl, sO_t ho2 ho3, by rw [hw3, hw2]; rfl⟩
    conv => lhs; rw [kb_104_62]
    simp (disch := omega) only [a0, a1, a2, a3, a4, e3, ek, List.all_cons, List.all_nil, n51_i, n51_n, n51_0, n51_46, n51_47, n51_48, n51_49, n51_2000, Bool.and_true, ev_iload, ev_aload, rx_istore, rx_astore, ev_iinc, ev_push, ev_iadd, ev_isub, ev_imul, ev_iand, ev_ior, ev_ixor, ev_ishl, ev_ishr, rx_idiv, rx_irem, ev_dup2, ev_goto, ev_jsr, rx_ieq_t, rx_ieq_f, rx_ine_t, rx_ine_f, rx_ilt_t, rx_ilt_f, rx_ige_t, rx_ige_f, rx_zeq_t, rx_zeq_f, rx_zne_t, rx_zne_f, rx_zlt_t, rx_zlt_f, rx_zle_t, rx_zle_f, ev_iald, ev_call, ev_callv, nr_i, nr_r, nr_l, nr_n, kA_46, kA_47, kA_48, kA_49, kA_50, kA_51, kA_52, kS_46, kS_47, kS_48, kS_49, kS_50, kS_51, kS_52, cg_92, cg_95, cg_96, cg_98, cg_99, cg_101, cg_102, cg_103, rx_zret_t, rx_zretI, rx_zretP, kb_104_30, kb_104_43, kb_104_128, kb_104_130, kb_104_136, kb_104_149, kb_104_177, kb_104_180, kb_104_250, kb_104_255, kb_104_256, kb_104_259, kb_104_261, kb_104_267, kb_104_273, kb_104_291, kb_104_362, kb_104_380, kb_104_388, kb_104_452, kb_104_454, kb_104_502, kb_104_504, kb_104_529, kb_104_531, kb_104_555, kb_104_557, kb_104_560, kb_104_562, kb_104_631, kb_104_633, kb_104_636, kb_104_638, kb_104_667, kb_104_674, kb_104_690, kb_104_746, kb_104_754, kb_104_767, kb_104_812, kb_104_813, kb_104_822, kb_104_833, kb_104_843, kb_104_844, kb_104_858, kb_104_859, kb_104_867, kb_104_870, kb_104_898, kb_104_904, kb_104_910, kb_104_940, kb_104_942, kb_104_946, kb_104_958, kb_104_1026, kb_104_1030, kb_104_1034, kb_104_1043, kb_104_1056, kb_104_1062, kb_104_1093, kb_104_1140, kb_104_1148, kb_104_1167, kb_104_1171, kb_104_1197, kb_104_1205, kb_104_1214, kb_104_1220, kb_104_1291, kb_104_1363, kb_104_1429, kb_104_1491, kb_104_1542, kb_104_1546, kb_104_1547, kr_104, List.getD_cons_zero, List.getD_cons_succ, List.set_cons_zero, List.set_cons_succ, ex_spl, ex_low, Option.toList, List.cons_append, List.nil_append, reduceIte, Int.reduceToNat, Nat.reduceDiv, Nat.reduceMod, Nat.reduceAdd, Nat.reduceMul, z_0, z_1, z_10, z_01, reduceCtorEq, ite_true, ite_false, true_and, and_true, ↓bI_01, ↓bP_01, ↓zret0, ↓zret1, z_add, z_sub, z_mul, up_1, up_2, not_true, not_false_iff, if_true, if_false, Bool.true_and, bI_T, bI_F, bP_T, bP_F, or_true, true_or, or_false, false_or, Int.reduceNeg, Int.reduceAdd, Int.reduceSub, Int.reduceMul, Int.reduceEq, Int.reduceLT, Int.reduceLE, Int.natCast_add, Int.cast_ofNat_Int])
  rw [Int.toNat_of_nonneg (by omega)] at e2
  refine ⟨w2, e2.trans ?_, rC_f hC fun a k ha => ho2 a k (by omega), lR_w hR fun a k ha => ho2 a k (by omega), by rw [hw2], by rw [hw2]; show w.2.1 + (A 0 15).toNat ≤ _; omega⟩
  conv => lhs; rw [kb_104_62]
  simp (disch := omega) only [ev_iload, ev_aload, rx_istore, rx_astore, ev_iinc, ev_push, ev_iadd, ev_isub, ev_imul, ev_iand, ev_ior, ev_ixor, ev_ishl, ev_ishr, rx_idiv, rx_irem, ev_dup2, ev_goto, ev_jsr, rx_ieq_t, rx_ieq_f, rx_ine_t, rx_ine_f, rx_ilt_t, rx_ilt_f, rx_ige_t, rx_ige_f, rx_zeq_t, rx_zeq_f, rx_zne_t, rx_zne_f, rx_zlt_t, rx_zlt_f, rx_zle_t, rx_zle_f, ev_iald, ev_call, ev_callv, nr_i, nr_r, nr_l, nr_n, kA_46, kA_47, kA_48, kA_49, kA_50, kA_51, kA_52, kS_46, kS_47, kS_48, kS_49, kS_50, kS_51, kS_52, cg_92, cg_95, cg_96, cg_98, cg_99, cg_101, cg_102, cg_103, rx_zret_t, rx_zretI, rx_zretP, kb_104_30, kb_104_43, kb_104_128, kb_104_130, kb_104_149, kb_104_177, kb_104_180, kb_104_250, kb_104_255, kb_104_256, kb_104_259, kb_104_261, kb_104_267, kb_104_273, kb_104_291, kb_104_362, kb_104_380, kb_104_388, kb_104_452, kb_104_454, kb_104_502, kb_104_504, kb_104_529, kb_104_531, kb_104_555, kb_104_557, kb_104_560, kb_104_562, kb_104_631, kb_104_633, kb_104_636, kb_104_638, kb_104_667, kb_104_674, kb_104_690, kb_104_746, kb_104_754, kb_104_767, kb_104_812, kb_104_813, kb_104_822, kb_104_833, kb_104_843, kb_104_844, kb_104_858, kb_104_859, kb_104_867, kb_104_870, kb_104_898, kb_104_904, kb_104_910, kb_104_940, kb_104_942, kb_104_946, kb_104_958, kb_104_1026, kb_104_1030, kb_104_1034, kb_104_1043, kb_104_1056, kb_104_1062, kb_104_1093, kb_104_1140, kb_104_1148, kb_104_1167, kb_104_1171, kb_104_1197, kb_104_1205, kb_104_1214, kb_104_1220, kb_104_1291, kb_104_1363, kb_104_1429, kb_104_1491, kb_104_1542, kb_104_1546, kb_104_1547, kr_104, List.getD_cons_zero, List.getD_cons_succ, List.set_cons_zero, List.set_cons_succ, ex_spl, ex_low, Option.toList, List.cons_append, List.nil_append, reduceIte, Int.reduceToNat, Nat.reduceDiv, Nat.reduceMod, Nat.reduceAdd, Nat.reduceMul, z_0, z_1, z_10, z_01, reduceCtorEq, ite_true, ite_false, true_and, and_true, ↓bI_01, ↓bP_01, ↓zret0, ↓zret1, z_add, z_sub, z_mul, up_1, up_2, not_true, not_false_iff, if_true, if_false, Bool.true_and, bI_T, bI_F, bP_T, bP_F, or_true, true_or, or_false, false_or, Int.reduceNeg, Int.reduceAdd, Int.reduceSub, Int.reduceMul, Int.reduceEq, Int.reduceLT, Int.reduceLE, Int.natCast_add, Int.cast_ofNat_Int]
