/-! the class reads a HOUSE: letters, cells, what is beside what -/
def rHC (w : PW) (s : HS) : Prop := match s with
  | (r, wd, c, l, K, L) => w.1 5 11 = Int32.ofInt (r * wd + c) ∧ (∀ i, 0 ≤ i → i < r * wd + c → w.1 6 i.toNat = Int32.ofInt (K i)) ∧ (∀ i, 0 ≤ i → i < r * wd + c → w.1 7 i.toNat = Int32.ofInt (if r = 0 then 0 else i / wd)) ∧ (∀ i, 0 ≤ i → i < r * wd + c → w.1 8 i.toNat = Int32.ofInt (if r = 0 then i else i % wd)) ∧ (∀ i, 0 ≤ i → i < r → w.1 9 i.toNat = Int32.ofInt (L i)) ∧ (l = 1 → w.1 9 r.toNat = Int32.ofInt (L r))
theorem m_psz {d : Nat} {w : PW} {n : Int} (h : w.1 1 1 = Int32.ofInt n) : ex_cal (d + 1) 56 [.ref 1] w = some (some (.int (Int32.ofInt n)), w) := by
  rw [ke_56 kc_1]
  simp (disch := omega) only [h, ev_aload, ev_getf, nr_i, nr_r, nr_l, nr_n, rx_iret, kb_56_0, kr_56, kf_1_449, List.getD_cons_zero, List.getD_cons_succ, List.set_cons_zero, List.set_cons_succ, ex_spl, ex_low, Option.toList, List.cons_append, List.nil_append, reduceIte, Int.reduceToNat, Nat.reduceDiv, Nat.reduceMod, Nat.reduceAdd, Nat.reduceMul, z_0, z_1, z_10, z_01, reduceCtorEq, ite_true, ite_false, true_and, and_true, ↓bI_01, ↓bP_01, ↓zret0, ↓zret1, z_add, z_sub, z_mul, up_1, up_2, not_true, not_false_iff, if_true, if_false, Bool.true_and, bI_T, bI_F, bP_T, bP_F, or_true, true_or, or_false, false_or, Int.reduceNeg, Int.reduceAdd, Int.reduceSub, Int.reduceMul, Int.reduceEq, Int.reduceLT, Int.reduceLE, Int.natCast_add, Int.cast_ofNat_Int]
theorem m_pcd {d : Nat} {w : PW} {n i x : Int} (h : w.1 1 1 = Int32.ofInt n) (i0 : 0 ≤ i) (i1 : i < n) (n1 : n ≤ 40) (hp : w.1 2 i.toNat = Int32.ofInt x) : ex_cal (d + 2) 57 [.ref 1, .int (Int32.ofInt i)] w = some (some (.int (Int32.ofInt x)), w) := by
  rw [ke_57 kc_1]
  simp (disch := omega) only [h, m_below, bI_t, bI_f, hp, ev_iload, ev_aload, ev_push, ev_goto, ev_jsr, rx_zeq_t, rx_zeq_f, ev_getf, ev_iald, ev_call, nr_i, nr_r, nr_l, nr_n, kA_2, kA_6, kA_7, kA_8, kA_9, kA_10, kA_11, kA_12, kA_13, kA_14, kA_15, kA_16, kA_19, kA_22, kA_24, kA_26, kA_28, kA_31, kA_33, kA_39, kA_40, kA_43, kA_44, kA_45, cg_83, rx_iret, kb_57_0, kb_57_20, kb_57_21, kr_57, kf_1_448, kf_1_449, List.getD_cons_zero, List.getD_cons_succ, List.set_cons_zero, List.set_cons_succ, ex_spl, ex_low, Option.toList, List.cons_append, List.nil_append, reduceIte, Int.reduceToNat, Nat.reduceDiv, Nat.reduceMod, Nat.reduceAdd, Nat.reduceMul, z_0, z_1, z_10, z_01, reduceCtorEq, ite_true, ite_false, true_and, and_true, ↓bI_01, ↓bP_01, ↓zret0, ↓zret1, z_add, z_sub, z_mul, up_1, up_2, not_true, not_false_iff, if_true, if_false, Bool.true_and, bI_T, bI_F, bP_T, bP_F, or_true, true_or, or_false, false_or, Int.reduceNeg, Int.reduceAdd, Int.reduceSub, Int.reduceMul, Int.reduceEq, Int.reduceLT, Int.reduceLE, Int.natCast_add, Int.cast_ofNat_Int]
theorem m_setLine {d : Nat} {w : PW} {r c : Int} (r0 : 0 ≤ r) (r1 : r ≤ 3) : ex_cal (d + 2) 7 [.ref 5, .int (Int32.ofInt r), .int (Int32.ofInt c)] w = some (none, ex_up w 9 r.toNat (Int32.ofInt c)) := by
  rw [ke_7 kc_5]
  simp (disch := omega) only [m_below, bI_t, bI_f, ev_iload, ev_aload, ev_push, ev_jsr, rx_zeq_t, rx_zeq_f, ev_getf, ev_call, nr_i, nr_r, nr_l, nr_n, kS_2, kS_6, kS_7, kS_8, kS_9, kS_10, kS_11, kS_12, kS_13, kS_14, kS_15, kS_16, kS_19, kS_22, kS_24, kS_26, kS_28, kS_31, kS_33, kS_39, kS_40, kS_43, kS_44, kS_45, cg_83, rx_vret, kb_7_0, kb_7_15, kr_7, kf_5_67, List.getD_cons_zero, List.getD_cons_succ, List.set_cons_zero, List.set_cons_succ, ex_spl, ex_low, Option.toList, List.cons_append, List.nil_append, reduceIte, Int.reduceToNat, Nat.reduceDiv, Nat.reduceMod, Nat.reduceAdd, Nat.reduceMul, z_0, z_1, z_10, z_01, reduceCtorEq, ite_true, ite_false, true_and, and_true, ↓bI_01, ↓bP_01, ↓zret0, ↓zret1, z_add, z_sub, z_mul, up_1, up_2, not_true, not_false_iff, if_true, if_false, Bool.true_and, bI_T, bI_F, bP_T, bP_F, or_true, true_or, or_false, false_or, Int.reduceNeg, Int.reduceAdd, Int.reduceSub, Int.reduceMul, Int.reduceEq, Int.reduceLT, Int.reduceLE, Int.natCast_add, Int.cast_ofNat_Int]
theorem m_addCell {d : Nat} {w : PW} {n x r c : Int} (hn : w.1 5 11 = Int32.ofInt n) (n0 : 0 ≤ n) (n1 : n < 24) (hx : x = 46 ∨ x = 35 ∨ x = 100) : ex_cal (d + 1) 8 [.ref 5, .int (Int32.ofInt x), .int (Int32.ofInt r), .int (Int32.ofInt c)] w = some (none, ex_up (ex_up (ex_up (ex_up w 6 n.toNat (Int32.ofInt (q_kd1 x))) 7 n.toNat (Int32.ofInt r)) 8 n.toNat (Int32.ofInt c)) 5 11 (Int32.ofInt (n + 1))) := by
  rw [ke_8 kc_5]
  rcases hx with e | e | e <;> subst e <;> simp only [q_kd1, reduceIte, Int.reduceEq] <;> simp (disch := omega) only [hn, up_n, up_e, ev_iload, ev_aload, ev_push, ev_iadd, ev_dup_r, ev_dup_i, ev_goto, ev_jsr, rx_ine_t, rx_ine_f, rx_ilt_t, rx_ilt_f, ev_getf, ev_putf, nr_i, nr_r, nr_l, nr_n, kS_2, kS_6, kS_7, kS_8, kS_9, kS_10, kS_11, kS_12, kS_13, kS_14, kS_15, kS_16, kS_19, kS_22, kS_24, kS_26, kS_28, kS_31, kS_33, kS_39, kS_40, kS_43, kS_44, kS_45, rx_vret, kb_8_0, kb_8_10, kb_8_29, kb_8_47, kb_8_48, kb_8_49, kr_8, kf_5_64, kf_5_65, kf_5_66, kf_5_75, kk_5_75, List.getD_cons_zero, List.getD_cons_succ, List.set_cons_zero, List.set_cons_succ, ex_spl, ex_low, Option.toList, List.cons_append, List.nil_append, reduceIte, Int.reduceToNat, Nat.reduceDiv, Nat.reduceMod, Nat.reduceAdd, Nat.reduceMul, z_0, z_1, z_10, z_01, reduceCtorEq, ite_true, ite_false, true_and, and_true, ↓bI_01, ↓bP_01, ↓zret0, ↓zret1, z_add, z_sub, z_mul, up_2, not_true, not_false_iff, if_true, if_false, Bool.true_and, bI_T, bI_F, bP_T, bP_F, or_true, true_or, or_false, false_or, Int.reduceNeg, Int.reduceAdd, Int.reduceSub, Int.reduceMul, Int.reduceEq, Int.reduceLT, Int.reduceLE, Int.natCast_add, Int.cast_ofNat_Int]
theorem q_row {r c wd : Int} (c0 : 0 ≤ c) (c1 : c < wd) : (r * wd + c) / wd = r ∧ (r * wd + c) % wd = c := by
  constructor
  · rw [Int.add_comm, Int.add_mul_ediv_right _ _ (by omega), Int.ediv_eq_zero_of_lt c0 c1]; omega
  · rw [Int.add_comm, Int.add_mul_emod_self_right, Int.emod_eq_of_lt c0 c1]
theorem rHC_cell {w : PW} {r wd c l : Int} {K L : Int → Int} {k : Int} (hR : rHC w (r, wd, c, l, K, L)) (n0 : 0 ≤ r * wd) (c0 : 0 ≤ c) (r0 : 0 ≤ r) (hw0 : r = 0 → wd = 0) (hw1 : 0 < r → c < wd) : rHC (ex_up (ex_up (ex_up (ex_up w 6 (r * wd + c).toNat (Int32.ofInt k)) 7 (r * wd + c).toNat (Int32.ofInt r)) 8 (r * wd + c).toNat (Int32.ofInt c)) 5 11 (Int32.ofInt (r * wd + c + 1))) (r, wd, c + 1, l, q_fu K (r * wd + c) k, L) := by
  obtain ⟨h1, h2, h3, h4, h5, h6⟩ := hR
  refine ⟨?_, fun i i0 i1 => ?_, fun i i0 i1 => ?_, fun i i0 i1 => ?_, fun i i0 i1 => ?_, fun h => ?_⟩
  · rw [up_e (by omega)]; congr 1; omega
  · rw [up_n (by omega), up_n (by omega), up_n (by omega)]
    by_cases hi : i = r * wd + c
    · rw [hi, up_e (by omega), q_fu_s]
    · rw [up_n (by omega), q_fu_o hi]; exact h2 i i0 (by omega)
  · rw [up_n (by omega), up_n (by omega)]
    by_cases hi : i = r * wd + c
    · rw [hi, up_e (by omega)]
      by_cases h0 : r = 0
      · rw [if_pos h0, h0]
      · rw [if_neg h0, (q_row c0 (hw1 (by omega))).1]
    · rw [up_n (by omega), up_n (by omega)]; exact h3 i i0 (by omega)
  · rw [up_n (by omega)]
    by_cases hi : i = r * wd + c
    · rw [hi, up_e (by omega)]
      by_cases h0 : r = 0
      · rw [if_pos h0, h0, Int.zero_mul, Int.zero_add]
      · rw [if_neg h0, (q_row c0 (hw1 (by omega))).2]
    · rw [up_n (by omega), up_n (by omega), up_n (by omega)]; exact h4 i i0 (by omega)
  · rw [up_n (by omega), up_n (by omega), up_n (by omega), up_n (by omega)]; exact h5 i i0 i1
  · rw [up_n (by omega), up_n (by omega), up_n (by omega), up_n (by omega)]; exact h6 h
theorem rHC_line {w : PW} {r wd c l : Int} {K L : Int → Int} (hR : rHC w (r, wd, c, l, K, L)) (r0 : 0 ≤ r) : rHC (ex_up w 9 r.toNat (Int32.ofInt c)) (r, wd, c, 1, K, q_fu L r c) := by
  obtain ⟨h1, h2, h3, h4, h5, h6⟩ := hR
  refine ⟨?_, fun i i0 i1 => ?_, fun i i0 i1 => ?_, fun i i0 i1 => ?_, fun i i0 i1 => ?_, fun h => ?_⟩
  · rw [up_n (by omega)]; exact h1
  · rw [up_n (by omega)]; exact h2 i i0 i1
  · rw [up_n (by omega)]; exact h3 i i0 i1
  · rw [up_n (by omega)]; exact h4 i i0 i1
  · rw [up_n (by omega), q_fu_o (by omega)]; exact h5 i i0 i1
  · rw [up_e (by omega), q_fu_s]
theorem rHC_end {w : PW} {r wd c l : Int} {K L : Int → Int} (hR : rHC w (r, wd, c, l, K, L)) (r0 : 0 ≤ r) (hl : l = 1) (hw0 : r = 0 → wd = 0) (hw1 : 0 < r → c = wd) : rHC w (r + 1, c, 0, 0, K, L) := by
  obtain ⟨h1, h2, h3, h4, h5, h6⟩ := hR
  have e : (r + 1) * c + 0 = r * wd + c := by
    by_cases h0 : r = 0
    · rw [hw0 h0, h0]; omega
    · rw [hw1 (by omega), Int.add_mul, Int.one_mul]; omega
  refine ⟨by rw [e]; exact h1, fun i i0 i1 => ?_, fun i i0 i1 => ?_, fun i i0 i1 => ?_, fun i i0 i1 => ?_, fun h => absurd h (by omega)⟩
  · rw [e] at i1; exact h2 i i0 i1
  · rw [e] at i1
    rw [h3 i i0 i1, if_neg (show ¬ r + 1 = 0 by omega)]
    by_cases h0 : r = 0
    · rw [h0, Int.zero_mul, Int.zero_add] at i1
      rw [if_pos h0, Int.ediv_eq_zero_of_lt i0 i1]
    · rw [if_neg h0, hw1 (by omega)]
  · rw [e] at i1
    rw [h4 i i0 i1, if_neg (show ¬ r + 1 = 0 by omega)]
    by_cases h0 : r = 0
    · rw [h0, Int.zero_mul, Int.zero_add] at i1
      rw [if_pos h0, Int.emod_eq_of_lt i0 i1]
    · rw [if_neg h0, hw1 (by omega)]
  · by_cases hi : i = r
    · rw [hi]; exact h6 hl
    · exact h5 i i0 (by omega)
/-! what is beside what -/
theorem rK_o {A : AS} {w w' : PW} (h : rK A w) (e : ∀ a k, 5 ≤ a → a < 10 → w'.1 a k = w.1 a k) : rK A w' := by
  obtain ⟨⟨h1, h2, h3⟩, ⟨hk, hro, hco, hli⟩⟩ := h
  refine ⟨⟨by rw [e _ _ (by omega) (by omega)]; exact h1, by rw [e _ _ (by omega) (by omega)]; exact h2, by rw [e _ _ (by omega) (by omega)]; exact h3⟩, ⟨fun k k0 k1 => ?_, fun k k0 k1 => ?_, fun k k0 k1 => ?_, fun k k0 k1 => ?_⟩⟩
  · rw [e _ _ (by omega) (by omega)]; exact hk k k0 k1
  · rw [e _ _ (by omega) (by omega)]; exact hro k k0 k1
  · rw [e _ _ (by omega) (by omega)]; exact hco k k0 k1
  · rw [e _ _ (by omega) (by omega)]; exact hli k k0 k1
theorem rK_u {A : AS} {w : PW} {o k : Nat} {x : Int32} (h : rK A w) (ho : 10 ≤ o) : rK A (ex_up w o k x) := rK_o h fun a k' h1 h2 => up_n (by omega)
theorem m_cellAt {d : Nat} {A : AS} {w : PW} (hV : q_vh A) (hK : rK A w) {r k : Int} (r0 : -2 ≤ r) (r1 : r ≤ 30) (k0 : -2 ≤ k) (k1 : k ≤ 30) : ex_cal (d + 2) 11 [.ref 5, .int (Int32.ofInt r), .int (Int32.ofInt k)] w = some (some (.int (Int32.ofInt (if 0 ≤ r ∧ r < A 0 0 ∧ 0 ≤ k ∧ k < A 0 1 then r * A 0 1 + k else -1))), w) := by
  have hr := q_rnh hV
  obtain ⟨⟨h511, h512, h513⟩, ⟨hk, hro, hco, hli⟩⟩ := id hK
  rw [ke_11 kc_5]
  by_cases h1 : 0 ≤ r ∧ r < A 0 0
  · by_cases h2 : 0 ≤ k ∧ k < A 0 1
    · rw [if_pos ⟨h1.1, h1.2, h2.1, h2.2⟩]
      simp (disch := omega) only [h512, h513, m_below, bI_t, bI_f, ev_iload, ev_aload, ev_push, ev_iadd, ev_imul, ev_goto, ev_jsr, rx_zeq_t, rx_zeq_f, ev_getf, ev_call, nr_i, nr_r, nr_l, nr_n, cg_83, rx_iret, kb_11_0, kb_11_33, kb_11_34, kr_11, kf_5_76, kf_5_77, List.getD_cons_zero, List.getD_cons_succ, List.set_cons_zero, List.set_cons_succ, ex_spl, ex_low, Option.toList, List.cons_append, List.nil_append, reduceIte, Int.reduceToNat, Nat.reduceDiv, Nat.reduceMod, Nat.reduceAdd, Nat.reduceMul, z_0, z_1, z_10, z_01, reduceCtorEq, ite_true, ite_false, true_and, and_true, ↓bI_01, ↓bP_01, ↓zret0, ↓zret1, z_add, z_sub, z_mul, up_1, up_2, not_true, not_false_iff, if_true, if_false, Bool.true_and, bI_T, bI_F, bP_T, bP_F, or_true, true_or, or_false, false_or, Int.reduceNeg, Int.reduceAdd, Int.reduceSub, Int.reduceMul, Int.reduceEq, Int.reduceLT, Int.reduceLE, Int.natCast_add, Int.cast_ofNat_Int]
    · rw [if_neg (fun h => h2 h.2.2)]
      simp (disch := omega) only [h512, h513, m_below, bI_t, bI_f, ev_iload, ev_aload, ev_push, ev_iadd, ev_imul, ev_goto, ev_jsr, rx_zeq_t, rx_zeq_f, ev_getf, ev_call, nr_i, nr_r, nr_l, nr_n, cg_83, rx_iret, kb_11_0, kb_11_33, kb_11_34, kr_11, kf_5_76, kf_5_77, List.getD_cons_zero, List.getD_cons_succ, List.set_cons_zero, List.set_cons_succ, ex_spl, ex_low, Option.toList, List.cons_append, List.nil_append, reduceIte, Int.reduceToNat, Nat.reduceDiv, Nat.reduceMod, Nat.reduceAdd, Nat.reduceMul, z_0, z_1, z_10, z_01, reduceCtorEq, ite_true, ite_false, true_and, and_true, ↓bI_01, ↓bP_01, ↓zret0, ↓zret1, z_add, z_sub, z_mul, up_1, up_2, not_true, not_false_iff, if_true, if_false, Bool.true_and, bI_T, bI_F, bP_T, bP_F, or_true, true_or, or_false, false_or, Int.reduceNeg, Int.reduceAdd, Int.reduceSub, Int.reduceMul, Int.reduceEq, Int.reduceLT, Int.reduceLE, Int.natCast_add, Int.cast_ofNat_Int]
  · rw [if_neg (fun h => h1 ⟨h.1, h.2.1⟩)]
    simp (disch := omega) only [h512, h513, m_below, bI_t, bI_f, ev_iload, ev_aload, ev_push, ev_iadd, ev_imul, ev_goto, ev_jsr, rx_zeq_t, rx_zeq_f, ev_getf, ev_call, nr_i, nr_r, nr_l, nr_n, cg_83, rx_iret, kb_11_0, kb_11_33, kb_11_34, kr_11, kf_5_76, kf_5_77, List.getD_cons_zero, List.getD_cons_succ, List.set_cons_zero, List.set_cons_succ, ex_spl, ex_low, Option.toList, List.cons_append, List.nil_append, reduceIte, Int.reduceToNat, Nat.reduceDiv, Nat.reduceMod, Nat.reduceAdd, Nat.reduceMul, z_0, z_1, z_10, z_01, reduceCtorEq, ite_true, ite_false, true_and, and_true, ↓bI_01, ↓bP_01, ↓zret0, ↓zret1, z_add, z_sub, z_mul, up_1, up_2, not_true, not_false_iff, if_true, if_false, Bool.true_and, bI_T, bI_F, bP_T, bP_F, or_true, true_or, or_false, false_or, Int.reduceNeg, Int.reduceAdd, Int.reduceSub, Int.reduceMul, Int.reduceEq, Int.reduceLT, Int.reduceLE, Int.natCast_add, Int.cast_ofNat_Int]
theorem m_jtail {d : Nat} {A : AS} {w : PW} (hV : q_vh A) (hK : rK A w) {p c v n : Int} (p0 : 0 ≤ p) (p1 : p < 96) (c0 : 0 ≤ c) (c1 : c < 24) (v0 : 0 ≤ v) (v1 : v < 4) (n0 : -1 ≤ n) (n1 : n < 24) : ex_ev (d + 2) (ex_cal (d + 2)) 10 (ex_blk 10 41, [.ref 5, .int (Int32.ofInt p), .int (Int32.ofInt c), .int (Int32.ofInt v), .int (Int32.ofInt n)], [], w) = some (none, ex_up (ex_up (ex_up (ex_up w 10 p.toNat (Int32.ofInt n)) 11 p.toNat (Int32.ofInt (q_if (q_op A n) n c))) 12 p.toNat (q_iw (q_fl A c ∧ q_fl A n) (q_b c ||| q_b n) (Int32.ofInt 0))) 13 p.toNat (q_iw (q_fl A c ∧ v = 0) (q_b c) (Int32.ofInt 0))) := by
  have hK1 : ∀ x, rK A (ex_up w 10 p.toNat x) := fun x => rK_u hK (by omega)
  have hK2 : ∀ x y, rK A (ex_up (ex_up w 10 p.toNat x) 11 p.toNat y) := fun x y => rK_u (hK1 x) (by omega)
  have hK3 : ∀ x y z, rK A (ex_up (ex_up (ex_up w 10 p.toNat x) 11 p.toNat y) 12 p.toNat z) := fun x y z => rK_u (hK2 x y) (by omega)
  rw [kb_10_41]
  by_cases h1 : q_op A n
  · have b1 : bI (q_op A n) = Int32.ofInt 1 := bI_t h1
    rw [q_if_t h1]
    by_cases h2 : q_fl A c
    · have b2 : bI (q_fl A c) = Int32.ofInt 1 := bI_t h2
      by_cases h3 : q_fl A n
      · have b3 : bI (q_fl A n) = Int32.ofInt 1 := bI_t h3
        rw [q_iw_t (show q_fl A c ∧ q_fl A n from ⟨h2, h3⟩)]
        by_cases h4 : v = 0
        · rw [q_iw_t (show q_fl A c ∧ v = 0 from ⟨h2, h4⟩)]
          simp (disch := omega) only [m_isOpen hV (hK1 _), m_isFloor hV (hK2 _ _), m_isFloor hV (hK3 _ _ _), b1, b2, b3, q_b, ev_iload, ev_aload, rx_istore, ev_push, ev_iadd, ev_ior, ev_ishl, ev_goto, ev_jsr, rx_ige_t, rx_ige_f, rx_zeq_t, rx_zeq_f, rx_zne_t, rx_zne_f, ev_getf, ev_gets, ev_iald, ev_callv, nr_i, nr_r, nr_l, nr_n, kA_2, kA_6, kA_7, kA_8, kA_9, kA_10, kA_11, kA_12, kA_13, kA_14, kA_15, kA_16, kA_19, kA_22, kA_24, kA_26, kA_28, kA_31, kA_33, kA_39, kA_40, kA_43, kA_44, kA_45, kS_2, kS_6, kS_7, kS_8, kS_9, kS_10, kS_11, kS_12, kS_13, kS_14, kS_15, kS_16, kS_19, kS_22, kS_24, kS_26, kS_28, kS_31, kS_33, kS_39, kS_40, kS_43, kS_44, kS_45, kA_1000, kA_1001, gs_1000, gs_1001, rx_vret, kb_10_0, kb_10_68, kb_10_69, kb_10_103, kb_10_104, kb_10_128, kb_10_129, kr_10, kf_5_65, kf_5_66, kf_5_68, kf_5_69, kf_5_70, kf_5_71, kf_5_75, List.getD_cons_zero, List.getD_cons_succ, List.set_cons_zero, List.set_cons_succ, ex_spl, ex_low, Option.toList, List.cons_append, List.nil_append, reduceIte, Int.reduceToNat, Nat.reduceDiv, Nat.reduceMod, Nat.reduceAdd, Nat.reduceMul, z_0, z_1, z_10, z_01, reduceCtorEq, ite_true, ite_false, true_and, and_true, ↓bI_01, ↓bP_01, ↓zret0, ↓zret1, z_add, z_sub, z_mul, up_1, up_2, not_true, not_false_iff, if_true, if_false, Bool.true_and, bI_T, bI_F, bP_T, bP_F, or_true, true_or, or_false, false_or, Int.reduceNeg, Int.reduceAdd, Int.reduceSub, Int.reduceMul, Int.reduceEq, Int.reduceLT, Int.reduceLE, Int.natCast_add, Int.cast_ofNat_Int]
        · rw [q_iw_f (show ¬ (q_fl A c ∧ v = 0) from fun h => h4 h.2)]
          simp (disch := omega) only [m_isOpen hV (hK1 _), m_isFloor hV (hK2 _ _), m_isFloor hV (hK3 _ _ _), b1, b2, b3, q_b, ev_iload, ev_aload, rx_istore, ev_push, ev_iadd, ev_ior, ev_ishl, ev_goto, ev_jsr, rx_ige_t, rx_ige_f, rx_zeq_t, rx_zeq_f, rx_zne_t, rx_zne_f, ev_getf, ev_gets, ev_iald, ev_callv, nr_i, nr_r, nr_l, nr_n, kA_2, kA_6, kA_7, kA_8, kA_9, kA_10, kA_11, kA_12, kA_13, kA_14, kA_15, kA_16, kA_19, kA_22, kA_24, kA_26, kA_28, kA_31, kA_33, kA_39, kA_40, kA_43, kA_44, kA_45, kS_2, kS_6, kS_7, kS_8, kS_9, kS_10, kS_11, kS_12, kS_13, kS_14, kS_15, kS_16, kS_19, kS_22, kS_24, kS_26, kS_28, kS_31, kS_33, kS_39, kS_40, kS_43, kS_44, kS_45, kA_1000, kA_1001, gs_1000, gs_1001, rx_vret, kb_10_0, kb_10_68, kb_10_69, kb_10_103, kb_10_104, kb_10_128, kb_10_129, kr_10, kf_5_65, kf_5_66, kf_5_68, kf_5_69, kf_5_70, kf_5_71, kf_5_75, List.getD_cons_zero, List.getD_cons_succ, List.set_cons_zero, List.set_cons_succ, ex_spl, ex_low, Option.toList, List.cons_append, List.nil_append, reduceIte, Int.reduceToNat, Nat.reduceDiv, Nat.reduceMod, Nat.reduceAdd, Nat.reduceMul, z_0, z_1, z_10, z_01, reduceCtorEq, ite_true, ite_false, true_and, and_true, ↓bI_01, ↓bP_01, ↓zret0, ↓zret1, z_add, z_sub, z_mul, up_1, up_2, not_true, not_false_iff, if_true, if_false, Bool.true_and, bI_T, bI_F, bP_T, bP_F, or_true, true_or, or_false, false_or, Int.reduceNeg, Int.reduceAdd, Int.reduceSub, Int.reduceMul, Int.reduceEq, Int.reduceLT, Int.reduceLE, Int.natCast_add, Int.cast_ofNat_Int]
      · have b3 : bI (q_fl A n) = Int32.ofInt 0 := bI_f h3
        rw [q_iw_f (show ¬ (q_fl A c ∧ q_fl A n) from fun h => h3 h.2)]
        by_cases h4 : v = 0
        · rw [q_iw_t (show q_fl A c ∧ v = 0 from ⟨h2, h4⟩)]
          simp (disch := omega) only [m_isOpen hV (hK1 _), m_isFloor hV (hK2 _ _), m_isFloor hV (hK3 _ _ _), b1, b2, b3, q_b, ev_iload, ev_aload, rx_istore, ev_push, ev_iadd, ev_ior, ev_ishl, ev_goto, ev_jsr, rx_ige_t, rx_ige_f, rx_zeq_t, rx_zeq_f, rx_zne_t, rx_zne_f, ev_getf, ev_gets, ev_iald, ev_callv, nr_i, nr_r, nr_l, nr_n, kA_2, kA_6, kA_7, kA_8, kA_9, kA_10, kA_11, kA_12, kA_13, kA_14, kA_15, kA_16, kA_19, kA_22, kA_24, kA_26, kA_28, kA_31, kA_33, kA_39, kA_40, kA_43, kA_44, kA_45, kS_2, kS_6, kS_7, kS_8, kS_9, kS_10, kS_11, kS_12, kS_13, kS_14, kS_15, kS_16, kS_19, kS_22, kS_24, kS_26, kS_28, kS_31, kS_33, kS_39, kS_40, kS_43, kS_44, kS_45, kA_1000, kA_1001, gs_1000, gs_1001, rx_vret, kb_10_0, kb_10_68, kb_10_69, kb_10_103, kb_10_104, kb_10_128, kb_10_129, kr_10, kf_5_65, kf_5_66, kf_5_68, kf_5_69, kf_5_70, kf_5_71, kf_5_75, List.getD_cons_zero, List.getD_cons_succ, List.set_cons_zero, List.set_cons_succ, ex_spl, ex_low, Option.toList, List.cons_append, List.nil_append, reduceIte, Int.reduceToNat, Nat.reduceDiv, Nat.reduceMod, Nat.reduceAdd, Nat.reduceMul, z_0, z_1, z_10, z_01, reduceCtorEq, ite_true, ite_false, true_and, and_true, ↓bI_01, ↓bP_01, ↓zret0, ↓zret1, z_add, z_sub, z_mul, up_1, up_2, not_true, not_false_iff, if_true, if_false, Bool.true_and, bI_T, bI_F, bP_T, bP_F, or_true, true_or, or_false, false_or, Int.reduceNeg, Int.reduceAdd, Int.reduceSub, Int.reduceMul, Int.reduceEq, Int.reduceLT, Int.reduceLE, Int.natCast_add, Int.cast_ofNat_Int]
        · rw [q_iw_f (show ¬ (q_fl A c ∧ v = 0) from fun h => h4 h.2)]
          simp (disch := omega) only [m_isOpen hV (hK1 _), m_isFloor hV (hK2 _ _), m_isFloor hV (hK3 _ _ _), b1, b2, b3, q_b, ev_iload, ev_aload, rx_istore, ev_push, ev_iadd, ev_ior, ev_ishl, ev_goto, ev_jsr, rx_ige_t, rx_ige_f, rx_zeq_t, rx_zeq_f, rx_zne_t, rx_zne_f, ev_getf, ev_gets, ev_iald, ev_callv, nr_i, nr_r, nr_l, nr_n, kA_2, kA_6, kA_7, kA_8, kA_9, kA_10, kA_11, kA_12, kA_13, kA_14, kA_15, kA_16, kA_19, kA_22, kA_24, kA_26, kA_28, kA_31, kA_33, kA_39, kA_40, kA_43, kA_44, kA_45, kS_2, kS_6, kS_7, kS_8, kS_9, kS_10, kS_11, kS_12, kS_13, kS_14, kS_15, kS_16, kS_19, kS_22, kS_24, kS_26, kS_28, kS_31, kS_33, kS_39, kS_40, kS_43, kS_44, kS_45, kA_1000, kA_1001, gs_1000, gs_1001, rx_vret, kb_10_0, kb_10_68, kb_10_69, kb_10_103, kb_10_104, kb_10_128, kb_10_129, kr_10, kf_5_65, kf_5_66, kf_5_68, kf_5_69, kf_5_70, kf_5_71, kf_5_75, List.getD_cons_zero, List.getD_cons_succ, List.set_cons_zero, List.set_cons_succ, ex_spl, ex_low, Option.toList, List.cons_append, List.nil_append, reduceIte, Int.reduceToNat, Nat.reduceDiv, Nat.reduceMod, Nat.reduceAdd, Nat.reduceMul, z_0, z_1, z_10, z_01, reduceCtorEq, ite_true, ite_false, true_and, and_true, ↓bI_01, ↓bP_01, ↓zret0, ↓zret1, z_add, z_sub, z_mul, up_1, up_2, not_true, not_false_iff, if_true, if_false, Bool.true_and, bI_T, bI_F, bP_T, bP_F, or_true, true_or, or_false, false_or, Int.reduceNeg, Int.reduceAdd, Int.reduceSub, Int.reduceMul, Int.reduceEq, Int.reduceLT, Int.reduceLE, Int.natCast_add, Int.cast_ofNat_Int]
    · have b2 : bI (q_fl A c) = Int32.ofInt 0 := bI_f h2
      rw [q_iw_f (show ¬ (q_fl A c ∧ q_fl A n) from fun h => h2 h.1), q_iw_f (show ¬ (q_fl A c ∧ v = 0) from fun h => h2 h.1)]
      simp (disch := omega) only [m_isOpen hV (hK1 _), m_isFloor hV (hK2 _ _), m_isFloor hV (hK3 _ _ _), b1, b2, q_b, ev_iload, ev_aload, rx_istore, ev_push, ev_iadd, ev_ior, ev_ishl, ev_goto, ev_jsr, rx_ige_t, rx_ige_f, rx_zeq_t, rx_zeq_f, rx_zne_t, rx_zne_f, ev_getf, ev_gets, ev_iald, ev_callv, nr_i, nr_r, nr_l, nr_n, kA_2, kA_6, kA_7, kA_8, kA_9, kA_10, kA_11, kA_12, kA_13, kA_14, kA_15, kA_16, kA_19, kA_22, kA_24, kA_26, kA_28, kA_31, kA_33, kA_39, kA_40, kA_43, kA_44, kA_45, kS_2, kS_6, kS_7, kS_8, kS_9, kS_10, kS_11, kS_12, kS_13, kS_14, kS_15, kS_16, kS_19, kS_22, kS_24, kS_26, kS_28, kS_31, kS_33, kS_39, kS_40, kS_43, kS_44, kS_45, kA_1000, kA_1001, gs_1000, gs_1001, rx_vret, kb_10_0, kb_10_68, kb_10_69, kb_10_103, kb_10_104, kb_10_128, kb_10_129, kr_10, kf_5_65, kf_5_66, kf_5_68, kf_5_69, kf_5_70, kf_5_71, kf_5_75, List.getD_cons_zero, List.getD_cons_succ, List.set_cons_zero, List.set_cons_succ, ex_spl, ex_low, Option.toList, List.cons_append, List.nil_append, reduceIte, Int.reduceToNat, Nat.reduceDiv, Nat.reduceMod, Nat.reduceAdd, Nat.reduceMul, z_0, z_1, z_10, z_01, reduceCtorEq, ite_true, ite_false, true_and, and_true, ↓bI_01, ↓bP_01, ↓zret0, ↓zret1, z_add, z_sub, z_mul, up_1, up_2, not_true, not_false_iff, if_true, if_false, Bool.true_and, bI_T, bI_F, bP_T, bP_F, or_true, true_or, or_false, false_or, Int.reduceNeg, Int.reduceAdd, Int.reduceSub, Int.reduceMul, Int.reduceEq, Int.reduceLT, Int.reduceLE, Int.natCast_add, Int.cast_ofNat_Int]
  · have b1 : bI (q_op A n) = Int32.ofInt 0 := bI_f h1
    rw [q_if_f h1]
    have h3 : ¬ q_fl A n := fun h => h1 ⟨h.1, h.2.1, by have := h.2.2; omega⟩
    have b3 : bI (q_fl A n) = Int32.ofInt 0 := bI_f h3
    rw [q_iw_f (show ¬ (q_fl A c ∧ q_fl A n) from fun h => h3 h.2)]
    by_cases h2 : q_fl A c
    · have b2 : bI (q_fl A c) = Int32.ofInt 1 := bI_t h2
      by_cases h4 : v = 0
      · rw [q_iw_t (show q_fl A c ∧ v = 0 from ⟨h2, h4⟩)]
        simp (disch := omega) only [m_isOpen hV (hK1 _), m_isFloor hV (hK2 _ _), m_isFloor hV (hK3 _ _ _), b1, b2, b3, q_b, ev_iload, ev_aload, rx_istore, ev_push, ev_iadd, ev_ior, ev_ishl, ev_goto, ev_jsr, rx_ige_t, rx_ige_f, rx_zeq_t, rx_zeq_f, rx_zne_t, rx_zne_f, ev_getf, ev_gets, ev_iald, ev_callv, nr_i, nr_r, nr_l, nr_n, kA_2, kA_6, kA_7, kA_8, kA_9, kA_10, kA_11, kA_12, kA_13, kA_14, kA_15, kA_16, kA_19, kA_22, kA_24, kA_26, kA_28, kA_31, kA_33, kA_39, kA_40, kA_43, kA_44, kA_45, kS_2, kS_6, kS_7, kS_8, kS_9, kS_10, kS_11, kS_12, kS_13, kS_14, kS_15, kS_16, kS_19, kS_22, kS_24, kS_26, kS_28, kS_31, kS_33, kS_39, kS_40, kS_43, kS_44, kS_45, kA_1000, kA_1001, gs_1000, gs_1001, rx_vret, kb_10_0, kb_10_68, kb_10_69, kb_10_103, kb_10_104, kb_10_128, kb_10_129, kr_10, kf_5_65, kf_5_66, kf_5_68, kf_5_69, kf_5_70, kf_5_71, kf_5_75, List.getD_cons_zero, List.getD_cons_succ, List.set_cons_zero, List.set_cons_succ, ex_spl, ex_low, Option.toList, List.cons_append, List.nil_append, reduceIte, Int.reduceToNat, Nat.reduceDiv, Nat.reduceMod, Nat.reduceAdd, Nat.reduceMul, z_0, z_1, z_10, z_01, reduceCtorEq, ite_true, ite_false, true_and, and_true, ↓bI_01, ↓bP_01, ↓zret0, ↓zret1, z_add, z_sub, z_mul, up_1, up_2, not_true, not_false_iff, if_true, if_false, Bool.true_and, bI_T, bI_F, bP_T, bP_F, or_true, true_or, or_false, false_or, Int.reduceNeg, Int.reduceAdd, Int.reduceSub, Int.reduceMul, Int.reduceEq, Int.reduceLT, Int.reduceLE, Int.natCast_add, Int.cast_ofNat_Int]
      · rw [q_iw_f (show ¬ (q_fl A c ∧ v = 0) from fun h => h4 h.2)]
        simp (disch := omega) only [m_isOpen hV (hK1 _), m_isFloor hV (hK2 _ _), m_isFloor hV (hK3 _ _ _), b1, b2, b3, q_b, ev_iload, ev_aload, rx_istore, ev_push, ev_iadd, ev_ior, ev_ishl, ev_goto, ev_jsr, rx_ige_t, rx_ige_f, rx_zeq_t, rx_zeq_f, rx_zne_t, rx_zne_f, ev_getf, ev_gets, ev_iald, ev_callv, nr_i, nr_r, nr_l, nr_n, kA_2, kA_6, kA_7, kA_8, kA_9, kA_10, kA_11, kA_12, kA_13, kA_14, kA_15, kA_16, kA_19, kA_22, kA_24, kA_26, kA_28, kA_31, kA_33, kA_39, kA_40, kA_43, kA_44, kA_45, kS_2, kS_6, kS_7, kS_8, kS_9, kS_10, kS_11, kS_12, kS_13, kS_14, kS_15, kS_16, kS_19, kS_22, kS_24, kS_26, kS_28, kS_31, kS_33, kS_39, kS_40, kS_43, kS_44, kS_45, kA_1000, kA_1001, gs_1000, gs_1001, rx_vret, kb_10_0, kb_10_68, kb_10_69, kb_10_103, kb_10_104, kb_10_128, kb_10_129, kr_10, kf_5_65, kf_5_66, kf_5_68, kf_5_69, kf_5_70, kf_5_71, kf_5_75, List.getD_cons_zero, List.getD_cons_succ, List.set_cons_zero, List.set_cons_succ, ex_spl, ex_low, Option.toList, List.cons_append, List.nil_append, reduceIte, Int.reduceToNat, Nat.reduceDiv, Nat.reduceMod, Nat.reduceAdd, Nat.reduceMul, z_0, z_1, z_10, z_01, reduceCtorEq, ite_true, ite_false, true_and, and_true, ↓bI_01, ↓bP_01, ↓zret0, ↓zret1, z_add, z_sub, z_mul, up_1, up_2, not_true, not_false_iff, if_true, if_false, Bool.true_and, bI_T, bI_F, bP_T, bP_F, or_true, true_or, or_false, false_or, Int.reduceNeg, Int.reduceAdd, Int.reduceSub, Int.reduceMul, Int.reduceEq, Int.reduceLT, Int.reduceLE, Int.natCast_add, Int.cast_ofNat_Int]
    · have b2 : bI (q_fl A c) = Int32.ofInt 0 := bI_f h2
      rw [q_iw_f (show ¬ (q_fl A c ∧ v = 0) from fun h => h2 h.1)]
      simp (disch := omega) only [m_isOpen hV (hK1 _), m_isFloor hV (hK2 _ _), m_isFloor hV (hK3 _ _ _), b1, b2, q_b, ev_iload, ev_aload, rx_istore, ev_push, ev_iadd, ev_ior, ev_ishl, ev_goto, ev_jsr, rx_ige_t, rx_ige_f, rx_zeq_t, rx_zeq_f, rx_zne_t, rx_zne_f, ev_getf, ev_gets, ev_iald, ev_callv, nr_i, nr_r, nr_l, nr_n, kA_2, kA_6, kA_7, kA_8, kA_9, kA_10, kA_11, kA_12, kA_13, kA_14, kA_15, kA_16, kA_19, kA_22, kA_24, kA_26, kA_28, kA_31, kA_33, kA_39, kA_40, kA_43, kA_44, kA_45, kS_2, kS_6, kS_7, kS_8, kS_9, kS_10, kS_11, kS_12, kS_13, kS_14, kS_15, kS_16, kS_19, kS_22, kS_24, kS_26, kS_28, kS_31, kS_33, kS_39, kS_40, kS_43, kS_44, kS_45, kA_1000, kA_1001, gs_1000, gs_1001, rx_vret, kb_10_0, kb_10_68, kb_10_69, kb_10_103, kb_10_104, kb_10_128, kb_10_129, kr_10, kf_5_65, kf_5_66, kf_5_68, kf_5_69, kf_5_70, kf_5_71, kf_5_75, List.getD_cons_zero, List.getD_cons_succ, List.set_cons_zero, List.set_cons_succ, ex_spl, ex_low, Option.toList, List.cons_append, List.nil_append, reduceIte, Int.reduceToNat, Nat.reduceDiv, Nat.reduceMod, Nat.reduceAdd, Nat.reduceMul, z_0, z_1, z_10, z_01, reduceCtorEq, ite_true, ite_false, true_and, and_true, ↓bI_01, ↓bP_01, ↓zret0, ↓zret1, z_add, z_sub, z_mul, up_1, up_2, not_true, not_false_iff, if_true, if_false, Bool.true_and, bI_T, bI_F, bP_T, bP_F, or_true, true_or, or_false, false_or, Int.reduceNeg, Int.reduceAdd, Int.reduceSub, Int.reduceMul, Int.reduceEq, Int.reduceLT, Int.reduceLE, Int.natCast_add, Int.cast_ofNat_Int]
theorem m_joinPlace {d : Nat} {A : AS} {w : PW} (hV : q_vh A) (hK : rK A w) {c v : Int} (c0 : 0 ≤ c) (c1 : c < 24) (v0 : 0 ≤ v) (v1 : v < 4) : ∃ x y, ex_cal (d + 3) 10 [.ref 5, .int (Int32.ofInt (4 * c + v)), .int (Int32.ofInt c), .int (Int32.ofInt v)] w = some (none, ex_up (ex_up (ex_up (ex_up w 10 (4 * c + v).toNat (Int32.ofInt x)) 11 (4 * c + v).toNat (Int32.ofInt y)) 12 (4 * c + v).toNat (q_sp A 1 c v)) 13 (4 * c + v).toNat (q_sp A 0 c v)) ∧ (c < A 0 15 → x = q_nx A c v ∧ y = q_ah A c v) := by
  have hr := q_rnh hV
  have hK' := hK
  obtain ⟨⟨h511, h512, h513⟩, ⟨hk, hro, hco, hli⟩⟩ := id hK
  by_cases hc : c < A 0 15
  · have hd := q_dv hV c0 hc
    have e7 := hro c c0 hc
    have e8 := hco c c0 hc
    have hn := q_nxr hV c0 hc v
    have dn : -1 ≤ q_dn v ∧ q_dn v ≤ 1 := by unfold q_dn; split <;> (try split) <;> omega
    have rt : -1 ≤ q_rt v ∧ q_rt v ≤ 1 := by unfold q_rt; split <;> (try split) <;> omega
    have ec : ex_cal (d + 2) 11 [.ref 5, .int (Int32.ofInt (c / A 0 1 + q_dn v)), .int (Int32.ofInt (c % A 0 1 + q_rt v))] w = some (some (.int (Int32.ofInt (q_nx A c v))), w) := m_cellAt (d := d) hV hK' (by omega) (by omega) (by omega) (by omega)
    refine ⟨q_nx A c v, q_ah A c v, ?_, fun _ => ⟨rfl, rfl⟩⟩
    have ht := m_jtail (d := d) hV hK' (p := 4 * c + v) (c := c) (v := v) (n := q_nx A c v) (by omega) (by omega) c0 c1 v0 v1 (by omega) (by omega)
    rw [ke_10 kc_5]
    simp (disch := omega) only [h511, e7, e8, ec, ev_iload, ev_aload, rx_istore, ev_push, ev_iadd, ev_ior, ev_ishl, ev_goto, ev_jsr, rx_ige_t, rx_ige_f, rx_zeq_t, rx_zeq_f, rx_zne_t, rx_zne_f, ev_getf, ev_gets, ev_iald, ev_callv, nr_i, nr_r, nr_l, nr_n, kA_2, kA_6, kA_7, kA_8, kA_9, kA_10, kA_11, kA_12, kA_13, kA_14, kA_15, kA_16, kA_19, kA_22, kA_24, kA_26, kA_28, kA_31, kA_33, kA_39, kA_40, kA_43, kA_44, kA_45, kS_2, kS_6, kS_7, kS_8, kS_9, kS_10, kS_11, kS_12, kS_13, kS_14, kS_15, kS_16, kS_19, kS_22, kS_24, kS_26, kS_28, kS_31, kS_33, kS_39, kS_40, kS_43, kS_44, kS_45, kA_1000, kA_1001, gs_1000, gs_1001, rx_vret, kb_10_0, kb_10_68, kb_10_69, kb_10_103, kb_10_104, kb_10_128, kb_10_129, kr_10, kf_5_65, kf_5_66, kf_5_68, kf_5_69, kf_5_70, kf_5_71, kf_5_75, List.getD_cons_zero, List.getD_cons_succ, List.set_cons_zero, List.set_cons_succ, ex_spl, ex_low, Option.toList, List.cons_append, List.nil_append, reduceIte, Int.reduceToNat, Nat.reduceDiv, Nat.reduceMod, Nat.reduceAdd, Nat.reduceMul, z_0, z_1, z_10, z_01, reduceCtorEq, ite_true, ite_false, true_and, and_true, ↓bI_01, ↓bP_01, ↓zret0, ↓zret1, z_add, z_sub, z_mul, up_1, up_2, not_true, not_false_iff, if_true, if_false, Bool.true_and, bI_T, bI_F, bP_T, bP_F, or_true, true_or, or_false, false_or, Int.reduceNeg, Int.reduceAdd, Int.reduceSub, Int.reduceMul, Int.reduceEq, Int.reduceLT, Int.reduceLE, Int.natCast_add, Int.cast_ofNat_Int]
    exact ht
  · refine ⟨-1, c, ?_, fun h => absurd h hc⟩
    have ht := m_jtail (d := d) hV hK' (p := 4 * c + v) (c := c) (v := v) (n := -1) (by omega) (by omega) c0 c1 v0 v1 (by omega) (by omega)
    have s1 : q_sp A 1 c v = Int32.ofInt 0 := by
      unfold q_sp
      rw [if_pos rfl, q_iw_f (fun h => hc h.1.2.1)]
    have s0 : q_sp A 0 c v = Int32.ofInt 0 := by
      unfold q_sp
      rw [if_neg (by omega), q_iw_f (fun h => hc h.1.2.1)]
    rw [q_if_f (show ¬ q_op A (-1) from fun h => by have := h.1; omega), q_iw_f (show ¬ (q_fl A c ∧ q_fl A (-1)) from fun h => hc h.1.2.1), q_iw_f (show ¬ (q_fl A c ∧ v = 0) from fun h => hc h.1.2.1)] at ht
    rw [ke_10 kc_5, s1, s0]
    simp (disch := omega) only [h511, ev_iload, ev_aload, rx_istore, ev_push, ev_iadd, ev_ior, ev_ishl, ev_goto, ev_jsr, rx_ige_t, rx_ige_f, rx_zeq_t, rx_zeq_f, rx_zne_t, rx_zne_f, ev_getf, ev_gets, ev_iald, ev_callv, nr_i, nr_r, nr_l, nr_n, kA_2, kA_6, kA_7, kA_8, kA_9, kA_10, kA_11, kA_12, kA_13, kA_14, kA_15, kA_16, kA_19, kA_22, kA_24, kA_26, kA_28, kA_31, kA_33, kA_39, kA_40, kA_43, kA_44, kA_45, kS_2, kS_6, kS_7, kS_8, kS_9, kS_10, kS_11, kS_12, kS_13, kS_14, kS_15, kS_16, kS_19, kS_22, kS_24, kS_26, kS_28, kS_31, kS_33, kS_39, kS_40, kS_43, kS_44, kS_45, kA_1000, kA_1001, gs_1000, gs_1001, rx_vret, kb_10_0, kb_10_68, kb_10_69, kb_10_103, kb_10_104, kb_10_128, kb_10_129, kr_10, kf_5_65, kf_5_66, kf_5_68, kf_5_69, kf_5_70, kf_5_71, kf_5_75, List.getD_cons_zero, List.getD_cons_succ, List.set_cons_zero, List.set_cons_succ, ex_spl, ex_low, Option.toList, List.cons_append, List.nil_append, reduceIte, Int.reduceToNat, Nat.reduceDiv, Nat.reduceMod, Nat.reduceAdd, Nat.reduceMul, z_0, z_1, z_10, z_01, reduceCtorEq, ite_true, ite_false, true_and, and_true, ↓bI_01, ↓bP_01, ↓zret0, ↓zret1, z_add, z_sub, z_mul, up_1, up_2, not_true, not_false_iff, if_true, if_false, Bool.true_and, bI_T, bI_F, bP_T, bP_F, or_true, true_or, or_false, false_or, Int.reduceNeg, Int.reduceAdd, Int.reduceSub, Int.reduceMul, Int.reduceEq, Int.reduceLT, Int.reduceLE, Int.natCast_add, Int.cast_ofNat_Int]
    exact ht
theorem m_joinCells {d : Nat} {A : AS} {w : PW} (hV : q_vh A) (hK : rK A w) : ∃ w', ex_cal (d + 4) 9 [.ref 5] w = some (none, w') ∧ (∀ a k, ¬ (10 ≤ a ∧ a < 14) → w'.1 a k = w.1 a k) ∧ rCn A w' := by
  have hr := q_rnh hV
  rw [ke_9 kc_5]
  simp (disch := omega) only [ev_iload, ev_aload, rx_istore, ev_iinc, ev_push, ev_iand, ev_ishr, ev_goto, ev_jsr, rx_ige_t, rx_ige_f, ev_callv, nr_i, nr_r, nr_l, nr_n, rx_vret, kb_9_0, kb_9_25, kr_9, List.getD_cons_zero, List.getD_cons_succ, List.set_cons_zero, List.set_cons_succ, ex_spl, ex_low, Option.toList, List.cons_append, List.nil_append, reduceIte, Int.reduceToNat, Nat.reduceDiv, Nat.reduceMod, Nat.reduceAdd, Nat.reduceMul, z_0, z_1, z_10, z_01, reduceCtorEq, ite_true, ite_false, true_and, and_true, ↓bI_01, ↓bP_01, ↓zret0, ↓zret1, z_add, z_sub, z_mul, up_1, up_2, not_true, not_false_iff, if_true, if_false, Bool.true_and, bI_T, bI_F, bP_T, bP_F, or_true, true_or, or_false, false_or, Int.reduceNeg, Int.reduceAdd, Int.reduceSub, Int.reduceMul, Int.reduceEq, Int.reduceLT, Int.reduceLE, Int.natCast_add, Int.cast_ofNat_Int]
  refine ex_loop (Q := fun q => ∃ w', q = some (none, w') ∧ (∀ a k, ¬ (10 ≤ a ∧ a < 14) → w'.1 a k = w.1 a k) ∧ rCn A w') (fun i s => ∃ w1, s = (ex_blk 9 2, [.ref 5, .int (Int32.ofInt (i : Int))], [], w1) ∧ (∀ a k, ¬ (10 ≤ a ∧ a < 14) → w1.1 a k = w.1 a k) ∧ ∀ c v, 0 ≤ c → c < 24 → 0 ≤ v → v < 4 → 4 * c + v < (i : Int) → (c < A 0 15 → w1.1 10 (4 * c + v).toNat = Int32.ofInt (q_nx A c v) ∧ w1.1 11 (4 * c + v).toNat = Int32.ofInt (q_ah A c v)) ∧ w1.1 12 (4 * c + v).toNat = q_sp A 1 c v ∧ w1.1 13 (4 * c + v).toNat = q_sp A 0 c v) 96 ?_ ?_ ?_
  · exact ⟨w, rfl, fun _ _ _ => rfl, fun c v c0 c1 v0 v1 h => absurd h (by omega)⟩
  · rintro i s hi ⟨w1, rfl, ho, hf⟩
    right
    have hK1 : rK A w1 := rK_o hK fun a k h1 h2 => ho a k (by omega)
    obtain ⟨x, y, e, hxy⟩ := m_joinPlace (d := d) hV hK1 (c := (i : Int) / 4) (v := (i : Int) % 4) (by omega) (by omega) (by omega) (by omega)
    have ei : 4 * ((i : Int) / 4) + (i : Int) % 4 = (i : Int) := by omega
    rw [ei] at e
    refine ⟨(ex_blk 9 2, [.ref 5, .int (Int32.ofInt ((i : Int) + 1))], [], ex_up (ex_up (ex_up (ex_up w1 10 (i : Int).toNat (Int32.ofInt x)) 11 (i : Int).toNat (Int32.ofInt y)) 12 (i : Int).toNat (q_sp A 1 ((i : Int) / 4) ((i : Int) % 4))) 13 (i : Int).toNat (q_sp A 0 ((i : Int) / 4) ((i : Int) % 4))), ?_, _, rfl, ?_, ?_⟩
    · conv => lhs; rw [kb_9_2]
      simp (disch := omega) only [z_sh2, z_an3, e, ev_iload, ev_aload, rx_istore, ev_iinc, ev_push, ev_iand, ev_ishr, ev_goto, ev_jsr, rx_ige_t, rx_ige_f, ev_callv, nr_i, nr_r, nr_l, nr_n, rx_vret, kb_9_0, kb_9_25, kr_9, List.getD_cons_zero, List.getD_cons_succ, List.set_cons_zero, List.set_cons_succ, ex_spl, ex_low, Option.toList, List.cons_append, List.nil_append, reduceIte, Int.reduceToNat, Nat.reduceDiv, Nat.reduceMod, Nat.reduceAdd, Nat.reduceMul, z_0, z_1, z_10, z_01, reduceCtorEq, ite_true, ite_false, true_and, and_true, ↓bI_01, ↓bP_01, ↓zret0, ↓zret1, z_add, z_sub, z_mul, up_1, up_2, not_true, not_false_iff, if_true, if_false, Bool.true_and, bI_T, bI_F, bP_T, bP_F, or_true, true_or, or_false, false_or, Int.reduceNeg, Int.reduceAdd, Int.reduceSub, Int.reduceMul, Int.reduceEq, Int.reduceLT, Int.reduceLE, Int.natCast_add, Int.cast_ofNat_Int]
    · intro a k ha
      rw [up_n (by omega), up_n (by omega), up_n (by omega), up_n (by omega)]; exact ho a k ha
    · intro c v c0 c1 v0 v1 h
      by_cases hcv : 4 * c + v = (i : Int)
      · have hc : (i : Int) / 4 = c := by omega
        have hv : (i : Int) % 4 = v := by omega
        rw [hc, hv] at hxy ⊢
        rw [hcv]
        refine ⟨fun hl => ?_, ?_, ?_⟩
        · obtain ⟨h1, h2⟩ := hxy hl
          rw [up_n (by omega), up_n (by omega), up_n (by omega), up_e (by omega), up_n (by omega), up_n (by omega), up_e (by omega), h1, h2]
          exact ⟨rfl, rfl⟩
        · rw [up_n (by omega), up_e (by omega)]
        · rw [up_e (by omega)]
      · obtain ⟨h1, h2, h3⟩ := hf c v c0 c1 v0 v1 (by omega)
        refine ⟨fun hl => ?_, ?_, ?_⟩
        · rw [up_n (by omega), up_n (by omega), up_n (by omega), up_n (by omega), up_n (by omega), up_n (by omega), up_n (by omega), up_n (by omega)]
          exact h1 hl
        · rw [up_n (by omega), up_n (by omega), up_n (by omega), up_n (by omega)]; exact h2
        · rw [up_n (by omega), up_n (by omega), up_n (by omega), up_n (by omega)]; exact h3
  · rintro s ⟨w1, rfl, ho, hf⟩
    refine ⟨w1, ?_, ho, fun c v c0 c1 v0 v1 => ((hf c v c0 (by omega) v0 v1 (by omega)).1 c1).1, fun c v c0 c1 v0 v1 => ((hf c v c0 (by omega) v0 v1 (by omega)).1 c1).2, fun c v c0 c1 v0 v1 => (hf c v c0 c1 v0 v1 (by omega)).2.1, fun c v c0 c1 v0 v1 => (hf c v c0 c1 v0 v1 (by omega)).2.2⟩
    rw [kb_9_2]
    simp (disch := omega) only [ev_iload, ev_aload, rx_istore, ev_iinc, ev_push, ev_iand, ev_ishr, ev_goto, ev_jsr, rx_ige_t, rx_ige_f, ev_callv, nr_i, nr_r, nr_l, nr_n, rx_vret, kb_9_0, kb_9_25, kr_9, List.getD_cons_zero, List.getD_cons_succ, List.set_cons_zero, List.set_cons_succ, ex_spl, ex_low, Option.toList, List.cons_append, List.nil_append, reduceIte, Int.reduceToNat, Nat.reduceDiv, Nat.reduceMod, Nat.reduceAdd, Nat.reduceMul, z_0, z_1, z_10, z_01, reduceCtorEq, ite_true, ite_false, true_and, and_true, ↓bI_01, ↓bP_01, ↓zret0, ↓zret1, z_add, z_sub, z_mul, up_1, up_2, not_true, not_false_iff, if_true, if_false, Bool.true_and, bI_T, bI_F, bP_T, bP_F, or_true, true_or, or_false, false_or, Int.reduceNeg, Int.reduceAdd, Int.reduceSub, Int.reduceMul, Int.reduceEq, Int.reduceLT, Int.reduceLE, Int.natCast_add, Int.cast_ofNat_Int]

