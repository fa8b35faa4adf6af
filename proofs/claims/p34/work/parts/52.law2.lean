/-! costs: as class and reference have it, by what a cell gets from those beside it -/
theorem z_sh0 {c : Int} (h0 : 0 ≤ c) (h1 : c < 32) : (Int32.ofInt 0 >>> (Int32.ofInt c &&& 31)) &&& Int32.ofInt 1 = Int32.ofInt 0 := by
  have h := q_bt_0 h0 h1
  unfold q_bt at h
  exact Classical.byContradiction h
theorem q_fu_same {G : Int → Int} {c : Int} : q_fu G c (G c) = G := by
  funext i
  unfold q_fu
  split
  · rename_i h; rw [h]
  · rfl
theorem sO_e {o : Nat} {w w1 : PW} {k : Nat} {x : Int32} (h : sO o w w1) : sO o w (ex_up w1 o k x) := fun a b hab => by
  rw [up_1, if_neg (fun q => hab q.1)]
  exact h a b hab
theorem lH_o {A : AS} {w w1 : PW} (h : lH A w) (e : ∀ a k, a < 48 → w1.1 a k = w.1 a k) : lH A w1 := by
  obtain ⟨h1, h2, h3, h4⟩ := h
  exact ⟨by rw [e _ _ (by omega)]; exact h1, by rw [e _ _ (by omega)]; exact h2, fun r r0 r1 => by rw [e _ _ (by omega)]; exact h3 r r0 r1, fun k k0 k1 => by rw [e _ _ (by omega)]; exact h4 k k0 k1⟩
theorem lH_51 {A : AS} {w w1 : PW} (h : lH A w) (e : sO 51 w w1) : lH A w1 := lH_o h fun a k ha => e a k (by omega)
/-- edges without a toll -/
abbrev l_e (A : AS) (f : Int) : Int → Int → Int → Prop := q_ed A f 0 (fun _ => False)
theorem l_rc {A : AS} {f : Int} (hf : q_op A f) {c x : Int} (h : p_rc (l_e A f) f c x) : q_op A c := by
  obtain ⟨n, h⟩ := h
  cases n with
  | zero => rw [h.1]; exact hf
  | succ n =>
    obtain ⟨u, s, ⟨v, -, -, -, h4, h5, -⟩, -⟩ := h
    exact h5
theorem l_ed1 {A : AS} {f u c s : Int} (h : l_e A f u c s) : s = 1 := by
  obtain ⟨v, -, -, -, -, -, h⟩ := h
  rw [h]
  split <;> rfl
/-- how many are final at the start -/
theorem l_n0 {A : AS} {f : Int} (f0 : 0 ≤ f) (f1 : f < A 0 15) (n15 : A 0 15 ≤ 24) {G : Int → Int} (hG : ∀ c, G c = if c = f then 0 else 9999) (h0 : ∀ c x, p_rc (l_e A f) f c x → 0 ≤ x ∧ 0 ≤ c ∧ c < A 0 15) : 25 - A 0 15 ≤ p_n (l_e A f) f G := by
  have h1 : q_sum (fun c => if c = f ∨ A 0 15 ≤ c then 1 else 0) 24 ≤ p_n (l_e A f) f G := by
    unfold p_n
    refine q_sum_le fun c c0 c1 => ?_
    by_cases h : c = f ∨ A 0 15 ≤ c
    · have hp : p_fin (l_e A f) f G c := by
        intro x hx
        rcases h with h | h
        · rw [hG, if_pos h]; exact (h0 c x hx).1
        · have := (h0 c x hx).2.2; omega
      rw [q_if_t hp]
      show (if c = f ∨ A 0 15 ≤ c then (1 : Int) else 0) ≤ 1
      split <;> omega
    · have := p_if01 (p_fin (l_e A f) f G c)
      show (if c = f ∨ A 0 15 ≤ c then (1 : Int) else 0) ≤ _
      rw [if_neg h]
      exact this.1
  have h2 : ∀ n : Nat, (if (n : Int) ≤ A 0 15 then 0 else (n : Int) - A 0 15) + (if f < n then 1 else 0) ≤ q_sum (fun c => if c = f ∨ A 0 15 ≤ c then 1 else 0) n := by
    intro n
    induction n with
    | zero =>
      show (if ((0 : Nat) : Int) ≤ A 0 15 then (0 : Int) else _) + _ ≤ 0
      rw [if_pos (by omega), if_neg (by omega)]
      omega
    | succ n ih =>
      show _ ≤ q_sum (fun c => if c = f ∨ A 0 15 ≤ c then (1 : Int) else 0) n + (if (n : Int) = f ∨ A 0 15 ≤ n then (1 : Int) else 0)
      revert ih
      generalize q_sum (fun c => if c = f ∨ A 0 15 ≤ c then (1 : Int) else 0) n = z
      intro ih
      by_cases a1 : (n : Int) = f
      · rw [if_pos (Or.inl a1)]
        rw [if_pos (by omega), if_neg (by omega)] at ih
        rw [if_pos (by omega), if_pos (by omega)]
        omega
      · by_cases a2 : A 0 15 ≤ (n : Int)
        · rw [if_pos (Or.inr a2)]
          rw [if_pos (show f < (n : Int) by omega)] at ih
          rw [if_neg (by omega), if_pos (by omega)]
          split at ih <;> omega
        · rw [if_neg (show ¬ ((n : Int) = f ∨ A 0 15 ≤ (n : Int)) by omega)]
          rw [if_pos (show (n : Int) ≤ A 0 15 by omega)] at ih
          rw [if_pos (show ((n + 1 : Nat) : Int) ≤ A 0 15 by omega)]
          by_cases a3 : f < (n : Int)
          · rw [if_pos a3] at ih; rw [if_pos (show f < ((n + 1 : Nat) : Int) by omega)]; omega
          · rw [if_neg a3] at ih; rw [if_neg (show ¬ f < ((n + 1 : Nat) : Int) by omega)]; omega
  have h3 := h2 24
  rw [if_pos (show f < ((24 : Nat) : Int) by omega)] at h3
  split at h3 <;> omega
/-- one way: what a cell gets -/
theorem l_way {d : Nat} {A : AS} {w : PW} (hV : q_vh A) (hH : lH A w) {f : Int} (hf : q_op A f) {G : Int → Int} (hG : rG 51 w G) (hok : p_ok (l_e A f) f 9999 G) {c : Int} (hc : q_op A c) (hcf : ¬ c = f) {r j : Nat} (hj : j < 4) {v11 v12 v13 : Value} (x11 : xv v11) (x12 : xv v12) (x13 : xv v13) :
    ∃ w1 G1 y11 y12 y13, ex_ev (d + 1) (ex_cal (d + 1)) 100 (ex_blk 100 66, [.ref 46, .ref 47, .int (Int32.ofInt f), .int (Int32.ofInt (-1)), .int (Int32.ofInt 0), .int (Int32.ofInt 0), .ref 51, .int (Int32.ofInt (A 0 15)), .int (Int32.ofInt (r : Int)), .int (Int32.ofInt c), .int (Int32.ofInt (j : Int)), v11, v12, v13], [], w) = ex_ev (d + 1) (ex_cal (d + 1)) 100 (ex_blk 100 66, [.ref 46, .ref 47, .int (Int32.ofInt f), .int (Int32.ofInt (-1)), .int (Int32.ofInt 0), .int (Int32.ofInt 0), .ref 51, .int (Int32.ofInt (A 0 15)), .int (Int32.ofInt (r : Int)), .int (Int32.ofInt c), .int (Int32.ofInt ((j : Int) + 1)), y11, y12, y13], [], w1) ∧ xv y11 ∧ xv y12 ∧ xv y13 ∧ sO 51 w w1 ∧ w1.2 = w.2 ∧ rG 51 w1 G1 ∧ p_ok (l_e A f) f 9999 G1 ∧ (∀ i, 0 ≤ i → i < 24 → G1 i ≤ G i) ∧ (q_op A (q_nx A c j) → G1 c ≤ G (q_nx A c j) + 1) := by
  have hr := q_rnh hV
  have hf2 := hf
  obtain ⟨f0, f1, f2⟩ := hf2
  have hc2 := hc
  obtain ⟨c0, c1, c2⟩ := hc2
  have hkc := q_kd hV c0 c1
  have ekc := hH.2.2.2 c c0 c1
  have hn := q_nxr hV c0 c1 j
  have hb := fun d => l_beside (d := d) hV hH c0 c1 (v := j) (by omega) (by omega)
  have he := q_ed_r hV (f := f) (t := 0) (b := fun _ => False) (by omega) (by omega)
  have bc := p_bd hok c0 (by omega)
  have ec := hG c c0 (by omega)
  have zc := z_sh0 c0 (show c < 32 by omega)
  generalize ht : q_nx A c j = t at *
  have stay : rG 51 (ex_up w 51 c.toNat (Int32.ofInt (G c))) G := by
    have := rG_u hG (c := c) (x := G c) c0
    rwa [q_fu_same] at this
  by_cases hop : q_op A t
  · have hop2 := hop
    obtain ⟨t0, t1, t2⟩ := hop2
    have hkt := q_kd hV t0 t1
    have ekt := hH.2.2.2 t t0 t1
    have bt := p_bd hok t0 (by omega)
    have et := hG t t0 (by omega)
    have zt := z_sh0 t0 (show t < 32 by omega)
    have hs1 := fun d => l_side (d := d) hV hH c0 c1 (b := 0) (by omega) (by omega)
    have hs2 := fun d => l_side (d := d) hV hH t0 t1 (b := 0) (by omega) (by omega)
    have r1 := q_sdr A 0 c
    have r2 := q_sdr A 0 t
    by_cases hlt : G t + 1 < G c
    · have es : l_e A f t c 1 := by
        obtain ⟨v', v0, v1, hv⟩ := q_nx_b hV c0 c1 (v := j) (by omega) (by omega) ht (by omega)
        exact ⟨v', v0, v1, Or.inr id, hv, hc, by split <;> rfl⟩
      have hrel := p_rel he (by omega) hok es t0 (by omega) (by omega) hlt
      refine ⟨ex_up w 51 c.toNat (Int32.ofInt (G t + 1)), q_fu G c (G t + 1), .int (Int32.ofInt t), .int (Int32.ofInt 1), .int (Int32.ofInt (G t + 1)), ?_, xv_i _, xv_i _, xv_i _, sO_u _ _ _ _, rfl, rG_u hG c0, hrel.1, fun i i0 i1 => ?_, fun _ => by rw [q_fu_s]; omega⟩
      · conv => lhs; rw [kb_100_66]
        by_cases htf : t = f
        · by_cases hsd : q_sd A 0 c = q_sd A 0 t
          · simp (disch := omega) only [hb, hs1, hs2, ekc, ekt, ec, et, zc, zt, x11, x12, x13, Int.add_zero, ev_iload, ev_aload, rx_istore, ev_iinc, ev_push, ev_iadd, ev_imul, ev_iand, ev_ishr, ev_goto, ev_jsr, rx_ieq_t, rx_ieq_f, rx_ine_t, rx_ine_f, rx_ige_t, rx_ige_f, rx_zeq_t, rx_zeq_f, rx_zne_t, rx_zne_f, rx_zlt_t, rx_zlt_f, ev_iald, ev_call, nr_i, nr_r, nr_l, nr_n, kA_46, kA_47, kA_48, kA_49, kA_50, kA_51, kA_52, kS_46, kS_47, kS_48, kS_49, kS_50, kS_51, kS_52, cg_97, cg_99, rx_vret, kb_100_0, kb_100_33, kb_100_36, kb_100_43, kb_100_102, kb_100_141, kb_100_145, kb_100_146, kb_100_181, kb_100_183, kb_100_187, kb_100_190, kb_100_211, kb_100_216, kb_100_223, kb_100_229, kb_100_235, kr_100, List.getD_cons_zero, List.getD_cons_succ, List.set_cons_zero, List.set_cons_succ, ex_spl, ex_low, Option.toList, List.cons_append, List.nil_append, reduceIte, Int.reduceToNat, Nat.reduceDiv, Nat.reduceMod, Nat.reduceAdd, Nat.reduceMul, z_0, z_1, z_10, z_01, reduceCtorEq, ite_true, ite_false, true_and, and_true, ↓bI_01, ↓bP_01, ↓zret0, ↓zret1, z_add, z_sub, z_mul, up_1, up_2, not_true, not_false_iff, if_true, if_false, Bool.true_and, bI_T, bI_F, bP_T, bP_F, or_true, true_or, or_false, false_or, Int.reduceNeg, Int.reduceAdd, Int.reduceSub, Int.reduceMul, Int.reduceEq, Int.reduceLT, Int.reduceLE, Int.natCast_add, Int.cast_ofNat_Int]
          · simp (disch := omega) only [hb, hs1, hs2, ekc, ekt, ec, et, zc, zt, x11, x12, x13, Int.add_zero, ev_iload, ev_aload, rx_istore, ev_iinc, ev_push, ev_iadd, ev_imul, ev_iand, ev_ishr, ev_goto, ev_jsr, rx_ieq_t, rx_ieq_f, rx_ine_t, rx_ine_f, rx_ige_t, rx_ige_f, rx_zeq_t, rx_zeq_f, rx_zne_t, rx_zne_f, rx_zlt_t, rx_zlt_f, ev_iald, ev_call, nr_i, nr_r, nr_l, nr_n, kA_46, kA_47, kA_48, kA_49, kA_50, kA_51, kA_52, kS_46, kS_47, kS_48, kS_49, kS_50, kS_51, kS_52, cg_97, cg_99, rx_vret, kb_100_0, kb_100_33, kb_100_36, kb_100_43, kb_100_102, kb_100_141, kb_100_145, kb_100_146, kb_100_181, kb_100_183, kb_100_187, kb_100_190, kb_100_211, kb_100_216, kb_100_223, kb_100_229, kb_100_235, kr_100, List.getD_cons_zero, List.getD_cons_succ, List.set_cons_zero, List.set_cons_succ, ex_spl, ex_low, Option.toList, List.cons_append, List.nil_append, reduceIte, Int.reduceToNat, Nat.reduceDiv, Nat.reduceMod, Nat.reduceAdd, Nat.reduceMul, z_0, z_1, z_10, z_01, reduceCtorEq, ite_true, ite_false, true_and, and_true, ↓bI_01, ↓bP_01, ↓zret0, ↓zret1, z_add, z_sub, z_mul, up_1, up_2, not_true, not_false_iff, if_true, if_false, Bool.true_and, bI_T, bI_F, bP_T, bP_F, or_true, true_or, or_false, false_or, Int.reduceNeg, Int.reduceAdd, Int.reduceSub, Int.reduceMul, Int.reduceEq, Int.reduceLT, Int.reduceLE, Int.natCast_add, Int.cast_ofNat_Int]
        · by_cases hsd : q_sd A 0 c = q_sd A 0 t
          · simp (disch := omega) only [hb, hs1, hs2, ekc, ekt, ec, et, zc, zt, x11, x12, x13, Int.add_zero, ev_iload, ev_aload, rx_istore, ev_iinc, ev_push, ev_iadd, ev_imul, ev_iand, ev_ishr, ev_goto, ev_jsr, rx_ieq_t, rx_ieq_f, rx_ine_t, rx_ine_f, rx_ige_t, rx_ige_f, rx_zeq_t, rx_zeq_f, rx_zne_t, rx_zne_f, rx_zlt_t, rx_zlt_f, ev_iald, ev_call, nr_i, nr_r, nr_l, nr_n, kA_46, kA_47, kA_48, kA_49, kA_50, kA_51, kA_52, kS_46, kS_47, kS_48, kS_49, kS_50, kS_51, kS_52, cg_97, cg_99, rx_vret, kb_100_0, kb_100_33, kb_100_36, kb_100_43, kb_100_102, kb_100_141, kb_100_145, kb_100_146, kb_100_181, kb_100_183, kb_100_187, kb_100_190, kb_100_211, kb_100_216, kb_100_223, kb_100_229, kb_100_235, kr_100, List.getD_cons_zero, List.getD_cons_succ, List.set_cons_zero, List.set_cons_succ, ex_spl, ex_low, Option.toList, List.cons_append, List.nil_append, reduceIte, Int.reduceToNat, Nat.reduceDiv, Nat.reduceMod, Nat.reduceAdd, Nat.reduceMul, z_0, z_1, z_10, z_01, reduceCtorEq, ite_true, ite_false, true_and, and_true, ↓bI_01, ↓bP_01, ↓zret0, ↓zret1, z_add, z_sub, z_mul, up_1, up_2, not_true, not_false_iff, if_true, if_false, Bool.true_and, bI_T, bI_F, bP_T, bP_F, or_true, true_or, or_false, false_or, Int.reduceNeg, Int.reduceAdd, Int.reduceSub, Int.reduceMul, Int.reduceEq, Int.reduceLT, Int.reduceLE, Int.natCast_add, Int.cast_ofNat_Int]
          · simp (disch := omega) only [hb, hs1, hs2, ekc, ekt, ec, et, zc, zt, x11, x12, x13, Int.add_zero, ev_iload, ev_aload, rx_istore, ev_iinc, ev_push, ev_iadd, ev_imul, ev_iand, ev_ishr, ev_goto, ev_jsr, rx_ieq_t, rx_ieq_f, rx_ine_t, rx_ine_f, rx_ige_t, rx_ige_f, rx_zeq_t, rx_zeq_f, rx_zne_t, rx_zne_f, rx_zlt_t, rx_zlt_f, ev_iald, ev_call, nr_i, nr_r, nr_l, nr_n, kA_46, kA_47, kA_48, kA_49, kA_50, kA_51, kA_52, kS_46, kS_47, kS_48, kS_49, kS_50, kS_51, kS_52, cg_97, cg_99, rx_vret, kb_100_0, kb_100_33, kb_100_36, kb_100_43, kb_100_102, kb_100_141, kb_100_145, kb_100_146, kb_100_181, kb_100_183, kb_100_187, kb_100_190, kb_100_211, kb_100_216, kb_100_223, kb_100_229, kb_100_235, kr_100, List.getD_cons_zero, List.getD_cons_succ, List.set_cons_zero, List.set_cons_succ, ex_spl, ex_low, Option.toList, List.cons_append, List.nil_append, reduceIte, Int.reduceToNat, Nat.reduceDiv, Nat.reduceMod, Nat.reduceAdd, Nat.reduceMul, z_0, z_1, z_10, z_01, reduceCtorEq, ite_true, ite_false, true_and, and_true, ↓bI_01, ↓bP_01, ↓zret0, ↓zret1, z_add, z_sub, z_mul, up_1, up_2, not_true, not_false_iff, if_true, if_false, Bool.true_and, bI_T, bI_F, bP_T, bP_F, or_true, true_or, or_false, false_or, Int.reduceNeg, Int.reduceAdd, Int.reduceSub, Int.reduceMul, Int.reduceEq, Int.reduceLT, Int.reduceLE, Int.natCast_add, Int.cast_ofNat_Int]
      · by_cases hi : i = c
        · rw [hi, q_fu_s]; omega
        · rw [q_fu_o hi]; exact Int.le_refl _
    · refine ⟨ex_up w 51 c.toNat (Int32.ofInt (G c)), G, .int (Int32.ofInt t), .int (Int32.ofInt 1), .int (Int32.ofInt (G t + 1)), ?_, xv_i _, xv_i _, xv_i _, sO_u _ _ _ _, rfl, stay, hok, fun i _ _ => Int.le_refl _, fun _ => by omega⟩
      conv => lhs; rw [kb_100_66]
      by_cases htf : t = f
      · by_cases hsd : q_sd A 0 c = q_sd A 0 t
        · simp (disch := omega) only [hb, hs1, hs2, ekc, ekt, ec, et, zc, zt, x11, x12, x13, Int.add_zero, ev_iload, ev_aload, rx_istore, ev_iinc, ev_push, ev_iadd, ev_imul, ev_iand, ev_ishr, ev_goto, ev_jsr, rx_ieq_t, rx_ieq_f, rx_ine_t, rx_ine_f, rx_ige_t, rx_ige_f, rx_zeq_t, rx_zeq_f, rx_zne_t, rx_zne_f, rx_zlt_t, rx_zlt_f, ev_iald, ev_call, nr_i, nr_r, nr_l, nr_n, kA_46, kA_47, kA_48, kA_49, kA_50, kA_51, kA_52, kS_46, kS_47, kS_48, kS_49, kS_50, kS_51, kS_52, cg_97, cg_99, rx_vret, kb_100_0, kb_100_33, kb_100_36, kb_100_43, kb_100_102, kb_100_141, kb_100_145, kb_100_146, kb_100_181, kb_100_183, kb_100_187, kb_100_190, kb_100_211, kb_100_216, kb_100_223, kb_100_229, kb_100_235, kr_100, List.getD_cons_zero, List.getD_cons_succ, List.set_cons_zero, List.set_cons_succ, ex_spl, ex_low, Option.toList, List.cons_append, List.nil_append, reduceIte, Int.reduceToNat, Nat.reduceDiv, Nat.reduceMod, Nat.reduceAdd, Nat.reduceMul, z_0, z_1, z_10, z_01, reduceCtorEq, ite_true, ite_false, true_and, and_true, ↓bI_01, ↓bP_01, ↓zret0, ↓zret1, z_add, z_sub, z_mul, up_1, up_2, not_true, not_false_iff, if_true, if_false, Bool.true_and, bI_T, bI_F, bP_T, bP_F, or_true, true_or, or_false, false_or, Int.reduceNeg, Int.reduceAdd, Int.reduceSub, Int.reduceMul, Int.reduceEq, Int.reduceLT, Int.reduceLE, Int.natCast_add, Int.cast_ofNat_Int]
        · simp (disch := omega) only [hb, hs1, hs2, ekc, ekt, ec, et, zc, zt, x11, x12, x13, Int.add_zero, ev_iload, ev_aload, rx_istore, ev_iinc, ev_push, ev_iadd, ev_imul, ev_iand, ev_ishr, ev_goto, ev_jsr, rx_ieq_t, rx_ieq_f, rx_ine_t, rx_ine_f, rx_ige_t, rx_ige_f, rx_zeq_t, rx_zeq_f, rx_zne_t, rx_zne_f, rx_zlt_t, rx_zlt_f, ev_iald, ev_call, nr_i, nr_r, nr_l, nr_n, kA_46, kA_47, kA_48, kA_49, kA_50, kA_51, kA_52, kS_46, kS_47, kS_48, kS_49, kS_50, kS_51, kS_52, cg_97, cg_99, rx_vret, kb_100_0, kb_100_33, kb_100_36, kb_100_43, kb_100_102, kb_100_141, kb_100_145, kb_100_146, kb_100_181, kb_100_183, kb_100_187, kb_100_190, kb_100_211, kb_100_216, kb_100_223, kb_100_229, kb_100_235, kr_100, List.getD_cons_zero, List.getD_cons_succ, List.set_cons_zero, List.set_cons_succ, ex_spl, ex_low, Option.toList, List.cons_append, List.nil_append, reduceIte, Int.reduceToNat, Nat.reduceDiv, Nat.reduceMod, Nat.reduceAdd, Nat.reduceMul, z_0, z_1, z_10, z_01, reduceCtorEq, ite_true, ite_false, true_and, and_true, ↓bI_01, ↓bP_01, ↓zret0, ↓zret1, z_add, z_sub, z_mul, up_1, up_2, not_true, not_false_iff, if_true, if_false, Bool.true_and, bI_T, bI_F, bP_T, bP_F, or_true, true_or, or_false, false_or, Int.reduceNeg, Int.reduceAdd, Int.reduceSub, Int.reduceMul, Int.reduceEq, Int.reduceLT, Int.reduceLE, Int.natCast_add, Int.cast_ofNat_Int]
      · by_cases hsd : q_sd A 0 c = q_sd A 0 t
        · simp (disch := omega) only [hb, hs1, hs2, ekc, ekt, ec, et, zc, zt, x11, x12, x13, Int.add_zero, ev_iload, ev_aload, rx_istore, ev_iinc, ev_push, ev_iadd, ev_imul, ev_iand, ev_ishr, ev_goto, ev_jsr, rx_ieq_t, rx_ieq_f, rx_ine_t, rx_ine_f, rx_ige_t, rx_ige_f, rx_zeq_t, rx_zeq_f, rx_zne_t, rx_zne_f, rx_zlt_t, rx_zlt_f, ev_iald, ev_call, nr_i, nr_r, nr_l, nr_n, kA_46, kA_47, kA_48, kA_49, kA_50, kA_51, kA_52, kS_46, kS_47, kS_48, kS_49, kS_50, kS_51, kS_52, cg_97, cg_99, rx_vret, kb_100_0, kb_100_33, kb_100_36, kb_100_43, kb_100_102, kb_100_141, kb_100_145, kb_100_146, kb_100_181, kb_100_183, kb_100_187, kb_100_190, kb_100_211, kb_100_216, kb_100_223, kb_100_229, kb_100_235, kr_100, List.getD_cons_zero, List.getD_cons_succ, List.set_cons_zero, List.set_cons_succ, ex_spl, ex_low, Option.toList, List.cons_append, List.nil_append, reduceIte, Int.reduceToNat, Nat.reduceDiv, Nat.reduceMod, Nat.reduceAdd, Nat.reduceMul, z_0, z_1, z_10, z_01, reduceCtorEq, ite_true, ite_false, true_and, and_true, ↓bI_01, ↓bP_01, ↓zret0, ↓zret1, z_add, z_sub, z_mul, up_1, up_2, not_true, not_false_iff, if_true, if_false, Bool.true_and, bI_T, bI_F, bP_T, bP_F, or_true, true_or, or_false, false_or, Int.reduceNeg, Int.reduceAdd, Int.reduceSub, Int.reduceMul, Int.reduceEq, Int.reduceLT, Int.reduceLE, Int.natCast_add, Int.cast_ofNat_Int]
        · simp (disch := omega) only [hb, hs1, hs2, ekc, ekt, ec, et, zc, zt, x11, x12, x13, Int.add_zero, ev_iload, ev_aload, rx_istore, ev_iinc, ev_push, ev_iadd, ev_imul, ev_iand, ev_ishr, ev_goto, ev_jsr, rx_ieq_t, rx_ieq_f, rx_ine_t, rx_ine_f, rx_ige_t, rx_ige_f, rx_zeq_t, rx_zeq_f, rx_zne_t, rx_zne_f, rx_zlt_t, rx_zlt_f, ev_iald, ev_call, nr_i, nr_r, nr_l, nr_n, kA_46, kA_47, kA_48, kA_49, kA_50, kA_51, kA_52, kS_46, kS_47, kS_48, kS_49, kS_50, kS_51, kS_52, cg_97, cg_99, rx_vret, kb_100_0, kb_100_33, kb_100_36, kb_100_43, kb_100_102, kb_100_141, kb_100_145, kb_100_146, kb_100_181, kb_100_183, kb_100_187, kb_100_190, kb_100_211, kb_100_216, kb_100_223, kb_100_229, kb_100_235, kr_100, List.getD_cons_zero, List.getD_cons_succ, List.set_cons_zero, List.set_cons_succ, ex_spl, ex_low, Option.toList, List.cons_append, List.nil_append, reduceIte, Int.reduceToNat, Nat.reduceDiv, Nat.reduceMod, Nat.reduceAdd, Nat.reduceMul, z_0, z_1, z_10, z_01, reduceCtorEq, ite_true, ite_false, true_and, and_true, ↓bI_01, ↓bP_01, ↓zret0, ↓zret1, z_add, z_sub, z_mul, up_1, up_2, not_true, not_false_iff, if_true, if_false, Bool.true_and, bI_T, bI_F, bP_T, bP_F, or_true, true_or, or_false, false_or, Int.reduceNeg, Int.reduceAdd, Int.reduceSub, Int.reduceMul, Int.reduceEq, Int.reduceLT, Int.reduceLE, Int.natCast_add, Int.cast_ofNat_Int]
  · refine ⟨ex_up w 51 c.toNat (Int32.ofInt (G c)), G, .int (Int32.ofInt t), .int (Int32.ofInt 0), .int (Int32.ofInt 9999), ?_, xv_i _, xv_i _, xv_i _, sO_u _ _ _ _, rfl, stay, hok, fun i _ _ => Int.le_refl _, fun h => absurd h hop⟩
    conv => lhs; rw [kb_100_66]
    by_cases ht0 : t < 0
    · simp (disch := omega) only [hb, ekc, ec, zc, x11, x12, x13, ev_iload, ev_aload, rx_istore, ev_iinc, ev_push, ev_iadd, ev_imul, ev_iand, ev_ishr, ev_goto, ev_jsr, rx_ieq_t, rx_ieq_f, rx_ine_t, rx_ine_f, rx_ige_t, rx_ige_f, rx_zeq_t, rx_zeq_f, rx_zne_t, rx_zne_f, rx_zlt_t, rx_zlt_f, ev_iald, ev_call, nr_i, nr_r, nr_l, nr_n, kA_46, kA_47, kA_48, kA_49, kA_50, kA_51, kA_52, kS_46, kS_47, kS_48, kS_49, kS_50, kS_51, kS_52, cg_97, cg_99, rx_vret, kb_100_0, kb_100_33, kb_100_36, kb_100_43, kb_100_102, kb_100_141, kb_100_145, kb_100_146, kb_100_181, kb_100_183, kb_100_187, kb_100_190, kb_100_211, kb_100_216, kb_100_223, kb_100_229, kb_100_235, kr_100, List.getD_cons_zero, List.getD_cons_succ, List.set_cons_zero, List.set_cons_succ, ex_spl, ex_low, Option.toList, List.cons_append, List.nil_append, reduceIte, Int.reduceToNat, Nat.reduceDiv, Nat.reduceMod, Nat.reduceAdd, Nat.reduceMul, z_0, z_1, z_10, z_01, reduceCtorEq, ite_true, ite_false, true_and, and_true, ↓bI_01, ↓bP_01, ↓zret0, ↓zret1, z_add, z_sub, z_mul, up_1, up_2, not_true, not_false_iff, if_true, if_false, Bool.true_and, bI_T, bI_F, bP_T, bP_F, or_true, true_or, or_false, false_or, Int.reduceNeg, Int.reduceAdd, Int.reduceSub, Int.reduceMul, Int.reduceEq, Int.reduceLT, Int.reduceLE, Int.natCast_add, Int.cast_ofNat_Int]
    · have ekt := hH.2.2.2 t (by omega) (by omega)
      have hkt := q_kd hV (c := t) (by omega) (by omega)
      have h1 : A 1 t = 1 := by
        by_cases h1 : A 1 t = 1
        · exact h1
        · exact absurd ⟨by omega, by omega, h1⟩ hop
      simp (disch := omega) only [hb, ekc, ekt, h1, ec, zc, x11, x12, x13, ev_iload, ev_aload, rx_istore, ev_iinc, ev_push, ev_iadd, ev_imul, ev_iand, ev_ishr, ev_goto, ev_jsr, rx_ieq_t, rx_ieq_f, rx_ine_t, rx_ine_f, rx_ige_t, rx_ige_f, rx_zeq_t, rx_zeq_f, rx_zne_t, rx_zne_f, rx_zlt_t, rx_zlt_f, ev_iald, ev_call, nr_i, nr_r, nr_l, nr_n, kA_46, kA_47, kA_48, kA_49, kA_50, kA_51, kA_52, kS_46, kS_47, kS_48, kS_49, kS_50, kS_51, kS_52, cg_97, cg_99, rx_vret, kb_100_0, kb_100_33, kb_100_36, kb_100_43, kb_100_102, kb_100_141, kb_100_145, kb_100_146, kb_100_181, kb_100_183, kb_100_187, kb_100_190, kb_100_211, kb_100_216, kb_100_223, kb_100_229, kb_100_235, kr_100, List.getD_cons_zero, List.getD_cons_succ, List.set_cons_zero, List.set_cons_succ, ex_spl, ex_low, Option.toList, List.cons_append, List.nil_append, reduceIte, Int.reduceToNat, Nat.reduceDiv, Nat.reduceMod, Nat.reduceAdd, Nat.reduceMul, z_0, z_1, z_10, z_01, reduceCtorEq, ite_true, ite_false, true_and, and_true, ↓bI_01, ↓bP_01, ↓zret0, ↓zret1, z_add, z_sub, z_mul, up_1, up_2, not_true, not_false_iff, if_true, if_false, Bool.true_and, bI_T, bI_F, bP_T, bP_F, or_true, true_or, or_false, false_or, Int.reduceNeg, Int.reduceAdd, Int.reduceSub, Int.reduceMul, Int.reduceEq, Int.reduceLT, Int.reduceLE, Int.natCast_add, Int.cast_ofNat_Int]
