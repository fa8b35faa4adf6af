/-! methods that tell something, with loops -/
theorem rx_max0 {d : Nat} {cal : Nat → List Value → PW → Option ER} {y : Nat} {c : List Instr} {pl : List Value} {w : PW} {a b : Int} (h : -2147483648 ≤ a ∧ a < 2147483648 ∧ -2147483648 ≤ b ∧ b < 2147483648) : ex_ev (d + 2) cal y (.invokedynamic 0 :: c, pl, [.int (Int32.ofInt b), .int (Int32.ofInt a)], w) = ex_ev (d + 2) cal y (c, pl, [.int (Int32.ofInt (if a < b then b else a))], w) := by
  rw [ev_native]
  have e : ex_nat (d + 2) 0 c pl [.int (Int32.ofInt b), .int (Int32.ofInt a)] w = ex_go c pl [.int (if Int32.ofInt a < Int32.ofInt b then Int32.ofInt b else Int32.ofInt a)] w := by
    unfold ex_nat
    rw [if_neg (by omega)]
    rfl
  rw [e]
  by_cases hl : a < b
  · rw [if_pos ((z_lt h.1 h.2.1 h.2.2.1 h.2.2.2).2 hl), if_pos hl]; rfl
  · rw [if_neg (fun hh => hl ((z_lt h.1 h.2.1 h.2.2.1 h.2.2.2).1 hh)), if_neg hl]; rfl
theorem rx_min1 {d : Nat} {cal : Nat → List Value → PW → Option ER} {y : Nat} {c : List Instr} {pl : List Value} {w : PW} {o : Nat} {a b : Int} (h : -2147483648 ≤ a ∧ a < 2147483648 ∧ -2147483648 ≤ b ∧ b < 2147483648) : ex_ev (d + 2) cal y (.invokedynamic 1 :: c, pl, [.int (Int32.ofInt b), .int (Int32.ofInt a), .ref o], w) = ex_ev (d + 2) cal y (c, pl, [.int (Int32.ofInt (if b < a then b else a)), .ref o], w) := by
  rw [ev_native]
  have e : ex_nat (d + 2) 1 c pl [.int (Int32.ofInt b), .int (Int32.ofInt a), .ref o] w = ex_go c pl [.int (if Int32.ofInt b < Int32.ofInt a then Int32.ofInt b else Int32.ofInt a), .ref o] w := by
    unfold ex_nat
    rw [if_neg (by omega)]
    rfl
  rw [e]
  by_cases hl : b < a
  · rw [if_pos ((z_lt h.2.2.1 h.2.2.2 h.1 h.2.1).2 hl), if_pos hl]; rfl
  · rw [if_neg (fun hh => hl ((z_lt h.2.2.1 h.2.2.2 h.1 h.2.1).1 hh)), if_neg hl]; rfl
theorem q_hh {A : AS} (h : q_vh A) : 0 < A 0 15 ↔ 0 < A 0 2 := by
  have hr := q_rnh h
  obtain ⟨h1, h2, h3, h4, h5, h6⟩ := h
  rcases h4 with ⟨a, b, c⟩ | ⟨a, b, c, d, e⟩
  · rw [h3, a, b, c]; omega
  · have : 2 * 2 ≤ A 0 0 * A 0 1 := Int.mul_le_mul a c (by omega) (by omega)
    omega
/-- what an event is against, the line drawn b further -/
noncomputable def q_eb (A : AS) (b e : Int) : Int32 := q_br A b (A 4 (5 * e + 1)) (A 4 (5 * e)) (A 4 (5 * e + 2)) (A 4 (5 * e + 3)) (A 4 (5 * e + 4))
theorem m_eb {d : Nat} {A : AS} {w : PW} (hV : q_v0 A) (hC : rC A w) {e b : Int} (e0 : 0 ≤ e) (e1 : e < A 0 4) (b0 : -3 ≤ b) (b1 : b ≤ 3) : ex_cal (d + 5) 138 [.ref 0, .int (Int32.ofInt e), .int (Int32.ofInt b)] w = some (some (.int (q_eb A b e)), w) := m_eventBroken hV hC e0 e1 b0 b1
theorem r_eb {d : Nat} {A : AS} {b : Int} {w : PW} (hV : q_v0 A) (hM : rN A b w) {e : Int} (e0 : 0 ≤ e) (e1 : e < A 0 4) (b0 : -3 ≤ b) (b1 : b ≤ 3) : ∃ w', ex_cal (d + 10) 190 [.ref 46, .int (Int32.ofInt e)] w = some (some (.int (q_eb A b e)), w') ∧ sQ w w' := r_eventAgainst hV hM e0 e1 b0 b1
/-! drawn -/
noncomputable def q_drn (A : AS) (b : Int) : Nat → Int32
  | 0 => Int32.ofInt 0
  | n + 1 => q_drn A b n ||| q_iw (¬ q_eb A b n = Int32.ofInt 0) (q_b n) (Int32.ofInt 0)
theorem q_drn_t {A : AS} {b : Int} {n : Nat} (h : ¬ q_eb A b n = Int32.ofInt 0) : q_drn A b (n + 1) = q_drn A b n ||| (Int32.ofInt 1 <<< (Int32.ofInt (n : Int) &&& 31)) := by
  show _ ||| q_iw _ _ _ = _
  rw [q_iw_t h]; rfl
theorem q_drn_f {A : AS} {b : Int} {n : Nat} (h : q_eb A b n = Int32.ofInt 0) : q_drn A b (n + 1) = q_drn A b n := by
  show _ ||| q_iw _ _ _ = _
  rw [q_iw_f (fun hh => hh h), m_or0]
theorem rN_b {A : AS} {b c : Int} {w : PW} (h : rN A b w) : rN A c (ex_up w 46 49 (Int32.ofInt c)) := by
  have hM := h
  obtain ⟨⟨g0, g1, g2, g5, g11, g13, g17, g20, g23, g24, g49⟩, ⟨gk, gl⟩, ⟨gs, ga, gf, gt, gn⟩, ⟨gtk, gtc, gtw⟩, ge, ⟨gba, gbh⟩, ⟨gjc, gjs⟩, gp⟩ := id hM
  have e : ∀ a k, ¬ a = 46 → (ex_up w 46 49 (Int32.ofInt c)).1 a k = w.1 a k := fun a k ha => by rw [up_1, if_neg (by omega)]
  have e46 : ∀ k, ¬ k = 49 → (ex_up w 46 49 (Int32.ofInt c)).1 46 k = w.1 46 k := fun k hk => by rw [up_1, if_neg (by omega)]
  refine ⟨⟨?_, ?_, ?_, ?_, ?_, ?_, ?_, ?_, ?_, ?_, up_s⟩, ⟨fun k k0 k1 => ?_, fun k k0 k1 => ?_⟩, ⟨fun k k0 k1 => ?_, fun k k0 k1 => ?_, fun k k0 k1 => ?_, fun k k0 k1 => ?_, fun k k0 k1 => ?_⟩, ⟨fun k k0 k1 => ?_, fun k k0 k1 => ?_, fun k k0 k1 => ?_⟩, fun k k0 k1 => ?_, ⟨fun k k0 k1 => ?_, fun k k0 k1 => ?_⟩, ⟨fun k k0 k1 => ?_, fun k k0 k1 => ?_⟩, fun k k0 k1 => ?_⟩
  all_goals first | rw [e46 _ (by omega)] | rw [e _ _ (by omega)]
  · exact g0
  · exact g1
  · exact g2
  · exact g5
  · exact g11
  · exact g13
  · exact g17
  · exact g20
  · exact g23
  · exact g24
  · exact gk k k0 k1
  · exact gl k k0 k1
  · exact gs k k0 k1
  · exact ga k k0 k1
  · exact gf k k0 k1
  · exact gt k k0 k1
  · exact gn k k0 k1
  · exact gtk k k0 k1
  · exact gtc k k0 k1
  · exact gtw k k0 k1
  · exact ge k k0 k1
  · exact gba k k0 k1
  · exact gbh k k0 k1
  · exact gjc k k0 k1
  · exact gjs k k0 k1
  · exact gp k k0 k1
theorem m_there2 {d : Nat} {A : AS} {w : PW} (hV : q_vh A) (hC : rC A w) : ex_cal (d + 1) 19 [.ref 5] w = some (some (.int (bI (0 < A 0 2))), w) := by
  rw [m_there hV hC.1.1, bI_congr (q_hh hV)]
/-- a world with the shift set and reset -/
theorem sS {w w1 w2 : PW} {x y : Int32} (h1 : w.1 46 49 = y) (h : sM (ex_up w 46 49 x) w2) : sM w (ex_up w2 46 49 y) := by
  intro a k hk
  rw [up_1]
  by_cases ha : a = 46 ∧ k = 49
  · rw [if_pos ha, ha.1, ha.2]; exact h1.symm
  · rw [if_neg ha, h a k hk, up_1, if_neg ha]
theorem g_drawn {A : AS} (hV : q_V A) {b : Int} (b0 : -2147483648 ≤ b) (b1 : b < 2147483648) : q_both A 123 225 [.int (Int32.ofInt b)] := by
  have hr := q_rng hV.1
  by_cases hh : 0 < A 0 2
  · by_cases hb : -3 ≤ b ∧ b ≤ 3
    · refine q_ask hV (.int (q_drn A b (A 0 4).toNat)) (fun d w hC => ?_) (fun d w hM => ?_)
      · have hsz : w.1 23 2 = Int32.ofInt (A 0 4) := hC.2.2.2.2.2.2.1.2.1
        refine ⟨w, ?_, sC_r w⟩
        rw [ke_123 kc_0]
        simp (disch := omega) only [m_there2 hV.1.1 hC, bI_t, bI_f, ev_iload, ev_aload, rx_istore, ev_iinc, ev_push, ev_ior, ev_ishl, ev_goto, ev_jsr, rx_ilt_t, rx_ilt_f, rx_ige_t, rx_ige_f, rx_ile_t, rx_ile_f, rx_zeq_t, rx_zeq_f, rx_zne_t, rx_zne_f, ev_getf, ev_callv, nr_i, nr_r, nr_l, nr_n, rx_iret, kb_123_0, kb_123_13, kb_123_24, kb_123_27, kb_123_60, kb_123_66, kr_123, kf_20_1, kf_29_1, kf_0_643, kf_0_645, List.getD_cons_zero, List.getD_cons_succ, List.set_cons_zero, List.set_cons_succ, ex_spl, ex_low, Option.toList, List.cons_append, List.nil_append, reduceIte, Int.reduceToNat, Nat.reduceDiv, Nat.reduceMod, Nat.reduceAdd, Nat.reduceMul, z_0, z_1, z_10, z_01, reduceCtorEq, ite_true, ite_false, true_and, and_true, ↓bI_01, ↓bP_01, ↓zret0, ↓zret1, z_add, z_sub, z_mul, up_1, up_2, not_true, not_false_iff, if_true, if_false, bI_T, bI_F, Int.reduceNeg, Int.reduceAdd, Int.reduceSub, Int.reduceMul, Int.reduceEq, Int.reduceLT, Int.reduceLE, Int.natCast_add, Int.cast_ofNat_Int]
        have key := ex_iter (d := d + 15) (cal := ex_cal (d + 15)) (y := 123) (fun i => (ex_blk 123 31, [.ref 0, .int (Int32.ofInt b), .int (q_drn A b i), .int (Int32.ofInt (i : Int))], [], w)) (Nat.zero_le (A 0 4).toNat) (fun i _ hi => by
          (try dsimp only)
          conv => lhs; rw [kb_123_31]
          by_cases hv : q_eb A b i = Int32.ofInt 0
          · rw [q_drn_f hv]
            simp (disch := omega) only [m_tsize tb_23, hsz, m_eb hV.1 hC, hv, ev_iload, ev_aload, rx_istore, ev_iinc, ev_push, ev_ior, ev_ishl, ev_goto, ev_jsr, rx_ilt_t, rx_ilt_f, rx_ige_t, rx_ige_f, rx_ile_t, rx_ile_f, rx_zeq_t, rx_zeq_f, rx_zne_t, rx_zne_f, ev_getf, ev_callv, nr_i, nr_r, nr_l, nr_n, rx_iret, kb_123_0, kb_123_13, kb_123_24, kb_123_27, kb_123_60, kb_123_66, kr_123, kf_20_1, kf_29_1, kf_0_643, kf_0_645, List.getD_cons_zero, List.getD_cons_succ, List.set_cons_zero, List.set_cons_succ, ex_spl, ex_low, Option.toList, List.cons_append, List.nil_append, reduceIte, Int.reduceToNat, Nat.reduceDiv, Nat.reduceMod, Nat.reduceAdd, Nat.reduceMul, z_0, z_1, z_10, z_01, reduceCtorEq, ite_true, ite_false, true_and, and_true, ↓bI_01, ↓bP_01, ↓zret0, ↓zret1, z_add, z_sub, z_mul, up_1, up_2, not_true, not_false_iff, if_true, if_false, bI_T, bI_F, Int.reduceNeg, Int.reduceAdd, Int.reduceSub, Int.reduceMul, Int.reduceEq, Int.reduceLT, Int.reduceLE, Int.natCast_add, Int.cast_ofNat_Int]
          · rw [q_drn_t hv]
            simp (disch := omega) only [m_tsize tb_23, hsz, m_eb hV.1 hC, rx_xeq_f hv, ev_iload, ev_aload, rx_istore, ev_iinc, ev_push, ev_ior, ev_ishl, ev_goto, ev_jsr, rx_ilt_t, rx_ilt_f, rx_ige_t, rx_ige_f, rx_ile_t, rx_ile_f, rx_zeq_t, rx_zeq_f, rx_zne_t, rx_zne_f, ev_getf, ev_callv, nr_i, nr_r, nr_l, nr_n, rx_iret, kb_123_0, kb_123_13, kb_123_24, kb_123_27, kb_123_60, kb_123_66, kr_123, kf_20_1, kf_29_1, kf_0_643, kf_0_645, List.getD_cons_zero, List.getD_cons_succ, List.set_cons_zero, List.set_cons_succ, ex_spl, ex_low, Option.toList, List.cons_append, List.nil_append, reduceIte, Int.reduceToNat, Nat.reduceDiv, Nat.reduceMod, Nat.reduceAdd, Nat.reduceMul, z_0, z_1, z_10, z_01, reduceCtorEq, ite_true, ite_false, true_and, and_true, ↓bI_01, ↓bP_01, ↓zret0, ↓zret1, z_add, z_sub, z_mul, up_1, up_2, not_true, not_false_iff, if_true, if_false, bI_T, bI_F, Int.reduceNeg, Int.reduceAdd, Int.reduceSub, Int.reduceMul, Int.reduceEq, Int.reduceLT, Int.reduceLE, Int.natCast_add, Int.cast_ofNat_Int])
        refine key.trans ?_
        (try dsimp only)
        rw [kb_123_31]
        simp (disch := omega) only [m_tsize tb_23, hsz, ev_iload, ev_aload, rx_istore, ev_iinc, ev_push, ev_ior, ev_ishl, ev_goto, ev_jsr, rx_ilt_t, rx_ilt_f, rx_ige_t, rx_ige_f, rx_ile_t, rx_ile_f, rx_zeq_t, rx_zeq_f, rx_zne_t, rx_zne_f, ev_getf, ev_callv, nr_i, nr_r, nr_l, nr_n, rx_iret, kb_123_0, kb_123_13, kb_123_24, kb_123_27, kb_123_60, kb_123_66, kr_123, kf_20_1, kf_29_1, kf_0_643, kf_0_645, List.getD_cons_zero, List.getD_cons_succ, List.set_cons_zero, List.set_cons_succ, ex_spl, ex_low, Option.toList, List.cons_append, List.nil_append, reduceIte, Int.reduceToNat, Nat.reduceDiv, Nat.reduceMod, Nat.reduceAdd, Nat.reduceMul, z_0, z_1, z_10, z_01, reduceCtorEq, ite_true, ite_false, true_and, and_true, ↓bI_01, ↓bP_01, ↓zret0, ↓zret1, z_add, z_sub, z_mul, up_1, up_2, not_true, not_false_iff, if_true, if_false, bI_T, bI_F, Int.reduceNeg, Int.reduceAdd, Int.reduceSub, Int.reduceMul, Int.reduceEq, Int.reduceLT, Int.reduceLE, Int.natCast_add, Int.cast_ofNat_Int]
      · have g2 := hM.1.2.2.1
        have g49 := hM.1.2.2.2.2.2.2.2.2.2.2
        rw [ke_225 kc_46]
        simp (disch := omega) only [g2, r_within, bP_t, bP_f, ev_iload, ev_aload, rx_istore, ev_iinc, ev_push, ev_ior, ev_ishl, ev_goto, ev_jsr, rx_ige_t, rx_ige_f, rx_zne_t, rx_zne_f, ev_getf, ev_putf, ev_putl, ev_call, ev_callv, nr_i, nr_r, nr_l, nr_n, rx_iret, kb_225_0, kb_225_10, kb_225_23, kb_225_53, kb_225_56, kb_225_64, kr_225, kf_46_706, kf_46_715, kk_46_753, List.getD_cons_zero, List.getD_cons_succ, List.set_cons_zero, List.set_cons_succ, ex_spl, ex_low, Option.toList, List.cons_append, List.nil_append, reduceIte, Int.reduceToNat, Nat.reduceDiv, Nat.reduceMod, Nat.reduceAdd, Nat.reduceMul, z_0, z_1, z_10, z_01, reduceCtorEq, ite_true, ite_false, true_and, and_true, ↓bI_01, ↓bP_01, ↓zret0, ↓zret1, z_add, z_sub, z_mul, up_1, up_2, not_true, not_false_iff, if_true, if_false, bI_T, bI_F, Int.reduceNeg, Int.reduceAdd, Int.reduceSub, Int.reduceMul, Int.reduceEq, Int.reduceLT, Int.reduceLE, Int.natCast_add, Int.cast_ofNat_Int]
        have hMb := rN_b (c := b) hM
        refine ex_loop (Q := fun r => ∃ w', r = some (some (.int (q_drn A b (A 0 4).toNat)), w') ∧ sM w w') (fun i s => ∃ w1, s = (ex_blk 225 32, [.ref 46, .int (Int32.ofInt b), .int (q_drn A b i), .int (Int32.ofInt (i : Int))], [], w1) ∧ sQ (ex_up w 46 49 (Int32.ofInt b)) w1) (A 0 4).toNat ?_ ?_ ?_
        · exact ⟨_, rfl, sQ_r _⟩
        · rintro i s hi ⟨w1, rfl, ho⟩
          right
          have hM1 := rN_q hMb ho
          have g11 := hM1.1.2.2.2.2.1
          obtain ⟨w2, e2, ho2⟩ := r_eb (d := d + 5) (e := i) hV.1 hM1 (by omega) (by omega) (by omega) (by omega)
          refine ⟨(ex_blk 225 32, [.ref 46, .int (Int32.ofInt b), .int (q_drn A b (i + 1)), .int (Int32.ofInt ((i : Int) + 1))], [], w2), ?_, w2, rfl, sQ_t ho ho2⟩
          conv => lhs; rw [kb_225_32]
          by_cases hv : q_eb A b i = Int32.ofInt 0
          · rw [q_drn_f hv]
            simp (disch := omega) only [g11, e2, hv, m_or0, ev_iload, ev_aload, rx_istore, ev_iinc, ev_push, ev_ior, ev_ishl, ev_goto, ev_jsr, rx_ige_t, rx_ige_f, rx_zne_t, rx_zne_f, ev_getf, ev_putf, ev_putl, ev_call, ev_callv, nr_i, nr_r, nr_l, nr_n, rx_iret, kb_225_0, kb_225_10, kb_225_23, kb_225_53, kb_225_56, kb_225_64, kr_225, kf_46_706, kf_46_715, kk_46_753, List.getD_cons_zero, List.getD_cons_succ, List.set_cons_zero, List.set_cons_succ, ex_spl, ex_low, Option.toList, List.cons_append, List.nil_append, reduceIte, Int.reduceToNat, Nat.reduceDiv, Nat.reduceMod, Nat.reduceAdd, Nat.reduceMul, z_0, z_1, z_10, z_01, reduceCtorEq, ite_true, ite_false, true_and, and_true, ↓bI_01, ↓bP_01, ↓zret0, ↓zret1, z_add, z_sub, z_mul, up_1, up_2, not_true, not_false_iff, if_true, if_false, bI_T, bI_F, Int.reduceNeg, Int.reduceAdd, Int.reduceSub, Int.reduceMul, Int.reduceEq, Int.reduceLT, Int.reduceLE, Int.natCast_add, Int.cast_ofNat_Int]
          · rw [q_drn_t hv]
            simp (disch := omega) only [g11, e2, rx_xne_t hv, ev_iload, ev_aload, rx_istore, ev_iinc, ev_push, ev_ior, ev_ishl, ev_goto, ev_jsr, rx_ige_t, rx_ige_f, rx_zne_t, rx_zne_f, ev_getf, ev_putf, ev_putl, ev_call, ev_callv, nr_i, nr_r, nr_l, nr_n, rx_iret, kb_225_0, kb_225_10, kb_225_23, kb_225_53, kb_225_56, kb_225_64, kr_225, kf_46_706, kf_46_715, kk_46_753, List.getD_cons_zero, List.getD_cons_succ, List.set_cons_zero, List.set_cons_succ, ex_spl, ex_low, Option.toList, List.cons_append, List.nil_append, reduceIte, Int.reduceToNat, Nat.reduceDiv, Nat.reduceMod, Nat.reduceAdd, Nat.reduceMul, z_0, z_1, z_10, z_01, reduceCtorEq, ite_true, ite_false, true_and, and_true, ↓bI_01, ↓bP_01, ↓zret0, ↓zret1, z_add, z_sub, z_mul, up_1, up_2, not_true, not_false_iff, if_true, if_false, bI_T, bI_F, Int.reduceNeg, Int.reduceAdd, Int.reduceSub, Int.reduceMul, Int.reduceEq, Int.reduceLT, Int.reduceLE, Int.natCast_add, Int.cast_ofNat_Int]
        · rintro s ⟨w1, rfl, ho⟩
          have hM1 := rN_q hMb ho
          have g11 := hM1.1.2.2.2.2.1
          refine ⟨ex_up w1 46 49 (Int32.ofInt 0), ?_, sS (w1 := w) g49 (sQ_M ho)⟩
          rw [kb_225_32]
          simp (disch := omega) only [g11, ev_iload, ev_aload, rx_istore, ev_iinc, ev_push, ev_ior, ev_ishl, ev_goto, ev_jsr, rx_ige_t, rx_ige_f, rx_zne_t, rx_zne_f, ev_getf, ev_putf, ev_putl, ev_call, ev_callv, nr_i, nr_r, nr_l, nr_n, rx_iret, kb_225_0, kb_225_10, kb_225_23, kb_225_53, kb_225_56, kb_225_64, kr_225, kf_46_706, kf_46_715, kk_46_753, List.getD_cons_zero, List.getD_cons_succ, List.set_cons_zero, List.set_cons_succ, ex_spl, ex_low, Option.toList, List.cons_append, List.nil_append, reduceIte, Int.reduceToNat, Nat.reduceDiv, Nat.reduceMod, Nat.reduceAdd, Nat.reduceMul, z_0, z_1, z_10, z_01, reduceCtorEq, ite_true, ite_false, true_and, and_true, ↓bI_01, ↓bP_01, ↓zret0, ↓zret1, z_add, z_sub, z_mul, up_1, up_2, not_true, not_false_iff, if_true, if_false, bI_T, bI_F, Int.reduceNeg, Int.reduceAdd, Int.reduceSub, Int.reduceMul, Int.reduceEq, Int.reduceLT, Int.reduceLE, Int.natCast_add, Int.cast_ofNat_Int]
    · refine q_ask hV (.int (Int32.ofInt (-102))) (fun d w hC => ⟨w, ?_, sC_r w⟩) (fun d w hM => ⟨w, ?_, sM_r w⟩)
      · rw [ke_123 kc_0]
        by_cases h3 : b < -3
        · simp (disch := omega) only [m_there2 hV.1.1 hC, bI_t, bI_f, ev_iload, ev_aload, rx_istore, ev_iinc, ev_push, ev_ior, ev_ishl, ev_goto, ev_jsr, rx_ilt_t, rx_ilt_f, rx_ige_t, rx_ige_f, rx_ile_t, rx_ile_f, rx_zeq_t, rx_zeq_f, rx_zne_t, rx_zne_f, ev_getf, ev_callv, nr_i, nr_r, nr_l, nr_n, rx_iret, kb_123_0, kb_123_13, kb_123_24, kb_123_27, kb_123_31, kb_123_60, kb_123_66, kr_123, kf_20_1, kf_29_1, kf_0_643, kf_0_645, List.getD_cons_zero, List.getD_cons_succ, List.set_cons_zero, List.set_cons_succ, ex_spl, ex_low, Option.toList, List.cons_append, List.nil_append, reduceIte, Int.reduceToNat, Nat.reduceDiv, Nat.reduceMod, Nat.reduceAdd, Nat.reduceMul, z_0, z_1, z_10, z_01, reduceCtorEq, ite_true, ite_false, true_and, and_true, ↓bI_01, ↓bP_01, ↓zret0, ↓zret1, z_add, z_sub, z_mul, up_1, up_2, not_true, not_false_iff, if_true, if_false, bI_T, bI_F, Int.reduceNeg, Int.reduceAdd, Int.reduceSub, Int.reduceMul, Int.reduceEq, Int.reduceLT, Int.reduceLE, Int.natCast_add, Int.cast_ofNat_Int]
        · simp (disch := omega) only [m_there2 hV.1.1 hC, bI_t, bI_f, ev_iload, ev_aload, rx_istore, ev_iinc, ev_push, ev_ior, ev_ishl, ev_goto, ev_jsr, rx_ilt_t, rx_ilt_f, rx_ige_t, rx_ige_f, rx_ile_t, rx_ile_f, rx_zeq_t, rx_zeq_f, rx_zne_t, rx_zne_f, ev_getf, ev_callv, nr_i, nr_r, nr_l, nr_n, rx_iret, kb_123_0, kb_123_13, kb_123_24, kb_123_27, kb_123_31, kb_123_60, kb_123_66, kr_123, kf_20_1, kf_29_1, kf_0_643, kf_0_645, List.getD_cons_zero, List.getD_cons_succ, List.set_cons_zero, List.set_cons_succ, ex_spl, ex_low, Option.toList, List.cons_append, List.nil_append, reduceIte, Int.reduceToNat, Nat.reduceDiv, Nat.reduceMod, Nat.reduceAdd, Nat.reduceMul, z_0, z_1, z_10, z_01, reduceCtorEq, ite_true, ite_false, true_and, and_true, ↓bI_01, ↓bP_01, ↓zret0, ↓zret1, z_add, z_sub, z_mul, up_1, up_2, not_true, not_false_iff, if_true, if_false, bI_T, bI_F, Int.reduceNeg, Int.reduceAdd, Int.reduceSub, Int.reduceMul, Int.reduceEq, Int.reduceLT, Int.reduceLE, Int.natCast_add, Int.cast_ofNat_Int]
      · have g2 := hM.1.2.2.1
        rw [ke_225 kc_46]
        simp (disch := omega) only [g2, r_within, bP_t, bP_f, ev_iload, ev_aload, rx_istore, ev_iinc, ev_push, ev_ior, ev_ishl, ev_goto, ev_jsr, rx_ige_t, rx_ige_f, rx_zne_t, rx_zne_f, ev_getf, ev_putf, ev_putl, ev_call, ev_callv, nr_i, nr_r, nr_l, nr_n, rx_iret, kb_225_0, kb_225_10, kb_225_23, kb_225_32, kb_225_53, kb_225_56, kb_225_64, kr_225, kf_46_706, kf_46_715, kk_46_753, List.getD_cons_zero, List.getD_cons_succ, List.set_cons_zero, List.set_cons_succ, ex_spl, ex_low, Option.toList, List.cons_append, List.nil_append, reduceIte, Int.reduceToNat, Nat.reduceDiv, Nat.reduceMod, Nat.reduceAdd, Nat.reduceMul, z_0, z_1, z_10, z_01, reduceCtorEq, ite_true, ite_false, true_and, and_true, ↓bI_01, ↓bP_01, ↓zret0, ↓zret1, z_add, z_sub, z_mul, up_1, up_2, not_true, not_false_iff, if_true, if_false, bI_T, bI_F, Int.reduceNeg, Int.reduceAdd, Int.reduceSub, Int.reduceMul, Int.reduceEq, Int.reduceLT, Int.reduceLE, Int.natCast_add, Int.cast_ofNat_Int]
  · refine q_ask hV (.int (Int32.ofInt (-103))) (fun d w hC => ⟨w, ?_, sC_r w⟩) (fun d w hM => ⟨w, ?_, sM_r w⟩)
    · rw [ke_123 kc_0]
      simp (disch := omega) only [m_there2 hV.1.1 hC, bI_t, bI_f, ev_iload, ev_aload, rx_istore, ev_iinc, ev_push, ev_ior, ev_ishl, ev_goto, ev_jsr, rx_ilt_t, rx_ilt_f, rx_ige_t, rx_ige_f, rx_ile_t, rx_ile_f, rx_zeq_t, rx_zeq_f, rx_zne_t, rx_zne_f, ev_getf, ev_callv, nr_i, nr_r, nr_l, nr_n, rx_iret, kb_123_0, kb_123_13, kb_123_24, kb_123_27, kb_123_31, kb_123_60, kb_123_66, kr_123, kf_20_1, kf_29_1, kf_0_643, kf_0_645, List.getD_cons_zero, List.getD_cons_succ, List.set_cons_zero, List.set_cons_succ, ex_spl, ex_low, Option.toList, List.cons_append, List.nil_append, reduceIte, Int.reduceToNat, Nat.reduceDiv, Nat.reduceMod, Nat.reduceAdd, Nat.reduceMul, z_0, z_1, z_10, z_01, reduceCtorEq, ite_true, ite_false, true_and, and_true, ↓bI_01, ↓bP_01, ↓zret0, ↓zret1, z_add, z_sub, z_mul, up_1, up_2, not_true, not_false_iff, if_true, if_false, bI_T, bI_F, Int.reduceNeg, Int.reduceAdd, Int.reduceSub, Int.reduceMul, Int.reduceEq, Int.reduceLT, Int.reduceLE, Int.natCast_add, Int.cast_ofNat_Int]
    · have g2 := hM.1.2.2.1
      rw [ke_225 kc_46]
      simp (disch := omega) only [g2, ev_iload, ev_aload, rx_istore, ev_iinc, ev_push, ev_ior, ev_ishl, ev_goto, ev_jsr, rx_ige_t, rx_ige_f, rx_zne_t, rx_zne_f, ev_getf, ev_putf, ev_putl, ev_call, ev_callv, nr_i, nr_r, nr_l, nr_n, rx_iret, kb_225_0, kb_225_10, kb_225_23, kb_225_32, kb_225_53, kb_225_56, kb_225_64, kr_225, kf_46_706, kf_46_715, kk_46_753, List.getD_cons_zero, List.getD_cons_succ, List.set_cons_zero, List.set_cons_succ, ex_spl, ex_low, Option.toList, List.cons_append, List.nil_append, reduceIte, Int.reduceToNat, Nat.reduceDiv, Nat.reduceMod, Nat.reduceAdd, Nat.reduceMul, z_0, z_1, z_10, z_01, reduceCtorEq, ite_true, ite_false, true_and, and_true, ↓bI_01, ↓bP_01, ↓zret0, ↓zret1, z_add, z_sub, z_mul, up_1, up_2, not_true, not_false_iff, if_true, if_false, bI_T, bI_F, Int.reduceNeg, Int.reduceAdd, Int.reduceSub, Int.reduceMul, Int.reduceEq, Int.reduceLT, Int.reduceLE, Int.natCast_add, Int.cast_ofNat_Int]
/-! count -/
noncomputable def q_cnt (A : AS) (k : Int) : Int := if k = 0 then A 0 15 else if k = 1 then A 0 3 else if k = 2 then A 0 4 else if k = 3 then A 0 5 else if k = 4 then A 0 6 else if k = 5 then A 0 7 else if k = 6 then A 0 8 else if k = 7 then A 0 2 else if k = 8 then A 0 9 else -102
theorem m_psize {d : Nat} {A : AS} {w : PW} (hC : rC A w) : ex_cal (d + 1) 87 [.ref 1] w = some (some (.int (Int32.ofInt (A 0 8))), w) := by
  obtain ⟨⟨⟨⟨h511, h512, h513⟩, ⟨hk, hro, hco, hli⟩⟩, ⟨hbe, hah, hbs, hos⟩⟩, hdo, ⟨h010, h011, h09, h11⟩, hpc, ht18, ht21, ht23, ht25, ht27, ht30, ht32, ht34, ht36⟩ := id hC
  rw [ke_87 kc_1]
  simp (disch := omega) only [h11, ev_aload, ev_getf, nr_i, nr_r, nr_l, nr_n, rx_iret, kb_87_0, kr_87, kf_1_449, List.getD_cons_zero, List.getD_cons_succ, List.set_cons_zero, List.set_cons_succ, ex_spl, ex_low, Option.toList, List.cons_append, List.nil_append, reduceIte, Int.reduceToNat, Nat.reduceDiv, Nat.reduceMod, Nat.reduceAdd, Nat.reduceMul, z_0, z_1, z_10, z_01, reduceCtorEq, ite_true, ite_false, true_and, and_true, ↓bI_01, ↓bP_01, ↓zret0, ↓zret1, z_add, z_sub, z_mul, up_1, up_2, not_true, not_false_iff, if_true, if_false, bI_T, bI_F, Int.reduceNeg, Int.reduceAdd, Int.reduceSub, Int.reduceMul, Int.reduceEq, Int.reduceLT, Int.reduceLE, Int.natCast_add, Int.cast_ofNat_Int]
theorem m_count {d : Nat} {A : AS} {w : PW} (hV : q_v0 A) (hC : rC A w) {k : Int} (k0 : -2147483648 ≤ k) (k1 : k < 2147483648) : ex_cal (d + 3) 128 [.ref 0, .int (Int32.ofInt k)] w = some (some (.int (Int32.ofInt (q_cnt A k))), w) := by
  have hr := q_rng hV
  obtain ⟨⟨⟨⟨h511, h512, h513⟩, ⟨hk, hro, hco, hli⟩⟩, ⟨hbe, hah, hbs, hos⟩⟩, hdo, ⟨h010, h011, h09, h11⟩, hpc, ht18, ht21, ht23, ht25, ht27, ht30, ht32, ht34, ht36⟩ := id hC
  have s21 : w.1 21 2 = Int32.ofInt (A 0 5) := ht21.2.1
  have s23 : w.1 23 2 = Int32.ofInt (A 0 4) := ht23.2.1
  have s25 : w.1 25 2 = Int32.ofInt (A 0 6) := ht25.2.1
  have s27 : w.1 27 2 = Int32.ofInt (A 0 7) := ht27.2.1
  rw [ke_128 kc_0]
  unfold q_cnt
  by_cases hk : 0 ≤ k ∧ k ≤ 8
  · have hkk : k = 0 ∨ k = 1 ∨ k = 2 ∨ k = 3 ∨ k = 4 ∨ k = 5 ∨ k = 6 ∨ k = 7 ∨ k = 8 := by omega
    rcases hkk with e | e | e | e | e | e | e | e | e <;> subst e <;> simp only [reduceIte, Int.reduceEq] <;> simp (disch := omega) only [m_cells hC.1.1, m_lsize hC, m_tsize tb_21, m_tsize tb_23, m_tsize tb_25, m_tsize tb_27, s21, s23, s25, s27, m_psize hC, h010, h011, ev_iload, ev_aload, ev_push, ev_getf, ev_callv, nr_i, nr_r, nr_l, nr_n, rx_tsw, rx_tsd, ar_tl, Int.reduceSub, rx_iret, kb_128_0, kb_128_52, kb_128_60, kb_128_68, kb_128_79, kb_128_90, kb_128_101, kb_128_112, kb_128_120, kb_128_125, kb_128_130, kr_128, kf_20_0, kf_29_0, kf_20_1, kf_29_1, kf_20_2, kf_29_2, kf_20_3, kf_29_3, kf_0_640, kf_0_643, kf_0_644, kf_0_645, kf_0_650, kf_0_651, List.getD_cons_zero, List.getD_cons_succ, List.set_cons_zero, List.set_cons_succ, ex_spl, ex_low, Option.toList, List.cons_append, List.nil_append, reduceIte, Int.reduceToNat, Nat.reduceDiv, Nat.reduceMod, Nat.reduceAdd, Nat.reduceMul, z_0, z_1, z_10, z_01, reduceCtorEq, ite_true, ite_false, true_and, and_true, ↓bI_01, ↓bP_01, ↓zret0, ↓zret1, z_add, z_sub, z_mul, up_1, up_2, not_true, not_false_iff, if_true, if_false, bI_T, bI_F, Int.reduceNeg, Int.reduceAdd, Int.reduceSub, Int.reduceMul, Int.reduceEq, Int.reduceLT, Int.reduceLE, Int.natCast_add, Int.cast_ofNat_Int]
  · repeat rw [if_neg (by omega)]
    simp (disch := omega) only [ev_iload, ev_aload, ev_push, ev_getf, ev_callv, nr_i, nr_r, nr_l, nr_n, rx_tsw, rx_tsd, ar_tl, Int.reduceSub, rx_iret, kb_128_0, kb_128_52, kb_128_60, kb_128_68, kb_128_79, kb_128_90, kb_128_101, kb_128_112, kb_128_120, kb_128_125, kb_128_130, kr_128, kf_20_0, kf_29_0, kf_20_1, kf_29_1, kf_20_2, kf_29_2, kf_20_3, kf_29_3, kf_0_640, kf_0_643, kf_0_644, kf_0_645, kf_0_650, kf_0_651, List.getD_cons_zero, List.getD_cons_succ, List.set_cons_zero, List.set_cons_succ, ex_spl, ex_low, Option.toList, List.cons_append, List.nil_append, reduceIte, Int.reduceToNat, Nat.reduceDiv, Nat.reduceMod, Nat.reduceAdd, Nat.reduceMul, z_0, z_1, z_10, z_01, reduceCtorEq, ite_true, ite_false, true_and, and_true, ↓bI_01, ↓bP_01, ↓zret0, ↓zret1, z_add, z_sub, z_mul, up_1, up_2, not_true, not_false_iff, if_true, if_false, bI_T, bI_F, Int.reduceNeg, Int.reduceAdd, Int.reduceSub, Int.reduceMul, Int.reduceEq, Int.reduceLT, Int.reduceLE, Int.natCast_add, Int.cast_ofNat_Int]
theorem r_howMany {d : Nat} {A : AS} {b : Int} {w : PW} (hV : q_v0 A) (hM : rN A b w) {k : Int} (k0 : -2147483648 ≤ k) (k1 : k < 2147483648) : ex_cal (d + 2) 231 [.ref 46, .int (Int32.ofInt k)] w = some (some (.int (Int32.ofInt (q_cnt A k))), w) := by
  have hr := q_rng hV
  obtain ⟨⟨g0, g1, g2, g5, g11, g13, g17, g20, g23, g24, g49⟩, ⟨gk, gl⟩, ⟨gs, ga, gf, gt, gn⟩, ⟨gtk, gtc, gtw⟩, ge, ⟨gba, gbh⟩, ⟨gjc, gjs⟩, gp⟩ := id hM
  rw [ke_231 kc_46]
  unfold q_cnt
  by_cases hk : 0 ≤ k ∧ k ≤ 8
  · have hkk : k = 0 ∨ k = 1 ∨ k = 2 ∨ k = 3 ∨ k = 4 ∨ k = 5 ∨ k = 6 ∨ k = 7 ∨ k = 8 := by omega
    rcases hkk with e | e | e | e | e | e | e | e | e <;> subst e <;> simp only [reduceIte, Int.reduceEq] <;> simp (disch := omega) only [r_cells hV.1 hM, g5, g11, g13, g17, g20, g24, g2, g23, ev_iload, ev_aload, ev_push, ev_getf, ev_callv, nr_i, nr_r, nr_l, nr_n, rx_tsw, rx_tsd, ar_tl, Int.reduceSub, rx_iret, kb_231_0, kb_231_52, kb_231_57, kb_231_62, kb_231_67, kb_231_72, kb_231_77, kb_231_82, kb_231_87, kb_231_92, kb_231_97, kr_231, kf_46_706, kf_46_709, kf_46_715, kf_46_717, kf_46_721, kf_46_724, kf_46_727, kf_46_728, List.getD_cons_zero, List.getD_cons_succ, List.set_cons_zero, List.set_cons_succ, ex_spl, ex_low, Option.toList, List.cons_append, List.nil_append, reduceIte, Int.reduceToNat, Nat.reduceDiv, Nat.reduceMod, Nat.reduceAdd, Nat.reduceMul, z_0, z_1, z_10, z_01, reduceCtorEq, ite_true, ite_false, true_and, and_true, ↓bI_01, ↓bP_01, ↓zret0, ↓zret1, z_add, z_sub, z_mul, up_1, up_2, not_true, not_false_iff, if_true, if_false, bI_T, bI_F, Int.reduceNeg, Int.reduceAdd, Int.reduceSub, Int.reduceMul, Int.reduceEq, Int.reduceLT, Int.reduceLE, Int.natCast_add, Int.cast_ofNat_Int]
  · repeat rw [if_neg (by omega)]
    simp (disch := omega) only [ev_iload, ev_aload, ev_push, ev_getf, ev_callv, nr_i, nr_r, nr_l, nr_n, rx_tsw, rx_tsd, ar_tl, Int.reduceSub, rx_iret, kb_231_0, kb_231_52, kb_231_57, kb_231_62, kb_231_67, kb_231_72, kb_231_77, kb_231_82, kb_231_87, kb_231_92, kb_231_97, kr_231, kf_46_706, kf_46_709, kf_46_715, kf_46_717, kf_46_721, kf_46_724, kf_46_727, kf_46_728, List.getD_cons_zero, List.getD_cons_succ, List.set_cons_zero, List.set_cons_succ, ex_spl, ex_low, Option.toList, List.cons_append, List.nil_append, reduceIte, Int.reduceToNat, Nat.reduceDiv, Nat.reduceMod, Nat.reduceAdd, Nat.reduceMul, z_0, z_1, z_10, z_01, reduceCtorEq, ite_true, ite_false, true_and, and_true, ↓bI_01, ↓bP_01, ↓zret0, ↓zret1, z_add, z_sub, z_mul, up_1, up_2, not_true, not_false_iff, if_true, if_false, bI_T, bI_F, Int.reduceNeg, Int.reduceAdd, Int.reduceSub, Int.reduceMul, Int.reduceEq, Int.reduceLT, Int.reduceLE, Int.natCast_add, Int.cast_ofNat_Int]
theorem g_count {A : AS} (hV : q_V A) {k : Int} (k0 : -2147483648 ≤ k) (k1 : k < 2147483648) : q_both A 128 232 [.int (Int32.ofInt k)] := by
  refine q_ask hV (.int (Int32.ofInt (q_cnt A k))) (fun d w hC => ⟨w, ?_, sC_r w⟩) (fun d w hM => ⟨w, ?_, sM_r w⟩)
  · exact m_count hV.1 hC k0 k1
  · rw [ke_232 kc_46]
    simp (disch := omega) only [r_howMany hV.1 hM, ev_iload, ev_aload, ev_callv, nr_i, nr_r, nr_l, nr_n, rx_iret, kb_232_0, kr_232, List.getD_cons_zero, List.getD_cons_succ, List.set_cons_zero, List.set_cons_succ, ex_spl, ex_low, Option.toList, List.cons_append, List.nil_append, reduceIte, Int.reduceToNat, Nat.reduceDiv, Nat.reduceMod, Nat.reduceAdd, Nat.reduceMul, z_0, z_1, z_10, z_01, reduceCtorEq, ite_true, ite_false, true_and, and_true, ↓bI_01, ↓bP_01, ↓zret0, ↓zret1, z_add, z_sub, z_mul, up_1, up_2, not_true, not_false_iff, if_true, if_false, bI_T, bI_F, Int.reduceNeg, Int.reduceAdd, Int.reduceSub, Int.reduceMul, Int.reduceEq, Int.reduceLT, Int.reduceLE, Int.natCast_add, Int.cast_ofNat_Int]
