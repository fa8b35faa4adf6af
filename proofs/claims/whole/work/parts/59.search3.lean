/-! moves(): the class, by two; hopeless habits -/
def q_R (A : AS) (t p : Int) : Prop := q_ip A t p ∧ ∃ u, t < u ∧ u < A 0 5 ∧ q_W (q_mv A t (p / 4) (p % 4)) t u
theorem m_twoIn {d : Nat} {A : AS} {w0 w : PW} (hV : q_v0 A) (hW : q_w0 A w0) (hs : sMv A w0 w) {t : Int} (t0 : 0 ≤ t) (t1 : t < A 0 5) {P U M : Nat} (hP : P ≤ 96) (hno : ∀ i : Int, 0 ≤ i → i < P → ¬ q_R A t i) (hyes : P < 96 → q_ip A t P ∧ t < (U : Int) ∧ (U : Int) < A 0 5 ∧ (∀ u : Int, t < u → u < U → ¬ q_W (q_mv A t ((P : Int) / 4) ((P : Int) % 4)) t u) ∧ q_di2 (q_mv A t ((P : Int) / 4) ((P : Int) % 4)) t U ∧ M < 96 ∧ q_D (q_mv A t ((P : Int) / 4) ((P : Int) % 4)) U M ∧ ∀ i : Int, 0 ≤ i → i < M → ¬ q_D (q_mv A t ((P : Int) / 4) ((P : Int) % 4)) U i) (u7 : Value) (y7 : xv u7) : (P < 96 ∧ ∃ w', ex_ev (d + 6) (ex_cal (d + 6)) 78 (ex_blk 78 36, [.ref 41, .ref 5, .ref 38, .int (Int32.ofInt t), .int (Int32.ofInt (4 * A 5 (5 * t + 1) + A 5 (5 * t + 2))), .int (q_sp A (A 5 (5 * t)) (A 5 (5 * t + 1)) (A 5 (5 * t + 2))), .int (Int32.ofInt 0), u7], [], w) = some (none, w') ∧ (∀ o k, ¬ (41 ≤ o ∧ o < 46) → w'.1 o k = w0.1 o k) ∧ rAn w' 2 t P U M) ∨ (¬ P < 96 ∧ ∃ w' v6 v7, ex_ev (d + 6) (ex_cal (d + 6)) 78 (ex_blk 78 36, [.ref 41, .ref 5, .ref 38, .int (Int32.ofInt t), .int (Int32.ofInt (4 * A 5 (5 * t + 1) + A 5 (5 * t + 2))), .int (q_sp A (A 5 (5 * t)) (A 5 (5 * t + 1)) (A 5 (5 * t + 2))), .int (Int32.ofInt 0), u7], [], w) = ex_ev (d + 6) (ex_cal (d + 6)) 78 (ex_blk 78 2, [.ref 41, .ref 5, .ref 38, .int (Int32.ofInt (t + 1)), .int (Int32.ofInt (4 * A 5 (5 * t + 1) + A 5 (5 * t + 2))), .int (q_sp A (A 5 (5 * t)) (A 5 (5 * t + 1)) (A 5 (5 * t + 2))), v6, v7], [], w') ∧ xv v6 ∧ xv v7 ∧ sMv A w0 w' ∧ ∀ k, w'.1 45 k = w.1 45 k) := by
  have hr := q_rng hV
  have hg : ∀ x, 0 ≤ x → x < A 0 5 → q_gr A x := fun x x0 x1 => q_gr_v hV x0 x1
  obtain ⟨g1, g2, g3, g4, g5, g6, g7⟩ := hg t t0 t1
  generalize hhome : 4 * A 5 (5 * t + 1) + A 5 (5 * t + 2) = home at *
  have hh0 : 0 ≤ home ∧ home < 96 := by omega
  refine ex_loop (Q := fun q => (P < 96 ∧ ∃ w', q = some (none, w') ∧ (∀ o k, ¬ (41 ≤ o ∧ o < 46) → w'.1 o k = w0.1 o k) ∧ rAn w' 2 t P U M) ∨ (¬ P < 96 ∧ ∃ w' v6 v7, q = ex_ev (d + 6) (ex_cal (d + 6)) 78 (ex_blk 78 2, [.ref 41, .ref 5, .ref 38, .int (Int32.ofInt (t + 1)), .int (Int32.ofInt home), .int (q_sp A (A 5 (5 * t)) (A 5 (5 * t + 1)) (A 5 (5 * t + 2))), v6, v7], [], w') ∧ xv v6 ∧ xv v7 ∧ sMv A w0 w' ∧ ∀ k, w'.1 45 k = w.1 45 k)) (fun i s => ∃ w1 v7, s = (ex_blk 78 36, [.ref 41, .ref 5, .ref 38, .int (Int32.ofInt t), .int (Int32.ofInt home), .int (q_sp A (A 5 (5 * t)) (A 5 (5 * t + 1)) (A 5 (5 * t + 2))), .int (Int32.ofInt (i : Int)), v7], [], w1) ∧ xv v7 ∧ rMu A t w1 ∧ (∃ z, 0 ≤ z ∧ z < 6 ∧ w1.1 41 5 = Int32.ofInt z) ∧ (∀ o k, ¬ (41 ≤ o ∧ o < 46) → w1.1 o k = w0.1 o k) ∧ ∀ k, w1.1 45 k = w.1 45 k) P ?_ ?_ ?_
  · exact ⟨w, u7, rfl, y7, rMu_v hs.1, hs.2.1, hs.2.2, fun _ => rfl⟩
  · rintro i s hi ⟨w1, v7, rfl, x7, U1, ⟨z', z0', z1', hz'⟩, o1', a1⟩
    right
    have hW1 := q_w0_f hW o1'
    obtain ⟨c, v, hcv, c0, c1, v0, v1, ec, ev⟩ : ∃ c v : Int, (i : Int) = 4 * c + v ∧ 0 ≤ c ∧ c < 24 ∧ 0 ≤ v ∧ v < 4 ∧ (i : Int) / 4 = c ∧ (i : Int) % 4 = v := ⟨(i : Int) / 4, (i : Int) % 4, by omega, by omega, by omega, by omega, by omega, rfl, rfl⟩
    have hd := hno i (by omega) (by omega)
    unfold q_R q_ip at hd
    rw [hhome, ec, ev] at hd
    have k42 := U1.2.1 t t0 (by omega)
    have esp := m_spot (d := d + 4) hV.1 hW1.1.1 (k := A 5 (5 * t)) (c := c) (v := v) (by omega) (by omega) c0 c1 v0 v1
    generalize q_sp A (A 5 (5 * t)) (A 5 (5 * t + 1)) (A 5 (5 * t + 2)) = hsp at *
    have hset := rMu_set (c := c) (v := v) U1 t0
    have hspn := q_sp_n0 (A := A) hV.1 (k := A 5 (5 * t)) (c := c) (v := v)
    generalize hS : q_sp A (A 5 (5 * t)) c v = S at *
    rw [← hcv] at hset esp
    by_cases h1 : (i : Int) = home
    · refine ⟨(ex_blk 78 36, [.ref 41, .ref 5, .ref 38, .int (Int32.ofInt t), .int (Int32.ofInt home), .int hsp, .int (Int32.ofInt ((i : Int) + 1)), .int S], [], w1), ?_, w1, _, rfl, xv_i _, U1, ⟨z', z0', z1', hz'⟩, o1', a1⟩
      conv => lhs; rw [kb_78_36]
      simp (disch := omega) only [k42, esp, x7, ev_iload, ev_aload, rx_istore, ev_iinc, ev_push, ev_iadd, ev_goto, ev_jsr, rx_ieq_t, rx_ieq_f, rx_ige_t, rx_ige_f, rx_zeq_t, rx_zeq_f, ev_getf, ev_iald, ev_callv, nr_i, nr_r, nr_l, nr_n, kA_2, kA_6, kA_7, kA_8, kA_9, kA_10, kA_11, kA_12, kA_13, kA_14, kA_15, kA_16, kA_19, kA_22, kA_24, kA_26, kA_28, kA_31, kA_33, kA_35, kA_37, kA_39, kA_40, kA_42, kA_43, kA_44, kA_45, kS_2, kS_6, kS_7, kS_8, kS_9, kS_10, kS_11, kS_12, kS_13, kS_14, kS_15, kS_16, kS_19, kS_22, kS_24, kS_26, kS_28, kS_31, kS_33, kS_35, kS_37, kS_39, kS_40, kS_42, kS_43, kS_44, kS_45, rx_vret, kb_78_0, kb_78_96, kb_78_102, kb_78_124, kr_78, kf_41_384, kf_41_385, kf_41_386, kf_41_388, List.getD_cons_zero, List.getD_cons_succ, List.set_cons_zero, List.set_cons_succ, ex_spl, ex_low, Option.toList, List.cons_append, List.nil_append, reduceIte, Int.reduceToNat, Nat.reduceDiv, Nat.reduceMod, Nat.reduceAdd, Nat.reduceMul, z_0, z_1, z_10, z_01, reduceCtorEq, ite_true, ite_false, true_and, and_true, ↓bI_01, ↓bP_01, ↓zret0, ↓zret1, z_add, z_sub, z_mul, up_1, up_2, not_true, not_false_iff, if_true, if_false, bI_T, bI_F, bP_T, bP_F, or_true, true_or, or_false, false_or, Int.reduceNeg, Int.reduceAdd, Int.reduceSub, Int.reduceMul, Int.reduceEq, Int.reduceLT, Int.reduceLE, Int.natCast_add, Int.cast_ofNat_Int]
    · by_cases h2 : S = Int32.ofInt 0
      · refine ⟨(ex_blk 78 36, [.ref 41, .ref 5, .ref 38, .int (Int32.ofInt t), .int (Int32.ofInt home), .int hsp, .int (Int32.ofInt ((i : Int) + 1)), .int S], [], w1), ?_, w1, _, rfl, xv_i _, U1, ⟨z', z0', z1', hz'⟩, o1', a1⟩
        conv => lhs; rw [kb_78_36]
        simp (disch := omega) only [k42, esp, x7, rx_xeq_t h2, ev_iload, ev_aload, rx_istore, ev_iinc, ev_push, ev_iadd, ev_goto, ev_jsr, rx_ieq_t, rx_ieq_f, rx_ige_t, rx_ige_f, rx_zeq_t, rx_zeq_f, ev_getf, ev_iald, ev_callv, nr_i, nr_r, nr_l, nr_n, kA_2, kA_6, kA_7, kA_8, kA_9, kA_10, kA_11, kA_12, kA_13, kA_14, kA_15, kA_16, kA_19, kA_22, kA_24, kA_26, kA_28, kA_31, kA_33, kA_35, kA_37, kA_39, kA_40, kA_42, kA_43, kA_44, kA_45, kS_2, kS_6, kS_7, kS_8, kS_9, kS_10, kS_11, kS_12, kS_13, kS_14, kS_15, kS_16, kS_19, kS_22, kS_24, kS_26, kS_28, kS_31, kS_33, kS_35, kS_37, kS_39, kS_40, kS_42, kS_43, kS_44, kS_45, rx_vret, kb_78_0, kb_78_96, kb_78_102, kb_78_124, kr_78, kf_41_384, kf_41_385, kf_41_386, kf_41_388, List.getD_cons_zero, List.getD_cons_succ, List.set_cons_zero, List.set_cons_succ, ex_spl, ex_low, Option.toList, List.cons_append, List.nil_append, reduceIte, Int.reduceToNat, Nat.reduceDiv, Nat.reduceMod, Nat.reduceAdd, Nat.reduceMul, z_0, z_1, z_10, z_01, reduceCtorEq, ite_true, ite_false, true_and, and_true, ↓bI_01, ↓bP_01, ↓zret0, ↓zret1, z_add, z_sub, z_mul, up_1, up_2, not_true, not_false_iff, if_true, if_false, bI_T, bI_F, bP_T, bP_F, or_true, true_or, or_false, false_or, Int.reduceNeg, Int.reduceAdd, Int.reduceSub, Int.reduceMul, Int.reduceEq, Int.reduceLT, Int.reduceLE, Int.natCast_add, Int.cast_ofNat_Int]
      · have hfl := hspn h2
        have hg2 := q_gr_mv2 hg hfl.1.1 hfl.1.2.1 v0 v1 hfl.2.2
        have hs2 : sMv (q_mv A t c v) w0 (ex_up (ex_up w1 43 t.toNat (Int32.ofInt (i : Int))) 44 t.toNat S) := ⟨hset, ⟨z', z0', z1', by rw [up_n (by omega), up_n (by omega)]; exact hz'⟩, fun o k hk => by rw [up_n (by omega), up_n (by omega)]; exact o1' o k hk⟩
        have hnW : ∀ u : Int, t < u → u < ((A 0 5).toNat : Int) → ¬ q_W (q_mv A t c v) t u := fun u u0 u1 hh => hd ⟨⟨h1, h2⟩, u, u0, by omega, hh⟩
        obtain ⟨w3, e3, o3, -, s3⟩ := m_doneWith (d := d) (m := 0) hV hW (q_like_mv (q_like_r A)) hg2 hs2 t0 t1 (n := (A 0 5).toNat) (by omega) (by omega) hnW (fun h => absurd h (by omega))
        rw [if_neg (by omega)] at e3
        obtain ⟨s3, a3⟩ := s3 (by omega)
        refine ⟨(ex_blk 78 36, [.ref 41, .ref 5, .ref 38, .int (Int32.ofInt t), .int (Int32.ofInt home), .int hsp, .int (Int32.ofInt ((i : Int) + 1)), .int S], [], w3), ?_, w3, _, rfl, xv_i _, rMu_of s3.1, s3.2.1, s3.2.2, fun k => ?_⟩
        · conv => lhs; rw [kb_78_36]
          simp (disch := omega) only [k42, esp, x7, rx_xeq_f h2, e3, ev_iload, ev_aload, rx_istore, ev_iinc, ev_push, ev_iadd, ev_goto, ev_jsr, rx_ieq_t, rx_ieq_f, rx_ige_t, rx_ige_f, rx_zeq_t, rx_zeq_f, ev_getf, ev_iald, ev_callv, nr_i, nr_r, nr_l, nr_n, kA_2, kA_6, kA_7, kA_8, kA_9, kA_10, kA_11, kA_12, kA_13, kA_14, kA_15, kA_16, kA_19, kA_22, kA_24, kA_26, kA_28, kA_31, kA_33, kA_35, kA_37, kA_39, kA_40, kA_42, kA_43, kA_44, kA_45, kS_2, kS_6, kS_7, kS_8, kS_9, kS_10, kS_11, kS_12, kS_13, kS_14, kS_15, kS_16, kS_19, kS_22, kS_24, kS_26, kS_28, kS_31, kS_33, kS_35, kS_37, kS_39, kS_40, kS_42, kS_43, kS_44, kS_45, rx_vret, kb_78_0, kb_78_96, kb_78_102, kb_78_124, kr_78, kf_41_384, kf_41_385, kf_41_386, kf_41_388, List.getD_cons_zero, List.getD_cons_succ, List.set_cons_zero, List.set_cons_succ, ex_spl, ex_low, Option.toList, List.cons_append, List.nil_append, reduceIte, Int.reduceToNat, Nat.reduceDiv, Nat.reduceMod, Nat.reduceAdd, Nat.reduceMul, z_0, z_1, z_10, z_01, reduceCtorEq, ite_true, ite_false, true_and, and_true, ↓bI_01, ↓bP_01, ↓zret0, ↓zret1, z_add, z_sub, z_mul, up_1, up_2, not_true, not_false_iff, if_true, if_false, bI_T, bI_F, bP_T, bP_F, or_true, true_or, or_false, false_or, Int.reduceNeg, Int.reduceAdd, Int.reduceSub, Int.reduceMul, Int.reduceEq, Int.reduceLT, Int.reduceLE, Int.natCast_add, Int.cast_ofNat_Int]
        · rw [a3, up_n (by omega), up_n (by omega)]; exact a1 k
  · rintro s ⟨w1, v7, rfl, x7, U1, ⟨z', z0', z1', hz'⟩, o1', a1⟩
    have hW1 := q_w0_f hW o1'
    by_cases hP96 : P < 96
    · left
      refine ⟨hP96, ?_⟩
      obtain ⟨⟨d1, d2⟩, y1, y2, y3, y4, y5, y6, y8⟩ := hyes hP96
      obtain ⟨c, v, hcv, c0, c1, v0, v1, ec, ev⟩ : ∃ c v : Int, (P : Int) = 4 * c + v ∧ 0 ≤ c ∧ c < 24 ∧ 0 ≤ v ∧ v < 4 ∧ (P : Int) / 4 = c ∧ (P : Int) % 4 = v := ⟨(P : Int) / 4, (P : Int) % 4, by omega, by omega, by omega, by omega, by omega, rfl, rfl⟩
      rw [ec, ev] at d2 y3 y4 y6 y8
      rw [hhome] at d1
      have k42 := U1.2.1 t t0 (by omega)
      have esp := m_spot (d := d + 4) hV.1 hW1.1.1 (k := A 5 (5 * t)) (c := c) (v := v) (by omega) (by omega) c0 c1 v0 v1
      generalize q_sp A (A 5 (5 * t)) (A 5 (5 * t + 1)) (A 5 (5 * t + 2)) = hsp at *
      have hset := rMu_set (c := c) (v := v) U1 t0
      have hfl := q_sp_n0 (A := A) hV.1 d2
      generalize hS : q_sp A (A 5 (5 * t)) c v = S at *
      rw [← hcv] at hset esp
      have hg2 := q_gr_mv2 hg hfl.1.1 hfl.1.2.1 v0 v1 hfl.2.2
      have hs2 : sMv (q_mv A t c v) w0 (ex_up (ex_up w1 43 t.toNat (Int32.ofInt (P : Int))) 44 t.toNat S) := ⟨hset, ⟨z', z0', z1', by rw [up_n (by omega), up_n (by omega)]; exact hz'⟩, fun o k hk => by rw [up_n (by omega), up_n (by omega)]; exact o1' o k hk⟩
      obtain ⟨w3, e3, o3, a3, -⟩ := m_doneWith (d := d) (m := M) hV hW (q_like_mv (q_like_r A)) hg2 hs2 t0 t1 (n := U) y1 (by omega) y3 (fun _ => ⟨y4, y5, y6, y8⟩)
      rw [if_pos y2] at e3
      have a3 := a3 y2
      rw [q_mv_s.1, q_mv_s.2, ← hcv] at a3
      refine ⟨w3, ?_, o3, a3⟩
      rw [kb_78_36]
      simp (disch := omega) only [k42, esp, x7, rx_xeq_f d2, e3, ev_iload, ev_aload, rx_istore, ev_iinc, ev_push, ev_iadd, ev_goto, ev_jsr, rx_ieq_t, rx_ieq_f, rx_ige_t, rx_ige_f, rx_zeq_t, rx_zeq_f, ev_getf, ev_iald, ev_callv, nr_i, nr_r, nr_l, nr_n, kA_2, kA_6, kA_7, kA_8, kA_9, kA_10, kA_11, kA_12, kA_13, kA_14, kA_15, kA_16, kA_19, kA_22, kA_24, kA_26, kA_28, kA_31, kA_33, kA_35, kA_37, kA_39, kA_40, kA_42, kA_43, kA_44, kA_45, kS_2, kS_6, kS_7, kS_8, kS_9, kS_10, kS_11, kS_12, kS_13, kS_14, kS_15, kS_16, kS_19, kS_22, kS_24, kS_26, kS_28, kS_31, kS_33, kS_35, kS_37, kS_39, kS_40, kS_42, kS_43, kS_44, kS_45, rx_vret, kb_78_0, kb_78_96, kb_78_102, kb_78_124, kr_78, kf_41_384, kf_41_385, kf_41_386, kf_41_388, List.getD_cons_zero, List.getD_cons_succ, List.set_cons_zero, List.set_cons_succ, ex_spl, ex_low, Option.toList, List.cons_append, List.nil_append, reduceIte, Int.reduceToNat, Nat.reduceDiv, Nat.reduceMod, Nat.reduceAdd, Nat.reduceMul, z_0, z_1, z_10, z_01, reduceCtorEq, ite_true, ite_false, true_and, and_true, ↓bI_01, ↓bP_01, ↓zret0, ↓zret1, z_add, z_sub, z_mul, up_1, up_2, not_true, not_false_iff, if_true, if_false, bI_T, bI_F, bP_T, bP_F, or_true, true_or, or_false, false_or, Int.reduceNeg, Int.reduceAdd, Int.reduceSub, Int.reduceMul, Int.reduceEq, Int.reduceLT, Int.reduceLE, Int.natCast_add, Int.cast_ofNat_Int]
    · right
      refine ⟨hP96, ?_⟩
      have em : (P : Int) = 96 := by omega
      have hset := rMu_set (c := A 5 (5 * t + 1)) (v := A 5 (5 * t + 2)) U1 t0
      rw [q_mv_id, hhome] at hset
      refine ⟨ex_up (ex_up w1 43 t.toNat (Int32.ofInt home)) 44 t.toNat (q_sp A (A 5 (5 * t)) (A 5 (5 * t + 1)) (A 5 (5 * t + 2))), .int (Int32.ofInt 96), v7, ?_, xv_i _, x7, ⟨hset, ⟨z', z0', z1', by rw [up_n (by omega), up_n (by omega)]; exact hz'⟩, fun o k hk => ?_⟩, fun k => ?_⟩
      · rw [em]
        conv => lhs; rw [kb_78_36]
        simp (disch := omega) only [ev_iload, ev_aload, rx_istore, ev_iinc, ev_push, ev_iadd, ev_goto, ev_jsr, rx_ieq_t, rx_ieq_f, rx_ige_t, rx_ige_f, rx_zeq_t, rx_zeq_f, ev_getf, ev_iald, ev_callv, nr_i, nr_r, nr_l, nr_n, kA_2, kA_6, kA_7, kA_8, kA_9, kA_10, kA_11, kA_12, kA_13, kA_14, kA_15, kA_16, kA_19, kA_22, kA_24, kA_26, kA_28, kA_31, kA_33, kA_35, kA_37, kA_39, kA_40, kA_42, kA_43, kA_44, kA_45, kS_2, kS_6, kS_7, kS_8, kS_9, kS_10, kS_11, kS_12, kS_13, kS_14, kS_15, kS_16, kS_19, kS_22, kS_24, kS_26, kS_28, kS_31, kS_33, kS_35, kS_37, kS_39, kS_40, kS_42, kS_43, kS_44, kS_45, rx_vret, kb_78_0, kb_78_96, kb_78_102, kb_78_124, kr_78, kf_41_384, kf_41_385, kf_41_386, kf_41_388, List.getD_cons_zero, List.getD_cons_succ, List.set_cons_zero, List.set_cons_succ, ex_spl, ex_low, Option.toList, List.cons_append, List.nil_append, reduceIte, Int.reduceToNat, Nat.reduceDiv, Nat.reduceMod, Nat.reduceAdd, Nat.reduceMul, z_0, z_1, z_10, z_01, reduceCtorEq, ite_true, ite_false, true_and, and_true, ↓bI_01, ↓bP_01, ↓zret0, ↓zret1, z_add, z_sub, z_mul, up_1, up_2, not_true, not_false_iff, if_true, if_false, bI_T, bI_F, bP_T, bP_F, or_true, true_or, or_false, false_or, Int.reduceNeg, Int.reduceAdd, Int.reduceSub, Int.reduceMul, Int.reduceEq, Int.reduceLT, Int.reduceLE, Int.natCast_add, Int.cast_ofNat_Int]
      · rw [up_n (by omega), up_n (by omega)]; exact o1' o k hk
      · rw [up_n (by omega), up_n (by omega)]; exact a1 k
theorem m_two {d : Nat} {A : AS} {w0 w : PW} (hV : q_v0 A) (hW : q_w0 A w0) (hs : sMv A w0 w) {N P U M : Nat} (hN : (N : Int) ≤ A 0 5) (hno : ∀ t : Int, 0 ≤ t → t < N → ∀ i : Int, 0 ≤ i → i < 96 → ¬ q_R A t i) (hyes : (N : Int) < A 0 5 → P < 96 ∧ (∀ i : Int, 0 ≤ i → i < P → ¬ q_R A N i) ∧ q_ip A N P ∧ (N : Int) < (U : Int) ∧ (U : Int) < A 0 5 ∧ (∀ u : Int, (N : Int) < u → u < U → ¬ q_W (q_mv A N ((P : Int) / 4) ((P : Int) % 4)) N u) ∧ q_di2 (q_mv A N ((P : Int) / 4) ((P : Int) % 4)) N U ∧ M < 96 ∧ q_D (q_mv A N ((P : Int) / 4) ((P : Int) % 4)) U M ∧ ∀ i : Int, 0 ≤ i → i < M → ¬ q_D (q_mv A N ((P : Int) / 4) ((P : Int) % 4)) U i) : ∃ w', ex_cal (d + 7) 78 [.ref 41, .ref 5, .ref 38] w = some (none, w') ∧ (∀ o k, ¬ (41 ≤ o ∧ o < 46) → w'.1 o k = w0.1 o k) ∧ ((N : Int) < A 0 5 → rAn w' 2 N P U M) ∧ (¬ (N : Int) < A 0 5 → ∀ k, w'.1 45 k = w.1 45 k) := by
  have hr := q_rng hV
  rw [ke_78 kc_41]
  simp (disch := omega) only [ev_iload, ev_aload, rx_istore, ev_iinc, ev_push, ev_iadd, ev_goto, ev_jsr, rx_ieq_t, rx_ieq_f, rx_ige_t, rx_ige_f, rx_zeq_t, rx_zeq_f, ev_getf, ev_iald, ev_callv, nr_i, nr_r, nr_l, nr_n, kA_2, kA_6, kA_7, kA_8, kA_9, kA_10, kA_11, kA_12, kA_13, kA_14, kA_15, kA_16, kA_19, kA_22, kA_24, kA_26, kA_28, kA_31, kA_33, kA_35, kA_37, kA_39, kA_40, kA_42, kA_43, kA_44, kA_45, kS_2, kS_6, kS_7, kS_8, kS_9, kS_10, kS_11, kS_12, kS_13, kS_14, kS_15, kS_16, kS_19, kS_22, kS_24, kS_26, kS_28, kS_31, kS_33, kS_35, kS_37, kS_39, kS_40, kS_42, kS_43, kS_44, kS_45, rx_vret, kb_78_0, kb_78_96, kb_78_102, kb_78_124, kr_78, kf_41_384, kf_41_385, kf_41_386, kf_41_388, List.getD_cons_zero, List.getD_cons_succ, List.set_cons_zero, List.set_cons_succ, ex_spl, ex_low, Option.toList, List.cons_append, List.nil_append, reduceIte, Int.reduceToNat, Nat.reduceDiv, Nat.reduceMod, Nat.reduceAdd, Nat.reduceMul, z_0, z_1, z_10, z_01, reduceCtorEq, ite_true, ite_false, true_and, and_true, ↓bI_01, ↓bP_01, ↓zret0, ↓zret1, z_add, z_sub, z_mul, up_1, up_2, not_true, not_false_iff, if_true, if_false, bI_T, bI_F, bP_T, bP_F, or_true, true_or, or_false, false_or, Int.reduceNeg, Int.reduceAdd, Int.reduceSub, Int.reduceMul, Int.reduceEq, Int.reduceLT, Int.reduceLE, Int.natCast_add, Int.cast_ofNat_Int]
  refine ex_loop (Q := fun q => ∃ w', q = some (none, w') ∧ (∀ o k, ¬ (41 ≤ o ∧ o < 46) → w'.1 o k = w0.1 o k) ∧ ((N : Int) < A 0 5 → rAn w' 2 N P U M) ∧ (¬ (N : Int) < A 0 5 → ∀ k, w'.1 45 k = w.1 45 k)) (fun i s => ∃ w1 v4 v5 v6 v7, s = (ex_blk 78 2, [.ref 41, .ref 5, .ref 38, .int (Int32.ofInt (i : Int)), v4, v5, v6, v7], [], w1) ∧ xv v4 ∧ xv v5 ∧ xv v6 ∧ xv v7 ∧ sMv A w0 w1 ∧ ∀ k, w1.1 45 k = w.1 45 k) (if (N : Int) < A 0 5 then N else (A 0 5 - 1).toNat) ?_ ?_ ?_
  · exact ⟨w, .null, .null, .null, .null, rfl, xv_n, xv_n, xv_n, xv_n, hs, fun _ => rfl⟩
  · rintro i s hi ⟨w1, v4, v5, v6, v7, rfl, x4, x5, x6, x7, s1, a1⟩
    right
    have hiN : (i : Int) < N ∧ (i : Int) + 1 < A 0 5 := by
      by_cases hl : (N : Int) < A 0 5
      · rw [if_pos hl] at hi; omega
      · rw [if_neg hl] at hi; omega
    have m1 := s1.1.1
    obtain ⟨-, e43, e44⟩ := s1.1.2 i (by omega) (by omega)
    rcases m_twoIn (d := d) (P := 96) (U := 0) (M := 0) hV hW s1 (t := i) (by omega) (by omega) (Nat.le_refl _) (fun j j0 j1 => hno i (by omega) hiN.1 j j0 (by omega)) (fun h => absurd h (by omega)) v7 x7 with ⟨h, -⟩ | ⟨-, w2, z6, z7, e2, y6, y7, s2, a2⟩
    · omega
    · refine ⟨(ex_blk 78 2, [.ref 41, .ref 5, .ref 38, .int (Int32.ofInt ((i : Int) + 1)), .int (Int32.ofInt (4 * A 5 (5 * (i : Int) + 1) + A 5 (5 * (i : Int) + 2))), .int (q_sp A (A 5 (5 * (i : Int))) (A 5 (5 * (i : Int) + 1)) (A 5 (5 * (i : Int) + 2))), z6, z7], [], w2), ?_, w2, _, _, z6, z7, rfl, xv_i _, xv_i _, y6, y7, s2, fun k => (a2 k).trans (a1 k)⟩
      refine Eq.trans ?_ e2
      conv => lhs; rw [kb_78_2]
      simp (disch := omega) only [m1, e43, e44, x4, x5, x6, ev_iload, ev_aload, rx_istore, ev_iinc, ev_push, ev_iadd, ev_goto, ev_jsr, rx_ieq_t, rx_ieq_f, rx_ige_t, rx_ige_f, rx_zeq_t, rx_zeq_f, ev_getf, ev_iald, ev_callv, nr_i, nr_r, nr_l, nr_n, kA_2, kA_6, kA_7, kA_8, kA_9, kA_10, kA_11, kA_12, kA_13, kA_14, kA_15, kA_16, kA_19, kA_22, kA_24, kA_26, kA_28, kA_31, kA_33, kA_35, kA_37, kA_39, kA_40, kA_42, kA_43, kA_44, kA_45, kS_2, kS_6, kS_7, kS_8, kS_9, kS_10, kS_11, kS_12, kS_13, kS_14, kS_15, kS_16, kS_19, kS_22, kS_24, kS_26, kS_28, kS_31, kS_33, kS_35, kS_37, kS_39, kS_40, kS_42, kS_43, kS_44, kS_45, rx_vret, kb_78_0, kb_78_96, kb_78_102, kb_78_124, kr_78, kf_41_384, kf_41_385, kf_41_386, kf_41_388, List.getD_cons_zero, List.getD_cons_succ, List.set_cons_zero, List.set_cons_succ, ex_spl, ex_low, Option.toList, List.cons_append, List.nil_append, reduceIte, Int.reduceToNat, Nat.reduceDiv, Nat.reduceMod, Nat.reduceAdd, Nat.reduceMul, z_0, z_1, z_10, z_01, reduceCtorEq, ite_true, ite_false, true_and, and_true, ↓bI_01, ↓bP_01, ↓zret0, ↓zret1, z_add, z_sub, z_mul, up_1, up_2, not_true, not_false_iff, if_true, if_false, bI_T, bI_F, bP_T, bP_F, or_true, true_or, or_false, false_or, Int.reduceNeg, Int.reduceAdd, Int.reduceSub, Int.reduceMul, Int.reduceEq, Int.reduceLT, Int.reduceLE, Int.natCast_add, Int.cast_ofNat_Int]
  · rintro s ⟨w1, v4, v5, v6, v7, rfl, x4, x5, x6, x7, s1, a1⟩
    have m1 := s1.1.1
    by_cases hl : (N : Int) < A 0 5
    · rw [if_pos hl]
      obtain ⟨y1, y2, y3, y4, y5, y6', y8⟩ := hyes hl
      obtain ⟨-, e43, e44⟩ := s1.1.2 N (by omega) hl
      rcases m_twoIn (d := d) (P := P) (U := U) (M := M) hV hW s1 (t := N) (by omega) hl (by omega) y2 (fun _ => ⟨y3, y4, y5, y6', y8⟩) v7 x7 with ⟨-, w2, e2, o2, a2⟩ | ⟨h, -⟩
      · refine ⟨w2, ?_, o2, fun _ => a2, fun h => absurd hl h⟩
        refine Eq.trans ?_ e2
        conv => lhs; rw [kb_78_2]
        simp (disch := omega) only [m1, e43, e44, x4, x5, x6, ev_iload, ev_aload, rx_istore, ev_iinc, ev_push, ev_iadd, ev_goto, ev_jsr, rx_ieq_t, rx_ieq_f, rx_ige_t, rx_ige_f, rx_zeq_t, rx_zeq_f, ev_getf, ev_iald, ev_callv, nr_i, nr_r, nr_l, nr_n, kA_2, kA_6, kA_7, kA_8, kA_9, kA_10, kA_11, kA_12, kA_13, kA_14, kA_15, kA_16, kA_19, kA_22, kA_24, kA_26, kA_28, kA_31, kA_33, kA_35, kA_37, kA_39, kA_40, kA_42, kA_43, kA_44, kA_45, kS_2, kS_6, kS_7, kS_8, kS_9, kS_10, kS_11, kS_12, kS_13, kS_14, kS_15, kS_16, kS_19, kS_22, kS_24, kS_26, kS_28, kS_31, kS_33, kS_35, kS_37, kS_39, kS_40, kS_42, kS_43, kS_44, kS_45, rx_vret, kb_78_0, kb_78_96, kb_78_102, kb_78_124, kr_78, kf_41_384, kf_41_385, kf_41_386, kf_41_388, List.getD_cons_zero, List.getD_cons_succ, List.set_cons_zero, List.set_cons_succ, ex_spl, ex_low, Option.toList, List.cons_append, List.nil_append, reduceIte, Int.reduceToNat, Nat.reduceDiv, Nat.reduceMod, Nat.reduceAdd, Nat.reduceMul, z_0, z_1, z_10, z_01, reduceCtorEq, ite_true, ite_false, true_and, and_true, ↓bI_01, ↓bP_01, ↓zret0, ↓zret1, z_add, z_sub, z_mul, up_1, up_2, not_true, not_false_iff, if_true, if_false, bI_T, bI_F, bP_T, bP_F, or_true, true_or, or_false, false_or, Int.reduceNeg, Int.reduceAdd, Int.reduceSub, Int.reduceMul, Int.reduceEq, Int.reduceLT, Int.reduceLE, Int.natCast_add, Int.cast_ofNat_Int]
      · exact absurd y1 h
    · rw [if_neg hl]
      refine ⟨w1, ?_, s1.2.2, fun h => absurd h hl, fun _ => a1⟩
      rw [kb_78_2]
      simp (disch := omega) only [m1, ev_iload, ev_aload, rx_istore, ev_iinc, ev_push, ev_iadd, ev_goto, ev_jsr, rx_ieq_t, rx_ieq_f, rx_ige_t, rx_ige_f, rx_zeq_t, rx_zeq_f, ev_getf, ev_iald, ev_callv, nr_i, nr_r, nr_l, nr_n, kA_2, kA_6, kA_7, kA_8, kA_9, kA_10, kA_11, kA_12, kA_13, kA_14, kA_15, kA_16, kA_19, kA_22, kA_24, kA_26, kA_28, kA_31, kA_33, kA_35, kA_37, kA_39, kA_40, kA_42, kA_43, kA_44, kA_45, kS_2, kS_6, kS_7, kS_8, kS_9, kS_10, kS_11, kS_12, kS_13, kS_14, kS_15, kS_16, kS_19, kS_22, kS_24, kS_26, kS_28, kS_31, kS_33, kS_35, kS_37, kS_39, kS_40, kS_42, kS_43, kS_44, kS_45, rx_vret, kb_78_0, kb_78_96, kb_78_102, kb_78_124, kr_78, kf_41_384, kf_41_385, kf_41_386, kf_41_388, List.getD_cons_zero, List.getD_cons_succ, List.set_cons_zero, List.set_cons_succ, ex_spl, ex_low, Option.toList, List.cons_append, List.nil_append, reduceIte, Int.reduceToNat, Nat.reduceDiv, Nat.reduceMod, Nat.reduceAdd, Nat.reduceMul, z_0, z_1, z_10, z_01, reduceCtorEq, ite_true, ite_false, true_and, and_true, ↓bI_01, ↓bP_01, ↓zret0, ↓zret1, z_add, z_sub, z_mul, up_1, up_2, not_true, not_false_iff, if_true, if_false, bI_T, bI_F, bP_T, bP_F, or_true, true_or, or_false, false_or, Int.reduceNeg, Int.reduceAdd, Int.reduceSub, Int.reduceMul, Int.reduceEq, Int.reduceLT, Int.reduceLE, Int.natCast_add, Int.cast_ofNat_Int]
/-! hopeless -/
def q_hpl (A : AS) : Prop := ∃ h, 0 ≤ h ∧ h < A 0 6 ∧ ∀ e x, 0 ≤ e → e < 24 → 0 ≤ x → x < 32 → ¬ q_gd A (A 6 (5 * h)) (A 6 (5 * h + 1)) e x
theorem q_hpl_no {A B : AS} (hV : q_v0 A) (hl : q_like A B) (hg : ∀ t, 0 ≤ t → t < A 0 5 → q_gr B t) (hh : q_hpl A) : ¬ q_ka B := by
  have hr := q_rng hV
  obtain ⟨h, h0, h1, hno⟩ := hh
  rintro ⟨m, -, han⟩
  have h5 := hl.1 0 (by omega)
  have hk := han h h0 (by rw [h5]; exact h1)
  unfold q_kn at hk
  rw [hl.1 6 (by omega), q_like_gd hl] at hk
  by_cases h3 : 3 ≤ A 6 (5 * h)
  · rw [if_pos h3] at hk
    obtain ⟨x, x0, x1, x2, x3⟩ := hk
    exact hno 0 x (by omega) (by omega) x0 x1 x2
  · rw [if_neg h3] at hk
    obtain ⟨t, t0, t1, -, k2⟩ := hk
    rw [h5] at t1
    obtain ⟨g1, g2, g3, g4, g5, g6, g7⟩ := hg t t0 t1
    rw [h5] at g7
    rw [q_like_gd hl] at k2
    by_cases ha : A 6 (5 * h) = 0
    · rw [if_pos ha] at k2
      rw [ha] at hno
      exact hno _ _ g6 (by omega) g3 (by omega) k2
    · rw [if_neg ha] at k2
      obtain ⟨x, x0, x1, x2, x3⟩ := k2
      exact hno _ x g6 (by omega) x0 x1 x2
theorem m_hopeless {d : Nat} {A : AS} {w : PW} (h6 : q_vb A 6 6) (hK : rKp A w (A 0 6)) (hs : w.1 38 2 = Int32.ofInt (A 0 6)) : ex_cal (d + 2) 52 [.ref 38] w = some (some (.int (bP (q_hpl A))), w) := by
  obtain ⟨b0, b1, b2⟩ := h6
  rw [ke_52 kc_38]
  simp (disch := omega) only [ev_iload, ev_aload, rx_istore, ev_iinc, ev_push, ev_ior, ev_goto, ev_jsr, rx_ige_t, rx_ige_f, rx_zne_t, rx_zne_f, ev_getf, ev_callv, nr_i, nr_r, nr_l, nr_n, rx_zret_t, rx_zretI, rx_zretP, kb_52_0, kb_52_35, kb_52_41, kb_52_47, kr_52, kf_38_194, List.getD_cons_zero, List.getD_cons_succ, List.set_cons_zero, List.set_cons_succ, ex_spl, ex_low, Option.toList, List.cons_append, List.nil_append, reduceIte, Int.reduceToNat, Nat.reduceDiv, Nat.reduceMod, Nat.reduceAdd, Nat.reduceMul, z_0, z_1, z_10, z_01, reduceCtorEq, ite_true, ite_false, true_and, and_true, ↓bI_01, ↓bP_01, ↓zret0, ↓zret1, z_add, z_sub, z_mul, up_1, up_2, not_true, not_false_iff, if_true, if_false, bI_T, bI_F, bP_T, bP_F, or_true, true_or, or_false, false_or, Int.reduceNeg, Int.reduceAdd, Int.reduceSub, Int.reduceMul, Int.reduceEq, Int.reduceLT, Int.reduceLE, Int.natCast_add, Int.cast_ofNat_Int]
  have row : ∀ h : Int, 0 ≤ h → h < A 0 6 → ∃ z v2 v3, (∀ u2 u3 : Value, xv u2 → xv u3 → ex_ev (d + 1) (ex_cal (d + 1)) 52 (ex_blk 52 2, [.ref 38, .int (Int32.ofInt h), u2, u3], [], w) = ex_ev (d + 1) (ex_cal (d + 1)) 52 (ex_blk 52 35, [.ref 38, .int (Int32.ofInt h), .int z, v3], [], w)) ∧ v2 = Value.int z ∧ xv v3 ∧ (z = Int32.ofInt 0 ↔ ∀ e x, 0 ≤ e → e < 24 → 0 ≤ x → x < 32 → ¬ q_gd A (A 6 (5 * h)) (A 6 (5 * h + 1)) e x) := by
    intro h h0 h1
    obtain ⟨-, hg⟩ := hK h h0 h1
    obtain ⟨s', e', z, rfl, hz⟩ := ex_iterI (d := d + 1) (cal := ex_cal (d + 1)) (y := 52) (fun j s => ∃ z, s = (ex_blk 52 14, [.ref 38, .int (Int32.ofInt h), .int z, .int (Int32.ofInt (j : Int))], [], w) ∧ ∀ x, 0 ≤ x → x < 32 → (q_bt z x ↔ ∃ e, 0 ≤ e ∧ e < (j : Int) ∧ q_gd A (A 6 (5 * h)) (A 6 (5 * h + 1)) e x)) (a := 0) (n := 24) (s := (ex_blk 52 14, [.ref 38, .int (Int32.ofInt h), .int (Int32.ofInt 0), .int (Int32.ofInt 0)], [], w)) (by omega) ⟨_, rfl, fun x x0 x1 => ⟨fun q => absurd q (q_bt_0 x0 x1), fun ⟨e, e0, e1, _⟩ => absurd e1 (by omega)⟩⟩ (by
      rintro j s j0 j1 ⟨z, rfl, hz⟩
      refine ⟨(ex_blk 52 14, [.ref 38, .int (Int32.ofInt h), .int (z ||| w.1 40 (h * 24 + (j : Int)).toNat), .int (Int32.ofInt ((j : Int) + 1))], [], w), ?_, _, rfl, fun x x0 x1 => ?_⟩
      · conv => lhs; rw [kb_52_14]
        simp (disch := omega) only [m_goodAt, ev_iload, ev_aload, rx_istore, ev_iinc, ev_push, ev_ior, ev_goto, ev_jsr, rx_ige_t, rx_ige_f, rx_zne_t, rx_zne_f, ev_getf, ev_callv, nr_i, nr_r, nr_l, nr_n, rx_zret_t, rx_zretI, rx_zretP, kb_52_0, kb_52_35, kb_52_41, kb_52_47, kr_52, kf_38_194, List.getD_cons_zero, List.getD_cons_succ, List.set_cons_zero, List.set_cons_succ, ex_spl, ex_low, Option.toList, List.cons_append, List.nil_append, reduceIte, Int.reduceToNat, Nat.reduceDiv, Nat.reduceMod, Nat.reduceAdd, Nat.reduceMul, z_0, z_1, z_10, z_01, reduceCtorEq, ite_true, ite_false, true_and, and_true, ↓bI_01, ↓bP_01, ↓zret0, ↓zret1, z_add, z_sub, z_mul, up_1, up_2, not_true, not_false_iff, if_true, if_false, bI_T, bI_F, bP_T, bP_F, or_true, true_or, or_false, false_or, Int.reduceNeg, Int.reduceAdd, Int.reduceSub, Int.reduceMul, Int.reduceEq, Int.reduceLT, Int.reduceLE, Int.natCast_add, Int.cast_ofNat_Int]
      · rw [q_bt_or x0 x1, hz x x0 x1, hg j x (by omega) (by omega) x0 x1]
        constructor
        · rintro (⟨e, e0, e1, e2⟩ | q)
          · exact ⟨e, e0, by omega, e2⟩
          · exact ⟨j, by omega, by omega, q⟩
        · rintro ⟨e, e0, e1, e2⟩
          by_cases he : e = j
          · rw [he] at e2; exact Or.inr e2
          · exact Or.inl ⟨e, e0, by omega, e2⟩)
    refine ⟨z, .int z, .int (Int32.ofInt ((24 : Nat) : Int)), fun u2 u3 y2 y3 => ?_, rfl, xv_i _, ?_⟩
    · conv => lhs; rw [kb_52_2]
      simp (disch := omega) only [hs, y2, y3, ev_iload, ev_aload, rx_istore, ev_iinc, ev_push, ev_ior, ev_goto, ev_jsr, rx_ige_t, rx_ige_f, rx_zne_t, rx_zne_f, ev_getf, ev_callv, nr_i, nr_r, nr_l, nr_n, rx_zret_t, rx_zretI, rx_zretP, kb_52_0, kb_52_41, kb_52_47, kr_52, kf_38_194, List.getD_cons_zero, List.getD_cons_succ, List.set_cons_zero, List.set_cons_succ, ex_spl, ex_low, Option.toList, List.cons_append, List.nil_append, reduceIte, Int.reduceToNat, Nat.reduceDiv, Nat.reduceMod, Nat.reduceAdd, Nat.reduceMul, z_0, z_1, z_10, z_01, reduceCtorEq, ite_true, ite_false, true_and, and_true, ↓bI_01, ↓bP_01, ↓zret0, ↓zret1, z_add, z_sub, z_mul, up_1, up_2, not_true, not_false_iff, if_true, if_false, bI_T, bI_F, bP_T, bP_F, or_true, true_or, or_false, false_or, Int.reduceNeg, Int.reduceAdd, Int.reduceSub, Int.reduceMul, Int.reduceEq, Int.reduceLT, Int.reduceLE, Int.natCast_add, Int.cast_ofNat_Int]
      refine e'.trans ?_
      conv => lhs; rw [kb_52_14]
      simp (disch := omega) only [ev_iload, ev_aload, rx_istore, ev_iinc, ev_push, ev_ior, ev_goto, ev_jsr, rx_ige_t, rx_ige_f, rx_zne_t, rx_zne_f, ev_getf, ev_callv, nr_i, nr_r, nr_l, nr_n, rx_zret_t, rx_zretI, rx_zretP, kb_52_0, kb_52_41, kb_52_47, kr_52, kf_38_194, List.getD_cons_zero, List.getD_cons_succ, List.set_cons_zero, List.set_cons_succ, ex_spl, ex_low, Option.toList, List.cons_append, List.nil_append, reduceIte, Int.reduceToNat, Nat.reduceDiv, Nat.reduceMod, Nat.reduceAdd, Nat.reduceMul, z_0, z_1, z_10, z_01, reduceCtorEq, ite_true, ite_false, true_and, and_true, ↓bI_01, ↓bP_01, ↓zret0, ↓zret1, z_add, z_sub, z_mul, up_1, up_2, not_true, not_false_iff, if_true, if_false, bI_T, bI_F, bP_T, bP_F, or_true, true_or, or_false, false_or, Int.reduceNeg, Int.reduceAdd, Int.reduceSub, Int.reduceMul, Int.reduceEq, Int.reduceLT, Int.reduceLE, Int.natCast_add, Int.cast_ofNat_Int]
    · rw [m_eq0]
      constructor
      · intro hq e x e0 e1 x0 x1 hgd
        exact hq x x0 x1 ((hz x x0 x1).2 ⟨e, e0, e1, hgd⟩)
      · intro hq x x0 x1 hb
        obtain ⟨e, e0, e1, e2⟩ := (hz x x0 x1).1 hb
        exact hq e x e0 e1 x0 x1 e2
  refine ex_loop (Q := fun q => q = some (some (.int (bP (q_hpl A))), w)) (fun i s => ∃ v2 v3, s = (ex_blk 52 2, [.ref 38, .int (Int32.ofInt (i : Int)), v2, v3], [], w) ∧ xv v2 ∧ xv v3 ∧ ∀ h, 0 ≤ h → h < (i : Int) → ¬ ∀ e x, 0 ≤ e → e < 24 → 0 ≤ x → x < 32 → ¬ q_gd A (A 6 (5 * h)) (A 6 (5 * h + 1)) e x) (A 0 6).toNat ?_ ?_ ?_
  · exact ⟨.null, .null, rfl, xv_n, xv_n, fun h h0 h1 => absurd h1 (by omega)⟩
  · rintro i s hi ⟨v2, v3, rfl, x2, x3, hall⟩
    obtain ⟨z, -, y3, e1, -, k3, hz⟩ := row i (by omega) (by omega)
    have e1 := e1 v2 v3 x2 x3
    by_cases h0 : z = Int32.ofInt 0
    · left
      rw [e1, bP_t (show q_hpl A from ⟨i, by omega, by omega, hz.1 h0⟩), kb_52_35]
      simp (disch := omega) only [h0, ev_iload, ev_aload, rx_istore, ev_iinc, ev_push, ev_ior, ev_goto, ev_jsr, rx_ige_t, rx_ige_f, rx_zne_t, rx_zne_f, ev_getf, ev_callv, nr_i, nr_r, nr_l, nr_n, rx_zret_t, rx_zretI, rx_zretP, kb_52_0, kb_52_41, kb_52_47, kr_52, kf_38_194, List.getD_cons_zero, List.getD_cons_succ, List.set_cons_zero, List.set_cons_succ, ex_spl, ex_low, Option.toList, List.cons_append, List.nil_append, reduceIte, Int.reduceToNat, Nat.reduceDiv, Nat.reduceMod, Nat.reduceAdd, Nat.reduceMul, z_0, z_1, z_10, z_01, reduceCtorEq, ite_true, ite_false, true_and, and_true, ↓bI_01, ↓bP_01, ↓zret0, ↓zret1, z_add, z_sub, z_mul, up_1, up_2, not_true, not_false_iff, if_true, if_false, bI_T, bI_F, bP_T, bP_F, or_true, true_or, or_false, false_or, Int.reduceNeg, Int.reduceAdd, Int.reduceSub, Int.reduceMul, Int.reduceEq, Int.reduceLT, Int.reduceLE, Int.natCast_add, Int.cast_ofNat_Int]
    · right
      refine ⟨(ex_blk 52 2, [.ref 38, .int (Int32.ofInt ((i : Int) + 1)), .int z, y3], [], w), ?_, _, _, rfl, xv_i _, k3, fun h h0' h1' => ?_⟩
      · rw [e1]
        conv => lhs; rw [kb_52_35]
        simp (disch := omega) only [rx_xne_t h0, ev_iload, ev_aload, rx_istore, ev_iinc, ev_push, ev_ior, ev_goto, ev_jsr, rx_ige_t, rx_ige_f, rx_zne_t, rx_zne_f, ev_getf, ev_callv, nr_i, nr_r, nr_l, nr_n, rx_zret_t, rx_zretI, rx_zretP, kb_52_0, kb_52_41, kb_52_47, kr_52, kf_38_194, List.getD_cons_zero, List.getD_cons_succ, List.set_cons_zero, List.set_cons_succ, ex_spl, ex_low, Option.toList, List.cons_append, List.nil_append, reduceIte, Int.reduceToNat, Nat.reduceDiv, Nat.reduceMod, Nat.reduceAdd, Nat.reduceMul, z_0, z_1, z_10, z_01, reduceCtorEq, ite_true, ite_false, true_and, and_true, ↓bI_01, ↓bP_01, ↓zret0, ↓zret1, z_add, z_sub, z_mul, up_1, up_2, not_true, not_false_iff, if_true, if_false, bI_T, bI_F, bP_T, bP_F, or_true, true_or, or_false, false_or, Int.reduceNeg, Int.reduceAdd, Int.reduceSub, Int.reduceMul, Int.reduceEq, Int.reduceLT, Int.reduceLE, Int.natCast_add, Int.cast_ofNat_Int]
      · by_cases hh : h = i
        · rw [hh]; exact fun q => h0 (hz.2 q)
        · exact hall h h0' (by omega)
  · rintro s ⟨v2, v3, rfl, x2, x3, hall⟩
    rw [bP_f (fun ⟨h, h0, h1, h2⟩ => hall h h0 (by omega) h2), kb_52_2]
    simp (disch := omega) only [hs, ev_iload, ev_aload, rx_istore, ev_iinc, ev_push, ev_ior, ev_goto, ev_jsr, rx_ige_t, rx_ige_f, rx_zne_t, rx_zne_f, ev_getf, ev_callv, nr_i, nr_r, nr_l, nr_n, rx_zret_t, rx_zretI, rx_zretP, kb_52_0, kb_52_41, kb_52_47, kr_52, kf_38_194, List.getD_cons_zero, List.getD_cons_succ, List.set_cons_zero, List.set_cons_succ, ex_spl, ex_low, Option.toList, List.cons_append, List.nil_append, reduceIte, Int.reduceToNat, Nat.reduceDiv, Nat.reduceMod, Nat.reduceAdd, Nat.reduceMul, z_0, z_1, z_10, z_01, reduceCtorEq, ite_true, ite_false, true_and, and_true, ↓bI_01, ↓bP_01, ↓zret0, ↓zret1, z_add, z_sub, z_mul, up_1, up_2, not_true, not_false_iff, if_true, if_false, bI_T, bI_F, bP_T, bP_F, or_true, true_or, or_false, false_or, Int.reduceNeg, Int.reduceAdd, Int.reduceSub, Int.reduceMul, Int.reduceEq, Int.reduceLT, Int.reduceLE, Int.natCast_add, Int.cast_ofNat_Int]
