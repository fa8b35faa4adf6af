/-! moves(): the reference's search -/
def sR (w w' : PW) : Prop := ∀ a k, ¬ (55 ≤ a ∧ a < 58) → a < 69 → w'.1 a k = w.1 a k
theorem sR_r (w : PW) : sR w w := fun _ _ _ _ => rfl
theorem sR_t {w w' w'' : PW} (h : sR w w') (h' : sR w' w'') : sR w w'' := fun a k h1 h2 => (h' a k h1 h2).trans (h a k h1 h2)
theorem sR_q {w w' : PW} (h : sQ w w') : sR w w' := fun a k _ h2 => h a k h2
theorem sR_u {w : PW} {o k : Nat} {x : Int32} (ho : 55 ≤ o ∧ o < 58) : sR w (ex_up w o k x) := fun a k' h1 h2 => by rw [up_n (by omega)]
theorem r_isPlace {d : Nat} {B : AS} {w : PW} (hV : q_vh B) (hM : rN B 0 w) (n1 : B 0 5 ≤ 3) {t p : Int} (t0 : 0 ≤ t) (t1 : t < B 0 5) (hg : q_gr B t) (p0 : 0 ≤ p) (p1 : p < 4 * B 0 15) : ex_cal (d + 4) 215 [.ref 46, .int (Int32.ofInt t), .int (Int32.ofInt p)] w = some (some (.int (bP (q_ip B t p))), w) := by
  have hr := q_rnh hV
  obtain ⟨g1, g2, g3, g4, g5, g6, g7⟩ := hg
  obtain ⟨gk, gc, gw⟩ := hM.2.2.2.1
  have ek := gk t t0 t1
  have ec := gc t t0 t1
  have ew := gw t t0 t1
  have ef := r_fitsIn (d := d) hV hM (k := B 5 (5 * t)) (c := p / 4) (v := p % 4) g1 (by omega) (by omega) (by omega) (by omega) (by omega)
  have hip : q_ip B t p ↔ (¬ p = 4 * B 5 (5 * t + 1) + B 5 (5 * t + 2)) ∧ (q_fl B (p / 4) ∧ q_fl B (q_ls B (B 5 (5 * t)) (p / 4) (p % 4))) ∧ (B 5 (5 * t) = 1 ∨ p % 4 = 0) := by
    unfold q_ip
    rw [q_sp0 hV, Classical.not_not]
    constructor
    · rintro ⟨h1, h2, h3, h4⟩; exact ⟨h1, ⟨h2, h3⟩, h4⟩
    · rintro ⟨h1, ⟨h2, h3⟩, h4⟩; exact ⟨h1, h2, h3, h4⟩
  rw [ke_215 kc_46]
  generalize B 5 (5 * t) = k at *
  have ewy := fun d => m_isWay (d := d) (w := w) (x := k) (a := p % 4) (by omega) (by omega) (by omega) (by omega)
  by_cases h1 : k = 1 ∨ p % 4 = 0
  · have ewy' : ∀ d, ex_cal (d + 2) 199 [.int (Int32.ofInt k), .int (Int32.ofInt (p % 4))] w = some (some (.int (Int32.ofInt 1)), w) := by
      intro d
      rw [ewy d, bI_t (by split <;> omega)]
    by_cases h2 : p = 4 * B 5 (5 * t + 1) + B 5 (5 * t + 2)
    · rw [bP_f (fun hh => (hip.1 hh).1 h2)]
      simp (disch := omega) only [ek, ec, ew, ewy', ev_iload, ev_aload, ev_push, ev_iadd, ev_imul, rx_idiv, rx_irem, ev_goto, ev_jsr, rx_ieq_t, rx_ieq_f, rx_zeq_t, rx_zeq_f, ev_getf, ev_iald, ev_call, ev_callv, nr_i, nr_r, nr_l, nr_n, kA_47, kA_48, kA_49, kA_50, kA_51, kA_52, kA_53, kA_54, kA_55, kA_56, kA_57, kA_58, kA_59, kA_60, kA_61, kA_63, kA_64, kA_65, kA_66, kA_67, kA_68, kA_69, kA_70, rx_zret_t, rx_zretI, rx_zretP, kb_215_0, kb_215_57, kb_215_58, kr_215, kf_46_718, kf_46_719, kf_46_720, List.getD_cons_zero, List.getD_cons_succ, List.set_cons_zero, List.set_cons_succ, ex_spl, ex_low, Option.toList, List.cons_append, List.nil_append, reduceIte, Int.reduceToNat, Nat.reduceDiv, Nat.reduceMod, Nat.reduceAdd, Nat.reduceMul, z_0, z_1, z_10, z_01, reduceCtorEq, ite_true, ite_false, true_and, and_true, ↓bI_01, ↓bP_01, ↓zret0, ↓zret1, z_add, z_sub, z_mul, up_1, up_2, not_true, not_false_iff, if_true, if_false, bI_T, bI_F, bP_T, bP_F, or_true, true_or, or_false, false_or, Int.reduceNeg, Int.reduceAdd, Int.reduceSub, Int.reduceMul, Int.reduceEq, Int.reduceLT, Int.reduceLE, Int.natCast_add, Int.cast_ofNat_Int]
    · by_cases h3 : q_fl B (p / 4) ∧ q_fl B (q_ls B k (p / 4) (p % 4))
      · rw [bP_t h3] at ef
        rw [bP_t (hip.2 ⟨h2, h3, h1⟩)]
        simp (disch := omega) only [ek, ec, ew, ewy', ef, ev_iload, ev_aload, ev_push, ev_iadd, ev_imul, rx_idiv, rx_irem, ev_goto, ev_jsr, rx_ieq_t, rx_ieq_f, rx_zeq_t, rx_zeq_f, ev_getf, ev_iald, ev_call, ev_callv, nr_i, nr_r, nr_l, nr_n, kA_47, kA_48, kA_49, kA_50, kA_51, kA_52, kA_53, kA_54, kA_55, kA_56, kA_57, kA_58, kA_59, kA_60, kA_61, kA_63, kA_64, kA_65, kA_66, kA_67, kA_68, kA_69, kA_70, rx_zret_t, rx_zretI, rx_zretP, kb_215_0, kb_215_57, kb_215_58, kr_215, kf_46_718, kf_46_719, kf_46_720, List.getD_cons_zero, List.getD_cons_succ, List.set_cons_zero, List.set_cons_succ, ex_spl, ex_low, Option.toList, List.cons_append, List.nil_append, reduceIte, Int.reduceToNat, Nat.reduceDiv, Nat.reduceMod, Nat.reduceAdd, Nat.reduceMul, z_0, z_1, z_10, z_01, reduceCtorEq, ite_true, ite_false, true_and, and_true, ↓bI_01, ↓bP_01, ↓zret0, ↓zret1, z_add, z_sub, z_mul, up_1, up_2, not_true, not_false_iff, if_true, if_false, bI_T, bI_F, bP_T, bP_F, or_true, true_or, or_false, false_or, Int.reduceNeg, Int.reduceAdd, Int.reduceSub, Int.reduceMul, Int.reduceEq, Int.reduceLT, Int.reduceLE, Int.natCast_add, Int.cast_ofNat_Int]
      · rw [bP_f h3] at ef
        rw [bP_f (fun hh => h3 (hip.1 hh).2.1)]
        simp (disch := omega) only [ek, ec, ew, ewy', ef, ev_iload, ev_aload, ev_push, ev_iadd, ev_imul, rx_idiv, rx_irem, ev_goto, ev_jsr, rx_ieq_t, rx_ieq_f, rx_zeq_t, rx_zeq_f, ev_getf, ev_iald, ev_call, ev_callv, nr_i, nr_r, nr_l, nr_n, kA_47, kA_48, kA_49, kA_50, kA_51, kA_52, kA_53, kA_54, kA_55, kA_56, kA_57, kA_58, kA_59, kA_60, kA_61, kA_63, kA_64, kA_65, kA_66, kA_67, kA_68, kA_69, kA_70, rx_zret_t, rx_zretI, rx_zretP, kb_215_0, kb_215_57, kb_215_58, kr_215, kf_46_718, kf_46_719, kf_46_720, List.getD_cons_zero, List.getD_cons_succ, List.set_cons_zero, List.set_cons_succ, ex_spl, ex_low, Option.toList, List.cons_append, List.nil_append, reduceIte, Int.reduceToNat, Nat.reduceDiv, Nat.reduceMod, Nat.reduceAdd, Nat.reduceMul, z_0, z_1, z_10, z_01, reduceCtorEq, ite_true, ite_false, true_and, and_true, ↓bI_01, ↓bP_01, ↓zret0, ↓zret1, z_add, z_sub, z_mul, up_1, up_2, not_true, not_false_iff, if_true, if_false, bI_T, bI_F, bP_T, bP_F, or_true, true_or, or_false, false_or, Int.reduceNeg, Int.reduceAdd, Int.reduceSub, Int.reduceMul, Int.reduceEq, Int.reduceLT, Int.reduceLE, Int.natCast_add, Int.cast_ofNat_Int]
  · have ewy' : ∀ d, ex_cal (d + 2) 199 [.int (Int32.ofInt k), .int (Int32.ofInt (p % 4))] w = some (some (.int (Int32.ofInt 0)), w) := by
      intro d
      rw [ewy d, bI_f (by rw [if_neg (by omega)]; omega)]
    rw [bP_f (fun hh => h1 (hip.1 hh).2.2)]
    simp (disch := omega) only [ek, ec, ew, ewy', ev_iload, ev_aload, ev_push, ev_iadd, ev_imul, rx_idiv, rx_irem, ev_goto, ev_jsr, rx_ieq_t, rx_ieq_f, rx_zeq_t, rx_zeq_f, ev_getf, ev_iald, ev_call, ev_callv, nr_i, nr_r, nr_l, nr_n, kA_47, kA_48, kA_49, kA_50, kA_51, kA_52, kA_53, kA_54, kA_55, kA_56, kA_57, kA_58, kA_59, kA_60, kA_61, kA_63, kA_64, kA_65, kA_66, kA_67, kA_68, kA_69, kA_70, rx_zret_t, rx_zretI, rx_zretP, kb_215_0, kb_215_57, kb_215_58, kr_215, kf_46_718, kf_46_719, kf_46_720, List.getD_cons_zero, List.getD_cons_succ, List.set_cons_zero, List.set_cons_succ, ex_spl, ex_low, Option.toList, List.cons_append, List.nil_append, reduceIte, Int.reduceToNat, Nat.reduceDiv, Nat.reduceMod, Nat.reduceAdd, Nat.reduceMul, z_0, z_1, z_10, z_01, reduceCtorEq, ite_true, ite_false, true_and, and_true, ↓bI_01, ↓bP_01, ↓zret0, ↓zret1, z_add, z_sub, z_mul, up_1, up_2, not_true, not_false_iff, if_true, if_false, bI_T, bI_F, bP_T, bP_F, or_true, true_or, or_false, false_or, Int.reduceNeg, Int.reduceAdd, Int.reduceSub, Int.reduceMul, Int.reduceEq, Int.reduceLT, Int.reduceLE, Int.natCast_add, Int.cast_ofNat_Int]
theorem q_mv_mv {B : AS} {t c v c' v' : Int} : q_mv (q_mv B t c v) t c' v' = q_mv B t c' v' := by
  refine funext fun x => funext fun y => ?_
  unfold q_mv
  by_cases h1 : x = 5 ∧ y = 5 * t + 1
  · simp only [if_pos h1]
  · simp only [if_neg h1]
    by_cases h2 : x = 5 ∧ y = 5 * t + 2
    · simp only [if_pos h2]
    · simp only [if_neg h2]
theorem r_try {d : Nat} {A B : AS} {w : PW} (hV : q_v0 A) (hl : q_like A B) (hg : ∀ t, 0 ≤ t → t < A 0 5 → q_gr B t) (hM : rN B 0 w) {t p : Int} (t0 : 0 ≤ t) (t1 : t < A 0 5) (hi : q_ip B t p) : ∃ w1 w2 w3, ex_cal (d + 12) 198 [.ref 46, .int (Int32.ofInt t), .int (Int32.ofInt (B 5 (5 * t))), .int (Int32.ofInt (p / 4)), .int (Int32.ofInt (p % 4))] w = some (none, w1) ∧ ex_cal (d + 12) 197 [.ref 46] w1 = some (some (.int (bP (q_hr (q_mv B t (p / 4) (p % 4))))), w1) ∧ (q_hr (q_mv B t (p / 4) (p % 4)) → ex_cal (d + 12) 214 [.ref 46] w1 = some (some (.int (bP (q_akp (q_mv B t (p / 4) (p % 4))))), w2)) ∧ (¬ q_hr (q_mv B t (p / 4) (p % 4)) → w2 = w1) ∧ ex_cal (d + 12) 198 [.ref 46, .int (Int32.ofInt t), .int (Int32.ofInt (B 5 (5 * t))), .int (Int32.ofInt (B 5 (5 * t + 1))), .int (Int32.ofInt (B 5 (5 * t + 2)))] w2 = some (none, w3) ∧ w2.1 55 t.toNat = Int32.ofInt (B 5 (5 * t)) ∧ w1.1 55 t.toNat = Int32.ofInt (B 5 (5 * t)) ∧ rN B 0 w3 ∧ sR w w3 := by
  have hr := q_rng hV
  have h0 := hl.1 0 (by omega)
  have hVB := q_like_vh hl hV.1
  have hb5 : B 0 5 = A 0 5 := by rw [h0]
  have hgB : ∀ t, 0 ≤ t → t < B 0 5 → q_gr B t := by rw [h0]; exact hg
  obtain ⟨i1, i2, i3, i4, i5⟩ := q_ip_r hVB hi
  have hg2 := q_gr_mv2 hgB i1 i2 (v := p % 4) (by omega) (by omega) i3
  have hl2 : q_like A (q_mv B t (p / 4) (p % 4)) := q_like_mv hl
  have hM1 := rN_mv (c := p / 4) (v := p % 4) hM t0 (by omega)
  have e1 := fun d => r_put (d := d) (w := w) (t := t) (x := Int32.ofInt (B 5 (5 * t))) (y := Int32.ofInt (p / 4)) (z := Int32.ofInt (p % 4)) t0 (by omega)
  generalize hw1 : ex_up (ex_up (ex_up w 55 t.toNat (Int32.ofInt (B 5 (5 * t)))) 56 t.toNat (Int32.ofInt (p / 4))) 57 t.toNat (Int32.ofInt (p % 4)) = w1 at *
  have o1 : sR w w1 := by rw [← hw1]; exact sR_t (sR_t (sR_u (by omega)) (sR_u (by omega))) (sR_u (by omega))
  have er := r_haveRoom (d := d + 6) (q_like_vh hl2 hV.1) hM1 (by show 0 ≤ B 0 5; omega) (by show B 0 5 ≤ 3; omega) hg2
  have fin : ∀ w2 : PW, rN (q_mv B t (p / 4) (p % 4)) 0 w2 → ∃ w3, ex_cal (d + 12) 198 [.ref 46, .int (Int32.ofInt t), .int (Int32.ofInt (B 5 (5 * t))), .int (Int32.ofInt (B 5 (5 * t + 1))), .int (Int32.ofInt (B 5 (5 * t + 2)))] w2 = some (none, w3) ∧ rN B 0 w3 ∧ sR w2 w3 := by
    intro w2 hM2
    have h := rN_mv (c := B 5 (5 * t + 1)) (v := B 5 (5 * t + 2)) hM2 t0 (by show t < B 0 5; omega)
    rw [q_mv_mv, q_mv_id, q_mv_k] at h
    exact ⟨_, r_put (d := d + 11) t0 (by omega), h, sR_t (sR_t (sR_u (by omega)) (sR_u (by omega))) (sR_u (by omega))⟩
  have k1 : w1.1 55 t.toNat = Int32.ofInt (B 5 (5 * t)) := by
    have := hM1.2.2.2.1.1 t t0 (by show t < B 0 5; omega)
    rw [q_mv_k] at this; exact this
  by_cases hh : q_hr (q_mv B t (p / 4) (p % 4))
  · obtain ⟨hv2, hd2⟩ := q_like_v0 hl2 hV (fun x x0 x1 => hg2 x x0 (by omega)) hh
    obtain ⟨w2, e2, o2⟩ := r_areAllKept (d := d) hv2 hM1
    have hM2 := rN_q hM1 o2
    obtain ⟨w3, e3, h3, o3⟩ := fin w2 hM2
    exact ⟨w1, w2, w3, e1 _, er, fun _ => e2, fun h => absurd hh h, e3, by rw [o2 _ _ (by omega)]; exact k1, k1, h3, sR_t o1 (sR_t (sR_q o2) o3)⟩
  · obtain ⟨w3, e3, h3, o3⟩ := fin w1 hM1
    exact ⟨w1, w1, w3, e1 _, er, fun h => absurd h hh, fun _ => rfl, e3, k1, k1, h3, sR_t o1 o3⟩
theorem r_oneIn {d : Nat} {A B : AS} {w : PW} (hV : q_v0 A) (hl : q_like A B) (hg : ∀ t, 0 ≤ t → t < A 0 5 → q_gr B t) (hM : rN B 0 w) {t : Int} (t0 : 0 ≤ t) (t1 : t < A 0 5) {P : Nat} (hP : P ≤ 96) (hno : ∀ i : Int, 0 ≤ i → i < P → ¬ q_O B t i) (hyes : P < 96 → q_O B t P) (u4 : Value) (y4 : xv u4) : (fun q => (P < 96 ∧ ∃ w2, q = some (some (.int (Int32.ofInt 1)), ex_up (ex_up (ex_up (w2) 46 52 (Int32.ofInt 1)) 46 53 (Int32.ofInt t)) 46 54 (Int32.ofInt (P : Int))) ∧ rN B 0 w2 ∧ sR w w2) ∨ (¬ P < 96 ∧ ∃ w2 v3 v4, q = ex_ev (d + 12) (ex_cal (d + 12)) 216 (ex_blk 216 2, [.ref 46, .int (Int32.ofInt (t + 1)), .int (Int32.ofInt (4 * B 5 (5 * t + 1) + B 5 (5 * t + 2))), v3, v4], [], w2) ∧ xv v3 ∧ xv v4 ∧ rN B 0 w2 ∧ sR w w2)) (ex_ev (d + 12) (ex_cal (d + 12)) 216 (ex_blk 216 28, [.ref 46, .int (Int32.ofInt t), .int (Int32.ofInt (4 * B 5 (5 * t + 1) + B 5 (5 * t + 2))), .int (Int32.ofInt 0), u4], [], w)) := by
  have hr := q_rng hV
  have h0 := hl.1 0 (by omega)
  have hVB := q_like_vh hl hV.1
  have hb5 : B 0 5 = A 0 5 := by rw [h0]
  have hb15 : B 0 15 = A 0 15 := by rw [h0]
  obtain ⟨g1, g2, g3, g4, g5, g6, g7⟩ := hg t t0 t1
  have hPn : P < 96 → (P : Int) < 4 * B 0 15 := by
    intro h
    have := q_ip_r hVB (hyes h).1
    omega
  refine ex_loop (Q := fun q => (P < 96 ∧ ∃ w2, q = some (some (.int (Int32.ofInt 1)), ex_up (ex_up (ex_up (w2) 46 52 (Int32.ofInt 1)) 46 53 (Int32.ofInt t)) 46 54 (Int32.ofInt (P : Int))) ∧ rN B 0 w2 ∧ sR w w2) ∨ (¬ P < 96 ∧ ∃ w2 v3 v4, q = ex_ev (d + 12) (ex_cal (d + 12)) 216 (ex_blk 216 2, [.ref 46, .int (Int32.ofInt (t + 1)), .int (Int32.ofInt (4 * B 5 (5 * t + 1) + B 5 (5 * t + 2))), v3, v4], [], w2) ∧ xv v3 ∧ xv v4 ∧ rN B 0 w2 ∧ sR w w2)) (fun i s => ∃ w1 v4, s = (ex_blk 216 28, [.ref 46, .int (Int32.ofInt t), .int (Int32.ofInt (4 * B 5 (5 * t + 1) + B 5 (5 * t + 2))), .int (Int32.ofInt (i : Int)), v4], [], w1) ∧ xv v4 ∧ rN B 0 w1 ∧ sR w w1) (if P < 96 then P else (4 * B 0 15).toNat) ?_ ?_ ?_
  · exact ⟨w, u4, rfl, y4, hM, sR_r w⟩
  · rintro i s hi ⟨w1, v4, rfl, x4, M1, o1⟩
    right
    have hiP : (i : Int) < P ∧ (i : Int) < 4 * B 0 15 := by
      by_cases h : P < 96
      · rw [if_pos h] at hi; have := hPn h; omega
      · rw [if_neg h] at hi; omega
    have hn := hno i (by omega) hiP.1
    have ecl := r_cells (d := d + 11) hVB M1
    have epl := r_isPlace (d := d + 8) hVB M1 (by omega) (t := t) (p := i) t0 (by omega) (hg t t0 t1) (by omega) hiP.2
    have ek := M1.2.2.2.1.1 t t0 (by omega)
    by_cases h1 : q_ip B t i
    · rw [bP_t h1] at epl
      obtain ⟨w2, w3, w4, e2, e3, e4, e5, e6, k3, k2, M4, o4⟩ := r_try (d := d) hV hl hg M1 t0 t1 h1
      have z1 : (4 * B 5 (5 * t + 1) + B 5 (5 * t + 2)) / 4 = B 5 (5 * t + 1) := by omega
      have z2 : (4 * B 5 (5 * t + 1) + B 5 (5 * t + 2)) % 4 = B 5 (5 * t + 2) := by omega
      refine ⟨(ex_blk 216 28, [.ref 46, .int (Int32.ofInt t), .int (Int32.ofInt (4 * B 5 (5 * t + 1) + B 5 (5 * t + 2))), .int (Int32.ofInt ((i : Int) + 1)), .int (Int32.ofInt 0)], [], w4), ?_, w4, _, rfl, xv_i _, M4, sR_t o1 o4⟩
      conv => lhs; rw [kb_216_28]
      by_cases h2 : q_hr (q_mv B t ((i : Int) / 4) ((i : Int) % 4))
      · have h3 : ¬ q_akp (q_mv B t ((i : Int) / 4) ((i : Int) % 4)) := fun h => hn ⟨h1, h2, h⟩
        rw [bP_t h2] at e3
        have e4 := e4 h2
        rw [bP_f h3] at e4
        simp (disch := omega) only [ecl, epl, ek, e2, e3, e4, e6, k3, k2, z1, z2, x4, ev_iload, ev_aload, rx_istore, ev_iinc, ev_push, ev_iadd, ev_imul, rx_idiv, rx_irem, ev_goto, ev_jsr, rx_ige_t, rx_ige_f, rx_zeq_t, rx_zeq_f, ev_getf, ev_putf, ev_putl, ev_iald, ev_callv, nr_i, nr_r, nr_l, nr_n, kA_47, kA_48, kA_49, kA_50, kA_51, kA_52, kA_53, kA_54, kA_55, kA_56, kA_57, kA_58, kA_59, kA_60, kA_61, kA_63, kA_64, kA_65, kA_66, kA_67, kA_68, kA_69, kA_70, rx_zret_t, rx_zretI, rx_zretP, kb_216_0, kb_216_82, kb_216_83, kb_216_124, kb_216_130, kb_216_136, kr_216, kf_46_717, kf_46_718, kf_46_719, kf_46_720, kk_46_756, kk_46_757, kk_46_758, List.getD_cons_zero, List.getD_cons_succ, List.set_cons_zero, List.set_cons_succ, ex_spl, ex_low, Option.toList, List.cons_append, List.nil_append, reduceIte, Int.reduceToNat, Nat.reduceDiv, Nat.reduceMod, Nat.reduceAdd, Nat.reduceMul, z_0, z_1, z_10, z_01, reduceCtorEq, ite_true, ite_false, true_and, and_true, ↓bI_01, ↓bP_01, ↓zret0, ↓zret1, z_add, z_sub, z_mul, up_1, up_2, not_true, not_false_iff, if_true, if_false, bI_T, bI_F, bP_T, bP_F, or_true, true_or, or_false, false_or, Int.reduceNeg, Int.reduceAdd, Int.reduceSub, Int.reduceMul, Int.reduceEq, Int.reduceLT, Int.reduceLE, Int.natCast_add, Int.cast_ofNat_Int]
      · rw [bP_f h2] at e3
        have e5 := e5 h2
        subst e5
        simp (disch := omega) only [ecl, epl, ek, e2, e3, e6, k3, k2, z1, z2, x4, ev_iload, ev_aload, rx_istore, ev_iinc, ev_push, ev_iadd, ev_imul, rx_idiv, rx_irem, ev_goto, ev_jsr, rx_ige_t, rx_ige_f, rx_zeq_t, rx_zeq_f, ev_getf, ev_putf, ev_putl, ev_iald, ev_callv, nr_i, nr_r, nr_l, nr_n, kA_47, kA_48, kA_49, kA_50, kA_51, kA_52, kA_53, kA_54, kA_55, kA_56, kA_57, kA_58, kA_59, kA_60, kA_61, kA_63, kA_64, kA_65, kA_66, kA_67, kA_68, kA_69, kA_70, rx_zret_t, rx_zretI, rx_zretP, kb_216_0, kb_216_82, kb_216_83, kb_216_124, kb_216_130, kb_216_136, kr_216, kf_46_717, kf_46_718, kf_46_719, kf_46_720, kk_46_756, kk_46_757, kk_46_758, List.getD_cons_zero, List.getD_cons_succ, List.set_cons_zero, List.set_cons_succ, ex_spl, ex_low, Option.toList, List.cons_append, List.nil_append, reduceIte, Int.reduceToNat, Nat.reduceDiv, Nat.reduceMod, Nat.reduceAdd, Nat.reduceMul, z_0, z_1, z_10, z_01, reduceCtorEq, ite_true, ite_false, true_and, and_true, ↓bI_01, ↓bP_01, ↓zret0, ↓zret1, z_add, z_sub, z_mul, up_1, up_2, not_true, not_false_iff, if_true, if_false, bI_T, bI_F, bP_T, bP_F, or_true, true_or, or_false, false_or, Int.reduceNeg, Int.reduceAdd, Int.reduceSub, Int.reduceMul, Int.reduceEq, Int.reduceLT, Int.reduceLE, Int.natCast_add, Int.cast_ofNat_Int]
    · rw [bP_f h1] at epl
      refine ⟨(ex_blk 216 28, [.ref 46, .int (Int32.ofInt t), .int (Int32.ofInt (4 * B 5 (5 * t + 1) + B 5 (5 * t + 2))), .int (Int32.ofInt ((i : Int) + 1)), v4], [], w1), ?_, w1, v4, rfl, x4, M1, o1⟩
      conv => lhs; rw [kb_216_28]
      simp (disch := omega) only [ecl, epl, x4, ev_iload, ev_aload, rx_istore, ev_iinc, ev_push, ev_iadd, ev_imul, rx_idiv, rx_irem, ev_goto, ev_jsr, rx_ige_t, rx_ige_f, rx_zeq_t, rx_zeq_f, ev_getf, ev_putf, ev_putl, ev_iald, ev_callv, nr_i, nr_r, nr_l, nr_n, kA_47, kA_48, kA_49, kA_50, kA_51, kA_52, kA_53, kA_54, kA_55, kA_56, kA_57, kA_58, kA_59, kA_60, kA_61, kA_63, kA_64, kA_65, kA_66, kA_67, kA_68, kA_69, kA_70, rx_zret_t, rx_zretI, rx_zretP, kb_216_0, kb_216_82, kb_216_83, kb_216_124, kb_216_130, kb_216_136, kr_216, kf_46_717, kf_46_718, kf_46_719, kf_46_720, kk_46_756, kk_46_757, kk_46_758, List.getD_cons_zero, List.getD_cons_succ, List.set_cons_zero, List.set_cons_succ, ex_spl, ex_low, Option.toList, List.cons_append, List.nil_append, reduceIte, Int.reduceToNat, Nat.reduceDiv, Nat.reduceMod, Nat.reduceAdd, Nat.reduceMul, z_0, z_1, z_10, z_01, reduceCtorEq, ite_true, ite_false, true_and, and_true, ↓bI_01, ↓bP_01, ↓zret0, ↓zret1, z_add, z_sub, z_mul, up_1, up_2, not_true, not_false_iff, if_true, if_false, bI_T, bI_F, bP_T, bP_F, or_true, true_or, or_false, false_or, Int.reduceNeg, Int.reduceAdd, Int.reduceSub, Int.reduceMul, Int.reduceEq, Int.reduceLT, Int.reduceLE, Int.natCast_add, Int.cast_ofNat_Int]
  · rintro s ⟨w1, v4, rfl, x4, M1, o1⟩
    have ecl := r_cells (d := d + 11) hVB M1
    by_cases h96 : P < 96
    · left
      refine ⟨h96, ?_⟩
      rw [if_pos h96]
      have hPN := hPn h96
      obtain ⟨h1, h2, h3⟩ := hyes h96
      have epl := r_isPlace (d := d + 8) hVB M1 (by omega) (t := t) (p := P) t0 (by omega) (hg t t0 t1) (by omega) hPN
      have ek := M1.2.2.2.1.1 t t0 (by omega)
      rw [bP_t h1] at epl
      obtain ⟨w2, w3, w4, e2, e3, e4, e5, e6, k3, k2, M4, o4⟩ := r_try (d := d) hV hl hg M1 t0 t1 h1
      have z1 : (4 * B 5 (5 * t + 1) + B 5 (5 * t + 2)) / 4 = B 5 (5 * t + 1) := by omega
      have z2 : (4 * B 5 (5 * t + 1) + B 5 (5 * t + 2)) % 4 = B 5 (5 * t + 2) := by omega
      rw [bP_t h2] at e3
      have e4 := e4 h2
      rw [bP_t h3] at e4
      refine ⟨w4, ?_, M4, sR_t o1 o4⟩
      rw [kb_216_28]
      simp (disch := omega) only [ecl, epl, ek, e2, e3, e4, e6, k3, k2, z1, z2, x4, ev_iload, ev_aload, rx_istore, ev_iinc, ev_push, ev_iadd, ev_imul, rx_idiv, rx_irem, ev_goto, ev_jsr, rx_ige_t, rx_ige_f, rx_zeq_t, rx_zeq_f, ev_getf, ev_putf, ev_putl, ev_iald, ev_callv, nr_i, nr_r, nr_l, nr_n, kA_47, kA_48, kA_49, kA_50, kA_51, kA_52, kA_53, kA_54, kA_55, kA_56, kA_57, kA_58, kA_59, kA_60, kA_61, kA_63, kA_64, kA_65, kA_66, kA_67, kA_68, kA_69, kA_70, rx_zret_t, rx_zretI, rx_zretP, kb_216_0, kb_216_82, kb_216_83, kb_216_124, kb_216_130, kb_216_136, kr_216, kf_46_717, kf_46_718, kf_46_719, kf_46_720, kk_46_756, kk_46_757, kk_46_758, List.getD_cons_zero, List.getD_cons_succ, List.set_cons_zero, List.set_cons_succ, ex_spl, ex_low, Option.toList, List.cons_append, List.nil_append, reduceIte, Int.reduceToNat, Nat.reduceDiv, Nat.reduceMod, Nat.reduceAdd, Nat.reduceMul, z_0, z_1, z_10, z_01, reduceCtorEq, ite_true, ite_false, true_and, and_true, ↓bI_01, ↓bP_01, ↓zret0, ↓zret1, z_add, z_sub, z_mul, up_1, up_2, not_true, not_false_iff, if_true, if_false, bI_T, bI_F, bP_T, bP_F, or_true, true_or, or_false, false_or, Int.reduceNeg, Int.reduceAdd, Int.reduceSub, Int.reduceMul, Int.reduceEq, Int.reduceLT, Int.reduceLE, Int.natCast_add, Int.cast_ofNat_Int]
    · right
      refine ⟨h96, ?_⟩
      rw [if_neg h96, Int.toNat_of_nonneg (by omega)]
      refine ⟨w1, .int (Int32.ofInt (4 * B 0 15)), v4, ?_, xv_i _, x4, M1, o1⟩
      conv => lhs; rw [kb_216_28]
      simp (disch := omega) only [ecl, ev_iload, ev_aload, rx_istore, ev_iinc, ev_push, ev_iadd, ev_imul, rx_idiv, rx_irem, ev_goto, ev_jsr, rx_ige_t, rx_ige_f, rx_zeq_t, rx_zeq_f, ev_getf, ev_putf, ev_putl, ev_iald, ev_callv, nr_i, nr_r, nr_l, nr_n, kA_47, kA_48, kA_49, kA_50, kA_51, kA_52, kA_53, kA_54, kA_55, kA_56, kA_57, kA_58, kA_59, kA_60, kA_61, kA_63, kA_64, kA_65, kA_66, kA_67, kA_68, kA_69, kA_70, rx_zret_t, rx_zretI, rx_zretP, kb_216_0, kb_216_82, kb_216_83, kb_216_124, kb_216_130, kb_216_136, kr_216, kf_46_717, kf_46_718, kf_46_719, kf_46_720, kk_46_756, kk_46_757, kk_46_758, List.getD_cons_zero, List.getD_cons_succ, List.set_cons_zero, List.set_cons_succ, ex_spl, ex_low, Option.toList, List.cons_append, List.nil_append, reduceIte, Int.reduceToNat, Nat.reduceDiv, Nat.reduceMod, Nat.reduceAdd, Nat.reduceMul, z_0, z_1, z_10, z_01, reduceCtorEq, ite_true, ite_false, true_and, and_true, ↓bI_01, ↓bP_01, ↓zret0, ↓zret1, z_add, z_sub, z_mul, up_1, up_2, not_true, not_false_iff, if_true, if_false, bI_T, bI_F, bP_T, bP_F, or_true, true_or, or_false, false_or, Int.reduceNeg, Int.reduceAdd, Int.reduceSub, Int.reduceMul, Int.reduceEq, Int.reduceLT, Int.reduceLE, Int.natCast_add, Int.cast_ofNat_Int]
theorem r_secIn {d : Nat} {A B : AS} {w : PW} (hV : q_v0 A) (hl : q_like A B) (hg : ∀ t, 0 ≤ t → t < A 0 5 → q_gr B t) (hM : rN B 0 w) {t : Int} {f : Int} (t0 : 0 ≤ t) (t1 : t < A 0 5) {P : Nat} (hP : P ≤ 96) (hno : ∀ i : Int, 0 ≤ i → i < P → ¬ q_O B t i) (hyes : P < 96 → q_O B t P) (u4 : Value) (y4 : xv u4) : (fun q => (P < 96 ∧ ∃ w2, q = some (some (.int (Int32.ofInt 1)), ex_up (ex_up (w2) 46 55 (Int32.ofInt t)) 46 56 (Int32.ofInt (P : Int))) ∧ rN B 0 w2 ∧ sR w w2) ∨ (¬ P < 96 ∧ ∃ w2 v3 v4, q = ex_ev (d + 12) (ex_cal (d + 12)) 217 (ex_blk 217 4, [.ref 46, .int (Int32.ofInt f), .int (Int32.ofInt (t + 1)), .int (Int32.ofInt (4 * B 5 (5 * t + 1) + B 5 (5 * t + 2))), v3, v4], [], w2) ∧ xv v3 ∧ xv v4 ∧ rN B 0 w2 ∧ sR w w2)) (ex_ev (d + 12) (ex_cal (d + 12)) 217 (ex_blk 217 31, [.ref 46, .int (Int32.ofInt f), .int (Int32.ofInt t), .int (Int32.ofInt (4 * B 5 (5 * t + 1) + B 5 (5 * t + 2))), .int (Int32.ofInt 0), u4], [], w)) := by
  have hr := q_rng hV
  have h0 := hl.1 0 (by omega)
  have hVB := q_like_vh hl hV.1
  have hb5 : B 0 5 = A 0 5 := by rw [h0]
  have hb15 : B 0 15 = A 0 15 := by rw [h0]
  obtain ⟨g1, g2, g3, g4, g5, g6, g7⟩ := hg t t0 t1
  have hPn : P < 96 → (P : Int) < 4 * B 0 15 := by
    intro h
    have := q_ip_r hVB (hyes h).1
    omega
  refine ex_loop (Q := fun q => (P < 96 ∧ ∃ w2, q = some (some (.int (Int32.ofInt 1)), ex_up (ex_up (w2) 46 55 (Int32.ofInt t)) 46 56 (Int32.ofInt (P : Int))) ∧ rN B 0 w2 ∧ sR w w2) ∨ (¬ P < 96 ∧ ∃ w2 v3 v4, q = ex_ev (d + 12) (ex_cal (d + 12)) 217 (ex_blk 217 4, [.ref 46, .int (Int32.ofInt f), .int (Int32.ofInt (t + 1)), .int (Int32.ofInt (4 * B 5 (5 * t + 1) + B 5 (5 * t + 2))), v3, v4], [], w2) ∧ xv v3 ∧ xv v4 ∧ rN B 0 w2 ∧ sR w w2)) (fun i s => ∃ w1 v4, s = (ex_blk 217 31, [.ref 46, .int (Int32.ofInt f), .int (Int32.ofInt t), .int (Int32.ofInt (4 * B 5 (5 * t + 1) + B 5 (5 * t + 2))), .int (Int32.ofInt (i : Int)), v4], [], w1) ∧ xv v4 ∧ rN B 0 w1 ∧ sR w w1) (if P < 96 then P else (4 * B 0 15).toNat) ?_ ?_ ?_
  · exact ⟨w, u4, rfl, y4, hM, sR_r w⟩
  · rintro i s hi ⟨w1, v4, rfl, x4, M1, o1⟩
    right
    have hiP : (i : Int) < P ∧ (i : Int) < 4 * B 0 15 := by
      by_cases h : P < 96
      · rw [if_pos h] at hi; have := hPn h; omega
      · rw [if_neg h] at hi; omega
    have hn := hno i (by omega) hiP.1
    have ecl := r_cells (d := d + 11) hVB M1
    have epl := r_isPlace (d := d + 8) hVB M1 (by omega) (t := t) (p := i) t0 (by omega) (hg t t0 t1) (by omega) hiP.2
    have ek := M1.2.2.2.1.1 t t0 (by omega)
    by_cases h1 : q_ip B t i
    · rw [bP_t h1] at epl
      obtain ⟨w2, w3, w4, e2, e3, e4, e5, e6, k3, k2, M4, o4⟩ := r_try (d := d) hV hl hg M1 t0 t1 h1
      have z1 : (4 * B 5 (5 * t + 1) + B 5 (5 * t + 2)) / 4 = B 5 (5 * t + 1) := by omega
      have z2 : (4 * B 5 (5 * t + 1) + B 5 (5 * t + 2)) % 4 = B 5 (5 * t + 2) := by omega
      refine ⟨(ex_blk 217 31, [.ref 46, .int (Int32.ofInt f), .int (Int32.ofInt t), .int (Int32.ofInt (4 * B 5 (5 * t + 1) + B 5 (5 * t + 2))), .int (Int32.ofInt ((i : Int) + 1)), .int (Int32.ofInt 0)], [], w4), ?_, w4, _, rfl, xv_i _, M4, sR_t o1 o4⟩
      conv => lhs; rw [kb_217_31]
      by_cases h2 : q_hr (q_mv B t ((i : Int) / 4) ((i : Int) % 4))
      · have h3 : ¬ q_akp (q_mv B t ((i : Int) / 4) ((i : Int) % 4)) := fun h => hn ⟨h1, h2, h⟩
        rw [bP_t h2] at e3
        have e4 := e4 h2
        rw [bP_f h3] at e4
        simp (disch := omega) only [ecl, epl, ek, e2, e3, e4, e6, k3, k2, z1, z2, x4, ev_iload, ev_aload, rx_istore, ev_iinc, ev_push, ev_iadd, ev_imul, rx_idiv, rx_irem, ev_goto, ev_jsr, rx_ige_t, rx_ige_f, rx_zeq_t, rx_zeq_f, ev_getf, ev_putf, ev_putl, ev_iald, ev_callv, nr_i, nr_r, nr_l, nr_n, kA_47, kA_48, kA_49, kA_50, kA_51, kA_52, kA_53, kA_54, kA_55, kA_56, kA_57, kA_58, kA_59, kA_60, kA_61, kA_63, kA_64, kA_65, kA_66, kA_67, kA_68, kA_69, kA_70, rx_zret_t, rx_zretI, rx_zretP, kb_217_0, kb_217_89, kb_217_90, kb_217_127, kb_217_133, kb_217_139, kr_217, kf_46_717, kf_46_718, kf_46_719, kf_46_720, kk_46_759, kk_46_760, List.getD_cons_zero, List.getD_cons_succ, List.set_cons_zero, List.set_cons_succ, ex_spl, ex_low, Option.toList, List.cons_append, List.nil_append, reduceIte, Int.reduceToNat, Nat.reduceDiv, Nat.reduceMod, Nat.reduceAdd, Nat.reduceMul, z_0, z_1, z_10, z_01, reduceCtorEq, ite_true, ite_false, true_and, and_true, ↓bI_01, ↓bP_01, ↓zret0, ↓zret1, z_add, z_sub, z_mul, up_1, up_2, not_true, not_false_iff, if_true, if_false, bI_T, bI_F, bP_T, bP_F, or_true, true_or, or_false, false_or, Int.reduceNeg, Int.reduceAdd, Int.reduceSub, Int.reduceMul, Int.reduceEq, Int.reduceLT, Int.reduceLE, Int.natCast_add, Int.cast_ofNat_Int]
      · rw [bP_f h2] at e3
        have e5 := e5 h2
        subst e5
        simp (disch := omega) only [ecl, epl, ek, e2, e3, e6, k3, k2, z1, z2, x4, ev_iload, ev_aload, rx_istore, ev_iinc, ev_push, ev_iadd, ev_imul, rx_idiv, rx_irem, ev_goto, ev_jsr, rx_ige_t, rx_ige_f, rx_zeq_t, rx_zeq_f, ev_getf, ev_putf, ev_putl, ev_iald, ev_callv, nr_i, nr_r, nr_l, nr_n, kA_47, kA_48, kA_49, kA_50, kA_51, kA_52, kA_53, kA_54, kA_55, kA_56, kA_57, kA_58, kA_59, kA_60, kA_61, kA_63, kA_64, kA_65, kA_66, kA_67, kA_68, kA_69, kA_70, rx_zret_t, rx_zretI, rx_zretP, kb_217_0, kb_217_89, kb_217_90, kb_217_127, kb_217_133, kb_217_139, kr_217, kf_46_717, kf_46_718, kf_46_719, kf_46_720, kk_46_759, kk_46_760, List.getD_cons_zero, List.getD_cons_succ, List.set_cons_zero, List.set_cons_succ, ex_spl, ex_low, Option.toList, List.cons_append, List.nil_append, reduceIte, Int.reduceToNat, Nat.reduceDiv, Nat.reduceMod, Nat.reduceAdd, Nat.reduceMul, z_0, z_1, z_10, z_01, reduceCtorEq, ite_true, ite_false, true_and, and_true, ↓bI_01, ↓bP_01, ↓zret0, ↓zret1, z_add, z_sub, z_mul, up_1, up_2, not_true, not_false_iff, if_true, if_false, bI_T, bI_F, bP_T, bP_F, or_true, true_or, or_false, false_or, Int.reduceNeg, Int.reduceAdd, Int.reduceSub, Int.reduceMul, Int.reduceEq, Int.reduceLT, Int.reduceLE, Int.natCast_add, Int.cast_ofNat_Int]
    · rw [bP_f h1] at epl
      refine ⟨(ex_blk 217 31, [.ref 46, .int (Int32.ofInt f), .int (Int32.ofInt t), .int (Int32.ofInt (4 * B 5 (5 * t + 1) + B 5 (5 * t + 2))), .int (Int32.ofInt ((i : Int) + 1)), v4], [], w1), ?_, w1, v4, rfl, x4, M1, o1⟩
      conv => lhs; rw [kb_217_31]
      simp (disch := omega) only [ecl, epl, x4, ev_iload, ev_aload, rx_istore, ev_iinc, ev_push, ev_iadd, ev_imul, rx_idiv, rx_irem, ev_goto, ev_jsr, rx_ige_t, rx_ige_f, rx_zeq_t, rx_zeq_f, ev_getf, ev_putf, ev_putl, ev_iald, ev_callv, nr_i, nr_r, nr_l, nr_n, kA_47, kA_48, kA_49, kA_50, kA_51, kA_52, kA_53, kA_54, kA_55, kA_56, kA_57, kA_58, kA_59, kA_60, kA_61, kA_63, kA_64, kA_65, kA_66, kA_67, kA_68, kA_69, kA_70, rx_zret_t, rx_zretI, rx_zretP, kb_217_0, kb_217_89, kb_217_90, kb_217_127, kb_217_133, kb_217_139, kr_217, kf_46_717, kf_46_718, kf_46_719, kf_46_720, kk_46_759, kk_46_760, List.getD_cons_zero, List.getD_cons_succ, List.set_cons_zero, List.set_cons_succ, ex_spl, ex_low, Option.toList, List.cons_append, List.nil_append, reduceIte, Int.reduceToNat, Nat.reduceDiv, Nat.reduceMod, Nat.reduceAdd, Nat.reduceMul, z_0, z_1, z_10, z_01, reduceCtorEq, ite_true, ite_false, true_and, and_true, ↓bI_01, ↓bP_01, ↓zret0, ↓zret1, z_add, z_sub, z_mul, up_1, up_2, not_true, not_false_iff, if_true, if_false, bI_T, bI_F, bP_T, bP_F, or_true, true_or, or_false, false_or, Int.reduceNeg, Int.reduceAdd, Int.reduceSub, Int.reduceMul, Int.reduceEq, Int.reduceLT, Int.reduceLE, Int.natCast_add, Int.cast_ofNat_Int]
  · rintro s ⟨w1, v4, rfl, x4, M1, o1⟩
    have ecl := r_cells (d := d + 11) hVB M1
    by_cases h96 : P < 96
    · left
      refine ⟨h96, ?_⟩
      rw [if_pos h96]
      have hPN := hPn h96
      obtain ⟨h1, h2, h3⟩ := hyes h96
      have epl := r_isPlace (d := d + 8) hVB M1 (by omega) (t := t) (p := P) t0 (by omega) (hg t t0 t1) (by omega) hPN
      have ek := M1.2.2.2.1.1 t t0 (by omega)
      rw [bP_t h1] at epl
      obtain ⟨w2, w3, w4, e2, e3, e4, e5, e6, k3, k2, M4, o4⟩ := r_try (d := d) hV hl hg M1 t0 t1 h1
      have z1 : (4 * B 5 (5 * t + 1) + B 5 (5 * t + 2)) / 4 = B 5 (5 * t + 1) := by omega
      have z2 : (4 * B 5 (5 * t + 1) + B 5 (5 * t + 2)) % 4 = B 5 (5 * t + 2) := by omega
      rw [bP_t h2] at e3
      have e4 := e4 h2
      rw [bP_t h3] at e4
      refine ⟨w4, ?_, M4, sR_t o1 o4⟩
      rw [kb_217_31]
      simp (disch := omega) only [ecl, epl, ek, e2, e3, e4, e6, k3, k2, z1, z2, x4, ev_iload, ev_aload, rx_istore, ev_iinc, ev_push, ev_iadd, ev_imul, rx_idiv, rx_irem, ev_goto, ev_jsr, rx_ige_t, rx_ige_f, rx_zeq_t, rx_zeq_f, ev_getf, ev_putf, ev_putl, ev_iald, ev_callv, nr_i, nr_r, nr_l, nr_n, kA_47, kA_48, kA_49, kA_50, kA_51, kA_52, kA_53, kA_54, kA_55, kA_56, kA_57, kA_58, kA_59, kA_60, kA_61, kA_63, kA_64, kA_65, kA_66, kA_67, kA_68, kA_69, kA_70, rx_zret_t, rx_zretI, rx_zretP, kb_217_0, kb_217_89, kb_217_90, kb_217_127, kb_217_133, kb_217_139, kr_217, kf_46_717, kf_46_718, kf_46_719, kf_46_720, kk_46_759, kk_46_760, List.getD_cons_zero, List.getD_cons_succ, List.set_cons_zero, List.set_cons_succ, ex_spl, ex_low, Option.toList, List.cons_append, List.nil_append, reduceIte, Int.reduceToNat, Nat.reduceDiv, Nat.reduceMod, Nat.reduceAdd, Nat.reduceMul, z_0, z_1, z_10, z_01, reduceCtorEq, ite_true, ite_false, true_and, and_true, ↓bI_01, ↓bP_01, ↓zret0, ↓zret1, z_add, z_sub, z_mul, up_1, up_2, not_true, not_false_iff, if_true, if_false, bI_T, bI_F, bP_T, bP_F, or_true, true_or, or_false, false_or, Int.reduceNeg, Int.reduceAdd, Int.reduceSub, Int.reduceMul, Int.reduceEq, Int.reduceLT, Int.reduceLE, Int.natCast_add, Int.cast_ofNat_Int]
    · right
      refine ⟨h96, ?_⟩
      rw [if_neg h96, Int.toNat_of_nonneg (by omega)]
      refine ⟨w1, .int (Int32.ofInt (4 * B 0 15)), v4, ?_, xv_i _, x4, M1, o1⟩
      conv => lhs; rw [kb_217_31]
      simp (disch := omega) only [ecl, ev_iload, ev_aload, rx_istore, ev_iinc, ev_push, ev_iadd, ev_imul, rx_idiv, rx_irem, ev_goto, ev_jsr, rx_ige_t, rx_ige_f, rx_zeq_t, rx_zeq_f, ev_getf, ev_putf, ev_putl, ev_iald, ev_callv, nr_i, nr_r, nr_l, nr_n, kA_47, kA_48, kA_49, kA_50, kA_51, kA_52, kA_53, kA_54, kA_55, kA_56, kA_57, kA_58, kA_59, kA_60, kA_61, kA_63, kA_64, kA_65, kA_66, kA_67, kA_68, kA_69, kA_70, rx_zret_t, rx_zretI, rx_zretP, kb_217_0, kb_217_89, kb_217_90, kb_217_127, kb_217_133, kb_217_139, kr_217, kf_46_717, kf_46_718, kf_46_719, kf_46_720, kk_46_759, kk_46_760, List.getD_cons_zero, List.getD_cons_succ, List.set_cons_zero, List.set_cons_succ, ex_spl, ex_low, Option.toList, List.cons_append, List.nil_append, reduceIte, Int.reduceToNat, Nat.reduceDiv, Nat.reduceMod, Nat.reduceAdd, Nat.reduceMul, z_0, z_1, z_10, z_01, reduceCtorEq, ite_true, ite_false, true_and, and_true, ↓bI_01, ↓bP_01, ↓zret0, ↓zret1, z_add, z_sub, z_mul, up_1, up_2, not_true, not_false_iff, if_true, if_false, bI_T, bI_F, bP_T, bP_F, or_true, true_or, or_false, false_or, Int.reduceNeg, Int.reduceAdd, Int.reduceSub, Int.reduceMul, Int.reduceEq, Int.reduceLT, Int.reduceLE, Int.natCast_add, Int.cast_ofNat_Int]
