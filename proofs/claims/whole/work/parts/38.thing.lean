/-! thing, move -/
theorem r_roomBeside {d : Nat} {A : AS} {w : PW} (hV : q_v0 A) (hM : rN A 0 w) {k c v : Int} (k0 : 0 ≤ k) (k1 : k < 4) (c0 : 0 ≤ c) (c1 : c < A 0 15) (v0 : 0 ≤ v) (v1 : v < 4) (hw : k = 1 ∨ v = 0) : ex_cal (d + 6) 201 [.ref 46, .int (Int32.ofInt k), .int (Int32.ofInt c), .int (Int32.ofInt v)] w = some (some (.int (bP (q_room A k c v (-1)))), w) := by
  have hr := q_rng hV
  have hT := hV.2.2.2.1
  have t3 := q_ta_3 hT
  have hfit := r_fitsIn (d := d + 2) hV.1 hM k0 k1 c0 c1 v0 v1
  have hta : ∀ x, q_ta A x = -1 ↔ ∀ t, 0 ≤ t → t < A 0 5 → ¬ q_at A t x := fun x => q_ta_n hV
  rw [ke_201 kc_46]
  by_cases hf : q_fl A c ∧ q_fl A (q_ls A k c v)
  · rw [bP_t hf] at hfit
    have hl : q_ls A k c v = if k = 1 then q_nx A c v else c := rfl
    have t3c := t3 c
    have t3l := t3 (q_ls A k c v)
    have hlr := hf.2.1
    have hlr2 := hf.2.2.1
    have room : q_room A k c v (-1) ↔ q_ta A c = -1 ∧ q_ta A (q_ls A k c v) = -1 := by
      rw [hta, hta]
      exact ⟨fun h => ⟨fun t t0 t1 => (h.2 t t0 t1 (by omega)).1, fun t t0 t1 => (h.2 t t0 t1 (by omega)).2⟩, fun h => ⟨⟨hf.1, hf.2, hw⟩, fun t t0 t1 _ => ⟨h.1 t t0 t1, h.2 t t0 t1⟩⟩⟩
    by_cases h1 : q_ta A c = -1
    · by_cases h2 : q_ta A (q_ls A k c v) = -1
      · rw [bP_t (room.2 ⟨h1, h2⟩)]
        by_cases hb : k = 1
        · rw [if_pos hb] at hl
          rw [hl] at h2 hlr hlr2
          simp (disch := omega) only [hfit, r_beside hV.1 hM, r_thingAt hV.1 hM hT, h1, h2, ev_iload, ev_aload, rx_istore, ev_push, ev_goto, ev_jsr, rx_ine_t, rx_ine_f, rx_zne_t, rx_zne_f, ev_callv, nr_i, nr_r, nr_l, nr_n, rx_zret_t, rx_zretI, rx_zretP, kb_201_0, kb_201_12, kb_201_26, kb_201_27, kb_201_52, kb_201_53, kr_201, List.getD_cons_zero, List.getD_cons_succ, List.set_cons_zero, List.set_cons_succ, ex_spl, ex_low, Option.toList, List.cons_append, List.nil_append, reduceIte, Int.reduceToNat, Nat.reduceDiv, Nat.reduceMod, Nat.reduceAdd, Nat.reduceMul, z_0, z_1, z_10, z_01, reduceCtorEq, ite_true, ite_false, true_and, and_true, ↓bI_01, ↓bP_01, ↓zret0, ↓zret1, z_add, z_sub, z_mul, up_1, up_2, not_true, not_false_iff, if_true, if_false, bI_T, bI_F, bP_T, bP_F, or_true, true_or, or_false, false_or, Int.reduceNeg, Int.reduceAdd, Int.reduceSub, Int.reduceMul, Int.reduceEq, Int.reduceLT, Int.reduceLE, Int.natCast_add, Int.cast_ofNat_Int]
        · rw [if_neg hb] at hl
          rw [hl] at h2 hlr hlr2
          simp (disch := omega) only [hfit, r_thingAt hV.1 hM hT, h1, ev_iload, ev_aload, rx_istore, ev_push, ev_goto, ev_jsr, rx_ine_t, rx_ine_f, rx_zne_t, rx_zne_f, ev_callv, nr_i, nr_r, nr_l, nr_n, rx_zret_t, rx_zretI, rx_zretP, kb_201_0, kb_201_12, kb_201_26, kb_201_27, kb_201_52, kb_201_53, kr_201, List.getD_cons_zero, List.getD_cons_succ, List.set_cons_zero, List.set_cons_succ, ex_spl, ex_low, Option.toList, List.cons_append, List.nil_append, reduceIte, Int.reduceToNat, Nat.reduceDiv, Nat.reduceMod, Nat.reduceAdd, Nat.reduceMul, z_0, z_1, z_10, z_01, reduceCtorEq, ite_true, ite_false, true_and, and_true, ↓bI_01, ↓bP_01, ↓zret0, ↓zret1, z_add, z_sub, z_mul, up_1, up_2, not_true, not_false_iff, if_true, if_false, bI_T, bI_F, bP_T, bP_F, or_true, true_or, or_false, false_or, Int.reduceNeg, Int.reduceAdd, Int.reduceSub, Int.reduceMul, Int.reduceEq, Int.reduceLT, Int.reduceLE, Int.natCast_add, Int.cast_ofNat_Int]
      · rw [bP_f (fun h => h2 (room.1 h).2)]
        by_cases hb : k = 1
        · rw [if_pos hb] at hl
          rw [hl] at h2 hlr hlr2 t3l
          simp (disch := omega) only [hfit, r_beside hV.1 hM, r_thingAt hV.1 hM hT, h1, ev_iload, ev_aload, rx_istore, ev_push, ev_goto, ev_jsr, rx_ine_t, rx_ine_f, rx_zne_t, rx_zne_f, ev_callv, nr_i, nr_r, nr_l, nr_n, rx_zret_t, rx_zretI, rx_zretP, kb_201_0, kb_201_12, kb_201_26, kb_201_27, kb_201_52, kb_201_53, kr_201, List.getD_cons_zero, List.getD_cons_succ, List.set_cons_zero, List.set_cons_succ, ex_spl, ex_low, Option.toList, List.cons_append, List.nil_append, reduceIte, Int.reduceToNat, Nat.reduceDiv, Nat.reduceMod, Nat.reduceAdd, Nat.reduceMul, z_0, z_1, z_10, z_01, reduceCtorEq, ite_true, ite_false, true_and, and_true, ↓bI_01, ↓bP_01, ↓zret0, ↓zret1, z_add, z_sub, z_mul, up_1, up_2, not_true, not_false_iff, if_true, if_false, bI_T, bI_F, bP_T, bP_F, or_true, true_or, or_false, false_or, Int.reduceNeg, Int.reduceAdd, Int.reduceSub, Int.reduceMul, Int.reduceEq, Int.reduceLT, Int.reduceLE, Int.natCast_add, Int.cast_ofNat_Int]
        · rw [if_neg hb] at hl
          rw [hl] at h2
          exact absurd h1 h2
    · rw [bP_f (fun h => h1 (room.1 h).1)]
      by_cases hb : k = 1
      · rw [if_pos hb] at hl
        rw [hl] at hlr hlr2
        simp (disch := omega) only [hfit, r_beside hV.1 hM, r_thingAt hV.1 hM hT, ev_iload, ev_aload, rx_istore, ev_push, ev_goto, ev_jsr, rx_ine_t, rx_ine_f, rx_zne_t, rx_zne_f, ev_callv, nr_i, nr_r, nr_l, nr_n, rx_zret_t, rx_zretI, rx_zretP, kb_201_0, kb_201_12, kb_201_26, kb_201_27, kb_201_52, kb_201_53, kr_201, List.getD_cons_zero, List.getD_cons_succ, List.set_cons_zero, List.set_cons_succ, ex_spl, ex_low, Option.toList, List.cons_append, List.nil_append, reduceIte, Int.reduceToNat, Nat.reduceDiv, Nat.reduceMod, Nat.reduceAdd, Nat.reduceMul, z_0, z_1, z_10, z_01, reduceCtorEq, ite_true, ite_false, true_and, and_true, ↓bI_01, ↓bP_01, ↓zret0, ↓zret1, z_add, z_sub, z_mul, up_1, up_2, not_true, not_false_iff, if_true, if_false, bI_T, bI_F, bP_T, bP_F, or_true, true_or, or_false, false_or, Int.reduceNeg, Int.reduceAdd, Int.reduceSub, Int.reduceMul, Int.reduceEq, Int.reduceLT, Int.reduceLE, Int.natCast_add, Int.cast_ofNat_Int]
      · simp (disch := omega) only [hfit, r_thingAt hV.1 hM hT, ev_iload, ev_aload, rx_istore, ev_push, ev_goto, ev_jsr, rx_ine_t, rx_ine_f, rx_zne_t, rx_zne_f, ev_callv, nr_i, nr_r, nr_l, nr_n, rx_zret_t, rx_zretI, rx_zretP, kb_201_0, kb_201_12, kb_201_26, kb_201_27, kb_201_52, kb_201_53, kr_201, List.getD_cons_zero, List.getD_cons_succ, List.set_cons_zero, List.set_cons_succ, ex_spl, ex_low, Option.toList, List.cons_append, List.nil_append, reduceIte, Int.reduceToNat, Nat.reduceDiv, Nat.reduceMod, Nat.reduceAdd, Nat.reduceMul, z_0, z_1, z_10, z_01, reduceCtorEq, ite_true, ite_false, true_and, and_true, ↓bI_01, ↓bP_01, ↓zret0, ↓zret1, z_add, z_sub, z_mul, up_1, up_2, not_true, not_false_iff, if_true, if_false, bI_T, bI_F, bP_T, bP_F, or_true, true_or, or_false, false_or, Int.reduceNeg, Int.reduceAdd, Int.reduceSub, Int.reduceMul, Int.reduceEq, Int.reduceLT, Int.reduceLE, Int.natCast_add, Int.cast_ofNat_Int]
  · rw [bP_f hf] at hfit
    rw [bP_f (fun h => hf ⟨h.1.1, h.1.2.1⟩)]
    simp (disch := omega) only [hfit, ev_iload, ev_aload, rx_istore, ev_push, ev_goto, ev_jsr, rx_ine_t, rx_ine_f, rx_zne_t, rx_zne_f, ev_callv, nr_i, nr_r, nr_l, nr_n, rx_zret_t, rx_zretI, rx_zretP, kb_201_0, kb_201_12, kb_201_26, kb_201_27, kb_201_52, kb_201_53, kr_201, List.getD_cons_zero, List.getD_cons_succ, List.set_cons_zero, List.set_cons_succ, ex_spl, ex_low, Option.toList, List.cons_append, List.nil_append, reduceIte, Int.reduceToNat, Nat.reduceDiv, Nat.reduceMod, Nat.reduceAdd, Nat.reduceMul, z_0, z_1, z_10, z_01, reduceCtorEq, ite_true, ite_false, true_and, and_true, ↓bI_01, ↓bP_01, ↓zret0, ↓zret1, z_add, z_sub, z_mul, up_1, up_2, not_true, not_false_iff, if_true, if_false, bI_T, bI_F, bP_T, bP_F, or_true, true_or, or_false, false_or, Int.reduceNeg, Int.reduceAdd, Int.reduceSub, Int.reduceMul, Int.reduceEq, Int.reduceLT, Int.reduceLE, Int.natCast_add, Int.cast_ofNat_Int]
theorem q_V_ad {A : AS} (hV : q_V A) {k c v : Int} (k0 : 0 ≤ k) (k1 : k < 4) (v0 : 0 ≤ v) (v1 : v < 4) (hn : A 0 5 < 3) (hR : q_room A k c v (-1)) : q_V (q_ad A 5 5 k c v 0 0) := by
  have hr := q_rng hV.1
  obtain ⟨r0, r1, r2, r3, r4⟩ := q_ad_r (A := A) (j := 5) (s := 5) (a := k) (b := c) (c := v) (d := 0) (e := 0) (by omega)
  have hh := (q_hr_ad hV.1 hV.2.1 hR.1.2.2).2 hR
  obtain ⟨⟨v1', v2, v3, v4, v5, v6, v7, v8, v9, v10⟩, vd, vi⟩ := id hV
  have hT := v4.2.2
  refine ⟨⟨v1', v2, v3, ⟨by rw [q_ad_n]; omega, by rw [q_ad_n]; omega, fun t t0 t1 => ?_⟩, v5, v6, v7, v8, v9, v10⟩, fun t u t0 t1 u0 u1 => (hh t t0 t1).2 u u0 u1, vi⟩
  rw [q_ad_n] at t1
  by_cases ht : t < A 0 5
  · rw [q_ad_o (by omega) (by omega), q_ad_o (by omega) (by omega), q_ad_o (by omega) (by omega)]
    exact hT t t0 ht
  · have : t = A 0 5 := by omega
    subst this
    rw [r0, r1, r2]
    exact ⟨k0, by omega, v0, by omega, hR.1.2.2, hR.1.1, hR.1.2.1⟩
theorem q_V_mv {A : AS} (hV : q_V A) {t c v : Int} (t0 : 0 ≤ t) (t1 : t < A 0 5) (v0 : 0 ≤ v) (v1 : v < 4) (hR : q_room A (A 5 (5 * t)) c v t) : q_V (q_mv A t c v) := by
  have hr := q_rng hV.1
  have hh := (q_hr_mv hV.1 hV.2.1 t0 t1 hR.1.2.2).2 hR
  obtain ⟨⟨v1', v2, v3, v4, v5, v6, v7, v8, v9, v10⟩, vd, vi⟩ := id hV
  have hT := v4.2.2
  refine ⟨⟨v1', v2, v3, ⟨v4.1, v4.2.1, fun u u0 u1 => ?_⟩, v5, v6, v7, v8, v9, v10⟩, fun x u x0 x1 u0 u1 => (hh x x0 x1).2 u u0 u1, vi⟩
  by_cases hu : u = t
  · subst hu
    rw [q_mv_k, q_mv_s.1, q_mv_s.2]
    have := hT u u0 u1
    exact ⟨this.1, this.2.1, v0, by omega, hR.1.2.2, hR.1.1, hR.1.2.1⟩
  · rw [q_mv_k, (q_mv_o hu).1, (q_mv_o hu).2]
    exact hT u u0 u1
/-- the reference's state with one thing more written -/
theorem rN_ad {A : AS} {w : PW} {k c v : Int} (hM : rN A 0 w) (n0 : 0 ≤ A 0 5) : rN (q_ad A 5 5 k c v 0 0) 0 (ex_up (ex_up (ex_up (ex_up w 55 (A 0 5).toNat (Int32.ofInt k)) 56 (A 0 5).toNat (Int32.ofInt c)) 57 (A 0 5).toNat (Int32.ofInt v)) 46 13 (Int32.ofInt (A 0 5 + 1))) := by
  obtain ⟨r0, r1, r2, r3, r4⟩ := q_ad_r (A := A) (j := 5) (s := 5) (a := k) (b := c) (c := v) (d := 0) (e := 0) (by omega)
  obtain ⟨⟨g0, g1, g2, g5, g11, g13, g17, g20, g23, g24, g49⟩, ⟨gk, gl⟩, ⟨gs, ga, gf, gt, gn⟩, ⟨gtk, gtc, gtw⟩, ge, ⟨gba, gbh⟩, ⟨gjc, gjs⟩, gp⟩ := id hM
  refine ⟨⟨g0, g1, g2, g5, g11, up_s, g17, g20, g23, g24, g49⟩, ⟨gk, gl⟩, ⟨gs, ga, gf, gt, gn⟩, ⟨fun l l0 l1 => ?_, fun l l0 l1 => ?_, fun l l0 l1 => ?_⟩, ge, ⟨gba, gbh⟩, ⟨gjc, gjs⟩, gp⟩
  · rw [q_ad_n] at l1
    rw [up_n (by omega), up_n (by omega), up_n (by omega)]
    by_cases hl : l < A 0 5
    · rw [up_n (by omega), q_ad_o (by omega) (by omega)]; exact gtk l l0 hl
    · have : l = A 0 5 := by omega
      subst this
      rw [up_e (by omega), r0]
  · rw [q_ad_n] at l1
    rw [up_n (by omega), up_n (by omega)]
    by_cases hl : l < A 0 5
    · rw [up_n (by omega), up_n (by omega), q_ad_o (by omega) (by omega)]; exact gtc l l0 hl
    · have : l = A 0 5 := by omega
      subst this
      rw [up_e (by omega), r1]
  · rw [q_ad_n] at l1
    rw [up_n (by omega)]
    by_cases hl : l < A 0 5
    · rw [up_n (by omega), up_n (by omega), up_n (by omega), q_ad_o (by omega) (by omega)]; exact gtw l l0 hl
    · have : l = A 0 5 := by omega
      subst this
      rw [up_e (by omega), r2]
/-- the reference's state with one thing elsewhere -/
theorem rN_mv {A : AS} {b : Int} {w : PW} {t c v : Int} (hM : rN A b w) (t0 : 0 ≤ t) (t1 : t < A 0 5) : rN (q_mv A t c v) b (ex_up (ex_up (ex_up w 55 t.toNat (Int32.ofInt (A 5 (5 * t)))) 56 t.toNat (Int32.ofInt c)) 57 t.toNat (Int32.ofInt v)) := by
  obtain ⟨⟨g0, g1, g2, g5, g11, g13, g17, g20, g23, g24, g49⟩, ⟨gk, gl⟩, ⟨gs, ga, gf, gt, gn⟩, ⟨gtk, gtc, gtw⟩, ge, ⟨gba, gbh⟩, ⟨gjc, gjs⟩, gp⟩ := id hM
  refine ⟨⟨g0, g1, g2, g5, g11, g13, g17, g20, g23, g24, g49⟩, ⟨gk, gl⟩, ⟨gs, ga, gf, gt, gn⟩, ⟨fun l l0 l1 => ?_, fun l l0 l1 => ?_, fun l l0 l1 => ?_⟩, ge, ⟨gba, gbh⟩, ⟨gjc, gjs⟩, gp⟩
  · rw [up_n (by omega), up_n (by omega), q_mv_k]
    by_cases hl : l = t
    · subst hl; rw [up_e (by omega)]
    · rw [up_n (by omega)]; exact gtk l l0 l1
  · rw [up_n (by omega)]
    by_cases hl : l = t
    · subst hl; rw [up_e (by omega), q_mv_s.1]
    · rw [up_n (by omega), up_n (by omega), (q_mv_o hl).1]; exact gtc l l0 l1
  · by_cases hl : l = t
    · subst hl; rw [up_e (by omega), q_mv_s.2]
    · rw [up_n (by omega), up_n (by omega), up_n (by omega), (q_mv_o hl).2]; exact gtw l l0 l1
theorem rCt_mv {A : AS} {w : PW} {t c v : Int} (h : rCt A w 21 5 3 5) (t0 : 0 ≤ t) (t1 : t < A 0 5) : rCt (q_mv A t c v) (ex_up (ex_up w 22 (5 * t + 1).toNat (Int32.ofInt c)) 22 (5 * t + 2).toNat (Int32.ofInt v)) 21 5 3 5 := by
  obtain ⟨h1, h2, h3⟩ := h
  refine ⟨h1, h2, fun k k0 k1 => ?_⟩
  have k1' : k < 5 * A 0 5 := k1
  show (ex_up (ex_up w 22 (5 * t + 1).toNat (Int32.ofInt c)) 22 (5 * t + 2).toNat (Int32.ofInt v)).1 22 k.toNat = Int32.ofInt (q_mv A t c v 5 k)
  unfold q_mv
  by_cases e1 : k = 5 * t + 1
  · rw [up_n (by omega), up_e (by omega), if_pos ⟨rfl, e1⟩]
  · by_cases e2 : k = 5 * t + 2
    · rw [up_e (by omega), if_neg (by omega), if_pos ⟨rfl, e2⟩]
    · rw [up_n (by omega), up_n (by omega), if_neg (by omega), if_neg (by omega)]; exact h3 k k0 k1'
theorem q_gr_v {A : AS} (hV : q_v0 A) {t : Int} (t0 : 0 ≤ t) (t1 : t < A 0 5) : q_gr A t := by
  obtain ⟨f1, f2, f3, f4, f5, ⟨f6, f7, f8⟩, f9⟩ := hV.2.2.2.1.2.2 t t0 t1
  exact ⟨f1, f2, f3, f4, f5, f6, f7⟩
theorem q_gr_ad {A : AS} (hV : q_v0 A) {k c v : Int} (k0 : 0 ≤ k) (k1 : k < 4) (c0 : 0 ≤ c) (c1 : c < A 0 15) (v0 : 0 ≤ v) (v1 : v < 4) (hw : k = 1 ∨ v = 0) : ∀ t, 0 ≤ t → t < q_ad A 5 5 k c v 0 0 0 5 → q_gr (q_ad A 5 5 k c v 0 0) t := by
  intro t t0 t1
  have hr := q_rng hV
  obtain ⟨r0, r1, r2, r3, r4⟩ := q_ad_r (A := A) (j := 5) (s := 5) (a := k) (b := c) (c := v) (d := 0) (e := 0) (by omega)
  rw [q_ad_n] at t1
  by_cases ht : t < A 0 5
  · unfold q_gr
    rw [q_ad_o (by omega) (by omega), q_ad_o (by omega) (by omega), q_ad_o (by omega) (by omega)]
    exact q_gr_v hV t0 ht
  · have : t = A 0 5 := by omega
    subst this
    unfold q_gr
    rw [r0, r1, r2]
    exact ⟨k0, by omega, v0, by omega, hw, c0, c1⟩
theorem q_gr_mv {A : AS} (hV : q_v0 A) {t c v : Int} (c0 : 0 ≤ c) (c1 : c < A 0 15) (v0 : 0 ≤ v) (v1 : v < 4) (hw : A 5 (5 * t) = 1 ∨ v = 0) : ∀ u, 0 ≤ u → u < q_mv A t c v 0 5 → q_gr (q_mv A t c v) u := by
  intro u u0 u1
  have hg := q_gr_v hV u0 u1
  by_cases hu : u = t
  · subst hu
    unfold q_gr
    rw [q_mv_k, q_mv_s.1, q_mv_s.2]
    exact ⟨hg.1, hg.2.1, v0, by omega, hw, c0, c1⟩
  · unfold q_gr
    rw [q_mv_k, (q_mv_o hu).1, (q_mv_o hu).2]
    exact hg
theorem fM_f {w w' : PW} (h : ∀ a k, a < 46 → w'.1 a k = w.1 a k) : fM w w' := h
theorem g_thing {A : AS} (hV : q_V A) {k c v : Int} (k0 : -2147483648 ≤ k) (k1 : k < 2147483648) (c0 : -2147483648 ≤ c) (c1 : c < 2147483648) (v0 : -2147483648 ≤ v) (v1 : v < 2147483648) : q_both A 112 200 [.int (Int32.ofInt k), .int (Int32.ofInt c), .int (Int32.ofInt v)] := by
  have hr := q_rng hV.1
  by_cases hk : 0 ≤ k ∧ k < 4
  · by_cases hc : q_fl A c
    · have hww : (0 ≤ v ∧ v < 4 ∧ (k = 1 ∨ v = 0)) ∨ (k = 1 ∧ ¬ (0 ≤ v ∧ v < 4)) ∨ (¬ k = 1 ∧ ¬ v = 0) := by omega
      rcases hww with ⟨v2, v3, hw⟩ | hw | hw
      · obtain ⟨k2, k3⟩ := hk
        obtain ⟨c2, c3, c4⟩ := id hc
        have hwk : (if k = 1 then (4 : Int) else 1) = 4 ∨ ((if k = 1 then (4 : Int) else 1) = 1 ∧ v = 0) := by
          by_cases h : k = 1
          · left; rw [if_pos h]
          · right; rw [if_neg h]; exact ⟨rfl, hw.resolve_left h⟩
        have hwr : 0 ≤ (if k = 1 then (3 : Int) else 0) ∧ (if k = 1 then (3 : Int) else 0) ≤ 3 ∧ v ≤ (if k = 1 then (3 : Int) else 0) := by
          by_cases h : k = 1
          · rw [if_pos h]; omega
          · rw [if_neg h]; omega
        generalize hw4 : (if k = 1 then (4 : Int) else 1) = n4 at *
        generalize hw3 : (if k = 1 then (3 : Int) else 0) = n3 at *
        by_cases hn : A 0 5 < 3
        · by_cases hR : q_room A k c v (-1)
          · refine ⟨.int (Int32.ofInt (A 0 5)), q_ad A 5 5 k c v 0 0, q_V_ad hV k2 k3 v2 v3 hn hR, fun d w hC => ?_, fun d w hM => ?_, by show A 0 2 ≤ A 0 2 + 1; omega⟩
            · have hC' := hC
              have hrm := m_isRoom (d := d + 9) hV.1 hC (k := k) (c := c) (v := v) (u := -1) k2 k3 c2 c3 v2 v3 (by omega) (by omega)
              rw [bP_t hR] at hrm
              obtain ⟨⟨⟨⟨h511, h512, h513⟩, ⟨hk, hro, hco, hli⟩⟩, ⟨hbe, hah, hbs, hos⟩⟩, hdo, ⟨h010, h011, h09, h11⟩, hpc, ht18, ht21, ht23, ht25, ht27, ht30, ht32, ht34, ht36⟩ := id hC
              refine ⟨q_add w 21 (A 0 5) (Int32.ofInt k) (Int32.ofInt c) (Int32.ofInt v) (Int32.ofInt 0) (Int32.ofInt 0), ?_, ⟨hC.1, hC.2.1, hC.2.2.1, hC.2.2.2.1, ht18, rCt_ad ht21 (by omega) (by omega), ht23, ht25, ht27, ht30, ht32, ht34, ht36⟩, fC_ad (by omega)⟩
              rw [ke_112 kc_0]
              simp (disch := omega) only [m_below, m_isFloor hV.1.1 hC'.1.1, m_waysOf, hw4, bI_t, bI_f, hrm, m_tfull tb_21 ht21.2.1 ht21.1, m_tadd tb_21 ht21.2.1 ht21.1, ev_iload, ev_aload, ev_push, ev_iadd, ev_imul, rx_zeq_t, rx_zeq_f, rx_zne_t, rx_zne_f, ev_getf, ev_call, ev_callv, nr_i, nr_r, nr_l, nr_n, rx_iret, kb_112_0, kb_112_11, kb_112_25, kb_112_39, kb_112_56, kb_112_72, kr_112, kf_20_0, kf_29_0, kf_0_643, kf_0_645, List.getD_cons_zero, List.getD_cons_succ, List.set_cons_zero, List.set_cons_succ, ex_spl, ex_low, Option.toList, List.cons_append, List.nil_append, reduceIte, Int.reduceToNat, Nat.reduceDiv, Nat.reduceMod, Nat.reduceAdd, Nat.reduceMul, z_0, z_1, z_10, z_01, reduceCtorEq, ite_true, ite_false, true_and, and_true, ↓bI_01, ↓bP_01, ↓zret0, ↓zret1, z_add, z_sub, z_mul, up_1, up_2, not_true, not_false_iff, if_true, if_false, bI_T, bI_F, bP_T, bP_F, or_true, true_or, or_false, false_or, Int.reduceNeg, Int.reduceAdd, Int.reduceSub, Int.reduceMul, Int.reduceEq, Int.reduceLT, Int.reduceLE, Int.natCast_add, Int.cast_ofNat_Int]
            · obtain ⟨hM, hMk⟩ := hM
              have hM2 := rN_ad (k := k) (c := c) (v := v) hM (by omega)
              have g13 := hM.1.2.2.2.2.2.1
              have hrm := r_haveRoom (d := d + 9) (A := q_ad A 5 5 k c v 0 0) (show q_vh (q_ad A 5 5 k c v 0 0) from hV.1.1) hM2 (by rw [q_ad_n]; omega) (by rw [q_ad_n]; omega) (q_gr_ad hV.1 k2 k3 c2 c3 v2 v3 hw)
              rw [bP_t ((q_hr_ad hV.1 hV.2.1 hw).2 hR)] at hrm
              have e1 : A 0 5 + 1 - 1 = A 0 5 := by omega
              refine ⟨_, ?_, ⟨hM2, hMk⟩, fM_u (fM_u (fM_u (fM_u (fM_r w) (by omega)) (by omega)) (by omega)) (by omega)⟩
              rw [ke_200 kc_46]
              simp (disch := omega) only [r_within, bP_t, bP_f, r_isFloor hV.1.1 hM, bI_t, bI_f, m_isWay, hw3, g13, r_put, up_n, up_e, hrm, e1, ev_iload, ev_aload, ev_push, ev_iadd, ev_isub, ev_dup_r, ev_dup_i, ev_goto, ev_jsr, rx_ine_t, rx_ine_f, rx_zeq_t, rx_zeq_f, rx_zne_t, rx_zne_f, ev_getf, ev_putf, ev_putl, ev_call, ev_callv, nr_i, nr_r, nr_l, nr_n, rx_iret, kb_200_0, kb_200_12, kb_200_23, kb_200_34, kb_200_57, kb_200_59, kb_200_60, kb_200_101, kr_200, kf_46_717, kk_46_717, List.getD_cons_zero, List.getD_cons_succ, List.set_cons_zero, List.set_cons_succ, ex_spl, ex_low, Option.toList, List.cons_append, List.nil_append, reduceIte, Int.reduceToNat, Nat.reduceDiv, Nat.reduceMod, Nat.reduceAdd, Nat.reduceMul, z_0, z_1, z_10, z_01, reduceCtorEq, ite_true, ite_false, true_and, and_true, ↓bI_01, ↓bP_01, ↓zret0, ↓zret1, z_add, z_sub, z_mul, up_2, not_true, not_false_iff, if_true, if_false, bI_T, bI_F, bP_T, bP_F, or_true, true_or, or_false, false_or, Int.reduceNeg, Int.reduceAdd, Int.reduceSub, Int.reduceMul, Int.reduceEq, Int.reduceLT, Int.reduceLE, Int.natCast_add, Int.cast_ofNat_Int]
          · refine ⟨.int (Int32.ofInt (-103)), A, hV, fun d w hC => ?_, fun d w hM => ?_, by show A 0 2 ≤ A 0 2 + 1; omega⟩
            · have hrm := m_isRoom (d := d + 9) hV.1 hC (k := k) (c := c) (v := v) (u := -1) k2 k3 c2 c3 v2 v3 (by omega) (by omega)
              rw [bP_f hR] at hrm
              refine ⟨w, ?_, hC, fC_r w⟩
              rw [ke_112 kc_0]
              simp (disch := omega) only [m_below, m_isFloor hV.1.1 hC.1.1, m_waysOf, hw4, bI_t, bI_f, hrm, ev_iload, ev_aload, ev_push, ev_iadd, ev_imul, rx_zeq_t, rx_zeq_f, rx_zne_t, rx_zne_f, ev_getf, ev_call, ev_callv, nr_i, nr_r, nr_l, nr_n, rx_iret, kb_112_0, kb_112_11, kb_112_25, kb_112_39, kb_112_56, kb_112_72, kr_112, kf_20_0, kf_29_0, kf_0_643, kf_0_645, List.getD_cons_zero, List.getD_cons_succ, List.set_cons_zero, List.set_cons_succ, ex_spl, ex_low, Option.toList, List.cons_append, List.nil_append, reduceIte, Int.reduceToNat, Nat.reduceDiv, Nat.reduceMod, Nat.reduceAdd, Nat.reduceMul, z_0, z_1, z_10, z_01, reduceCtorEq, ite_true, ite_false, true_and, and_true, ↓bI_01, ↓bP_01, ↓zret0, ↓zret1, z_add, z_sub, z_mul, up_1, up_2, not_true, not_false_iff, if_true, if_false, bI_T, bI_F, bP_T, bP_F, or_true, true_or, or_false, false_or, Int.reduceNeg, Int.reduceAdd, Int.reduceSub, Int.reduceMul, Int.reduceEq, Int.reduceLT, Int.reduceLE, Int.natCast_add, Int.cast_ofNat_Int]
            · obtain ⟨hM, hMk⟩ := hM
              have hM2 := rN_ad (k := k) (c := c) (v := v) hM (by omega)
              have g13 := hM.1.2.2.2.2.2.1
              have hrm := r_haveRoom (d := d + 9) (A := q_ad A 5 5 k c v 0 0) (show q_vh (q_ad A 5 5 k c v 0 0) from hV.1.1) hM2 (by rw [q_ad_n]; omega) (by rw [q_ad_n]; omega) (q_gr_ad hV.1 k2 k3 c2 c3 v2 v3 hw)
              rw [bP_f (fun h => hR ((q_hr_ad hV.1 hV.2.1 hw).1 h))] at hrm
              have e1 : A 0 5 + 1 - 1 = A 0 5 := by omega
              refine ⟨ex_up (ex_up (ex_up (ex_up (ex_up w 55 (A 0 5).toNat (Int32.ofInt k)) 56 (A 0 5).toNat (Int32.ofInt c)) 57 (A 0 5).toNat (Int32.ofInt v)) 46 13 (Int32.ofInt (A 0 5 + 1))) 46 13 (Int32.ofInt (A 0 5)), ?_, ⟨?_, hMk⟩, fM_u (fM_u (fM_u (fM_u (fM_u (fM_r w) (by omega)) (by omega)) (by omega)) (by omega)) (by omega)⟩
              · rw [ke_200 kc_46]
                simp (disch := omega) only [r_within, bP_t, bP_f, r_isFloor hV.1.1 hM, bI_t, bI_f, m_isWay, hw3, g13, r_put, up_n, up_e, hrm, e1, ev_iload, ev_aload, ev_push, ev_iadd, ev_isub, ev_dup_r, ev_dup_i, ev_goto, ev_jsr, rx_ine_t, rx_ine_f, rx_zeq_t, rx_zeq_f, rx_zne_t, rx_zne_f, ev_getf, ev_putf, ev_putl, ev_call, ev_callv, nr_i, nr_r, nr_l, nr_n, rx_iret, kb_200_0, kb_200_12, kb_200_23, kb_200_34, kb_200_57, kb_200_59, kb_200_60, kb_200_101, kr_200, kf_46_717, kk_46_717, List.getD_cons_zero, List.getD_cons_succ, List.set_cons_zero, List.set_cons_succ, ex_spl, ex_low, Option.toList, List.cons_append, List.nil_append, reduceIte, Int.reduceToNat, Nat.reduceDiv, Nat.reduceMod, Nat.reduceAdd, Nat.reduceMul, z_0, z_1, z_10, z_01, reduceCtorEq, ite_true, ite_false, true_and, and_true, ↓bI_01, ↓bP_01, ↓zret0, ↓zret1, z_add, z_sub, z_mul, up_2, not_true, not_false_iff, if_true, if_false, bI_T, bI_F, bP_T, bP_F, or_true, true_or, or_false, false_or, Int.reduceNeg, Int.reduceAdd, Int.reduceSub, Int.reduceMul, Int.reduceEq, Int.reduceLT, Int.reduceLE, Int.natCast_add, Int.cast_ofNat_Int]
              · obtain ⟨⟨g0, g1, g2, g5, g11, g13, g17, g20, g23, g24, g49⟩, ⟨gk, gl⟩, ⟨gs, ga, gf, gt, gn⟩, ⟨gtk, gtc, gtw⟩, ge, ⟨gba, gbh⟩, ⟨gjc, gjs⟩, gp⟩ := id hM
                refine ⟨⟨g0, g1, g2, g5, g11, up_s, g17, g20, g23, g24, g49⟩, ⟨gk, gl⟩, ⟨gs, ga, gf, gt, gn⟩, ⟨fun l l0 l1 => ?_, fun l l0 l1 => ?_, fun l l0 l1 => ?_⟩, ge, ⟨gba, gbh⟩, ⟨gjc, gjs⟩, gp⟩
                · rw [up_n (by omega), up_n (by omega), up_n (by omega), up_n (by omega), up_n (by omega)]; exact gtk l l0 l1
                · rw [up_n (by omega), up_n (by omega), up_n (by omega), up_n (by omega), up_n (by omega)]; exact gtc l l0 l1
                · rw [up_n (by omega), up_n (by omega), up_n (by omega), up_n (by omega), up_n (by omega)]; exact gtw l l0 l1
        · by_cases hR : q_room A k c v (-1)
          · refine q_deny hV (Int32.ofInt (-104)) (fun d w hC => ?_) (fun d w hM => ?_)
            · have hrm := m_isRoom (d := d + 9) hV.1 hC (k := k) (c := c) (v := v) (u := -1) k2 k3 c2 c3 v2 v3 (by omega) (by omega)
              rw [bP_t hR] at hrm
              obtain ⟨-, -, -, -, -, ht21, -⟩ := id hC
              rw [ke_112 kc_0]
              simp (disch := omega) only [m_below, m_isFloor hV.1.1 hC.1.1, m_waysOf, hw4, bI_t, bI_f, hrm, m_tfull tb_21 ht21.2.1 ht21.1, ev_iload, ev_aload, ev_push, ev_iadd, ev_imul, rx_zeq_t, rx_zeq_f, rx_zne_t, rx_zne_f, ev_getf, ev_call, ev_callv, nr_i, nr_r, nr_l, nr_n, rx_iret, kb_112_0, kb_112_11, kb_112_25, kb_112_39, kb_112_56, kb_112_72, kr_112, kf_20_0, kf_29_0, kf_0_643, kf_0_645, List.getD_cons_zero, List.getD_cons_succ, List.set_cons_zero, List.set_cons_succ, ex_spl, ex_low, Option.toList, List.cons_append, List.nil_append, reduceIte, Int.reduceToNat, Nat.reduceDiv, Nat.reduceMod, Nat.reduceAdd, Nat.reduceMul, z_0, z_1, z_10, z_01, reduceCtorEq, ite_true, ite_false, true_and, and_true, ↓bI_01, ↓bP_01, ↓zret0, ↓zret1, z_add, z_sub, z_mul, up_1, up_2, not_true, not_false_iff, if_true, if_false, bI_T, bI_F, bP_T, bP_F, or_true, true_or, or_false, false_or, Int.reduceNeg, Int.reduceAdd, Int.reduceSub, Int.reduceMul, Int.reduceEq, Int.reduceLT, Int.reduceLE, Int.natCast_add, Int.cast_ofNat_Int]
            · have hrm := r_roomBeside (d := d + 9) hV.1 hM k2 k3 c2 c3 v2 v3 hw
              rw [bP_t hR] at hrm
              have g13 := hM.1.2.2.2.2.2.1
              rw [ke_200 kc_46]
              simp (disch := omega) only [r_within, bP_t, bP_f, r_isFloor hV.1.1 hM, bI_t, bI_f, m_isWay, hw3, g13, hrm, ev_iload, ev_aload, ev_push, ev_iadd, ev_isub, ev_dup_r, ev_dup_i, ev_goto, ev_jsr, rx_ine_t, rx_ine_f, rx_zeq_t, rx_zeq_f, rx_zne_t, rx_zne_f, ev_getf, ev_putf, ev_putl, ev_call, ev_callv, nr_i, nr_r, nr_l, nr_n, rx_iret, kb_200_0, kb_200_12, kb_200_23, kb_200_34, kb_200_57, kb_200_59, kb_200_60, kb_200_101, kr_200, kf_46_717, kk_46_717, List.getD_cons_zero, List.getD_cons_succ, List.set_cons_zero, List.set_cons_succ, ex_spl, ex_low, Option.toList, List.cons_append, List.nil_append, reduceIte, Int.reduceToNat, Nat.reduceDiv, Nat.reduceMod, Nat.reduceAdd, Nat.reduceMul, z_0, z_1, z_10, z_01, reduceCtorEq, ite_true, ite_false, true_and, and_true, ↓bI_01, ↓bP_01, ↓zret0, ↓zret1, z_add, z_sub, z_mul, up_1, up_2, not_true, not_false_iff, if_true, if_false, bI_T, bI_F, bP_T, bP_F, or_true, true_or, or_false, false_or, Int.reduceNeg, Int.reduceAdd, Int.reduceSub, Int.reduceMul, Int.reduceEq, Int.reduceLT, Int.reduceLE, Int.natCast_add, Int.cast_ofNat_Int]
          · refine q_deny hV (Int32.ofInt (-103)) (fun d w hC => ?_) (fun d w hM => ?_)
            · have hrm := m_isRoom (d := d + 9) hV.1 hC (k := k) (c := c) (v := v) (u := -1) k2 k3 c2 c3 v2 v3 (by omega) (by omega)
              rw [bP_f hR] at hrm
              rw [ke_112 kc_0]
              simp (disch := omega) only [m_below, m_isFloor hV.1.1 hC.1.1, m_waysOf, hw4, bI_t, bI_f, hrm, ev_iload, ev_aload, ev_push, ev_iadd, ev_imul, rx_zeq_t, rx_zeq_f, rx_zne_t, rx_zne_f, ev_getf, ev_call, ev_callv, nr_i, nr_r, nr_l, nr_n, rx_iret, kb_112_0, kb_112_11, kb_112_25, kb_112_39, kb_112_56, kb_112_72, kr_112, kf_20_0, kf_29_0, kf_0_643, kf_0_645, List.getD_cons_zero, List.getD_cons_succ, List.set_cons_zero, List.set_cons_succ, ex_spl, ex_low, Option.toList, List.cons_append, List.nil_append, reduceIte, Int.reduceToNat, Nat.reduceDiv, Nat.reduceMod, Nat.reduceAdd, Nat.reduceMul, z_0, z_1, z_10, z_01, reduceCtorEq, ite_true, ite_false, true_and, and_true, ↓bI_01, ↓bP_01, ↓zret0, ↓zret1, z_add, z_sub, z_mul, up_1, up_2, not_true, not_false_iff, if_true, if_false, bI_T, bI_F, bP_T, bP_F, or_true, true_or, or_false, false_or, Int.reduceNeg, Int.reduceAdd, Int.reduceSub, Int.reduceMul, Int.reduceEq, Int.reduceLT, Int.reduceLE, Int.natCast_add, Int.cast_ofNat_Int]
            · have hrm := r_roomBeside (d := d + 9) hV.1 hM k2 k3 c2 c3 v2 v3 hw
              rw [bP_f hR] at hrm
              have g13 := hM.1.2.2.2.2.2.1
              rw [ke_200 kc_46]
              simp (disch := omega) only [r_within, bP_t, bP_f, r_isFloor hV.1.1 hM, bI_t, bI_f, m_isWay, hw3, g13, hrm, ev_iload, ev_aload, ev_push, ev_iadd, ev_isub, ev_dup_r, ev_dup_i, ev_goto, ev_jsr, rx_ine_t, rx_ine_f, rx_zeq_t, rx_zeq_f, rx_zne_t, rx_zne_f, ev_getf, ev_putf, ev_putl, ev_call, ev_callv, nr_i, nr_r, nr_l, nr_n, rx_iret, kb_200_0, kb_200_12, kb_200_23, kb_200_34, kb_200_57, kb_200_59, kb_200_60, kb_200_101, kr_200, kf_46_717, kk_46_717, List.getD_cons_zero, List.getD_cons_succ, List.set_cons_zero, List.set_cons_succ, ex_spl, ex_low, Option.toList, List.cons_append, List.nil_append, reduceIte, Int.reduceToNat, Nat.reduceDiv, Nat.reduceMod, Nat.reduceAdd, Nat.reduceMul, z_0, z_1, z_10, z_01, reduceCtorEq, ite_true, ite_false, true_and, and_true, ↓bI_01, ↓bP_01, ↓zret0, ↓zret1, z_add, z_sub, z_mul, up_1, up_2, not_true, not_false_iff, if_true, if_false, bI_T, bI_F, bP_T, bP_F, or_true, true_or, or_false, false_or, Int.reduceNeg, Int.reduceAdd, Int.reduceSub, Int.reduceMul, Int.reduceEq, Int.reduceLT, Int.reduceLE, Int.natCast_add, Int.cast_ofNat_Int]
      · have hw4 : (if k = 1 then (4 : Int) else 1) = 4 := if_pos hw.1
        have hw3 : (if k = 1 then (3 : Int) else 0) = 3 := if_pos hw.1
        refine q_deny hV (Int32.ofInt (-102)) (fun d w hC => ?_) (fun d w hM => ?_)
        · rw [ke_112 kc_0]
          simp (disch := omega) only [m_below, m_isFloor hV.1.1 hC.1.1, m_waysOf, hw4, bI_t, bI_f, ev_iload, ev_aload, ev_push, ev_iadd, ev_imul, rx_zeq_t, rx_zeq_f, rx_zne_t, rx_zne_f, ev_getf, ev_call, ev_callv, nr_i, nr_r, nr_l, nr_n, rx_iret, kb_112_0, kb_112_11, kb_112_25, kb_112_39, kb_112_56, kb_112_72, kr_112, kf_20_0, kf_29_0, kf_0_643, kf_0_645, List.getD_cons_zero, List.getD_cons_succ, List.set_cons_zero, List.set_cons_succ, ex_spl, ex_low, Option.toList, List.cons_append, List.nil_append, reduceIte, Int.reduceToNat, Nat.reduceDiv, Nat.reduceMod, Nat.reduceAdd, Nat.reduceMul, z_0, z_1, z_10, z_01, reduceCtorEq, ite_true, ite_false, true_and, and_true, ↓bI_01, ↓bP_01, ↓zret0, ↓zret1, z_add, z_sub, z_mul, up_1, up_2, not_true, not_false_iff, if_true, if_false, bI_T, bI_F, bP_T, bP_F, or_true, true_or, or_false, false_or, Int.reduceNeg, Int.reduceAdd, Int.reduceSub, Int.reduceMul, Int.reduceEq, Int.reduceLT, Int.reduceLE, Int.natCast_add, Int.cast_ofNat_Int]
        · rw [ke_200 kc_46]
          simp (disch := omega) only [r_within, bP_t, bP_f, r_isFloor hV.1.1 hM, bI_t, bI_f, m_isWay, hw3, ev_iload, ev_aload, ev_push, ev_iadd, ev_isub, ev_dup_r, ev_dup_i, ev_goto, ev_jsr, rx_ine_t, rx_ine_f, rx_zeq_t, rx_zeq_f, rx_zne_t, rx_zne_f, ev_getf, ev_putf, ev_putl, ev_call, ev_callv, nr_i, nr_r, nr_l, nr_n, rx_iret, kb_200_0, kb_200_12, kb_200_23, kb_200_34, kb_200_57, kb_200_59, kb_200_60, kb_200_101, kr_200, kf_46_717, kk_46_717, List.getD_cons_zero, List.getD_cons_succ, List.set_cons_zero, List.set_cons_succ, ex_spl, ex_low, Option.toList, List.cons_append, List.nil_append, reduceIte, Int.reduceToNat, Nat.reduceDiv, Nat.reduceMod, Nat.reduceAdd, Nat.reduceMul, z_0, z_1, z_10, z_01, reduceCtorEq, ite_true, ite_false, true_and, and_true, ↓bI_01, ↓bP_01, ↓zret0, ↓zret1, z_add, z_sub, z_mul, up_1, up_2, not_true, not_false_iff, if_true, if_false, bI_T, bI_F, bP_T, bP_F, or_true, true_or, or_false, false_or, Int.reduceNeg, Int.reduceAdd, Int.reduceSub, Int.reduceMul, Int.reduceEq, Int.reduceLT, Int.reduceLE, Int.natCast_add, Int.cast_ofNat_Int]
      · have hw4 : (if k = 1 then (4 : Int) else 1) = 1 := if_neg hw.1
        have hw3 : (if k = 1 then (3 : Int) else 0) = 0 := if_neg hw.1
        refine q_deny hV (Int32.ofInt (-102)) (fun d w hC => ?_) (fun d w hM => ?_)
        · rw [ke_112 kc_0]
          simp (disch := omega) only [m_below, m_isFloor hV.1.1 hC.1.1, m_waysOf, hw4, bI_t, bI_f, ev_iload, ev_aload, ev_push, ev_iadd, ev_imul, rx_zeq_t, rx_zeq_f, rx_zne_t, rx_zne_f, ev_getf, ev_call, ev_callv, nr_i, nr_r, nr_l, nr_n, rx_iret, kb_112_0, kb_112_11, kb_112_25, kb_112_39, kb_112_56, kb_112_72, kr_112, kf_20_0, kf_29_0, kf_0_643, kf_0_645, List.getD_cons_zero, List.getD_cons_succ, List.set_cons_zero, List.set_cons_succ, ex_spl, ex_low, Option.toList, List.cons_append, List.nil_append, reduceIte, Int.reduceToNat, Nat.reduceDiv, Nat.reduceMod, Nat.reduceAdd, Nat.reduceMul, z_0, z_1, z_10, z_01, reduceCtorEq, ite_true, ite_false, true_and, and_true, ↓bI_01, ↓bP_01, ↓zret0, ↓zret1, z_add, z_sub, z_mul, up_1, up_2, not_true, not_false_iff, if_true, if_false, bI_T, bI_F, bP_T, bP_F, or_true, true_or, or_false, false_or, Int.reduceNeg, Int.reduceAdd, Int.reduceSub, Int.reduceMul, Int.reduceEq, Int.reduceLT, Int.reduceLE, Int.natCast_add, Int.cast_ofNat_Int]
        · rw [ke_200 kc_46]
          simp (disch := omega) only [r_within, bP_t, bP_f, r_isFloor hV.1.1 hM, bI_t, bI_f, m_isWay, hw3, ev_iload, ev_aload, ev_push, ev_iadd, ev_isub, ev_dup_r, ev_dup_i, ev_goto, ev_jsr, rx_ine_t, rx_ine_f, rx_zeq_t, rx_zeq_f, rx_zne_t, rx_zne_f, ev_getf, ev_putf, ev_putl, ev_call, ev_callv, nr_i, nr_r, nr_l, nr_n, rx_iret, kb_200_0, kb_200_12, kb_200_23, kb_200_34, kb_200_57, kb_200_59, kb_200_60, kb_200_101, kr_200, kf_46_717, kk_46_717, List.getD_cons_zero, List.getD_cons_succ, List.set_cons_zero, List.set_cons_succ, ex_spl, ex_low, Option.toList, List.cons_append, List.nil_append, reduceIte, Int.reduceToNat, Nat.reduceDiv, Nat.reduceMod, Nat.reduceAdd, Nat.reduceMul, z_0, z_1, z_10, z_01, reduceCtorEq, ite_true, ite_false, true_and, and_true, ↓bI_01, ↓bP_01, ↓zret0, ↓zret1, z_add, z_sub, z_mul, up_1, up_2, not_true, not_false_iff, if_true, if_false, bI_T, bI_F, bP_T, bP_F, or_true, true_or, or_false, false_or, Int.reduceNeg, Int.reduceAdd, Int.reduceSub, Int.reduceMul, Int.reduceEq, Int.reduceLT, Int.reduceLE, Int.natCast_add, Int.cast_ofNat_Int]
    · refine q_deny hV (Int32.ofInt (-101)) (fun d w hC => ?_) (fun d w hM => ?_)
      · rw [ke_112 kc_0]
        simp (disch := omega) only [m_below, m_isFloor hV.1.1 hC.1.1, bI_t, bI_f, ev_iload, ev_aload, ev_push, ev_iadd, ev_imul, rx_zeq_t, rx_zeq_f, rx_zne_t, rx_zne_f, ev_getf, ev_call, ev_callv, nr_i, nr_r, nr_l, nr_n, rx_iret, kb_112_0, kb_112_11, kb_112_25, kb_112_39, kb_112_56, kb_112_72, kr_112, kf_20_0, kf_29_0, kf_0_643, kf_0_645, List.getD_cons_zero, List.getD_cons_succ, List.set_cons_zero, List.set_cons_succ, ex_spl, ex_low, Option.toList, List.cons_append, List.nil_append, reduceIte, Int.reduceToNat, Nat.reduceDiv, Nat.reduceMod, Nat.reduceAdd, Nat.reduceMul, z_0, z_1, z_10, z_01, reduceCtorEq, ite_true, ite_false, true_and, and_true, ↓bI_01, ↓bP_01, ↓zret0, ↓zret1, z_add, z_sub, z_mul, up_1, up_2, not_true, not_false_iff, if_true, if_false, bI_T, bI_F, bP_T, bP_F, or_true, true_or, or_false, false_or, Int.reduceNeg, Int.reduceAdd, Int.reduceSub, Int.reduceMul, Int.reduceEq, Int.reduceLT, Int.reduceLE, Int.natCast_add, Int.cast_ofNat_Int]
      · rw [ke_200 kc_46]
        simp (disch := omega) only [r_within, bP_t, bP_f, r_isFloor hV.1.1 hM, bI_t, bI_f, ev_iload, ev_aload, ev_push, ev_iadd, ev_isub, ev_dup_r, ev_dup_i, ev_goto, ev_jsr, rx_ine_t, rx_ine_f, rx_zeq_t, rx_zeq_f, rx_zne_t, rx_zne_f, ev_getf, ev_putf, ev_putl, ev_call, ev_callv, nr_i, nr_r, nr_l, nr_n, rx_iret, kb_200_0, kb_200_12, kb_200_23, kb_200_34, kb_200_57, kb_200_59, kb_200_60, kb_200_101, kr_200, kf_46_717, kk_46_717, List.getD_cons_zero, List.getD_cons_succ, List.set_cons_zero, List.set_cons_succ, ex_spl, ex_low, Option.toList, List.cons_append, List.nil_append, reduceIte, Int.reduceToNat, Nat.reduceDiv, Nat.reduceMod, Nat.reduceAdd, Nat.reduceMul, z_0, z_1, z_10, z_01, reduceCtorEq, ite_true, ite_false, true_and, and_true, ↓bI_01, ↓bP_01, ↓zret0, ↓zret1, z_add, z_sub, z_mul, up_1, up_2, not_true, not_false_iff, if_true, if_false, bI_T, bI_F, bP_T, bP_F, or_true, true_or, or_false, false_or, Int.reduceNeg, Int.reduceAdd, Int.reduceSub, Int.reduceMul, Int.reduceEq, Int.reduceLT, Int.reduceLE, Int.natCast_add, Int.cast_ofNat_Int]
  · refine q_deny hV (Int32.ofInt (-102)) (fun d w hC => ?_) (fun d w hM => ?_)
    · rw [ke_112 kc_0]
      simp (disch := omega) only [m_below, bI_t, bI_f, ev_iload, ev_aload, ev_push, ev_iadd, ev_imul, rx_zeq_t, rx_zeq_f, rx_zne_t, rx_zne_f, ev_getf, ev_call, ev_callv, nr_i, nr_r, nr_l, nr_n, rx_iret, kb_112_0, kb_112_11, kb_112_25, kb_112_39, kb_112_56, kb_112_72, kr_112, kf_20_0, kf_29_0, kf_0_643, kf_0_645, List.getD_cons_zero, List.getD_cons_succ, List.set_cons_zero, List.set_cons_succ, ex_spl, ex_low, Option.toList, List.cons_append, List.nil_append, reduceIte, Int.reduceToNat, Nat.reduceDiv, Nat.reduceMod, Nat.reduceAdd, Nat.reduceMul, z_0, z_1, z_10, z_01, reduceCtorEq, ite_true, ite_false, true_and, and_true, ↓bI_01, ↓bP_01, ↓zret0, ↓zret1, z_add, z_sub, z_mul, up_1, up_2, not_true, not_false_iff, if_true, if_false, bI_T, bI_F, bP_T, bP_F, or_true, true_or, or_false, false_or, Int.reduceNeg, Int.reduceAdd, Int.reduceSub, Int.reduceMul, Int.reduceEq, Int.reduceLT, Int.reduceLE, Int.natCast_add, Int.cast_ofNat_Int]
    · rw [ke_200 kc_46]
      simp (disch := omega) only [r_within, bP_t, bP_f, ev_iload, ev_aload, ev_push, ev_iadd, ev_isub, ev_dup_r, ev_dup_i, ev_goto, ev_jsr, rx_ine_t, rx_ine_f, rx_zeq_t, rx_zeq_f, rx_zne_t, rx_zne_f, ev_getf, ev_putf, ev_putl, ev_call, ev_callv, nr_i, nr_r, nr_l, nr_n, rx_iret, kb_200_0, kb_200_12, kb_200_23, kb_200_34, kb_200_57, kb_200_59, kb_200_60, kb_200_101, kr_200, kf_46_717, kk_46_717, List.getD_cons_zero, List.getD_cons_succ, List.set_cons_zero, List.set_cons_succ, ex_spl, ex_low, Option.toList, List.cons_append, List.nil_append, reduceIte, Int.reduceToNat, Nat.reduceDiv, Nat.reduceMod, Nat.reduceAdd, Nat.reduceMul, z_0, z_1, z_10, z_01, reduceCtorEq, ite_true, ite_false, true_and, and_true, ↓bI_01, ↓bP_01, ↓zret0, ↓zret1, z_add, z_sub, z_mul, up_1, up_2, not_true, not_false_iff, if_true, if_false, bI_T, bI_F, bP_T, bP_F, or_true, true_or, or_false, false_or, Int.reduceNeg, Int.reduceAdd, Int.reduceSub, Int.reduceMul, Int.reduceEq, Int.reduceLT, Int.reduceLE, Int.natCast_add, Int.cast_ofNat_Int]
