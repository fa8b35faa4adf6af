/-! KEPT, as the words have it; the class's kept() -/
def q_kat (A : AS) (a h c v : Int) : Prop := ¬ A 1 c = 1 ∧ q_ta A c = -1 ∧ (¬ q_nx A c v = -1 ∧ ¬ q_ta A (q_nx A c v) = -1 ∧ (A 5 (5 * q_ta A (q_nx A c v)) = 3 ∨ (a = 1 ∧ A 5 (5 * q_ta A (q_nx A c v)) = 2))) ∧ q_br A 0 a h 0 c v = Int32.ofInt 0
def q_kany (A : AS) (a h c v : Int) : Prop := ¬ A 1 c = 1 ∧ q_ta A c = -1 ∧ q_br A 0 a h (q_po a) c v = Int32.ofInt 0
def q_kbed (A : AS) (h t : Int) : Prop := A 5 (5 * t) = 1 ∧ q_br A 0 0 h 1 (A 5 (5 * t + 1)) (A 5 (5 * t + 2)) = Int32.ofInt 0
def q_kp (A : AS) (h : Int) : Prop :=
  if A 6 (5 * h) = 0 then ∃ t, 0 ≤ t ∧ t < A 0 5 ∧ q_kbed A (A 6 (5 * h + 1)) t
  else if A 6 (5 * h) < 3 then ∃ c v, 0 ≤ c ∧ c < A 0 15 ∧ 0 ≤ v ∧ v < 4 ∧ q_kat A (A 6 (5 * h)) (A 6 (5 * h + 1)) c v
  else ∃ c v, 0 ≤ c ∧ c < A 0 15 ∧ 0 ≤ v ∧ v < 4 ∧ q_kany A (A 6 (5 * h)) (A 6 (5 * h + 1)) c v
theorem q_ta_one {A : AS} (hV : q_v0 A) (hd : q_vd A 5 5) {t e : Int} (t0 : 0 ≤ t) (t1 : t < A 0 5) (ht : q_at A t e) : q_ta A e = t := by
  rcases q_ta_r (c := e) hV with h | ⟨h0, h1, h2⟩
  · exact absurd ht ((q_ta_n hV).1 h t t0 t1)
  · generalize q_ta A e = u at *
    refine Classical.byContradiction fun hne => ?_
    have key : ∀ x y, 0 ≤ x → x < A 0 5 → 0 ≤ y → y < x → q_at A x e → q_at A y e → False := by
      intro x y x0 x1 y0 y1 hx hy
      obtain ⟨a, b, c, d⟩ := q_ap_e.1 (hd x y x0 x1 y0 y1)
      unfold q_at at hx hy
      omega
    by_cases hlt : t < u
    · exact key u t h0 h1 t0 hlt h2 ht
    · exact key t u t0 t1 h0 (by omega) ht h2
theorem q_free {A : AS} (hV : q_v0 A) {m : Int32} (hm : q_tkm A (-1) (-1) m) {x : Int} (x0 : 0 ≤ x) (x1 : x < A 0 15) : ¬ q_bt m x ↔ q_ta A x = -1 := by
  have hr := q_rng hV
  rw [q_ta_n hV, hm x x0 (by omega)]
  constructor
  · intro h u u0 u1 hu
    exact h ⟨u, u0, u1, by omega, by omega, (q_at_b hV.1 hV.2.2.2.1 u0 u1 x0 (by omega)).2 hu⟩
  · rintro h ⟨t, t0, t1, -, -, t4⟩
    exact h t t0 t1 ((q_at_b hV.1 hV.2.2.2.1 t0 t1 x0 (by omega)).1 t4)
theorem q_kn_kp {A : AS} (hV : q_v0 A) (hd : q_vd A 5 5) {m : Int32} (hm : q_tkm A (-1) (-1) m) {h : Int} (h0 : 0 ≤ h) (h1 : h < A 0 6) : q_kn A h m ↔ q_kp A h := by
  have hr := q_rng hV
  have hb := hV.2.2.2.2.2.1.2.2 h h0 h1
  have hT := hV.2.2.2.1.2.2
  unfold q_kn q_kp
  generalize A 6 (5 * h) = a at *
  generalize A 6 (5 * h + 1) = hh at *
  by_cases h3 : 3 ≤ a
  · rw [if_pos h3, if_neg (by omega), if_neg (by omega)]
    constructor
    · rintro ⟨x, x0, x1, ⟨c, v, c0, c1, v0, v1, hop, hbr, hif⟩, hnb⟩
      rw [if_pos h3] at hif
      obtain ⟨-, rfl⟩ := hif
      exact ⟨x, v, c0, c1, v0, v1, hop.2.2, (q_free hV hm c0 c1).1 hnb, hbr⟩
    · rintro ⟨c, v, c0, c1, v0, v1, k1, k2, k3⟩
      exact ⟨c, c0, by omega, ⟨c, v, c0, c1, v0, v1, ⟨c0, c1, k1⟩, k3, by rw [if_pos h3]; exact ⟨rfl, rfl⟩⟩, (q_free hV hm c0 c1).2 k2⟩
  · rw [if_neg h3]
    by_cases ha : a = 0
    · rw [if_pos ha]
      subst ha
      constructor
      · rintro ⟨t, t0, t1, k1, k2⟩
        rw [if_pos rfl] at k2
        obtain ⟨c, v, c0, c1, v0, v1, hop, hbr, hif⟩ := k2
        rw [if_neg h3, if_pos rfl] at hif
        obtain ⟨-, e1, e2⟩ := hif
        refine ⟨t, t0, t1, by omega, ?_⟩
        rw [e1, e2]; exact hbr
      · rintro ⟨t, t0, t1, k1, k2⟩
        obtain ⟨f1, f2, f3, f4, f5, f6, f7⟩ := hT t t0 t1
        refine ⟨t, t0, t1, by omega, ?_⟩
        rw [if_pos rfl]
        refine ⟨A 5 (5 * t + 1), A 5 (5 * t + 2), f6.1, f6.2.1, f3, by omega, ⟨f6.1, f6.2.1, by have := f6.2.2; omega⟩, k2, ?_⟩
        rw [if_neg h3, if_pos rfl]
        rw [k1] at f7
        exact ⟨fun hs => (q_sp0 hV.1).1 hs ⟨f6, f7, Or.inl rfl⟩, rfl, rfl⟩
    · rw [if_neg ha, if_pos (by omega)]
      have hpo : q_po a = 0 := by unfold q_po; rw [if_neg ha, if_neg (by omega)]
      constructor
      · rintro ⟨t, t0, t1, k1, k2⟩
        rw [if_neg ha] at k2
        obtain ⟨x, x0, x1, ⟨c, v, c0, c1, v0, v1, hop, hbr, hif⟩, hnb⟩ := k2
        rw [if_neg h3, if_neg ha] at hif
        obtain ⟨e1, rfl⟩ := hif
        rw [hpo] at hbr
        obtain ⟨f1, f2, f3, f4, f5, f6, f7⟩ := hT t t0 t1
        have et : q_ta A (q_nx A x v) = t := q_ta_one hV hd t0 t1 (Or.inl e1)
        refine ⟨x, v, c0, c1, v0, v1, hop.2.2, (q_free hV hm c0 c1).1 hnb, ⟨?_, ?_, ?_⟩, hbr⟩
        · have := f6.1; omega
        · rw [et]; omega
        · rw [et]; omega
      · rintro ⟨c, v, c0, c1, v0, v1, k1, k2, ⟨k3, k4, k5⟩, k6⟩
        rcases q_ta_r (c := q_nx A c v) hV with q | ⟨q0, q1, q2⟩
        · exact absurd q k4
        · generalize q_ta A (q_nx A c v) = t at *
          have ec : A 5 (5 * t + 1) = q_nx A c v := by
            rcases q2 with q2 | q2
            · exact q2
            · unfold q_la q_ls at q2
              rw [if_neg (by omega)] at q2; exact q2
          refine ⟨t, q0, q1, by omega, ?_⟩
          rw [if_neg ha]
          refine ⟨c, c0, by omega, ⟨c, v, c0, c1, v0, v1, ⟨c0, c1, k1⟩, by rw [hpo]; exact k6, ?_⟩, (q_free hV hm c0 c1).2 k2⟩
          rw [if_neg h3, if_neg ha]
          exact ⟨ec, rfl⟩
theorem q_gr3_v {A : AS} (hV : q_v0 A) : q_gr3 A := by
  have hr := q_rng hV
  exact ⟨by omega, by omega, by omega, fun t t0 t1 => q_gr_v hV t0 t1⟩
theorem m_begin {d : Nat} {A : AS} {w : PW} (hV : q_v0 A) (hC : rC A w) : ∃ w', ex_cal (d + 5) 71 [.ref 41, .ref 5, .ref 20] w = some (none, w') ∧ (∀ o k, ¬ (41 ≤ o ∧ o < 45) → w'.1 o k = w.1 o k) ∧ rMv A w' ∧ w'.1 41 5 = Int32.ofInt 0 := by
  have hr := q_rng hV
  have hsz : w.1 21 2 = Int32.ofInt (A 0 5) := hC.2.2.2.2.2.1.2.1
  have em : (if A 0 5 < 3 then A 0 5 else 3) = A 0 5 := by split <;> omega
  rw [ke_71 kc_41]
  simp (disch := omega) only [m_tsize tb_21, hsz, em, ev_iload, ev_aload, rx_istore, ev_iinc, ev_push, ev_goto, ev_jsr, rx_ige_t, rx_ige_f, ev_getf, ev_putf, ev_putl, ev_iald, ev_callv, rx_max0, rx_min1, nr_i, nr_r, nr_l, nr_n, kA_2, kA_6, kA_7, kA_8, kA_9, kA_10, kA_11, kA_12, kA_13, kA_14, kA_15, kA_16, kA_19, kA_22, kA_24, kA_26, kA_28, kA_31, kA_33, kA_35, kA_37, kA_39, kA_40, kA_42, kA_43, kA_44, kA_45, kS_2, kS_6, kS_7, kS_8, kS_9, kS_10, kS_11, kS_12, kS_13, kS_14, kS_15, kS_16, kS_19, kS_22, kS_24, kS_26, kS_28, kS_31, kS_33, kS_35, kS_37, kS_39, kS_40, kS_42, kS_43, kS_44, kS_45, rx_vret, kb_71_0, kb_71_80, kr_71, kf_20_0, kf_29_0, kf_41_384, kf_41_385, kf_41_386, kf_41_388, kk_41_388, kk_41_389, List.getD_cons_zero, List.getD_cons_succ, List.set_cons_zero, List.set_cons_succ, ex_spl, ex_low, Option.toList, List.cons_append, List.nil_append, reduceIte, Int.reduceToNat, Nat.reduceDiv, Nat.reduceMod, Nat.reduceAdd, Nat.reduceMul, z_0, z_1, z_10, z_01, reduceCtorEq, ite_true, ite_false, true_and, and_true, ↓bI_01, ↓bP_01, ↓zret0, ↓zret1, z_add, z_sub, z_mul, up_1, up_2, not_true, not_false_iff, if_true, if_false, bI_T, bI_F, bP_T, bP_F, or_true, true_or, or_false, false_or, Int.reduceNeg, Int.reduceAdd, Int.reduceSub, Int.reduceMul, Int.reduceEq, Int.reduceLT, Int.reduceLE, Int.natCast_add, Int.cast_ofNat_Int]
  refine ex_loop (Q := fun q => ∃ w', q = some (none, w') ∧ (∀ o k, ¬ (41 ≤ o ∧ o < 45) → w'.1 o k = w.1 o k) ∧ rMv A w' ∧ w'.1 41 5 = Int32.ofInt 0) (fun i s => ∃ w1, s = (ex_blk 71 22, [.ref 41, .ref 5, .ref 20, .int (Int32.ofInt (i : Int))], [], w1) ∧ (∀ o k, ¬ (41 ≤ o ∧ o < 45) → w1.1 o k = w.1 o k) ∧ w1.1 41 4 = Int32.ofInt (A 0 5) ∧ w1.1 41 5 = Int32.ofInt 0 ∧ ∀ t, 0 ≤ t → t < (i : Int) → w1.1 42 t.toNat = Int32.ofInt (A 5 (5 * t)) ∧ w1.1 43 t.toNat = Int32.ofInt (4 * A 5 (5 * t + 1) + A 5 (5 * t + 2)) ∧ w1.1 44 t.toNat = q_sp A (A 5 (5 * t)) (A 5 (5 * t + 1)) (A 5 (5 * t + 2))) (A 0 5).toNat ?_ ?_ ?_
  · exact ⟨_, rfl, fun o k hk => by rw [up_n (by omega), up_n (by omega)], rfl, rfl, fun t t0 t1 => absurd t1 (by omega)⟩
  · rintro i s hi ⟨w1, rfl, o1, s4, s5, h1⟩
    right
    have hC1 : rC A w1 := rC_cg hC fun o k hk => o1 o k (fun hh => hk (by unfold tC; omega))
    obtain ⟨f1, f2, f3, f4, f5, f6, f7⟩ := q_gr_v hV (t := i) (by omega) (by omega)
    have hC2 : ∀ x, rC A (ex_up w1 42 (i : Int).toNat x) := fun x => rC_cg hC1 (sC_u _ _ _ _ (by unfold tC; omega))
    have hC3 : ∀ x y, rC A (ex_up (ex_up w1 42 (i : Int).toNat x) 43 (i : Int).toNat y) := fun x y => rC_cg (hC2 x) (sC_u _ _ _ _ (by unfold tC; omega))
    have ek := fun d => m_dkind (d := d) hV hC1 (t := i) (by omega) (by omega)
    have ep := fun d x => m_dplace (d := d) hV (hC2 x) (t := i) (by omega) (by omega)
    have es := fun d x y => m_spot (d := d) hV.1 (hC3 x y).1 (k := A 5 (5 * i)) (c := A 5 (5 * i + 1)) (v := A 5 (5 * i + 2)) (by omega) (by omega) (by omega) (by omega) (by omega) (by omega)
    refine ⟨(ex_blk 71 22, [.ref 41, .ref 5, .ref 20, .int (Int32.ofInt ((i : Int) + 1))], [], ex_up (ex_up (ex_up w1 42 (i : Int).toNat (Int32.ofInt (A 5 (5 * i)))) 43 (i : Int).toNat (Int32.ofInt (4 * A 5 (5 * i + 1) + A 5 (5 * i + 2)))) 44 (i : Int).toNat (q_sp A (A 5 (5 * i)) (A 5 (5 * i + 1)) (A 5 (5 * i + 2)))), ?_, _, rfl, fun o k hk => ?_, ?_, ?_, fun t t0 t1 => ?_⟩
    · conv => lhs; rw [kb_71_22]
      simp (disch := omega) only [s4, ek, ep, es, up_n, up_e, ev_iload, ev_aload, rx_istore, ev_iinc, ev_push, ev_goto, ev_jsr, rx_ige_t, rx_ige_f, ev_getf, ev_putf, ev_putl, ev_iald, ev_callv, rx_max0, rx_min1, nr_i, nr_r, nr_l, nr_n, kA_2, kA_6, kA_7, kA_8, kA_9, kA_10, kA_11, kA_12, kA_13, kA_14, kA_15, kA_16, kA_19, kA_22, kA_24, kA_26, kA_28, kA_31, kA_33, kA_35, kA_37, kA_39, kA_40, kA_42, kA_43, kA_44, kA_45, kS_2, kS_6, kS_7, kS_8, kS_9, kS_10, kS_11, kS_12, kS_13, kS_14, kS_15, kS_16, kS_19, kS_22, kS_24, kS_26, kS_28, kS_31, kS_33, kS_35, kS_37, kS_39, kS_40, kS_42, kS_43, kS_44, kS_45, rx_vret, kb_71_0, kb_71_80, kr_71, kf_20_0, kf_29_0, kf_41_384, kf_41_385, kf_41_386, kf_41_388, kk_41_388, kk_41_389, List.getD_cons_zero, List.getD_cons_succ, List.set_cons_zero, List.set_cons_succ, ex_spl, ex_low, Option.toList, List.cons_append, List.nil_append, reduceIte, Int.reduceToNat, Nat.reduceDiv, Nat.reduceMod, Nat.reduceAdd, Nat.reduceMul, z_0, z_1, z_10, z_01, reduceCtorEq, ite_true, ite_false, true_and, and_true, ↓bI_01, ↓bP_01, ↓zret0, ↓zret1, z_add, z_sub, z_mul, up_2, not_true, not_false_iff, if_true, if_false, bI_T, bI_F, bP_T, bP_F, or_true, true_or, or_false, false_or, Int.reduceNeg, Int.reduceAdd, Int.reduceSub, Int.reduceMul, Int.reduceEq, Int.reduceLT, Int.reduceLE, Int.natCast_add, Int.cast_ofNat_Int]
    · rw [up_n (by omega), up_n (by omega), up_n (by omega)]; exact o1 o k hk
    · rw [up_n (by omega), up_n (by omega), up_n (by omega)]; exact s4
    · rw [up_n (by omega), up_n (by omega), up_n (by omega)]; exact s5
    · by_cases ht : t = i
      · rw [ht]
        refine ⟨?_, ?_, ?_⟩
        · rw [up_n (by omega), up_n (by omega), up_e (by omega)]
        · rw [up_n (by omega), up_e (by omega)]
        · rw [up_e (by omega)]
      · obtain ⟨q1, q2, q3⟩ := h1 t t0 (by omega)
        refine ⟨?_, ?_, ?_⟩
        · rw [up_n (by omega), up_n (by omega), up_n (by omega)]; exact q1
        · rw [up_n (by omega), up_n (by omega), up_n (by omega)]; exact q2
        · rw [up_n (by omega), up_n (by omega), up_n (by omega)]; exact q3
  · rintro s ⟨w1, rfl, o1, s4, s5, h1⟩
    rw [Int.toNat_of_nonneg (by omega)] at h1
    refine ⟨w1, ?_, o1, ⟨s4, h1⟩, s5⟩
    rw [kb_71_22]
    simp (disch := omega) only [s4, ev_iload, ev_aload, rx_istore, ev_iinc, ev_push, ev_goto, ev_jsr, rx_ige_t, rx_ige_f, ev_getf, ev_putf, ev_putl, ev_iald, ev_callv, rx_max0, rx_min1, nr_i, nr_r, nr_l, nr_n, kA_2, kA_6, kA_7, kA_8, kA_9, kA_10, kA_11, kA_12, kA_13, kA_14, kA_15, kA_16, kA_19, kA_22, kA_24, kA_26, kA_28, kA_31, kA_33, kA_35, kA_37, kA_39, kA_40, kA_42, kA_43, kA_44, kA_45, kS_2, kS_6, kS_7, kS_8, kS_9, kS_10, kS_11, kS_12, kS_13, kS_14, kS_15, kS_16, kS_19, kS_22, kS_24, kS_26, kS_28, kS_31, kS_33, kS_35, kS_37, kS_39, kS_40, kS_42, kS_43, kS_44, kS_45, rx_vret, kb_71_0, kb_71_80, kr_71, kf_20_0, kf_29_0, kf_41_384, kf_41_385, kf_41_386, kf_41_388, kk_41_388, kk_41_389, List.getD_cons_zero, List.getD_cons_succ, List.set_cons_zero, List.set_cons_succ, ex_spl, ex_low, Option.toList, List.cons_append, List.nil_append, reduceIte, Int.reduceToNat, Nat.reduceDiv, Nat.reduceMod, Nat.reduceAdd, Nat.reduceMul, z_0, z_1, z_10, z_01, reduceCtorEq, ite_true, ite_false, true_and, and_true, ↓bI_01, ↓bP_01, ↓zret0, ↓zret1, z_add, z_sub, z_mul, up_1, up_2, not_true, not_false_iff, if_true, if_false, bI_T, bI_F, bP_T, bP_F, or_true, true_or, or_false, false_or, Int.reduceNeg, Int.reduceAdd, Int.reduceSub, Int.reduceMul, Int.reduceEq, Int.reduceLT, Int.reduceLE, Int.natCast_add, Int.cast_ofNat_Int]
theorem rKp_o {A : AS} {w w' : PW} {n : Int} (h : rKp A w n) (e : ∀ o k, (o = 39 ∨ o = 40) → w'.1 o k = w.1 o k) : rKp A w' n := by
  intro a a0 a1
  obtain ⟨h1, h2⟩ := h a a0 a1
  exact ⟨by rw [e _ _ (by omega)]; exact h1, fun x y x0 x1 y0 y1 => by rw [e _ _ (by omega)]; exact h2 x y x0 x1 y0 y1⟩
/-- the bits of KEPT -/
noncomputable def q_kb (A : AS) : Nat → Int32
  | 0 => Int32.ofInt 0
  | n + 1 => q_kb A n ||| q_iw (q_kp A n) (Int32.ofInt 1 <<< (Int32.ofInt (n : Int) &&& 31)) (Int32.ofInt 0)
theorem q_kb_t {A : AS} {n : Nat} (h : q_kp A n) : q_kb A (n + 1) = q_kb A n ||| (Int32.ofInt 1 <<< (Int32.ofInt (n : Int) &&& 31)) := by
  show q_kb A n ||| q_iw (q_kp A n) _ _ = _
  rw [q_iw_t h]
theorem q_kb_f {A : AS} {n : Nat} (h : ¬ q_kp A n) : q_kb A (n + 1) = q_kb A n := by
  show q_kb A n ||| q_iw (q_kp A n) _ _ = _
  rw [q_iw_f h, m_or0]
theorem m_kept {d : Nat} {A : AS} {w : PW} (hV : q_V A) (hC : rC A w) : ∃ w', ex_cal (d + 8) 117 [.ref 0] w = some (some (.int (q_kb A (A 0 6).toNat)), w') ∧ sC w w' := by
  have hr := q_rng hV.1
  obtain ⟨w1, e1, o1, s1, k1⟩ := m_learn (d := d + 1) hV.1 hC
  have hC1 : rC A w1 := rC_cg hC fun o k hk => o1 o k (fun hh => hk (by unfold tC; omega))
  obtain ⟨w2, e2, o2, M2, z2⟩ := m_begin (d := d + 2) hV.1 hC1
  have hC2 : rC A w2 := rC_cg hC1 fun o k hk => o2 o k (fun hh => hk (by unfold tC; omega))
  have k2 : rKp A w2 (A 0 6) := rKp_o k1 fun o k hk => o2 o k (by omega)
  have hsz : w2.1 25 2 = Int32.ofInt (A 0 6) := hC2.2.2.2.2.2.2.2.1.2.1
  obtain ⟨m, em, hm⟩ := m_mtaken (d := d + 5) M2 (by omega) (by omega) (u := -1) (v := -1) (by omega) (by omega) (by omega) (by omega)
  have eis : ∀ h, 0 ≤ h → h < A 0 6 → ex_cal (d + 7) 82 [.ref 41, .ref 38, .int (Int32.ofInt h)] w2 = some (some (.int (bP (q_kp A h))), w2) := by
    intro h h0 h1
    have hb := hV.1.2.2.2.2.2.1.2.2 h h0 h1
    have en := m_isKeptNow (d := d + 3) (m := m) (q_gr3_v hV.1) k2 (by omega) M2 h0 h1 hb.1 (by omega)
    rw [bP_c (q_kn_kp hV.1 hV.2.1 hm h0 h1)] at en
    rw [ke_82 kc_41]
    simp (disch := omega) only [em, en, ev_iload, ev_aload, ev_push, ev_callv, nr_i, nr_r, nr_l, nr_n, rx_zret_t, rx_zretI, rx_zretP, kb_82_0, kr_82, List.getD_cons_zero, List.getD_cons_succ, List.set_cons_zero, List.set_cons_succ, ex_spl, ex_low, Option.toList, List.cons_append, List.nil_append, reduceIte, Int.reduceToNat, Nat.reduceDiv, Nat.reduceMod, Nat.reduceAdd, Nat.reduceMul, z_0, z_1, z_10, z_01, reduceCtorEq, ite_true, ite_false, true_and, and_true, ↓bI_01, ↓bP_01, ↓zret0, ↓zret1, z_add, z_sub, z_mul, up_1, up_2, not_true, not_false_iff, if_true, if_false, bI_T, bI_F, bP_T, bP_F, or_true, true_or, or_false, false_or, Int.reduceNeg, Int.reduceAdd, Int.reduceSub, Int.reduceMul, Int.reduceEq, Int.reduceLT, Int.reduceLE, Int.natCast_add, Int.cast_ofNat_Int]
  refine ⟨w2, ?_, fun o k hk => (o2 o k (fun hh => hk (by unfold tC; omega))).trans (o1 o k (fun hh => hk (by unfold tC; omega)))⟩
  rw [ke_117 kc_0]
  simp (disch := omega) only [e1, e2, ev_iload, ev_aload, rx_istore, ev_iinc, ev_push, ev_ior, ev_ishl, ev_goto, ev_jsr, rx_ige_t, rx_ige_f, rx_zeq_t, rx_zeq_f, ev_getf, ev_callv, nr_i, nr_r, nr_l, nr_n, rx_iret, kb_117_0, kb_117_73, kb_117_79, kr_117, kf_20_2, kf_29_2, kf_0_643, kf_0_644, kf_0_645, kf_0_647, kf_0_648, List.getD_cons_zero, List.getD_cons_succ, List.set_cons_zero, List.set_cons_succ, ex_spl, ex_low, Option.toList, List.cons_append, List.nil_append, reduceIte, Int.reduceToNat, Nat.reduceDiv, Nat.reduceMod, Nat.reduceAdd, Nat.reduceMul, z_0, z_1, z_10, z_01, reduceCtorEq, ite_true, ite_false, true_and, and_true, ↓bI_01, ↓bP_01, ↓zret0, ↓zret1, z_add, z_sub, z_mul, up_1, up_2, not_true, not_false_iff, if_true, if_false, bI_T, bI_F, bP_T, bP_F, or_true, true_or, or_false, false_or, Int.reduceNeg, Int.reduceAdd, Int.reduceSub, Int.reduceMul, Int.reduceEq, Int.reduceLT, Int.reduceLE, Int.natCast_add, Int.cast_ofNat_Int]
  refine ex_loop (Q := fun q => q = some (some (.int (q_kb A (A 0 6).toNat)), w2)) (fun i s => s = (ex_blk 117 38, [.ref 0, .int (q_kb A i), .int (Int32.ofInt (i : Int))], [], w2)) (A 0 6).toNat ?_ ?_ ?_
  · rfl
  · rintro i s hi rfl
    right
    refine ⟨_, ?_, rfl⟩
    have ek := eis i (by omega) (by omega)
    by_cases hq : q_kp A i
    · rw [bP_t hq] at ek
      rw [q_kb_t hq]
      conv => lhs; rw [kb_117_38]
      simp (disch := omega) only [m_tsize tb_25, hsz, ek, ev_iload, ev_aload, rx_istore, ev_iinc, ev_push, ev_ior, ev_ishl, ev_goto, ev_jsr, rx_ige_t, rx_ige_f, rx_zeq_t, rx_zeq_f, ev_getf, ev_callv, nr_i, nr_r, nr_l, nr_n, rx_iret, kb_117_0, kb_117_73, kb_117_79, kr_117, kf_20_2, kf_29_2, kf_0_643, kf_0_644, kf_0_645, kf_0_647, kf_0_648, List.getD_cons_zero, List.getD_cons_succ, List.set_cons_zero, List.set_cons_succ, ex_spl, ex_low, Option.toList, List.cons_append, List.nil_append, reduceIte, Int.reduceToNat, Nat.reduceDiv, Nat.reduceMod, Nat.reduceAdd, Nat.reduceMul, z_0, z_1, z_10, z_01, reduceCtorEq, ite_true, ite_false, true_and, and_true, ↓bI_01, ↓bP_01, ↓zret0, ↓zret1, z_add, z_sub, z_mul, up_1, up_2, not_true, not_false_iff, if_true, if_false, bI_T, bI_F, bP_T, bP_F, or_true, true_or, or_false, false_or, Int.reduceNeg, Int.reduceAdd, Int.reduceSub, Int.reduceMul, Int.reduceEq, Int.reduceLT, Int.reduceLE, Int.natCast_add, Int.cast_ofNat_Int]
    · rw [bP_f hq] at ek
      rw [q_kb_f hq]
      conv => lhs; rw [kb_117_38]
      simp (disch := omega) only [m_tsize tb_25, hsz, ek, ev_iload, ev_aload, rx_istore, ev_iinc, ev_push, ev_ior, ev_ishl, ev_goto, ev_jsr, rx_ige_t, rx_ige_f, rx_zeq_t, rx_zeq_f, ev_getf, ev_callv, nr_i, nr_r, nr_l, nr_n, rx_iret, kb_117_0, kb_117_73, kb_117_79, kr_117, kf_20_2, kf_29_2, kf_0_643, kf_0_644, kf_0_645, kf_0_647, kf_0_648, List.getD_cons_zero, List.getD_cons_succ, List.set_cons_zero, List.set_cons_succ, ex_spl, ex_low, Option.toList, List.cons_append, List.nil_append, reduceIte, Int.reduceToNat, Nat.reduceDiv, Nat.reduceMod, Nat.reduceAdd, Nat.reduceMul, z_0, z_1, z_10, z_01, reduceCtorEq, ite_true, ite_false, true_and, and_true, ↓bI_01, ↓bP_01, ↓zret0, ↓zret1, z_add, z_sub, z_mul, up_1, up_2, not_true, not_false_iff, if_true, if_false, bI_T, bI_F, bP_T, bP_F, or_true, true_or, or_false, false_or, Int.reduceNeg, Int.reduceAdd, Int.reduceSub, Int.reduceMul, Int.reduceEq, Int.reduceLT, Int.reduceLE, Int.natCast_add, Int.cast_ofNat_Int]
  · rintro s rfl
    rw [kb_117_38]
    simp (disch := omega) only [m_tsize tb_25, hsz, ev_iload, ev_aload, rx_istore, ev_iinc, ev_push, ev_ior, ev_ishl, ev_goto, ev_jsr, rx_ige_t, rx_ige_f, rx_zeq_t, rx_zeq_f, ev_getf, ev_callv, nr_i, nr_r, nr_l, nr_n, rx_iret, kb_117_0, kb_117_73, kb_117_79, kr_117, kf_20_2, kf_29_2, kf_0_643, kf_0_644, kf_0_645, kf_0_647, kf_0_648, List.getD_cons_zero, List.getD_cons_succ, List.set_cons_zero, List.set_cons_succ, ex_spl, ex_low, Option.toList, List.cons_append, List.nil_append, reduceIte, Int.reduceToNat, Nat.reduceDiv, Nat.reduceMod, Nat.reduceAdd, Nat.reduceMul, z_0, z_1, z_10, z_01, reduceCtorEq, ite_true, ite_false, true_and, and_true, ↓bI_01, ↓bP_01, ↓zret0, ↓zret1, z_add, z_sub, z_mul, up_1, up_2, not_true, not_false_iff, if_true, if_false, bI_T, bI_F, bP_T, bP_F, or_true, true_or, or_false, false_or, Int.reduceNeg, Int.reduceAdd, Int.reduceSub, Int.reduceMul, Int.reduceEq, Int.reduceLT, Int.reduceLE, Int.natCast_add, Int.cast_ofNat_Int]
