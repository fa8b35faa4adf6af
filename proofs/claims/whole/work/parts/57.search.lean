/-! moves(): the class's search -/
def q_w0 (A : AS) (w : PW) : Prop := rC A w ∧ rKp A w (A 0 6) ∧ w.1 38 2 = Int32.ofInt (A 0 6)
theorem q_w0_f {A : AS} {w w' : PW} (h : q_w0 A w) (e : ∀ o k, ¬ (41 ≤ o ∧ o < 46) → w'.1 o k = w.1 o k) : q_w0 A w' := ⟨rC_cg h.1 fun o k hk => e o k (fun hh => hk (by unfold tC; omega)), rKp_o h.2.1 fun o k hk => e o k (by omega), by rw [e _ _ (by omega)]; exact h.2.2⟩
/-- the search's world: things stand as B has them -/
def sMv (B : AS) (w0 w : PW) : Prop := rMv B w ∧ (∃ z, 0 ≤ z ∧ z < 6 ∧ w.1 41 5 = Int32.ofInt z) ∧ ∀ o k, ¬ (41 ≤ o ∧ o < 46) → w.1 o k = w0.1 o k
/-- all but where thing u is -/
def rMu (B : AS) (u : Int) (w : PW) : Prop := w.1 41 4 = Int32.ofInt (B 0 5) ∧ (∀ t, 0 ≤ t → t < B 0 5 → w.1 42 t.toNat = Int32.ofInt (B 5 (5 * t))) ∧ ∀ t, 0 ≤ t → t < B 0 5 → ¬ t = u → w.1 43 t.toNat = Int32.ofInt (4 * B 5 (5 * t + 1) + B 5 (5 * t + 2)) ∧ w.1 44 t.toNat = q_sp B (B 5 (5 * t)) (B 5 (5 * t + 1)) (B 5 (5 * t + 2))
theorem rMu_v {B : AS} {u : Int} {w : PW} (h : rMv B w) : rMu B u w := ⟨h.1, fun t t0 t1 => (h.2 t t0 t1).1, fun t t0 t1 _ => (h.2 t t0 t1).2⟩
theorem q_mv_sp (B : AS) (u c v : Int) : q_sp (q_mv B u c v) = q_sp B := by
  have h : q_like B (q_mv B u c v) := q_like_mv (q_like_r B)
  exact q_like_sp h
theorem rMu_set {B : AS} {u c v : Int} {w : PW} (h : rMu B u w) (u0 : 0 ≤ u) : rMv (q_mv B u c v) (ex_up (ex_up w 43 u.toNat (Int32.ofInt (4 * c + v))) 44 u.toNat (q_sp B (B 5 (5 * u)) c v)) := by
  obtain ⟨h1, h2, h3⟩ := h
  refine ⟨?_, fun t t0 t1 => ⟨?_, ?_, ?_⟩⟩
  · rw [up_n (by omega), up_n (by omega)]; exact h1
  · rw [up_n (by omega), up_n (by omega), q_mv_k]; exact h2 t t0 t1
  · rw [up_n (by omega)]
    by_cases ht : t = u
    · subst ht
      rw [up_e (by omega), q_mv_s.1, q_mv_s.2]
    · rw [up_n (by omega), (q_mv_o ht).1, (q_mv_o ht).2]; exact (h3 t t0 t1 ht).1
  · rw [q_mv_sp, q_mv_k]
    by_cases ht : t = u
    · subst ht
      rw [up_e (by omega), q_mv_s.1, q_mv_s.2]
    · rw [up_n (by omega), up_n (by omega), (q_mv_o ht).1, (q_mv_o ht).2]; exact (h3 t t0 t1 ht).2
theorem rMu_of {B : AS} {u c v : Int} {w : PW} (h : rMv (q_mv B u c v) w) : rMu B u w := by
  obtain ⟨h1, h2⟩ := h
  refine ⟨h1, fun t t0 t1 => ?_, fun t t0 t1 ht => ?_⟩
  · have := (h2 t t0 t1).1; rw [q_mv_k] at this; exact this
  · have := (h2 t t0 t1).2
    rw [q_mv_sp, q_mv_k, (q_mv_o ht).1, (q_mv_o ht).2] at this; exact this
theorem q_mv_id (B : AS) (u : Int) : q_mv B u (B 5 (5 * u + 1)) (B 5 (5 * u + 2)) = B := by
  refine funext fun x => funext fun y => ?_
  unfold q_mv
  by_cases h1 : x = 5 ∧ y = 5 * u + 1
  · rw [if_pos h1, h1.1, h1.2]
  · rw [if_neg h1]
    by_cases h2 : x = 5 ∧ y = 5 * u + 2
    · rw [if_pos h2, h2.1, h2.2]
    · rw [if_neg h2]
theorem rKp_l {A B : AS} {w : PW} {n : Int} (h : rKp A w n) (hl : q_like A B) : rKp B w n := by
  intro a a0 a1
  rw [hl.1 6 (by omega), q_like_gd hl]
  exact h a a0 a1
theorem m_and_c (a b : Int32) : a &&& b = b &&& a := b_ext fun i _ => by rw [b_and, b_and, Bool.and_comm]
theorem q_dis_m {B : AS} {u c v : Int} {m : Int32} (hm : q_tkm B u (-1) m) : q_sp B (B 5 (5 * u)) c v &&& m = Int32.ofInt 0 ↔ q_dis B u c v := by
  constructor
  · intro h t t0 t1 ht
    rw [m_and0] at h ⊢
    intro x x0 x1 hh
    exact h x x0 x1 ⟨hh.1, (hm x x0 x1).2 ⟨t, t0, t1, ht, by omega, hh.2⟩⟩
  · intro h
    rw [m_and0]
    intro x x0 x1 hh
    obtain ⟨t, t0, t1, t2, t3, t4⟩ := (hm x x0 x1).1 hh.2
    exact m_and0.1 (h t t0 t1 t2) x x0 x1 ⟨hh.1, t4⟩
theorem q_tkm_mv {B : AS} {u c v : Int} {m : Int32} (u0 : 0 ≤ u) (u1 : u < B 0 5) (hm : q_tkm B u (-1) m) : q_tkm (q_mv B u c v) (-1) (-1) (m ||| q_sp B (B 5 (5 * u)) c v) := by
  intro x x0 x1
  rw [q_bt_or x0 x1, hm x x0 x1, q_mv_sp]
  constructor
  · rintro (⟨t, t0, t1, t2, t3, t4⟩ | h)
    · exact ⟨t, t0, t1, by omega, by omega, by rw [q_mv_k, (q_mv_o t2).1, (q_mv_o t2).2]; exact t4⟩
    · exact ⟨u, u0, u1, by omega, by omega, by rw [q_mv_k, q_mv_s.1, q_mv_s.2]; exact h⟩
  · rintro ⟨t, t0, t1, t2, t3, t4⟩
    by_cases ht : t = u
    · subst ht
      rw [q_mv_k, q_mv_s.1, q_mv_s.2] at t4
      exact Or.inr t4
    · rw [q_mv_k, (q_mv_o ht).1, (q_mv_o ht).2] at t4
      exact Or.inl ⟨t, t0, t1, ht, by omega, t4⟩
theorem m_isDoneBy {d : Nat} {A B : AS} {w0 w : PW} (hV : q_v0 A) (hW : q_w0 A w0) (hl : q_like A B) (hg : ∀ t, 0 ≤ t → t < A 0 5 → q_gr B t) (hs : sMv B w0 w) {u : Int} (u0 : 0 ≤ u) (u1 : u < A 0 5) {m : Nat} (hm : m ≤ 96) (hno : ∀ i : Int, 0 ≤ i → i < m → ¬ q_D B u i) (hyes : m < 96 → q_D B u m) : ∃ w', ex_cal (d + 5) 77 [.ref 41, .int (Int32.ofInt u), .ref 5, .ref 38] w = some (some (.int (Int32.ofInt (if m < 96 then 1 else 0))), w') ∧ sMv (if m < 96 then q_mv B u ((m : Int) / 4) ((m : Int) % 4) else B) w0 w' ∧ ∀ k, w'.1 45 k = w.1 45 k := by
  have hr := q_rng hV
  have h0 := hl.1 0 (by omega)
  have hVB := q_like_vh hl hV.1
  have hgB : ∀ t, 0 ≤ t → t < B 0 5 → q_gr B t := by rw [h0]; exact hg
  have hb0 : B 0 5 = A 0 5 := by rw [h0]
  have hb15 : B 0 15 = A 0 15 := by rw [h0]
  have hb6 : B 0 6 = A 0 6 := by rw [h0]
  obtain ⟨M1, ⟨z, z0, z1, hz⟩, o1⟩ := hs
  obtain ⟨g1, g2, g3, g4, g5, g6, g7⟩ := hg u u0 u1
  obtain ⟨mo, emo, hmo⟩ := m_mtaken (d := d + 3) M1 (by omega) (by omega) (u := u) (v := -1) (by omega) (by omega) (by omega) (by omega)
  obtain ⟨e42, e43, e44⟩ := M1.2 u u0 (by omega)
  generalize hhome : 4 * B 5 (5 * u + 1) + B 5 (5 * u + 2) = home at *
  have hh0 : 0 ≤ home ∧ home < 96 := by omega
  rw [ke_77 kc_41]
  simp (disch := omega) only [m_below, bI_t, bI_f, e43, e44, emo, ev_iload, ev_aload, rx_istore, ev_iinc, ev_push, ev_iand, ev_ior, ev_goto, ev_jsr, rx_ieq_t, rx_ieq_f, rx_ige_t, rx_ige_f, rx_zeq_t, rx_zeq_f, rx_zne_t, rx_zne_f, ev_getf, ev_iald, ev_call, ev_callv, nr_i, nr_r, nr_l, nr_n, kA_2, kA_6, kA_7, kA_8, kA_9, kA_10, kA_11, kA_12, kA_13, kA_14, kA_15, kA_16, kA_19, kA_22, kA_24, kA_26, kA_28, kA_31, kA_33, kA_35, kA_37, kA_39, kA_40, kA_42, kA_43, kA_44, kA_45, kS_2, kS_6, kS_7, kS_8, kS_9, kS_10, kS_11, kS_12, kS_13, kS_14, kS_15, kS_16, kS_19, kS_22, kS_24, kS_26, kS_28, kS_31, kS_33, kS_35, kS_37, kS_39, kS_40, kS_42, kS_43, kS_44, kS_45, rx_zret_t, rx_zretI, rx_zretP, kb_77_0, kb_77_10, kb_77_109, kb_77_115, kr_77, kf_41_384, kf_41_385, kf_41_386, List.getD_cons_zero, List.getD_cons_succ, List.set_cons_zero, List.set_cons_succ, ex_spl, ex_low, Option.toList, List.cons_append, List.nil_append, reduceIte, Int.reduceToNat, Nat.reduceDiv, Nat.reduceMod, Nat.reduceAdd, Nat.reduceMul, z_0, z_1, z_10, z_01, reduceCtorEq, ite_true, ite_false, true_and, and_true, ↓bI_01, ↓bP_01, ↓zret0, ↓zret1, z_add, z_sub, z_mul, up_1, up_2, not_true, not_false_iff, if_true, if_false, bI_T, bI_F, bP_T, bP_F, or_true, true_or, or_false, false_or, Int.reduceNeg, Int.reduceAdd, Int.reduceSub, Int.reduceMul, Int.reduceEq, Int.reduceLT, Int.reduceLE, Int.natCast_add, Int.cast_ofNat_Int]
  refine ex_loop (Q := fun q => ∃ w', q = some (some (.int (Int32.ofInt (if m < 96 then 1 else 0))), w') ∧ sMv (if m < 96 then q_mv B u ((m : Int) / 4) ((m : Int) % 4) else B) w0 w' ∧ ∀ k, w'.1 45 k = w.1 45 k) (fun i s => ∃ w1 v8, s = (ex_blk 77 37, [.ref 41, .int (Int32.ofInt u), .ref 5, .ref 38, .int (Int32.ofInt home), .int (q_sp B (B 5 (5 * u)) (B 5 (5 * u + 1)) (B 5 (5 * u + 2))), .int mo, .int (Int32.ofInt (i : Int)), v8], [], w1) ∧ xv v8 ∧ rMu B u w1 ∧ (∃ z, 0 ≤ z ∧ z < 6 ∧ w1.1 41 5 = Int32.ofInt z) ∧ (∀ o k, ¬ (41 ≤ o ∧ o < 46) → w1.1 o k = w0.1 o k) ∧ ∀ k, w1.1 45 k = w.1 45 k) m ?_ ?_ ?_
  · exact ⟨w, .null, rfl, xv_n, rMu_v M1, ⟨z, z0, z1, hz⟩, o1, fun _ => rfl⟩
  · rintro i s hi ⟨w1, v8, rfl, x8, U1, ⟨z', z0', z1', hz'⟩, o1', a1⟩
    right
    have hW1 := q_w0_f hW o1'
    obtain ⟨c, v, hcv, c0, c1, v0, v1, ec, ev⟩ : ∃ c v : Int, (i : Int) = 4 * c + v ∧ 0 ≤ c ∧ c < 24 ∧ 0 ≤ v ∧ v < 4 ∧ (i : Int) / 4 = c ∧ (i : Int) % 4 = v := ⟨(i : Int) / 4, (i : Int) % 4, by omega, by omega, by omega, by omega, by omega, rfl, rfl⟩
    have hd := hno i (by omega) (by omega)
    have k42 := U1.2.1 u u0 (by omega)
    have esp := m_spot (d := d + 2) hV.1 hW1.1.1 (k := B 5 (5 * u)) (c := c) (v := v) (by omega) (by omega) c0 c1 v0 v1
    rw [← q_like_sp hl] at esp
    have stay : ∀ w2 : PW, ∀ v8' : Value, xv v8' → rMu B u w2 → (∃ z, 0 ≤ z ∧ z < 6 ∧ w2.1 41 5 = Int32.ofInt z) → (∀ o k, ¬ (41 ≤ o ∧ o < 46) → w2.1 o k = w0.1 o k) → (∀ k, w2.1 45 k = w.1 45 k) → ex_ev (d + 4) (ex_cal (d + 4)) 77 (ex_blk 77 37, [.ref 41, .int (Int32.ofInt u), .ref 5, .ref 38, .int (Int32.ofInt home), .int (q_sp B (B 5 (5 * u)) (B 5 (5 * u + 1)) (B 5 (5 * u + 2))), .int mo, .int (Int32.ofInt (i : Int)), v8], [], w1) = ex_ev (d + 4) (ex_cal (d + 4)) 77 (ex_blk 77 37, [.ref 41, .int (Int32.ofInt u), .ref 5, .ref 38, .int (Int32.ofInt home), .int (q_sp B (B 5 (5 * u)) (B 5 (5 * u + 1)) (B 5 (5 * u + 2))), .int mo, .int (Int32.ofInt ((i : Int) + 1)), v8'], [], w2) → ∃ s', ex_ev (d + 4) (ex_cal (d + 4)) 77 (ex_blk 77 37, [.ref 41, .int (Int32.ofInt u), .ref 5, .ref 38, .int (Int32.ofInt home), .int (q_sp B (B 5 (5 * u)) (B 5 (5 * u + 1)) (B 5 (5 * u + 2))), .int mo, .int (Int32.ofInt (i : Int)), v8], [], w1) = ex_ev (d + 4) (ex_cal (d + 4)) 77 s' ∧ ∃ w1 v8, s' = (ex_blk 77 37, [.ref 41, .int (Int32.ofInt u), .ref 5, .ref 38, .int (Int32.ofInt home), .int (q_sp B (B 5 (5 * u)) (B 5 (5 * u + 1)) (B 5 (5 * u + 2))), .int mo, .int (Int32.ofInt ((i + 1 : Nat) : Int)), v8], [], w1) ∧ xv v8 ∧ rMu B u w1 ∧ (∃ z, 0 ≤ z ∧ z < 6 ∧ w1.1 41 5 = Int32.ofInt z) ∧ (∀ o k, ¬ (41 ≤ o ∧ o < 46) → w1.1 o k = w0.1 o k) ∧ ∀ k, w1.1 45 k = w.1 45 k := fun w2 v8' h1 h2 h3 h4 h5 h6 => ⟨_, h6, w2, v8', rfl, h1, h2, h3, h4, h5⟩
    generalize q_sp B (B 5 (5 * u)) (B 5 (5 * u + 1)) (B 5 (5 * u + 2)) = hsp at *
    have hd' : ¬ ((¬ (i : Int) = home ∧ ¬ q_sp B (B 5 (5 * u)) c v = Int32.ofInt 0) ∧ q_dis B u c v ∧ q_ka (q_mv B u c v)) := by
      intro hh
      refine hd ⟨⟨?_, ?_⟩, ?_, ?_⟩
      · rw [hhome]; exact hh.1.1
      · rw [ec, ev]; exact hh.1.2
      · rw [ec, ev]; exact hh.2.1
      · rw [ec, ev]; exact hh.2.2
    have hset := rMu_set (c := c) (v := v) U1 u0
    have hdm := q_dis_m (c := c) (v := v) hmo
    have htm := q_tkm_mv (c := c) (v := v) u0 (by omega) hmo
    have hspn := q_sp_n0 (A := B) hVB (k := B 5 (5 * u)) (c := c) (v := v)
    generalize hS : q_sp B (B 5 (5 * u)) c v = S at *
    rw [← hcv] at hset esp
    by_cases h1 : (i : Int) = home
    · refine stay w1 (.int S) (xv_i _) U1 ⟨z', z0', z1', hz'⟩ o1' a1 ?_
      conv => lhs; rw [kb_77_37]
      simp (disch := omega) only [k42, esp, x8, ev_iload, ev_aload, rx_istore, ev_iinc, ev_push, ev_iand, ev_ior, ev_goto, ev_jsr, rx_ieq_t, rx_ieq_f, rx_ige_t, rx_ige_f, rx_zeq_t, rx_zeq_f, rx_zne_t, rx_zne_f, ev_getf, ev_iald, ev_call, ev_callv, nr_i, nr_r, nr_l, nr_n, kA_2, kA_6, kA_7, kA_8, kA_9, kA_10, kA_11, kA_12, kA_13, kA_14, kA_15, kA_16, kA_19, kA_22, kA_24, kA_26, kA_28, kA_31, kA_33, kA_35, kA_37, kA_39, kA_40, kA_42, kA_43, kA_44, kA_45, kS_2, kS_6, kS_7, kS_8, kS_9, kS_10, kS_11, kS_12, kS_13, kS_14, kS_15, kS_16, kS_19, kS_22, kS_24, kS_26, kS_28, kS_31, kS_33, kS_35, kS_37, kS_39, kS_40, kS_42, kS_43, kS_44, kS_45, rx_zret_t, rx_zretI, rx_zretP, kb_77_0, kb_77_10, kb_77_109, kb_77_115, kr_77, kf_41_384, kf_41_385, kf_41_386, List.getD_cons_zero, List.getD_cons_succ, List.set_cons_zero, List.set_cons_succ, ex_spl, ex_low, Option.toList, List.cons_append, List.nil_append, reduceIte, Int.reduceToNat, Nat.reduceDiv, Nat.reduceMod, Nat.reduceAdd, Nat.reduceMul, z_0, z_1, z_10, z_01, reduceCtorEq, ite_true, ite_false, true_and, and_true, ↓bI_01, ↓bP_01, ↓zret0, ↓zret1, z_add, z_sub, z_mul, up_1, up_2, not_true, not_false_iff, if_true, if_false, bI_T, bI_F, bP_T, bP_F, or_true, true_or, or_false, false_or, Int.reduceNeg, Int.reduceAdd, Int.reduceSub, Int.reduceMul, Int.reduceEq, Int.reduceLT, Int.reduceLE, Int.natCast_add, Int.cast_ofNat_Int]
    · by_cases h2 : S = Int32.ofInt 0
      · refine stay w1 (.int S) (xv_i _) U1 ⟨z', z0', z1', hz'⟩ o1' a1 ?_
        conv => lhs; rw [kb_77_37]
        simp (disch := omega) only [k42, esp, x8, rx_xeq_t h2, ev_iload, ev_aload, rx_istore, ev_iinc, ev_push, ev_iand, ev_ior, ev_goto, ev_jsr, rx_ieq_t, rx_ieq_f, rx_ige_t, rx_ige_f, rx_zeq_t, rx_zeq_f, rx_zne_t, rx_zne_f, ev_getf, ev_iald, ev_call, ev_callv, nr_i, nr_r, nr_l, nr_n, kA_2, kA_6, kA_7, kA_8, kA_9, kA_10, kA_11, kA_12, kA_13, kA_14, kA_15, kA_16, kA_19, kA_22, kA_24, kA_26, kA_28, kA_31, kA_33, kA_35, kA_37, kA_39, kA_40, kA_42, kA_43, kA_44, kA_45, kS_2, kS_6, kS_7, kS_8, kS_9, kS_10, kS_11, kS_12, kS_13, kS_14, kS_15, kS_16, kS_19, kS_22, kS_24, kS_26, kS_28, kS_31, kS_33, kS_35, kS_37, kS_39, kS_40, kS_42, kS_43, kS_44, kS_45, rx_zret_t, rx_zretI, rx_zretP, kb_77_0, kb_77_10, kb_77_109, kb_77_115, kr_77, kf_41_384, kf_41_385, kf_41_386, List.getD_cons_zero, List.getD_cons_succ, List.set_cons_zero, List.set_cons_succ, ex_spl, ex_low, Option.toList, List.cons_append, List.nil_append, reduceIte, Int.reduceToNat, Nat.reduceDiv, Nat.reduceMod, Nat.reduceAdd, Nat.reduceMul, z_0, z_1, z_10, z_01, reduceCtorEq, ite_true, ite_false, true_and, and_true, ↓bI_01, ↓bP_01, ↓zret0, ↓zret1, z_add, z_sub, z_mul, up_1, up_2, not_true, not_false_iff, if_true, if_false, bI_T, bI_F, bP_T, bP_F, or_true, true_or, or_false, false_or, Int.reduceNeg, Int.reduceAdd, Int.reduceSub, Int.reduceMul, Int.reduceEq, Int.reduceLT, Int.reduceLE, Int.natCast_add, Int.cast_ofNat_Int]
      · by_cases h3 : S &&& mo = Int32.ofInt 0
        · have hfl := hspn h2
          have hgr2 : q_gr3 (q_mv B u c v) := by
            refine ⟨by show 0 ≤ B 0 5; omega, by show B 0 5 ≤ 3; omega, by show B 0 15 ≤ 24; omega, ?_⟩
            exact q_gr_mv2 hgB hfl.1.1 hfl.1.2.1 v0 v1 hfl.2.2
          have hl2 : q_like A (q_mv B u c v) := q_like_mv hl
          have hvb2 : q_vb (q_mv B u c v) 6 6 := by
            have := hV.2.2.2.2.2.1
            unfold q_vb at *
            rw [hl2.1 0 (by omega), hl2.1 6 (by omega)]; exact this
          have hW2 := q_w0_f hW1 (w' := ex_up (ex_up w1 43 u.toNat (Int32.ofInt (i : Int))) 44 u.toNat S) (fun o k hk => by rw [up_n (by omega), up_n (by omega)])
          have hk2 : rKp (q_mv B u c v) (ex_up (ex_up w1 43 u.toNat (Int32.ofInt (i : Int))) 44 u.toNat S) (q_mv B u c v 0 6) := by
            have := rKp_l hW2.2.1 hl2
            rw [hl2.1 0 (by omega)]; exact this
          obtain ⟨w3, z3, e3, o3, hz3, z30, z31⟩ := m_allKept (d := d) (m := mo ||| S) hgr2 hvb2 hk2 (by rw [hl2.1 0 (by omega)]; exact hW2.2.2) hset z0' z1' (by rw [up_n (by omega), up_n (by omega)]; exact hz')
          have hnk : ¬ q_an (q_mv B u c v) (mo ||| S) := fun hh => hd' ⟨⟨h1, h2⟩, hdm.1 h3, (q_ka_i htm).1 hh⟩
          rw [bP_f hnk] at e3
          have U3 : rMu B u w3 := by
            refine rMu_of (c := c) (v := v) ?_
            obtain ⟨q1, q2⟩ := hset
            refine ⟨by rw [o3 _ _ (by omega)]; exact q1, fun t t0 t1 => ?_⟩
            rw [o3 _ _ (by omega), o3 _ _ (by omega), o3 _ _ (by omega)]; exact q2 t t0 t1
          refine stay w3 (.int S) (xv_i _) U3 ⟨z3, z30, z31, hz3⟩ (fun o k hk => ?_) (fun k => ?_) ?_
          · rw [o3 _ _ (by omega), up_n (by omega), up_n (by omega)]; exact o1' o k hk
          · rw [o3 _ _ (by omega), up_n (by omega), up_n (by omega)]; exact a1 k
          · conv => lhs; rw [kb_77_37]
            simp (disch := omega) only [k42, esp, x8, rx_xeq_f h2, h3, e3, ev_iload, ev_aload, rx_istore, ev_iinc, ev_push, ev_iand, ev_ior, ev_goto, ev_jsr, rx_ieq_t, rx_ieq_f, rx_ige_t, rx_ige_f, rx_zeq_t, rx_zeq_f, rx_zne_t, rx_zne_f, ev_getf, ev_iald, ev_call, ev_callv, nr_i, nr_r, nr_l, nr_n, kA_2, kA_6, kA_7, kA_8, kA_9, kA_10, kA_11, kA_12, kA_13, kA_14, kA_15, kA_16, kA_19, kA_22, kA_24, kA_26, kA_28, kA_31, kA_33, kA_35, kA_37, kA_39, kA_40, kA_42, kA_43, kA_44, kA_45, kS_2, kS_6, kS_7, kS_8, kS_9, kS_10, kS_11, kS_12, kS_13, kS_14, kS_15, kS_16, kS_19, kS_22, kS_24, kS_26, kS_28, kS_31, kS_33, kS_35, kS_37, kS_39, kS_40, kS_42, kS_43, kS_44, kS_45, rx_zret_t, rx_zretI, rx_zretP, kb_77_0, kb_77_10, kb_77_109, kb_77_115, kr_77, kf_41_384, kf_41_385, kf_41_386, List.getD_cons_zero, List.getD_cons_succ, List.set_cons_zero, List.set_cons_succ, ex_spl, ex_low, Option.toList, List.cons_append, List.nil_append, reduceIte, Int.reduceToNat, Nat.reduceDiv, Nat.reduceMod, Nat.reduceAdd, Nat.reduceMul, z_0, z_1, z_10, z_01, reduceCtorEq, ite_true, ite_false, true_and, and_true, ↓bI_01, ↓bP_01, ↓zret0, ↓zret1, z_add, z_sub, z_mul, up_1, up_2, not_true, not_false_iff, if_true, if_false, bI_T, bI_F, bP_T, bP_F, or_true, true_or, or_false, false_or, Int.reduceNeg, Int.reduceAdd, Int.reduceSub, Int.reduceMul, Int.reduceEq, Int.reduceLT, Int.reduceLE, Int.natCast_add, Int.cast_ofNat_Int]
        · refine stay w1 (.int S) (xv_i _) U1 ⟨z', z0', z1', hz'⟩ o1' a1 ?_
          conv => lhs; rw [kb_77_37]
          simp (disch := omega) only [k42, esp, x8, rx_xeq_f h2, rx_xne_t h3, ev_iload, ev_aload, rx_istore, ev_iinc, ev_push, ev_iand, ev_ior, ev_goto, ev_jsr, rx_ieq_t, rx_ieq_f, rx_ige_t, rx_ige_f, rx_zeq_t, rx_zeq_f, rx_zne_t, rx_zne_f, ev_getf, ev_iald, ev_call, ev_callv, nr_i, nr_r, nr_l, nr_n, kA_2, kA_6, kA_7, kA_8, kA_9, kA_10, kA_11, kA_12, kA_13, kA_14, kA_15, kA_16, kA_19, kA_22, kA_24, kA_26, kA_28, kA_31, kA_33, kA_35, kA_37, kA_39, kA_40, kA_42, kA_43, kA_44, kA_45, kS_2, kS_6, kS_7, kS_8, kS_9, kS_10, kS_11, kS_12, kS_13, kS_14, kS_15, kS_16, kS_19, kS_22, kS_24, kS_26, kS_28, kS_31, kS_33, kS_35, kS_37, kS_39, kS_40, kS_42, kS_43, kS_44, kS_45, rx_zret_t, rx_zretI, rx_zretP, kb_77_0, kb_77_10, kb_77_109, kb_77_115, kr_77, kf_41_384, kf_41_385, kf_41_386, List.getD_cons_zero, List.getD_cons_succ, List.set_cons_zero, List.set_cons_succ, ex_spl, ex_low, Option.toList, List.cons_append, List.nil_append, reduceIte, Int.reduceToNat, Nat.reduceDiv, Nat.reduceMod, Nat.reduceAdd, Nat.reduceMul, z_0, z_1, z_10, z_01, reduceCtorEq, ite_true, ite_false, true_and, and_true, ↓bI_01, ↓bP_01, ↓zret0, ↓zret1, z_add, z_sub, z_mul, up_1, up_2, not_true, not_false_iff, if_true, if_false, bI_T, bI_F, bP_T, bP_F, or_true, true_or, or_false, false_or, Int.reduceNeg, Int.reduceAdd, Int.reduceSub, Int.reduceMul, Int.reduceEq, Int.reduceLT, Int.reduceLE, Int.natCast_add, Int.cast_ofNat_Int]
  · rintro s ⟨w1, v8, rfl, x8, U1, ⟨z', z0', z1', hz'⟩, o1', a1⟩
    have hW1 := q_w0_f hW o1'
    by_cases hm96 : m < 96
    · rw [if_pos hm96, if_pos hm96]
      obtain ⟨⟨d1, d2⟩, d3, d4⟩ := hyes hm96
      obtain ⟨c, v, hcv, c0, c1, v0, v1, ec, ev⟩ : ∃ c v : Int, (m : Int) = 4 * c + v ∧ 0 ≤ c ∧ c < 24 ∧ 0 ≤ v ∧ v < 4 ∧ (m : Int) / 4 = c ∧ (m : Int) % 4 = v := ⟨(m : Int) / 4, (m : Int) % 4, by omega, by omega, by omega, by omega, by omega, rfl, rfl⟩
      rw [ec, ev] at d2 d3 d4 ⊢
      rw [hhome] at d1
      have k42 := U1.2.1 u u0 (by omega)
      have esp := m_spot (d := d + 2) hV.1 hW1.1.1 (k := B 5 (5 * u)) (c := c) (v := v) (by omega) (by omega) c0 c1 v0 v1
      rw [← q_like_sp hl] at esp
      have hset := rMu_set (c := c) (v := v) U1 u0
      have hdm := q_dis_m (c := c) (v := v) hmo
      have htm := q_tkm_mv (c := c) (v := v) u0 (by omega) hmo
      have hfl := q_sp_n0 (A := B) hVB d2
      generalize q_sp B (B 5 (5 * u)) (B 5 (5 * u + 1)) (B 5 (5 * u + 2)) = hsp at *
      generalize hS : q_sp B (B 5 (5 * u)) c v = S at *
      rw [← hcv] at hset esp
      have h3 := hdm.2 d3
      have hgr2 : q_gr3 (q_mv B u c v) := by
        refine ⟨by show 0 ≤ B 0 5; omega, by show B 0 5 ≤ 3; omega, by show B 0 15 ≤ 24; omega, ?_⟩
        exact q_gr_mv2 hgB hfl.1.1 hfl.1.2.1 v0 v1 hfl.2.2
      have hl2 : q_like A (q_mv B u c v) := q_like_mv hl
      have hvb2 : q_vb (q_mv B u c v) 6 6 := by
        have := hV.2.2.2.2.2.1
        unfold q_vb at *
        rw [hl2.1 0 (by omega), hl2.1 6 (by omega)]; exact this
      have hW2 := q_w0_f hW1 (w' := ex_up (ex_up w1 43 u.toNat (Int32.ofInt (m : Int))) 44 u.toNat S) (fun o k hk => by rw [up_n (by omega), up_n (by omega)])
      have hk2 : rKp (q_mv B u c v) (ex_up (ex_up w1 43 u.toNat (Int32.ofInt (m : Int))) 44 u.toNat S) (q_mv B u c v 0 6) := by
        have := rKp_l hW2.2.1 hl2
        rw [hl2.1 0 (by omega)]; exact this
      obtain ⟨w3, z3, e3, o3, hz3, z30, z31⟩ := m_allKept (d := d) (m := mo ||| S) hgr2 hvb2 hk2 (by rw [hl2.1 0 (by omega)]; exact hW2.2.2) hset z0' z1' (by rw [up_n (by omega), up_n (by omega)]; exact hz')
      rw [bP_t ((q_ka_i htm).2 d4)] at e3
      refine ⟨w3, ?_, ⟨?_, ⟨z3, z30, z31, hz3⟩, fun o k hk => ?_⟩, fun k => ?_⟩
      · rw [kb_77_37]
        simp (disch := omega) only [k42, esp, x8, rx_xeq_f d2, h3, e3, ev_iload, ev_aload, rx_istore, ev_iinc, ev_push, ev_iand, ev_ior, ev_goto, ev_jsr, rx_ieq_t, rx_ieq_f, rx_ige_t, rx_ige_f, rx_zeq_t, rx_zeq_f, rx_zne_t, rx_zne_f, ev_getf, ev_iald, ev_call, ev_callv, nr_i, nr_r, nr_l, nr_n, kA_2, kA_6, kA_7, kA_8, kA_9, kA_10, kA_11, kA_12, kA_13, kA_14, kA_15, kA_16, kA_19, kA_22, kA_24, kA_26, kA_28, kA_31, kA_33, kA_35, kA_37, kA_39, kA_40, kA_42, kA_43, kA_44, kA_45, kS_2, kS_6, kS_7, kS_8, kS_9, kS_10, kS_11, kS_12, kS_13, kS_14, kS_15, kS_16, kS_19, kS_22, kS_24, kS_26, kS_28, kS_31, kS_33, kS_35, kS_37, kS_39, kS_40, kS_42, kS_43, kS_44, kS_45, rx_zret_t, rx_zretI, rx_zretP, kb_77_0, kb_77_10, kb_77_109, kb_77_115, kr_77, kf_41_384, kf_41_385, kf_41_386, List.getD_cons_zero, List.getD_cons_succ, List.set_cons_zero, List.set_cons_succ, ex_spl, ex_low, Option.toList, List.cons_append, List.nil_append, reduceIte, Int.reduceToNat, Nat.reduceDiv, Nat.reduceMod, Nat.reduceAdd, Nat.reduceMul, z_0, z_1, z_10, z_01, reduceCtorEq, ite_true, ite_false, true_and, and_true, ↓bI_01, ↓bP_01, ↓zret0, ↓zret1, z_add, z_sub, z_mul, up_1, up_2, not_true, not_false_iff, if_true, if_false, bI_T, bI_F, bP_T, bP_F, or_true, true_or, or_false, false_or, Int.reduceNeg, Int.reduceAdd, Int.reduceSub, Int.reduceMul, Int.reduceEq, Int.reduceLT, Int.reduceLE, Int.natCast_add, Int.cast_ofNat_Int]
      · obtain ⟨q1, q2⟩ := hset
        refine ⟨by rw [o3 _ _ (by omega)]; exact q1, fun t t0 t1 => ?_⟩
        rw [o3 _ _ (by omega), o3 _ _ (by omega), o3 _ _ (by omega)]; exact q2 t t0 t1
      · rw [o3 _ _ (by omega), up_n (by omega), up_n (by omega)]; exact o1' o k hk
      · rw [o3 _ _ (by omega), up_n (by omega), up_n (by omega)]; exact a1 k
    · rw [if_neg hm96, if_neg hm96]
      have em : (m : Int) = 96 := by omega
      have hset := rMu_set (c := B 5 (5 * u + 1)) (v := B 5 (5 * u + 2)) U1 u0
      rw [q_mv_id, hhome] at hset
      refine ⟨ex_up (ex_up w1 43 u.toNat (Int32.ofInt home)) 44 u.toNat (q_sp B (B 5 (5 * u)) (B 5 (5 * u + 1)) (B 5 (5 * u + 2))), ?_, ⟨hset, ⟨z', z0', z1', by rw [up_n (by omega), up_n (by omega)]; exact hz'⟩, fun o k hk => ?_⟩, fun k => ?_⟩
      · rw [em, kb_77_37]
        simp (disch := omega) only [ev_iload, ev_aload, rx_istore, ev_iinc, ev_push, ev_iand, ev_ior, ev_goto, ev_jsr, rx_ieq_t, rx_ieq_f, rx_ige_t, rx_ige_f, rx_zeq_t, rx_zeq_f, rx_zne_t, rx_zne_f, ev_getf, ev_iald, ev_call, ev_callv, nr_i, nr_r, nr_l, nr_n, kA_2, kA_6, kA_7, kA_8, kA_9, kA_10, kA_11, kA_12, kA_13, kA_14, kA_15, kA_16, kA_19, kA_22, kA_24, kA_26, kA_28, kA_31, kA_33, kA_35, kA_37, kA_39, kA_40, kA_42, kA_43, kA_44, kA_45, kS_2, kS_6, kS_7, kS_8, kS_9, kS_10, kS_11, kS_12, kS_13, kS_14, kS_15, kS_16, kS_19, kS_22, kS_24, kS_26, kS_28, kS_31, kS_33, kS_35, kS_37, kS_39, kS_40, kS_42, kS_43, kS_44, kS_45, rx_zret_t, rx_zretI, rx_zretP, kb_77_0, kb_77_10, kb_77_109, kb_77_115, kr_77, kf_41_384, kf_41_385, kf_41_386, List.getD_cons_zero, List.getD_cons_succ, List.set_cons_zero, List.set_cons_succ, ex_spl, ex_low, Option.toList, List.cons_append, List.nil_append, reduceIte, Int.reduceToNat, Nat.reduceDiv, Nat.reduceMod, Nat.reduceAdd, Nat.reduceMul, z_0, z_1, z_10, z_01, reduceCtorEq, ite_true, ite_false, true_and, and_true, ↓bI_01, ↓bP_01, ↓zret0, ↓zret1, z_add, z_sub, z_mul, up_1, up_2, not_true, not_false_iff, if_true, if_false, bI_T, bI_F, bP_T, bP_F, or_true, true_or, or_false, false_or, Int.reduceNeg, Int.reduceAdd, Int.reduceSub, Int.reduceMul, Int.reduceEq, Int.reduceLT, Int.reduceLE, Int.natCast_add, Int.cast_ofNat_Int]
      · rw [up_n (by omega), up_n (by omega)]; exact o1' o k hk
      · rw [up_n (by omega), up_n (by omega)]; exact a1 k
