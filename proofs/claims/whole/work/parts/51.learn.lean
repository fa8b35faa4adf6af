/-! habits: where each is AGAINST no LAW; what the class learns of it -/
def q_po (a : Int) : Int := if a = 0 then 1 else if a = 4 then 2 else 0
theorem q_po_r (a : Int) : 0 ≤ q_po a ∧ q_po a < 3 := by unfold q_po; split <;> (try split) <;> omega
/-- what place (c, v) gives: bit x of a cell's row -/
def q_gc (A : AS) (a h c v e x : Int) : Prop := q_op A c ∧ q_br A 0 a h (q_po a) c v = Int32.ofInt 0 ∧ (if 3 ≤ a then e = 0 ∧ x = c else if a = 0 then (¬ q_sp A 1 c v = Int32.ofInt 0) ∧ e = c ∧ x = v else e = q_nx A c v ∧ x = c)
def q_gn (A : AS) (a h n e x : Int) : Prop := ∃ c v, 0 ≤ c ∧ c < A 0 15 ∧ 0 ≤ v ∧ v < 4 ∧ 4 * c + v < n ∧ q_gc A a h c v e x
def q_gd (A : AS) (a h e x : Int) : Prop := ∃ c v, 0 ≤ c ∧ c < A 0 15 ∧ 0 ≤ v ∧ v < 4 ∧ q_gc A a h c v e x
theorem q_gn_0 {A : AS} {a h e x : Int} : ¬ q_gn A a h 0 e x := by rintro ⟨c, v, h1, h2, h3, h4, h5, h6⟩; omega
theorem q_gn_s {A : AS} {a h c v e x : Int} (c0 : 0 ≤ c) (c1 : c < A 0 15) (v0 : 0 ≤ v) (v1 : v < 4) : q_gn A a h (4 * c + v + 1) e x ↔ q_gn A a h (4 * c + v) e x ∨ q_gc A a h c v e x := by
  constructor
  · rintro ⟨c', v', h1, h2, h3, h4, h5, h6⟩
    by_cases hh : 4 * c' + v' < 4 * c + v
    · exact Or.inl ⟨c', v', h1, h2, h3, h4, hh, h6⟩
    · have hc : c' = c := by omega
      have hv : v' = v := by omega
      rw [hc, hv] at h6
      exact Or.inr h6
  · rintro (⟨c', v', h1, h2, h3, h4, h5, h6⟩ | h6)
    · exact ⟨c', v', h1, h2, h3, h4, by omega, h6⟩
    · exact ⟨c, v, c0, c1, v0, v1, by omega, h6⟩
theorem q_gn_d {A : AS} {a h e x : Int} : q_gn A a h (4 * A 0 15) e x ↔ q_gd A a h e x := by
  constructor
  · rintro ⟨c, v, h1, h2, h3, h4, h5, h6⟩; exact ⟨c, v, h1, h2, h3, h4, h6⟩
  · rintro ⟨c, v, h1, h2, h3, h4, h6⟩; exact ⟨c, v, h1, h2, h3, h4, by omega, h6⟩
theorem m_kadd {d : Nat} {w : PW} {h c : Int} {b : Int32} (h0 : 0 ≤ h) (h1 : h < 6) (c0 : 0 ≤ c) (c1 : c < 24) : ex_cal (d + 2) 45 [.ref 38, .int (Int32.ofInt h), .int (Int32.ofInt c), .int b] w = some (none, ex_up w 40 (h * 24 + c).toNat (w.1 40 (h * 24 + c).toNat ||| b)) := by
  rw [ke_45 kc_38]
  simp (disch := omega) only [m_below, bI_t, bI_f, ev_iload, ev_aload, ev_push, ev_iadd, ev_imul, ev_ior, ev_dup2, ev_jsr, rx_zeq_t, rx_zeq_f, ev_getf, ev_iald, ev_call, nr_i, nr_r, nr_l, nr_n, kA_2, kA_6, kA_7, kA_8, kA_9, kA_10, kA_11, kA_12, kA_13, kA_14, kA_15, kA_16, kA_19, kA_22, kA_24, kA_26, kA_28, kA_31, kA_33, kA_35, kA_37, kA_39, kA_40, kA_42, kA_43, kA_44, kA_45, kS_2, kS_6, kS_7, kS_8, kS_9, kS_10, kS_11, kS_12, kS_13, kS_14, kS_15, kS_16, kS_19, kS_22, kS_24, kS_26, kS_28, kS_31, kS_33, kS_35, kS_37, kS_39, kS_40, kS_42, kS_43, kS_44, kS_45, rx_vret, kb_45_0, kb_45_33, kr_45, kf_38_193, List.getD_cons_zero, List.getD_cons_succ, List.set_cons_zero, List.set_cons_succ, ex_spl, ex_low, Option.toList, List.cons_append, List.nil_append, reduceIte, Int.reduceToNat, Nat.reduceDiv, Nat.reduceMod, Nat.reduceAdd, Nat.reduceMul, z_0, z_1, z_10, z_01, reduceCtorEq, ite_true, ite_false, true_and, and_true, ↓bI_01, ↓bP_01, ↓zret0, ↓zret1, z_add, z_sub, z_mul, up_1, up_2, not_true, not_false_iff, if_true, if_false, bI_T, bI_F, bP_T, bP_F, or_true, true_or, or_false, false_or, Int.reduceNeg, Int.reduceAdd, Int.reduceSub, Int.reduceMul, Int.reduceEq, Int.reduceLT, Int.reduceLE, Int.natCast_add, Int.cast_ofNat_Int]
theorem m_kaddn {d : Nat} {w : PW} {h c : Int} {b : Int32} (h0 : 0 ≤ h) (h1 : h < 6) (c0 : c = -1) : ex_cal (d + 2) 45 [.ref 38, .int (Int32.ofInt h), .int (Int32.ofInt c), .int b] w = some (none, w) := by
  rw [ke_45 kc_38]
  simp (disch := omega) only [m_below, bI_t, bI_f, ev_iload, ev_aload, ev_push, ev_iadd, ev_imul, ev_ior, ev_dup2, ev_jsr, rx_zeq_t, rx_zeq_f, ev_getf, ev_iald, ev_call, nr_i, nr_r, nr_l, nr_n, kA_2, kA_6, kA_7, kA_8, kA_9, kA_10, kA_11, kA_12, kA_13, kA_14, kA_15, kA_16, kA_19, kA_22, kA_24, kA_26, kA_28, kA_31, kA_33, kA_35, kA_37, kA_39, kA_40, kA_42, kA_43, kA_44, kA_45, kS_2, kS_6, kS_7, kS_8, kS_9, kS_10, kS_11, kS_12, kS_13, kS_14, kS_15, kS_16, kS_19, kS_22, kS_24, kS_26, kS_28, kS_31, kS_33, kS_35, kS_37, kS_39, kS_40, kS_42, kS_43, kS_44, kS_45, rx_vret, kb_45_0, kb_45_33, kr_45, kf_38_193, List.getD_cons_zero, List.getD_cons_succ, List.set_cons_zero, List.set_cons_succ, ex_spl, ex_low, Option.toList, List.cons_append, List.nil_append, reduceIte, Int.reduceToNat, Nat.reduceDiv, Nat.reduceMod, Nat.reduceAdd, Nat.reduceMul, z_0, z_1, z_10, z_01, reduceCtorEq, ite_true, ite_false, true_and, and_true, ↓bI_01, ↓bP_01, ↓zret0, ↓zret1, z_add, z_sub, z_mul, up_1, up_2, not_true, not_false_iff, if_true, if_false, bI_T, bI_F, bP_T, bP_F, or_true, true_or, or_false, false_or, Int.reduceNeg, Int.reduceAdd, Int.reduceSub, Int.reduceMul, Int.reduceEq, Int.reduceLT, Int.reduceLE, Int.natCast_add, Int.cast_ofNat_Int]
/-- one row of good: as bits -/
def rGd (w : PW) (h : Int) (P : Int → Int → Prop) : Prop := ∀ e x, 0 ≤ e → e < 24 → 0 ≤ x → x < 32 → (q_bt (w.1 40 (h * 24 + e).toNat) x ↔ P e x)
theorem rGd_up {w : PW} {h e0 x0 : Int} {P : Int → Int → Prop} (hP : rGd w h P) (h0 : 0 ≤ h) (a0 : 0 ≤ e0) (a1 : e0 < 24) (b0 : 0 ≤ x0) (b1 : x0 < 32) : rGd (ex_up w 40 (h * 24 + e0).toNat (w.1 40 (h * 24 + e0).toNat ||| q_b x0)) h (fun e x => P e x ∨ (e = e0 ∧ x = x0)) := by
  intro e x c0 c1 d0 d1
  by_cases he : e = e0
  · rw [he, up_e (by omega), q_bt_or d0 d1, q_bt_bit b0 b1 d0 d1, hP e0 x a0 a1 d0 d1]
    constructor
    · rintro (q | q)
      · exact Or.inl q
      · exact Or.inr ⟨rfl, q⟩
    · rintro (q | q)
      · exact Or.inl q
      · exact Or.inr q.2
  · rw [up_n (by omega), hP e x c0 c1 d0 d1]
    exact ⟨Or.inl, fun q => q.elim id fun q => absurd q.1 he⟩
theorem rGd_cg {w : PW} {h : Int} {P Q : Int → Int → Prop} (hP : rGd w h P) (hPQ : ∀ e x, 0 ≤ e → e < 24 → 0 ≤ x → x < 32 → (P e x ↔ Q e x)) : rGd w h Q := fun e x c0 c1 d0 d1 => (hP e x c0 c1 d0 d1).trans (hPQ e x c0 c1 d0 d1)
theorem m_note {d : Nat} {A : AS} {w : PW} (hV : q_v0 A) (hC : rC A w) {h a hr c v : Int} (h0 : 0 ≤ h) (h1 : h < 6) (a0 : 0 ≤ a) (a1 : a < 6) (c0 : 0 ≤ c) (c1 : c < A 0 15) (v0 : 0 ≤ v) (v1 : v < 4) (hop : q_op A c) (hbr : q_br A 0 a hr (q_po a) c v = Int32.ofInt 0) {P : Int → Int → Prop} (hP : rGd w h P) : ∃ w', ex_cal (d + 3) 44 [.ref 38, .ref 5, .int (Int32.ofInt h), .int (Int32.ofInt a), .int (Int32.ofInt (4 * c + v))] w = some (none, w') ∧ (∀ o k, ¬ (o = 40 ∧ (h * 24).toNat ≤ k ∧ k < (h * 24).toNat + 24) → w'.1 o k = w.1 o k) ∧ rGd w' h (fun e x => P e x ∨ q_gc A a hr c v e x) := by
  have hrr := q_rng hV
  rw [ke_44 kc_38]
  by_cases h3 : 3 ≤ a
  · refine ⟨ex_up w 40 (h * 24 + 0).toNat (w.1 40 (h * 24 + 0).toNat ||| q_b c), ?_, fun o k hk => up_n (by omega), ?_⟩
    · simp (disch := omega) only [z_sh2, z_c4, m_kadd, q_b, ev_iload, ev_aload, rx_istore, ev_push, ev_iand, ev_ishl, ev_ishr, ev_goto, ev_jsr, rx_ilt_t, rx_ilt_f, rx_zeq_t, rx_zeq_f, ev_callv, nr_i, nr_r, nr_l, nr_n, rx_vret, kb_44_0, kb_44_24, kb_44_50, kb_44_73, kr_44, List.getD_cons_zero, List.getD_cons_succ, List.set_cons_zero, List.set_cons_succ, ex_spl, ex_low, Option.toList, List.cons_append, List.nil_append, reduceIte, Int.reduceToNat, Nat.reduceDiv, Nat.reduceMod, Nat.reduceAdd, Nat.reduceMul, z_0, z_1, z_10, z_01, reduceCtorEq, ite_true, ite_false, true_and, and_true, ↓bI_01, ↓bP_01, ↓zret0, ↓zret1, z_add, z_sub, z_mul, up_1, up_2, not_true, not_false_iff, if_true, if_false, bI_T, bI_F, bP_T, bP_F, or_true, true_or, or_false, false_or, Int.reduceNeg, Int.reduceAdd, Int.reduceSub, Int.reduceMul, Int.reduceEq, Int.reduceLT, Int.reduceLE, Int.natCast_add, Int.cast_ofNat_Int]
    · refine rGd_cg (rGd_up hP h0 (by omega) (by omega) c0 (by omega)) fun e x e0 e1 x0 x1 => ?_
      unfold q_gc
      rw [if_pos h3]
      exact ⟨fun q => q.imp id fun q => ⟨hop, hbr, q⟩, fun q => q.imp id fun q => q.2.2⟩
  · by_cases h0a : a = 0
    · by_cases hs : q_sp A 1 c v = Int32.ofInt 0
      · refine ⟨w, ?_, fun o k hk => rfl, ?_⟩
        · simp (disch := omega) only [z_sh2, z_c4, z_an3, z_v4, m_spot hV.1 hC.1, hs, ev_iload, ev_aload, rx_istore, ev_push, ev_iand, ev_ishl, ev_ishr, ev_goto, ev_jsr, rx_ilt_t, rx_ilt_f, rx_zeq_t, rx_zeq_f, ev_callv, nr_i, nr_r, nr_l, nr_n, rx_vret, kb_44_0, kb_44_24, kb_44_50, kb_44_73, kr_44, List.getD_cons_zero, List.getD_cons_succ, List.set_cons_zero, List.set_cons_succ, ex_spl, ex_low, Option.toList, List.cons_append, List.nil_append, reduceIte, Int.reduceToNat, Nat.reduceDiv, Nat.reduceMod, Nat.reduceAdd, Nat.reduceMul, z_0, z_1, z_10, z_01, reduceCtorEq, ite_true, ite_false, true_and, and_true, ↓bI_01, ↓bP_01, ↓zret0, ↓zret1, z_add, z_sub, z_mul, up_1, up_2, not_true, not_false_iff, if_true, if_false, bI_T, bI_F, bP_T, bP_F, or_true, true_or, or_false, false_or, Int.reduceNeg, Int.reduceAdd, Int.reduceSub, Int.reduceMul, Int.reduceEq, Int.reduceLT, Int.reduceLE, Int.natCast_add, Int.cast_ofNat_Int]
        · refine rGd_cg hP fun e x e0 e1 x0 x1 => ?_
          unfold q_gc
          rw [if_neg h3, if_pos h0a]
          exact ⟨Or.inl, fun q => q.elim id fun q => absurd hs q.2.2.1⟩
      · refine ⟨ex_up w 40 (h * 24 + c).toNat (w.1 40 (h * 24 + c).toNat ||| q_b v), ?_, fun o k hk => up_n (by omega), ?_⟩
        · have e1 := m_spot (d := d) hV.1 hC.1 (k := 1) (c := c) (v := v) (by omega) (by omega) c0 (by omega) v0 v1
          generalize q_sp A 1 c v = z at *
          simp (disch := omega) only [z_sh2, z_c4, z_an3, z_v4, e1, m_kadd, q_b, rx_xeq_f hs, ev_iload, ev_aload, rx_istore, ev_push, ev_iand, ev_ishl, ev_ishr, ev_goto, ev_jsr, rx_ilt_t, rx_ilt_f, rx_zeq_t, rx_zeq_f, ev_callv, nr_i, nr_r, nr_l, nr_n, rx_vret, kb_44_0, kb_44_24, kb_44_50, kb_44_73, kr_44, List.getD_cons_zero, List.getD_cons_succ, List.set_cons_zero, List.set_cons_succ, ex_spl, ex_low, Option.toList, List.cons_append, List.nil_append, reduceIte, Int.reduceToNat, Nat.reduceDiv, Nat.reduceMod, Nat.reduceAdd, Nat.reduceMul, z_0, z_1, z_10, z_01, reduceCtorEq, ite_true, ite_false, true_and, and_true, ↓bI_01, ↓bP_01, ↓zret0, ↓zret1, z_add, z_sub, z_mul, up_1, up_2, not_true, not_false_iff, if_true, if_false, bI_T, bI_F, bP_T, bP_F, or_true, true_or, or_false, false_or, Int.reduceNeg, Int.reduceAdd, Int.reduceSub, Int.reduceMul, Int.reduceEq, Int.reduceLT, Int.reduceLE, Int.natCast_add, Int.cast_ofNat_Int]
        · refine rGd_cg (rGd_up hP h0 c0 (by omega) v0 (by omega)) fun e x e0 e1 x0 x1 => ?_
          unfold q_gc
          rw [if_neg h3, if_pos h0a]
          exact ⟨fun q => q.imp id fun q => ⟨hop, hbr, hs, q⟩, fun q => q.imp id fun q => q.2.2.2⟩
    · have hn := q_nxr hV.1 c0 c1 v
      have en := m_next (d := d) hV.1 hC.1 (c := c) (v := v) c0 c1 v0 v1
      by_cases hm : q_nx A c v = -1
      · rw [hm] at en
        refine ⟨w, ?_, fun o k hk => rfl, ?_⟩
        · simp (disch := omega) only [z_sh2, z_c4, z_an3, z_v4, en, m_kaddn, ev_iload, ev_aload, rx_istore, ev_push, ev_iand, ev_ishl, ev_ishr, ev_goto, ev_jsr, rx_ilt_t, rx_ilt_f, rx_zeq_t, rx_zeq_f, ev_callv, nr_i, nr_r, nr_l, nr_n, rx_vret, kb_44_0, kb_44_24, kb_44_50, kb_44_73, kr_44, List.getD_cons_zero, List.getD_cons_succ, List.set_cons_zero, List.set_cons_succ, ex_spl, ex_low, Option.toList, List.cons_append, List.nil_append, reduceIte, Int.reduceToNat, Nat.reduceDiv, Nat.reduceMod, Nat.reduceAdd, Nat.reduceMul, z_0, z_1, z_10, z_01, reduceCtorEq, ite_true, ite_false, true_and, and_true, ↓bI_01, ↓bP_01, ↓zret0, ↓zret1, z_add, z_sub, z_mul, up_1, up_2, not_true, not_false_iff, if_true, if_false, bI_T, bI_F, bP_T, bP_F, or_true, true_or, or_false, false_or, Int.reduceNeg, Int.reduceAdd, Int.reduceSub, Int.reduceMul, Int.reduceEq, Int.reduceLT, Int.reduceLE, Int.natCast_add, Int.cast_ofNat_Int]
        · refine rGd_cg hP fun e x e0 e1 x0 x1 => ?_
          unfold q_gc
          rw [if_neg h3, if_neg h0a, hm]
          exact ⟨Or.inl, fun q => q.elim id fun q => absurd q.2.2.1 (by omega)⟩
      · refine ⟨ex_up w 40 (h * 24 + q_nx A c v).toNat (w.1 40 (h * 24 + q_nx A c v).toNat ||| q_b c), ?_, fun o k hk => up_n (by omega), ?_⟩
        · simp (disch := omega) only [z_sh2, z_c4, z_an3, z_v4, en, m_kadd, q_b, ev_iload, ev_aload, rx_istore, ev_push, ev_iand, ev_ishl, ev_ishr, ev_goto, ev_jsr, rx_ilt_t, rx_ilt_f, rx_zeq_t, rx_zeq_f, ev_callv, nr_i, nr_r, nr_l, nr_n, rx_vret, kb_44_0, kb_44_24, kb_44_50, kb_44_73, kr_44, List.getD_cons_zero, List.getD_cons_succ, List.set_cons_zero, List.set_cons_succ, ex_spl, ex_low, Option.toList, List.cons_append, List.nil_append, reduceIte, Int.reduceToNat, Nat.reduceDiv, Nat.reduceMod, Nat.reduceAdd, Nat.reduceMul, z_0, z_1, z_10, z_01, reduceCtorEq, ite_true, ite_false, true_and, and_true, ↓bI_01, ↓bP_01, ↓zret0, ↓zret1, z_add, z_sub, z_mul, up_1, up_2, not_true, not_false_iff, if_true, if_false, bI_T, bI_F, bP_T, bP_F, or_true, true_or, or_false, false_or, Int.reduceNeg, Int.reduceAdd, Int.reduceSub, Int.reduceMul, Int.reduceEq, Int.reduceLT, Int.reduceLE, Int.natCast_add, Int.cast_ofNat_Int]
        · refine rGd_cg (rGd_up hP h0 (by omega) (by omega) c0 (by omega)) fun e x e0 e1 x0 x1 => ?_
          unfold q_gc
          rw [if_neg h3, if_neg h0a]
          exact ⟨fun q => q.imp id fun q => ⟨hop, hbr, q⟩, fun q => q.imp id fun q => q.2.2⟩
theorem m_learnOne {d : Nat} {A : AS} {w : PW} (hV : q_v0 A) (hC : rC A w) {h a hr : Int} (h0 : 0 ≤ h) (h1 : h < 6) (a0 : 0 ≤ a) (a1 : a < 6) (r0 : 0 ≤ hr) (r1 : hr < 24) (ha : w.1 39 h.toNat = Int32.ofInt a) (hz : rGd w h (fun _ _ => False)) : ∃ w', ex_cal (d + 5) 42 [.ref 38, .ref 5, .ref 17, .int (Int32.ofInt h), .int (Int32.ofInt hr)] w = some (none, w') ∧ (∀ o k, ¬ (o = 40 ∧ (h * 24).toNat ≤ k ∧ k < (h * 24).toNat + 24) → w'.1 o k = w.1 o k) ∧ rGd w' h (q_gd A a hr) := by
  have hrr := q_rng hV
  have hpo := q_po_r a
  have e1 : ex_cal (d + 4) 47 [.ref 38, .int (Int32.ofInt h)] w = some (some (.int (Int32.ofInt a)), w) := by
    rw [ke_47 kc_38]
    simp (disch := omega) only [ha, ev_iload, ev_aload, ev_push, ev_goto, ev_jsr, rx_ige_t, rx_ige_f, rx_zlt_t, rx_zlt_f, ev_getf, ev_iald, nr_i, nr_r, nr_l, nr_n, kA_2, kA_6, kA_7, kA_8, kA_9, kA_10, kA_11, kA_12, kA_13, kA_14, kA_15, kA_16, kA_19, kA_22, kA_24, kA_26, kA_28, kA_31, kA_33, kA_35, kA_37, kA_39, kA_40, kA_42, kA_43, kA_44, kA_45, rx_iret, kb_47_0, kb_47_19, kb_47_20, kr_47, kf_38_192, List.getD_cons_zero, List.getD_cons_succ, List.set_cons_zero, List.set_cons_succ, ex_spl, ex_low, Option.toList, List.cons_append, List.nil_append, reduceIte, Int.reduceToNat, Nat.reduceDiv, Nat.reduceMod, Nat.reduceAdd, Nat.reduceMul, z_0, z_1, z_10, z_01, reduceCtorEq, ite_true, ite_false, true_and, and_true, ↓bI_01, ↓bP_01, ↓zret0, ↓zret1, z_add, z_sub, z_mul, up_1, up_2, not_true, not_false_iff, if_true, if_false, bI_T, bI_F, bP_T, bP_F, or_true, true_or, or_false, false_or, Int.reduceNeg, Int.reduceAdd, Int.reduceSub, Int.reduceMul, Int.reduceEq, Int.reduceLT, Int.reduceLE, Int.natCast_add, Int.cast_ofNat_Int]
  have e2 : ex_cal (d + 4) 43 [.int (Int32.ofInt a)] w = some (some (.int (Int32.ofInt (q_po a))), w) := by
    rw [ke_43]
    unfold q_po
    by_cases h3 : a = 0
    · rw [if_pos h3]
      simp (disch := omega) only [ev_iload, ev_push, ev_goto, ev_jsr, rx_ine_t, rx_ine_f, rx_zne_t, rx_zne_f, nr_i, nr_r, nr_l, nr_n, rx_iret, kb_43_0, kb_43_6, kb_43_15, kb_43_16, kr_43, List.getD_cons_zero, List.getD_cons_succ, List.set_cons_zero, List.set_cons_succ, ex_spl, ex_low, Option.toList, List.cons_append, List.nil_append, reduceIte, Int.reduceToNat, Nat.reduceDiv, Nat.reduceMod, Nat.reduceAdd, Nat.reduceMul, z_0, z_1, z_10, z_01, reduceCtorEq, ite_true, ite_false, true_and, and_true, ↓bI_01, ↓bP_01, ↓zret0, ↓zret1, z_add, z_sub, z_mul, up_1, up_2, not_true, not_false_iff, if_true, if_false, bI_T, bI_F, bP_T, bP_F, or_true, true_or, or_false, false_or, Int.reduceNeg, Int.reduceAdd, Int.reduceSub, Int.reduceMul, Int.reduceEq, Int.reduceLT, Int.reduceLE, Int.natCast_add, Int.cast_ofNat_Int]
    · rw [if_neg h3]
      by_cases h4 : a = 4
      · rw [if_pos h4]
        simp (disch := omega) only [ev_iload, ev_push, ev_goto, ev_jsr, rx_ine_t, rx_ine_f, rx_zne_t, rx_zne_f, nr_i, nr_r, nr_l, nr_n, rx_iret, kb_43_0, kb_43_6, kb_43_15, kb_43_16, kr_43, List.getD_cons_zero, List.getD_cons_succ, List.set_cons_zero, List.set_cons_succ, ex_spl, ex_low, Option.toList, List.cons_append, List.nil_append, reduceIte, Int.reduceToNat, Nat.reduceDiv, Nat.reduceMod, Nat.reduceAdd, Nat.reduceMul, z_0, z_1, z_10, z_01, reduceCtorEq, ite_true, ite_false, true_and, and_true, ↓bI_01, ↓bP_01, ↓zret0, ↓zret1, z_add, z_sub, z_mul, up_1, up_2, not_true, not_false_iff, if_true, if_false, bI_T, bI_F, bP_T, bP_F, or_true, true_or, or_false, false_or, Int.reduceNeg, Int.reduceAdd, Int.reduceSub, Int.reduceMul, Int.reduceEq, Int.reduceLT, Int.reduceLE, Int.natCast_add, Int.cast_ofNat_Int]
      · rw [if_neg h4]
        simp (disch := omega) only [ev_iload, ev_push, ev_goto, ev_jsr, rx_ine_t, rx_ine_f, rx_zne_t, rx_zne_f, nr_i, nr_r, nr_l, nr_n, rx_iret, kb_43_0, kb_43_6, kb_43_15, kb_43_16, kr_43, List.getD_cons_zero, List.getD_cons_succ, List.set_cons_zero, List.set_cons_succ, ex_spl, ex_low, Option.toList, List.cons_append, List.nil_append, reduceIte, Int.reduceToNat, Nat.reduceDiv, Nat.reduceMod, Nat.reduceAdd, Nat.reduceMul, z_0, z_1, z_10, z_01, reduceCtorEq, ite_true, ite_false, true_and, and_true, ↓bI_01, ↓bP_01, ↓zret0, ↓zret1, z_add, z_sub, z_mul, up_1, up_2, not_true, not_false_iff, if_true, if_false, bI_T, bI_F, bP_T, bP_F, or_true, true_or, or_false, false_or, Int.reduceNeg, Int.reduceAdd, Int.reduceSub, Int.reduceMul, Int.reduceEq, Int.reduceLT, Int.reduceLE, Int.natCast_add, Int.cast_ofNat_Int]
  rw [ke_42 kc_38]
  simp (disch := omega) only [e1, e2, ev_iload, ev_aload, rx_istore, ev_iinc, ev_push, ev_imul, ev_ishr, ev_goto, ev_jsr, rx_ige_t, rx_ige_f, rx_zeq_t, rx_zeq_f, rx_zne_t, rx_zne_f, ev_call, ev_callv, nr_i, nr_r, nr_l, nr_n, rx_vret, kb_42_0, kb_42_66, kb_42_72, kr_42, List.getD_cons_zero, List.getD_cons_succ, List.set_cons_zero, List.set_cons_succ, ex_spl, ex_low, Option.toList, List.cons_append, List.nil_append, reduceIte, Int.reduceToNat, Nat.reduceDiv, Nat.reduceMod, Nat.reduceAdd, Nat.reduceMul, z_0, z_1, z_10, z_01, reduceCtorEq, ite_true, ite_false, true_and, and_true, ↓bI_01, ↓bP_01, ↓zret0, ↓zret1, z_add, z_sub, z_mul, up_1, up_2, not_true, not_false_iff, if_true, if_false, bI_T, bI_F, bP_T, bP_F, or_true, true_or, or_false, false_or, Int.reduceNeg, Int.reduceAdd, Int.reduceSub, Int.reduceMul, Int.reduceEq, Int.reduceLT, Int.reduceLE, Int.natCast_add, Int.cast_ofNat_Int]
  refine ex_loop (Q := fun q => ∃ w', q = some (none, w') ∧ (∀ o k, ¬ (o = 40 ∧ (h * 24).toNat ≤ k ∧ k < (h * 24).toNat + 24) → w'.1 o k = w.1 o k) ∧ rGd w' h (q_gd A a hr)) (fun i s => ∃ w1, s = (ex_blk 42 17, [.ref 38, .ref 5, .ref 17, .int (Int32.ofInt h), .int (Int32.ofInt hr), .int (Int32.ofInt a), .int (Int32.ofInt (q_po a)), .int (Int32.ofInt (i : Int))], [], w1) ∧ (∀ o k, ¬ (o = 40 ∧ (h * 24).toNat ≤ k ∧ k < (h * 24).toNat + 24) → w1.1 o k = w.1 o k) ∧ rGd w1 h (q_gn A a hr i)) (4 * A 0 15).toNat ?_ ?_ ?_
  · exact ⟨w, rfl, fun _ _ _ => rfl, rGd_cg hz fun e x _ _ _ _ => ⟨fun q => q.elim, fun q => q_gn_0 q⟩⟩
  · rintro i s hi ⟨w1, rfl, o1, g1⟩
    right
    have hC1 : rC A w1 := rC_cg hC fun o k hk => o1 o k (fun hh => hk (by unfold tC; omega))
    obtain ⟨c, v, hcv⟩ : ∃ c v : Int, (i : Int) = 4 * c + v ∧ 0 ≤ c ∧ 0 ≤ v ∧ v < 4 := ⟨(i : Int) / 4, (i : Int) % 4, by omega, by omega, by omega, by omega⟩
    obtain ⟨hi', c0, v0, v1⟩ := hcv
    have c1 : c < A 0 15 := by omega
    have ebr := m_broken (d := d) hV hC1 (a := a) (h := hr) (p := q_po a) (c := c) (v := v) (b := 0) a0 a1 r0 r1 hpo.1 hpo.2 c0 c1 v0 v1 (by omega) (by omega)
    rw [hi'] at g1 ⊢
    have nxt : ∀ w2 : PW, (∀ o k, ¬ (o = 40 ∧ (h * 24).toNat ≤ k ∧ k < (h * 24).toNat + 24) → w2.1 o k = w1.1 o k) → rGd w2 h (fun e x => q_gn A a hr (4 * c + v) e x ∨ q_gc A a hr c v e x) → ex_ev (d + 4) (ex_cal (d + 4)) 42 (ex_blk 42 17, [.ref 38, .ref 5, .ref 17, .int (Int32.ofInt h), .int (Int32.ofInt hr), .int (Int32.ofInt a), .int (Int32.ofInt (q_po a)), .int (Int32.ofInt (4 * c + v))], [], w1) = ex_ev (d + 4) (ex_cal (d + 4)) 42 (ex_blk 42 17, [.ref 38, .ref 5, .ref 17, .int (Int32.ofInt h), .int (Int32.ofInt hr), .int (Int32.ofInt a), .int (Int32.ofInt (q_po a)), .int (Int32.ofInt (4 * c + v + 1))], [], w2) → ∃ s', ex_ev (d + 4) (ex_cal (d + 4)) 42 (ex_blk 42 17, [.ref 38, .ref 5, .ref 17, .int (Int32.ofInt h), .int (Int32.ofInt hr), .int (Int32.ofInt a), .int (Int32.ofInt (q_po a)), .int (Int32.ofInt (4 * c + v))], [], w1) = ex_ev (d + 4) (ex_cal (d + 4)) 42 s' ∧ ∃ w1, s' = (ex_blk 42 17, [.ref 38, .ref 5, .ref 17, .int (Int32.ofInt h), .int (Int32.ofInt hr), .int (Int32.ofInt a), .int (Int32.ofInt (q_po a)), .int (Int32.ofInt ((i + 1 : Nat) : Int))], [], w1) ∧ (∀ o k, ¬ (o = 40 ∧ (h * 24).toNat ≤ k ∧ k < (h * 24).toNat + 24) → w1.1 o k = w.1 o k) ∧ rGd w1 h (q_gn A a hr ((i + 1 : Nat) : Int)) := by
      intro w2 o2 g2 e
      have ei : ((i + 1 : Nat) : Int) = 4 * c + v + 1 := by omega
      rw [ei]
      exact ⟨_, e, w2, rfl, fun o k hk => (o2 o k hk).trans (o1 o k hk), rGd_cg g2 fun e x _ _ _ _ => (q_gn_s c0 c1 v0 v1).symm⟩
    by_cases hop : q_op A c
    · have b1 : bI (q_op A c) = Int32.ofInt 1 := bI_t hop
      by_cases hbr : q_br A 0 a hr (q_po a) c v = Int32.ofInt 0
      · obtain ⟨w2, e3, o2, g2⟩ := m_note (d := d + 1) hV hC1 h0 h1 a0 a1 c0 c1 v0 v1 hop hbr g1
        rw [hbr] at ebr
        refine nxt w2 o2 g2 ?_
        conv => lhs; rw [kb_42_17]
        simp (disch := omega) only [m_cells hC1.1.1, z_sh2, z_c4, m_isOpen hV.1 hC1.1.1, b1, ebr, e3, ev_iload, ev_aload, rx_istore, ev_iinc, ev_push, ev_imul, ev_ishr, ev_goto, ev_jsr, rx_ige_t, rx_ige_f, rx_zeq_t, rx_zeq_f, rx_zne_t, rx_zne_f, ev_call, ev_callv, nr_i, nr_r, nr_l, nr_n, rx_vret, kb_42_0, kb_42_66, kb_42_72, kr_42, List.getD_cons_zero, List.getD_cons_succ, List.set_cons_zero, List.set_cons_succ, ex_spl, ex_low, Option.toList, List.cons_append, List.nil_append, reduceIte, Int.reduceToNat, Nat.reduceDiv, Nat.reduceMod, Nat.reduceAdd, Nat.reduceMul, z_0, z_1, z_10, z_01, reduceCtorEq, ite_true, ite_false, true_and, and_true, ↓bI_01, ↓bP_01, ↓zret0, ↓zret1, z_add, z_sub, z_mul, up_1, up_2, not_true, not_false_iff, if_true, if_false, bI_T, bI_F, bP_T, bP_F, or_true, true_or, or_false, false_or, Int.reduceNeg, Int.reduceAdd, Int.reduceSub, Int.reduceMul, Int.reduceEq, Int.reduceLT, Int.reduceLE, Int.natCast_add, Int.cast_ofNat_Int]
      · refine nxt w1 (fun _ _ _ => rfl) (rGd_cg g1 fun e x _ _ _ _ => ⟨Or.inl, fun q => q.elim id fun q => absurd q.2.1 hbr⟩) ?_
        generalize q_br A 0 a hr (q_po a) c v = z at *
        conv => lhs; rw [kb_42_17]
        simp (disch := omega) only [m_cells hC1.1.1, z_sh2, z_c4, m_isOpen hV.1 hC1.1.1, b1, ebr, rx_xne_t hbr, ev_iload, ev_aload, rx_istore, ev_iinc, ev_push, ev_imul, ev_ishr, ev_goto, ev_jsr, rx_ige_t, rx_ige_f, rx_zeq_t, rx_zeq_f, rx_zne_t, rx_zne_f, ev_call, ev_callv, nr_i, nr_r, nr_l, nr_n, rx_vret, kb_42_0, kb_42_66, kb_42_72, kr_42, List.getD_cons_zero, List.getD_cons_succ, List.set_cons_zero, List.set_cons_succ, ex_spl, ex_low, Option.toList, List.cons_append, List.nil_append, reduceIte, Int.reduceToNat, Nat.reduceDiv, Nat.reduceMod, Nat.reduceAdd, Nat.reduceMul, z_0, z_1, z_10, z_01, reduceCtorEq, ite_true, ite_false, true_and, and_true, ↓bI_01, ↓bP_01, ↓zret0, ↓zret1, z_add, z_sub, z_mul, up_1, up_2, not_true, not_false_iff, if_true, if_false, bI_T, bI_F, bP_T, bP_F, or_true, true_or, or_false, false_or, Int.reduceNeg, Int.reduceAdd, Int.reduceSub, Int.reduceMul, Int.reduceEq, Int.reduceLT, Int.reduceLE, Int.natCast_add, Int.cast_ofNat_Int]
    · have b1 : bI (q_op A c) = Int32.ofInt 0 := bI_f hop
      refine nxt w1 (fun _ _ _ => rfl) (rGd_cg g1 fun e x _ _ _ _ => ⟨Or.inl, fun q => q.elim id fun q => absurd q.1 hop⟩) ?_
      conv => lhs; rw [kb_42_17]
      simp (disch := omega) only [m_cells hC1.1.1, z_sh2, z_c4, m_isOpen hV.1 hC1.1.1, b1, ev_iload, ev_aload, rx_istore, ev_iinc, ev_push, ev_imul, ev_ishr, ev_goto, ev_jsr, rx_ige_t, rx_ige_f, rx_zeq_t, rx_zeq_f, rx_zne_t, rx_zne_f, ev_call, ev_callv, nr_i, nr_r, nr_l, nr_n, rx_vret, kb_42_0, kb_42_66, kb_42_72, kr_42, List.getD_cons_zero, List.getD_cons_succ, List.set_cons_zero, List.set_cons_succ, ex_spl, ex_low, Option.toList, List.cons_append, List.nil_append, reduceIte, Int.reduceToNat, Nat.reduceDiv, Nat.reduceMod, Nat.reduceAdd, Nat.reduceMul, z_0, z_1, z_10, z_01, reduceCtorEq, ite_true, ite_false, true_and, and_true, ↓bI_01, ↓bP_01, ↓zret0, ↓zret1, z_add, z_sub, z_mul, up_1, up_2, not_true, not_false_iff, if_true, if_false, bI_T, bI_F, bP_T, bP_F, or_true, true_or, or_false, false_or, Int.reduceNeg, Int.reduceAdd, Int.reduceSub, Int.reduceMul, Int.reduceEq, Int.reduceLT, Int.reduceLE, Int.natCast_add, Int.cast_ofNat_Int]
  · rintro s ⟨w1, rfl, o1, g1⟩
    have hC1 : rC A w1 := rC_cg hC fun o k hk => o1 o k (fun hh => hk (by unfold tC; omega))
    rw [Int.toNat_of_nonneg (by omega)] at g1 ⊢
    refine ⟨w1, ?_, o1, rGd_cg g1 fun e x _ _ _ _ => q_gn_d⟩
    rw [kb_42_17]
    simp (disch := omega) only [m_cells hC1.1.1, ev_iload, ev_aload, rx_istore, ev_iinc, ev_push, ev_imul, ev_ishr, ev_goto, ev_jsr, rx_ige_t, rx_ige_f, rx_zeq_t, rx_zeq_f, rx_zne_t, rx_zne_f, ev_call, ev_callv, nr_i, nr_r, nr_l, nr_n, rx_vret, kb_42_0, kb_42_66, kb_42_72, kr_42, List.getD_cons_zero, List.getD_cons_succ, List.set_cons_zero, List.set_cons_succ, ex_spl, ex_low, Option.toList, List.cons_append, List.nil_append, reduceIte, Int.reduceToNat, Nat.reduceDiv, Nat.reduceMod, Nat.reduceAdd, Nat.reduceMul, z_0, z_1, z_10, z_01, reduceCtorEq, ite_true, ite_false, true_and, and_true, ↓bI_01, ↓bP_01, ↓zret0, ↓zret1, z_add, z_sub, z_mul, up_1, up_2, not_true, not_false_iff, if_true, if_false, bI_T, bI_F, bP_T, bP_F, or_true, true_or, or_false, false_or, Int.reduceNeg, Int.reduceAdd, Int.reduceSub, Int.reduceMul, Int.reduceEq, Int.reduceLT, Int.reduceLE, Int.natCast_add, Int.cast_ofNat_Int]
/-- what is learned of the first n habits -/
def rKp (A : AS) (w : PW) (n : Int) : Prop := ∀ h, 0 ≤ h → h < n → w.1 39 h.toNat = Int32.ofInt (A 6 (5 * h)) ∧ rGd w h (q_gd A (A 6 (5 * h)) (A 6 (5 * h + 1)))
theorem m_learn {d : Nat} {A : AS} {w : PW} (hV : q_v0 A) (hC : rC A w) : ∃ w', ex_cal (d + 6) 41 [.ref 38, .ref 5, .ref 17, .ref 20] w = some (none, w') ∧ (∀ o k, ¬ (38 ≤ o ∧ o < 41) → w'.1 o k = w.1 o k) ∧ w'.1 38 2 = Int32.ofInt (A 0 6) ∧ rKp A w' (A 0 6) := by
  have hrr := q_rng hV
  have hvb := hV.2.2.2.2.2.1.2.2
  have hsz : w.1 25 2 = Int32.ofInt (A 0 6) := hC.2.2.2.2.2.2.2.1.2.1
  have em : (if A 0 6 < 6 then A 0 6 else 6) = A 0 6 := by split <;> omega
  rw [ke_41 kc_38]
  simp (disch := omega) only [m_tsize tb_25, hsz, em, ev_iload, ev_aload, rx_istore, ev_iinc, ev_push, ev_iadd, ev_imul, ev_goto, ev_jsr, rx_ige_t, rx_ige_f, ev_getf, ev_putf, ev_putl, ev_callv, rx_max0, rx_min1, nr_i, nr_r, nr_l, nr_n, kS_2, kS_6, kS_7, kS_8, kS_9, kS_10, kS_11, kS_12, kS_13, kS_14, kS_15, kS_16, kS_19, kS_22, kS_24, kS_26, kS_28, kS_31, kS_33, kS_35, kS_37, kS_39, kS_40, kS_42, kS_43, kS_44, kS_45, rx_vret, kb_41_0, kb_41_75, kb_41_99, kr_41, kf_20_2, kf_29_2, kf_38_192, kf_38_193, kf_38_194, kk_38_194, List.getD_cons_zero, List.getD_cons_succ, List.set_cons_zero, List.set_cons_succ, ex_spl, ex_low, Option.toList, List.cons_append, List.nil_append, reduceIte, Int.reduceToNat, Nat.reduceDiv, Nat.reduceMod, Nat.reduceAdd, Nat.reduceMul, z_0, z_1, z_10, z_01, reduceCtorEq, ite_true, ite_false, true_and, and_true, ↓bI_01, ↓bP_01, ↓zret0, ↓zret1, z_add, z_sub, z_mul, up_1, up_2, not_true, not_false_iff, if_true, if_false, bI_T, bI_F, bP_T, bP_F, or_true, true_or, or_false, false_or, Int.reduceNeg, Int.reduceAdd, Int.reduceSub, Int.reduceMul, Int.reduceEq, Int.reduceLT, Int.reduceLE, Int.natCast_add, Int.cast_ofNat_Int]
  refine ex_loop (Q := fun q => ∃ w', q = some (none, w') ∧ (∀ o k, ¬ (38 ≤ o ∧ o < 41) → w'.1 o k = w.1 o k) ∧ w'.1 38 2 = Int32.ofInt (A 0 6) ∧ rKp A w' (A 0 6)) (fun i s => ∃ w1 v5, s = (ex_blk 41 19, [.ref 38, .ref 5, .ref 17, .ref 20, .int (Int32.ofInt (i : Int)), v5], [], w1) ∧ xv v5 ∧ (∀ o k, ¬ (38 ≤ o ∧ o < 41) → w1.1 o k = w.1 o k) ∧ w1.1 38 2 = Int32.ofInt (A 0 6) ∧ rKp A w1 i) (A 0 6).toNat ?_ ?_ ?_
  · exact ⟨_, .null, rfl, xv_n, fun o k hk => up_n (by omega), up_s, fun h h0 h1 => absurd h1 (by omega)⟩
  · rintro i s hi ⟨w1, v5, rfl, x5, o1, s1, k1⟩
    right
    have hC1 : rC A w1 := rC_cg hC fun o k hk => o1 o k (fun hh => hk (by unfold tC; omega))
    have ht25 := hC1.2.2.2.2.2.2.2.1
    have hb := hvb i (by omega) (by omega)
    -- the row is made empty
    have hzero : ∃ w2, ex_ev (d + 5) (ex_cal (d + 5)) 41 (ex_blk 41 48, [.ref 38, .ref 5, .ref 17, .ref 20, .int (Int32.ofInt (i : Int)), .int (Int32.ofInt 0)], [], ex_up w1 39 (i : Int).toNat (Int32.ofInt (A 6 (5 * i)))) = ex_ev (d + 5) (ex_cal (d + 5)) 41 (ex_blk 41 48, [.ref 38, .ref 5, .ref 17, .ref 20, .int (Int32.ofInt (i : Int)), .int (Int32.ofInt 24)], [], w2) ∧ (∀ o k, ¬ (o = 40 ∧ ((i : Int) * 24).toNat ≤ k ∧ k < ((i : Int) * 24).toNat + 24) → w2.1 o k = (ex_up w1 39 (i : Int).toNat (Int32.ofInt (A 6 (5 * i)))).1 o k) ∧ ∀ e, 0 ≤ e → e < 24 → w2.1 40 ((i : Int) * 24 + e).toNat = Int32.ofInt 0 := by
      obtain ⟨s', e', w2, rfl, o2, z2⟩ := ex_iterI (d := d + 5) (cal := ex_cal (d + 5)) (y := 41) (fun j s => ∃ w2, s = (ex_blk 41 48, [.ref 38, .ref 5, .ref 17, .ref 20, .int (Int32.ofInt (i : Int)), .int (Int32.ofInt (j : Int))], [], w2) ∧ (∀ o k, ¬ (o = 40 ∧ ((i : Int) * 24).toNat ≤ k ∧ k < ((i : Int) * 24).toNat + 24) → w2.1 o k = (ex_up w1 39 (i : Int).toNat (Int32.ofInt (A 6 (5 * i)))).1 o k) ∧ ∀ e, 0 ≤ e → e < (j : Int) → w2.1 40 ((i : Int) * 24 + e).toNat = Int32.ofInt 0) (a := 0) (n := 24) (s := (ex_blk 41 48, [.ref 38, .ref 5, .ref 17, .ref 20, .int (Int32.ofInt (i : Int)), .int (Int32.ofInt 0)], [], ex_up w1 39 (i : Int).toNat (Int32.ofInt (A 6 (5 * i))))) (by omega) ⟨_, rfl, fun _ _ _ => rfl, fun e e0 e1 => absurd e1 (by omega)⟩ (by
        rintro j s j0 j1 ⟨w2, rfl, o2, z2⟩
        refine ⟨(ex_blk 41 48, [.ref 38, .ref 5, .ref 17, .ref 20, .int (Int32.ofInt (i : Int)), .int (Int32.ofInt ((j : Int) + 1))], [], ex_up w2 40 ((i : Int) * 24 + (j : Int)).toNat (Int32.ofInt 0)), ?_, _, rfl, fun o k hk => ?_, fun e e0 e1 => ?_⟩
        · conv => lhs; rw [kb_41_48]
          simp (disch := omega) only [ev_iload, ev_aload, rx_istore, ev_iinc, ev_push, ev_iadd, ev_imul, ev_goto, ev_jsr, rx_ige_t, rx_ige_f, ev_getf, ev_putf, ev_putl, ev_callv, rx_max0, rx_min1, nr_i, nr_r, nr_l, nr_n, kS_2, kS_6, kS_7, kS_8, kS_9, kS_10, kS_11, kS_12, kS_13, kS_14, kS_15, kS_16, kS_19, kS_22, kS_24, kS_26, kS_28, kS_31, kS_33, kS_35, kS_37, kS_39, kS_40, kS_42, kS_43, kS_44, kS_45, rx_vret, kb_41_0, kb_41_75, kb_41_99, kr_41, kf_20_2, kf_29_2, kf_38_192, kf_38_193, kf_38_194, kk_38_194, List.getD_cons_zero, List.getD_cons_succ, List.set_cons_zero, List.set_cons_succ, ex_spl, ex_low, Option.toList, List.cons_append, List.nil_append, reduceIte, Int.reduceToNat, Nat.reduceDiv, Nat.reduceMod, Nat.reduceAdd, Nat.reduceMul, z_0, z_1, z_10, z_01, reduceCtorEq, ite_true, ite_false, true_and, and_true, ↓bI_01, ↓bP_01, ↓zret0, ↓zret1, z_add, z_sub, z_mul, up_1, up_2, not_true, not_false_iff, if_true, if_false, bI_T, bI_F, bP_T, bP_F, or_true, true_or, or_false, false_or, Int.reduceNeg, Int.reduceAdd, Int.reduceSub, Int.reduceMul, Int.reduceEq, Int.reduceLT, Int.reduceLE, Int.natCast_add, Int.cast_ofNat_Int]
        · rw [up_n (by omega)]; exact o2 o k hk
        · by_cases he : e = j
          · rw [he, up_e (by omega)]
          · rw [up_n (by omega)]; exact z2 e e0 (by omega))
      exact ⟨w2, e', o2, z2⟩
    obtain ⟨w2, e2, o2, z2⟩ := hzero
    have o12 : ∀ o k, ¬ (o = 39 ∧ k = (i : Int).toNat) → ¬ (o = 40 ∧ ((i : Int) * 24).toNat ≤ k ∧ k < ((i : Int) * 24).toNat + 24) → w2.1 o k = w1.1 o k := fun o k h1 h2 => by rw [o2 o k h2, up_n h1]
    have hC2 : rC A w2 := rC_cg hC1 fun o k hk => o12 o k (fun hh => hk (by unfold tC; omega)) (fun hh => hk (by unfold tC; omega))
    have ht25' := hC2.2.2.2.2.2.2.2.1
    have a2 : w2.1 39 (i : Int).toNat = Int32.ofInt (A 6 (5 * i)) := by rw [o2 _ _ (by omega), up_e (by omega)]
    obtain ⟨w3, e3, o3, g3⟩ := m_learnOne (d := d) hV hC2 (h := i) (a := A 6 (5 * i)) (hr := A 6 (5 * i + 1)) (by omega) (by omega) hb.1 (by omega) (by omega) (by omega) a2 (fun e x e0 e1 x0 x1 => ⟨fun q => by rw [z2 e e0 e1] at q; exact q_bt_0 x0 x1 q, fun q => q.elim⟩)
    have s1' : (ex_up w1 39 (i : Int).toNat (Int32.ofInt (A 6 (5 * i)))).1 38 2 = Int32.ofInt (A 0 6) := by rw [up_n (by omega)]; exact s1
    have eg0 := fun d => m_tget (d := d) tb_25 ht25 (r := i) (k := 0) (by omega) (by omega) (by omega) (by omega) (by omega)
    have eg1 := fun d => m_tget (d := d) tb_25 ht25' (r := i) (k := 1) (by omega) (by omega) (by omega) (by omega) (by omega)
    rw [Int.add_zero] at eg0
    refine ⟨(ex_blk 41 19, [.ref 38, .ref 5, .ref 17, .ref 20, .int (Int32.ofInt ((i : Int) + 1)), .int (Int32.ofInt 24)], [], w3), ?_, w3, _, rfl, xv_i _, fun o k hk => ?_, ?_, fun h h0 h1 => ?_⟩
    · conv => lhs; rw [kb_41_19]
      simp (disch := omega) only [s1, eg0, x5, ev_iload, ev_aload, rx_istore, ev_iinc, ev_push, ev_iadd, ev_imul, ev_goto, ev_jsr, rx_ige_t, rx_ige_f, ev_getf, ev_putf, ev_putl, ev_callv, rx_max0, rx_min1, nr_i, nr_r, nr_l, nr_n, kS_2, kS_6, kS_7, kS_8, kS_9, kS_10, kS_11, kS_12, kS_13, kS_14, kS_15, kS_16, kS_19, kS_22, kS_24, kS_26, kS_28, kS_31, kS_33, kS_35, kS_37, kS_39, kS_40, kS_42, kS_43, kS_44, kS_45, rx_vret, kb_41_0, kb_41_75, kb_41_99, kr_41, kf_20_2, kf_29_2, kf_38_192, kf_38_193, kf_38_194, kk_38_194, List.getD_cons_zero, List.getD_cons_succ, List.set_cons_zero, List.set_cons_succ, ex_spl, ex_low, Option.toList, List.cons_append, List.nil_append, reduceIte, Int.reduceToNat, Nat.reduceDiv, Nat.reduceMod, Nat.reduceAdd, Nat.reduceMul, z_0, z_1, z_10, z_01, reduceCtorEq, ite_true, ite_false, true_and, and_true, ↓bI_01, ↓bP_01, ↓zret0, ↓zret1, z_add, z_sub, z_mul, up_1, up_2, not_true, not_false_iff, if_true, if_false, bI_T, bI_F, bP_T, bP_F, or_true, true_or, or_false, false_or, Int.reduceNeg, Int.reduceAdd, Int.reduceSub, Int.reduceMul, Int.reduceEq, Int.reduceLT, Int.reduceLE, Int.natCast_add, Int.cast_ofNat_Int]
      refine e2.trans ?_
      conv => lhs; rw [kb_41_48]
      simp (disch := omega) only [eg1, e3, ev_iload, ev_aload, rx_istore, ev_iinc, ev_push, ev_iadd, ev_imul, ev_goto, ev_jsr, rx_ige_t, rx_ige_f, ev_getf, ev_putf, ev_putl, ev_callv, rx_max0, rx_min1, nr_i, nr_r, nr_l, nr_n, kS_2, kS_6, kS_7, kS_8, kS_9, kS_10, kS_11, kS_12, kS_13, kS_14, kS_15, kS_16, kS_19, kS_22, kS_24, kS_26, kS_28, kS_31, kS_33, kS_35, kS_37, kS_39, kS_40, kS_42, kS_43, kS_44, kS_45, rx_vret, kb_41_0, kb_41_75, kb_41_99, kr_41, kf_20_2, kf_29_2, kf_38_192, kf_38_193, kf_38_194, kk_38_194, List.getD_cons_zero, List.getD_cons_succ, List.set_cons_zero, List.set_cons_succ, ex_spl, ex_low, Option.toList, List.cons_append, List.nil_append, reduceIte, Int.reduceToNat, Nat.reduceDiv, Nat.reduceMod, Nat.reduceAdd, Nat.reduceMul, z_0, z_1, z_10, z_01, reduceCtorEq, ite_true, ite_false, true_and, and_true, ↓bI_01, ↓bP_01, ↓zret0, ↓zret1, z_add, z_sub, z_mul, up_1, up_2, not_true, not_false_iff, if_true, if_false, bI_T, bI_F, bP_T, bP_F, or_true, true_or, or_false, false_or, Int.reduceNeg, Int.reduceAdd, Int.reduceSub, Int.reduceMul, Int.reduceEq, Int.reduceLT, Int.reduceLE, Int.natCast_add, Int.cast_ofNat_Int]
    · rw [o3 _ _ (by omega), o12 _ _ (by omega) (by omega)]; exact o1 o k hk
    · rw [o3 _ _ (by omega), o12 _ _ (by omega) (by omega)]; exact s1
    · by_cases hh : h = i
      · rw [hh]
        exact ⟨by rw [o3 _ _ (by omega)]; exact a2, g3⟩
      · obtain ⟨q1, q2⟩ := k1 h h0 (by omega)
        refine ⟨by rw [o3 _ _ (by omega), o12 _ _ (by omega) (by omega)]; exact q1, fun e x e0 e1 x0 x1 => ?_⟩
        rw [o3 _ _ (by omega), o12 _ _ (by omega) (by omega)]; exact q2 e x e0 e1 x0 x1
  · rintro s ⟨w1, v5, rfl, x5, o1, s1, k1⟩
    rw [Int.toNat_of_nonneg (by omega)] at k1
    refine ⟨w1, ?_, o1, s1, k1⟩
    rw [kb_41_19]
    simp (disch := omega) only [s1, ev_iload, ev_aload, rx_istore, ev_iinc, ev_push, ev_iadd, ev_imul, ev_goto, ev_jsr, rx_ige_t, rx_ige_f, ev_getf, ev_putf, ev_putl, ev_callv, rx_max0, rx_min1, nr_i, nr_r, nr_l, nr_n, kS_2, kS_6, kS_7, kS_8, kS_9, kS_10, kS_11, kS_12, kS_13, kS_14, kS_15, kS_16, kS_19, kS_22, kS_24, kS_26, kS_28, kS_31, kS_33, kS_35, kS_37, kS_39, kS_40, kS_42, kS_43, kS_44, kS_45, rx_vret, kb_41_0, kb_41_75, kb_41_99, kr_41, kf_20_2, kf_29_2, kf_38_192, kf_38_193, kf_38_194, kk_38_194, List.getD_cons_zero, List.getD_cons_succ, List.set_cons_zero, List.set_cons_succ, ex_spl, ex_low, Option.toList, List.cons_append, List.nil_append, reduceIte, Int.reduceToNat, Nat.reduceDiv, Nat.reduceMod, Nat.reduceAdd, Nat.reduceMul, z_0, z_1, z_10, z_01, reduceCtorEq, ite_true, ite_false, true_and, and_true, ↓bI_01, ↓bP_01, ↓zret0, ↓zret1, z_add, z_sub, z_mul, up_1, up_2, not_true, not_false_iff, if_true, if_false, bI_T, bI_F, bP_T, bP_F, or_true, true_or, or_false, false_or, Int.reduceNeg, Int.reduceAdd, Int.reduceSub, Int.reduceMul, Int.reduceEq, Int.reduceLT, Int.reduceLE, Int.natCast_add, Int.cast_ofNat_Int]
