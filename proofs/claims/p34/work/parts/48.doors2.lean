/-! the class finds the nearest doors -/
def q_nd (A : AS) (n c d s : Int) : Prop := (d = -1 ∧ s = 1000000 ∧ ∀ e, 0 ≤ e → e < n → A 1 e = 2 → q_st A e c = -1) ∨ (0 ≤ d ∧ d < n ∧ A 1 d = 2 ∧ s = q_st A d c ∧ 0 ≤ s ∧ s < 1000000 ∧ ∀ e, 0 ≤ e → e < n → A 1 e = 2 → q_st A e c = -1 ∨ q_st A d c < q_st A e c ∨ (q_st A d c = q_st A e c ∧ d ≤ e))
theorem q_nd_0 {A : AS} {c : Int} : q_nd A 0 c (-1) 1000000 := Or.inl ⟨rfl, rfl, fun e e0 e1 => absurd e1 (by omega)⟩
theorem q_nd_r {A : AS} {n c x s : Int} (h : q_nd A n c x s) : -1 ≤ x ∧ (x < n ∨ x = -1) ∧ 0 ≤ s ∧ s ≤ 1000000 := by
  rcases h with ⟨h1, h2, -⟩ | ⟨h1, h2, h3, h4, h5, h6, -⟩ <;> omega
theorem q_nd_take {A : AS} {n c x s g : Int} (h : q_nd A n c x s) (n0 : 0 ≤ n) (hd : A 1 n = 2) (hg : g = q_st A n c) (g0 : 0 ≤ g) (g1 : g < 1000000) (hl : g < s) : q_nd A (n + 1) c n g := by
  refine Or.inr ⟨n0, by omega, hd, hg, g0, g1, fun e e0 e1 he => ?_⟩
  by_cases hen : e = n
  · rw [hen]; omega
  · rcases h with ⟨h1, h2, h3⟩ | ⟨h1, h2, h3, h4, h5, h6, h7⟩
    · exact Or.inl (h3 e e0 (by omega) he)
    · rcases h7 e e0 (by omega) he with h8 | h8 | h8
      · exact Or.inl h8
      · right; left; omega
      · right; left; omega
theorem q_nd_stay {A : AS} {n c x s : Int} (h : q_nd A n c x s) (hs : A 1 n = 2 → q_st A n c = -1 ∨ (s < 1000000 ∧ s ≤ q_st A n c)) : q_nd A (n + 1) c x s := by
  rcases h with ⟨h1, h2, h3⟩ | ⟨h1, h2, h3, h4, h5, h6, h7⟩
  · refine Or.inl ⟨h1, h2, fun e e0 e1 he => ?_⟩
    by_cases hen : e = n
    · rw [hen] at he ⊢
      rcases hs he with h8 | h8
      · exact h8
      · omega
    · exact h3 e e0 (by omega) he
  · refine Or.inr ⟨h1, by omega, h3, h4, h5, h6, fun e e0 e1 he => ?_⟩
    by_cases hen : e = n
    · rw [hen] at he ⊢
      rcases hs he with h8 | h8
      · exact Or.inl h8
      · omega
    · exact h7 e e0 (by omega) he
theorem q_nd_dr {A : AS} (hV : q_vh A) {c x s : Int} (c0 : 0 ≤ c) (c1 : c < A 0 15) (h : q_nd A (A 0 15) c x s) : x = q_dr A c := by
  by_cases hw : A 1 c = 1
  · have e : q_dr A c = -1 := by unfold q_dr; rw [q_if_t hw]
    rw [e]
    rcases h with ⟨h1, h2, h3⟩ | ⟨h1, h2, h3, h4, h5, h6, h7⟩
    · exact h1
    · have := q_st_wall hV h1 h2 (c := c) (by intro hh; rw [hh] at h3; omega) (fun ho => ho.2.2 hw)
      omega
  · have ho : q_op A c := ⟨c0, c1, hw⟩
    refine (q_dr_i hV c0 c1 hw ?_).symm
    have hs : ∀ e, 0 ≤ e → e < A 0 15 → A 1 e = 2 → q_st A e c = q_st A c e := fun e e0 e1 he => q_st_sym hV ⟨e0, e1, by omega⟩ ho
    rcases h with ⟨h1, h2, h3⟩ | ⟨h1, h2, h3, h4, h5, h6, h7⟩
    · exact Or.inl ⟨h1, fun e e0 e1 he => by rw [← hs e e0 e1 he]; exact h3 e e0 e1 he⟩
    · refine Or.inr ⟨h1, h2, h3, by rw [← hs x h1 h2 h3]; omega, fun e e0 e1 he => ?_⟩
      rw [← hs x h1 h2 h3, ← hs e e0 e1 he]; exact h7 e e0 e1 he
/-- what the doors' rows tell -/
def rD (A : AS) (w : PW) (n c : Int) : Prop := ∃ x s, w.1 14 c.toNat = Int32.ofInt x ∧ w.1 15 c.toNat = Int32.ofInt s ∧ q_nd A n c x s
theorem m_findWhere {d : Nat} {A : AS} {w : PW} (hV : q_vh A) (hH : rH A w) {n : Int} (n0 : 0 ≤ n) (n1 : n < A 0 15) (hn : A 1 n = 2) (hD : ∀ c, 0 ≤ c → c < A 0 15 → rD A w n c) : ∃ w', ex_cal (d + 6) 13 [.ref 5, .int (Int32.ofInt n)] w = some (none, w') ∧ (∀ a k, ¬ (14 ≤ a ∧ a < 17) → w'.1 a k = w.1 a k) ∧ ∀ c, 0 ≤ c → c < A 0 15 → rD A w' (n + 1) c := by
  have hr := q_rnh hV
  obtain ⟨w1, G, e1, o1, hG, hc⟩ := m_measure (d := d) hV hH (f := n) (t := 0) (m := Int32.ofInt 0) (by omega) (by omega) n0 n1
  have hst : ∀ c, q_co A n 0 (q_bt (Int32.ofInt 0)) c = q_st A n c := fun c => q_co_b n0 n1 (fun x x0 x1 => ⟨fun h => q_bt_0 x0 (by omega) h, fun h => h.elim⟩) c
  rw [ke_13 kc_5]
  simp (disch := omega) only [e1, ev_iload, ev_aload, rx_istore, ev_iinc, ev_push, ev_goto, ev_jsr, rx_ige_t, rx_ige_f, ev_getf, ev_iald, ev_callv, nr_i, nr_r, nr_l, nr_n, kA_2, kA_6, kA_7, kA_8, kA_9, kA_10, kA_11, kA_12, kA_13, kA_14, kA_15, kA_16, kA_19, kA_22, kA_24, kA_26, kA_28, kA_31, kA_33, kA_39, kA_40, kA_43, kA_44, kA_45, kS_2, kS_6, kS_7, kS_8, kS_9, kS_10, kS_11, kS_12, kS_13, kS_14, kS_15, kS_16, kS_19, kS_22, kS_24, kS_26, kS_28, kS_31, kS_33, kS_39, kS_40, kS_43, kS_44, kS_45, rx_vret, kb_13_0, kb_13_57, kb_13_63, kr_13, kf_5_72, kf_5_73, kf_5_74, kf_5_75, List.getD_cons_zero, List.getD_cons_succ, List.set_cons_zero, List.set_cons_succ, ex_spl, ex_low, Option.toList, List.cons_append, List.nil_append, reduceIte, Int.reduceToNat, Nat.reduceDiv, Nat.reduceMod, Nat.reduceAdd, Nat.reduceMul, z_0, z_1, z_10, z_01, reduceCtorEq, ite_true, ite_false, true_and, and_true, ↓bI_01, ↓bP_01, ↓zret0, ↓zret1, z_add, z_sub, z_mul, up_1, up_2, not_true, not_false_iff, if_true, if_false, Bool.true_and, bI_T, bI_F, bP_T, bP_F, or_true, true_or, or_false, false_or, Int.reduceNeg, Int.reduceAdd, Int.reduceSub, Int.reduceMul, Int.reduceEq, Int.reduceLT, Int.reduceLE, Int.natCast_add, Int.cast_ofNat_Int]
  refine ex_loop (Q := fun q => ∃ w', q = some (none, w') ∧ (∀ a k, ¬ (14 ≤ a ∧ a < 17) → w'.1 a k = w.1 a k) ∧ ∀ c, 0 ≤ c → c < A 0 15 → rD A w' (n + 1) c) (fun i s => ∃ w2, s = (ex_blk 13 9, [.ref 5, .int (Int32.ofInt n), .int (Int32.ofInt (i : Int))], [], w2) ∧ (∀ a k, ¬ (14 ≤ a ∧ a < 17) → w2.1 a k = w.1 a k) ∧ rG 16 w2 G ∧ ∀ c, 0 ≤ c → c < A 0 15 → rD A w2 (if c < (i : Int) then n + 1 else n) c) (A 0 15).toNat ?_ ?_ ?_
  · refine ⟨w1, rfl, fun a k ha => o1 a k (by omega), hG, fun c c0 c1 => ?_⟩
    rw [if_neg (by omega)]
    obtain ⟨x, s, h1, h2, h3⟩ := hD c c0 c1
    exact ⟨x, s, by rw [o1 _ _ (by omega)]; exact h1, by rw [o1 _ _ (by omega)]; exact h2, h3⟩
  · rintro i s hi ⟨w2, rfl, o2, hG2, hD2⟩
    right
    have hH2 : w2.1 5 11 = Int32.ofInt (A 0 15) := by rw [o2 _ _ (by omega)]; exact hH.1.1.1
    obtain ⟨x, s, h1, h2, h3⟩ := hD2 i (by omega) (by omega)
    rw [if_neg (by omega)] at h3
    have h3r := q_nd_r h3
    have eg := hG2 i (by omega) (by omega)
    have hci := hc i (by omega) (by omega)
    rw [hst] at hci
    by_cases hl : G i < s
    · rw [if_pos (show G i < 1000000 by omega)] at hci
      refine ⟨(ex_blk 13 9, [.ref 5, .int (Int32.ofInt n), .int (Int32.ofInt ((i : Int) + 1))], [], ex_up (ex_up w2 15 (i : Int).toNat (Int32.ofInt (G i))) 14 (i : Int).toNat (Int32.ofInt n)), ?_, _, rfl, fun a k ha => ?_, fun c c0 c1 => ?_, fun c c0 c1 => ?_⟩
      · conv => lhs; rw [kb_13_9]
        simp (disch := omega) only [hH2, eg, h2, up_n, up_e, ev_iload, ev_aload, rx_istore, ev_iinc, ev_push, ev_goto, ev_jsr, rx_ige_t, rx_ige_f, ev_getf, ev_iald, ev_callv, nr_i, nr_r, nr_l, nr_n, kA_2, kA_6, kA_7, kA_8, kA_9, kA_10, kA_11, kA_12, kA_13, kA_14, kA_15, kA_16, kA_19, kA_22, kA_24, kA_26, kA_28, kA_31, kA_33, kA_39, kA_40, kA_43, kA_44, kA_45, kS_2, kS_6, kS_7, kS_8, kS_9, kS_10, kS_11, kS_12, kS_13, kS_14, kS_15, kS_16, kS_19, kS_22, kS_24, kS_26, kS_28, kS_31, kS_33, kS_39, kS_40, kS_43, kS_44, kS_45, rx_vret, kb_13_0, kb_13_57, kb_13_63, kr_13, kf_5_72, kf_5_73, kf_5_74, kf_5_75, List.getD_cons_zero, List.getD_cons_succ, List.set_cons_zero, List.set_cons_succ, ex_spl, ex_low, Option.toList, List.cons_append, List.nil_append, reduceIte, Int.reduceToNat, Nat.reduceDiv, Nat.reduceMod, Nat.reduceAdd, Nat.reduceMul, z_0, z_1, z_10, z_01, reduceCtorEq, ite_true, ite_false, true_and, and_true, ↓bI_01, ↓bP_01, ↓zret0, ↓zret1, z_add, z_sub, z_mul, up_2, not_true, not_false_iff, if_true, if_false, Bool.true_and, bI_T, bI_F, bP_T, bP_F, or_true, true_or, or_false, false_or, Int.reduceNeg, Int.reduceAdd, Int.reduceSub, Int.reduceMul, Int.reduceEq, Int.reduceLT, Int.reduceLE, Int.natCast_add, Int.cast_ofNat_Int]
      · rw [up_n (by omega), up_n (by omega)]; exact o2 a k ha
      · rw [up_n (by omega), up_n (by omega)]; exact hG2 c c0 c1
      · by_cases hci2 : c = i
        · rw [hci2, if_pos (by omega)]
          exact ⟨n, G i, by rw [up_e (by omega)], by rw [up_n (by omega), up_e (by omega)], q_nd_take h3 n0 hn hci.2 (by omega) (by omega) hl⟩
        · obtain ⟨y, z, a1, a2, a3⟩ := hD2 c c0 c1
          refine ⟨y, z, by rw [up_n (by omega), up_n (by omega)]; exact a1, by rw [up_n (by omega), up_n (by omega)]; exact a2, ?_⟩
          by_cases hlt : c < (i : Int)
          · rw [if_pos (by omega)]; rw [if_pos hlt] at a3; exact a3
          · rw [if_neg (by omega)]; rw [if_neg hlt] at a3; exact a3
    · refine ⟨(ex_blk 13 9, [.ref 5, .int (Int32.ofInt n), .int (Int32.ofInt ((i : Int) + 1))], [], w2), ?_, w2, rfl, o2, hG2, fun c c0 c1 => ?_⟩
      · conv => lhs; rw [kb_13_9]
        simp (disch := omega) only [hH2, eg, h2, ev_iload, ev_aload, rx_istore, ev_iinc, ev_push, ev_goto, ev_jsr, rx_ige_t, rx_ige_f, ev_getf, ev_iald, ev_callv, nr_i, nr_r, nr_l, nr_n, kA_2, kA_6, kA_7, kA_8, kA_9, kA_10, kA_11, kA_12, kA_13, kA_14, kA_15, kA_16, kA_19, kA_22, kA_24, kA_26, kA_28, kA_31, kA_33, kA_39, kA_40, kA_43, kA_44, kA_45, kS_2, kS_6, kS_7, kS_8, kS_9, kS_10, kS_11, kS_12, kS_13, kS_14, kS_15, kS_16, kS_19, kS_22, kS_24, kS_26, kS_28, kS_31, kS_33, kS_39, kS_40, kS_43, kS_44, kS_45, rx_vret, kb_13_0, kb_13_57, kb_13_63, kr_13, kf_5_72, kf_5_73, kf_5_74, kf_5_75, List.getD_cons_zero, List.getD_cons_succ, List.set_cons_zero, List.set_cons_succ, ex_spl, ex_low, Option.toList, List.cons_append, List.nil_append, reduceIte, Int.reduceToNat, Nat.reduceDiv, Nat.reduceMod, Nat.reduceAdd, Nat.reduceMul, z_0, z_1, z_10, z_01, reduceCtorEq, ite_true, ite_false, true_and, and_true, ↓bI_01, ↓bP_01, ↓zret0, ↓zret1, z_add, z_sub, z_mul, up_1, up_2, not_true, not_false_iff, if_true, if_false, Bool.true_and, bI_T, bI_F, bP_T, bP_F, or_true, true_or, or_false, false_or, Int.reduceNeg, Int.reduceAdd, Int.reduceSub, Int.reduceMul, Int.reduceEq, Int.reduceLT, Int.reduceLE, Int.natCast_add, Int.cast_ofNat_Int]
      · by_cases hci2 : c = i
        · rw [hci2, if_pos (by omega)]
          refine ⟨x, s, h1, h2, q_nd_stay h3 fun _ => ?_⟩
          by_cases hM : G i < 1000000
          · rw [if_pos hM] at hci
            right; omega
          · rw [if_neg hM] at hci
            left; exact hci.2.symm
        · obtain ⟨y, z, a1, a2, a3⟩ := hD2 c c0 c1
          refine ⟨y, z, a1, a2, ?_⟩
          by_cases hlt : c < (i : Int)
          · rw [if_pos (by omega)]; rw [if_pos hlt] at a3; exact a3
          · rw [if_neg (by omega)]; rw [if_neg hlt] at a3; exact a3
  · rintro s ⟨w2, rfl, o2, hG2, hD2⟩
    have hH2 : w2.1 5 11 = Int32.ofInt (A 0 15) := by rw [o2 _ _ (by omega)]; exact hH.1.1.1
    refine ⟨w2, ?_, o2, fun c c0 c1 => ?_⟩
    · rw [kb_13_9]
      simp (disch := omega) only [hH2, ev_iload, ev_aload, rx_istore, ev_iinc, ev_push, ev_goto, ev_jsr, rx_ige_t, rx_ige_f, ev_getf, ev_iald, ev_callv, nr_i, nr_r, nr_l, nr_n, kA_2, kA_6, kA_7, kA_8, kA_9, kA_10, kA_11, kA_12, kA_13, kA_14, kA_15, kA_16, kA_19, kA_22, kA_24, kA_26, kA_28, kA_31, kA_33, kA_39, kA_40, kA_43, kA_44, kA_45, kS_2, kS_6, kS_7, kS_8, kS_9, kS_10, kS_11, kS_12, kS_13, kS_14, kS_15, kS_16, kS_19, kS_22, kS_24, kS_26, kS_28, kS_31, kS_33, kS_39, kS_40, kS_43, kS_44, kS_45, rx_vret, kb_13_0, kb_13_57, kb_13_63, kr_13, kf_5_72, kf_5_73, kf_5_74, kf_5_75, List.getD_cons_zero, List.getD_cons_succ, List.set_cons_zero, List.set_cons_succ, ex_spl, ex_low, Option.toList, List.cons_append, List.nil_append, reduceIte, Int.reduceToNat, Nat.reduceDiv, Nat.reduceMod, Nat.reduceAdd, Nat.reduceMul, z_0, z_1, z_10, z_01, reduceCtorEq, ite_true, ite_false, true_and, and_true, ↓bI_01, ↓bP_01, ↓zret0, ↓zret1, z_add, z_sub, z_mul, up_1, up_2, not_true, not_false_iff, if_true, if_false, Bool.true_and, bI_T, bI_F, bP_T, bP_F, or_true, true_or, or_false, false_or, Int.reduceNeg, Int.reduceAdd, Int.reduceSub, Int.reduceMul, Int.reduceEq, Int.reduceLT, Int.reduceLE, Int.natCast_add, Int.cast_ofNat_Int]
    · have := hD2 c c0 c1
      rw [if_pos (by omega)] at this; exact this
theorem rH_o {A : AS} {w w' : PW} (h : rH A w) (e : ∀ a k, 5 ≤ a → a < 14 → w'.1 a k = w.1 a k) : rH A w' := by
  obtain ⟨hK, ⟨hbe, hah, hbs, hos⟩⟩ := h
  refine ⟨rK_o hK fun a k h1 h2 => e a k h1 (by omega), ⟨fun k v k0 k1 v0 v1 => ?_, fun k v k0 k1 v0 v1 => ?_, fun k v k0 k1 v0 v1 => ?_, fun k v k0 k1 v0 v1 => ?_⟩⟩
  · rw [e _ _ (by omega) (by omega)]; exact hbe k v k0 k1 v0 v1
  · rw [e _ _ (by omega) (by omega)]; exact hah k v k0 k1 v0 v1
  · rw [e _ _ (by omega) (by omega)]; exact hbs k v k0 k1 v0 v1
  · rw [e _ _ (by omega) (by omega)]; exact hos k v k0 k1 v0 v1
theorem m_findDoors {d : Nat} {A : AS} {w : PW} (hV : q_vh A) (hH : rH A w) : ∃ w', ex_cal (d + 7) 12 [.ref 5] w = some (none, w') ∧ (∀ a k, ¬ (14 ≤ a ∧ a < 17) → w'.1 a k = w.1 a k) ∧ rCd A w' := by
  have hr := q_rnh hV
  rw [ke_12 kc_5]
  simp (disch := omega) only [ev_iload, ev_aload, rx_istore, ev_iinc, ev_push, ev_goto, ev_jsr, rx_ine_t, rx_ine_f, rx_ige_t, rx_ige_f, ev_getf, ev_iald, ev_callv, nr_i, nr_r, nr_l, nr_n, kA_2, kA_6, kA_7, kA_8, kA_9, kA_10, kA_11, kA_12, kA_13, kA_14, kA_15, kA_16, kA_19, kA_22, kA_24, kA_26, kA_28, kA_31, kA_33, kA_39, kA_40, kA_43, kA_44, kA_45, kS_2, kS_6, kS_7, kS_8, kS_9, kS_10, kS_11, kS_12, kS_13, kS_14, kS_15, kS_16, kS_19, kS_22, kS_24, kS_26, kS_28, kS_31, kS_33, kS_39, kS_40, kS_43, kS_44, kS_45, rx_vret, kb_12_0, kb_12_29, kb_12_60, kb_12_66, kr_12, kf_5_64, kf_5_72, kf_5_73, kf_5_75, List.getD_cons_zero, List.getD_cons_succ, List.set_cons_zero, List.set_cons_succ, ex_spl, ex_low, Option.toList, List.cons_append, List.nil_append, reduceIte, Int.reduceToNat, Nat.reduceDiv, Nat.reduceMod, Nat.reduceAdd, Nat.reduceMul, z_0, z_1, z_10, z_01, reduceCtorEq, ite_true, ite_false, true_and, and_true, ↓bI_01, ↓bP_01, ↓zret0, ↓zret1, z_add, z_sub, z_mul, up_1, up_2, not_true, not_false_iff, if_true, if_false, Bool.true_and, bI_T, bI_F, bP_T, bP_F, or_true, true_or, or_false, false_or, Int.reduceNeg, Int.reduceAdd, Int.reduceSub, Int.reduceMul, Int.reduceEq, Int.reduceLT, Int.reduceLE, Int.natCast_add, Int.cast_ofNat_Int]
  refine ex_loop (Q := fun q => ∃ w', q = some (none, w') ∧ (∀ a k, ¬ (14 ≤ a ∧ a < 17) → w'.1 a k = w.1 a k) ∧ rCd A w') (fun i s => ∃ w2, s = (ex_blk 12 2, [.ref 5, .int (Int32.ofInt (i : Int))], [], w2) ∧ (∀ a k, ¬ (14 ≤ a ∧ a < 17) → w2.1 a k = w.1 a k) ∧ ∀ c, 0 ≤ c → c < (i : Int) → w2.1 14 c.toNat = Int32.ofInt (-1) ∧ w2.1 15 c.toNat = Int32.ofInt 1000000) 24 ?_ ?_ ?_
  · exact ⟨w, rfl, fun _ _ _ => rfl, fun c c0 c1 => absurd c1 (by omega)⟩
  · rintro i s hi ⟨w2, rfl, o2, h2⟩
    right
    refine ⟨(ex_blk 12 2, [.ref 5, .int (Int32.ofInt ((i : Int) + 1))], [], ex_up (ex_up w2 14 (i : Int).toNat (Int32.ofInt (-1))) 15 (i : Int).toNat (Int32.ofInt 1000000)), ?_, _, rfl, fun a k ha => ?_, fun c c0 c1 => ?_⟩
    · conv => lhs; rw [kb_12_2]
      simp (disch := omega) only [ev_iload, ev_aload, rx_istore, ev_iinc, ev_push, ev_goto, ev_jsr, rx_ine_t, rx_ine_f, rx_ige_t, rx_ige_f, ev_getf, ev_iald, ev_callv, nr_i, nr_r, nr_l, nr_n, kA_2, kA_6, kA_7, kA_8, kA_9, kA_10, kA_11, kA_12, kA_13, kA_14, kA_15, kA_16, kA_19, kA_22, kA_24, kA_26, kA_28, kA_31, kA_33, kA_39, kA_40, kA_43, kA_44, kA_45, kS_2, kS_6, kS_7, kS_8, kS_9, kS_10, kS_11, kS_12, kS_13, kS_14, kS_15, kS_16, kS_19, kS_22, kS_24, kS_26, kS_28, kS_31, kS_33, kS_39, kS_40, kS_43, kS_44, kS_45, rx_vret, kb_12_0, kb_12_29, kb_12_60, kb_12_66, kr_12, kf_5_64, kf_5_72, kf_5_73, kf_5_75, List.getD_cons_zero, List.getD_cons_succ, List.set_cons_zero, List.set_cons_succ, ex_spl, ex_low, Option.toList, List.cons_append, List.nil_append, reduceIte, Int.reduceToNat, Nat.reduceDiv, Nat.reduceMod, Nat.reduceAdd, Nat.reduceMul, z_0, z_1, z_10, z_01, reduceCtorEq, ite_true, ite_false, true_and, and_true, ↓bI_01, ↓bP_01, ↓zret0, ↓zret1, z_add, z_sub, z_mul, up_1, up_2, not_true, not_false_iff, if_true, if_false, Bool.true_and, bI_T, bI_F, bP_T, bP_F, or_true, true_or, or_false, false_or, Int.reduceNeg, Int.reduceAdd, Int.reduceSub, Int.reduceMul, Int.reduceEq, Int.reduceLT, Int.reduceLE, Int.natCast_add, Int.cast_ofNat_Int]
    · rw [up_n (by omega), up_n (by omega)]; exact o2 a k ha
    · by_cases hc : c = i
      · rw [hc]
        exact ⟨by rw [up_n (by omega), up_e (by omega)], by rw [up_e (by omega)]⟩
      · rw [up_n (by omega), up_n (by omega), up_n (by omega), up_n (by omega)]; exact h2 c c0 (by omega)
  · rintro s ⟨w2, rfl, o2, h2⟩
    rw [kb_12_2]
    simp (disch := omega) only [ev_iload, ev_aload, rx_istore, ev_iinc, ev_push, ev_goto, ev_jsr, rx_ine_t, rx_ine_f, rx_ige_t, rx_ige_f, ev_getf, ev_iald, ev_callv, nr_i, nr_r, nr_l, nr_n, kA_2, kA_6, kA_7, kA_8, kA_9, kA_10, kA_11, kA_12, kA_13, kA_14, kA_15, kA_16, kA_19, kA_22, kA_24, kA_26, kA_28, kA_31, kA_33, kA_39, kA_40, kA_43, kA_44, kA_45, kS_2, kS_6, kS_7, kS_8, kS_9, kS_10, kS_11, kS_12, kS_13, kS_14, kS_15, kS_16, kS_19, kS_22, kS_24, kS_26, kS_28, kS_31, kS_33, kS_39, kS_40, kS_43, kS_44, kS_45, rx_vret, kb_12_0, kb_12_29, kb_12_60, kb_12_66, kr_12, kf_5_64, kf_5_72, kf_5_73, kf_5_75, List.getD_cons_zero, List.getD_cons_succ, List.set_cons_zero, List.set_cons_succ, ex_spl, ex_low, Option.toList, List.cons_append, List.nil_append, reduceIte, Int.reduceToNat, Nat.reduceDiv, Nat.reduceMod, Nat.reduceAdd, Nat.reduceMul, z_0, z_1, z_10, z_01, reduceCtorEq, ite_true, ite_false, true_and, and_true, ↓bI_01, ↓bP_01, ↓zret0, ↓zret1, z_add, z_sub, z_mul, up_1, up_2, not_true, not_false_iff, if_true, if_false, Bool.true_and, bI_T, bI_F, bP_T, bP_F, or_true, true_or, or_false, false_or, Int.reduceNeg, Int.reduceAdd, Int.reduceSub, Int.reduceMul, Int.reduceEq, Int.reduceLT, Int.reduceLE, Int.natCast_add, Int.cast_ofNat_Int]
    refine ex_loop (Q := fun q => ∃ w', q = some (none, w') ∧ (∀ a k, ¬ (14 ≤ a ∧ a < 17) → w'.1 a k = w.1 a k) ∧ rCd A w') (fun i s => ∃ w3, s = (ex_blk 12 31, [.ref 5, .int (Int32.ofInt (i : Int))], [], w3) ∧ (∀ a k, ¬ (14 ≤ a ∧ a < 17) → w3.1 a k = w.1 a k) ∧ ∀ c, 0 ≤ c → c < A 0 15 → rD A w3 i c) (A 0 15).toNat ?_ ?_ ?_
    · exact ⟨w2, rfl, o2, fun c c0 c1 => ⟨-1, 1000000, (h2 c c0 (by omega)).1, (h2 c c0 (by omega)).2, q_nd_0⟩⟩
    · rintro i s hi ⟨w3, rfl, o3, h3⟩
      right
      have hH3 := rH_o hH fun a k h1 h2 => o3 a k (by omega)
      have e11 : w3.1 5 11 = Int32.ofInt (A 0 15) := hH3.1.1.1
      have ek : w3.1 6 (i : Int).toNat = Int32.ofInt (A 1 i) := hH3.1.2.1 i (by omega) (by omega)
      have hk := q_kd hV (c := i) (by omega) (by omega)
      by_cases hd : A 1 i = 2
      · obtain ⟨w4, e4, o4, h4⟩ := m_findWhere (d := d) hV hH3 (n := i) (by omega) (by omega) hd h3
        refine ⟨(ex_blk 12 31, [.ref 5, .int (Int32.ofInt ((i : Int) + 1))], [], w4), ?_, w4, rfl, fun a k ha => (o4 a k ha).trans (o3 a k ha), h4⟩
        conv => lhs; rw [kb_12_31]
        simp (disch := omega) only [e11, ek, e4, ev_iload, ev_aload, rx_istore, ev_iinc, ev_push, ev_goto, ev_jsr, rx_ine_t, rx_ine_f, rx_ige_t, rx_ige_f, ev_getf, ev_iald, ev_callv, nr_i, nr_r, nr_l, nr_n, kA_2, kA_6, kA_7, kA_8, kA_9, kA_10, kA_11, kA_12, kA_13, kA_14, kA_15, kA_16, kA_19, kA_22, kA_24, kA_26, kA_28, kA_31, kA_33, kA_39, kA_40, kA_43, kA_44, kA_45, kS_2, kS_6, kS_7, kS_8, kS_9, kS_10, kS_11, kS_12, kS_13, kS_14, kS_15, kS_16, kS_19, kS_22, kS_24, kS_26, kS_28, kS_31, kS_33, kS_39, kS_40, kS_43, kS_44, kS_45, rx_vret, kb_12_0, kb_12_29, kb_12_60, kb_12_66, kr_12, kf_5_64, kf_5_72, kf_5_73, kf_5_75, List.getD_cons_zero, List.getD_cons_succ, List.set_cons_zero, List.set_cons_succ, ex_spl, ex_low, Option.toList, List.cons_append, List.nil_append, reduceIte, Int.reduceToNat, Nat.reduceDiv, Nat.reduceMod, Nat.reduceAdd, Nat.reduceMul, z_0, z_1, z_10, z_01, reduceCtorEq, ite_true, ite_false, true_and, and_true, ↓bI_01, ↓bP_01, ↓zret0, ↓zret1, z_add, z_sub, z_mul, up_1, up_2, not_true, not_false_iff, if_true, if_false, Bool.true_and, bI_T, bI_F, bP_T, bP_F, or_true, true_or, or_false, false_or, Int.reduceNeg, Int.reduceAdd, Int.reduceSub, Int.reduceMul, Int.reduceEq, Int.reduceLT, Int.reduceLE, Int.natCast_add, Int.cast_ofNat_Int]
      · refine ⟨(ex_blk 12 31, [.ref 5, .int (Int32.ofInt ((i : Int) + 1))], [], w3), ?_, w3, rfl, o3, fun c c0 c1 => ?_⟩
        · conv => lhs; rw [kb_12_31]
          simp (disch := omega) only [e11, ek, ev_iload, ev_aload, rx_istore, ev_iinc, ev_push, ev_goto, ev_jsr, rx_ine_t, rx_ine_f, rx_ige_t, rx_ige_f, ev_getf, ev_iald, ev_callv, nr_i, nr_r, nr_l, nr_n, kA_2, kA_6, kA_7, kA_8, kA_9, kA_10, kA_11, kA_12, kA_13, kA_14, kA_15, kA_16, kA_19, kA_22, kA_24, kA_26, kA_28, kA_31, kA_33, kA_39, kA_40, kA_43, kA_44, kA_45, kS_2, kS_6, kS_7, kS_8, kS_9, kS_10, kS_11, kS_12, kS_13, kS_14, kS_15, kS_16, kS_19, kS_22, kS_24, kS_26, kS_28, kS_31, kS_33, kS_39, kS_40, kS_43, kS_44, kS_45, rx_vret, kb_12_0, kb_12_29, kb_12_60, kb_12_66, kr_12, kf_5_64, kf_5_72, kf_5_73, kf_5_75, List.getD_cons_zero, List.getD_cons_succ, List.set_cons_zero, List.set_cons_succ, ex_spl, ex_low, Option.toList, List.cons_append, List.nil_append, reduceIte, Int.reduceToNat, Nat.reduceDiv, Nat.reduceMod, Nat.reduceAdd, Nat.reduceMul, z_0, z_1, z_10, z_01, reduceCtorEq, ite_true, ite_false, true_and, and_true, ↓bI_01, ↓bP_01, ↓zret0, ↓zret1, z_add, z_sub, z_mul, up_1, up_2, not_true, not_false_iff, if_true, if_false, Bool.true_and, bI_T, bI_F, bP_T, bP_F, or_true, true_or, or_false, false_or, Int.reduceNeg, Int.reduceAdd, Int.reduceSub, Int.reduceMul, Int.reduceEq, Int.reduceLT, Int.reduceLE, Int.natCast_add, Int.cast_ofNat_Int]
        · obtain ⟨x, s, a1, a2, a3⟩ := h3 c c0 c1
          exact ⟨x, s, a1, a2, q_nd_stay a3 fun h => absurd h hd⟩
    · rintro s ⟨w3, rfl, o3, h3⟩
      have e11 : w3.1 5 11 = Int32.ofInt (A 0 15) := by rw [o3 _ _ (by omega)]; exact hH.1.1.1
      refine ⟨w3, ?_, o3, fun c c0 c1 => ?_⟩
      · rw [kb_12_31]
        simp (disch := omega) only [e11, ev_iload, ev_aload, rx_istore, ev_iinc, ev_push, ev_goto, ev_jsr, rx_ine_t, rx_ine_f, rx_ige_t, rx_ige_f, ev_getf, ev_iald, ev_callv, nr_i, nr_r, nr_l, nr_n, kA_2, kA_6, kA_7, kA_8, kA_9, kA_10, kA_11, kA_12, kA_13, kA_14, kA_15, kA_16, kA_19, kA_22, kA_24, kA_26, kA_28, kA_31, kA_33, kA_39, kA_40, kA_43, kA_44, kA_45, kS_2, kS_6, kS_7, kS_8, kS_9, kS_10, kS_11, kS_12, kS_13, kS_14, kS_15, kS_16, kS_19, kS_22, kS_24, kS_26, kS_28, kS_31, kS_33, kS_39, kS_40, kS_43, kS_44, kS_45, rx_vret, kb_12_0, kb_12_29, kb_12_60, kb_12_66, kr_12, kf_5_64, kf_5_72, kf_5_73, kf_5_75, List.getD_cons_zero, List.getD_cons_succ, List.set_cons_zero, List.set_cons_succ, ex_spl, ex_low, Option.toList, List.cons_append, List.nil_append, reduceIte, Int.reduceToNat, Nat.reduceDiv, Nat.reduceMod, Nat.reduceAdd, Nat.reduceMul, z_0, z_1, z_10, z_01, reduceCtorEq, ite_true, ite_false, true_and, and_true, ↓bI_01, ↓bP_01, ↓zret0, ↓zret1, z_add, z_sub, z_mul, up_1, up_2, not_true, not_false_iff, if_true, if_false, Bool.true_and, bI_T, bI_F, bP_T, bP_F, or_true, true_or, or_false, false_or, Int.reduceNeg, Int.reduceAdd, Int.reduceSub, Int.reduceMul, Int.reduceEq, Int.reduceLT, Int.reduceLE, Int.natCast_add, Int.cast_ofNat_Int]
      · obtain ⟨x, s, a1, a2, a3⟩ := h3 c c0 c1
        rw [Int.toNat_of_nonneg (by omega)] at a3
        rw [a1, q_nd_dr hV c0 c1 a3]

