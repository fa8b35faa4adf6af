/-! the reference: the nearest door, what is against a law -/
theorem r_nearestDoor {d : Nat} {A : AS} {b : Int} {w : PW} (hV : q_vh A) (hM : rN A b w) (hT : q_vt A 5 5) {c : Int} (c0 : 0 ≤ c) (c1 : c < A 0 15) : ∃ w', ex_cal (d + 7) 178 [.ref 46, .int (Int32.ofInt c)] w = some (some (.int (Int32.ofInt (q_dr A c))), w') ∧ sQ w w' := by
  have hr := q_rnh hV
  have hk := q_kd hV c0 c1
  obtain ⟨-, ⟨gk, -⟩, -⟩ := id hM
  have ek := gk c c0 c1
  rw [ke_178 kc_46]
  by_cases hw : A 1 c = 1
  · refine ⟨w, ?_, sQ_r w⟩
    unfold q_dr
    rw [q_if_t hw]
    simp (disch := omega) only [ek, hw, ev_iload, ev_aload, rx_istore, ev_iinc, ev_push, ev_goto, ev_jsr, rx_ieq_t, rx_ieq_f, rx_ine_t, rx_ine_f, rx_ige_t, rx_ige_f, ev_getf, ev_iald, ev_callv, nr_i, nr_r, nr_l, nr_n, kA_47, kA_48, kA_49, kA_50, kA_51, kA_52, kA_53, kA_54, kA_55, kA_56, kA_57, kA_58, kA_59, kA_60, kA_61, kA_63, kA_64, kA_65, kA_66, kA_67, kA_68, kA_69, kA_70, rx_iret, kb_178_0, kb_178_14, kb_178_22, kb_178_71, kb_178_73, kb_178_79, kr_178, kf_46_707, kf_46_754, List.getD_cons_zero, List.getD_cons_succ, List.set_cons_zero, List.set_cons_succ, ex_spl, ex_low, Option.toList, List.cons_append, List.nil_append, reduceIte, Int.reduceToNat, Nat.reduceDiv, Nat.reduceMod, Nat.reduceAdd, Nat.reduceMul, z_0, z_1, z_10, z_01, reduceCtorEq, ite_true, ite_false, true_and, and_true, ↓bI_01, ↓bP_01, ↓zret0, ↓zret1, z_add, z_sub, z_mul, up_1, up_2, not_true, not_false_iff, if_true, if_false, Int.reduceNeg, Int.reduceAdd, Int.reduceSub, Int.reduceMul, Int.reduceEq, Int.reduceLT, Int.reduceLE, Int.natCast_add, Int.cast_ofNat_Int]
  · obtain ⟨w1, G1, e1, ho, hG, hc⟩ := r_lay (d := d) hV hM hT false c0 c1
    have hM1 := rN_q hM ho
    obtain ⟨-, ⟨gk1, -⟩, -⟩ := id hM1
    have est : ∀ e, q_co A c 0 (fun x => false = true ∧ ¬ q_ta A x = -1) e = q_st A c e := by
      intro e
      unfold q_st
      congr 1
      funext x
      simp
    have hst : ∀ e, 0 ≤ e → e < 24 → (0 ≤ G1 e ∧ G1 e ≤ 268435456) ∧ (if G1 e < 268435456 then G1 e else -1) = q_st A c e := fun e e0 e1 => by rw [← est]; exact hc e e0 e1
    have eb : Int32.ofInt (if false then 1 else 0) = Int32.ofInt 0 := rfl
    rw [eb] at e1
    simp (disch := omega) only [ek, e1, ev_iload, ev_aload, rx_istore, ev_iinc, ev_push, ev_goto, ev_jsr, rx_ieq_t, rx_ieq_f, rx_ine_t, rx_ine_f, rx_ige_t, rx_ige_f, ev_getf, ev_iald, ev_callv, nr_i, nr_r, nr_l, nr_n, kA_47, kA_48, kA_49, kA_50, kA_51, kA_52, kA_53, kA_54, kA_55, kA_56, kA_57, kA_58, kA_59, kA_60, kA_61, kA_63, kA_64, kA_65, kA_66, kA_67, kA_68, kA_69, kA_70, rx_iret, kb_178_0, kb_178_14, kb_178_71, kb_178_73, kb_178_79, kr_178, kf_46_707, kf_46_754, List.getD_cons_zero, List.getD_cons_succ, List.set_cons_zero, List.set_cons_succ, ex_spl, ex_low, Option.toList, List.cons_append, List.nil_append, reduceIte, Int.reduceToNat, Nat.reduceDiv, Nat.reduceMod, Nat.reduceAdd, Nat.reduceMul, z_0, z_1, z_10, z_01, reduceCtorEq, ite_true, ite_false, true_and, and_true, ↓bI_01, ↓bP_01, ↓zret0, ↓zret1, z_add, z_sub, z_mul, up_1, up_2, not_true, not_false_iff, if_true, if_false, Int.reduceNeg, Int.reduceAdd, Int.reduceSub, Int.reduceMul, Int.reduceEq, Int.reduceLT, Int.reduceLE, Int.natCast_add, Int.cast_ofNat_Int]
    refine ex_loop (Q := fun r => ∃ w', r = some (some (.int (Int32.ofInt (q_dr A c))), w') ∧ sQ w w') (fun i s => ∃ best : Int, s = (ex_blk 178 22, [.ref 46, .int (Int32.ofInt c), .int (Int32.ofInt best), .int (Int32.ofInt (i : Int))], [], w1) ∧ ((best = -1 ∧ ∀ e : Int, 0 ≤ e → e < (i : Int) → A 1 e = 2 → q_st A c e = -1) ∨ (0 ≤ best ∧ best < (i : Int) ∧ A 1 best = 2 ∧ 0 ≤ q_st A c best ∧ ∀ e : Int, 0 ≤ e → e < (i : Int) → A 1 e = 2 → q_st A c e = -1 ∨ q_st A c best < q_st A c e ∨ (q_st A c best = q_st A c e ∧ best ≤ e)))) (A 0 15).toNat ?_ ?_ ?_
    · exact ⟨-1, rfl, Or.inl ⟨rfl, fun e h0 h1 => absurd h1 (by omega)⟩⟩
    · rintro i s hi ⟨best, rfl, hB⟩
      right
      have ei := hG i (by omega) (by omega)
      have ki := gk1 i (by omega) (by omega)
      have kd := q_kd hV (c := i) (by omega) (by omega)
      have si := hst i (by omega) (by omega)
      have stay : (A 1 i = 2 → q_st A c i = -1 ∨ (0 ≤ best ∧ 0 ≤ q_st A c i ∧ q_st A c best ≤ q_st A c i)) → ((best = -1 ∧ ∀ e : Int, 0 ≤ e → e < ((i + 1 : Nat) : Int) → A 1 e = 2 → q_st A c e = -1) ∨ (0 ≤ best ∧ best < ((i + 1 : Nat) : Int) ∧ A 1 best = 2 ∧ 0 ≤ q_st A c best ∧ ∀ e : Int, 0 ≤ e → e < ((i + 1 : Nat) : Int) → A 1 e = 2 → q_st A c e = -1 ∨ q_st A c best < q_st A c e ∨ (q_st A c best = q_st A c e ∧ best ≤ e))) := by
        intro hno
        rcases hB with ⟨h1, h2⟩ | ⟨h1, h2, h3, h4, h5⟩
        · refine Or.inl ⟨h1, fun e e0 e1 e2 => ?_⟩
          by_cases hei : e = i
          · rw [hei] at e2 ⊢; rcases hno e2 with h | h
            · exact h
            · omega
          · exact h2 e e0 (by omega) e2
        · refine Or.inr ⟨h1, by omega, h3, h4, fun e e0 e1 e2 => ?_⟩
          by_cases hei : e = i
          · rw [hei] at e2 ⊢; rcases hno e2 with h | h
            · exact Or.inl h
            · right; omega
          · exact h5 e e0 (by omega) e2
      have take : A 1 i = 2 → 0 ≤ q_st A c i → (best = -1 ∨ q_st A c i < q_st A c best) → ((i : Int) = -1 ∧ ∀ e : Int, 0 ≤ e → e < ((i + 1 : Nat) : Int) → A 1 e = 2 → q_st A c e = -1) ∨ (0 ≤ (i : Int) ∧ (i : Int) < ((i + 1 : Nat) : Int) ∧ A 1 i = 2 ∧ 0 ≤ q_st A c i ∧ ∀ e : Int, 0 ≤ e → e < ((i + 1 : Nat) : Int) → A 1 e = 2 → q_st A c e = -1 ∨ q_st A c i < q_st A c e ∨ (q_st A c i = q_st A c e ∧ (i : Int) ≤ e)) := by
        intro h1 h2 h3
        refine Or.inr ⟨by omega, by omega, h1, h2, fun e e0 e1 e2 => ?_⟩
        by_cases hei : e = i
        · rw [hei]; right; omega
        · rcases hB with ⟨b1, b2⟩ | ⟨b1, b2, b3, b4, b5⟩
          · exact Or.inl (b2 e e0 (by omega) e2)
          · have := b5 e e0 (by omega) e2
            omega
      by_cases hd : A 1 i = 2
      · by_cases hl : G1 i < 268435456
        · have si2 : q_st A c i = G1 i := by rw [← si.2, if_pos hl]
          by_cases hbm : best = -1
          · refine ⟨(ex_blk 178 22, [.ref 46, .int (Int32.ofInt c), .int (Int32.ofInt (i : Int)), .int (Int32.ofInt ((i : Int) + 1))], [], w1), ?_, i, rfl, take hd (by omega) (Or.inl hbm)⟩
            conv => lhs; rw [kb_178_22]
            simp (disch := omega) only [r_cells hV hM1, ki, hd, ei, hbm, ev_iload, ev_aload, rx_istore, ev_iinc, ev_push, ev_goto, ev_jsr, rx_ieq_t, rx_ieq_f, rx_ine_t, rx_ine_f, rx_ige_t, rx_ige_f, ev_getf, ev_iald, ev_callv, nr_i, nr_r, nr_l, nr_n, kA_47, kA_48, kA_49, kA_50, kA_51, kA_52, kA_53, kA_54, kA_55, kA_56, kA_57, kA_58, kA_59, kA_60, kA_61, kA_63, kA_64, kA_65, kA_66, kA_67, kA_68, kA_69, kA_70, rx_iret, kb_178_0, kb_178_14, kb_178_71, kb_178_73, kb_178_79, kr_178, kf_46_707, kf_46_754, List.getD_cons_zero, List.getD_cons_succ, List.set_cons_zero, List.set_cons_succ, ex_spl, ex_low, Option.toList, List.cons_append, List.nil_append, reduceIte, Int.reduceToNat, Nat.reduceDiv, Nat.reduceMod, Nat.reduceAdd, Nat.reduceMul, z_0, z_1, z_10, z_01, reduceCtorEq, ite_true, ite_false, true_and, and_true, ↓bI_01, ↓bP_01, ↓zret0, ↓zret1, z_add, z_sub, z_mul, up_1, up_2, not_true, not_false_iff, if_true, if_false, Int.reduceNeg, Int.reduceAdd, Int.reduceSub, Int.reduceMul, Int.reduceEq, Int.reduceLT, Int.reduceLE, Int.natCast_add, Int.cast_ofNat_Int]
          · have hbr : 0 ≤ best ∧ best < i := by
              rcases hB with ⟨b1, b2⟩ | ⟨b1, b2, b3, b4, b5⟩
              · exact absurd b1 hbm
              · exact ⟨b1, b2⟩
            have eb := hG best (by omega) (by omega)
            have sb := hst best (by omega) (by omega)
            have hsb : 0 ≤ q_st A c best := by
              rcases hB with ⟨b1, b2⟩ | ⟨b1, b2, b3, b4, b5⟩
              · exact absurd b1 hbm
              · exact b4
            have hbl : G1 best < 268435456 := by
              refine Classical.byContradiction fun hh => ?_
              rw [if_neg hh] at sb; omega
            have sb2 : q_st A c best = G1 best := by rw [← sb.2, if_pos hbl]
            by_cases hlt : G1 i < G1 best
            · refine ⟨(ex_blk 178 22, [.ref 46, .int (Int32.ofInt c), .int (Int32.ofInt (i : Int)), .int (Int32.ofInt ((i : Int) + 1))], [], w1), ?_, i, rfl, take hd (by omega) (Or.inr (by omega))⟩
              conv => lhs; rw [kb_178_22]
              simp (disch := omega) only [r_cells hV hM1, ki, hd, ei, eb, ev_iload, ev_aload, rx_istore, ev_iinc, ev_push, ev_goto, ev_jsr, rx_ieq_t, rx_ieq_f, rx_ine_t, rx_ine_f, rx_ige_t, rx_ige_f, ev_getf, ev_iald, ev_callv, nr_i, nr_r, nr_l, nr_n, kA_47, kA_48, kA_49, kA_50, kA_51, kA_52, kA_53, kA_54, kA_55, kA_56, kA_57, kA_58, kA_59, kA_60, kA_61, kA_63, kA_64, kA_65, kA_66, kA_67, kA_68, kA_69, kA_70, rx_iret, kb_178_0, kb_178_14, kb_178_71, kb_178_73, kb_178_79, kr_178, kf_46_707, kf_46_754, List.getD_cons_zero, List.getD_cons_succ, List.set_cons_zero, List.set_cons_succ, ex_spl, ex_low, Option.toList, List.cons_append, List.nil_append, reduceIte, Int.reduceToNat, Nat.reduceDiv, Nat.reduceMod, Nat.reduceAdd, Nat.reduceMul, z_0, z_1, z_10, z_01, reduceCtorEq, ite_true, ite_false, true_and, and_true, ↓bI_01, ↓bP_01, ↓zret0, ↓zret1, z_add, z_sub, z_mul, up_1, up_2, not_true, not_false_iff, if_true, if_false, Int.reduceNeg, Int.reduceAdd, Int.reduceSub, Int.reduceMul, Int.reduceEq, Int.reduceLT, Int.reduceLE, Int.natCast_add, Int.cast_ofNat_Int]
            · refine ⟨(ex_blk 178 22, [.ref 46, .int (Int32.ofInt c), .int (Int32.ofInt best), .int (Int32.ofInt ((i : Int) + 1))], [], w1), ?_, best, rfl, stay (fun _ => Or.inr (by omega))⟩
              conv => lhs; rw [kb_178_22]
              simp (disch := omega) only [r_cells hV hM1, ki, hd, ei, eb, ev_iload, ev_aload, rx_istore, ev_iinc, ev_push, ev_goto, ev_jsr, rx_ieq_t, rx_ieq_f, rx_ine_t, rx_ine_f, rx_ige_t, rx_ige_f, ev_getf, ev_iald, ev_callv, nr_i, nr_r, nr_l, nr_n, kA_47, kA_48, kA_49, kA_50, kA_51, kA_52, kA_53, kA_54, kA_55, kA_56, kA_57, kA_58, kA_59, kA_60, kA_61, kA_63, kA_64, kA_65, kA_66, kA_67, kA_68, kA_69, kA_70, rx_iret, kb_178_0, kb_178_14, kb_178_71, kb_178_73, kb_178_79, kr_178, kf_46_707, kf_46_754, List.getD_cons_zero, List.getD_cons_succ, List.set_cons_zero, List.set_cons_succ, ex_spl, ex_low, Option.toList, List.cons_append, List.nil_append, reduceIte, Int.reduceToNat, Nat.reduceDiv, Nat.reduceMod, Nat.reduceAdd, Nat.reduceMul, z_0, z_1, z_10, z_01, reduceCtorEq, ite_true, ite_false, true_and, and_true, ↓bI_01, ↓bP_01, ↓zret0, ↓zret1, z_add, z_sub, z_mul, up_1, up_2, not_true, not_false_iff, if_true, if_false, Int.reduceNeg, Int.reduceAdd, Int.reduceSub, Int.reduceMul, Int.reduceEq, Int.reduceLT, Int.reduceLE, Int.natCast_add, Int.cast_ofNat_Int]
        · refine ⟨(ex_blk 178 22, [.ref 46, .int (Int32.ofInt c), .int (Int32.ofInt best), .int (Int32.ofInt ((i : Int) + 1))], [], w1), ?_, best, rfl, stay (fun _ => Or.inl (by rw [← si.2, if_neg hl]))⟩
          conv => lhs; rw [kb_178_22]
          simp (disch := omega) only [r_cells hV hM1, ki, hd, ei, ev_iload, ev_aload, rx_istore, ev_iinc, ev_push, ev_goto, ev_jsr, rx_ieq_t, rx_ieq_f, rx_ine_t, rx_ine_f, rx_ige_t, rx_ige_f, ev_getf, ev_iald, ev_callv, nr_i, nr_r, nr_l, nr_n, kA_47, kA_48, kA_49, kA_50, kA_51, kA_52, kA_53, kA_54, kA_55, kA_56, kA_57, kA_58, kA_59, kA_60, kA_61, kA_63, kA_64, kA_65, kA_66, kA_67, kA_68, kA_69, kA_70, rx_iret, kb_178_0, kb_178_14, kb_178_71, kb_178_73, kb_178_79, kr_178, kf_46_707, kf_46_754, List.getD_cons_zero, List.getD_cons_succ, List.set_cons_zero, List.set_cons_succ, ex_spl, ex_low, Option.toList, List.cons_append, List.nil_append, reduceIte, Int.reduceToNat, Nat.reduceDiv, Nat.reduceMod, Nat.reduceAdd, Nat.reduceMul, z_0, z_1, z_10, z_01, reduceCtorEq, ite_true, ite_false, true_and, and_true, ↓bI_01, ↓bP_01, ↓zret0, ↓zret1, z_add, z_sub, z_mul, up_1, up_2, not_true, not_false_iff, if_true, if_false, Int.reduceNeg, Int.reduceAdd, Int.reduceSub, Int.reduceMul, Int.reduceEq, Int.reduceLT, Int.reduceLE, Int.natCast_add, Int.cast_ofNat_Int]
      · refine ⟨(ex_blk 178 22, [.ref 46, .int (Int32.ofInt c), .int (Int32.ofInt best), .int (Int32.ofInt ((i : Int) + 1))], [], w1), ?_, best, rfl, stay (fun h => absurd h hd)⟩
        conv => lhs; rw [kb_178_22]
        simp (disch := omega) only [r_cells hV hM1, ki, ev_iload, ev_aload, rx_istore, ev_iinc, ev_push, ev_goto, ev_jsr, rx_ieq_t, rx_ieq_f, rx_ine_t, rx_ine_f, rx_ige_t, rx_ige_f, ev_getf, ev_iald, ev_callv, nr_i, nr_r, nr_l, nr_n, kA_47, kA_48, kA_49, kA_50, kA_51, kA_52, kA_53, kA_54, kA_55, kA_56, kA_57, kA_58, kA_59, kA_60, kA_61, kA_63, kA_64, kA_65, kA_66, kA_67, kA_68, kA_69, kA_70, rx_iret, kb_178_0, kb_178_14, kb_178_71, kb_178_73, kb_178_79, kr_178, kf_46_707, kf_46_754, List.getD_cons_zero, List.getD_cons_succ, List.set_cons_zero, List.set_cons_succ, ex_spl, ex_low, Option.toList, List.cons_append, List.nil_append, reduceIte, Int.reduceToNat, Nat.reduceDiv, Nat.reduceMod, Nat.reduceAdd, Nat.reduceMul, z_0, z_1, z_10, z_01, reduceCtorEq, ite_true, ite_false, true_and, and_true, ↓bI_01, ↓bP_01, ↓zret0, ↓zret1, z_add, z_sub, z_mul, up_1, up_2, not_true, not_false_iff, if_true, if_false, Int.reduceNeg, Int.reduceAdd, Int.reduceSub, Int.reduceMul, Int.reduceEq, Int.reduceLT, Int.reduceLE, Int.natCast_add, Int.cast_ofNat_Int]
    · rintro s ⟨best, rfl, hB⟩
      refine ⟨w1, ?_, ho⟩
      have hcast : (((A 0 15).toNat : Nat) : Int) = A 0 15 := Int.toNat_of_nonneg (by omega)
      rw [hcast] at hB
      have hbr : -1 ≤ best ∧ best < 24 := by rcases hB with ⟨h1, h2⟩ | ⟨h1, h2, h3, h4, h5⟩ <;> omega
      rw [q_dr_i hV c0 c1 hw (d := best) (by
        rcases hB with ⟨h1, h2⟩ | ⟨h1, h2, h3, h4, h5⟩
        · exact Or.inl ⟨h1, h2⟩
        · exact Or.inr ⟨h1, h2, h3, h4, h5⟩), kb_178_22]
      simp (disch := omega) only [r_cells hV hM1, ev_iload, ev_aload, rx_istore, ev_iinc, ev_push, ev_goto, ev_jsr, rx_ieq_t, rx_ieq_f, rx_ine_t, rx_ine_f, rx_ige_t, rx_ige_f, ev_getf, ev_iald, ev_callv, nr_i, nr_r, nr_l, nr_n, kA_47, kA_48, kA_49, kA_50, kA_51, kA_52, kA_53, kA_54, kA_55, kA_56, kA_57, kA_58, kA_59, kA_60, kA_61, kA_63, kA_64, kA_65, kA_66, kA_67, kA_68, kA_69, kA_70, rx_iret, kb_178_0, kb_178_14, kb_178_71, kb_178_73, kb_178_79, kr_178, kf_46_707, kf_46_754, List.getD_cons_zero, List.getD_cons_succ, List.set_cons_zero, List.set_cons_succ, ex_spl, ex_low, Option.toList, List.cons_append, List.nil_append, reduceIte, Int.reduceToNat, Nat.reduceDiv, Nat.reduceMod, Nat.reduceAdd, Nat.reduceMul, z_0, z_1, z_10, z_01, reduceCtorEq, ite_true, ite_false, true_and, and_true, ↓bI_01, ↓bP_01, ↓zret0, ↓zret1, z_add, z_sub, z_mul, up_1, up_2, not_true, not_false_iff, if_true, if_false, Int.reduceNeg, Int.reduceAdd, Int.reduceSub, Int.reduceMul, Int.reduceEq, Int.reduceLT, Int.reduceLE, Int.natCast_add, Int.cast_ofNat_Int]
theorem r_counts {d : Nat} {A : AS} {b : Int} {w : PW} (hV : q_v0 A) (hM : rN A b w) {l p c v : Int} (l0 : 0 ≤ l) (l1 : l < A 0 3) (p0 : 0 ≤ p) (p1 : p < 3) (c0 : 0 ≤ c) (c1 : c < A 0 15) (v0 : 0 ≤ v) (v1 : v < 4) (b0 : -3 ≤ b) (b1 : b ≤ 3) : ∃ w', ex_cal (d + 8) 185 [.ref 46, .int (Int32.ofInt l), .int (Int32.ofInt p), .int (Int32.ofInt c), .int (Int32.ofInt v)] w = some (some (.int (bP (q_cn A b l p c v))), w') ∧ sQ w w' := by
  have hr := q_rng hV
  have hl := hV.2.1.2.2 l l0 l1
  have hp1 := q_ptr hV.1 c0 c1 p v 1
  have hp2 := q_ptr hV.1 c0 c1 p v 2
  have hp3 := q_ptr hV.1 c0 c1 p v 3
  have hdo := q_do_r hV.1 c0 c1
  have s0 := q_sdr A b c
  have s1 := q_sdr A b (q_pt A p c v 1)
  have s2 := q_sdr A b (q_pt A p c v 2)
  have s3 := q_sdr A b (q_pt A p c v 3)
  have s4 := q_sdr A b (q_do A c)
  obtain ⟨-, -, ⟨gs, -, -, -, gn⟩, -⟩ := id hM
  have e1 := gs l l0 l1
  have e2 := gn l l0 l1
  rw [ke_185 kc_46]
  unfold q_cn
  generalize hk : A 3 (5 * l + 4) = k at *
  have hkk : k = 0 ∨ k = 1 ∨ k = 2 ∨ k = 3 ∨ k = 4 := by omega
  rcases hkk with e | e | e | e | e <;> subst e
  · refine ⟨w, ?_, sQ_r w⟩
    rw [if_neg (by omega), if_neg (by omega), if_neg (by omega), if_neg (by omega), bP_t trivial]
    simp (disch := omega) only [e1, e2, ev_iload, ev_aload, rx_istore, ev_push, ev_goto, ev_jsr, rx_ine_t, rx_ine_f, ev_getf, ev_iald, ev_callv, nr_i, nr_r, nr_l, nr_n, kA_47, kA_48, kA_49, kA_50, kA_51, kA_52, kA_53, kA_54, kA_55, kA_56, kA_57, kA_58, kA_59, kA_60, kA_61, kA_63, kA_64, kA_65, kA_66, kA_67, kA_68, kA_69, kA_70, rx_tsw, rx_tsd, ar_tl, Int.reduceSub, rx_zret_t, rx_zretI, rx_zretP, kb_185_0, kb_185_44, kb_185_58, kb_185_59, kb_185_60, kb_185_82, kb_185_83, kb_185_84, kb_185_134, kb_185_135, kb_185_136, kb_185_154, kb_185_156, kb_185_168, kb_185_169, kb_185_170, kr_185, kf_46_710, kf_46_714, List.getD_cons_zero, List.getD_cons_succ, List.set_cons_zero, List.set_cons_succ, ex_spl, ex_low, Option.toList, List.cons_append, List.nil_append, reduceIte, Int.reduceToNat, Nat.reduceDiv, Nat.reduceMod, Nat.reduceAdd, Nat.reduceMul, z_0, z_1, z_10, z_01, reduceCtorEq, ite_true, ite_false, true_and, and_true, ↓bI_01, ↓bP_01, ↓zret0, ↓zret1, z_add, z_sub, z_mul, up_1, up_2, not_true, not_false_iff, if_true, if_false, Int.reduceNeg, Int.reduceAdd, Int.reduceSub, Int.reduceMul, Int.reduceEq, Int.reduceLT, Int.reduceLE, Int.natCast_add, Int.cast_ofNat_Int]
  · refine ⟨w, ?_, sQ_r w⟩
    rw [if_pos rfl]
    by_cases q : q_sd A b c = A 3 (5 * l)
    · rw [bP_t q]
      simp (disch := omega) only [e1, e2, r_sideOf hV.1 hM b0 b1, ev_iload, ev_aload, rx_istore, ev_push, ev_goto, ev_jsr, rx_ine_t, rx_ine_f, ev_getf, ev_iald, ev_callv, nr_i, nr_r, nr_l, nr_n, kA_47, kA_48, kA_49, kA_50, kA_51, kA_52, kA_53, kA_54, kA_55, kA_56, kA_57, kA_58, kA_59, kA_60, kA_61, kA_63, kA_64, kA_65, kA_66, kA_67, kA_68, kA_69, kA_70, rx_tsw, rx_tsd, ar_tl, Int.reduceSub, rx_zret_t, rx_zretI, rx_zretP, kb_185_0, kb_185_44, kb_185_58, kb_185_59, kb_185_60, kb_185_82, kb_185_83, kb_185_84, kb_185_134, kb_185_135, kb_185_136, kb_185_154, kb_185_156, kb_185_168, kb_185_169, kb_185_170, kr_185, kf_46_710, kf_46_714, List.getD_cons_zero, List.getD_cons_succ, List.set_cons_zero, List.set_cons_succ, ex_spl, ex_low, Option.toList, List.cons_append, List.nil_append, reduceIte, Int.reduceToNat, Nat.reduceDiv, Nat.reduceMod, Nat.reduceAdd, Nat.reduceMul, z_0, z_1, z_10, z_01, reduceCtorEq, ite_true, ite_false, true_and, and_true, ↓bI_01, ↓bP_01, ↓zret0, ↓zret1, z_add, z_sub, z_mul, up_1, up_2, not_true, not_false_iff, if_true, if_false, Int.reduceNeg, Int.reduceAdd, Int.reduceSub, Int.reduceMul, Int.reduceEq, Int.reduceLT, Int.reduceLE, Int.natCast_add, Int.cast_ofNat_Int]
    · rw [bP_f q]
      simp (disch := omega) only [e1, e2, r_sideOf hV.1 hM b0 b1, ev_iload, ev_aload, rx_istore, ev_push, ev_goto, ev_jsr, rx_ine_t, rx_ine_f, ev_getf, ev_iald, ev_callv, nr_i, nr_r, nr_l, nr_n, kA_47, kA_48, kA_49, kA_50, kA_51, kA_52, kA_53, kA_54, kA_55, kA_56, kA_57, kA_58, kA_59, kA_60, kA_61, kA_63, kA_64, kA_65, kA_66, kA_67, kA_68, kA_69, kA_70, rx_tsw, rx_tsd, ar_tl, Int.reduceSub, rx_zret_t, rx_zretI, rx_zretP, kb_185_0, kb_185_44, kb_185_58, kb_185_59, kb_185_60, kb_185_82, kb_185_83, kb_185_84, kb_185_134, kb_185_135, kb_185_136, kb_185_154, kb_185_156, kb_185_168, kb_185_169, kb_185_170, kr_185, kf_46_710, kf_46_714, List.getD_cons_zero, List.getD_cons_succ, List.set_cons_zero, List.set_cons_succ, ex_spl, ex_low, Option.toList, List.cons_append, List.nil_append, reduceIte, Int.reduceToNat, Nat.reduceDiv, Nat.reduceMod, Nat.reduceAdd, Nat.reduceMul, z_0, z_1, z_10, z_01, reduceCtorEq, ite_true, ite_false, true_and, and_true, ↓bI_01, ↓bP_01, ↓zret0, ↓zret1, z_add, z_sub, z_mul, up_1, up_2, not_true, not_false_iff, if_true, if_false, Int.reduceNeg, Int.reduceAdd, Int.reduceSub, Int.reduceMul, Int.reduceEq, Int.reduceLT, Int.reduceLE, Int.natCast_add, Int.cast_ofNat_Int]
  · refine ⟨w, ?_, sQ_r w⟩
    rw [if_neg (by omega), if_pos rfl]
    by_cases q : q_sd A b (q_pt A p c v 1) = A 3 (5 * l)
    · rw [bP_t q]
      simp (disch := omega) only [e1, e2, r_sideOf hV.1 hM b0 b1, r_partOf hV.1 hM, ev_iload, ev_aload, rx_istore, ev_push, ev_goto, ev_jsr, rx_ine_t, rx_ine_f, ev_getf, ev_iald, ev_callv, nr_i, nr_r, nr_l, nr_n, kA_47, kA_48, kA_49, kA_50, kA_51, kA_52, kA_53, kA_54, kA_55, kA_56, kA_57, kA_58, kA_59, kA_60, kA_61, kA_63, kA_64, kA_65, kA_66, kA_67, kA_68, kA_69, kA_70, rx_tsw, rx_tsd, ar_tl, Int.reduceSub, rx_zret_t, rx_zretI, rx_zretP, kb_185_0, kb_185_44, kb_185_58, kb_185_59, kb_185_60, kb_185_82, kb_185_83, kb_185_84, kb_185_134, kb_185_135, kb_185_136, kb_185_154, kb_185_156, kb_185_168, kb_185_169, kb_185_170, kr_185, kf_46_710, kf_46_714, List.getD_cons_zero, List.getD_cons_succ, List.set_cons_zero, List.set_cons_succ, ex_spl, ex_low, Option.toList, List.cons_append, List.nil_append, reduceIte, Int.reduceToNat, Nat.reduceDiv, Nat.reduceMod, Nat.reduceAdd, Nat.reduceMul, z_0, z_1, z_10, z_01, reduceCtorEq, ite_true, ite_false, true_and, and_true, ↓bI_01, ↓bP_01, ↓zret0, ↓zret1, z_add, z_sub, z_mul, up_1, up_2, not_true, not_false_iff, if_true, if_false, Int.reduceNeg, Int.reduceAdd, Int.reduceSub, Int.reduceMul, Int.reduceEq, Int.reduceLT, Int.reduceLE, Int.natCast_add, Int.cast_ofNat_Int]
    · rw [bP_f q]
      simp (disch := omega) only [e1, e2, r_sideOf hV.1 hM b0 b1, r_partOf hV.1 hM, ev_iload, ev_aload, rx_istore, ev_push, ev_goto, ev_jsr, rx_ine_t, rx_ine_f, ev_getf, ev_iald, ev_callv, nr_i, nr_r, nr_l, nr_n, kA_47, kA_48, kA_49, kA_50, kA_51, kA_52, kA_53, kA_54, kA_55, kA_56, kA_57, kA_58, kA_59, kA_60, kA_61, kA_63, kA_64, kA_65, kA_66, kA_67, kA_68, kA_69, kA_70, rx_tsw, rx_tsd, ar_tl, Int.reduceSub, rx_zret_t, rx_zretI, rx_zretP, kb_185_0, kb_185_44, kb_185_58, kb_185_59, kb_185_60, kb_185_82, kb_185_83, kb_185_84, kb_185_134, kb_185_135, kb_185_136, kb_185_154, kb_185_156, kb_185_168, kb_185_169, kb_185_170, kr_185, kf_46_710, kf_46_714, List.getD_cons_zero, List.getD_cons_succ, List.set_cons_zero, List.set_cons_succ, ex_spl, ex_low, Option.toList, List.cons_append, List.nil_append, reduceIte, Int.reduceToNat, Nat.reduceDiv, Nat.reduceMod, Nat.reduceAdd, Nat.reduceMul, z_0, z_1, z_10, z_01, reduceCtorEq, ite_true, ite_false, true_and, and_true, ↓bI_01, ↓bP_01, ↓zret0, ↓zret1, z_add, z_sub, z_mul, up_1, up_2, not_true, not_false_iff, if_true, if_false, Int.reduceNeg, Int.reduceAdd, Int.reduceSub, Int.reduceMul, Int.reduceEq, Int.reduceLT, Int.reduceLE, Int.natCast_add, Int.cast_ofNat_Int]
  · refine ⟨w, ?_, sQ_r w⟩
    rw [if_neg (by omega), if_neg (by omega), if_pos rfl]
    by_cases q : q_sd A b c = A 3 (5 * l)
    · by_cases q2 : q_sd A b (q_pt A p c v 2) = A 3 (5 * l)
      · by_cases q3 : q_sd A b (q_pt A p c v 3) = A 3 (5 * l)
        · rw [bP_t ⟨q, q2, q3⟩]
          simp (disch := omega) only [e1, e2, r_sideOf hV.1 hM b0 b1, r_partOf hV.1 hM, ev_iload, ev_aload, rx_istore, ev_push, ev_goto, ev_jsr, rx_ine_t, rx_ine_f, ev_getf, ev_iald, ev_callv, nr_i, nr_r, nr_l, nr_n, kA_47, kA_48, kA_49, kA_50, kA_51, kA_52, kA_53, kA_54, kA_55, kA_56, kA_57, kA_58, kA_59, kA_60, kA_61, kA_63, kA_64, kA_65, kA_66, kA_67, kA_68, kA_69, kA_70, rx_tsw, rx_tsd, ar_tl, Int.reduceSub, rx_zret_t, rx_zretI, rx_zretP, kb_185_0, kb_185_44, kb_185_58, kb_185_59, kb_185_60, kb_185_82, kb_185_83, kb_185_84, kb_185_134, kb_185_135, kb_185_136, kb_185_154, kb_185_156, kb_185_168, kb_185_169, kb_185_170, kr_185, kf_46_710, kf_46_714, List.getD_cons_zero, List.getD_cons_succ, List.set_cons_zero, List.set_cons_succ, ex_spl, ex_low, Option.toList, List.cons_append, List.nil_append, reduceIte, Int.reduceToNat, Nat.reduceDiv, Nat.reduceMod, Nat.reduceAdd, Nat.reduceMul, z_0, z_1, z_10, z_01, reduceCtorEq, ite_true, ite_false, true_and, and_true, ↓bI_01, ↓bP_01, ↓zret0, ↓zret1, z_add, z_sub, z_mul, up_1, up_2, not_true, not_false_iff, if_true, if_false, Int.reduceNeg, Int.reduceAdd, Int.reduceSub, Int.reduceMul, Int.reduceEq, Int.reduceLT, Int.reduceLE, Int.natCast_add, Int.cast_ofNat_Int]
        · rw [bP_f (fun h => q3 h.2.2)]
          simp (disch := omega) only [e1, e2, r_sideOf hV.1 hM b0 b1, r_partOf hV.1 hM, ev_iload, ev_aload, rx_istore, ev_push, ev_goto, ev_jsr, rx_ine_t, rx_ine_f, ev_getf, ev_iald, ev_callv, nr_i, nr_r, nr_l, nr_n, kA_47, kA_48, kA_49, kA_50, kA_51, kA_52, kA_53, kA_54, kA_55, kA_56, kA_57, kA_58, kA_59, kA_60, kA_61, kA_63, kA_64, kA_65, kA_66, kA_67, kA_68, kA_69, kA_70, rx_tsw, rx_tsd, ar_tl, Int.reduceSub, rx_zret_t, rx_zretI, rx_zretP, kb_185_0, kb_185_44, kb_185_58, kb_185_59, kb_185_60, kb_185_82, kb_185_83, kb_185_84, kb_185_134, kb_185_135, kb_185_136, kb_185_154, kb_185_156, kb_185_168, kb_185_169, kb_185_170, kr_185, kf_46_710, kf_46_714, List.getD_cons_zero, List.getD_cons_succ, List.set_cons_zero, List.set_cons_succ, ex_spl, ex_low, Option.toList, List.cons_append, List.nil_append, reduceIte, Int.reduceToNat, Nat.reduceDiv, Nat.reduceMod, Nat.reduceAdd, Nat.reduceMul, z_0, z_1, z_10, z_01, reduceCtorEq, ite_true, ite_false, true_and, and_true, ↓bI_01, ↓bP_01, ↓zret0, ↓zret1, z_add, z_sub, z_mul, up_1, up_2, not_true, not_false_iff, if_true, if_false, Int.reduceNeg, Int.reduceAdd, Int.reduceSub, Int.reduceMul, Int.reduceEq, Int.reduceLT, Int.reduceLE, Int.natCast_add, Int.cast_ofNat_Int]
      · rw [bP_f (fun h => q2 h.2.1)]
        simp (disch := omega) only [e1, e2, r_sideOf hV.1 hM b0 b1, r_partOf hV.1 hM, ev_iload, ev_aload, rx_istore, ev_push, ev_goto, ev_jsr, rx_ine_t, rx_ine_f, ev_getf, ev_iald, ev_callv, nr_i, nr_r, nr_l, nr_n, kA_47, kA_48, kA_49, kA_50, kA_51, kA_52, kA_53, kA_54, kA_55, kA_56, kA_57, kA_58, kA_59, kA_60, kA_61, kA_63, kA_64, kA_65, kA_66, kA_67, kA_68, kA_69, kA_70, rx_tsw, rx_tsd, ar_tl, Int.reduceSub, rx_zret_t, rx_zretI, rx_zretP, kb_185_0, kb_185_44, kb_185_58, kb_185_59, kb_185_60, kb_185_82, kb_185_83, kb_185_84, kb_185_134, kb_185_135, kb_185_136, kb_185_154, kb_185_156, kb_185_168, kb_185_169, kb_185_170, kr_185, kf_46_710, kf_46_714, List.getD_cons_zero, List.getD_cons_succ, List.set_cons_zero, List.set_cons_succ, ex_spl, ex_low, Option.toList, List.cons_append, List.nil_append, reduceIte, Int.reduceToNat, Nat.reduceDiv, Nat.reduceMod, Nat.reduceAdd, Nat.reduceMul, z_0, z_1, z_10, z_01, reduceCtorEq, ite_true, ite_false, true_and, and_true, ↓bI_01, ↓bP_01, ↓zret0, ↓zret1, z_add, z_sub, z_mul, up_1, up_2, not_true, not_false_iff, if_true, if_false, Int.reduceNeg, Int.reduceAdd, Int.reduceSub, Int.reduceMul, Int.reduceEq, Int.reduceLT, Int.reduceLE, Int.natCast_add, Int.cast_ofNat_Int]
    · rw [bP_f (fun h => q h.1)]
      simp (disch := omega) only [e1, e2, r_sideOf hV.1 hM b0 b1, r_partOf hV.1 hM, ev_iload, ev_aload, rx_istore, ev_push, ev_goto, ev_jsr, rx_ine_t, rx_ine_f, ev_getf, ev_iald, ev_callv, nr_i, nr_r, nr_l, nr_n, kA_47, kA_48, kA_49, kA_50, kA_51, kA_52, kA_53, kA_54, kA_55, kA_56, kA_57, kA_58, kA_59, kA_60, kA_61, kA_63, kA_64, kA_65, kA_66, kA_67, kA_68, kA_69, kA_70, rx_tsw, rx_tsd, ar_tl, Int.reduceSub, rx_zret_t, rx_zretI, rx_zretP, kb_185_0, kb_185_44, kb_185_58, kb_185_59, kb_185_60, kb_185_82, kb_185_83, kb_185_84, kb_185_134, kb_185_135, kb_185_136, kb_185_154, kb_185_156, kb_185_168, kb_185_169, kb_185_170, kr_185, kf_46_710, kf_46_714, List.getD_cons_zero, List.getD_cons_succ, List.set_cons_zero, List.set_cons_succ, ex_spl, ex_low, Option.toList, List.cons_append, List.nil_append, reduceIte, Int.reduceToNat, Nat.reduceDiv, Nat.reduceMod, Nat.reduceAdd, Nat.reduceMul, z_0, z_1, z_10, z_01, reduceCtorEq, ite_true, ite_false, true_and, and_true, ↓bI_01, ↓bP_01, ↓zret0, ↓zret1, z_add, z_sub, z_mul, up_1, up_2, not_true, not_false_iff, if_true, if_false, Int.reduceNeg, Int.reduceAdd, Int.reduceSub, Int.reduceMul, Int.reduceEq, Int.reduceLT, Int.reduceLE, Int.natCast_add, Int.cast_ofNat_Int]
  · obtain ⟨w1, e3, ho⟩ := r_nearestDoor (d := d) hV.1 hM hV.2.2.2.1 c0 c1
    have hM1 := rN_q hM ho
    have hdr := q_dr_r hV.1 c0 c1
    refine ⟨w1, ?_, ho⟩
    rw [if_neg (by omega), if_neg (by omega), if_neg (by omega), if_pos rfl]
    unfold q_do at *
    by_cases hn : q_dr A c = -1
    · rw [if_pos hn] at s4 ⊢
      by_cases q : q_sd A b c = A 3 (5 * l)
      · rw [bP_t q]
        simp (disch := omega) only [e1, e2, r_sideOf hV.1 hM1 b0 b1, e3, hn, ev_iload, ev_aload, rx_istore, ev_push, ev_goto, ev_jsr, rx_ine_t, rx_ine_f, ev_getf, ev_iald, ev_callv, nr_i, nr_r, nr_l, nr_n, kA_47, kA_48, kA_49, kA_50, kA_51, kA_52, kA_53, kA_54, kA_55, kA_56, kA_57, kA_58, kA_59, kA_60, kA_61, kA_63, kA_64, kA_65, kA_66, kA_67, kA_68, kA_69, kA_70, rx_tsw, rx_tsd, ar_tl, Int.reduceSub, rx_zret_t, rx_zretI, rx_zretP, kb_185_0, kb_185_44, kb_185_58, kb_185_59, kb_185_60, kb_185_82, kb_185_83, kb_185_84, kb_185_134, kb_185_135, kb_185_136, kb_185_154, kb_185_156, kb_185_168, kb_185_169, kb_185_170, kr_185, kf_46_710, kf_46_714, List.getD_cons_zero, List.getD_cons_succ, List.set_cons_zero, List.set_cons_succ, ex_spl, ex_low, Option.toList, List.cons_append, List.nil_append, reduceIte, Int.reduceToNat, Nat.reduceDiv, Nat.reduceMod, Nat.reduceAdd, Nat.reduceMul, z_0, z_1, z_10, z_01, reduceCtorEq, ite_true, ite_false, true_and, and_true, ↓bI_01, ↓bP_01, ↓zret0, ↓zret1, z_add, z_sub, z_mul, up_1, up_2, not_true, not_false_iff, if_true, if_false, Int.reduceNeg, Int.reduceAdd, Int.reduceSub, Int.reduceMul, Int.reduceEq, Int.reduceLT, Int.reduceLE, Int.natCast_add, Int.cast_ofNat_Int]
      · rw [bP_f q]
        simp (disch := omega) only [e1, e2, r_sideOf hV.1 hM1 b0 b1, e3, hn, ev_iload, ev_aload, rx_istore, ev_push, ev_goto, ev_jsr, rx_ine_t, rx_ine_f, ev_getf, ev_iald, ev_callv, nr_i, nr_r, nr_l, nr_n, kA_47, kA_48, kA_49, kA_50, kA_51, kA_52, kA_53, kA_54, kA_55, kA_56, kA_57, kA_58, kA_59, kA_60, kA_61, kA_63, kA_64, kA_65, kA_66, kA_67, kA_68, kA_69, kA_70, rx_tsw, rx_tsd, ar_tl, Int.reduceSub, rx_zret_t, rx_zretI, rx_zretP, kb_185_0, kb_185_44, kb_185_58, kb_185_59, kb_185_60, kb_185_82, kb_185_83, kb_185_84, kb_185_134, kb_185_135, kb_185_136, kb_185_154, kb_185_156, kb_185_168, kb_185_169, kb_185_170, kr_185, kf_46_710, kf_46_714, List.getD_cons_zero, List.getD_cons_succ, List.set_cons_zero, List.set_cons_succ, ex_spl, ex_low, Option.toList, List.cons_append, List.nil_append, reduceIte, Int.reduceToNat, Nat.reduceDiv, Nat.reduceMod, Nat.reduceAdd, Nat.reduceMul, z_0, z_1, z_10, z_01, reduceCtorEq, ite_true, ite_false, true_and, and_true, ↓bI_01, ↓bP_01, ↓zret0, ↓zret1, z_add, z_sub, z_mul, up_1, up_2, not_true, not_false_iff, if_true, if_false, Int.reduceNeg, Int.reduceAdd, Int.reduceSub, Int.reduceMul, Int.reduceEq, Int.reduceLT, Int.reduceLE, Int.natCast_add, Int.cast_ofNat_Int]
    · rw [if_neg hn] at s4 ⊢
      by_cases q : q_sd A b (q_dr A c) = A 3 (5 * l)
      · rw [bP_t q]
        simp (disch := omega) only [e1, e2, r_sideOf hV.1 hM1 b0 b1, e3, ev_iload, ev_aload, rx_istore, ev_push, ev_goto, ev_jsr, rx_ine_t, rx_ine_f, ev_getf, ev_iald, ev_callv, nr_i, nr_r, nr_l, nr_n, kA_47, kA_48, kA_49, kA_50, kA_51, kA_52, kA_53, kA_54, kA_55, kA_56, kA_57, kA_58, kA_59, kA_60, kA_61, kA_63, kA_64, kA_65, kA_66, kA_67, kA_68, kA_69, kA_70, rx_tsw, rx_tsd, ar_tl, Int.reduceSub, rx_zret_t, rx_zretI, rx_zretP, kb_185_0, kb_185_44, kb_185_58, kb_185_59, kb_185_60, kb_185_82, kb_185_83, kb_185_84, kb_185_134, kb_185_135, kb_185_136, kb_185_154, kb_185_156, kb_185_168, kb_185_169, kb_185_170, kr_185, kf_46_710, kf_46_714, List.getD_cons_zero, List.getD_cons_succ, List.set_cons_zero, List.set_cons_succ, ex_spl, ex_low, Option.toList, List.cons_append, List.nil_append, reduceIte, Int.reduceToNat, Nat.reduceDiv, Nat.reduceMod, Nat.reduceAdd, Nat.reduceMul, z_0, z_1, z_10, z_01, reduceCtorEq, ite_true, ite_false, true_and, and_true, ↓bI_01, ↓bP_01, ↓zret0, ↓zret1, z_add, z_sub, z_mul, up_1, up_2, not_true, not_false_iff, if_true, if_false, Int.reduceNeg, Int.reduceAdd, Int.reduceSub, Int.reduceMul, Int.reduceEq, Int.reduceLT, Int.reduceLE, Int.natCast_add, Int.cast_ofNat_Int]
      · rw [bP_f q]
        simp (disch := omega) only [e1, e2, r_sideOf hV.1 hM1 b0 b1, e3, ev_iload, ev_aload, rx_istore, ev_push, ev_goto, ev_jsr, rx_ine_t, rx_ine_f, ev_getf, ev_iald, ev_callv, nr_i, nr_r, nr_l, nr_n, kA_47, kA_48, kA_49, kA_50, kA_51, kA_52, kA_53, kA_54, kA_55, kA_56, kA_57, kA_58, kA_59, kA_60, kA_61, kA_63, kA_64, kA_65, kA_66, kA_67, kA_68, kA_69, kA_70, rx_tsw, rx_tsd, ar_tl, Int.reduceSub, rx_zret_t, rx_zretI, rx_zretP, kb_185_0, kb_185_44, kb_185_58, kb_185_59, kb_185_60, kb_185_82, kb_185_83, kb_185_84, kb_185_134, kb_185_135, kb_185_136, kb_185_154, kb_185_156, kb_185_168, kb_185_169, kb_185_170, kr_185, kf_46_710, kf_46_714, List.getD_cons_zero, List.getD_cons_succ, List.set_cons_zero, List.set_cons_succ, ex_spl, ex_low, Option.toList, List.cons_append, List.nil_append, reduceIte, Int.reduceToNat, Nat.reduceDiv, Nat.reduceMod, Nat.reduceAdd, Nat.reduceMul, z_0, z_1, z_10, z_01, reduceCtorEq, ite_true, ite_false, true_and, and_true, ↓bI_01, ↓bP_01, ↓zret0, ↓zret1, z_add, z_sub, z_mul, up_1, up_2, not_true, not_false_iff, if_true, if_false, Int.reduceNeg, Int.reduceAdd, Int.reduceSub, Int.reduceMul, Int.reduceEq, Int.reduceLT, Int.reduceLE, Int.natCast_add, Int.cast_ofNat_Int]
theorem r_againstBy {d : Nat} {A : AS} {b : Int} {w : PW} (hV : q_v0 A) (hM : rN A b w) {a h p c v : Int} (a0 : 0 ≤ a) (a1 : a < 6) (h0 : 0 ≤ h) (h1 : h < 24) (p0 : 0 ≤ p) (p1 : p < 3) (c0 : 0 ≤ c) (c1 : c < A 0 15) (v0 : 0 ≤ v) (v1 : v < 4) (b0 : -3 ≤ b) (b1 : b ≤ 3) : ∃ w', ex_cal (d + 9) 186 [.ref 46, .int (Int32.ofInt a), .int (Int32.ofInt h), .int (Int32.ofInt p), .int (Int32.ofInt c), .int (Int32.ofInt v)] w = some (some (.int (q_br A b a h p c v)), w') ∧ sQ w w' := by
  have hr := q_rng hV
  rw [ke_186 kc_46]
  simp (disch := omega) only [ev_iload, ev_aload, rx_istore, ev_iinc, ev_push, ev_ior, ev_ishl, ev_goto, ev_jsr, rx_ine_t, rx_ine_f, rx_ige_t, rx_ige_f, rx_zeq_t, rx_zeq_f, ev_getf, ev_iald, ev_callv, nr_i, nr_r, nr_l, nr_n, kA_47, kA_48, kA_49, kA_50, kA_51, kA_52, kA_53, kA_54, kA_55, kA_56, kA_57, kA_58, kA_59, kA_60, kA_61, kA_63, kA_64, kA_65, kA_66, kA_67, kA_68, kA_69, kA_70, rx_iret, kb_186_0, kb_186_54, kb_186_55, kb_186_71, kb_186_72, kb_186_81, kr_186, kf_46_709, kf_46_711, List.getD_cons_zero, List.getD_cons_succ, List.set_cons_zero, List.set_cons_succ, ex_spl, ex_low, Option.toList, List.cons_append, List.nil_append, reduceIte, Int.reduceToNat, Nat.reduceDiv, Nat.reduceMod, Nat.reduceAdd, Nat.reduceMul, z_0, z_1, z_10, z_01, reduceCtorEq, ite_true, ite_false, true_and, and_true, ↓bI_01, ↓bP_01, ↓zret0, ↓zret1, z_add, z_sub, z_mul, up_1, up_2, not_true, not_false_iff, if_true, if_false, Int.reduceNeg, Int.reduceAdd, Int.reduceSub, Int.reduceMul, Int.reduceEq, Int.reduceLT, Int.reduceLE, Int.natCast_add, Int.cast_ofNat_Int]
  refine ex_loop (Q := fun r => ∃ w', r = some (some (.int (q_br A b a h p c v)), w') ∧ sQ w w') (fun i s => ∃ w1 v8, s = (ex_blk 186 6, [.ref 46, .int (Int32.ofInt a), .int (Int32.ofInt h), .int (Int32.ofInt p), .int (Int32.ofInt c), .int (Int32.ofInt v), .int (q_brn A b a h p c v i), .int (Int32.ofInt (i : Int)), v8], [], w1) ∧ xv v8 ∧ sQ w w1) (A 0 3).toNat ?_ ?_ ?_
  · exact ⟨w, .null, rfl, xv_n, sQ_r w⟩
  · rintro i s hi ⟨w1, v8, rfl, x8, ho⟩
    right
    have hM1 := rN_q hM ho
    have hl := hV.2.1.2.2 i (by omega) (by omega)
    obtain ⟨⟨-, -, -, g5, -⟩, -, ⟨-, ga, -, -, -⟩, -⟩ := id hM1
    have e1 := ga i (by omega) (by omega)
    obtain ⟨w2, e2, ho2⟩ := r_counts (d := d) hV hM1 (l := i) (by omega) (by omega) p0 p1 c0 c1 v0 v1 b0 b1
    by_cases hv : q_vi A b a h p c v i
    · have e : q_brn A b a h p c v (i + 1) = q_brn A b a h p c v i ||| (Int32.ofInt 1 <<< (Int32.ofInt (i : Int) &&& 31)) := by
        show _ ||| q_iw _ _ _ = _
        rw [q_iw_t hv]; rfl
      obtain ⟨v1', v2, v3⟩ := hv
      have e3 := bP_t v2
      have e4 := bP_t v3
      refine ⟨(ex_blk 186 6, [.ref 46, .int (Int32.ofInt a), .int (Int32.ofInt h), .int (Int32.ofInt p), .int (Int32.ofInt c), .int (Int32.ofInt v), .int (q_brn A b a h p c v (i + 1)), .int (Int32.ofInt ((i : Int) + 1)), .int (Int32.ofInt 1)], [], w2), ?_, w2, _, rfl, xv_i _, sQ_t ho ho2⟩
      conv => lhs; rw [kb_186_6]
      rw [e]
      simp (disch := omega) only [g5, e1, x8, r_holds hV hM1, e2, e3, e4, ev_iload, ev_aload, rx_istore, ev_iinc, ev_push, ev_ior, ev_ishl, ev_goto, ev_jsr, rx_ine_t, rx_ine_f, rx_ige_t, rx_ige_f, rx_zeq_t, rx_zeq_f, ev_getf, ev_iald, ev_callv, nr_i, nr_r, nr_l, nr_n, kA_47, kA_48, kA_49, kA_50, kA_51, kA_52, kA_53, kA_54, kA_55, kA_56, kA_57, kA_58, kA_59, kA_60, kA_61, kA_63, kA_64, kA_65, kA_66, kA_67, kA_68, kA_69, kA_70, rx_iret, kb_186_0, kb_186_54, kb_186_55, kb_186_71, kb_186_72, kb_186_81, kr_186, kf_46_709, kf_46_711, List.getD_cons_zero, List.getD_cons_succ, List.set_cons_zero, List.set_cons_succ, ex_spl, ex_low, Option.toList, List.cons_append, List.nil_append, reduceIte, Int.reduceToNat, Nat.reduceDiv, Nat.reduceMod, Nat.reduceAdd, Nat.reduceMul, z_0, z_1, z_10, z_01, reduceCtorEq, ite_true, ite_false, true_and, and_true, ↓bI_01, ↓bP_01, ↓zret0, ↓zret1, z_add, z_sub, z_mul, up_1, up_2, not_true, not_false_iff, if_true, if_false, Int.reduceNeg, Int.reduceAdd, Int.reduceSub, Int.reduceMul, Int.reduceEq, Int.reduceLT, Int.reduceLE, Int.natCast_add, Int.cast_ofNat_Int]
    · have e : q_brn A b a h p c v (i + 1) = q_brn A b a h p c v i := by
        show _ ||| q_iw _ _ _ = _
        rw [q_iw_f hv, m_or0]
      by_cases v1' : A 3 (5 * i + 1) = a
      · by_cases v2 : q_hl A i h
        · have v3 : ¬ q_cn A b i p c v := fun hh => hv ⟨v1', v2, hh⟩
          have e3 := bP_t v2
          have e4 := bP_f v3
          refine ⟨(ex_blk 186 6, [.ref 46, .int (Int32.ofInt a), .int (Int32.ofInt h), .int (Int32.ofInt p), .int (Int32.ofInt c), .int (Int32.ofInt v), .int (q_brn A b a h p c v (i + 1)), .int (Int32.ofInt ((i : Int) + 1)), .int (Int32.ofInt 0)], [], w2), ?_, w2, _, rfl, xv_i _, sQ_t ho ho2⟩
          conv => lhs; rw [kb_186_6]
          rw [e]
          simp (disch := omega) only [g5, e1, x8, r_holds hV hM1, e2, e3, e4, m_or0, ev_iload, ev_aload, rx_istore, ev_iinc, ev_push, ev_ior, ev_ishl, ev_goto, ev_jsr, rx_ine_t, rx_ine_f, rx_ige_t, rx_ige_f, rx_zeq_t, rx_zeq_f, ev_getf, ev_iald, ev_callv, nr_i, nr_r, nr_l, nr_n, kA_47, kA_48, kA_49, kA_50, kA_51, kA_52, kA_53, kA_54, kA_55, kA_56, kA_57, kA_58, kA_59, kA_60, kA_61, kA_63, kA_64, kA_65, kA_66, kA_67, kA_68, kA_69, kA_70, rx_iret, kb_186_0, kb_186_54, kb_186_55, kb_186_71, kb_186_72, kb_186_81, kr_186, kf_46_709, kf_46_711, List.getD_cons_zero, List.getD_cons_succ, List.set_cons_zero, List.set_cons_succ, ex_spl, ex_low, Option.toList, List.cons_append, List.nil_append, reduceIte, Int.reduceToNat, Nat.reduceDiv, Nat.reduceMod, Nat.reduceAdd, Nat.reduceMul, z_0, z_1, z_10, z_01, reduceCtorEq, ite_true, ite_false, true_and, and_true, ↓bI_01, ↓bP_01, ↓zret0, ↓zret1, z_add, z_sub, z_mul, up_1, up_2, not_true, not_false_iff, if_true, if_false, Int.reduceNeg, Int.reduceAdd, Int.reduceSub, Int.reduceMul, Int.reduceEq, Int.reduceLT, Int.reduceLE, Int.natCast_add, Int.cast_ofNat_Int]
        · have e3 := bP_f v2
          refine ⟨(ex_blk 186 6, [.ref 46, .int (Int32.ofInt a), .int (Int32.ofInt h), .int (Int32.ofInt p), .int (Int32.ofInt c), .int (Int32.ofInt v), .int (q_brn A b a h p c v (i + 1)), .int (Int32.ofInt ((i : Int) + 1)), .int (Int32.ofInt 0)], [], w1), ?_, w1, _, rfl, xv_i _, ho⟩
          conv => lhs; rw [kb_186_6]
          rw [e]
          simp (disch := omega) only [g5, e1, x8, r_holds hV hM1, e3, m_or0, ev_iload, ev_aload, rx_istore, ev_iinc, ev_push, ev_ior, ev_ishl, ev_goto, ev_jsr, rx_ine_t, rx_ine_f, rx_ige_t, rx_ige_f, rx_zeq_t, rx_zeq_f, ev_getf, ev_iald, ev_callv, nr_i, nr_r, nr_l, nr_n, kA_47, kA_48, kA_49, kA_50, kA_51, kA_52, kA_53, kA_54, kA_55, kA_56, kA_57, kA_58, kA_59, kA_60, kA_61, kA_63, kA_64, kA_65, kA_66, kA_67, kA_68, kA_69, kA_70, rx_iret, kb_186_0, kb_186_54, kb_186_55, kb_186_71, kb_186_72, kb_186_81, kr_186, kf_46_709, kf_46_711, List.getD_cons_zero, List.getD_cons_succ, List.set_cons_zero, List.set_cons_succ, ex_spl, ex_low, Option.toList, List.cons_append, List.nil_append, reduceIte, Int.reduceToNat, Nat.reduceDiv, Nat.reduceMod, Nat.reduceAdd, Nat.reduceMul, z_0, z_1, z_10, z_01, reduceCtorEq, ite_true, ite_false, true_and, and_true, ↓bI_01, ↓bP_01, ↓zret0, ↓zret1, z_add, z_sub, z_mul, up_1, up_2, not_true, not_false_iff, if_true, if_false, Int.reduceNeg, Int.reduceAdd, Int.reduceSub, Int.reduceMul, Int.reduceEq, Int.reduceLT, Int.reduceLE, Int.natCast_add, Int.cast_ofNat_Int]
      · refine ⟨(ex_blk 186 6, [.ref 46, .int (Int32.ofInt a), .int (Int32.ofInt h), .int (Int32.ofInt p), .int (Int32.ofInt c), .int (Int32.ofInt v), .int (q_brn A b a h p c v (i + 1)), .int (Int32.ofInt ((i : Int) + 1)), .int (Int32.ofInt 0)], [], w1), ?_, w1, _, rfl, xv_i _, ho⟩
        conv => lhs; rw [kb_186_6]
        rw [e]
        simp (disch := omega) only [g5, e1, x8, m_or0, ev_iload, ev_aload, rx_istore, ev_iinc, ev_push, ev_ior, ev_ishl, ev_goto, ev_jsr, rx_ine_t, rx_ine_f, rx_ige_t, rx_ige_f, rx_zeq_t, rx_zeq_f, ev_getf, ev_iald, ev_callv, nr_i, nr_r, nr_l, nr_n, kA_47, kA_48, kA_49, kA_50, kA_51, kA_52, kA_53, kA_54, kA_55, kA_56, kA_57, kA_58, kA_59, kA_60, kA_61, kA_63, kA_64, kA_65, kA_66, kA_67, kA_68, kA_69, kA_70, rx_iret, kb_186_0, kb_186_54, kb_186_55, kb_186_71, kb_186_72, kb_186_81, kr_186, kf_46_709, kf_46_711, List.getD_cons_zero, List.getD_cons_succ, List.set_cons_zero, List.set_cons_succ, ex_spl, ex_low, Option.toList, List.cons_append, List.nil_append, reduceIte, Int.reduceToNat, Nat.reduceDiv, Nat.reduceMod, Nat.reduceAdd, Nat.reduceMul, z_0, z_1, z_10, z_01, reduceCtorEq, ite_true, ite_false, true_and, and_true, ↓bI_01, ↓bP_01, ↓zret0, ↓zret1, z_add, z_sub, z_mul, up_1, up_2, not_true, not_false_iff, if_true, if_false, Int.reduceNeg, Int.reduceAdd, Int.reduceSub, Int.reduceMul, Int.reduceEq, Int.reduceLT, Int.reduceLE, Int.natCast_add, Int.cast_ofNat_Int]
  · rintro s ⟨w1, v8, rfl, x8, ho⟩
    have hM1 := rN_q hM ho
    obtain ⟨⟨-, -, -, g5, -⟩, -⟩ := id hM1
    refine ⟨w1, ?_, ho⟩
    rw [kb_186_6]
    simp (disch := omega) only [g5, ev_iload, ev_aload, rx_istore, ev_iinc, ev_push, ev_ior, ev_ishl, ev_goto, ev_jsr, rx_ine_t, rx_ine_f, rx_ige_t, rx_ige_f, rx_zeq_t, rx_zeq_f, ev_getf, ev_iald, ev_callv, nr_i, nr_r, nr_l, nr_n, kA_47, kA_48, kA_49, kA_50, kA_51, kA_52, kA_53, kA_54, kA_55, kA_56, kA_57, kA_58, kA_59, kA_60, kA_61, kA_63, kA_64, kA_65, kA_66, kA_67, kA_68, kA_69, kA_70, rx_iret, kb_186_0, kb_186_54, kb_186_55, kb_186_71, kb_186_72, kb_186_81, kr_186, kf_46_709, kf_46_711, List.getD_cons_zero, List.getD_cons_succ, List.set_cons_zero, List.set_cons_succ, ex_spl, ex_low, Option.toList, List.cons_append, List.nil_append, reduceIte, Int.reduceToNat, Nat.reduceDiv, Nat.reduceMod, Nat.reduceAdd, Nat.reduceMul, z_0, z_1, z_10, z_01, reduceCtorEq, ite_true, ite_false, true_and, and_true, ↓bI_01, ↓bP_01, ↓zret0, ↓zret1, z_add, z_sub, z_mul, up_1, up_2, not_true, not_false_iff, if_true, if_false, Int.reduceNeg, Int.reduceAdd, Int.reduceSub, Int.reduceMul, Int.reduceEq, Int.reduceLT, Int.reduceLE, Int.natCast_add, Int.cast_ofNat_Int]
    rfl
theorem r_eventAgainst {d : Nat} {A : AS} {b : Int} {w : PW} (hV : q_v0 A) (hM : rN A b w) {e : Int} (e0 : 0 ≤ e) (e1 : e < A 0 4) (b0 : -3 ≤ b) (b1 : b ≤ 3) : ∃ w', ex_cal (d + 10) 190 [.ref 46, .int (Int32.ofInt e)] w = some (some (.int (q_br A b (A 4 (5 * e + 1)) (A 4 (5 * e)) (A 4 (5 * e + 2)) (A 4 (5 * e + 3)) (A 4 (5 * e + 4)))), w') ∧ sQ w w' := by
  have hr := q_rng hV
  obtain ⟨f1, f2, f3, f4, f5, f6, ⟨f7, f8, f9⟩, f10, f11⟩ := hV.2.2.2.2.1.2.2 e e0 e1
  obtain ⟨-, -, -, -, ge, -⟩ := id hM
  obtain ⟨w1, h1, ho⟩ := r_againstBy (d := d) hV hM f3 (show A 4 (5 * e + 1) < 6 by omega) f1 (show A 4 (5 * e) < 24 by omega) f5 (show A 4 (5 * e + 2) < 3 by omega) f7 f8 f10 (show A 4 (5 * e + 4) < 4 by omega) b0 b1
  have a0 := ge (5 * e) (by omega) (by omega)
  have a1 := ge (5 * e + 1) (by omega) (by omega)
  have a2 := ge (5 * e + 2) (by omega) (by omega)
  have a3 := ge (5 * e + 3) (by omega) (by omega)
  have a4 := ge (5 * e + 4) (by omega) (by omega)
  refine ⟨w1, ?_, ho⟩
  rw [ke_190 kc_46]
  simp (disch := omega) only [a0, a1, a2, a3, a4, h1, ev_iload, ev_aload, ev_push, ev_iadd, ev_imul, ev_getf, ev_iald, ev_callv, nr_i, nr_r, nr_l, nr_n, kA_47, kA_48, kA_49, kA_50, kA_51, kA_52, kA_53, kA_54, kA_55, kA_56, kA_57, kA_58, kA_59, kA_60, kA_61, kA_63, kA_64, kA_65, kA_66, kA_67, kA_68, kA_69, kA_70, rx_iret, kb_190_0, kr_190, kf_46_716, List.getD_cons_zero, List.getD_cons_succ, List.set_cons_zero, List.set_cons_succ, ex_spl, ex_low, Option.toList, List.cons_append, List.nil_append, reduceIte, Int.reduceToNat, Nat.reduceDiv, Nat.reduceMod, Nat.reduceAdd, Nat.reduceMul, z_0, z_1, z_10, z_01, reduceCtorEq, ite_true, ite_false, true_and, and_true, ↓bI_01, ↓bP_01, ↓zret0, ↓zret1, z_add, z_sub, z_mul, up_1, up_2, not_true, not_false_iff, if_true, if_false, Int.reduceNeg, Int.reduceAdd, Int.reduceSub, Int.reduceMul, Int.reduceEq, Int.reduceLT, Int.reduceLE, Int.natCast_add, Int.cast_ofNat_Int]
