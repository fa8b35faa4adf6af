/-! door, doors: an array made anew -/
theorem na_51 {d : Nat} {cal : Nat → List Value → PW → Option ER} {c : List Instr} {pl : List Value} {w : PW} : ex_ev d cal 101 (.anewarray 51 :: c, pl, [.int (Int32.ofInt 24)], w) = ex_ev d cal 101 (c, pl.map (ex_scr 51), [.ref 51], ex_zr w 51) := by
  rw [ev_newa (st := []), if_pos ⟨rfl, rfl⟩]
theorem sc_i {o : Nat} {x : Int32} : ex_scr o (.int x) = .int x := rfl
theorem sc_n {o : Nat} : ex_scr o .null = .null := rfl
theorem sc_46 : ex_scr 51 (.ref 46) = .ref 46 := rfl
theorem sc_47 : ex_scr 51 (.ref 47) = .ref 47 := rfl
theorem zr_n {w : PW} {o a k : Nat} (h : ¬ a = o) : (ex_zr w o).1 a k = w.1 a k := if_neg h
theorem zr_e {w : PW} {o k : Nat} : (ex_zr w o).1 o k = 0 := if_pos rfl
theorem zr_O (w : PW) (o : Nat) : sO o w (ex_zr w o) := fun _ _ h => zr_n h
theorem n51_i {x : Int32} : ex_n51 (.int x) = true := rfl
theorem n51_n : ex_n51 .null = true := rfl
theorem n51_0 : ex_n51 (.ref 0) = true := rfl
theorem n51_46 : ex_n51 (.ref 46) = true := rfl
theorem n51_47 : ex_n51 (.ref 47) = true := rfl
theorem n51_48 : ex_n51 (.ref 48) = true := rfl
theorem n51_49 : ex_n51 (.ref 49) = true := rfl
theorem n51_2000 : ex_n51 (.ref 2000) = true := rfl
/-- the nearest door among those from lo on -/
def q_dd (A : AS) (c lo d : Int) : Prop := (d = -1 ∧ ∀ e, lo ≤ e → e < A 0 15 → A 1 e = 2 → q_st A c e = -1) ∨ (lo ≤ d ∧ 0 ≤ d ∧ d < A 0 15 ∧ A 1 d = 2 ∧ 0 ≤ q_st A c d ∧ ∀ e, lo ≤ e → e < A 0 15 → A 1 e = 2 → q_st A c e = -1 ∨ q_st A c d < q_st A c e ∨ (q_st A c d = q_st A c e ∧ d ≤ e))
theorem q_dd_r {A : AS} {c lo d : Int} (h : q_dd A c lo d) : d = -1 ∨ (0 ≤ d ∧ d < A 0 15 ∧ 0 ≤ q_st A c d) := by
  rcases h with ⟨h, -⟩ | ⟨-, h0, h1, -, h2, -⟩
  · exact Or.inl h
  · exact Or.inr ⟨h0, h1, h2⟩
theorem q_dd_0 {A : AS} {c d : Int} (h : q_dd A c 0 d) : q_isd A c d := by
  rcases h with ⟨h, h1⟩ | ⟨-, h0, h1, h2, h3, h4⟩
  · exact Or.inl ⟨h, h1⟩
  · exact Or.inr ⟨h0, h1, h2, h3, h4⟩
theorem q_dd_n {A : AS} {c d lo : Int} (h : q_dd A c (lo + 1) d) (hn : ¬ A 1 lo = 2 ∨ q_st A c lo = -1 ∨ (¬ d = -1 ∧ q_st A c d < q_st A c lo)) : q_dd A c lo d := by
  rcases h with ⟨h, h1⟩ | ⟨h9, h0, h1, h2, h3, h4⟩
  · refine Or.inl ⟨h, fun e e0 e1 e2 => ?_⟩
    by_cases he : e = lo
    · rw [he] at e2 ⊢
      rcases hn with hn | hn | hn
      · exact absurd e2 hn
      · exact hn
      · exact absurd h hn.1
    · exact h1 e (by omega) e1 e2
  · refine Or.inr ⟨by omega, h0, h1, h2, h3, fun e e0 e1 e2 => ?_⟩
    by_cases he : e = lo
    · rw [he] at e2 ⊢
      rcases hn with hn | hn | hn
      · exact absurd e2 hn
      · exact Or.inl hn
      · exact Or.inr (Or.inl hn.2)
    · exact h4 e (by omega) e1 e2
theorem q_dd_y {A : AS} {c d lo : Int} (h : q_dd A c (lo + 1) d) (l0 : 0 ≤ lo) (l1 : lo < A 0 15) (h2 : A 1 lo = 2) (h3 : 0 ≤ q_st A c lo) (hn : d = -1 ∨ q_st A c lo ≤ q_st A c d) : q_dd A c lo lo := by
  refine Or.inr ⟨by omega, l0, l1, h2, h3, fun e e0 e1 e2 => ?_⟩
  by_cases he : e = lo
  · rw [he]; exact Or.inr (Or.inr ⟨rfl, by omega⟩)
  · rcases h with ⟨h, h4⟩ | ⟨h9, h0, h1, h5, h6, h4⟩
    · exact Or.inl (h4 e (by omega) e1 e2)
    · rcases h4 e (by omega) e1 e2 with h7 | h7 | h7
      · exact Or.inl h7
      · rcases hn with hn | hn
        · omega
        · exact Or.inr (Or.inl (by omega))
      · rcases hn with hn | hn
        · omega
        · by_cases h8 : q_st A c lo < q_st A c e
          · exact Or.inr (Or.inl h8)
          · exact Or.inr (Or.inr ⟨by omega, by omega⟩)
set_option maxHeartbeats 2000000 in
theorem l_door {d : Nat} {A : AS} {w : PW} (hV : q_vh A) (hH : lH A w) {c : Int} (c0 : 0 ≤ c) (c1 : c < A 0 15) : ∃ w1, ex_cal (d + 3) 101 [.ref 46, .ref 47, .int (Int32.ofInt c)] w = some (some (.int (Int32.ofInt (q_dr A c))), w1) ∧ sO 51 w w1 ∧ w1.2 = (w.2.1 + 1, w.2.2) := by
  have hr := q_rnh hV
  have hH0 := lH_51 hH (zr_O w 51)
  have hk := q_kd hV c0 c1
  have ek := hH0.2.2.2 c c0 c1
  rw [ke_101]
  by_cases hw : A 1 c = 1
  · refine ⟨ex_zr w 51, ?_, zr_O w 51, rfl⟩
    have hd : q_dr A c = -1 := by unfold q_dr; rw [q_if_t hw]
    rw [hd]
    simp (disch := omega) only [na_51, sc_i, sc_n, sc_46, sc_47, List.map_cons, List.map_nil, ek, hw, ev_iload, ev_aload, rx_istore, rx_astore, ev_iinc, ev_push, ev_isub, ev_imul, ev_goto, ev_jsr, rx_ine_t, rx_ine_f, rx_ige_t, rx_ige_f, rx_igt_t, rx_igt_f, rx_zlt_t, rx_zlt_f, ev_iald, ev_call, nr_i, nr_r, nr_l, nr_n, kA_46, kA_47, kA_48, kA_49, kA_50, kA_51, kA_52, cg_100, rx_iret, kb_101_0, kb_101_17, kb_101_77, kb_101_82, kb_101_84, kb_101_92, kr_101, List.getD_cons_zero, List.getD_cons_succ, List.set_cons_zero, List.set_cons_succ, ex_spl, ex_low, Option.toList, List.cons_append, List.nil_append, reduceIte, Int.reduceToNat, Nat.reduceDiv, Nat.reduceMod, Nat.reduceAdd, Nat.reduceMul, z_0, z_1, z_10, z_01, reduceCtorEq, ite_true, ite_false, true_and, and_true, ↓bI_01, ↓bP_01, ↓zret0, ↓zret1, z_add, z_sub, z_mul, up_1, up_2, not_true, not_false_iff, if_true, if_false, Bool.true_and, bI_T, bI_F, bP_T, bP_F, or_true, true_or, or_false, false_or, Int.reduceNeg, Int.reduceAdd, Int.reduceSub, Int.reduceMul, Int.reduceEq, Int.reduceLT, Int.reduceLE, Int.natCast_add, Int.cast_ofNat_Int]
  · have hop : q_op A c := ⟨c0, c1, hw⟩
    obtain ⟨w2, G, e2, ho2, hw2, hG, hc⟩ := l_costs (d := d) hV hH0 hop
    have hH2 := lH_51 hH0 ho2
    obtain ⟨e0, e1, -, -⟩ := id hH2
    have hcl : A 0 0 * A 0 1 = A 0 15 := hV.2.2.1.symm
    obtain ⟨s3, e3, best, rfl, hb⟩ := ex_iterI (d := d + 2) (cal := ex_cal (d + 2)) (y := 101) (s := (ex_blk 101 38, [.ref 46, .ref 47, .int (Int32.ofInt c), .ref 51, .int (Int32.ofInt (-1)), .int (Int32.ofInt (A 0 15 - 1))], [], w2)) (fun i s => ∃ best, s = (ex_blk 101 38, [.ref 46, .ref 47, .int (Int32.ofInt c), .ref 51, .int (Int32.ofInt best), .int (Int32.ofInt (A 0 15 - 1 - (i : Int)))], [], w2) ∧ q_dd A c (A 0 15 - (i : Int)) best) (a := 0) (n := (A 0 15).toNat) (Nat.zero_le _) ⟨-1, by rw [show A 0 15 - 1 - ((0 : Nat) : Int) = A 0 15 - 1 by omega], Or.inl ⟨rfl, fun e e0 e1 => absurd e1 (by omega)⟩⟩ (by
      rintro i s - hi ⟨best, rfl, hb⟩
      generalize hz : A 0 15 - 1 - (i : Int) = z
      have hb : q_dd A c (z + 1) best := by rw [show z + 1 = A 0 15 - (i : Int) by omega]; exact hb
      have z0 : 0 ≤ z := by omega
      have z1 : z < A 0 15 := by omega
      rw [show A 0 15 - ((i + 1 : Nat) : Int) = z by omega, show A 0 15 - 1 - ((i + 1 : Nat) : Int) = z + -1 by omega]
      have kz := q_kd hV z0 z1
      have ez := hH2.2.2.2 z z0 z1
      have gz := hG z z0 (by omega)
      have cz := hc z z0 (by omega)
      by_cases h2 : A 1 z = 2
      · by_cases hg : G z < 9999
        · rw [if_pos hg] at cz
          rcases q_dd_r hb with hbb | ⟨b0, b1, b2⟩
          · refine ⟨_, ?_, z, rfl, q_dd_y hb z0 z1 h2 (by omega) (Or.inl hbb)⟩
            conv => lhs; rw [kb_101_38]
            simp (disch := omega) only [ez, gz, hbb, h2, ev_iload, ev_aload, rx_istore, rx_astore, ev_iinc, ev_push, ev_isub, ev_imul, ev_goto, ev_jsr, rx_ine_t, rx_ine_f, rx_ige_t, rx_ige_f, rx_igt_t, rx_igt_f, rx_zlt_t, rx_zlt_f, ev_iald, ev_call, nr_i, nr_r, nr_l, nr_n, kA_46, kA_47, kA_48, kA_49, kA_50, kA_51, kA_52, cg_100, rx_iret, kb_101_0, kb_101_17, kb_101_77, kb_101_82, kb_101_84, kb_101_92, kr_101, List.getD_cons_zero, List.getD_cons_succ, List.set_cons_zero, List.set_cons_succ, ex_spl, ex_low, Option.toList, List.cons_append, List.nil_append, reduceIte, Int.reduceToNat, Nat.reduceDiv, Nat.reduceMod, Nat.reduceAdd, Nat.reduceMul, z_0, z_1, z_10, z_01, reduceCtorEq, ite_true, ite_false, true_and, and_true, ↓bI_01, ↓bP_01, ↓zret0, ↓zret1, z_add, z_sub, z_mul, up_1, up_2, not_true, not_false_iff, if_true, if_false, Bool.true_and, bI_T, bI_F, bP_T, bP_F, or_true, true_or, or_false, false_or, Int.reduceNeg, Int.reduceAdd, Int.reduceSub, Int.reduceMul, Int.reduceEq, Int.reduceLT, Int.reduceLE, Int.natCast_add, Int.cast_ofNat_Int]
          · have gb := hG best b0 (by omega)
            have cb := hc best b0 (by omega)
            have hgb : G best < 9999 := by
              by_cases h : G best < 9999
              · exact h
              · rw [if_neg h] at cb; omega
            rw [if_pos hgb] at cb
            by_cases hle : G z ≤ G best
            · refine ⟨_, ?_, z, rfl, q_dd_y hb z0 z1 h2 (by omega) (Or.inr (by omega))⟩
              conv => lhs; rw [kb_101_38]
              simp (disch := omega) only [ez, gz, gb, h2, ev_iload, ev_aload, rx_istore, rx_astore, ev_iinc, ev_push, ev_isub, ev_imul, ev_goto, ev_jsr, rx_ine_t, rx_ine_f, rx_ige_t, rx_ige_f, rx_igt_t, rx_igt_f, rx_zlt_t, rx_zlt_f, ev_iald, ev_call, nr_i, nr_r, nr_l, nr_n, kA_46, kA_47, kA_48, kA_49, kA_50, kA_51, kA_52, cg_100, rx_iret, kb_101_0, kb_101_17, kb_101_77, kb_101_82, kb_101_84, kb_101_92, kr_101, List.getD_cons_zero, List.getD_cons_succ, List.set_cons_zero, List.set_cons_succ, ex_spl, ex_low, Option.toList, List.cons_append, List.nil_append, reduceIte, Int.reduceToNat, Nat.reduceDiv, Nat.reduceMod, Nat.reduceAdd, Nat.reduceMul, z_0, z_1, z_10, z_01, reduceCtorEq, ite_true, ite_false, true_and, and_true, ↓bI_01, ↓bP_01, ↓zret0, ↓zret1, z_add, z_sub, z_mul, up_1, up_2, not_true, not_false_iff, if_true, if_false, Bool.true_and, bI_T, bI_F, bP_T, bP_F, or_true, true_or, or_false, false_or, Int.reduceNeg, Int.reduceAdd, Int.reduceSub, Int.reduceMul, Int.reduceEq, Int.reduceLT, Int.reduceLE, Int.natCast_add, Int.cast_ofNat_Int]
            · refine ⟨_, ?_, best, rfl, q_dd_n hb (Or.inr (Or.inr ⟨by omega, by omega⟩))⟩
              conv => lhs; rw [kb_101_38]
              simp (disch := omega) only [ez, gz, gb, h2, ev_iload, ev_aload, rx_istore, rx_astore, ev_iinc, ev_push, ev_isub, ev_imul, ev_goto, ev_jsr, rx_ine_t, rx_ine_f, rx_ige_t, rx_ige_f, rx_igt_t, rx_igt_f, rx_zlt_t, rx_zlt_f, ev_iald, ev_call, nr_i, nr_r, nr_l, nr_n, kA_46, kA_47, kA_48, kA_49, kA_50, kA_51, kA_52, cg_100, rx_iret, kb_101_0, kb_101_17, kb_101_77, kb_101_82, kb_101_84, kb_101_92, kr_101, List.getD_cons_zero, List.getD_cons_succ, List.set_cons_zero, List.set_cons_succ, ex_spl, ex_low, Option.toList, List.cons_append, List.nil_append, reduceIte, Int.reduceToNat, Nat.reduceDiv, Nat.reduceMod, Nat.reduceAdd, Nat.reduceMul, z_0, z_1, z_10, z_01, reduceCtorEq, ite_true, ite_false, true_and, and_true, ↓bI_01, ↓bP_01, ↓zret0, ↓zret1, z_add, z_sub, z_mul, up_1, up_2, not_true, not_false_iff, if_true, if_false, Bool.true_and, bI_T, bI_F, bP_T, bP_F, or_true, true_or, or_false, false_or, Int.reduceNeg, Int.reduceAdd, Int.reduceSub, Int.reduceMul, Int.reduceEq, Int.reduceLT, Int.reduceLE, Int.natCast_add, Int.cast_ofNat_Int]
        · rw [if_neg hg] at cz
          have hbr := q_dd_r hb
          refine ⟨_, ?_, best, rfl, q_dd_n hb (Or.inr (Or.inl cz.2.symm))⟩
          conv => lhs; rw [kb_101_38]
          simp (disch := omega) only [ez, gz, h2, ev_iload, ev_aload, rx_istore, rx_astore, ev_iinc, ev_push, ev_isub, ev_imul, ev_goto, ev_jsr, rx_ine_t, rx_ine_f, rx_ige_t, rx_ige_f, rx_igt_t, rx_igt_f, rx_zlt_t, rx_zlt_f, ev_iald, ev_call, nr_i, nr_r, nr_l, nr_n, kA_46, kA_47, kA_48, kA_49, kA_50, kA_51, kA_52, cg_100, rx_iret, kb_101_0, kb_101_17, kb_101_77, kb_101_82, kb_101_84, kb_101_92, kr_101, List.getD_cons_zero, List.getD_cons_succ, List.set_cons_zero, List.set_cons_succ, ex_spl, ex_low, Option.toList, List.cons_append, List.nil_append, reduceIte, Int.reduceToNat, Nat.reduceDiv, Nat.reduceMod, Nat.reduceAdd, Nat.reduceMul, z_0, z_1, z_10, z_01, reduceCtorEq, ite_true, ite_false, true_and, and_true, ↓bI_01, ↓bP_01, ↓zret0, ↓zret1, z_add, z_sub, z_mul, up_1, up_2, not_true, not_false_iff, if_true, if_false, Bool.true_and, bI_T, bI_F, bP_T, bP_F, or_true, true_or, or_false, false_or, Int.reduceNeg, Int.reduceAdd, Int.reduceSub, Int.reduceMul, Int.reduceEq, Int.reduceLT, Int.reduceLE, Int.natCast_add, Int.cast_ofNat_Int]
      · have hbr := q_dd_r hb
        refine ⟨_, ?_, best, rfl, q_dd_n hb (Or.inl h2)⟩
        conv => lhs; rw [kb_101_38]
        simp (disch := omega) only [ez, ev_iload, ev_aload, rx_istore, rx_astore, ev_iinc, ev_push, ev_isub, ev_imul, ev_goto, ev_jsr, rx_ine_t, rx_ine_f, rx_ige_t, rx_ige_f, rx_igt_t, rx_igt_f, rx_zlt_t, rx_zlt_f, ev_iald, ev_call, nr_i, nr_r, nr_l, nr_n, kA_46, kA_47, kA_48, kA_49, kA_50, kA_51, kA_52, cg_100, rx_iret, kb_101_0, kb_101_17, kb_101_77, kb_101_82, kb_101_84, kb_101_92, kr_101, List.getD_cons_zero, List.getD_cons_succ, List.set_cons_zero, List.set_cons_succ, ex_spl, ex_low, Option.toList, List.cons_append, List.nil_append, reduceIte, Int.reduceToNat, Nat.reduceDiv, Nat.reduceMod, Nat.reduceAdd, Nat.reduceMul, z_0, z_1, z_10, z_01, reduceCtorEq, ite_true, ite_false, true_and, and_true, ↓bI_01, ↓bP_01, ↓zret0, ↓zret1, z_add, z_sub, z_mul, up_1, up_2, not_true, not_false_iff, if_true, if_false, Bool.true_and, bI_T, bI_F, bP_T, bP_F, or_true, true_or, or_false, false_or, Int.reduceNeg, Int.reduceAdd, Int.reduceSub, Int.reduceMul, Int.reduceEq, Int.reduceLT, Int.reduceLE, Int.natCast_add, Int.cast_ofNat_Int])
    rw [Int.toNat_of_nonneg (by omega)] at hb e3
    have hq : q_dr A c = best := q_dr_i hV c0 c1 hw (q_dd_0 (by rw [show (0 : Int) = A 0 15 - A 0 15 by omega]; exact hb))
    rw [hq]
    refine ⟨w2, ?_, sO_t (zr_O w 51) ho2, hw2⟩
    simp (disch := omega) only [na_51, sc_i, sc_n, sc_46, sc_47, List.map_cons, List.map_nil, ek, e2, e0, e1, hcl, ev_iload, ev_aload, rx_istore, rx_astore, ev_iinc, ev_push, ev_isub, ev_imul, ev_goto, ev_jsr, rx_ine_t, rx_ine_f, rx_ige_t, rx_ige_f, rx_igt_t, rx_igt_f, rx_zlt_t, rx_zlt_f, ev_iald, ev_call, nr_i, nr_r, nr_l, nr_n, kA_46, kA_47, kA_48, kA_49, kA_50, kA_51, kA_52, cg_100, rx_iret, kb_101_0, kb_101_17, kb_101_77, kb_101_82, kb_101_84, kb_101_92, kr_101, List.getD_cons_zero, List.getD_cons_succ, List.set_cons_zero, List.set_cons_succ, ex_spl, ex_low, Option.toList, List.cons_append, List.nil_append, reduceIte, Int.reduceToNat, Nat.reduceDiv, Nat.reduceMod, Nat.reduceAdd, Nat.reduceMul, z_0, z_1, z_10, z_01, reduceCtorEq, ite_true, ite_false, true_and, and_true, ↓bI_01, ↓bP_01, ↓zret0, ↓zret1, z_add, z_sub, z_mul, up_1, up_2, not_true, not_false_iff, if_true, if_false, Bool.true_and, bI_T, bI_F, bP_T, bP_F, or_true, true_or, or_false, false_or, Int.reduceNeg, Int.reduceAdd, Int.reduceSub, Int.reduceMul, Int.reduceEq, Int.reduceLT, Int.reduceLE, Int.natCast_add, Int.cast_ofNat_Int]
    refine e3.trans ?_
    rw [kb_101_38]
    have hbr := q_dd_r hb
    simp (disch := omega) only [ev_iload, ev_aload, rx_istore, rx_astore, ev_iinc, ev_push, ev_isub, ev_imul, ev_goto, ev_jsr, rx_ine_t, rx_ine_f, rx_ige_t, rx_ige_f, rx_igt_t, rx_igt_f, rx_zlt_t, rx_zlt_f, ev_iald, ev_call, nr_i, nr_r, nr_l, nr_n, kA_46, kA_47, kA_48, kA_49, kA_50, kA_51, kA_52, cg_100, rx_iret, kb_101_0, kb_101_17, kb_101_77, kb_101_82, kb_101_84, kb_101_92, kr_101, List.getD_cons_zero, List.getD_cons_succ, List.set_cons_zero, List.set_cons_succ, ex_spl, ex_low, Option.toList, List.cons_append, List.nil_append, reduceIte, Int.reduceToNat, Nat.reduceDiv, Nat.reduceMod, Nat.reduceAdd, Nat.reduceMul, z_0, z_1, z_10, z_01, reduceCtorEq, ite_true, ite_false, true_and, and_true, ↓bI_01, ↓bP_01, ↓zret0, ↓zret1, z_add, z_sub, z_mul, up_1, up_2, not_true, not_false_iff, if_true, if_false, Bool.true_and, bI_T, bI_F, bP_T, bP_F, or_true, true_or, or_false, false_or, Int.reduceNeg, Int.reduceAdd, Int.reduceSub, Int.reduceMul, Int.reduceEq, Int.reduceLT, Int.reduceLE, Int.natCast_add, Int.cast_ofNat_Int]
theorem l_doors {d : Nat} {A : AS} {w : PW} (hV : q_vh A) (hH : lH A w) : ∃ w1, ex_cal (d + 4) 102 [.ref 46, .ref 47, .ref 48] w = some (none, w1) ∧ (∀ a k, ¬ (a = 48 ∨ a = 51) → w1.1 a k = w.1 a k) ∧ w1.2 = (w.2.1 + (A 0 15).toNat, w.2.2) ∧ ∀ c, 0 ≤ c → c < A 0 15 → w1.1 48 c.toNat = Int32.ofInt (q_do A c) := by
  have hr := q_rnh hV
  have hcl : A 0 0 * A 0 1 = A 0 15 := hV.2.2.1.symm
  rw [ke_102]
  simp (disch := omega) only [ev_iload, ev_aload, rx_istore, ev_iinc, ev_push, ev_imul, ev_goto, ev_jsr, rx_ige_t, rx_ige_f, rx_zge_t, rx_zge_f, ev_iald, ev_call, nr_i, nr_r, nr_l, nr_n, kA_46, kA_47, kA_48, kA_49, kA_50, kA_51, kA_52, kS_46, kS_47, kS_48, kS_49, kS_50, kS_51, kS_52, cg_101, rx_vret, kb_102_0, kb_102_32, kb_102_34, kb_102_41, kr_102, List.getD_cons_zero, List.getD_cons_succ, List.set_cons_zero, List.set_cons_succ, ex_spl, ex_low, Option.toList, List.cons_append, List.nil_append, reduceIte, Int.reduceToNat, Nat.reduceDiv, Nat.reduceMod, Nat.reduceAdd, Nat.reduceMul, z_0, z_1, z_10, z_01, reduceCtorEq, ite_true, ite_false, true_and, and_true, ↓bI_01, ↓bP_01, ↓zret0, ↓zret1, z_add, z_sub, z_mul, up_1, up_2, not_true, not_false_iff, if_true, if_false, Bool.true_and, bI_T, bI_F, bP_T, bP_F, or_true, true_or, or_false, false_or, Int.reduceNeg, Int.reduceAdd, Int.reduceSub, Int.reduceMul, Int.reduceEq, Int.reduceLT, Int.reduceLE, Int.natCast_add, Int.cast_ofNat_Int]
  obtain ⟨s2, e2, w2, v4, rfl, ⟨x4, n4⟩, ho2, hw2, hN2⟩ := ex_iterI (d := d + 3) (cal := ex_cal (d + 3)) (y := 102) (s := (ex_blk 102 2, [.ref 46, .ref 47, .ref 48, .int (Int32.ofInt 0), .null], [], w)) (fun i s => ∃ w2 v4, s = (ex_blk 102 2, [.ref 46, .ref 47, .ref 48, .int (Int32.ofInt (i : Int)), v4], [], w2) ∧ (xv v4 ∧ ex_n51 v4 = true) ∧ (∀ a k, ¬ (a = 48 ∨ a = 51) → w2.1 a k = w.1 a k) ∧ w2.2 = (w.2.1 + i, w.2.2) ∧ ∀ c, 0 ≤ c → c < (i : Int) → w2.1 48 c.toNat = Int32.ofInt (q_do A c)) (a := 0) (n := (A 0 15).toNat) (Nat.zero_le _) ⟨w, .null, rfl, ⟨xv_n, rfl⟩, fun _ _ _ => rfl, rfl, fun c c0 c1 => absurd c1 (by omega)⟩ (by
    rintro i s - hi ⟨w2, v4, rfl, ⟨x4, n4⟩, ho2, hw2, hN2⟩
    have hH2 := lH_o hH fun a k ha => ho2 a k (by omega)
    obtain ⟨e0, e1, -, -⟩ := id hH2
    obtain ⟨w3, e3, ho3, hw3⟩ := l_door (d := d) hV hH2 (c := i) (by omega) (by omega)
    have hdr := q_dr_r hV (c := i) (by omega) (by omega)
    have hdo : q_do A i = if q_dr A i = -1 then (i : Int) else q_dr A i := rfl
    refine ⟨(ex_blk 102 2, [.ref 46, .ref 47, .ref 48, .int (Int32.ofInt ((i : Int) + 1)), .int (Int32.ofInt (q_dr A i))], [], ex_up w3 48 (i : Int).toNat (Int32.ofInt (q_do A i))), ?_, _, _, rfl, ⟨xv_i _, rfl⟩, fun a k ha => ?_, by show w3.2 = _; rw [hw3, hw2]; rfl, fun c c0 c1 => ?_⟩
    · conv => lhs; rw [kb_102_2]
      by_cases hm : q_dr A i = -1
      · rw [hdo, if_pos hm]
        simp (disch := omega) only [e0, e1, hcl, e3, hm, x4, n4, List.all_cons, List.all_nil, n51_i, n51_46, n51_47, n51_48, Bool.and_true, ev_iload, ev_aload, rx_istore, ev_iinc, ev_push, ev_imul, ev_goto, ev_jsr, rx_ige_t, rx_ige_f, rx_zge_t, rx_zge_f, ev_iald, ev_call, nr_i, nr_r, nr_l, nr_n, kA_46, kA_47, kA_48, kA_49, kA_50, kA_51, kA_52, kS_46, kS_47, kS_48, kS_49, kS_50, kS_51, kS_52, cg_101, rx_vret, kb_102_0, kb_102_32, kb_102_34, kb_102_41, kr_102, List.getD_cons_zero, List.getD_cons_succ, List.set_cons_zero, List.set_cons_succ, ex_spl, ex_low, Option.toList, List.cons_append, List.nil_append, reduceIte, Int.reduceToNat, Nat.reduceDiv, Nat.reduceMod, Nat.reduceAdd, Nat.reduceMul, z_0, z_1, z_10, z_01, reduceCtorEq, ite_true, ite_false, true_and, and_true, ↓bI_01, ↓bP_01, ↓zret0, ↓zret1, z_add, z_sub, z_mul, up_1, up_2, not_true, not_false_iff, if_true, if_false, Bool.true_and, bI_T, bI_F, bP_T, bP_F, or_true, true_or, or_false, false_or, Int.reduceNeg, Int.reduceAdd, Int.reduceSub, Int.reduceMul, Int.reduceEq, Int.reduceLT, Int.reduceLE, Int.natCast_add, Int.cast_ofNat_Int]
      · rw [hdo, if_neg hm]
        simp (disch := omega) only [e0, e1, hcl, e3, x4, n4, List.all_cons, List.all_nil, n51_i, n51_46, n51_47, n51_48, Bool.and_true, ev_iload, ev_aload, rx_istore, ev_iinc, ev_push, ev_imul, ev_goto, ev_jsr, rx_ige_t, rx_ige_f, rx_zge_t, rx_zge_f, ev_iald, ev_call, nr_i, nr_r, nr_l, nr_n, kA_46, kA_47, kA_48, kA_49, kA_50, kA_51, kA_52, kS_46, kS_47, kS_48, kS_49, kS_50, kS_51, kS_52, cg_101, rx_vret, kb_102_0, kb_102_32, kb_102_34, kb_102_41, kr_102, List.getD_cons_zero, List.getD_cons_succ, List.set_cons_zero, List.set_cons_succ, ex_spl, ex_low, Option.toList, List.cons_append, List.nil_append, reduceIte, Int.reduceToNat, Nat.reduceDiv, Nat.reduceMod, Nat.reduceAdd, Nat.reduceMul, z_0, z_1, z_10, z_01, reduceCtorEq, ite_true, ite_false, true_and, and_true, ↓bI_01, ↓bP_01, ↓zret0, ↓zret1, z_add, z_sub, z_mul, up_1, up_2, not_true, not_false_iff, if_true, if_false, Bool.true_and, bI_T, bI_F, bP_T, bP_F, or_true, true_or, or_false, false_or, Int.reduceNeg, Int.reduceAdd, Int.reduceSub, Int.reduceMul, Int.reduceEq, Int.reduceLT, Int.reduceLE, Int.natCast_add, Int.cast_ofNat_Int]
    · rw [up_1, if_neg (by omega), ho3 a k (by omega)]
      exact ho2 a k ha
    · rw [up_1]
      by_cases hc : c = (i : Int)
      · subst hc; rw [if_pos ⟨rfl, rfl⟩]
      · rw [if_neg (by omega), ho3 _ _ (by omega)]
        exact hN2 c c0 (by omega))
  rw [Int.toNat_of_nonneg (by omega)] at e2 hN2
  have hH2 := lH_o hH fun a k ha => ho2 a k (by omega)
  obtain ⟨e0, e1, -, -⟩ := id hH2
  refine ⟨w2, ?_, ho2, hw2, hN2⟩
  refine e2.trans ?_
  rw [kb_102_2]
  simp (disch := omega) only [e0, e1, hcl, ev_iload, ev_aload, rx_istore, ev_iinc, ev_push, ev_imul, ev_goto, ev_jsr, rx_ige_t, rx_ige_f, rx_zge_t, rx_zge_f, ev_iald, ev_call, nr_i, nr_r, nr_l, nr_n, kA_46, kA_47, kA_48, kA_49, kA_50, kA_51, kA_52, kS_46, kS_47, kS_48, kS_49, kS_50, kS_51, kS_52, cg_101, rx_vret, kb_102_0, kb_102_32, kb_102_34, kb_102_41, kr_102, List.getD_cons_zero, List.getD_cons_succ, List.set_cons_zero, List.set_cons_succ, ex_spl, ex_low, Option.toList, List.cons_append, List.nil_append, reduceIte, Int.reduceToNat, Nat.reduceDiv, Nat.reduceMod, Nat.reduceAdd, Nat.reduceMul, z_0, z_1, z_10, z_01, reduceCtorEq, ite_true, ite_false, true_and, and_true, ↓bI_01, ↓bP_01, ↓zret0, ↓zret1, z_add, z_sub, z_mul, up_1, up_2, not_true, not_false_iff, if_true, if_false, Bool.true_and, bI_T, bI_F, bP_T, bP_F, or_true, true_or, or_false, false_or, Int.reduceNeg, Int.reduceAdd, Int.reduceSub, Int.reduceMul, Int.reduceEq, Int.reduceLT, Int.reduceLE, Int.natCast_add, Int.cast_ofNat_Int]
