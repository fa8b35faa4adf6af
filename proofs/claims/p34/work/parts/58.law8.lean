/-! house: a house written, and read -/
theorem q_and7 (x : Int32) : 0 ≤ (x &&& Int32.ofInt 7).toInt ∧ (x &&& Int32.ofInt 7).toInt ≤ 7 := by
  rw [← Int32.toInt_toBitVec, Int32.toBitVec_and]
  have hm : (x.toBitVec &&& (Int32.ofInt 7).toBitVec).msb = false := by
    rw [BitVec.msb_and, show (Int32.ofInt 7).toBitVec.msb = false by decide, Bool.and_false]
  have h7 : (Int32.ofInt 7).toBitVec.toNat = 7 := by decide
  have hn : (x.toBitVec &&& (Int32.ofInt 7).toBitVec).toNat ≤ 7 := by
    rw [BitVec.toNat_and, h7]
    exact Nat.and_le_right
  rw [BitVec.toInt_eq_toNat_of_msb hm]
  omega
/-- rows, columns, lines, cells as the script has them -/
def q_R (z : Nat × (Nat → Int32)) : Int := 2 + q_s z 0 % 3
def q_C (z : Nat × (Nat → Int32)) : Int := 2 + q_s z 0 / 4 % 5
def q_D (r : Int) : Int := if r = 0 then 64 else if r = 1 then 512 else if r = 2 then 4096 else 32768
def q_N (z : Nat × (Nat → Int32)) (r : Int) : Int := q_s z 0 / q_D r % (q_C z + 1)
def q_v3 (z : Nat × (Nat → Int32)) (c : Int) : Int := ((Int32.ofInt (q_s z (1 + c / 8)) >>> (Int32.ofInt (3 * (c % 8)) &&& 31)) &&& Int32.ofInt 7).toInt
def q_K (z : Nat × (Nat → Int32)) (c : Int) : Int := if c = 0 ∨ q_v3 z c < 6 then 0 else if q_v3 z c = 6 then 1 else 2
theorem q_v3_e (z : Nat × (Nat → Int32)) (c : Int) : (Int32.ofInt (q_s z (1 + c / 8)) >>> (Int32.ofInt (3 * (c % 8)) &&& 31)) &&& Int32.ofInt 7 = Int32.ofInt (q_v3 z c) := (Int32.ofInt_toInt _).symm
theorem q_v3_r (z : Nat × (Nat → Int32)) (c : Int) : 0 ≤ q_v3 z c ∧ q_v3 z c ≤ 7 := q_and7 _
theorem q_RC (z : Nat × (Nat → Int32)) : 2 ≤ q_R z ∧ q_R z ≤ 4 ∧ 2 ≤ q_C z ∧ q_C z ≤ 6 := by
  have h := q_s_r z 0
  unfold q_R q_C
  omega
theorem q_N_r (z : Nat × (Nat → Int32)) (r : Int) : 0 ≤ q_N z r ∧ q_N z r ≤ q_C z := by
  have h := q_RC z
  unfold q_N
  exact ⟨Int.emod_nonneg _ (by omega), by have := Int.emod_lt_of_pos (q_s z 0 / q_D r) (show 0 < q_C z + 1 by omega); omega⟩
theorem q_hf_c {r wd c l x : Int} {K L : Int → Int} (hx : x = 46 ∨ x = 35 ∨ x = 100) (hc : ¬ c = if r = 0 then 6 else wd) : q_hf (r, wd, c, l, K, L) x = some (r, wd, c + 1, l, q_fu K (r * wd + c) (q_kd1 x), L) := by
  unfold q_hf
  dsimp only
  rw [if_pos hx, if_neg hc]
theorem q_hf_l {r wd c : Int} {K L : Int → Int} : q_hf (r, wd, c, 0, K, L) 124 = some (r, wd, c, 1, K, q_fu L r c) := by
  unfold q_hf
  dsimp only
  rw [if_neg (by omega), if_pos rfl, if_neg (by omega)]
theorem q_hf_s {r wd c : Int} {K L : Int → Int} (h : r < 3 ∧ (if r = 0 then 1 < c else c = wd)) : q_hf (r, wd, c, 1, K, L) 47 = some (r + 1, c, 0, 0, K, L) := by
  unfold q_hf
  dsimp only
  rw [if_neg (by omega), if_neg (by omega), if_pos rfl, if_pos ⟨rfl, h⟩]
/-- while the house is written: r rows whole, n cells -/
def l_hs (A B : AS) (w w1 : PW) (r n : Int) : Prop := (q_V B ∧ rC B w1 ∧ w1.2 = w.2 ∧ q_pe A B) ∧ (∀ a k, 48 ≤ a → w1.1 a k = w.1 a k) ∧ (w1.1 46 0 = Int32.ofInt (q_R w.2.2) ∧ w1.1 46 1 = Int32.ofInt (q_C w.2.2)) ∧ (∀ j, 0 ≤ j → j < r → w1.1 46 (2 + j).toNat = Int32.ofInt (q_N w.2.2 j)) ∧ ∀ j, 0 ≤ j → j < n → w1.1 47 j.toNat = Int32.ofInt (q_K w.2.2 j)
/-- and what is read of it so far: row r, i cells of it -/
def l_rd (z : Nat × (Nat → Int32)) (B : AS) (r i l : Int) : Prop := ∃ K L : Int → Int, l_pg q_hf q_h0 B (r, (if r = 0 then 0 else q_C z), i, l, K, L) ∧ (∀ j, 0 ≤ j → j < q_C z * r + i → K j = q_K z j) ∧ (∀ j, 0 ≤ j → j < r → L j = q_N z j) ∧ (l = 1 → L r = q_N z r)
theorem l_hput {α : Type} {f : α → Int → Option α} {s0 s s' : α} {d : Nat} {A B : AS} {w w1 : PW} {r n : Int} (h : l_hs A B w w1 r n) (hp : l_pg f s0 B s) {c : Int} (hf : f s c = some s') (c0 : 1 ≤ c) (c1 : c ≤ 126) (h40 : B 0 8 < 40) : ∃ B2 w2, ex_cal (d + 4) 93 [.ref 0, .int (Int32.ofInt c)] w1 = some (some (.int (Int32.ofInt 1)), w2) ∧ l_hs A B2 w w2 r n ∧ l_pg f s0 B2 s' ∧ B2 0 8 = B 0 8 + 1 ∧ fC w1 w2 := by
  obtain ⟨⟨hV, hC, hw, hpe⟩, ho, ⟨h0, h1⟩, h2, h3⟩ := h
  obtain ⟨B2, w2, e2, ⟨hV2, hC2, hf2, hw2, hpe2⟩, hp2, n2⟩ := l_putf (d := d) hV hC hp hf c0 c1 h40
  exact ⟨B2, w2, e2, ⟨⟨hV2, hC2, hw2.trans hw, q_pe_t hpe hpe2⟩, fun a k ha => (hf2 a k (by omega)).trans (ho a k ha), ⟨by rw [hf2 _ _ (by omega)]; exact h0, by rw [hf2 _ _ (by omega)]; exact h1⟩, fun j j0 j1 => by rw [hf2 _ _ (by omega)]; exact h2 j j0 j1, fun j j0 j1 => by rw [hf2 _ _ (by omega)]; exact h3 j j0 j1⟩, hp2, n2, hf2⟩
theorem l_hup {A B : AS} {w w1 : PW} {r n : Int} (h : l_hs A B w w1 r n) {o k : Nat} {x : Int32} (ho : o = 46 ∨ o = 47) (hr : o = 46 → k = (2 + r).toNat ∧ 0 ≤ r ∧ x = Int32.ofInt (q_N w.2.2 r)) (hn : o = 47 → k = n.toNat ∧ 0 ≤ n ∧ x = Int32.ofInt (q_K w.2.2 n)) : l_hs A B w (ex_up w1 o k x) (if o = 46 then r + 1 else r) (if o = 47 then n + 1 else n) := by
  obtain ⟨⟨hV, hC, hw, hpe⟩, h9, ⟨h0, h1⟩, h2, h3⟩ := h
  refine ⟨⟨hV, rC_f hC fun a j ha => up_n (by omega), hw, hpe⟩, fun a j ha => by rw [up_n (by omega)]; exact h9 a j ha, ?_⟩
  rcases ho with ho | ho <;> subst ho
  · obtain ⟨e1, e2, e3⟩ := hr rfl
    rw [if_pos rfl, if_neg (by omega)]
    refine ⟨⟨by rw [up_n (by omega)]; exact h0, by rw [up_n (by omega)]; exact h1⟩, fun j j0 j1 => ?_, fun j j0 j1 => by rw [up_n (by omega)]; exact h3 j j0 j1⟩
    by_cases hj : j = r
    · rw [hj, up_e (by omega)]; exact e3
    · rw [up_n (by omega)]; exact h2 j j0 (by omega)
  · obtain ⟨e1, e2, e3⟩ := hn rfl
    rw [if_neg (by omega), if_pos rfl]
    refine ⟨⟨by rw [up_n (by omega)]; exact h0, by rw [up_n (by omega)]; exact h1⟩, fun j j0 j1 => by rw [up_n (by omega)]; exact h2 j j0 j1, fun j j0 j1 => ?_⟩
    by_cases hj : j = n
    · rw [hj, up_e (by omega)]; exact e3
    · rw [up_n (by omega)]; exact h3 j j0 (by omega)
theorem l_hd1 {d : Nat} {w1 : PW} (hz : w1.2.2.1 ≤ 260) {R : Int} (h0 : w1.1 46 0 = Int32.ofInt R) (hR : R ≤ 4) {r : Nat} (hr : (r : Int) < R) {v7 v8 v9 : Value} : ex_ev (d + 9) (ex_cal (d + 9)) 95 (ex_blk 95 32, [.ref 0, .ref 2000, .int (Int32.ofInt 0), .ref 46, .ref 47, .int (Int32.ofInt 1), .int (Int32.ofInt (r : Int)), v7, v8, v9], [], w1) = ex_ev (d + 9) (ex_cal (d + 9)) 95 (ex_blk 95 86, [.ref 0, .ref 2000, .int (Int32.ofInt 0), .ref 46, .ref 47, .int (Int32.ofInt 1), .int (Int32.ofInt (r : Int)), v7, v8, v9], [.int (Int32.ofInt (q_D r)), .int (Int32.ofInt (q_s w1.2.2 0)), .int (Int32.ofInt (2 + (r : Int))), .ref 46], w1) := by
  have hc := fun d => l_cell (d := d) hz (k := 0) (by omega) (by omega)
  conv => lhs; rw [kb_95_32]
  have h4 : r = 0 ∨ r = 1 ∨ r = 2 ∨ r = 3 := by omega
  rcases h4 with h | h | h | h <;> subst h
  · have hD : q_D ((0 : Nat) : Int) = 64 := rfl
    rw [hD]
    simp (disch := omega) only [h0, hc, ev_iload, ev_aload, rx_istore, ev_iinc, ev_push, ev_iadd, ev_imul, ev_iand, ev_ishr, rx_idiv, rx_irem, ev_goto, ev_jsr, rx_ine_t, rx_ine_f, rx_ige_t, rx_ige_f, rx_zeq_t, rx_zeq_f, rx_zne_t, rx_zne_f, rx_zgt_t, rx_zgt_f, ev_iald, ev_call, ev_callv, nr_i, nr_r, nr_l, nr_n, kA_46, kA_47, kA_48, kA_49, kA_50, kA_51, kA_52, kS_46, kS_47, kS_48, kS_49, kS_50, kS_51, kS_52, cg_92, cg_93, rx_zret_t, rx_zretI, rx_zretP, kb_95_0, kb_95_60, kb_95_72, kb_95_84, kb_95_113, kb_95_131, kb_95_135, kb_95_136, kb_95_202, kb_95_206, kb_95_217, kb_95_238, kb_95_252, kb_95_254, kb_95_282, kb_95_286, kb_95_287, kb_95_295, kb_95_301, kb_95_338, kb_95_339, kr_95, List.getD_cons_zero, List.getD_cons_succ, List.set_cons_zero, List.set_cons_succ, ex_spl, ex_low, Option.toList, List.cons_append, List.nil_append, reduceIte, Int.reduceToNat, Nat.reduceDiv, Nat.reduceMod, Nat.reduceAdd, Nat.reduceMul, z_0, z_1, z_10, z_01, reduceCtorEq, ite_true, ite_false, true_and, and_true, ↓bI_01, ↓bP_01, ↓zret0, ↓zret1, z_add, z_sub, z_mul, up_1, up_2, not_true, not_false_iff, if_true, if_false, Bool.true_and, bI_T, bI_F, bP_T, bP_F, or_true, true_or, or_false, false_or, Int.reduceNeg, Int.reduceAdd, Int.reduceSub, Int.reduceMul, Int.reduceEq, Int.reduceLT, Int.reduceLE, Int.natCast_add, Int.cast_ofNat_Int]
  · have hD : q_D ((1 : Nat) : Int) = 512 := rfl
    rw [hD]
    simp (disch := omega) only [h0, hc, ev_iload, ev_aload, rx_istore, ev_iinc, ev_push, ev_iadd, ev_imul, ev_iand, ev_ishr, rx_idiv, rx_irem, ev_goto, ev_jsr, rx_ine_t, rx_ine_f, rx_ige_t, rx_ige_f, rx_zeq_t, rx_zeq_f, rx_zne_t, rx_zne_f, rx_zgt_t, rx_zgt_f, ev_iald, ev_call, ev_callv, nr_i, nr_r, nr_l, nr_n, kA_46, kA_47, kA_48, kA_49, kA_50, kA_51, kA_52, kS_46, kS_47, kS_48, kS_49, kS_50, kS_51, kS_52, cg_92, cg_93, rx_zret_t, rx_zretI, rx_zretP, kb_95_0, kb_95_60, kb_95_72, kb_95_84, kb_95_113, kb_95_131, kb_95_135, kb_95_136, kb_95_202, kb_95_206, kb_95_217, kb_95_238, kb_95_252, kb_95_254, kb_95_282, kb_95_286, kb_95_287, kb_95_295, kb_95_301, kb_95_338, kb_95_339, kr_95, List.getD_cons_zero, List.getD_cons_succ, List.set_cons_zero, List.set_cons_succ, ex_spl, ex_low, Option.toList, List.cons_append, List.nil_append, reduceIte, Int.reduceToNat, Nat.reduceDiv, Nat.reduceMod, Nat.reduceAdd, Nat.reduceMul, z_0, z_1, z_10, z_01, reduceCtorEq, ite_true, ite_false, true_and, and_true, ↓bI_01, ↓bP_01, ↓zret0, ↓zret1, z_add, z_sub, z_mul, up_1, up_2, not_true, not_false_iff, if_true, if_false, Bool.true_and, bI_T, bI_F, bP_T, bP_F, or_true, true_or, or_false, false_or, Int.reduceNeg, Int.reduceAdd, Int.reduceSub, Int.reduceMul, Int.reduceEq, Int.reduceLT, Int.reduceLE, Int.natCast_add, Int.cast_ofNat_Int]
  · have hD : q_D ((2 : Nat) : Int) = 4096 := rfl
    rw [hD]
    simp (disch := omega) only [h0, hc, ev_iload, ev_aload, rx_istore, ev_iinc, ev_push, ev_iadd, ev_imul, ev_iand, ev_ishr, rx_idiv, rx_irem, ev_goto, ev_jsr, rx_ine_t, rx_ine_f, rx_ige_t, rx_ige_f, rx_zeq_t, rx_zeq_f, rx_zne_t, rx_zne_f, rx_zgt_t, rx_zgt_f, ev_iald, ev_call, ev_callv, nr_i, nr_r, nr_l, nr_n, kA_46, kA_47, kA_48, kA_49, kA_50, kA_51, kA_52, kS_46, kS_47, kS_48, kS_49, kS_50, kS_51, kS_52, cg_92, cg_93, rx_zret_t, rx_zretI, rx_zretP, kb_95_0, kb_95_60, kb_95_72, kb_95_84, kb_95_113, kb_95_131, kb_95_135, kb_95_136, kb_95_202, kb_95_206, kb_95_217, kb_95_238, kb_95_252, kb_95_254, kb_95_282, kb_95_286, kb_95_287, kb_95_295, kb_95_301, kb_95_338, kb_95_339, kr_95, List.getD_cons_zero, List.getD_cons_succ, List.set_cons_zero, List.set_cons_succ, ex_spl, ex_low, Option.toList, List.cons_append, List.nil_append, reduceIte, Int.reduceToNat, Nat.reduceDiv, Nat.reduceMod, Nat.reduceAdd, Nat.reduceMul, z_0, z_1, z_10, z_01, reduceCtorEq, ite_true, ite_false, true_and, and_true, ↓bI_01, ↓bP_01, ↓zret0, ↓zret1, z_add, z_sub, z_mul, up_1, up_2, not_true, not_false_iff, if_true, if_false, Bool.true_and, bI_T, bI_F, bP_T, bP_F, or_true, true_or, or_false, false_or, Int.reduceNeg, Int.reduceAdd, Int.reduceSub, Int.reduceMul, Int.reduceEq, Int.reduceLT, Int.reduceLE, Int.natCast_add, Int.cast_ofNat_Int]
  · have hD : q_D ((3 : Nat) : Int) = 32768 := rfl
    rw [hD]
    simp (disch := omega) only [h0, hc, ev_iload, ev_aload, rx_istore, ev_iinc, ev_push, ev_iadd, ev_imul, ev_iand, ev_ishr, rx_idiv, rx_irem, ev_goto, ev_jsr, rx_ine_t, rx_ine_f, rx_ige_t, rx_ige_f, rx_zeq_t, rx_zeq_f, rx_zne_t, rx_zne_f, rx_zgt_t, rx_zgt_f, ev_iald, ev_call, ev_callv, nr_i, nr_r, nr_l, nr_n, kA_46, kA_47, kA_48, kA_49, kA_50, kA_51, kA_52, kS_46, kS_47, kS_48, kS_49, kS_50, kS_51, kS_52, cg_92, cg_93, rx_zret_t, rx_zretI, rx_zretP, kb_95_0, kb_95_60, kb_95_72, kb_95_84, kb_95_113, kb_95_131, kb_95_135, kb_95_136, kb_95_202, kb_95_206, kb_95_217, kb_95_238, kb_95_252, kb_95_254, kb_95_282, kb_95_286, kb_95_287, kb_95_295, kb_95_301, kb_95_338, kb_95_339, kr_95, List.getD_cons_zero, List.getD_cons_succ, List.set_cons_zero, List.set_cons_succ, ex_spl, ex_low, Option.toList, List.cons_append, List.nil_append, reduceIte, Int.reduceToNat, Nat.reduceDiv, Nat.reduceMod, Nat.reduceAdd, Nat.reduceMul, z_0, z_1, z_10, z_01, reduceCtorEq, ite_true, ite_false, true_and, and_true, ↓bI_01, ↓bP_01, ↓zret0, ↓zret1, z_add, z_sub, z_mul, up_1, up_2, not_true, not_false_iff, if_true, if_false, Bool.true_and, bI_T, bI_F, bP_T, bP_F, or_true, true_or, or_false, false_or, Int.reduceNeg, Int.reduceAdd, Int.reduceSub, Int.reduceMul, Int.reduceEq, Int.reduceLT, Int.reduceLE, Int.natCast_add, Int.cast_ofNat_Int]
theorem q_D_r (r : Int) : 64 ≤ q_D r ∧ q_D r ≤ 32768 := by
  unfold q_D
  split <;> (try split) <;> (try split) <;> omega
/-- before row r: nothing, or row r - 1 whole -/
def l_bf (z : Nat × (Nat → Int32)) (B : AS) (r : Int) : Prop := (r = 0 ∧ l_pg q_hf q_h0 B q_h0) ∨ (0 < r ∧ l_rd z B (r - 1) (q_C z) 1)
theorem l_hd2 {d : Nat} {A B : AS} {w w1 : PW} (hz : w.2.2.1 ≤ 260) {r : Nat} (hs : l_hs A B w w1 r (q_C w.2.2 * r)) (hr : (r : Int) < q_R w.2.2) (hb : l_bf w.2.2 B r) (h8 : B 0 8 ≤ 8 * (r : Int)) {v7 v8 v9 : Value} (x7 : xv v7) : ∃ B2 w2 l, ex_ev (d + 9) (ex_cal (d + 9)) 95 (ex_blk 95 32, [.ref 0, .ref 2000, .int (Int32.ofInt 0), .ref 46, .ref 47, .int (Int32.ofInt 1), .int (Int32.ofInt (r : Int)), v7, v8, v9], [], w1) = ex_ev (d + 9) (ex_cal (d + 9)) 95 (ex_blk 95 141, [.ref 0, .ref 2000, .int (Int32.ofInt 0), .ref 46, .ref 47, .int (Int32.ofInt 1), .int (Int32.ofInt (r : Int)), .int (Int32.ofInt 0), v8, v9], [], w2) ∧ l_hs A B2 w w2 ((r : Int) + 1) (q_C w.2.2 * r) ∧ l_rd w.2.2 B2 r 0 l ∧ (l = if q_N w.2.2 r ≤ 0 then 1 else 0) ∧ B2 0 8 ≤ 8 * (r : Int) + 1 + l := by
  have hw1 : w1.2 = w.2 := hs.1.2.2.1
  have hRC := q_RC w.2.2
  have hN := q_N_r w.2.2 r
  have hD := q_D_r r
  have hsr := q_s_r w.2.2 0
  have e1 := l_hd1 (d := d) (w1 := w1) (by rw [hw1]; exact hz) hs.2.2.1.1 hRC.2.1 hr (v7 := v7) (v8 := v8) (v9 := v9)
  rw [hw1] at e1
  have hs2 := l_hup hs (o := 46) (k := (2 + (r : Int)).toNat) (x := Int32.ofInt (q_N w.2.2 r)) (Or.inl rfl) (fun _ => ⟨rfl, by omega, rfl⟩) (fun h => absurd h (by omega))
  rw [if_pos rfl, if_neg (by omega)] at hs2
  have ew : Int32.ofInt (q_s w.2.2 0 / q_D r % (q_C w.2.2 + 1)) = Int32.ofInt (q_N w.2.2 r) := rfl
  have h1 := hs2.2.2.1.2
  have hq0 : 0 ≤ q_s w.2.2 0 / q_D r := Int.ediv_nonneg hsr.1 (by omega)
  have hq1 : q_s w.2.2 0 / q_D r ≤ q_s w.2.2 0 := Int.ediv_le_self _ hsr.1
  have h1a := hs.2.2.1.2
  have en := hs2.2.2.2.1 r (by omega) (by omega)
  generalize hu : ex_up w1 46 (2 + (r : Int)).toNat (Int32.ofInt (q_N w.2.2 r)) = u at *
  obtain ⟨B2, w2, e2, hs3, ⟨K, L, hp, hK, hL⟩, n3, f2⟩ : ∃ B2 w2, ((r = 0 → w2 = u) ∧ (¬ r = 0 → ex_cal (d + 9) 93 [.ref 0, .int (Int32.ofInt 47)] u = some (some (.int (Int32.ofInt 1)), w2))) ∧ l_hs A B2 w w2 ((r : Int) + 1) (q_C w.2.2 * r) ∧ (∃ K L : Int → Int, l_pg q_hf q_h0 B2 ((r : Int), (if (r : Int) = 0 then 0 else q_C w.2.2), 0, 0, K, L) ∧ (∀ j, 0 ≤ j → j < q_C w.2.2 * r + 0 → K j = q_K w.2.2 j) ∧ (∀ j, 0 ≤ j → j < (r : Int) → L j = q_N w.2.2 j)) ∧ B2 0 8 ≤ 8 * (r : Int) + 1 ∧ fC u w2 := by
    rcases hb with ⟨hb, hb2⟩ | ⟨hb, K, L, hp, hK, hL, hL1⟩
    · refine ⟨B, u, ⟨fun _ => rfl, fun h => absurd (by omega) h⟩, hs2, ⟨fun _ => 0, fun _ => 0, by rw [if_pos hb, hb]; exact hb2, fun j j0 j1 => ?_, fun j j0 j1 => absurd j1 (by omega)⟩, by omega, fun _ _ _ => rfl⟩
      rw [hb, Int.mul_zero] at j1
      omega
    · have hf : q_hf ((r : Int) - 1, (if (r : Int) - 1 = 0 then 0 else q_C w.2.2), q_C w.2.2, 1, K, L) 47 = some ((r : Int), (if (r : Int) = 0 then 0 else q_C w.2.2), 0, 0, K, L) := by
        rw [q_hf_s ⟨by omega, by split <;> omega⟩, if_neg (by omega), show (r : Int) - 1 + 1 = r by omega]
      obtain ⟨B2, w2, e2, a1, a2, a3, a4⟩ := l_hput (d := d + 5) hs2 hp hf (by omega) (by omega) (by omega)
      have hm : q_C w.2.2 * ((r : Int) - 1) + q_C w.2.2 = q_C w.2.2 * r := by rw [Int.mul_sub, Int.mul_one]; omega
      refine ⟨B2, w2, ⟨fun h => absurd h (by omega), fun _ => e2⟩, a1, ⟨K, L, a2, fun j j0 j1 => hK j j0 (by omega), fun j j0 j1 => ?_⟩, by omega, a4⟩
      by_cases hj : j = (r : Int) - 1
      · rw [hj]; exact hL1 rfl
      · exact hL j j0 (by omega)
  have h11 := hs3.2.2.1.2
  have en2 := hs3.2.2.2.1 r (by omega) (by omega)
  by_cases hN0 : q_N w.2.2 r ≤ 0
  · obtain ⟨B3, w3, e3, b1, b2, b3, b4⟩ := l_hput (d := d + 5) hs3 hp (c := 124) q_hf_l (by omega) (by omega) (by omega)
    refine ⟨B3, w3, 1, ?_, b1, ⟨K, _, b2, hK, fun j j0 j1 => ?_, fun _ => ?_⟩, by rw [if_pos hN0], by omega⟩
    · refine e1.trans ?_
      conv => lhs; rw [kb_95_86]
      by_cases h0 : r = 0
      · have := e2.1 h0
        subst this
        simp (disch := omega) only [h1a, ew, hu, x7, e3, en2, ev_iload, ev_aload, rx_istore, ev_iinc, ev_push, ev_iadd, ev_imul, ev_iand, ev_ishr, rx_idiv, rx_irem, ev_goto, ev_jsr, rx_ine_t, rx_ine_f, rx_ige_t, rx_ige_f, rx_zeq_t, rx_zeq_f, rx_zne_t, rx_zne_f, rx_zgt_t, rx_zgt_f, ev_iald, ev_call, ev_callv, nr_i, nr_r, nr_l, nr_n, kA_46, kA_47, kA_48, kA_49, kA_50, kA_51, kA_52, kS_46, kS_47, kS_48, kS_49, kS_50, kS_51, kS_52, cg_92, cg_93, rx_zret_t, rx_zretI, rx_zretP, kb_95_0, kb_95_60, kb_95_72, kb_95_84, kb_95_113, kb_95_131, kb_95_135, kb_95_136, kb_95_202, kb_95_206, kb_95_217, kb_95_238, kb_95_252, kb_95_254, kb_95_282, kb_95_286, kb_95_287, kb_95_295, kb_95_301, kb_95_338, kb_95_339, kr_95, List.getD_cons_zero, List.getD_cons_succ, List.set_cons_zero, List.set_cons_succ, ex_spl, ex_low, Option.toList, List.cons_append, List.nil_append, reduceIte, Int.reduceToNat, Nat.reduceDiv, Nat.reduceMod, Nat.reduceAdd, Nat.reduceMul, z_0, z_1, z_10, z_01, reduceCtorEq, ite_true, ite_false, true_and, and_true, ↓bI_01, ↓bP_01, ↓zret0, ↓zret1, z_add, z_sub, z_mul, up_1, up_2, not_true, not_false_iff, if_true, if_false, Bool.true_and, bI_T, bI_F, bP_T, bP_F, or_true, true_or, or_false, false_or, Int.reduceNeg, Int.reduceAdd, Int.reduceSub, Int.reduceMul, Int.reduceEq, Int.reduceLT, Int.reduceLE, Int.natCast_add, Int.cast_ofNat_Int]
      · have := e2.2 h0
        simp (disch := omega) only [h1a, ew, hu, x7, this, e3, en2, ev_iload, ev_aload, rx_istore, ev_iinc, ev_push, ev_iadd, ev_imul, ev_iand, ev_ishr, rx_idiv, rx_irem, ev_goto, ev_jsr, rx_ine_t, rx_ine_f, rx_ige_t, rx_ige_f, rx_zeq_t, rx_zeq_f, rx_zne_t, rx_zne_f, rx_zgt_t, rx_zgt_f, ev_iald, ev_call, ev_callv, nr_i, nr_r, nr_l, nr_n, kA_46, kA_47, kA_48, kA_49, kA_50, kA_51, kA_52, kS_46, kS_47, kS_48, kS_49, kS_50, kS_51, kS_52, cg_92, cg_93, rx_zret_t, rx_zretI, rx_zretP, kb_95_0, kb_95_60, kb_95_72, kb_95_84, kb_95_113, kb_95_131, kb_95_135, kb_95_136, kb_95_202, kb_95_206, kb_95_217, kb_95_238, kb_95_252, kb_95_254, kb_95_282, kb_95_286, kb_95_287, kb_95_295, kb_95_301, kb_95_338, kb_95_339, kr_95, List.getD_cons_zero, List.getD_cons_succ, List.set_cons_zero, List.set_cons_succ, ex_spl, ex_low, Option.toList, List.cons_append, List.nil_append, reduceIte, Int.reduceToNat, Nat.reduceDiv, Nat.reduceMod, Nat.reduceAdd, Nat.reduceMul, z_0, z_1, z_10, z_01, reduceCtorEq, ite_true, ite_false, true_and, and_true, ↓bI_01, ↓bP_01, ↓zret0, ↓zret1, z_add, z_sub, z_mul, up_1, up_2, not_true, not_false_iff, if_true, if_false, Bool.true_and, bI_T, bI_F, bP_T, bP_F, or_true, true_or, or_false, false_or, Int.reduceNeg, Int.reduceAdd, Int.reduceSub, Int.reduceMul, Int.reduceEq, Int.reduceLT, Int.reduceLE, Int.natCast_add, Int.cast_ofNat_Int]
    · rw [q_fu_o (by omega)]; exact hL j j0 j1
    · rw [q_fu_s]; omega
  · refine ⟨B2, w2, 0, ?_, hs3, ⟨K, L, hp, hK, hL, fun h => absurd h (by omega)⟩, by rw [if_neg hN0], by omega⟩
    refine e1.trans ?_
    conv => lhs; rw [kb_95_86]
    by_cases h0 : r = 0
    · have := e2.1 h0
      subst this
      simp (disch := omega) only [h1a, ew, hu, x7, en2, ev_iload, ev_aload, rx_istore, ev_iinc, ev_push, ev_iadd, ev_imul, ev_iand, ev_ishr, rx_idiv, rx_irem, ev_goto, ev_jsr, rx_ine_t, rx_ine_f, rx_ige_t, rx_ige_f, rx_zeq_t, rx_zeq_f, rx_zne_t, rx_zne_f, rx_zgt_t, rx_zgt_f, ev_iald, ev_call, ev_callv, nr_i, nr_r, nr_l, nr_n, kA_46, kA_47, kA_48, kA_49, kA_50, kA_51, kA_52, kS_46, kS_47, kS_48, kS_49, kS_50, kS_51, kS_52, cg_92, cg_93, rx_zret_t, rx_zretI, rx_zretP, kb_95_0, kb_95_60, kb_95_72, kb_95_84, kb_95_113, kb_95_131, kb_95_135, kb_95_136, kb_95_202, kb_95_206, kb_95_217, kb_95_238, kb_95_252, kb_95_254, kb_95_282, kb_95_286, kb_95_287, kb_95_295, kb_95_301, kb_95_338, kb_95_339, kr_95, List.getD_cons_zero, List.getD_cons_succ, List.set_cons_zero, List.set_cons_succ, ex_spl, ex_low, Option.toList, List.cons_append, List.nil_append, reduceIte, Int.reduceToNat, Nat.reduceDiv, Nat.reduceMod, Nat.reduceAdd, Nat.reduceMul, z_0, z_1, z_10, z_01, reduceCtorEq, ite_true, ite_false, true_and, and_true, ↓bI_01, ↓bP_01, ↓zret0, ↓zret1, z_add, z_sub, z_mul, up_1, up_2, not_true, not_false_iff, if_true, if_false, Bool.true_and, bI_T, bI_F, bP_T, bP_F, or_true, true_or, or_false, false_or, Int.reduceNeg, Int.reduceAdd, Int.reduceSub, Int.reduceMul, Int.reduceEq, Int.reduceLT, Int.reduceLE, Int.natCast_add, Int.cast_ofNat_Int]
    · have := e2.2 h0
      simp (disch := omega) only [h1a, ew, hu, x7, this, en2, ev_iload, ev_aload, rx_istore, ev_iinc, ev_push, ev_iadd, ev_imul, ev_iand, ev_ishr, rx_idiv, rx_irem, ev_goto, ev_jsr, rx_ine_t, rx_ine_f, rx_ige_t, rx_ige_f, rx_zeq_t, rx_zeq_f, rx_zne_t, rx_zne_f, rx_zgt_t, rx_zgt_f, ev_iald, ev_call, ev_callv, nr_i, nr_r, nr_l, nr_n, kA_46, kA_47, kA_48, kA_49, kA_50, kA_51, kA_52, kS_46, kS_47, kS_48, kS_49, kS_50, kS_51, kS_52, cg_92, cg_93, rx_zret_t, rx_zretI, rx_zretP, kb_95_0, kb_95_60, kb_95_72, kb_95_84, kb_95_113, kb_95_131, kb_95_135, kb_95_136, kb_95_202, kb_95_206, kb_95_217, kb_95_238, kb_95_252, kb_95_254, kb_95_282, kb_95_286, kb_95_287, kb_95_295, kb_95_301, kb_95_338, kb_95_339, kr_95, List.getD_cons_zero, List.getD_cons_succ, List.set_cons_zero, List.set_cons_succ, ex_spl, ex_low, Option.toList, List.cons_append, List.nil_append, reduceIte, Int.reduceToNat, Nat.reduceDiv, Nat.reduceMod, Nat.reduceAdd, Nat.reduceMul, z_0, z_1, z_10, z_01, reduceCtorEq, ite_true, ite_false, true_and, and_true, ↓bI_01, ↓bP_01, ↓zret0, ↓zret1, z_add, z_sub, z_mul, up_1, up_2, not_true, not_false_iff, if_true, if_false, Bool.true_and, bI_T, bI_F, bP_T, bP_F, or_true, true_or, or_false, false_or, Int.reduceNeg, Int.reduceAdd, Int.reduceSub, Int.reduceMul, Int.reduceEq, Int.reduceLT, Int.reduceLE, Int.natCast_add, Int.cast_ofNat_Int]
