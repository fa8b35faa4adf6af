/-! texts: letter by letter -/
theorem lk_t {k v : Int} {r : List (Int × Int)} {d x : Int} (h : x = k) : ex_lks ((k, v) :: r) d x = v := lks_t (q := (k, v)) h
theorem lk_f {k v : Int} {r : List (Int × Int)} {d x : Int} (h : ¬ x = k) : ex_lks ((k, v) :: r) d x = ex_lks r d x := lks_f (q := (k, v)) h
/-! calls to a text of either sort (3 a HOUSE's, 4 a LAW's) -/
theorem rx_ci {d : Nat} {cal : Nat → List Value → PW → Option ER} {y x n z o : Nat} {c : List Instr} {pl : List Value} {w : PW} {st : List Value} {as : List Value} (hs : ex_spl (n + 1) [] st = some (.ref o :: as, [])) (h : ex_dsp x (ex_cls o) = some z) : ex_ev d cal y (.invokeinterface x n :: c, pl, st, w) = (match cal z (.ref o :: as) w with | some (v, w1) => ex_ev d cal y (c, pl, v.toList ++ [], w1) | none => none) := by
  rw [ev_calli]
  unfold ex_vcall
  rw [hs]
  dsimp only
  rw [h]
  dsimp only
  rw [if_pos (show ex_low ([] : List Value) = true from rfl)]
  unfold ex_back
  cases cal z (.ref o :: as) w with
  | none => rfl
  | some q => rfl
/-- the method that an object of class k takes for call x -/
def q_dp (x o : Nat) : Nat := if o = 3 then (if x = 1 then 28 else if x = 2 then 29 else if x = 6 then 34 else if x = 4 ∨ x = 7 then 66 else 65) else (if x = 1 then 35 else if x = 2 then 36 else if x = 6 then 43 else if x = 4 ∨ x = 7 then 66 else 65)
theorem rx_ci0 {d : Nat} {cal : Nat → List Value → PW → Option ER} {y x o : Nat} {c : List Instr} {pl : List Value} {w : PW} (h : (x = 1 ∨ x = 6) ∧ (o = 3 ∨ o = 4)) : ex_ev d cal y (.invokeinterface x 0 :: c, pl, [.ref o], w) = (match cal (q_dp x o) [.ref o] w with | some (v, w1) => ex_ev d cal y (c, pl, v.toList ++ [], w1) | none => none) := by
  refine rx_ci (as := []) rfl ?_
  obtain ⟨h1 | h1, h2 | h2⟩ := h <;> subst h1 <;> subst h2 <;> rfl
theorem rx_ci1i {d : Nat} {cal : Nat → List Value → PW → Option ER} {y x o : Nat} {a : Int32} {c : List Instr} {pl : List Value} {w : PW} (h : x = 2 ∧ (o = 3 ∨ o = 4)) : ex_ev d cal y (.invokeinterface x 1 :: c, pl, [.int a, .ref o], w) = (match cal (q_dp x o) [.ref o, .int a] w with | some (v, w1) => ex_ev d cal y (c, pl, v.toList ++ [], w1) | none => none) := by
  refine rx_ci (as := [.int a]) rfl ?_
  obtain ⟨h1, h2 | h2⟩ := h <;> subst h1 <;> subst h2 <;> rfl
theorem rx_ci1r {d : Nat} {cal : Nat → List Value → PW → Option ER} {y x o p : Nat} {c : List Instr} {pl : List Value} {w : PW} (h : (((x = 0 ∨ x = 4) ∧ o = 3) ∨ ((x = 3 ∨ x = 7) ∧ o = 4)) ∨ (x = 5 ∧ (o = 3 ∨ o = 4))) : ex_ev d cal y (.invokeinterface x 1 :: c, pl, [.ref p, .ref o], w) = (match cal (q_dp x o) [.ref o, .ref p] w with | some (v, w1) => ex_ev d cal y (c, pl, v.toList ++ [], w1) | none => none) := by
  refine rx_ci (as := [.ref p]) rfl ?_
  rcases h with (⟨h1 | h1, h2⟩ | ⟨h1 | h1, h2⟩) | ⟨h1, h2 | h2⟩ <;> subst h1 <;> subst h2 <;> rfl
theorem m_codeAt {d : Nat} {A : AS} {w : PW} (hV : q_v0 A) (hC : rC A w) {i : Int} (i0 : 0 ≤ i) (i1 : i < A 0 8) : ex_cal (d + 2) 57 [.ref 1, .int (Int32.ofInt i)] w = some (some (.int (Int32.ofInt (A 8 i))), w) := by
  have hr := q_rng hV
  obtain ⟨⟨⟨⟨h511, h512, h513⟩, ⟨hk, hro, hco, hli⟩⟩, ⟨hbe, hah, hbs, hos⟩⟩, hdo, ⟨h010, h011, h09, h11⟩, hpc, ht18, ht21, ht23, ht25, ht27, ht30, ht32, ht34, ht36⟩ := id hC
  have hp := hpc i i0 i1
  rw [ke_57 kc_1]
  simp (disch := omega) only [h11, m_below, bI_t, bI_f, hp, ev_iload, ev_aload, ev_push, ev_goto, ev_jsr, rx_zeq_t, rx_zeq_f, ev_getf, ev_iald, ev_call, nr_i, nr_r, nr_l, nr_n, kA_2, kA_6, kA_7, kA_8, kA_9, kA_10, kA_11, kA_12, kA_13, kA_14, kA_15, kA_16, kA_19, kA_22, kA_24, kA_26, kA_28, kA_31, kA_33, kA_39, kA_40, kA_43, kA_44, kA_45, cg_83, rx_iret, kb_57_0, kb_57_20, kb_57_21, kr_57, kf_1_448, kf_1_449, List.getD_cons_zero, List.getD_cons_succ, List.set_cons_zero, List.set_cons_succ, ex_spl, ex_low, Option.toList, List.cons_append, List.nil_append, reduceIte, Int.reduceToNat, Nat.reduceDiv, Nat.reduceMod, Nat.reduceAdd, Nat.reduceMul, z_0, z_1, z_10, z_01, reduceCtorEq, ite_true, ite_false, true_and, and_true, ↓bI_01, ↓bP_01, ↓zret0, ↓zret1, z_add, z_sub, z_mul, up_1, up_2, not_true, not_false_iff, if_true, if_false, Bool.true_and, bI_T, bI_F, bP_T, bP_F, or_true, true_or, or_false, false_or, Int.reduceNeg, Int.reduceAdd, Int.reduceSub, Int.reduceMul, Int.reduceEq, Int.reduceLT, Int.reduceLE, Int.natCast_add, Int.cast_ofNat_Int]
/-! a text taken as far as it goes -/
def p_tr {α : Type} (f : α → Int → Option α) (s0 : α) (A : AS) : Nat → α → Prop
  | 0, s => s = s0
  | n + 1, s => ∃ s', p_tr f s0 A n s' ∧ f s' (A 8 n) = some s
theorem p_tr_u {α : Type} {f : α → Int → Option α} {s0 : α} {A : AS} {n : Nat} {s t : α} (h1 : p_tr f s0 A n s) (h2 : p_tr f s0 A n t) : s = t := by
  induction n generalizing s t with
  | zero => exact h1.trans h2.symm
  | succ n ih =>
    obtain ⟨s', a1, a2⟩ := h1
    obtain ⟨t', b1, b2⟩ := h2
    have := ih a1 b1
    subst this
    rw [a2] at b2
    exact Option.some.inj b2
theorem p_tr_lt {α : Type} {f : α → Int → Option α} {s0 : α} {A : AS} {m : Nat} {sm : α} (h : p_tr f s0 A m sm) {i : Nat} (hi : i < m) {s : α} (hs : p_tr f s0 A i s) : ∃ s', f s (A 8 i) = some s' ∧ p_tr f s0 A (i + 1) s' := by
  induction m generalizing sm with
  | zero => omega
  | succ m ih =>
    obtain ⟨s1, a1, a2⟩ := h
    by_cases him : i = m
    · subst him
      have := p_tr_u a1 hs
      subst this
      exact ⟨sm, a2, s1, a1, a2⟩
    · exact ih a1 (by omega)
/-- taken up to m, in state s -/
def p_tk {α : Type} (f : α → Int → Option α) (s0 : α) (A : AS) (m : Nat) (s : α) : Prop := p_tr f s0 A m s ∧ (m : Int) ≤ A 0 8 ∧ ((m : Int) < A 0 8 → f s (A 8 m) = none)
theorem p_tk_ex {α : Type} (f : α → Int → Option α) (s0 : α) (A : AS) (h0 : 0 ≤ A 0 8) : ∃ m s, p_tk f s0 A m s := by
  have key : ∀ n : Nat, (n : Int) ≤ A 0 8 → (∃ s, p_tr f s0 A n s) ∨ ∃ m s, p_tk f s0 A m s := by
    intro n
    induction n with
    | zero => exact fun _ => Or.inl ⟨s0, rfl⟩
    | succ n ih =>
      intro hn
      rcases ih (by omega) with ⟨s, hs⟩ | h
      · cases hf : f s (A 8 n) with
        | none => exact Or.inr ⟨n, s, hs, by omega, fun _ => hf⟩
        | some s' => exact Or.inl ⟨s', s, hs, hf⟩
      · exact Or.inr h
  rcases key (A 0 8).toNat (by omega) with ⟨s, hs⟩ | h
  · exact ⟨_, s, hs, by omega, fun h => by omega⟩
  · exact h
/-! THE TEXT OF A HOUSE: row, width, column, whether its line is told, kinds, lines -/
abbrev HS : Type := Int × Int × Int × Int × (Int → Int) × (Int → Int)
def q_kd1 (x : Int) : Int := if x = 46 then 0 else if x = 35 then 1 else 2
def q_hf : HS → Int → Option HS := fun s x => match s with
  | (r, wd, c, l, K, L) =>
    if x = 46 ∨ x = 35 ∨ x = 100 then (if c = (if r = 0 then 6 else wd) then none else some (r, wd, c + 1, l, q_fu K (r * wd + c) (q_kd1 x), L))
    else if x = 124 then (if l = 1 then none else some (r, wd, c, 1, K, q_fu L r c))
    else if x = 47 then (if l = 1 ∧ r < 3 ∧ (if r = 0 then 1 < c else c = wd) then some (r + 1, c, 0, 0, K, L) else none)
    else none
def q_h0 : HS := (0, 0, 0, 0, fun _ => 0, fun _ => 0)
/-- what holds of it -/
def q_hi (s : HS) : Prop := match s with
  | (r, wd, c, l, K, L) => 0 ≤ r ∧ r ≤ 3 ∧ 0 ≤ wd ∧ wd ≤ 6 ∧ 0 ≤ c ∧ (l = 0 ∨ l = 1) ∧ (r = 0 → wd = 0 ∧ c ≤ 6) ∧ (0 < r → 2 ≤ wd ∧ c ≤ wd) ∧ 0 ≤ r * wd ∧ r * wd ≤ 18 ∧ (∀ i, 0 ≤ i → i < r * wd + c → 0 ≤ K i ∧ K i ≤ 2) ∧ (∀ i, 0 ≤ i → i < r → 0 ≤ L i ∧ L i ≤ wd) ∧ (l = 1 → 0 ≤ L r ∧ L r ≤ c)
theorem q_hi_0 : q_hi q_h0 := ⟨Int.le_refl _, by omega, Int.le_refl _, by omega, Int.le_refl _, Or.inl rfl, fun _ => ⟨rfl, by omega⟩, fun h => absurd h (by omega), by omega, by omega, fun i i0 i1 => absurd i1 (by omega), fun i i0 i1 => absurd i1 (by omega), fun h => absurd h (by omega)⟩
theorem q_hi_s {s s' : HS} {x : Int} (h : q_hi s) (hf : q_hf s x = some s') : q_hi s' := by
  obtain ⟨r, wd, c, l, K, L⟩ := s
  obtain ⟨a1, a2, a3, a4, a5, a6, a7, a8, a9, a10, a11, a12, a13⟩ := h
  unfold q_hf at hf
  dsimp only at hf
  by_cases hx : x = 46 ∨ x = 35 ∨ x = 100
  · rw [if_pos hx] at hf
    by_cases hc : c = (if r = 0 then 6 else wd)
    · rw [if_pos hc] at hf; cases hf
    · rw [if_neg hc] at hf
      cases hf
      have hlim : c < (if r = 0 then 6 else wd) := by
        by_cases h0 : r = 0
        · rw [if_pos h0] at hc ⊢; have := (a7 h0).2; omega
        · rw [if_neg h0] at hc ⊢; have := (a8 (by omega)).2; omega
      have hk : 0 ≤ q_kd1 x ∧ q_kd1 x ≤ 2 := by unfold q_kd1; split <;> (try split) <;> omega
      refine ⟨a1, a2, a3, a4, by omega, a6, fun h0 => ⟨(a7 h0).1, ?_⟩, fun h0 => ⟨(a8 h0).1, ?_⟩, a9, a10, fun i i0 i1 => ?_, a12, fun h => ?_⟩
      · rw [if_pos h0] at hlim; omega
      · rw [if_neg (by omega)] at hlim; omega
      · by_cases hi : i = r * wd + c
        · rw [hi, q_fu_s]; exact hk
        · rw [q_fu_o hi]; exact a11 i i0 (by omega)
      · have := a13 h; omega
  · rw [if_neg hx] at hf
    by_cases hx2 : x = 124
    · rw [if_pos hx2] at hf
      by_cases hl : l = 1
      · rw [if_pos hl] at hf; cases hf
      · rw [if_neg hl] at hf
        cases hf
        refine ⟨a1, a2, a3, a4, a5, Or.inr rfl, a7, a8, a9, a10, a11, fun i i0 i1 => ?_, fun _ => ?_⟩
        · rw [q_fu_o (by omega)]; exact a12 i i0 i1
        · rw [q_fu_s]; omega
    · rw [if_neg hx2] at hf
      by_cases hx3 : x = 47
      · rw [if_pos hx3] at hf
        by_cases hc : l = 1 ∧ r < 3 ∧ (if r = 0 then 1 < c else c = wd)
        · rw [if_pos hc] at hf
          cases hf
          obtain ⟨c1, c2, c3⟩ := hc
          by_cases h0 : r = 0
          · rw [if_pos h0] at c3
            subst h0
            have h7 := a7 rfl
            have h13 := a13 c1
            refine ⟨by omega, by omega, a5, h7.2, Int.le_refl _, Or.inl rfl, fun h => absurd h (by omega), fun _ => ⟨by omega, a5⟩, ?_, ?_, fun i i0 i1 => ?_, fun i i0 i1 => ?_, fun h => absurd h (by omega)⟩
            · rw [Int.zero_add, Int.one_mul]; exact a5
            · rw [Int.zero_add, Int.one_mul]; omega
            · rw [Int.zero_add, Int.one_mul] at i1; exact a11 i i0 (by rw [Int.zero_mul]; omega)
            · have : i = 0 := by omega
              subst this; exact h13
          · rw [if_neg h0] at c3
            subst c3
            have h8 := a8 (by omega)
            have h13 := a13 c1
            have he : (r + 1) * c = r * c + c := by rw [Int.add_mul, Int.one_mul]
            refine ⟨by omega, by omega, a3, a4, Int.le_refl _, Or.inl rfl, fun h => absurd h (by omega), fun _ => ⟨h8.1, a3⟩, ?_, ?_, fun i i0 i1 => ?_, fun i i0 i1 => ?_, fun h => absurd h (by omega)⟩
            · rw [he]; omega
            · have : (r + 1) * c ≤ 3 * 6 := Int.mul_le_mul (by omega) a4 a3 (by omega)
              omega
            · rw [he] at i1; exact a11 i i0 (by omega)
            · by_cases hi : i = r
              · rw [hi]; exact h13
              · exact a12 i i0 (by omega)
        · rw [if_neg hc] at hf; cases hf
      · rw [if_neg hx3] at hf; cases hf
theorem q_hi_t {A : AS} {n : Nat} {s : HS} (h : p_tr q_hf q_h0 A n s) : q_hi s := by
  induction n generalizing s with
  | zero => rw [show s = q_h0 from h]; exact q_hi_0
  | succ n ih =>
    obtain ⟨s', h1, h2⟩ := h
    exact q_hi_s (ih h1) h2
/-- the whole of it -/
def q_hw (s : HS) : Prop := match s with
  | (r, wd, c, l, _, _) => l = 1 ∧ 1 ≤ r ∧ c = wd
/-- as the class has it -/
def rHT (w : PW) (s : HS) : Prop := match s with
  | (r, wd, c, l, _, _) => w.1 3 0 = Int32.ofInt r ∧ w.1 3 1 = Int32.ofInt (if r = 0 then -1 else wd) ∧ w.1 3 2 = Int32.ofInt c ∧ w.1 3 3 = Int32.ofInt l
theorem m_hbegin {d : Nat} {w : PW} : ∃ w', ex_cal (d + 1) 28 [.ref 3] w = some (none, w') ∧ rHT w' q_h0 ∧ sO 3 w w' := by
  refine ⟨ex_up (ex_up (ex_up (ex_up w 3 0 (Int32.ofInt 0)) 3 1 (Int32.ofInt (-1))) 3 2 (Int32.ofInt 0)) 3 3 (Int32.ofInt 0), ?_, ⟨rfl, rfl, rfl, rfl⟩, sO_t (sO_t (sO_t (sO_u _ _ _ _) (sO_u _ _ _ _)) (sO_u _ _ _ _)) (sO_u _ _ _ _)⟩
  rw [ke_28 kc_3]
  simp (disch := omega) only [ev_aload, ev_push, ev_putf, nr_i, nr_r, nr_l, nr_n, rx_vret, kb_28_0, kr_28, kk_3_128, kk_3_129, kk_3_130, kk_3_131, List.getD_cons_zero, List.getD_cons_succ, List.set_cons_zero, List.set_cons_succ, ex_spl, ex_low, Option.toList, List.cons_append, List.nil_append, reduceIte, Int.reduceToNat, Nat.reduceDiv, Nat.reduceMod, Nat.reduceAdd, Nat.reduceMul, z_0, z_1, z_10, z_01, reduceCtorEq, ite_true, ite_false, true_and, and_true, ↓bI_01, ↓bP_01, ↓zret0, ↓zret1, z_add, z_sub, z_mul, up_1, up_2, not_true, not_false_iff, if_true, if_false, Bool.true_and, bI_T, bI_F, bP_T, bP_F, or_true, true_or, or_false, false_or, Int.reduceNeg, Int.reduceAdd, Int.reduceSub, Int.reduceMul, Int.reduceEq, Int.reduceLT, Int.reduceLE, Int.natCast_add, Int.cast_ofNat_Int]
theorem m_hrow {d : Nat} {w : PW} {s : HS} (hi : q_hi s) (hR : rHT w s) : ex_cal (d + 1) 33 [.ref 3] w = some (some (.int (bI (s.2.2.2.1 = 1 ∧ (if s.1 = 0 then 2 ≤ s.2.2.1 else s.2.2.1 = s.2.1)))), w) := by
  obtain ⟨r, wd, c, l, K, L⟩ := s
  obtain ⟨a1, a2, a3, a4, a5, a6, a7, a8, a9, a10, -⟩ := hi
  obtain ⟨r1, r2, r3, r4⟩ := hR
  rw [ke_33 kc_3]
  dsimp only
  by_cases hl : l = 1
  · by_cases h0 : r = 0
    · rw [if_pos h0] at r2
      by_cases hc : 2 ≤ c
      · rw [bI_t (show l = 1 ∧ (if r = 0 then 2 ≤ c else c = wd) from ⟨hl, by rw [if_pos h0]; exact hc⟩)]
        simp (disch := omega) only [r1, r2, r3, r4, ev_aload, ev_push, ev_goto, ev_jsr, rx_ine_t, rx_ine_f, rx_ilt_t, rx_ilt_f, rx_zeq_t, rx_zeq_f, ev_getf, nr_i, nr_r, nr_l, nr_n, rx_zret_t, rx_zretI, rx_zretP, kb_33_0, kb_33_26, kb_33_37, kb_33_41, kb_33_42, kr_33, kf_3_129, kf_3_130, kf_3_131, List.getD_cons_zero, List.getD_cons_succ, List.set_cons_zero, List.set_cons_succ, ex_spl, ex_low, Option.toList, List.cons_append, List.nil_append, reduceIte, Int.reduceToNat, Nat.reduceDiv, Nat.reduceMod, Nat.reduceAdd, Nat.reduceMul, z_0, z_1, z_10, z_01, reduceCtorEq, ite_true, ite_false, true_and, and_true, ↓bI_01, ↓bP_01, ↓zret0, ↓zret1, z_add, z_sub, z_mul, up_1, up_2, not_true, not_false_iff, if_true, if_false, Bool.true_and, bI_T, bI_F, bP_T, bP_F, or_true, true_or, or_false, false_or, Int.reduceNeg, Int.reduceAdd, Int.reduceSub, Int.reduceMul, Int.reduceEq, Int.reduceLT, Int.reduceLE, Int.natCast_add, Int.cast_ofNat_Int]
      · rw [bI_f (show ¬ (l = 1 ∧ (if r = 0 then 2 ≤ c else c = wd)) from fun h => by have := h.2; rw [if_pos h0] at this; omega)]
        simp (disch := omega) only [r1, r2, r3, r4, ev_aload, ev_push, ev_goto, ev_jsr, rx_ine_t, rx_ine_f, rx_ilt_t, rx_ilt_f, rx_zeq_t, rx_zeq_f, ev_getf, nr_i, nr_r, nr_l, nr_n, rx_zret_t, rx_zretI, rx_zretP, kb_33_0, kb_33_26, kb_33_37, kb_33_41, kb_33_42, kr_33, kf_3_129, kf_3_130, kf_3_131, List.getD_cons_zero, List.getD_cons_succ, List.set_cons_zero, List.set_cons_succ, ex_spl, ex_low, Option.toList, List.cons_append, List.nil_append, reduceIte, Int.reduceToNat, Nat.reduceDiv, Nat.reduceMod, Nat.reduceAdd, Nat.reduceMul, z_0, z_1, z_10, z_01, reduceCtorEq, ite_true, ite_false, true_and, and_true, ↓bI_01, ↓bP_01, ↓zret0, ↓zret1, z_add, z_sub, z_mul, up_1, up_2, not_true, not_false_iff, if_true, if_false, Bool.true_and, bI_T, bI_F, bP_T, bP_F, or_true, true_or, or_false, false_or, Int.reduceNeg, Int.reduceAdd, Int.reduceSub, Int.reduceMul, Int.reduceEq, Int.reduceLT, Int.reduceLE, Int.natCast_add, Int.cast_ofNat_Int]
    · rw [if_neg h0] at r2
      have := a8 (by omega)
      by_cases hc : c = wd
      · rw [bI_t (show l = 1 ∧ (if r = 0 then 2 ≤ c else c = wd) from ⟨hl, by rw [if_neg h0]; exact hc⟩)]
        simp (disch := omega) only [r1, r2, r3, r4, ev_aload, ev_push, ev_goto, ev_jsr, rx_ine_t, rx_ine_f, rx_ilt_t, rx_ilt_f, rx_zeq_t, rx_zeq_f, ev_getf, nr_i, nr_r, nr_l, nr_n, rx_zret_t, rx_zretI, rx_zretP, kb_33_0, kb_33_26, kb_33_37, kb_33_41, kb_33_42, kr_33, kf_3_129, kf_3_130, kf_3_131, List.getD_cons_zero, List.getD_cons_succ, List.set_cons_zero, List.set_cons_succ, ex_spl, ex_low, Option.toList, List.cons_append, List.nil_append, reduceIte, Int.reduceToNat, Nat.reduceDiv, Nat.reduceMod, Nat.reduceAdd, Nat.reduceMul, z_0, z_1, z_10, z_01, reduceCtorEq, ite_true, ite_false, true_and, and_true, ↓bI_01, ↓bP_01, ↓zret0, ↓zret1, z_add, z_sub, z_mul, up_1, up_2, not_true, not_false_iff, if_true, if_false, Bool.true_and, bI_T, bI_F, bP_T, bP_F, or_true, true_or, or_false, false_or, Int.reduceNeg, Int.reduceAdd, Int.reduceSub, Int.reduceMul, Int.reduceEq, Int.reduceLT, Int.reduceLE, Int.natCast_add, Int.cast_ofNat_Int]
      · rw [bI_f (show ¬ (l = 1 ∧ (if r = 0 then 2 ≤ c else c = wd)) from fun h => by have := h.2; rw [if_neg h0] at this; omega)]
        simp (disch := omega) only [r1, r2, r3, r4, ev_aload, ev_push, ev_goto, ev_jsr, rx_ine_t, rx_ine_f, rx_ilt_t, rx_ilt_f, rx_zeq_t, rx_zeq_f, ev_getf, nr_i, nr_r, nr_l, nr_n, rx_zret_t, rx_zretI, rx_zretP, kb_33_0, kb_33_26, kb_33_37, kb_33_41, kb_33_42, kr_33, kf_3_129, kf_3_130, kf_3_131, List.getD_cons_zero, List.getD_cons_succ, List.set_cons_zero, List.set_cons_succ, ex_spl, ex_low, Option.toList, List.cons_append, List.nil_append, reduceIte, Int.reduceToNat, Nat.reduceDiv, Nat.reduceMod, Nat.reduceAdd, Nat.reduceMul, z_0, z_1, z_10, z_01, reduceCtorEq, ite_true, ite_false, true_and, and_true, ↓bI_01, ↓bP_01, ↓zret0, ↓zret1, z_add, z_sub, z_mul, up_1, up_2, not_true, not_false_iff, if_true, if_false, Bool.true_and, bI_T, bI_F, bP_T, bP_F, or_true, true_or, or_false, false_or, Int.reduceNeg, Int.reduceAdd, Int.reduceSub, Int.reduceMul, Int.reduceEq, Int.reduceLT, Int.reduceLE, Int.natCast_add, Int.cast_ofNat_Int]
  · have hl0 : l = 0 := by omega
    rw [bI_f (show ¬ (l = 1 ∧ (if r = 0 then 2 ≤ c else c = wd)) from fun h => hl h.1)]
    simp (disch := omega) only [r1, r2, r3, r4, ev_aload, ev_push, ev_goto, ev_jsr, rx_ine_t, rx_ine_f, rx_ilt_t, rx_ilt_f, rx_zeq_t, rx_zeq_f, ev_getf, nr_i, nr_r, nr_l, nr_n, rx_zret_t, rx_zretI, rx_zretP, kb_33_0, kb_33_26, kb_33_37, kb_33_41, kb_33_42, kr_33, kf_3_129, kf_3_130, kf_3_131, List.getD_cons_zero, List.getD_cons_succ, List.set_cons_zero, List.set_cons_succ, ex_spl, ex_low, Option.toList, List.cons_append, List.nil_append, reduceIte, Int.reduceToNat, Nat.reduceDiv, Nat.reduceMod, Nat.reduceAdd, Nat.reduceMul, z_0, z_1, z_10, z_01, reduceCtorEq, ite_true, ite_false, true_and, and_true, ↓bI_01, ↓bP_01, ↓zret0, ↓zret1, z_add, z_sub, z_mul, up_1, up_2, not_true, not_false_iff, if_true, if_false, Bool.true_and, bI_T, bI_F, bP_T, bP_F, or_true, true_or, or_false, false_or, Int.reduceNeg, Int.reduceAdd, Int.reduceSub, Int.reduceMul, Int.reduceEq, Int.reduceLT, Int.reduceLE, Int.natCast_add, Int.cast_ofNat_Int]
theorem m_htakes {d : Nat} {w : PW} {s : HS} {x : Int} (hi : q_hi s) (hR : rHT w s) (x0 : 0 ≤ x) (x1 : x < 256) : (∀ s', q_hf s x = some s' → ∃ w', ex_cal (d + 3) 29 [.ref 3, .int (Int32.ofInt x)] w = some (some (.int (Int32.ofInt 1)), w') ∧ rHT w' s' ∧ sO 3 w w') ∧ (q_hf s x = none → ex_cal (d + 3) 29 [.ref 3, .int (Int32.ofInt x)] w = some (some (.int (Int32.ofInt 0)), w)) := by
  have hrow := m_hrow (d := d) hi hR
  obtain ⟨r, wd, c, l, K, L⟩ := s
  obtain ⟨a1, a2, a3, a4, a5, a6, a7, a8, a9, a10, -⟩ := hi
  obtain ⟨r1, r2, r3, r4⟩ := hR
  unfold q_hf
  dsimp only at hrow ⊢
  by_cases hx : x = 46 ∨ x = 35 ∨ x = 100
  · rw [if_pos hx]
    have hcell : ∀ (w w1 : PW) (q : Int), (q = 0 ∨ q = 1) → ex_cal (d + 2) 32 [.ref 3] w = some (some (.int (Int32.ofInt q)), w1) → ex_cal (d + 3) 29 [.ref 3, .int (Int32.ofInt x)] w = some (some (.int (Int32.ofInt q)), w1) := by
      intro w w1 q hq hh
      rw [ke_29 kc_3]
      rcases hx with hx | hx | hx <;> subst hx <;> simp (disch := omega) only [hh, ev_iload, ev_aload, ev_push, ev_callv, nr_i, nr_r, nr_l, nr_n, rx_lsw, ar_tl, lk_t, lk_f, lks_n, rx_zret_t, rx_zretI, rx_zretP, kb_29_0, kb_29_52, kb_29_57, kb_29_62, kb_29_67, kr_29, List.getD_cons_zero, List.getD_cons_succ, List.set_cons_zero, List.set_cons_succ, ex_spl, ex_low, Option.toList, List.cons_append, List.nil_append, reduceIte, Int.reduceToNat, Nat.reduceDiv, Nat.reduceMod, Nat.reduceAdd, Nat.reduceMul, z_0, z_1, z_10, z_01, reduceCtorEq, ite_true, ite_false, true_and, and_true, ↓bI_01, ↓bP_01, ↓zret0, ↓zret1, z_add, z_sub, z_mul, up_1, up_2, not_true, not_false_iff, if_true, if_false, Bool.true_and, bI_T, bI_F, bP_T, bP_F, or_true, true_or, or_false, false_or, Int.reduceNeg, Int.reduceAdd, Int.reduceSub, Int.reduceMul, Int.reduceEq, Int.reduceLT, Int.reduceLE, Int.natCast_add, Int.cast_ofNat_Int]
    have hlim : (if (if r = 0 then -1 else wd) = -1 then 6 else (if r = 0 then -1 else wd)) = (if r = 0 then 6 else wd) := by
      by_cases h0 : r = 0
      · rw [if_pos h0, if_pos rfl, if_pos h0]
      · rw [if_neg h0, if_neg (by omega), if_neg h0]
    have hle : c ≤ (if r = 0 then 6 else wd) ∧ (if r = 0 then 6 else wd) ≤ 6 := by
      by_cases h0 : r = 0
      · rw [if_pos h0]; have := a7 h0; omega
      · rw [if_neg h0]; have := a8 (by omega); omega
    constructor
    · intro s' hs
      by_cases hc : c = (if r = 0 then 6 else wd)
      · rw [if_pos hc] at hs; cases hs
      · rw [if_neg hc] at hs
        cases hs
        refine ⟨ex_up w 3 2 (Int32.ofInt (c + 1)), ?_, ⟨r1, r2, rfl, r4⟩, sO_u _ _ _ _⟩
        have : ex_cal (d + 2) 32 [.ref 3] w = some (some (.int (Int32.ofInt 1)), ex_up w 3 2 (Int32.ofInt (c + 1))) := by
          rw [ke_32 kc_3]
          by_cases h0 : r = 0
          · rw [if_pos h0] at r2 hc hle
            simp (disch := omega) only [r1, r2, r3, r4, ev_aload, ev_push, ev_iadd, ev_dup_r, ev_dup_i, ev_goto, ev_jsr, rx_ine_t, rx_ine_f, rx_ilt_t, rx_ilt_f, ev_getf, ev_putf, nr_i, nr_r, nr_l, nr_n, rx_zret_t, rx_zretI, rx_zretP, kb_32_0, kb_32_17, kb_32_21, kb_32_26, kr_32, kf_3_129, kf_3_130, kk_3_130, List.getD_cons_zero, List.getD_cons_succ, List.set_cons_zero, List.set_cons_succ, ex_spl, ex_low, Option.toList, List.cons_append, List.nil_append, reduceIte, Int.reduceToNat, Nat.reduceDiv, Nat.reduceMod, Nat.reduceAdd, Nat.reduceMul, z_0, z_1, z_10, z_01, reduceCtorEq, ite_true, ite_false, true_and, and_true, ↓bI_01, ↓bP_01, ↓zret0, ↓zret1, z_add, z_sub, z_mul, up_1, up_2, not_true, not_false_iff, if_true, if_false, Bool.true_and, bI_T, bI_F, bP_T, bP_F, or_true, true_or, or_false, false_or, Int.reduceNeg, Int.reduceAdd, Int.reduceSub, Int.reduceMul, Int.reduceEq, Int.reduceLT, Int.reduceLE, Int.natCast_add, Int.cast_ofNat_Int]
          · rw [if_neg h0] at r2 hc hle
            have := a8 (by omega)
            simp (disch := omega) only [r1, r2, r3, r4, ev_aload, ev_push, ev_iadd, ev_dup_r, ev_dup_i, ev_goto, ev_jsr, rx_ine_t, rx_ine_f, rx_ilt_t, rx_ilt_f, ev_getf, ev_putf, nr_i, nr_r, nr_l, nr_n, rx_zret_t, rx_zretI, rx_zretP, kb_32_0, kb_32_17, kb_32_21, kb_32_26, kr_32, kf_3_129, kf_3_130, kk_3_130, List.getD_cons_zero, List.getD_cons_succ, List.set_cons_zero, List.set_cons_succ, ex_spl, ex_low, Option.toList, List.cons_append, List.nil_append, reduceIte, Int.reduceToNat, Nat.reduceDiv, Nat.reduceMod, Nat.reduceAdd, Nat.reduceMul, z_0, z_1, z_10, z_01, reduceCtorEq, ite_true, ite_false, true_and, and_true, ↓bI_01, ↓bP_01, ↓zret0, ↓zret1, z_add, z_sub, z_mul, up_1, up_2, not_true, not_false_iff, if_true, if_false, Bool.true_and, bI_T, bI_F, bP_T, bP_F, or_true, true_or, or_false, false_or, Int.reduceNeg, Int.reduceAdd, Int.reduceSub, Int.reduceMul, Int.reduceEq, Int.reduceLT, Int.reduceLE, Int.natCast_add, Int.cast_ofNat_Int]
        exact hcell _ _ _ (by omega) this
    · intro hs
      by_cases hc : c = (if r = 0 then 6 else wd)
      · have : ex_cal (d + 2) 32 [.ref 3] w = some (some (.int (Int32.ofInt 0)), w) := by
          rw [ke_32 kc_3]
          by_cases h0 : r = 0
          · rw [if_pos h0] at r2 hc
            simp (disch := omega) only [r1, r2, r3, r4, ev_aload, ev_push, ev_iadd, ev_dup_r, ev_dup_i, ev_goto, ev_jsr, rx_ine_t, rx_ine_f, rx_ilt_t, rx_ilt_f, ev_getf, ev_putf, nr_i, nr_r, nr_l, nr_n, rx_zret_t, rx_zretI, rx_zretP, kb_32_0, kb_32_17, kb_32_21, kb_32_26, kr_32, kf_3_129, kf_3_130, kk_3_130, List.getD_cons_zero, List.getD_cons_succ, List.set_cons_zero, List.set_cons_succ, ex_spl, ex_low, Option.toList, List.cons_append, List.nil_append, reduceIte, Int.reduceToNat, Nat.reduceDiv, Nat.reduceMod, Nat.reduceAdd, Nat.reduceMul, z_0, z_1, z_10, z_01, reduceCtorEq, ite_true, ite_false, true_and, and_true, ↓bI_01, ↓bP_01, ↓zret0, ↓zret1, z_add, z_sub, z_mul, up_1, up_2, not_true, not_false_iff, if_true, if_false, Bool.true_and, bI_T, bI_F, bP_T, bP_F, or_true, true_or, or_false, false_or, Int.reduceNeg, Int.reduceAdd, Int.reduceSub, Int.reduceMul, Int.reduceEq, Int.reduceLT, Int.reduceLE, Int.natCast_add, Int.cast_ofNat_Int]
          · rw [if_neg h0] at r2 hc
            have := a8 (by omega)
            simp (disch := omega) only [r1, r2, r3, r4, ev_aload, ev_push, ev_iadd, ev_dup_r, ev_dup_i, ev_goto, ev_jsr, rx_ine_t, rx_ine_f, rx_ilt_t, rx_ilt_f, ev_getf, ev_putf, nr_i, nr_r, nr_l, nr_n, rx_zret_t, rx_zretI, rx_zretP, kb_32_0, kb_32_17, kb_32_21, kb_32_26, kr_32, kf_3_129, kf_3_130, kk_3_130, List.getD_cons_zero, List.getD_cons_succ, List.set_cons_zero, List.set_cons_succ, ex_spl, ex_low, Option.toList, List.cons_append, List.nil_append, reduceIte, Int.reduceToNat, Nat.reduceDiv, Nat.reduceMod, Nat.reduceAdd, Nat.reduceMul, z_0, z_1, z_10, z_01, reduceCtorEq, ite_true, ite_false, true_and, and_true, ↓bI_01, ↓bP_01, ↓zret0, ↓zret1, z_add, z_sub, z_mul, up_1, up_2, not_true, not_false_iff, if_true, if_false, Bool.true_and, bI_T, bI_F, bP_T, bP_F, or_true, true_or, or_false, false_or, Int.reduceNeg, Int.reduceAdd, Int.reduceSub, Int.reduceMul, Int.reduceEq, Int.reduceLT, Int.reduceLE, Int.natCast_add, Int.cast_ofNat_Int]
        exact hcell _ _ _ (by omega) this
      · rw [if_neg hc] at hs; cases hs
  · rw [if_neg hx]
    by_cases hx2 : x = 124
    · rw [if_pos hx2]
      subst hx2
      constructor
      · intro s' hs
        by_cases hl : l = 1
        · rw [if_pos hl] at hs; cases hs
        · rw [if_neg hl] at hs
          cases hs
          have hl0 : l = 0 := by omega
          refine ⟨ex_up w 3 3 (Int32.ofInt 1), ?_, ⟨r1, r2, r3, rfl⟩, sO_u _ _ _ _⟩
          have : ∀ d, ex_cal (d + 1) 30 [.ref 3] w = some (some (.int (Int32.ofInt 1)), ex_up w 3 3 (Int32.ofInt 1)) := by
            intro d
            rw [ke_30 kc_3]
            simp (disch := omega) only [r4, hl0, ev_aload, ev_push, rx_zeq_t, rx_zeq_f, ev_getf, ev_putf, nr_i, nr_r, nr_l, nr_n, rx_zret_t, rx_zretI, rx_zretP, kb_30_0, kb_30_9, kr_30, kf_3_131, kk_3_131, List.getD_cons_zero, List.getD_cons_succ, List.set_cons_zero, List.set_cons_succ, ex_spl, ex_low, Option.toList, List.cons_append, List.nil_append, reduceIte, Int.reduceToNat, Nat.reduceDiv, Nat.reduceMod, Nat.reduceAdd, Nat.reduceMul, z_0, z_1, z_10, z_01, reduceCtorEq, ite_true, ite_false, true_and, and_true, ↓bI_01, ↓bP_01, ↓zret0, ↓zret1, z_add, z_sub, z_mul, up_1, up_2, not_true, not_false_iff, if_true, if_false, Bool.true_and, bI_T, bI_F, bP_T, bP_F, or_true, true_or, or_false, false_or, Int.reduceNeg, Int.reduceAdd, Int.reduceSub, Int.reduceMul, Int.reduceEq, Int.reduceLT, Int.reduceLE, Int.natCast_add, Int.cast_ofNat_Int]
          rw [ke_29 kc_3]
          simp (disch := omega) only [this, ev_iload, ev_aload, ev_push, ev_callv, nr_i, nr_r, nr_l, nr_n, rx_lsw, ar_tl, lk_t, lk_f, lks_n, rx_zret_t, rx_zretI, rx_zretP, kb_29_0, kb_29_52, kb_29_57, kb_29_62, kb_29_67, kr_29, List.getD_cons_zero, List.getD_cons_succ, List.set_cons_zero, List.set_cons_succ, ex_spl, ex_low, Option.toList, List.cons_append, List.nil_append, reduceIte, Int.reduceToNat, Nat.reduceDiv, Nat.reduceMod, Nat.reduceAdd, Nat.reduceMul, z_0, z_1, z_10, z_01, reduceCtorEq, ite_true, ite_false, true_and, and_true, ↓bI_01, ↓bP_01, ↓zret0, ↓zret1, z_add, z_sub, z_mul, up_1, up_2, not_true, not_false_iff, if_true, if_false, Bool.true_and, bI_T, bI_F, bP_T, bP_F, or_true, true_or, or_false, false_or, Int.reduceNeg, Int.reduceAdd, Int.reduceSub, Int.reduceMul, Int.reduceEq, Int.reduceLT, Int.reduceLE, Int.natCast_add, Int.cast_ofNat_Int]
      · intro hs
        by_cases hl : l = 1
        · have : ∀ d, ex_cal (d + 1) 30 [.ref 3] w = some (some (.int (Int32.ofInt 0)), w) := by
            intro d
            rw [ke_30 kc_3]
            simp (disch := omega) only [r4, hl, ev_aload, ev_push, rx_zeq_t, rx_zeq_f, ev_getf, ev_putf, nr_i, nr_r, nr_l, nr_n, rx_zret_t, rx_zretI, rx_zretP, kb_30_0, kb_30_9, kr_30, kf_3_131, kk_3_131, List.getD_cons_zero, List.getD_cons_succ, List.set_cons_zero, List.set_cons_succ, ex_spl, ex_low, Option.toList, List.cons_append, List.nil_append, reduceIte, Int.reduceToNat, Nat.reduceDiv, Nat.reduceMod, Nat.reduceAdd, Nat.reduceMul, z_0, z_1, z_10, z_01, reduceCtorEq, ite_true, ite_false, true_and, and_true, ↓bI_01, ↓bP_01, ↓zret0, ↓zret1, z_add, z_sub, z_mul, up_1, up_2, not_true, not_false_iff, if_true, if_false, Bool.true_and, bI_T, bI_F, bP_T, bP_F, or_true, true_or, or_false, false_or, Int.reduceNeg, Int.reduceAdd, Int.reduceSub, Int.reduceMul, Int.reduceEq, Int.reduceLT, Int.reduceLE, Int.natCast_add, Int.cast_ofNat_Int]
          rw [ke_29 kc_3]
          simp (disch := omega) only [this, ev_iload, ev_aload, ev_push, ev_callv, nr_i, nr_r, nr_l, nr_n, rx_lsw, ar_tl, lk_t, lk_f, lks_n, rx_zret_t, rx_zretI, rx_zretP, kb_29_0, kb_29_52, kb_29_57, kb_29_62, kb_29_67, kr_29, List.getD_cons_zero, List.getD_cons_succ, List.set_cons_zero, List.set_cons_succ, ex_spl, ex_low, Option.toList, List.cons_append, List.nil_append, reduceIte, Int.reduceToNat, Nat.reduceDiv, Nat.reduceMod, Nat.reduceAdd, Nat.reduceMul, z_0, z_1, z_10, z_01, reduceCtorEq, ite_true, ite_false, true_and, and_true, ↓bI_01, ↓bP_01, ↓zret0, ↓zret1, z_add, z_sub, z_mul, up_1, up_2, not_true, not_false_iff, if_true, if_false, Bool.true_and, bI_T, bI_F, bP_T, bP_F, or_true, true_or, or_false, false_or, Int.reduceNeg, Int.reduceAdd, Int.reduceSub, Int.reduceMul, Int.reduceEq, Int.reduceLT, Int.reduceLE, Int.natCast_add, Int.cast_ofNat_Int]
        · rw [if_neg hl] at hs; cases hs
    · rw [if_neg hx2]
      by_cases hx3 : x = 47
      · rw [if_pos hx3]
        subst hx3
        constructor
        · intro s' hs
          by_cases hc : l = 1 ∧ r < 3 ∧ (if r = 0 then 1 < c else c = wd)
          · rw [if_pos hc] at hs
            cases hs
            obtain ⟨c1, c2, c3⟩ := hc
            rw [bI_t (show l = 1 ∧ (if r = 0 then 2 ≤ c else c = wd) from ⟨c1, by
              by_cases h0 : r = 0
              · rw [if_pos h0] at c3 ⊢; omega
              · rw [if_neg h0] at c3 ⊢; exact c3⟩)] at hrow
            refine ⟨ex_up (ex_up (ex_up (ex_up w 3 1 (Int32.ofInt c)) 3 0 (Int32.ofInt (r + 1))) 3 2 (Int32.ofInt 0)) 3 3 (Int32.ofInt 0), ?_, ⟨rfl, ?_, rfl, rfl⟩, sO_t (sO_t (sO_t (sO_u _ _ _ _) (sO_u _ _ _ _)) (sO_u _ _ _ _)) (sO_u _ _ _ _)⟩
            · have : ex_cal (d + 2) 31 [.ref 3] w = some (some (.int (Int32.ofInt 1)), ex_up (ex_up (ex_up (ex_up w 3 1 (Int32.ofInt c)) 3 0 (Int32.ofInt (r + 1))) 3 2 (Int32.ofInt 0)) 3 3 (Int32.ofInt 0)) := by
                rw [ke_31 kc_3]
                simp (disch := omega) only [r1, r3, hrow, up_n, up_e, ev_aload, ev_push, ev_iadd, ev_dup_r, ev_dup_i, ev_jsr, rx_ige_t, rx_ige_f, rx_zne_t, rx_zne_f, ev_getf, ev_putf, ev_callv, nr_i, nr_r, nr_l, nr_n, rx_zret_t, rx_zretI, rx_zretP, kb_31_0, kb_31_17, kb_31_19, kr_31, kf_3_128, kf_3_130, kk_3_128, kk_3_129, kk_3_130, kk_3_131, List.getD_cons_zero, List.getD_cons_succ, List.set_cons_zero, List.set_cons_succ, ex_spl, ex_low, Option.toList, List.cons_append, List.nil_append, reduceIte, Int.reduceToNat, Nat.reduceDiv, Nat.reduceMod, Nat.reduceAdd, Nat.reduceMul, z_0, z_1, z_10, z_01, reduceCtorEq, ite_true, ite_false, true_and, and_true, ↓bI_01, ↓bP_01, ↓zret0, ↓zret1, z_add, z_sub, z_mul, up_2, not_true, not_false_iff, if_true, if_false, Bool.true_and, bI_T, bI_F, bP_T, bP_F, or_true, true_or, or_false, false_or, Int.reduceNeg, Int.reduceAdd, Int.reduceSub, Int.reduceMul, Int.reduceEq, Int.reduceLT, Int.reduceLE, Int.natCast_add, Int.cast_ofNat_Int]
              rw [ke_29 kc_3]
              simp (disch := omega) only [this, ev_iload, ev_aload, ev_push, ev_callv, nr_i, nr_r, nr_l, nr_n, rx_lsw, ar_tl, lk_t, lk_f, lks_n, rx_zret_t, rx_zretI, rx_zretP, kb_29_0, kb_29_52, kb_29_57, kb_29_62, kb_29_67, kr_29, List.getD_cons_zero, List.getD_cons_succ, List.set_cons_zero, List.set_cons_succ, ex_spl, ex_low, Option.toList, List.cons_append, List.nil_append, reduceIte, Int.reduceToNat, Nat.reduceDiv, Nat.reduceMod, Nat.reduceAdd, Nat.reduceMul, z_0, z_1, z_10, z_01, reduceCtorEq, ite_true, ite_false, true_and, and_true, ↓bI_01, ↓bP_01, ↓zret0, ↓zret1, z_add, z_sub, z_mul, up_1, up_2, not_true, not_false_iff, if_true, if_false, Bool.true_and, bI_T, bI_F, bP_T, bP_F, or_true, true_or, or_false, false_or, Int.reduceNeg, Int.reduceAdd, Int.reduceSub, Int.reduceMul, Int.reduceEq, Int.reduceLT, Int.reduceLE, Int.natCast_add, Int.cast_ofNat_Int]
            · show Int32.ofInt c = Int32.ofInt (if r + 1 = 0 then -1 else c)
              rw [if_neg (by omega)]
          · rw [if_neg hc] at hs; cases hs
        · intro hs
          by_cases hc : l = 1 ∧ r < 3 ∧ (if r = 0 then 1 < c else c = wd)
          · rw [if_pos hc] at hs; cases hs
          · have : ex_cal (d + 2) 31 [.ref 3] w = some (some (.int (Int32.ofInt 0)), w) := by
              rw [ke_31 kc_3]
              by_cases hr3 : r < 3
              · rw [bI_f (show ¬ (l = 1 ∧ (if r = 0 then 2 ≤ c else c = wd)) from fun h => hc ⟨h.1, hr3, by
                  have := h.2
                  by_cases h0 : r = 0
                  · rw [if_pos h0] at this ⊢; omega
                  · rw [if_neg h0] at this ⊢; exact this⟩)] at hrow
                simp (disch := omega) only [r1, r3, hrow, ev_aload, ev_push, ev_iadd, ev_dup_r, ev_dup_i, ev_jsr, rx_ige_t, rx_ige_f, rx_zne_t, rx_zne_f, ev_getf, ev_putf, ev_callv, nr_i, nr_r, nr_l, nr_n, rx_zret_t, rx_zretI, rx_zretP, kb_31_0, kb_31_17, kb_31_19, kr_31, kf_3_128, kf_3_130, kk_3_128, kk_3_129, kk_3_130, kk_3_131, List.getD_cons_zero, List.getD_cons_succ, List.set_cons_zero, List.set_cons_succ, ex_spl, ex_low, Option.toList, List.cons_append, List.nil_append, reduceIte, Int.reduceToNat, Nat.reduceDiv, Nat.reduceMod, Nat.reduceAdd, Nat.reduceMul, z_0, z_1, z_10, z_01, reduceCtorEq, ite_true, ite_false, true_and, and_true, ↓bI_01, ↓bP_01, ↓zret0, ↓zret1, z_add, z_sub, z_mul, up_1, up_2, not_true, not_false_iff, if_true, if_false, Bool.true_and, bI_T, bI_F, bP_T, bP_F, or_true, true_or, or_false, false_or, Int.reduceNeg, Int.reduceAdd, Int.reduceSub, Int.reduceMul, Int.reduceEq, Int.reduceLT, Int.reduceLE, Int.natCast_add, Int.cast_ofNat_Int]
              · simp (disch := omega) only [r1, r3, ev_aload, ev_push, ev_iadd, ev_dup_r, ev_dup_i, ev_jsr, rx_ige_t, rx_ige_f, rx_zne_t, rx_zne_f, ev_getf, ev_putf, ev_callv, nr_i, nr_r, nr_l, nr_n, rx_zret_t, rx_zretI, rx_zretP, kb_31_0, kb_31_17, kb_31_19, kr_31, kf_3_128, kf_3_130, kk_3_128, kk_3_129, kk_3_130, kk_3_131, List.getD_cons_zero, List.getD_cons_succ, List.set_cons_zero, List.set_cons_succ, ex_spl, ex_low, Option.toList, List.cons_append, List.nil_append, reduceIte, Int.reduceToNat, Nat.reduceDiv, Nat.reduceMod, Nat.reduceAdd, Nat.reduceMul, z_0, z_1, z_10, z_01, reduceCtorEq, ite_true, ite_false, true_and, and_true, ↓bI_01, ↓bP_01, ↓zret0, ↓zret1, z_add, z_sub, z_mul, up_1, up_2, not_true, not_false_iff, if_true, if_false, Bool.true_and, bI_T, bI_F, bP_T, bP_F, or_true, true_or, or_false, false_or, Int.reduceNeg, Int.reduceAdd, Int.reduceSub, Int.reduceMul, Int.reduceEq, Int.reduceLT, Int.reduceLE, Int.natCast_add, Int.cast_ofNat_Int]
            rw [ke_29 kc_3]
            simp (disch := omega) only [this, ev_iload, ev_aload, ev_push, ev_callv, nr_i, nr_r, nr_l, nr_n, rx_lsw, ar_tl, lk_t, lk_f, lks_n, rx_zret_t, rx_zretI, rx_zretP, kb_29_0, kb_29_52, kb_29_57, kb_29_62, kb_29_67, kr_29, List.getD_cons_zero, List.getD_cons_succ, List.set_cons_zero, List.set_cons_succ, ex_spl, ex_low, Option.toList, List.cons_append, List.nil_append, reduceIte, Int.reduceToNat, Nat.reduceDiv, Nat.reduceMod, Nat.reduceAdd, Nat.reduceMul, z_0, z_1, z_10, z_01, reduceCtorEq, ite_true, ite_false, true_and, and_true, ↓bI_01, ↓bP_01, ↓zret0, ↓zret1, z_add, z_sub, z_mul, up_1, up_2, not_true, not_false_iff, if_true, if_false, Bool.true_and, bI_T, bI_F, bP_T, bP_F, or_true, true_or, or_false, false_or, Int.reduceNeg, Int.reduceAdd, Int.reduceSub, Int.reduceMul, Int.reduceEq, Int.reduceLT, Int.reduceLE, Int.natCast_add, Int.cast_ofNat_Int]
      · rw [if_neg hx3]
        refine ⟨fun s' hs => (by cases hs), fun _ => ?_⟩
        rw [ke_29 kc_3]
        simp (disch := omega) only [ev_iload, ev_aload, ev_push, ev_callv, nr_i, nr_r, nr_l, nr_n, rx_lsw, ar_tl, lk_t, lk_f, lks_n, rx_zret_t, rx_zretI, rx_zretP, kb_29_0, kb_29_52, kb_29_57, kb_29_62, kb_29_67, kr_29, List.getD_cons_zero, List.getD_cons_succ, List.set_cons_zero, List.set_cons_succ, ex_spl, ex_low, Option.toList, List.cons_append, List.nil_append, reduceIte, Int.reduceToNat, Nat.reduceDiv, Nat.reduceMod, Nat.reduceAdd, Nat.reduceMul, z_0, z_1, z_10, z_01, reduceCtorEq, ite_true, ite_false, true_and, and_true, ↓bI_01, ↓bP_01, ↓zret0, ↓zret1, z_add, z_sub, z_mul, up_1, up_2, not_true, not_false_iff, if_true, if_false, Bool.true_and, bI_T, bI_F, bP_T, bP_F, or_true, true_or, or_false, false_or, Int.reduceNeg, Int.reduceAdd, Int.reduceSub, Int.reduceMul, Int.reduceEq, Int.reduceLT, Int.reduceLE, Int.natCast_add, Int.cast_ofNat_Int]

