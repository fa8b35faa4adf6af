/-! moves() -/
def q_as1 (A : AS) : AS := fun x y => if x = 0 ∧ y = 9 then A 0 9 + 1 else A x y
theorem m_movesDo {d : Nat} {A : AS} {w : PW} (hV : q_V A) (hC : rC A w) {n m N P U M : Nat} (h1 : q_d1 A n m) (h2 : q_d2 A N P U M) {a b x c y : Int} (hq : q_rsl A n m N P U M a b x c y) : ∃ w2 w3 w4 w5 w6, ∃ f1 f2 f3 : Int, ex_cal (d + 7) 41 [.ref 38, .ref 5, .ref 17, .ref 20] w = some (none, w2) ∧ ex_cal (d + 7) 71 [.ref 41, .ref 5, .ref 20] w2 = some (none, w3) ∧ ex_cal (d + 7) 73 [.ref 41, .ref 38] w3 = some (some (.int (Int32.ofInt f1)), w4) ∧ (f1 = 0 ∨ f1 = 1) ∧ (f2 = 0 ∨ f2 = 1) ∧ (f3 = 0 ∨ f3 = 1) ∧ ex_cal (d + 7) 52 [.ref 38] w4 = some (some (.int (Int32.ofInt f2)), w4) ∧ (f1 = 0 → f2 = 0 → ex_cal (d + 7) 76 [.ref 41, .ref 5, .ref 38] w4 = some (some (.int (Int32.ofInt f3)), w5)) ∧ (f1 = 0 → f2 = 0 → f3 = 0 → ex_cal (d + 7) 78 [.ref 41, .ref 5, .ref 38] w5 = some (none, w6)) ∧ (f1 = 1 → rAn w4 a b x c y) ∧ (f1 = 0 → f2 = 1 → rAn w4 a b x c y) ∧ (f1 = 0 → f2 = 0 → f3 = 1 → rAn w5 a b x c y) ∧ (f1 = 0 → f2 = 0 → f3 = 0 → rAn w6 a b x c y) ∧ (∀ o k, ¬ (38 ≤ o ∧ o < 46) → w4.1 o k = w.1 o k) ∧ (f1 = 0 → f2 = 0 → ∀ o k, ¬ (38 ≤ o ∧ o < 46) → w5.1 o k = w.1 o k) ∧ (f1 = 0 → f2 = 0 → f3 = 0 → ∀ o k, ¬ (38 ≤ o ∧ o < 46) → w6.1 o k = w.1 o k) := by
  have hr := q_rng hV.1
  have hd := hV.2.1
  have hV := hV.1
  obtain ⟨w2, e2, o2, s2, k2⟩ := m_learn (d := d + 1) hV hC
  have hC2 : rC A w2 := rC_cg hC fun o k hk => o2 o k (fun hh => hk (by unfold tC; omega))
  obtain ⟨w3, e3, o3, M3, z3⟩ := m_begin (d := d + 2) hV hC2
  have hC3 : rC A w3 := rC_cg hC2 fun o k hk => o3 o k (fun hh => hk (by unfold tC; omega))
  have hW : q_w0 A w3 := ⟨hC3, rKp_o k2 fun o k hk => o3 o k (by omega), by rw [o3 _ _ (by omega)]; exact s2⟩
  have S3 : sMv A w3 w3 := ⟨M3, ⟨0, by omega, by omega, z3⟩, fun _ _ _ => rfl⟩
  have o13 : ∀ o k, ¬ (38 ≤ o ∧ o < 46) → w3.1 o k = w.1 o k := fun o k hk => (o3 o k (by omega)).trans (o2 o k (by omega))
  obtain ⟨w4, e4, S4, a4⟩ := m_byNone (d := d + 2) hV hW S3
  have hW4 := q_w0_f hW S4.2.2
  have ehp := m_hopeless (d := d + 5) hV.2.2.2.2.2.1 hW4.2.1 hW4.2.2
  have o14 : ∀ o k, ¬ (38 ≤ o ∧ o < 46) → w4.1 o k = w.1 o k := fun o k hk => (S4.2.2 o k (by omega)).trans (o13 o k hk)
  rw [bP_c (q_ka_akp hV hd)] at e4
  obtain ⟨h11, h12, h13⟩ := h1
  obtain ⟨h21, h22, h23⟩ := h2
  have hf2 : ∃ f2 : Int, bP (q_hpl A) = Int32.ofInt f2 ∧ (f2 = 0 ∨ f2 = 1) ∧ (f2 = 1 → q_hpl A) ∧ (f2 = 0 → ¬ q_hpl A) := by
    by_cases hh : q_hpl A
    · exact ⟨1, bP_t hh, Or.inr rfl, fun _ => hh, fun h => absurd h (by omega)⟩
    · exact ⟨0, bP_f hh, Or.inl rfl, fun h => absurd h (by omega), fun _ => hh⟩
  obtain ⟨f2, ef2, f2r, f2t, f2f⟩ := hf2
  rw [ef2] at ehp
  have n1 : ∀ t : Int, 0 ≤ t → t < n → ∀ i : Int, 0 ≤ i → i < 96 → ¬ q_D A t i := fun t t0 t1 i i0 i1 hD => h12 t t0 t1 i i0 i1 ((q_DO1 hV hd t0 (by omega) i0).1 hD)
  have y1 : (n : Int) < A 0 5 → m < 96 ∧ q_D A n m ∧ ∀ i : Int, 0 ≤ i → i < m → ¬ q_D A n i := fun hl => by
    obtain ⟨g1, g2, g3⟩ := h13 hl
    exact ⟨g1, (q_DO1 hV hd (by omega) hl (by omega)).2 g2, fun i i0 i1 hD => g3 i i0 i1 ((q_DO1 hV hd (by omega) hl i0).1 hD)⟩
  obtain ⟨w5, e5, o5, a5, s5⟩ := m_byOne (d := d + 1) hV hW S4 h11 n1 y1
  have o15 : ∀ o k, ¬ (38 ≤ o ∧ o < 46) → w5.1 o k = w.1 o k := fun o k hk => (o5 o k (by omega)).trans (o13 o k hk)
  have n2 : ∀ t : Int, 0 ≤ t → t < N → ∀ i : Int, 0 ≤ i → i < 96 → ¬ q_R A t i := fun t t0 t1 i i0 i1 hD => h22 t t0 t1 i i0 i1 ((q_R12 hV hd t0 (by omega)).1 hD)
  have y2 : (N : Int) < A 0 5 → P < 96 ∧ (∀ i : Int, 0 ≤ i → i < P → ¬ q_R A N i) ∧ q_ip A N P ∧ (N : Int) < (U : Int) ∧ (U : Int) < A 0 5 ∧ (∀ u : Int, (N : Int) < u → u < U → ¬ q_W (q_mv A N ((P : Int) / 4) ((P : Int) % 4)) N u) ∧ q_di2 (q_mv A N ((P : Int) / 4) ((P : Int) % 4)) N U ∧ M < 96 ∧ q_D (q_mv A N ((P : Int) / 4) ((P : Int) % 4)) U M ∧ ∀ i : Int, 0 ≤ i → i < M → ¬ q_D (q_mv A N ((P : Int) / 4) ((P : Int) % 4)) U i := fun hl => by
    obtain ⟨g1, g2, g3, g4, g5, g6, g7, g8, g9⟩ := h23 hl
    have hk := q_DO2 hV hd (by omega) hl g3 g4 g5
    have hk8 := (hk M (by omega)).2 g8
    refine ⟨g1, fun i i0 i1 hD => g2 i i0 i1 ((q_R12 hV hd (by omega) hl).1 hD), g3, g4, g5, fun u u0 u1 hw => ?_, hk8.1, g7, hk8.2, fun i i0 i1 hD => g9 i i0 i1 ((hk i i0).1 ⟨hk8.1, hD⟩)⟩
    obtain ⟨i, i0, i1, hO⟩ := (q_W2 hV hd (by omega) hl g3 u0 (by omega)).1 hw
    exact g6 u u0 u1 i i0 i1 hO
  by_cases hk : q_akp A
  · rw [bP_t hk] at e4
    rw [q_if_t ((q_ka_akp hV hd).2 hk)] at a4
    refine ⟨w2, w3, w4, w4, w4, 1, f2, 0, e2, e3, e4, Or.inr rfl, f2r, Or.inl rfl, ehp, fun h => absurd h (by omega), fun h => absurd h (by omega), fun _ => ?_, fun h => absurd h (by omega), fun h => absurd h (by omega), fun h => absurd h (by omega), o14, fun h => absurd h (by omega), fun h => absurd h (by omega)⟩
    rcases hq with ⟨-, rfl, rfl, rfl, rfl, rfl⟩ | ⟨h, -⟩ | ⟨h, -⟩ | ⟨h, -⟩
    · exact a4
    · exact absurd hk h
    · exact absurd hk h
    · exact absurd hk h
  · rw [bP_f hk] at e4
    rw [q_if_f (fun h => hk ((q_ka_akp hV hd).1 h))] at a4
    have hopn : f2 = 1 → ¬ (n : Int) < A 0 5 ∧ ¬ (N : Int) < A 0 5 := fun hf => by
      have hh := f2t hf
      refine ⟨fun hl => ?_, fun hl => ?_⟩
      · exact q_hpl1 hV hd hh (by omega) hl (by omega) (h13 hl).2.1
      · obtain ⟨g1, g2, g3, g4, g5, g6, g7, g8, g9⟩ := h23 hl
        exact q_hpl2 hV hd hh (by omega) hl (p := P) ⟨g3, U, g4, g5, M, by omega, by omega, g8⟩
    by_cases hl : (n : Int) < A 0 5
    · rw [if_pos hl] at e5
      have a5 := a5 hl
      have hf0 : f2 = 0 := by
        rcases f2r with h | h
        · exact h
        · exact absurd hl (hopn h).1
      refine ⟨w2, w3, w4, w5, w5, 0, f2, 1, e2, e3, e4, Or.inl rfl, f2r, Or.inr rfl, ehp, fun _ _ => e5, fun _ _ h => absurd h (by omega), fun h => absurd h (by omega), fun _ h => absurd h (by omega), fun _ _ _ => ?_, fun _ _ h => absurd h (by omega), o14, fun _ _ => o15, fun _ _ h => absurd h (by omega)⟩
      rcases hq with ⟨h, -⟩ | ⟨-, -, rfl, rfl, rfl, rfl, rfl⟩ | ⟨-, h, -⟩ | ⟨-, h, -⟩
      · exact absurd h hk
      · exact a5
      · exact absurd hl h
      · exact absurd hl h
    · rw [if_neg hl] at e5
      obtain ⟨S5, a5'⟩ := s5 hl
      obtain ⟨w6, e6, o6, a6, s6⟩ := m_two (d := d) hV hW S5 h21 n2 y2
      have o16 : ∀ o k, ¬ (38 ≤ o ∧ o < 46) → w6.1 o k = w.1 o k := fun o k hk => (o6 o k (by omega)).trans (o13 o k hk)
      refine ⟨w2, w3, w4, w5, w6, 0, f2, 0, e2, e3, e4, Or.inl rfl, f2r, Or.inl rfl, ehp, fun _ _ => e5, fun _ _ _ => e6, fun h => absurd h (by omega), fun _ hf => ?_, fun _ _ h => absurd h (by omega), fun _ _ _ => ?_, o14, fun _ _ => o15, fun _ _ _ => o16⟩
      · have hno := (hopn hf).2
        rcases hq with ⟨h, -⟩ | ⟨-, h, -⟩ | ⟨-, -, h, -⟩ | ⟨-, -, -, rfl, rfl, rfl, rfl, rfl⟩
        · exact absurd h hk
        · exact absurd h hl
        · exact absurd h hno
        · exact a4
      · rcases hq with ⟨h, -⟩ | ⟨-, h, -⟩ | ⟨-, -, h, rfl, rfl, rfl, rfl, rfl⟩ | ⟨-, -, h, rfl, rfl, rfl, rfl, rfl⟩
        · exact absurd h hk
        · exact absurd h hl
        · exact a6 h
        · have s6 := s6 h
          obtain ⟨b0, b1, b2, b3, b4⟩ := a4
          exact ⟨by rw [s6, a5']; exact b0, by rw [s6, a5']; exact b1, by rw [s6, a5']; exact b2, by rw [s6, a5']; exact b3, by rw [s6, a5']; exact b4⟩
/-- what the reference's find() leaves -/
def rFd (w : PW) (a b x c y : Int) : Prop := w.1 46 52 = Int32.ofInt a ∧ w.1 46 53 = Int32.ofInt b ∧ w.1 46 54 = Int32.ofInt x ∧ w.1 46 55 = Int32.ofInt c ∧ w.1 46 56 = Int32.ofInt y
theorem r_find {d : Nat} {A : AS} {w : PW} (hV : q_V A) (hM : rN A 0 w) {n m N P U M : Nat} (h1 : q_d1 A n m) (h2 : q_d2 A N P U M) {a b x c y : Int} (hq : q_rsl A n m N P U M a b x c y) : ∃ w', ∃ f a' : Int, ex_cal (d + 15) 219 [.ref 46] w = some (some (.int (Int32.ofInt f)), w') ∧ rN A 0 w' ∧ rFd w' a' b x c y ∧ ((f = 1 ∧ a' = a) ∨ (f = 0 ∧ a = -1)) ∧ ∀ o k, ¬ (55 ≤ o ∧ o < 58) → o < 67 → ¬ (o = 46 ∧ 52 ≤ k ∧ k < 57) → w'.1 o k = w.1 o k := by
  have hd := hV.2.1
  have hV := hV.1
  generalize hw1 : ex_up (ex_up (ex_up (ex_up (ex_up w 46 52 (Int32.ofInt 0)) 46 53 (Int32.ofInt (-1))) 46 54 (Int32.ofInt (-1))) 46 55 (Int32.ofInt (-1))) 46 56 (Int32.ofInt (-1)) = w1
  have M1 : rN A 0 w1 := by rw [← hw1]; exact rN_56 (rN_56 (rN_56 (rN_56 (rN_56 hM (by omega)) (by omega)) (by omega)) (by omega)) (by omega)
  have F1 : rFd w1 0 (-1) (-1) (-1) (-1) := by rw [← hw1]; exact ⟨rfl, rfl, rfl, rfl, rfl⟩
  have o1 : ∀ o k, ¬ (o = 46 ∧ 52 ≤ k ∧ k < 57) → w1.1 o k = w.1 o k := by
    intro o k hk
    rw [← hw1, up_n (by omega), up_n (by omega), up_n (by omega), up_n (by omega), up_n (by omega)]
  obtain ⟨w2, e2, o2⟩ := r_areAllKept (d := d + 2) hV M1
  have M2 := rN_q M1 o2
  have F2 : rFd w2 0 (-1) (-1) (-1) (-1) := ⟨by rw [o2 _ _ (by omega)]; exact F1.1, by rw [o2 _ _ (by omega)]; exact F1.2.1, by rw [o2 _ _ (by omega)]; exact F1.2.2.1, by rw [o2 _ _ (by omega)]; exact F1.2.2.2.1, by rw [o2 _ _ (by omega)]; exact F1.2.2.2.2⟩
  have o12 : ∀ o k, o < 67 → ¬ (o = 46 ∧ 52 ≤ k ∧ k < 57) → w2.1 o k = w.1 o k := fun o k h1 h2 => (o2 o k (by omega)).trans (o1 o k h2)
  by_cases hk : q_akp A
  · rw [bP_t hk] at e2
    have ha : a = 0 ∧ b = -1 ∧ x = -1 ∧ c = -1 ∧ y = -1 := by
      rcases hq with ⟨-, h⟩ | ⟨h, -⟩ | ⟨h, -⟩ | ⟨h, -⟩
      · exact h
      · exact absurd hk h
      · exact absurd hk h
      · exact absurd hk h
    obtain ⟨rfl, rfl, rfl, rfl, rfl⟩ := ha
    refine ⟨w2, 1, 0, ?_, M2, F2, Or.inl ⟨rfl, rfl⟩, fun o k g1 g2 g3 => o12 o k g2 g3⟩
    rw [ke_219 kc_46]
    simp (disch := omega) only [hw1, e2, ev_aload, ev_push, ev_goto, ev_jsr, rx_zeq_t, rx_zeq_f, rx_zne_t, rx_zne_f, ev_putf, ev_putl, ev_callv, nr_i, nr_r, nr_l, nr_n, rx_zret_t, rx_zretI, rx_zretP, kb_219_0, kb_219_46, kb_219_50, kb_219_51, kr_219, kk_46_756, kk_46_757, kk_46_758, kk_46_759, kk_46_760, List.getD_cons_zero, List.getD_cons_succ, List.set_cons_zero, List.set_cons_succ, ex_spl, ex_low, Option.toList, List.cons_append, List.nil_append, reduceIte, Int.reduceToNat, Nat.reduceDiv, Nat.reduceMod, Nat.reduceAdd, Nat.reduceMul, z_0, z_1, z_10, z_01, reduceCtorEq, ite_true, ite_false, true_and, and_true, ↓bI_01, ↓bP_01, ↓zret0, ↓zret1, z_add, z_sub, z_mul, up_1, up_2, not_true, not_false_iff, if_true, if_false, bI_T, bI_F, bP_T, bP_F, or_true, true_or, or_false, false_or, Int.reduceNeg, Int.reduceAdd, Int.reduceSub, Int.reduceMul, Int.reduceEq, Int.reduceLT, Int.reduceLE, Int.natCast_add, Int.cast_ofNat_Int]
  · rw [bP_f hk] at e2
    obtain ⟨h11, h12, h13⟩ := h1
    obtain ⟨h21, h22, h23⟩ := h2
    rcases r_one (d := d + 1) hV M2 h11 h12 h13 with ⟨hl, w3, e3, M3, o3⟩ | ⟨hl, w3, e3, M3, o3⟩
    · have ha : a = 1 ∧ b = n ∧ x = m ∧ c = -1 ∧ y = -1 := by
        rcases hq with ⟨h, -⟩ | ⟨-, -, h⟩ | ⟨-, h, -⟩ | ⟨-, h, -⟩
        · exact absurd h hk
        · exact h
        · exact absurd hl h
        · exact absurd hl h
      obtain ⟨rfl, rfl, rfl, rfl, rfl⟩ := ha
      refine ⟨ex_up (ex_up (ex_up w3 46 52 (Int32.ofInt 1)) 46 53 (Int32.ofInt (n : Int))) 46 54 (Int32.ofInt (m : Int)), 1, 1, ?_, rN_56 (rN_56 (rN_56 M3 (by omega)) (by omega)) (by omega), ⟨rfl, rfl, rfl, ?_, ?_⟩, Or.inl ⟨rfl, rfl⟩, fun o k g1 g2 g3 => ?_⟩
      · rw [ke_219 kc_46]
        simp (disch := omega) only [hw1, e2, e3, ev_aload, ev_push, ev_goto, ev_jsr, rx_zeq_t, rx_zeq_f, rx_zne_t, rx_zne_f, ev_putf, ev_putl, ev_callv, nr_i, nr_r, nr_l, nr_n, rx_zret_t, rx_zretI, rx_zretP, kb_219_0, kb_219_46, kb_219_50, kb_219_51, kr_219, kk_46_756, kk_46_757, kk_46_758, kk_46_759, kk_46_760, List.getD_cons_zero, List.getD_cons_succ, List.set_cons_zero, List.set_cons_succ, ex_spl, ex_low, Option.toList, List.cons_append, List.nil_append, reduceIte, Int.reduceToNat, Nat.reduceDiv, Nat.reduceMod, Nat.reduceAdd, Nat.reduceMul, z_0, z_1, z_10, z_01, reduceCtorEq, ite_true, ite_false, true_and, and_true, ↓bI_01, ↓bP_01, ↓zret0, ↓zret1, z_add, z_sub, z_mul, up_1, up_2, not_true, not_false_iff, if_true, if_false, bI_T, bI_F, bP_T, bP_F, or_true, true_or, or_false, false_or, Int.reduceNeg, Int.reduceAdd, Int.reduceSub, Int.reduceMul, Int.reduceEq, Int.reduceLT, Int.reduceLE, Int.natCast_add, Int.cast_ofNat_Int]
      · rw [up_n (by omega), up_n (by omega), up_n (by omega), o3 _ _ (by omega) (by omega)]; exact F2.2.2.2.1
      · rw [up_n (by omega), up_n (by omega), up_n (by omega), o3 _ _ (by omega) (by omega)]; exact F2.2.2.2.2
      · rw [up_n (by omega), up_n (by omega), up_n (by omega), o3 _ _ g1 (by omega)]; exact o12 o k g2 g3
    · have F3 : rFd w3 0 (-1) (-1) (-1) (-1) := ⟨by rw [o3 _ _ (by omega) (by omega)]; exact F2.1, by rw [o3 _ _ (by omega) (by omega)]; exact F2.2.1, by rw [o3 _ _ (by omega) (by omega)]; exact F2.2.2.1, by rw [o3 _ _ (by omega) (by omega)]; exact F2.2.2.2.1, by rw [o3 _ _ (by omega) (by omega)]; exact F2.2.2.2.2⟩
      rcases r_two (d := d) hV M3 h21 h22 h23 with ⟨hl2, w4, e4, M4, k1, k2, o4⟩ | ⟨hl2, w4, e4, M4, o4⟩
      · have ha : a = 2 ∧ b = N ∧ x = P ∧ c = U ∧ y = M := by
          rcases hq with ⟨h, -⟩ | ⟨-, h, -⟩ | ⟨-, -, -, h⟩ | ⟨-, -, h, -⟩
          · exact absurd h hk
          · exact absurd h hl
          · exact h
          · exact absurd hl2 h
        obtain ⟨rfl, rfl, rfl, rfl, rfl⟩ := ha
        refine ⟨ex_up (ex_up (ex_up w4 46 52 (Int32.ofInt 2)) 46 53 (Int32.ofInt (N : Int))) 46 54 (Int32.ofInt (P : Int)), 1, 2, ?_, rN_56 (rN_56 (rN_56 M4 (by omega)) (by omega)) (by omega), ⟨rfl, rfl, rfl, ?_, ?_⟩, Or.inl ⟨rfl, rfl⟩, fun o k g1 g2 g3 => ?_⟩
        · rw [ke_219 kc_46]
          simp (disch := omega) only [hw1, e2, e3, e4, ev_aload, ev_push, ev_goto, ev_jsr, rx_zeq_t, rx_zeq_f, rx_zne_t, rx_zne_f, ev_putf, ev_putl, ev_callv, nr_i, nr_r, nr_l, nr_n, rx_zret_t, rx_zretI, rx_zretP, kb_219_0, kb_219_46, kb_219_50, kb_219_51, kr_219, kk_46_756, kk_46_757, kk_46_758, kk_46_759, kk_46_760, List.getD_cons_zero, List.getD_cons_succ, List.set_cons_zero, List.set_cons_succ, ex_spl, ex_low, Option.toList, List.cons_append, List.nil_append, reduceIte, Int.reduceToNat, Nat.reduceDiv, Nat.reduceMod, Nat.reduceAdd, Nat.reduceMul, z_0, z_1, z_10, z_01, reduceCtorEq, ite_true, ite_false, true_and, and_true, ↓bI_01, ↓bP_01, ↓zret0, ↓zret1, z_add, z_sub, z_mul, up_1, up_2, not_true, not_false_iff, if_true, if_false, bI_T, bI_F, bP_T, bP_F, or_true, true_or, or_false, false_or, Int.reduceNeg, Int.reduceAdd, Int.reduceSub, Int.reduceMul, Int.reduceEq, Int.reduceLT, Int.reduceLE, Int.natCast_add, Int.cast_ofNat_Int]
        · rw [up_n (by omega), up_n (by omega), up_n (by omega)]; exact k1
        · rw [up_n (by omega), up_n (by omega), up_n (by omega)]; exact k2
        · rw [up_n (by omega), up_n (by omega), up_n (by omega), o4 _ _ g1 (by omega) (by omega), o3 _ _ g1 (by omega)]; exact o12 o k g2 g3
      · have ha : a = -1 ∧ b = -1 ∧ x = -1 ∧ c = -1 ∧ y = -1 := by
          rcases hq with ⟨h, -⟩ | ⟨-, h, -⟩ | ⟨-, -, h, -⟩ | ⟨-, -, -, h⟩
          · exact absurd h hk
          · exact absurd h hl
          · exact absurd h hl2
          · exact h
        obtain ⟨rfl, rfl, rfl, rfl, rfl⟩ := ha
        refine ⟨w4, 0, 0, ?_, M4, ⟨?_, ?_, ?_, ?_, ?_⟩, Or.inr ⟨rfl, rfl⟩, fun o k g1 g2 g3 => ?_⟩
        · rw [ke_219 kc_46]
          simp (disch := omega) only [hw1, e2, e3, e4, ev_aload, ev_push, ev_goto, ev_jsr, rx_zeq_t, rx_zeq_f, rx_zne_t, rx_zne_f, ev_putf, ev_putl, ev_callv, nr_i, nr_r, nr_l, nr_n, rx_zret_t, rx_zretI, rx_zretP, kb_219_0, kb_219_46, kb_219_50, kb_219_51, kr_219, kk_46_756, kk_46_757, kk_46_758, kk_46_759, kk_46_760, List.getD_cons_zero, List.getD_cons_succ, List.set_cons_zero, List.set_cons_succ, ex_spl, ex_low, Option.toList, List.cons_append, List.nil_append, reduceIte, Int.reduceToNat, Nat.reduceDiv, Nat.reduceMod, Nat.reduceAdd, Nat.reduceMul, z_0, z_1, z_10, z_01, reduceCtorEq, ite_true, ite_false, true_and, and_true, ↓bI_01, ↓bP_01, ↓zret0, ↓zret1, z_add, z_sub, z_mul, up_1, up_2, not_true, not_false_iff, if_true, if_false, bI_T, bI_F, bP_T, bP_F, or_true, true_or, or_false, false_or, Int.reduceNeg, Int.reduceAdd, Int.reduceSub, Int.reduceMul, Int.reduceEq, Int.reduceLT, Int.reduceLE, Int.natCast_add, Int.cast_ofNat_Int]
        · rw [o4 _ _ (by omega) (by omega)]; exact F3.1
        · rw [o4 _ _ (by omega) (by omega)]; exact F3.2.1
        · rw [o4 _ _ (by omega) (by omega)]; exact F3.2.2.1
        · rw [o4 _ _ (by omega) (by omega)]; exact F3.2.2.2.1
        · rw [o4 _ _ (by omega) (by omega)]; exact F3.2.2.2.2
        · rw [o4 _ _ g1 (by omega), o3 _ _ g1 (by omega)]; exact o12 o k g2 g3
theorem g_moves {A : AS} (hV : q_V A) {k : Int} (k0 : -2147483648 ≤ k) (k1 : k < 2147483648) : q_both A 118 220 [.int (Int32.ofInt k)] := by
  have hr := q_rng hV.1
  have hh := q_hh hV.1.1
  by_cases hz : 0 < A 0 2
  · by_cases hkr : 0 ≤ k ∧ k < 5
    · by_cases h9 : A 0 9 < 12
      · obtain ⟨⟨v1', v2, v3, v4, v5, v6, v7, v8, v9, v10⟩, vd, vi⟩ := id hV
        have hV' : q_V (q_as1 A) := ⟨⟨v1', v2, v3, v4, v5, v6, v7, by show 0 ≤ A 0 9 + 1; omega, by show A 0 9 + 1 ≤ 12; omega, v10⟩, vd, vi⟩
        obtain ⟨n, m, h1⟩ := q_d1_ex (A := q_as1 A) (by show 0 ≤ A 0 5; omega)
        obtain ⟨N, P, U, M, h2⟩ := q_d2_ex (A := q_as1 A) (by show 0 ≤ A 0 5; omega)
        obtain ⟨a, b, x, c, y, hq⟩ := q_rsl_ex (q_as1 A) n m N P U M
        refine ⟨.int (Int32.ofInt (q_nth k a b x c y)), q_as1 A, hV', fun d w hC => ?_, fun d w hM => ?_, by show A 0 2 ≤ A 0 2 + 1; omega⟩
        · have hth := fun d => m_there2 (d := d) hV.1.1 hC
          rw [bI_t hz] at hth
          obtain ⟨⟨⟨⟨h511, h512, h513⟩, ⟨hk, hro, hco, hli⟩⟩, ⟨hbe, hah, hbs, hos⟩⟩, hdo, ⟨h010, h011, h09, h11⟩, hpc, ht18, ht21, ht23, ht25, ht27, ht30, ht32, ht34, ht36⟩ := id hC
          have hC1 : rC (q_as1 A) (ex_up w 0 11 (Int32.ofInt (A 0 9 + 1))) := ⟨hC.1, hC.2.1, ⟨h010, rfl, h09, h11⟩, hpc, ht18, ht21, ht23, ht25, ht27, ht30, ht32, ht34, ht36⟩
          obtain ⟨w2, w3, w4, w5, w6, f1, f2, f3, e2, e3, e4, r1, r2, r3, e5, e6, e7, a1, a2, a3, a4, p4, p5, p6⟩ := m_movesDo (d := d + 8) hV' hC1 h1 h2 hq
          have fin : ∀ wf : PW, rAn wf a b x c y → (∀ o k, ¬ (38 ≤ o ∧ o < 46) → wf.1 o k = (ex_up w 0 11 (Int32.ofInt (A 0 9 + 1))).1 o k) → ex_cal (d + 16) 118 [.ref 0, .int (Int32.ofInt k)] w = some (some (.int (Int32.ofInt (q_nth k a b x c y))), wf) → ∃ w', ex_cal (d + 16) 118 [.ref 0, .int (Int32.ofInt k)] w = some (some (.int (Int32.ofInt (q_nth k a b x c y))), w') ∧ rC (q_as1 A) w' ∧ fC w w' := by
            intro wf _ pf ef
            refine ⟨wf, ef, rC_cg hC1 fun o k hk => pf o k (fun hh => hk (by unfold tC; omega)), fun o k ho => ?_⟩
            rw [pf o k (by omega), up_n (by omega)]
          rcases r1 with q1 | q1
          · rcases r2 with q2 | q2
            · rcases r3 with q3 | q3
              · have et := m_mtold (d := d + 13) (a4 q1 q2 q3) hkr.1 hkr.2
                refine fin w6 (a4 q1 q2 q3) (p6 q1 q2 q3) ?_
                have e6 := e6 q1 q2
                have e7 := e7 q1 q2 q3
                subst q1 q2 q3
                rw [ke_118 kc_0]
                simp (disch := omega) only [hth, m_below, bI_t, bI_f, h011, e2, e3, e4, e5, e6, e7, et, ev_iload, ev_aload, ev_push, ev_iadd, ev_dup_r, ev_dup_i, ev_jsr, rx_ilt_t, rx_ilt_f, rx_zne_t, rx_zne_f, ev_getf, ev_putf, ev_putl, ev_call, ev_callv, nr_i, nr_r, nr_l, nr_n, rx_iret, kb_118_0, kb_118_13, kb_118_24, kb_118_36, kb_118_137, kr_118, kf_0_643, kf_0_644, kf_0_645, kf_0_647, kf_0_648, kf_0_651, kk_0_651, List.getD_cons_zero, List.getD_cons_succ, List.set_cons_zero, List.set_cons_succ, ex_spl, ex_low, Option.toList, List.cons_append, List.nil_append, reduceIte, Int.reduceToNat, Nat.reduceDiv, Nat.reduceMod, Nat.reduceAdd, Nat.reduceMul, z_0, z_1, z_10, z_01, reduceCtorEq, ite_true, ite_false, true_and, and_true, ↓bI_01, ↓bP_01, ↓zret0, ↓zret1, z_add, z_sub, z_mul, up_1, up_2, not_true, not_false_iff, if_true, if_false, bI_T, bI_F, bP_T, bP_F, or_true, true_or, or_false, false_or, Int.reduceNeg, Int.reduceAdd, Int.reduceSub, Int.reduceMul, Int.reduceEq, Int.reduceLT, Int.reduceLE, Int.natCast_add, Int.cast_ofNat_Int]
              · have et := m_mtold (d := d + 13) (a3 q1 q2 q3) hkr.1 hkr.2
                refine fin w5 (a3 q1 q2 q3) (p5 q1 q2) ?_
                have e6 := e6 q1 q2
                subst q1 q2 q3
                rw [ke_118 kc_0]
                simp (disch := omega) only [hth, m_below, bI_t, bI_f, h011, e2, e3, e4, e5, e6, et, ev_iload, ev_aload, ev_push, ev_iadd, ev_dup_r, ev_dup_i, ev_jsr, rx_ilt_t, rx_ilt_f, rx_zne_t, rx_zne_f, ev_getf, ev_putf, ev_putl, ev_call, ev_callv, nr_i, nr_r, nr_l, nr_n, rx_iret, kb_118_0, kb_118_13, kb_118_24, kb_118_36, kb_118_137, kr_118, kf_0_643, kf_0_644, kf_0_645, kf_0_647, kf_0_648, kf_0_651, kk_0_651, List.getD_cons_zero, List.getD_cons_succ, List.set_cons_zero, List.set_cons_succ, ex_spl, ex_low, Option.toList, List.cons_append, List.nil_append, reduceIte, Int.reduceToNat, Nat.reduceDiv, Nat.reduceMod, Nat.reduceAdd, Nat.reduceMul, z_0, z_1, z_10, z_01, reduceCtorEq, ite_true, ite_false, true_and, and_true, ↓bI_01, ↓bP_01, ↓zret0, ↓zret1, z_add, z_sub, z_mul, up_1, up_2, not_true, not_false_iff, if_true, if_false, bI_T, bI_F, bP_T, bP_F, or_true, true_or, or_false, false_or, Int.reduceNeg, Int.reduceAdd, Int.reduceSub, Int.reduceMul, Int.reduceEq, Int.reduceLT, Int.reduceLE, Int.natCast_add, Int.cast_ofNat_Int]
            · have et := m_mtold (d := d + 13) (a2 q1 q2) hkr.1 hkr.2
              refine fin w4 (a2 q1 q2) p4 ?_
              subst q1 q2
              rw [ke_118 kc_0]
              simp (disch := omega) only [hth, m_below, bI_t, bI_f, h011, e2, e3, e4, e5, et, ev_iload, ev_aload, ev_push, ev_iadd, ev_dup_r, ev_dup_i, ev_jsr, rx_ilt_t, rx_ilt_f, rx_zne_t, rx_zne_f, ev_getf, ev_putf, ev_putl, ev_call, ev_callv, nr_i, nr_r, nr_l, nr_n, rx_iret, kb_118_0, kb_118_13, kb_118_24, kb_118_36, kb_118_137, kr_118, kf_0_643, kf_0_644, kf_0_645, kf_0_647, kf_0_648, kf_0_651, kk_0_651, List.getD_cons_zero, List.getD_cons_succ, List.set_cons_zero, List.set_cons_succ, ex_spl, ex_low, Option.toList, List.cons_append, List.nil_append, reduceIte, Int.reduceToNat, Nat.reduceDiv, Nat.reduceMod, Nat.reduceAdd, Nat.reduceMul, z_0, z_1, z_10, z_01, reduceCtorEq, ite_true, ite_false, true_and, and_true, ↓bI_01, ↓bP_01, ↓zret0, ↓zret1, z_add, z_sub, z_mul, up_1, up_2, not_true, not_false_iff, if_true, if_false, bI_T, bI_F, bP_T, bP_F, or_true, true_or, or_false, false_or, Int.reduceNeg, Int.reduceAdd, Int.reduceSub, Int.reduceMul, Int.reduceEq, Int.reduceLT, Int.reduceLE, Int.natCast_add, Int.cast_ofNat_Int]
          · have et := m_mtold (d := d + 13) (a1 q1) hkr.1 hkr.2
            refine fin w4 (a1 q1) p4 ?_
            subst q1
            rw [ke_118 kc_0]
            simp (disch := omega) only [hth, m_below, bI_t, bI_f, h011, e2, e3, e4, et, ev_iload, ev_aload, ev_push, ev_iadd, ev_dup_r, ev_dup_i, ev_jsr, rx_ilt_t, rx_ilt_f, rx_zne_t, rx_zne_f, ev_getf, ev_putf, ev_putl, ev_call, ev_callv, nr_i, nr_r, nr_l, nr_n, rx_iret, kb_118_0, kb_118_13, kb_118_24, kb_118_36, kb_118_137, kr_118, kf_0_643, kf_0_644, kf_0_645, kf_0_647, kf_0_648, kf_0_651, kk_0_651, List.getD_cons_zero, List.getD_cons_succ, List.set_cons_zero, List.set_cons_succ, ex_spl, ex_low, Option.toList, List.cons_append, List.nil_append, reduceIte, Int.reduceToNat, Nat.reduceDiv, Nat.reduceMod, Nat.reduceAdd, Nat.reduceMul, z_0, z_1, z_10, z_01, reduceCtorEq, ite_true, ite_false, true_and, and_true, ↓bI_01, ↓bP_01, ↓zret0, ↓zret1, z_add, z_sub, z_mul, up_1, up_2, not_true, not_false_iff, if_true, if_false, bI_T, bI_F, bP_T, bP_F, or_true, true_or, or_false, false_or, Int.reduceNeg, Int.reduceAdd, Int.reduceSub, Int.reduceMul, Int.reduceEq, Int.reduceLT, Int.reduceLE, Int.natCast_add, Int.cast_ofNat_Int]
        · obtain ⟨hM, hMk⟩ := hM
          have hMM := hM
          obtain ⟨⟨g0, g1, g2, g5, g11, g13, g17, g20, g23, g24, g49⟩, ⟨gk, gl⟩, ⟨gs, ga, gf, gt, gn⟩, ⟨gtk, gtc, gtw⟩, ge, ⟨gba, gbh⟩, ⟨gjc, gjs⟩, gp⟩ := id hM
          have hM1 : rN (q_as1 A) 0 (ex_up w 46 23 (Int32.ofInt (A 0 9 + 1))) := ⟨⟨g0, g1, g2, g5, g11, g13, g17, g20, rfl, g24, g49⟩, ⟨gk, gl⟩, ⟨gs, ga, gf, gt, gn⟩, ⟨gtk, gtc, gtw⟩, ge, ⟨gba, gbh⟩, ⟨gjc, gjs⟩, gp⟩
          obtain ⟨w2, f, a', e2, M2, F2, hfa, o2⟩ := r_find (d := d) hV' hM1 h1 h2 hq
          refine ⟨w2, ?_, ⟨M2, rMk_g (A := A) hMk (fun k q1 q2 => ?_) (fun o k q1 q2 => ?_)⟩, fun o k ho => ?_⟩
          · obtain ⟨b0, b1, b2, b3, b4⟩ := F2
            have hkk : k = 0 ∨ k = 1 ∨ k = 2 ∨ k = 3 ∨ k = 4 := by omega
            have hf01 : f = 0 ∨ f = 1 := by omega
            rw [ke_220 kc_46]
            rcases hkk with e | e | e | e | e <;> subst e
            · show _ = some (some (Value.int (Int32.ofInt a)), w2)
              rcases hfa with ⟨rfl, rfl⟩ | ⟨rfl, rfl⟩
              · simp (disch := omega) only [g2, g23, r_within, bP_t, bP_f, e2, b0, ev_iload, ev_aload, rx_istore, ev_push, ev_iadd, ev_dup_r, ev_dup_i, ev_goto, ev_jsr, rx_ine_t, rx_ine_f, rx_zeq_t, rx_zeq_f, rx_zne_t, rx_zne_f, ev_getf, ev_putf, ev_putl, ev_call, ev_callv, nr_i, nr_r, nr_l, nr_n, rx_tsw, rx_tsd, ar_tl, Int.reduceSub, rx_iret, kb_220_0, kb_220_10, kb_220_22, kb_220_34, kb_220_80, kb_220_91, kb_220_92, kb_220_93, kb_220_98, kb_220_103, kb_220_108, kr_220, kf_46_706, kf_46_727, kf_46_756, kf_46_757, kf_46_758, kf_46_759, kf_46_760, kk_46_727, List.getD_cons_zero, List.getD_cons_succ, List.set_cons_zero, List.set_cons_succ, ex_spl, ex_low, Option.toList, List.cons_append, List.nil_append, reduceIte, Int.reduceToNat, Nat.reduceDiv, Nat.reduceMod, Nat.reduceAdd, Nat.reduceMul, z_0, z_1, z_10, z_01, reduceCtorEq, ite_true, ite_false, true_and, and_true, ↓bI_01, ↓bP_01, ↓zret0, ↓zret1, z_add, z_sub, z_mul, up_1, up_2, not_true, not_false_iff, if_true, if_false, bI_T, bI_F, bP_T, bP_F, or_true, true_or, or_false, false_or, Int.reduceNeg, Int.reduceAdd, Int.reduceSub, Int.reduceMul, Int.reduceEq, Int.reduceLT, Int.reduceLE, Int.natCast_add, Int.cast_ofNat_Int]
              · simp (disch := omega) only [g2, g23, r_within, bP_t, bP_f, e2, b0, ev_iload, ev_aload, rx_istore, ev_push, ev_iadd, ev_dup_r, ev_dup_i, ev_goto, ev_jsr, rx_ine_t, rx_ine_f, rx_zeq_t, rx_zeq_f, rx_zne_t, rx_zne_f, ev_getf, ev_putf, ev_putl, ev_call, ev_callv, nr_i, nr_r, nr_l, nr_n, rx_tsw, rx_tsd, ar_tl, Int.reduceSub, rx_iret, kb_220_0, kb_220_10, kb_220_22, kb_220_34, kb_220_80, kb_220_91, kb_220_92, kb_220_93, kb_220_98, kb_220_103, kb_220_108, kr_220, kf_46_706, kf_46_727, kf_46_756, kf_46_757, kf_46_758, kf_46_759, kf_46_760, kk_46_727, List.getD_cons_zero, List.getD_cons_succ, List.set_cons_zero, List.set_cons_succ, ex_spl, ex_low, Option.toList, List.cons_append, List.nil_append, reduceIte, Int.reduceToNat, Nat.reduceDiv, Nat.reduceMod, Nat.reduceAdd, Nat.reduceMul, z_0, z_1, z_10, z_01, reduceCtorEq, ite_true, ite_false, true_and, and_true, ↓bI_01, ↓bP_01, ↓zret0, ↓zret1, z_add, z_sub, z_mul, up_1, up_2, not_true, not_false_iff, if_true, if_false, bI_T, bI_F, bP_T, bP_F, or_true, true_or, or_false, false_or, Int.reduceNeg, Int.reduceAdd, Int.reduceSub, Int.reduceMul, Int.reduceEq, Int.reduceLT, Int.reduceLE, Int.natCast_add, Int.cast_ofNat_Int]
            · show _ = some (some (Value.int (Int32.ofInt b)), w2)
              simp (disch := omega) only [g2, g23, r_within, bP_t, bP_f, e2, b1, ev_iload, ev_aload, rx_istore, ev_push, ev_iadd, ev_dup_r, ev_dup_i, ev_goto, ev_jsr, rx_ine_t, rx_ine_f, rx_zeq_t, rx_zeq_f, rx_zne_t, rx_zne_f, ev_getf, ev_putf, ev_putl, ev_call, ev_callv, nr_i, nr_r, nr_l, nr_n, rx_tsw, rx_tsd, ar_tl, Int.reduceSub, rx_iret, kb_220_0, kb_220_10, kb_220_22, kb_220_34, kb_220_80, kb_220_91, kb_220_92, kb_220_93, kb_220_98, kb_220_103, kb_220_108, kr_220, kf_46_706, kf_46_727, kf_46_756, kf_46_757, kf_46_758, kf_46_759, kf_46_760, kk_46_727, List.getD_cons_zero, List.getD_cons_succ, List.set_cons_zero, List.set_cons_succ, ex_spl, ex_low, Option.toList, List.cons_append, List.nil_append, reduceIte, Int.reduceToNat, Nat.reduceDiv, Nat.reduceMod, Nat.reduceAdd, Nat.reduceMul, z_0, z_1, z_10, z_01, reduceCtorEq, ite_true, ite_false, true_and, and_true, ↓bI_01, ↓bP_01, ↓zret0, ↓zret1, z_add, z_sub, z_mul, up_1, up_2, not_true, not_false_iff, if_true, if_false, bI_T, bI_F, bP_T, bP_F, or_true, true_or, or_false, false_or, Int.reduceNeg, Int.reduceAdd, Int.reduceSub, Int.reduceMul, Int.reduceEq, Int.reduceLT, Int.reduceLE, Int.natCast_add, Int.cast_ofNat_Int]
            · show _ = some (some (Value.int (Int32.ofInt x)), w2)
              simp (disch := omega) only [g2, g23, r_within, bP_t, bP_f, e2, b2, ev_iload, ev_aload, rx_istore, ev_push, ev_iadd, ev_dup_r, ev_dup_i, ev_goto, ev_jsr, rx_ine_t, rx_ine_f, rx_zeq_t, rx_zeq_f, rx_zne_t, rx_zne_f, ev_getf, ev_putf, ev_putl, ev_call, ev_callv, nr_i, nr_r, nr_l, nr_n, rx_tsw, rx_tsd, ar_tl, Int.reduceSub, rx_iret, kb_220_0, kb_220_10, kb_220_22, kb_220_34, kb_220_80, kb_220_91, kb_220_92, kb_220_93, kb_220_98, kb_220_103, kb_220_108, kr_220, kf_46_706, kf_46_727, kf_46_756, kf_46_757, kf_46_758, kf_46_759, kf_46_760, kk_46_727, List.getD_cons_zero, List.getD_cons_succ, List.set_cons_zero, List.set_cons_succ, ex_spl, ex_low, Option.toList, List.cons_append, List.nil_append, reduceIte, Int.reduceToNat, Nat.reduceDiv, Nat.reduceMod, Nat.reduceAdd, Nat.reduceMul, z_0, z_1, z_10, z_01, reduceCtorEq, ite_true, ite_false, true_and, and_true, ↓bI_01, ↓bP_01, ↓zret0, ↓zret1, z_add, z_sub, z_mul, up_1, up_2, not_true, not_false_iff, if_true, if_false, bI_T, bI_F, bP_T, bP_F, or_true, true_or, or_false, false_or, Int.reduceNeg, Int.reduceAdd, Int.reduceSub, Int.reduceMul, Int.reduceEq, Int.reduceLT, Int.reduceLE, Int.natCast_add, Int.cast_ofNat_Int]
            · show _ = some (some (Value.int (Int32.ofInt c)), w2)
              simp (disch := omega) only [g2, g23, r_within, bP_t, bP_f, e2, b3, ev_iload, ev_aload, rx_istore, ev_push, ev_iadd, ev_dup_r, ev_dup_i, ev_goto, ev_jsr, rx_ine_t, rx_ine_f, rx_zeq_t, rx_zeq_f, rx_zne_t, rx_zne_f, ev_getf, ev_putf, ev_putl, ev_call, ev_callv, nr_i, nr_r, nr_l, nr_n, rx_tsw, rx_tsd, ar_tl, Int.reduceSub, rx_iret, kb_220_0, kb_220_10, kb_220_22, kb_220_34, kb_220_80, kb_220_91, kb_220_92, kb_220_93, kb_220_98, kb_220_103, kb_220_108, kr_220, kf_46_706, kf_46_727, kf_46_756, kf_46_757, kf_46_758, kf_46_759, kf_46_760, kk_46_727, List.getD_cons_zero, List.getD_cons_succ, List.set_cons_zero, List.set_cons_succ, ex_spl, ex_low, Option.toList, List.cons_append, List.nil_append, reduceIte, Int.reduceToNat, Nat.reduceDiv, Nat.reduceMod, Nat.reduceAdd, Nat.reduceMul, z_0, z_1, z_10, z_01, reduceCtorEq, ite_true, ite_false, true_and, and_true, ↓bI_01, ↓bP_01, ↓zret0, ↓zret1, z_add, z_sub, z_mul, up_1, up_2, not_true, not_false_iff, if_true, if_false, bI_T, bI_F, bP_T, bP_F, or_true, true_or, or_false, false_or, Int.reduceNeg, Int.reduceAdd, Int.reduceSub, Int.reduceMul, Int.reduceEq, Int.reduceLT, Int.reduceLE, Int.natCast_add, Int.cast_ofNat_Int]
            · show _ = some (some (Value.int (Int32.ofInt y)), w2)
              simp (disch := omega) only [g2, g23, r_within, bP_t, bP_f, e2, b4, ev_iload, ev_aload, rx_istore, ev_push, ev_iadd, ev_dup_r, ev_dup_i, ev_goto, ev_jsr, rx_ine_t, rx_ine_f, rx_zeq_t, rx_zeq_f, rx_zne_t, rx_zne_f, ev_getf, ev_putf, ev_putl, ev_call, ev_callv, nr_i, nr_r, nr_l, nr_n, rx_tsw, rx_tsd, ar_tl, Int.reduceSub, rx_iret, kb_220_0, kb_220_10, kb_220_22, kb_220_34, kb_220_80, kb_220_91, kb_220_92, kb_220_93, kb_220_98, kb_220_103, kb_220_108, kr_220, kf_46_706, kf_46_727, kf_46_756, kf_46_757, kf_46_758, kf_46_759, kf_46_760, kk_46_727, List.getD_cons_zero, List.getD_cons_succ, List.set_cons_zero, List.set_cons_succ, ex_spl, ex_low, Option.toList, List.cons_append, List.nil_append, reduceIte, Int.reduceToNat, Nat.reduceDiv, Nat.reduceMod, Nat.reduceAdd, Nat.reduceMul, z_0, z_1, z_10, z_01, reduceCtorEq, ite_true, ite_false, true_and, and_true, ↓bI_01, ↓bP_01, ↓zret0, ↓zret1, z_add, z_sub, z_mul, up_1, up_2, not_true, not_false_iff, if_true, if_false, bI_T, bI_F, bP_T, bP_F, or_true, true_or, or_false, false_or, Int.reduceNeg, Int.reduceAdd, Int.reduceSub, Int.reduceMul, Int.reduceEq, Int.reduceLT, Int.reduceLE, Int.natCast_add, Int.cast_ofNat_Int]
          · rw [o2 _ _ (by omega) (by omega) (by omega), up_n (by omega)]
          · rw [o2 _ _ (by omega) (by omega) (by omega), up_n (by omega)]
          · rw [o2 _ _ (by omega) (by omega) (by omega), up_n (by omega)]
      · refine q_deny hV (Int32.ofInt (-103)) (fun d w hC => ?_) (fun d w hM => ?_)
        · have hth := fun d => m_there2 (d := d) hV.1.1 hC
          rw [bI_t hz] at hth
          have h011 := hC.2.2.1.2.1
          rw [ke_118 kc_0]
          simp (disch := omega) only [hth, m_below, bI_t, bI_f, h011, ev_iload, ev_aload, ev_push, ev_iadd, ev_dup_r, ev_dup_i, ev_jsr, rx_ilt_t, rx_ilt_f, rx_zne_t, rx_zne_f, ev_getf, ev_putf, ev_putl, ev_call, ev_callv, nr_i, nr_r, nr_l, nr_n, rx_iret, kb_118_0, kb_118_13, kb_118_24, kb_118_36, kb_118_137, kr_118, kf_0_643, kf_0_644, kf_0_645, kf_0_647, kf_0_648, kf_0_651, kk_0_651, List.getD_cons_zero, List.getD_cons_succ, List.set_cons_zero, List.set_cons_succ, ex_spl, ex_low, Option.toList, List.cons_append, List.nil_append, reduceIte, Int.reduceToNat, Nat.reduceDiv, Nat.reduceMod, Nat.reduceAdd, Nat.reduceMul, z_0, z_1, z_10, z_01, reduceCtorEq, ite_true, ite_false, true_and, and_true, ↓bI_01, ↓bP_01, ↓zret0, ↓zret1, z_add, z_sub, z_mul, up_1, up_2, not_true, not_false_iff, if_true, if_false, bI_T, bI_F, bP_T, bP_F, or_true, true_or, or_false, false_or, Int.reduceNeg, Int.reduceAdd, Int.reduceSub, Int.reduceMul, Int.reduceEq, Int.reduceLT, Int.reduceLE, Int.natCast_add, Int.cast_ofNat_Int]
        · have g2 := hM.1.2.2.1
          have g23 := hM.1.2.2.2.2.2.2.2.2.1
          rw [ke_220 kc_46]
          simp (disch := omega) only [g2, g23, r_within, bP_t, bP_f, ev_iload, ev_aload, rx_istore, ev_push, ev_iadd, ev_dup_r, ev_dup_i, ev_goto, ev_jsr, rx_ine_t, rx_ine_f, rx_zeq_t, rx_zeq_f, rx_zne_t, rx_zne_f, ev_getf, ev_putf, ev_putl, ev_call, ev_callv, nr_i, nr_r, nr_l, nr_n, rx_tsw, rx_tsd, ar_tl, Int.reduceSub, rx_iret, kb_220_0, kb_220_10, kb_220_22, kb_220_34, kb_220_80, kb_220_91, kb_220_92, kb_220_93, kb_220_98, kb_220_103, kb_220_108, kr_220, kf_46_706, kf_46_727, kf_46_756, kf_46_757, kf_46_758, kf_46_759, kf_46_760, kk_46_727, List.getD_cons_zero, List.getD_cons_succ, List.set_cons_zero, List.set_cons_succ, ex_spl, ex_low, Option.toList, List.cons_append, List.nil_append, reduceIte, Int.reduceToNat, Nat.reduceDiv, Nat.reduceMod, Nat.reduceAdd, Nat.reduceMul, z_0, z_1, z_10, z_01, reduceCtorEq, ite_true, ite_false, true_and, and_true, ↓bI_01, ↓bP_01, ↓zret0, ↓zret1, z_add, z_sub, z_mul, up_1, up_2, not_true, not_false_iff, if_true, if_false, bI_T, bI_F, bP_T, bP_F, or_true, true_or, or_false, false_or, Int.reduceNeg, Int.reduceAdd, Int.reduceSub, Int.reduceMul, Int.reduceEq, Int.reduceLT, Int.reduceLE, Int.natCast_add, Int.cast_ofNat_Int]
    · refine q_deny hV (Int32.ofInt (-102)) (fun d w hC => ?_) (fun d w hM => ?_)
      · have hth := fun d => m_there2 (d := d) hV.1.1 hC
        rw [bI_t hz] at hth
        rw [ke_118 kc_0]
        simp (disch := omega) only [hth, m_below, bI_t, bI_f, ev_iload, ev_aload, ev_push, ev_iadd, ev_dup_r, ev_dup_i, ev_jsr, rx_ilt_t, rx_ilt_f, rx_zne_t, rx_zne_f, ev_getf, ev_putf, ev_putl, ev_call, ev_callv, nr_i, nr_r, nr_l, nr_n, rx_iret, kb_118_0, kb_118_13, kb_118_24, kb_118_36, kb_118_137, kr_118, kf_0_643, kf_0_644, kf_0_645, kf_0_647, kf_0_648, kf_0_651, kk_0_651, List.getD_cons_zero, List.getD_cons_succ, List.set_cons_zero, List.set_cons_succ, ex_spl, ex_low, Option.toList, List.cons_append, List.nil_append, reduceIte, Int.reduceToNat, Nat.reduceDiv, Nat.reduceMod, Nat.reduceAdd, Nat.reduceMul, z_0, z_1, z_10, z_01, reduceCtorEq, ite_true, ite_false, true_and, and_true, ↓bI_01, ↓bP_01, ↓zret0, ↓zret1, z_add, z_sub, z_mul, up_1, up_2, not_true, not_false_iff, if_true, if_false, bI_T, bI_F, bP_T, bP_F, or_true, true_or, or_false, false_or, Int.reduceNeg, Int.reduceAdd, Int.reduceSub, Int.reduceMul, Int.reduceEq, Int.reduceLT, Int.reduceLE, Int.natCast_add, Int.cast_ofNat_Int]
      · have g2 := hM.1.2.2.1
        rw [ke_220 kc_46]
        simp (disch := omega) only [g2, r_within, bP_t, bP_f, ev_iload, ev_aload, rx_istore, ev_push, ev_iadd, ev_dup_r, ev_dup_i, ev_goto, ev_jsr, rx_ine_t, rx_ine_f, rx_zeq_t, rx_zeq_f, rx_zne_t, rx_zne_f, ev_getf, ev_putf, ev_putl, ev_call, ev_callv, nr_i, nr_r, nr_l, nr_n, rx_tsw, rx_tsd, ar_tl, Int.reduceSub, rx_iret, kb_220_0, kb_220_10, kb_220_22, kb_220_34, kb_220_80, kb_220_91, kb_220_92, kb_220_93, kb_220_98, kb_220_103, kb_220_108, kr_220, kf_46_706, kf_46_727, kf_46_756, kf_46_757, kf_46_758, kf_46_759, kf_46_760, kk_46_727, List.getD_cons_zero, List.getD_cons_succ, List.set_cons_zero, List.set_cons_succ, ex_spl, ex_low, Option.toList, List.cons_append, List.nil_append, reduceIte, Int.reduceToNat, Nat.reduceDiv, Nat.reduceMod, Nat.reduceAdd, Nat.reduceMul, z_0, z_1, z_10, z_01, reduceCtorEq, ite_true, ite_false, true_and, and_true, ↓bI_01, ↓bP_01, ↓zret0, ↓zret1, z_add, z_sub, z_mul, up_1, up_2, not_true, not_false_iff, if_true, if_false, bI_T, bI_F, bP_T, bP_F, or_true, true_or, or_false, false_or, Int.reduceNeg, Int.reduceAdd, Int.reduceSub, Int.reduceMul, Int.reduceEq, Int.reduceLT, Int.reduceLE, Int.natCast_add, Int.cast_ofNat_Int]
  · refine q_deny hV (Int32.ofInt (-103)) (fun d w hC => ?_) (fun d w hM => ?_)
    · have hth := fun d => m_there2 (d := d) hV.1.1 hC
      rw [bI_f hz] at hth
      rw [ke_118 kc_0]
      simp (disch := omega) only [hth, ev_iload, ev_aload, ev_push, ev_iadd, ev_dup_r, ev_dup_i, ev_jsr, rx_ilt_t, rx_ilt_f, rx_zne_t, rx_zne_f, ev_getf, ev_putf, ev_putl, ev_call, ev_callv, nr_i, nr_r, nr_l, nr_n, rx_iret, kb_118_0, kb_118_13, kb_118_24, kb_118_36, kb_118_137, kr_118, kf_0_643, kf_0_644, kf_0_645, kf_0_647, kf_0_648, kf_0_651, kk_0_651, List.getD_cons_zero, List.getD_cons_succ, List.set_cons_zero, List.set_cons_succ, ex_spl, ex_low, Option.toList, List.cons_append, List.nil_append, reduceIte, Int.reduceToNat, Nat.reduceDiv, Nat.reduceMod, Nat.reduceAdd, Nat.reduceMul, z_0, z_1, z_10, z_01, reduceCtorEq, ite_true, ite_false, true_and, and_true, ↓bI_01, ↓bP_01, ↓zret0, ↓zret1, z_add, z_sub, z_mul, up_1, up_2, not_true, not_false_iff, if_true, if_false, bI_T, bI_F, bP_T, bP_F, or_true, true_or, or_false, false_or, Int.reduceNeg, Int.reduceAdd, Int.reduceSub, Int.reduceMul, Int.reduceEq, Int.reduceLT, Int.reduceLE, Int.natCast_add, Int.cast_ofNat_Int]
    · have g2 := hM.1.2.2.1
      have e0 : A 0 2 = 0 := by omega
      rw [e0] at g2
      rw [ke_220 kc_46]
      simp (disch := omega) only [g2, ev_iload, ev_aload, rx_istore, ev_push, ev_iadd, ev_dup_r, ev_dup_i, ev_goto, ev_jsr, rx_ine_t, rx_ine_f, rx_zeq_t, rx_zeq_f, rx_zne_t, rx_zne_f, ev_getf, ev_putf, ev_putl, ev_call, ev_callv, nr_i, nr_r, nr_l, nr_n, rx_tsw, rx_tsd, ar_tl, Int.reduceSub, rx_iret, kb_220_0, kb_220_10, kb_220_22, kb_220_34, kb_220_80, kb_220_91, kb_220_92, kb_220_93, kb_220_98, kb_220_103, kb_220_108, kr_220, kf_46_706, kf_46_727, kf_46_756, kf_46_757, kf_46_758, kf_46_759, kf_46_760, kk_46_727, List.getD_cons_zero, List.getD_cons_succ, List.set_cons_zero, List.set_cons_succ, ex_spl, ex_low, Option.toList, List.cons_append, List.nil_append, reduceIte, Int.reduceToNat, Nat.reduceDiv, Nat.reduceMod, Nat.reduceAdd, Nat.reduceMul, z_0, z_1, z_10, z_01, reduceCtorEq, ite_true, ite_false, true_and, and_true, ↓bI_01, ↓bP_01, ↓zret0, ↓zret1, z_add, z_sub, z_mul, up_1, up_2, not_true, not_false_iff, if_true, if_false, bI_T, bI_F, bP_T, bP_F, or_true, true_or, or_false, false_or, Int.reduceNeg, Int.reduceAdd, Int.reduceSub, Int.reduceMul, Int.reduceEq, Int.reduceLT, Int.reduceLE, Int.natCast_add, Int.cast_ofNat_Int]
