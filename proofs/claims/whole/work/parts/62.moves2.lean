/-! moves(): both -/
theorem q_first (Pr : Int → Int → Prop) {n5 : Int} (h0 : 0 ≤ n5) : ∃ n m : Nat, (n : Int) ≤ n5 ∧ (∀ t : Int, 0 ≤ t → t < n → ∀ i : Int, 0 ≤ i → i < 96 → ¬ Pr t i) ∧ ((n : Int) < n5 → m < 96 ∧ Pr n m ∧ ∀ i : Int, 0 ≤ i → i < m → ¬ Pr n i) := by
  obtain ⟨n, n1, n2, n3⟩ := ex_fst (fun t => ∃ i : Int, 0 ≤ i ∧ i < 96 ∧ Pr t i) n5.toNat
  obtain ⟨m, m1, m2, m3⟩ := ex_fst (fun i => Pr n i) 96
  have c1 : ∀ t : Int, 0 ≤ t → ((t.toNat : Nat) : Int) = t := fun t ht => Int.toNat_of_nonneg ht
  have c2 : (n : Int) ≤ n5 := by clear n2 n3 m2 m3; omega
  have c3 : ∀ t : Int, 0 ≤ t → t < n → t.toNat < n := by clear n2 n3 m2 m3; intro t t0 t1; omega
  have c4 : (n : Int) < n5 → n < n5.toNat := by clear n2 n3 m2 m3; intro h; omega
  have c5 : ∀ t : Int, 0 ≤ t → t < m → t.toNat < m := by clear n2 n3 m2 m3; intro t t0 t1; omega
  refine ⟨n, m, c2, fun t t0 t1 i i0 i1 hp => ?_, fun hl => ?_⟩
  · refine n2 t.toNat (c3 t t0 t1) ⟨i, i0, i1, ?_⟩
    rw [c1 t t0]; exact hp
  · obtain ⟨i, i0, i1, hp⟩ := n3 (c4 hl)
    have hm : m < 96 := by
      refine Classical.byContradiction fun hc => ?_
      have hi : i.toNat < m := by clear n2 n3 m2 m3; omega
      refine m2 i.toNat hi ?_
      show Pr n ((i.toNat : Nat) : Int)
      rw [c1 i i0]; exact hp
    refine ⟨hm, m3 hm, fun j j0 j1 hp' => ?_⟩
    refine m2 j.toNat (c5 j j0 j1) ?_
    show Pr n ((j.toNat : Nat) : Int)
    rw [c1 j j0]; exact hp'
theorem q_ap_sp {B : AS} (hV : q_vh B) {x y : Int} (hx : ¬ q_sp B (B 5 (5 * x)) (B 5 (5 * x + 1)) (B 5 (5 * x + 2)) = Int32.ofInt 0) (hy : ¬ q_sp B (B 5 (5 * y)) (B 5 (5 * y + 1)) (B 5 (5 * y + 2)) = Int32.ofInt 0) : q_ap B 5 x y ↔ q_sp B (B 5 (5 * x)) (B 5 (5 * x + 1)) (B 5 (5 * x + 2)) &&& q_sp B (B 5 (5 * y)) (B 5 (5 * y + 1)) (B 5 (5 * y + 2)) = Int32.ofInt 0 := by
  rw [q_ap_e, q_sp_and hV hx hy]; exact Iff.rfl
/-- by one: the class's and the reference's -/
theorem q_DO1 {A : AS} (hV : q_v0 A) (hd : q_vd A 5 5) {t i : Int} (t0 : 0 ≤ t) (t1 : t < A 0 5) (i0 : 0 ≤ i) : q_D A t i ↔ q_O A t i := by
  have hT := hV.2.2.2.1.2.2
  have h := q_D_O hV (q_like_r A) (u := t) (p := i) (fun x x0 x1 => q_gr_v hV x0 x1) (fun x x0 x1 _ => ⟨(hT x x0 x1).2.2.2.2.2.1, (hT x x0 x1).2.2.2.2.2.2⟩) t0 t1 i0
  exact ⟨fun q => h.1 ⟨fun x y x0 x1 y0 y1 _ _ => hd x y x0 x1 y0 y1, q⟩, fun q => (h.2 q).2⟩
/-- by two -/
theorem q_DO2 {A : AS} (hV : q_v0 A) (hd : q_vd A 5 5) {t p u : Int} (t0 : 0 ≤ t) (t1 : t < A 0 5) (hi : q_ip A t p) (u0 : t < u) (u1 : u < A 0 5) : ∀ i, 0 ≤ i → (q_di2 (q_mv A t (p / 4) (p % 4)) t u ∧ q_D (q_mv A t (p / 4) (p % 4)) u i ↔ q_O (q_mv A t (p / 4) (p % 4)) u i) := by
  intro i i0
  have hT := hV.2.2.2.1.2.2
  obtain ⟨i1, i2, i3, i4, i5⟩ := q_ip_r hV.1 hi
  have hg2 := q_gr_mv2 (fun x x0 x1 => q_gr_v hV x0 x1) i1 i2 (v := p % 4) (by omega) (by omega) i3
  have hl : q_like A (q_mv A t (p / 4) (p % 4)) := q_like_mv (q_like_r A)
  have hVB := q_like_vh hl hV.1
  have ho : ∀ x, 0 ≤ x → x < A 0 5 → q_o1 (q_mv A t (p / 4) (p % 4)) x := by
    intro x x0 x1
    by_cases hx : x = t
    · subst hx
      exact ⟨by rw [q_mv_s.1]; exact i4, by rw [q_mv_ls]; exact i5⟩
    · exact ⟨by rw [(q_mv_o hx).1]; exact (hT x x0 x1).2.2.2.2.2.1, by rw [q_mv_la hx]; exact (hT x x0 x1).2.2.2.2.2.2⟩
  have hsp : ∀ x, 0 ≤ x → x < A 0 5 → ¬ q_sp (q_mv A t (p / 4) (p % 4)) (q_mv A t (p / 4) (p % 4) 5 (5 * x)) (q_mv A t (p / 4) (p % 4) 5 (5 * x + 1)) (q_mv A t (p / 4) (p % 4) 5 (5 * x + 2)) = Int32.ofInt 0 := by
    intro x x0 x1 hs
    exact (q_sp0 hVB).1 hs ⟨(ho x x0 x1).1, (ho x x0 x1).2, (hg2 x x0 x1).2.2.2.2.1⟩
  have hoth : q_oth (q_mv A t (p / 4) (p % 4)) u ↔ q_di2 (q_mv A t (p / 4) (p % 4)) t u := by
    constructor
    · intro h x x0 x1 hxt hxu
      have x1' : x < A 0 5 := x1
      refine (q_ap_sp hVB (hsp t t0 t1) (hsp x x0 x1')).1 ?_
      by_cases hlt : x < t
      · exact h t x t0 t1 x0 hlt (by omega) hxu
      · exact q_ap_s (h x t x0 x1 t0 (by omega) hxu (by omega))
    · intro h x y x0 x1 y0 y1 hx hy
      have x1' : x < A 0 5 := x1
      by_cases hxt : x = t
      · subst hxt
        exact (q_ap_sp hVB (hsp x x0 x1') (hsp y y0 (by omega))).2 (h y y0 (by show y < A 0 5; omega) (by omega) hy)
      · by_cases hyt : y = t
        · subst hyt
          exact q_ap_s ((q_ap_sp hVB (hsp y y0 (by omega)) (hsp x x0 x1')).2 (h x x0 x1 hxt hx))
        · refine q_ap_e.2 ?_
          rw [(q_mv_o hxt).1, (q_mv_o hyt).1, q_mv_la hxt, q_mv_la hyt]
          exact q_ap_e.1 (hd x y x0 x1' y0 y1)
  rw [← hoth]
  exact q_D_O hV hl hg2 (fun x x0 x1 _ => ho x x0 x1) (by omega) u1 i0
theorem q_W2 {A : AS} (hV : q_v0 A) (hd : q_vd A 5 5) {t p u : Int} (t0 : 0 ≤ t) (t1 : t < A 0 5) (hi : q_ip A t p) (u0 : t < u) (u1 : u < A 0 5) : q_W (q_mv A t (p / 4) (p % 4)) t u ↔ ∃ i, 0 ≤ i ∧ i < 96 ∧ q_O (q_mv A t (p / 4) (p % 4)) u i := by
  have h := q_DO2 hV hd t0 t1 hi u0 u1
  constructor
  · rintro ⟨h1, i, i0, i1, h2⟩; exact ⟨i, i0, i1, (h i i0).1 ⟨h1, h2⟩⟩
  · rintro ⟨i, i0, i1, h2⟩; exact ⟨((h i i0).2 h2).1, i, i0, i1, ((h i i0).2 h2).2⟩
theorem q_R12 {A : AS} (hV : q_v0 A) (hd : q_vd A 5 5) {t p : Int} (t0 : 0 ≤ t) (t1 : t < A 0 5) : q_R A t p ↔ q_R2 A t p := by
  constructor
  · rintro ⟨hi, u, u0, u1, hw⟩; exact ⟨hi, u, u0, u1, (q_W2 hV hd t0 t1 hi u0 u1).1 hw⟩
  · rintro ⟨hi, u, u0, u1, hw⟩; exact ⟨hi, u, u0, u1, (q_W2 hV hd t0 t1 hi u0 u1).2 hw⟩
theorem q_hpl1 {A : AS} (hV : q_v0 A) (hd : q_vd A 5 5) (hh : q_hpl A) {t i : Int} (t0 : 0 ≤ t) (t1 : t < A 0 5) (i0 : 0 ≤ i) : ¬ q_O A t i := by
  intro hO
  have hD := (q_DO1 hV hd t0 t1 i0).2 hO
  obtain ⟨i1, i2, i3, i4, i5⟩ := q_ip_r hV.1 hD.1
  exact q_hpl_no hV (q_like_mv (q_like_r A)) (q_gr_mv2 (fun x x0 x1 => q_gr_v hV x0 x1) i1 i2 (by omega) (by omega) i3) hh hD.2.2
theorem q_hpl2 {A : AS} (hV : q_v0 A) (hd : q_vd A 5 5) (hh : q_hpl A) {t p : Int} (t0 : 0 ≤ t) (t1 : t < A 0 5) : ¬ q_R2 A t p := by
  rintro ⟨hi, u, u0, u1, i, i0, i1, hO⟩
  have hD := ((q_DO2 hV hd t0 t1 hi u0 u1 i i0).2 hO).2
  obtain ⟨j1, j2, j3, j4, j5⟩ := q_ip_r hV.1 hi
  have hg2 := q_gr_mv2 (fun x x0 x1 => q_gr_v hV x0 x1) j1 j2 (v := p % 4) (by omega) (by omega) j3
  have hl : q_like A (q_mv A t (p / 4) (p % 4)) := q_like_mv (q_like_r A)
  obtain ⟨k1, k2, k3, k4, k5⟩ := q_ip_r (q_like_vh hl hV.1) hD.1
  exact q_hpl_no hV (q_like_mv hl) (q_gr_mv2 hg2 k1 k2 (by omega) (by omega) k3) hh hD.2.2
/-- the first by one, the first by two -/
def q_d1 (A : AS) (n m : Nat) : Prop := (n : Int) ≤ A 0 5 ∧ (∀ t : Int, 0 ≤ t → t < n → ∀ i : Int, 0 ≤ i → i < 96 → ¬ q_O A t i) ∧ ((n : Int) < A 0 5 → m < 96 ∧ q_O A n m ∧ ∀ i : Int, 0 ≤ i → i < m → ¬ q_O A n i)
def q_d2 (A : AS) (N P U M : Nat) : Prop := (N : Int) ≤ A 0 5 ∧ (∀ t : Int, 0 ≤ t → t < N → ∀ i : Int, 0 ≤ i → i < 96 → ¬ q_R2 A t i) ∧ ((N : Int) < A 0 5 → P < 96 ∧ (∀ i : Int, 0 ≤ i → i < P → ¬ q_R2 A N i) ∧ q_ip A N P ∧ (N : Int) < (U : Int) ∧ (U : Int) < A 0 5 ∧ (∀ u : Int, (N : Int) < u → u < U → ∀ i : Int, 0 ≤ i → i < 96 → ¬ q_O (q_mv A N ((P : Int) / 4) ((P : Int) % 4)) u i) ∧ M < 96 ∧ q_O (q_mv A N ((P : Int) / 4) ((P : Int) % 4)) U M ∧ ∀ i : Int, 0 ≤ i → i < M → ¬ q_O (q_mv A N ((P : Int) / 4) ((P : Int) % 4)) U i)
theorem q_d1_ex {A : AS} (h0 : 0 ≤ A 0 5) : ∃ n m, q_d1 A n m := by
  obtain ⟨n, m, h1, h2, h3⟩ := q_first (q_O A) h0
  exact ⟨n, m, h1, h2, h3⟩
theorem q_d2_ex {A : AS} (h0 : 0 ≤ A 0 5) : ∃ N P U M, q_d2 A N P U M := by
  obtain ⟨N, P, h1, h2, h3⟩ := q_first (q_R2 A) h0
  by_cases hl : (N : Int) < A 0 5
  · obtain ⟨h4, ⟨h5, u, u0, u1, i, i0, i1, hO⟩, h6⟩ := h3 hl
    obtain ⟨U, M, k1, k2, k3⟩ := q_first (fun u i => (N : Int) < u ∧ q_O (q_mv A N ((P : Int) / 4) ((P : Int) % 4)) u i) h0
    have hU : (U : Int) < A 0 5 := by
      refine Classical.byContradiction fun hc => ?_
      exact k2 u (by omega) (by omega) i i0 i1 ⟨u0, hO⟩
    obtain ⟨m1, m2, m3⟩ := k3 hU
    exact ⟨N, P, U, M, h1, h2, fun _ => ⟨h4, h6, h5, m2.1, hU, fun x x0 x1 j j0 j1 hx => k2 x (by omega) x1 j j0 j1 ⟨x0, hx⟩, m1, m2.2, fun j j0 j1 hj => m3 j j0 j1 ⟨m2.1, hj⟩⟩⟩
  · exact ⟨N, P, 0, 0, h1, h2, fun h => absurd h hl⟩
/-- what moves() finds -/
def q_rsl (A : AS) (n m N P U M : Nat) (a b x c y : Int) : Prop := (q_akp A ∧ a = 0 ∧ b = -1 ∧ x = -1 ∧ c = -1 ∧ y = -1) ∨ (¬ q_akp A ∧ (n : Int) < A 0 5 ∧ a = 1 ∧ b = n ∧ x = m ∧ c = -1 ∧ y = -1) ∨ (¬ q_akp A ∧ ¬ (n : Int) < A 0 5 ∧ (N : Int) < A 0 5 ∧ a = 2 ∧ b = N ∧ x = P ∧ c = U ∧ y = M) ∨ (¬ q_akp A ∧ ¬ (n : Int) < A 0 5 ∧ ¬ (N : Int) < A 0 5 ∧ a = -1 ∧ b = -1 ∧ x = -1 ∧ c = -1 ∧ y = -1)
theorem q_rsl_ex (A : AS) (n m N P U M : Nat) : ∃ a b x c y, q_rsl A n m N P U M a b x c y := by
  by_cases h1 : q_akp A
  · exact ⟨0, -1, -1, -1, -1, Or.inl ⟨h1, rfl, rfl, rfl, rfl, rfl⟩⟩
  · by_cases h2 : (n : Int) < A 0 5
    · exact ⟨1, n, m, -1, -1, Or.inr (Or.inl ⟨h1, h2, rfl, rfl, rfl, rfl, rfl⟩)⟩
    · by_cases h3 : (N : Int) < A 0 5
      · exact ⟨2, N, P, U, M, Or.inr (Or.inr (Or.inl ⟨h1, h2, h3, rfl, rfl, rfl, rfl, rfl⟩))⟩
      · exact ⟨-1, -1, -1, -1, -1, Or.inr (Or.inr (Or.inr ⟨h1, h2, h3, rfl, rfl, rfl, rfl, rfl⟩))⟩
def q_nth (k a b x c y : Int) : Int := if k = 0 then a else if k = 1 then b else if k = 2 then x else if k = 3 then c else y
theorem m_mtold {d : Nat} {w : PW} {a b x c y k : Int} (h : rAn w a b x c y) (k0 : 0 ≤ k) (k1 : k < 5) : ex_cal (d + 2) 72 [.ref 41, .int (Int32.ofInt k)] w = some (some (.int (Int32.ofInt (q_nth k a b x c y))), w) := by
  obtain ⟨h0, h1, h2, h3, h4⟩ := h
  have hk : k = 0 ∨ k = 1 ∨ k = 2 ∨ k = 3 ∨ k = 4 := by omega
  rw [ke_72 kc_41]
  rcases hk with e | e | e | e | e <;> subst e
  · show _ = some (some (Value.int (Int32.ofInt a)), w)
    simp (disch := omega) only [m_below, bI_t, bI_f, h0, ev_iload, ev_aload, ev_push, ev_goto, ev_jsr, rx_zeq_t, rx_zeq_f, ev_getf, ev_iald, ev_call, nr_i, nr_r, nr_l, nr_n, kA_2, kA_6, kA_7, kA_8, kA_9, kA_10, kA_11, kA_12, kA_13, kA_14, kA_15, kA_16, kA_19, kA_22, kA_24, kA_26, kA_28, kA_31, kA_33, kA_35, kA_37, kA_39, kA_40, kA_42, kA_43, kA_44, kA_45, rx_iret, kb_72_0, kb_72_17, kb_72_18, kr_72, kf_41_387, List.getD_cons_zero, List.getD_cons_succ, List.set_cons_zero, List.set_cons_succ, ex_spl, ex_low, Option.toList, List.cons_append, List.nil_append, reduceIte, Int.reduceToNat, Nat.reduceDiv, Nat.reduceMod, Nat.reduceAdd, Nat.reduceMul, z_0, z_1, z_10, z_01, reduceCtorEq, ite_true, ite_false, true_and, and_true, ↓bI_01, ↓bP_01, ↓zret0, ↓zret1, z_add, z_sub, z_mul, up_1, up_2, not_true, not_false_iff, if_true, if_false, bI_T, bI_F, bP_T, bP_F, or_true, true_or, or_false, false_or, Int.reduceNeg, Int.reduceAdd, Int.reduceSub, Int.reduceMul, Int.reduceEq, Int.reduceLT, Int.reduceLE, Int.natCast_add, Int.cast_ofNat_Int]
  · show _ = some (some (Value.int (Int32.ofInt b)), w)
    simp (disch := omega) only [m_below, bI_t, bI_f, h1, ev_iload, ev_aload, ev_push, ev_goto, ev_jsr, rx_zeq_t, rx_zeq_f, ev_getf, ev_iald, ev_call, nr_i, nr_r, nr_l, nr_n, kA_2, kA_6, kA_7, kA_8, kA_9, kA_10, kA_11, kA_12, kA_13, kA_14, kA_15, kA_16, kA_19, kA_22, kA_24, kA_26, kA_28, kA_31, kA_33, kA_35, kA_37, kA_39, kA_40, kA_42, kA_43, kA_44, kA_45, rx_iret, kb_72_0, kb_72_17, kb_72_18, kr_72, kf_41_387, List.getD_cons_zero, List.getD_cons_succ, List.set_cons_zero, List.set_cons_succ, ex_spl, ex_low, Option.toList, List.cons_append, List.nil_append, reduceIte, Int.reduceToNat, Nat.reduceDiv, Nat.reduceMod, Nat.reduceAdd, Nat.reduceMul, z_0, z_1, z_10, z_01, reduceCtorEq, ite_true, ite_false, true_and, and_true, ↓bI_01, ↓bP_01, ↓zret0, ↓zret1, z_add, z_sub, z_mul, up_1, up_2, not_true, not_false_iff, if_true, if_false, bI_T, bI_F, bP_T, bP_F, or_true, true_or, or_false, false_or, Int.reduceNeg, Int.reduceAdd, Int.reduceSub, Int.reduceMul, Int.reduceEq, Int.reduceLT, Int.reduceLE, Int.natCast_add, Int.cast_ofNat_Int]
  · show _ = some (some (Value.int (Int32.ofInt x)), w)
    simp (disch := omega) only [m_below, bI_t, bI_f, h2, ev_iload, ev_aload, ev_push, ev_goto, ev_jsr, rx_zeq_t, rx_zeq_f, ev_getf, ev_iald, ev_call, nr_i, nr_r, nr_l, nr_n, kA_2, kA_6, kA_7, kA_8, kA_9, kA_10, kA_11, kA_12, kA_13, kA_14, kA_15, kA_16, kA_19, kA_22, kA_24, kA_26, kA_28, kA_31, kA_33, kA_35, kA_37, kA_39, kA_40, kA_42, kA_43, kA_44, kA_45, rx_iret, kb_72_0, kb_72_17, kb_72_18, kr_72, kf_41_387, List.getD_cons_zero, List.getD_cons_succ, List.set_cons_zero, List.set_cons_succ, ex_spl, ex_low, Option.toList, List.cons_append, List.nil_append, reduceIte, Int.reduceToNat, Nat.reduceDiv, Nat.reduceMod, Nat.reduceAdd, Nat.reduceMul, z_0, z_1, z_10, z_01, reduceCtorEq, ite_true, ite_false, true_and, and_true, ↓bI_01, ↓bP_01, ↓zret0, ↓zret1, z_add, z_sub, z_mul, up_1, up_2, not_true, not_false_iff, if_true, if_false, bI_T, bI_F, bP_T, bP_F, or_true, true_or, or_false, false_or, Int.reduceNeg, Int.reduceAdd, Int.reduceSub, Int.reduceMul, Int.reduceEq, Int.reduceLT, Int.reduceLE, Int.natCast_add, Int.cast_ofNat_Int]
  · show _ = some (some (Value.int (Int32.ofInt c)), w)
    simp (disch := omega) only [m_below, bI_t, bI_f, h3, ev_iload, ev_aload, ev_push, ev_goto, ev_jsr, rx_zeq_t, rx_zeq_f, ev_getf, ev_iald, ev_call, nr_i, nr_r, nr_l, nr_n, kA_2, kA_6, kA_7, kA_8, kA_9, kA_10, kA_11, kA_12, kA_13, kA_14, kA_15, kA_16, kA_19, kA_22, kA_24, kA_26, kA_28, kA_31, kA_33, kA_35, kA_37, kA_39, kA_40, kA_42, kA_43, kA_44, kA_45, rx_iret, kb_72_0, kb_72_17, kb_72_18, kr_72, kf_41_387, List.getD_cons_zero, List.getD_cons_succ, List.set_cons_zero, List.set_cons_succ, ex_spl, ex_low, Option.toList, List.cons_append, List.nil_append, reduceIte, Int.reduceToNat, Nat.reduceDiv, Nat.reduceMod, Nat.reduceAdd, Nat.reduceMul, z_0, z_1, z_10, z_01, reduceCtorEq, ite_true, ite_false, true_and, and_true, ↓bI_01, ↓bP_01, ↓zret0, ↓zret1, z_add, z_sub, z_mul, up_1, up_2, not_true, not_false_iff, if_true, if_false, bI_T, bI_F, bP_T, bP_F, or_true, true_or, or_false, false_or, Int.reduceNeg, Int.reduceAdd, Int.reduceSub, Int.reduceMul, Int.reduceEq, Int.reduceLT, Int.reduceLE, Int.natCast_add, Int.cast_ofNat_Int]
  · show _ = some (some (Value.int (Int32.ofInt y)), w)
    simp (disch := omega) only [m_below, bI_t, bI_f, h4, ev_iload, ev_aload, ev_push, ev_goto, ev_jsr, rx_zeq_t, rx_zeq_f, ev_getf, ev_iald, ev_call, nr_i, nr_r, nr_l, nr_n, kA_2, kA_6, kA_7, kA_8, kA_9, kA_10, kA_11, kA_12, kA_13, kA_14, kA_15, kA_16, kA_19, kA_22, kA_24, kA_26, kA_28, kA_31, kA_33, kA_35, kA_37, kA_39, kA_40, kA_42, kA_43, kA_44, kA_45, rx_iret, kb_72_0, kb_72_17, kb_72_18, kr_72, kf_41_387, List.getD_cons_zero, List.getD_cons_succ, List.set_cons_zero, List.set_cons_succ, ex_spl, ex_low, Option.toList, List.cons_append, List.nil_append, reduceIte, Int.reduceToNat, Nat.reduceDiv, Nat.reduceMod, Nat.reduceAdd, Nat.reduceMul, z_0, z_1, z_10, z_01, reduceCtorEq, ite_true, ite_false, true_and, and_true, ↓bI_01, ↓bP_01, ↓zret0, ↓zret1, z_add, z_sub, z_mul, up_1, up_2, not_true, not_false_iff, if_true, if_false, bI_T, bI_F, bP_T, bP_F, or_true, true_or, or_false, false_or, Int.reduceNeg, Int.reduceAdd, Int.reduceSub, Int.reduceMul, Int.reduceEq, Int.reduceLT, Int.reduceLE, Int.natCast_add, Int.cast_ofNat_Int]
