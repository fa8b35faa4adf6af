/-! rule: a law written, and read -/
def fM (w w' : PW) : Prop := ∀ a k, a < 46 → w'.1 a k = w.1 a k
theorem rC_f {A : AS} {w w' : PW} (hC : rC A w) (h : fM w w') : rC A w' := by
  have e : ∀ a k, (a = 0 ∨ a = 1 ∨ a = 2 ∨ (5 ≤ a ∧ a < 15) ∨ (17 ≤ a ∧ a < 38)) → w'.1 a k = w.1 a k := fun a k ha => h a k (by omega)
  have et : ∀ o j m s, (17 ≤ o ∧ o < 37) → rCt A w o j m s → rCt A w' o j m s := fun o j m s ho ht => ⟨by rw [e _ _ (by omega)]; exact ht.1, by rw [e _ _ (by omega)]; exact ht.2.1, fun k k0 k1 => by rw [e _ _ (by omega)]; exact ht.2.2 k k0 k1⟩
  obtain ⟨⟨⟨⟨h511, h512, h513⟩, ⟨hk, hro, hco, hli⟩⟩, ⟨hbe, hah, hbs, hos⟩⟩, hdo, ⟨h010, h011, h09, h11⟩, hpc, ht18, ht21, ht23, ht25, ht27, ht30, ht32, ht34, ht36⟩ := id hC
  refine ⟨⟨⟨⟨?_, ?_, ?_⟩, ⟨fun k k0 k1 => ?_, fun k k0 k1 => ?_, fun k k0 k1 => ?_, fun k k0 k1 => ?_⟩⟩, ⟨fun k v k0 k1 v0 v1 => ?_, fun k v k0 k1 v0 v1 => ?_, fun k v k0 k1 v0 v1 => ?_, fun k v k0 k1 v0 v1 => ?_⟩⟩, fun k k0 k1 => ?_, ⟨?_, ?_, ?_, ?_⟩, fun k k0 k1 => ?_, et _ _ _ _ (by omega) ht18, et _ _ _ _ (by omega) ht21, et _ _ _ _ (by omega) ht23, et _ _ _ _ (by omega) ht25, et _ _ _ _ (by omega) ht27, et _ _ _ _ (by omega) ht30, et _ _ _ _ (by omega) ht32, et _ _ _ _ (by omega) ht34, et _ _ _ _ (by omega) ht36⟩
  all_goals rw [e _ _ (by omega)]
  · exact h511
  · exact h512
  · exact h513
  · exact hk k k0 k1
  · exact hro k k0 k1
  · exact hco k k0 k1
  · exact hli k k0 k1
  · exact hbe k v k0 k1 v0 v1
  · exact hah k v k0 k1 v0 v1
  · exact hbs k v k0 k1 v0 v1
  · exact hos k v k0 k1 v0 v1
  · exact hdo k k0 k1
  · exact h010
  · exact h011
  · exact h09
  · exact h11
  · exact hpc k k0 k1
theorem q_cnt6 {A : AS} : q_cnt A 6 = A 0 8 := by simp [q_cnt]
theorem q_cnt2 {A : AS} : q_cnt A 2 = A 0 4 := by simp [q_cnt]
theorem l_tk {α : Type} {f : α → Int → Option α} {s0 s : α} {A : AS} (h0 : 0 ≤ A 0 8) (h : l_pg f s0 A s) : p_tk f s0 A (A 0 8).toNat s := ⟨h, by omega, fun h1 => absurd h1 (by omega)⟩
theorem q_lf_0 {x : Int} (x0 : 0 ≤ x) : q_lf q_l0 (if x % 2 = 0 then 119 else 101) = some (1, x % 2, 0, 0, 0, 0) := by
  have h : x % 2 = 0 ∨ x % 2 = 1 := by omega
  rcases h with h | h <;> rw [h] <;> rfl
theorem q_lf_1 {sd y : Int} (y0 : 0 ≤ y) (y1 : y < 6) : q_lf (1, sd, 0, 0, 0, 0) (97 + y) = some (2, sd, y, 0, 0, 0) := by
  unfold q_lf
  dsimp only
  rw [if_neg (by omega), if_pos rfl, if_pos (by omega), show 97 + y - 97 = y by omega]
theorem q_lf_2 {sd a n : Int} (n0 : 0 ≤ n) (n1 : n < 10) : q_lf (2, sd, a, 0, 0, 0) (48 + n) = some (3, sd, a, n, 0, 0) := by
  unfold q_lf
  dsimp only
  rw [if_neg (by omega), if_neg (by omega), if_pos rfl, if_pos (by omega), show 48 + n - 48 = n by omega]
theorem q_lf_3 {sd a f n : Int} (n0 : 0 ≤ n) (n1 : n < 10) (f0 : 0 < f) (h : 10 * f + n < 24) : q_lf (3, sd, a, f, 0, 0) (48 + n) = some (4, sd, a, 10 * f + n, 0, 0) := by
  unfold q_lf
  dsimp only
  rw [if_neg (by omega), if_neg (by omega), if_neg (by omega), if_pos rfl, if_pos (by omega), show 10 * f + (48 + n) - 48 = 10 * f + n by omega]
theorem q_lf_d {st sd a f : Int} (h : st = 3 ∨ st = 4) : q_lf (st, sd, a, f, 0, 0) 45 = some (5, sd, a, f, 0, 0) := by
  rcases h with h | h <;> subst h
  · unfold q_lf
    dsimp only
    rw [if_neg (by omega), if_neg (by omega), if_neg (by omega), if_pos rfl, if_neg (by omega), if_pos rfl]
  · rfl
theorem q_lf_5 {sd a f n : Int} (n0 : 0 ≤ n) (n1 : n < 10) : q_lf (5, sd, a, f, 0, 0) (48 + n) = some (6, sd, a, f, n, 0) := by
  unfold q_lf
  dsimp only
  rw [if_neg (by omega), if_neg (by omega), if_neg (by omega), if_neg (by omega), if_neg (by omega), if_pos rfl, if_pos (by omega), show 48 + n - 48 = n by omega]
theorem q_lf_6 {sd a f t n : Int} (n0 : 0 ≤ n) (n1 : n < 10) (t0 : 0 < t) (h : 10 * t + n < 24) : q_lf (6, sd, a, f, t, 0) (48 + n) = some (7, sd, a, f, 10 * t + n, 0) := by
  unfold q_lf
  dsimp only
  rw [if_neg (by omega), if_neg (by omega), if_neg (by omega), if_neg (by omega), if_neg (by omega), if_neg (by omega), if_pos rfl, if_pos (by omega), show 10 * t + (48 + n) - 48 = 10 * t + n by omega]
theorem q_lf_k {st sd a f t x : Int} (h : st = 6 ∨ st = 7) (h1 : 57 < x) (hx : ¬ q_kl x = -1) : q_lf (st, sd, a, f, t, 0) x = some (8, sd, a, f, t, q_kl x) := by
  rcases h with h | h <;> subst h
  · unfold q_lf
    dsimp only
    rw [if_neg (by omega), if_neg (by omega), if_neg (by omega), if_neg (by omega), if_neg (by omega), if_neg (by omega), if_pos rfl, if_neg (by omega), if_neg hx]
  · unfold q_lf
    dsimp only
    rw [if_neg (by omega), if_neg (by omega), if_neg (by omega), if_neg (by omega), if_neg (by omega), if_neg (by omega), if_neg (by omega), if_pos rfl, if_neg hx]
/-- what a law adds -/
def l_new (A B : AS) (sd a f t k : Int) : Prop := B 0 3 = A 0 3 + 1 ∧ B 0 8 = 0 ∧ (B 3 (5 * A 0 3) = sd ∧ B 3 (5 * A 0 3 + 1) = a ∧ B 3 (5 * A 0 3 + 2) = f ∧ B 3 (5 * A 0 3 + 3) = t ∧ B 3 (5 * A 0 3 + 4) = k) ∧ (∀ j, j < 5 * A 0 3 → B 3 j = A 3 j) ∧ ∀ x y, ¬ (x = 0 ∧ (y = 3 ∨ y = 8)) → ¬ x = 3 → ¬ x = 8 → B x y = A x y
theorem l_rtail {d : Nat} {A : AS} {w : PW} {sd a f t k st : Int} {w0 : PW} {B : AS} (hto : l_to A B w0 w) (hA : 0 ≤ A 0 3) (hn : A 0 3 < 8) (hp : l_pg q_lf q_l0 B (st, sd, a, f, t, k)) (h6 : 6 ≤ st) : ∃ C w1 w2, ex_cal (d + 8) 68 [.ref 0, .int (Int32.ofInt 1)] w = some (some (.int (Int32.ofInt (B 0 8))), w1) ∧ ex_cal (d + 8) 82 [.ref 0, .int (Int32.ofInt 6)] w1 = some (some (.int (Int32.ofInt (B 0 8))), w1) ∧ ex_cal (d + 8) 70 [.ref 0] w1 = some (some (.int (Int32.ofInt (A 0 3))), w2) ∧ q_V C ∧ rC C w2 ∧ fC w0 w2 ∧ w2.2 = w0.2 ∧ l_new A C sd a f t k ∧ 0 ≤ B 0 8 ∧ B 0 8 ≤ 40 := by
  obtain ⟨hV, hC, hfC, hw2, hpe⟩ := hto
  have hr := q_rng hV.1
  have h03 : B 0 3 = A 0 3 := hpe 0 3 (by omega) (by omega)
  have htk := l_tk (by omega) hp
  obtain ⟨w1, e1, hC1, f1⟩ := c_fault1 (d := d + 1) hV hC htk
  rw [Int.toNat_of_nonneg (by omega)] at e1
  obtain ⟨hV2, w2, e2, hC2, f2⟩ := c_law (d := d) hV hC1 htk ⟨by omega, h6⟩ (by omega)
  rw [h03] at e2
  have ec := m_count (d := d + 5) hV.1 hC1 (k := 6) (by omega) (by omega)
  rw [q_cnt6] at ec
  refine ⟨_, w1, w2, e1, ec, e2, hV2, hC2, fC_t hfC (fC_t f1 f2), ?_, ⟨?_, rfl, ?_, fun j hj => ?_, fun x y h1 h2 h3 => ?_⟩, by omega, by omega⟩
  · rw [ex_quiet _ _ _ _ _ _ (by decide) e2, ex_quiet _ _ _ _ _ _ (by decide) e1, hw2]
  · show q_ad B 3 3 sd a f t k 0 3 = _
    rw [q_ad_n, h03]
  · obtain ⟨r0, r1, r2, r3, r4⟩ := q_ad_r (A := B) (j := 3) (s := 3) (a := sd) (b := a) (c := f) (d := t) (e := k) (by omega)
    rw [h03] at r0 r1 r2 r3 r4
    exact ⟨r0, r1, r2, r3, r4⟩
  · show q_ad B 3 3 sd a f t k 3 j = _
    rw [q_ad_o (by omega) (by omega)]
    exact hpe 3 j (by omega) (by omega)
  · show q_bk (q_ad B 3 3 sd a f t k) x y = _
    unfold q_bk
    rw [if_neg (by omega)]
    unfold q_ad
    rw [if_neg (by omega), if_neg (by omega)]
    exact hpe x y (by omega) h3
set_option maxHeartbeats 4000000 in
theorem l_rule {d : Nat} {A : AS} {w : PW} (hV : q_V A) (hC : rC A w) (h8 : A 0 8 = 0) (h3 : A 0 3 < 8) {x : Int} (x0 : 0 ≤ x) (x1 : x < 2147483648) (h49 : q_ar A w 3 49 (5 * A 0 3)) : ∃ B w1, ex_cal (d + 9) 96 [.ref 0, .int (Int32.ofInt x), .int (Int32.ofInt (A 0 3)), .ref 49] w = some (some (.int (Int32.ofInt 1)), w1) ∧ q_V B ∧ rC B w1 ∧ (∀ a k, 46 ≤ a → ¬ a = 49 → w1.1 a k = w.1 a k) ∧ w1.2 = w.2 ∧ q_ar B w1 3 49 (5 * B 0 3) ∧ l_new A B (x % 2) (x / 2 % 6) (x / 16 % 24) (x / 512 % 24) (x / 16384 % 5) := by
  have hr := q_rng hV.1
  generalize hl : A 0 3 = l at *
  generalize hu : ex_up (ex_up (ex_up (ex_up (ex_up w 49 (5 * l).toNat (Int32.ofInt (x % 2))) 49 (5 * l + 1).toNat (Int32.ofInt (x / 2 % 6))) 49 (5 * l + 2).toNat (Int32.ofInt (x / 16 % 24))) 49 (5 * l + 3).toNat (Int32.ofInt (x / 512 % 24))) 49 (5 * l + 4).toNat (Int32.ofInt (x / 16384 % 5)) = u
  have u0 : u.1 49 (5 * l).toNat = Int32.ofInt (x % 2) := by
    rw [← hu, up_n (by omega), up_n (by omega), up_n (by omega), up_n (by omega), up_e (by omega)]
  have u1 : u.1 49 (5 * l + 1).toNat = Int32.ofInt (x / 2 % 6) := by
    rw [← hu, up_n (by omega), up_n (by omega), up_n (by omega), up_e (by omega)]
  have u2 : u.1 49 (5 * l + 2).toNat = Int32.ofInt (x / 16 % 24) := by
    rw [← hu, up_n (by omega), up_n (by omega), up_e (by omega)]
  have u3 : u.1 49 (5 * l + 3).toNat = Int32.ofInt (x / 512 % 24) := by
    rw [← hu, up_n (by omega), up_e (by omega)]
  have u4 : u.1 49 (5 * l + 4).toNat = Int32.ofInt (x / 16384 % 5) := by
    rw [← hu, up_e (by omega)]
  have uo : ∀ a k, ¬ a = 49 → u.1 a k = w.1 a k := fun a k ha => by
    rw [← hu, up_n (by omega), up_n (by omega), up_n (by omega), up_n (by omega), up_n (by omega)]
  have ul : ∀ j, 0 ≤ j → j < 5 * l → u.1 49 j.toNat = w.1 49 j.toNat := fun j j0 j1 => by
    rw [← hu, up_n (by omega), up_n (by omega), up_n (by omega), up_n (by omega), up_n (by omega)]
  have uw : u.2 = w.2 := by rw [← hu]; rfl
  have hCu : rC A u := rC_f hC fun a k ha => uo a k (by omega)
  generalize ea : x / 2 % 6 = a at *
  generalize ef : x / 16 % 24 = f at *
  generalize et : x / 512 % 24 = t at *
  generalize ek : x / 16384 % 5 = k at *
  have a0 : 0 ≤ a ∧ a < 6 := by omega
  have f0 : 0 ≤ f ∧ f < 24 := by omega
  have t0 : 0 ≤ t ∧ t < 24 := by omega
  have k0 : 0 ≤ k ∧ k < 5 := by omega
  have hto0 : l_to A A u u := ⟨hV, hCu, fun _ _ _ => rfl, rfl, q_pe_r A⟩
  obtain ⟨B1, w1, e1, to1, p1, n1⟩ := l_putf (d := d + 4) hV hCu (l_pg_0 h8) (q_lf_0 x0) (by split <;> omega) (by split <;> omega) (by omega)
  obtain ⟨B2, w2, e2, to2, p2, n2⟩ := l_putf (d := d + 4) to1.1 to1.2.1 p1 (q_lf_1 a0.1 a0.2) (by omega) (by omega) (by omega)
  have to2 := l_to_t to1 to2
  obtain ⟨st3, s3, hf3⟩ : ∃ st3, (st3 = 3 ∨ st3 = 4) ∧ ((f < 10 ∧ q_lf (2, x % 2, a, 0, 0, 0) (48 + f) = some (st3, x % 2, a, f, 0, 0)) ∨ (10 ≤ f ∧ ∃ s1, q_lf (2, x % 2, a, 0, 0, 0) (48 + f / 10) = some s1 ∧ q_lf s1 (48 + f % 10) = some (st3, x % 2, a, f, 0, 0))) := by
    by_cases h : f < 10
    · exact ⟨3, Or.inl rfl, Or.inl ⟨h, q_lf_2 f0.1 h⟩⟩
    · refine ⟨4, Or.inr rfl, Or.inr ⟨by omega, _, q_lf_2 (by omega) (by omega), ?_⟩⟩
      rw [q_lf_3 (by omega) (by omega) (by omega) (by omega), show 10 * (f / 10) + f % 10 = f by omega]
  obtain ⟨B3, w3, e3, to3, p3, n3⟩ := l_number (d := d + 3) to2.1 to2.2.1 p2 f0.1 f0.2 hf3 (by omega)
  have to3 := l_to_t to2 to3
  have n3' := q_rng to3.1.1
  obtain ⟨B4, w4, e4, to4, p4, n4⟩ := l_putf (d := d + 4) to3.1 to3.2.1 p3 (q_lf_d s3) (by omega) (by omega) (by omega)
  have to4 := l_to_t to3 to4
  obtain ⟨st5, s5, hf5⟩ : ∃ st5, (st5 = 6 ∨ st5 = 7) ∧ ((t < 10 ∧ q_lf (5, x % 2, a, f, 0, 0) (48 + t) = some (st5, x % 2, a, f, t, 0)) ∨ (10 ≤ t ∧ ∃ s1, q_lf (5, x % 2, a, f, 0, 0) (48 + t / 10) = some s1 ∧ q_lf s1 (48 + t % 10) = some (st5, x % 2, a, f, t, 0))) := by
    by_cases h : t < 10
    · exact ⟨6, Or.inl rfl, Or.inl ⟨h, q_lf_5 t0.1 h⟩⟩
    · refine ⟨7, Or.inr rfl, Or.inr ⟨by omega, _, q_lf_5 (by omega) (by omega), ?_⟩⟩
      rw [q_lf_6 (by omega) (by omega) (by omega) (by omega), show 10 * (t / 10) + t % 10 = t by omega]
  obtain ⟨B5, w5, e5, to5, p5, n5⟩ := l_number (d := d + 3) to4.1 to4.2.1 p4 t0.1 t0.2 hf5 (by omega)
  have to5 := l_to_t to4 to5
  have n5' := q_rng to5.1.1
  have r49 : ∀ {w' : PW}, fC u w' → ∀ j, w'.1 49 j = u.1 49 j := fun h j => h 49 j (by omega)
  have g1 := r49 to1.2.2.1
  have g2 := r49 to2.2.2.1
  have g3 := r49 to3.2.2.1
  have g4 := r49 to4.2.2.1
  have hfin : ∀ (C : AS) (w9 : PW), q_V C → rC C w9 → fC u w9 → w9.2 = u.2 → l_new A C (x % 2) a f t k → q_V C ∧ rC C w9 ∧ (∀ a k, 46 ≤ a → ¬ a = 49 → w9.1 a k = w.1 a k) ∧ w9.2 = w.2 ∧ q_ar C w9 3 49 (5 * C 0 3) ∧ l_new A C (x % 2) a f t k := by
    intro C w9 hVC hCC hfc h9 hnew
    refine ⟨hVC, hCC, fun b j hb hb2 => by rw [hfc b j hb]; exact uo b j hb2, h9.trans uw, fun j j0 j1 => ?_, hnew⟩
    obtain ⟨m1, -, ⟨m2, m3, m4, m5, m6⟩, m7, -⟩ := hnew
    rw [hl] at m1 m2 m3 m4 m5 m6 m7
    rw [m1] at j1
    rw [hfc 49 _ (by omega)]
    by_cases hj : j < 5 * l
    · rw [ul j j0 hj, m7 j hj]; exact h49 j j0 hj
    · have hj5 : j = 5 * l ∨ j = 5 * l + 1 ∨ j = 5 * l + 2 ∨ j = 5 * l + 3 ∨ j = 5 * l + 4 := by omega
      rcases hj5 with hj5 | hj5 | hj5 | hj5 | hj5 <;> subst hj5
      · rw [m2]; exact u0
      · rw [m3]; exact u1
      · rw [m4]; exact u2
      · rw [m5]; exact u3
      · rw [m6]; exact u4
  by_cases hk : k = 0
  · obtain ⟨C, w6, w7, e6, e7, e8, hVC, hCC, hfc, h9, hnew, b0, b1⟩ := l_rtail (d := d) (sd := x % 2) (a := a) (f := f) (t := t) (k := k) (st := st5) to5 (by omega) (by omega) (by rw [hk]; exact p5) (by omega)
    rw [hl] at e8
    refine ⟨C, w7, ?_, hfin C w7 hVC hCC hfc h9 hnew⟩
    rw [ke_96]
    by_cases hx : x % 2 = 0
    · rw [if_pos hx] at e1
      simp (disch := omega) only [ea, ef, et, ek, hu, u0, u1, u2, u3, u4, g1, g2, g3, g4, e1, e2, e3, e4, e5, e6, e7, e8, ev_iload, ev_aload, rx_istore, ev_push, ev_iadd, ev_imul, rx_idiv, rx_irem, ev_goto, ev_jsr, rx_ine_t, rx_ine_f, rx_zeq_t, rx_zeq_f, rx_zne_t, rx_zne_f, ev_iald, ev_call, ev_callv, nr_i, nr_r, nr_l, nr_n, kA_46, kA_47, kA_48, kA_49, kA_50, kA_51, kA_52, kS_46, kS_47, kS_48, kS_49, kS_50, kS_51, kS_52, cg_93, cg_94, rx_zret_t, rx_zretI, rx_zretP, kb_96_0, kb_96_85, kb_96_87, kb_96_164, kb_96_175, kb_96_186, kb_96_188, kb_96_194, kb_96_198, kb_96_199, kb_96_232, kb_96_233, kr_96, List.getD_cons_zero, List.getD_cons_succ, List.set_cons_zero, List.set_cons_succ, ex_spl, ex_low, Option.toList, List.cons_append, List.nil_append, reduceIte, Int.reduceToNat, Nat.reduceDiv, Nat.reduceMod, Nat.reduceAdd, Nat.reduceMul, z_0, z_1, z_10, z_01, reduceCtorEq, ite_true, ite_false, true_and, and_true, ↓bI_01, ↓bP_01, ↓zret0, ↓zret1, z_add, z_sub, z_mul, up_1, up_2, not_true, not_false_iff, if_true, if_false, Bool.true_and, bI_T, bI_F, bP_T, bP_F, or_true, true_or, or_false, false_or, Int.reduceNeg, Int.reduceAdd, Int.reduceSub, Int.reduceMul, Int.reduceEq, Int.reduceLT, Int.reduceLE, Int.natCast_add, Int.cast_ofNat_Int]
    · rw [if_neg hx] at e1
      simp (disch := omega) only [ea, ef, et, ek, hu, u0, u1, u2, u3, u4, g1, g2, g3, g4, e1, e2, e3, e4, e5, e6, e7, e8, ev_iload, ev_aload, rx_istore, ev_push, ev_iadd, ev_imul, rx_idiv, rx_irem, ev_goto, ev_jsr, rx_ine_t, rx_ine_f, rx_zeq_t, rx_zeq_f, rx_zne_t, rx_zne_f, ev_iald, ev_call, ev_callv, nr_i, nr_r, nr_l, nr_n, kA_46, kA_47, kA_48, kA_49, kA_50, kA_51, kA_52, kS_46, kS_47, kS_48, kS_49, kS_50, kS_51, kS_52, cg_93, cg_94, rx_zret_t, rx_zretI, rx_zretP, kb_96_0, kb_96_85, kb_96_87, kb_96_164, kb_96_175, kb_96_186, kb_96_188, kb_96_194, kb_96_198, kb_96_199, kb_96_232, kb_96_233, kr_96, List.getD_cons_zero, List.getD_cons_succ, List.set_cons_zero, List.set_cons_succ, ex_spl, ex_low, Option.toList, List.cons_append, List.nil_append, reduceIte, Int.reduceToNat, Nat.reduceDiv, Nat.reduceMod, Nat.reduceAdd, Nat.reduceMul, z_0, z_1, z_10, z_01, reduceCtorEq, ite_true, ite_false, true_and, and_true, ↓bI_01, ↓bP_01, ↓zret0, ↓zret1, z_add, z_sub, z_mul, up_1, up_2, not_true, not_false_iff, if_true, if_false, Bool.true_and, bI_T, bI_F, bP_T, bP_F, or_true, true_or, or_false, false_or, Int.reduceNeg, Int.reduceAdd, Int.reduceSub, Int.reduceMul, Int.reduceEq, Int.reduceLT, Int.reduceLE, Int.natCast_add, Int.cast_ofNat_Int]
  · obtain ⟨c, hc, hc2, hkl⟩ : ∃ c, c = (if k = 1 then 104 else if k = 2 then 110 else if k = 3 then 102 else 111) ∧ (102 ≤ c ∧ c ≤ 111) ∧ q_kl c = k := by
      have h4 : k = 1 ∨ k = 2 ∨ k = 3 ∨ k = 4 := by omega
      rcases h4 with h | h | h | h <;> subst h
      · exact ⟨104, rfl, by omega, rfl⟩
      · exact ⟨110, rfl, by omega, rfl⟩
      · exact ⟨102, rfl, by omega, rfl⟩
      · exact ⟨111, rfl, by omega, rfl⟩
    obtain ⟨B6, w6, e6, to6, p6, n6⟩ := l_putf (d := d + 4) to5.1 to5.2.1 p5 (q_lf_k (x := c) s5 (by omega) (by omega)) (by omega) (by omega) (by omega)
    have to6 := l_to_t to5 to6
    rw [hkl] at p6
    obtain ⟨C, w7, w8, e7, e8, e9, hVC, hCC, hfc, h9, hnew, b0, b1⟩ := l_rtail (d := d) to6 (by omega) (by omega) p6 (by omega)
    rw [hl] at e9
    refine ⟨C, w8, ?_, hfin C w8 hVC hCC hfc h9 hnew⟩
    have g5 := r49 to5.2.2.1
    rw [ke_96]
    have h4 : k = 1 ∨ k = 2 ∨ k = 3 ∨ k = 4 := by omega
    by_cases hx : x % 2 = 0
    · rw [if_pos hx] at e1
      rcases h4 with h | h | h | h <;> subst h <;> (have hc : c = _ := hc) <;> simp only [reduceIte, Int.reduceEq] at hc <;> subst hc
      all_goals simp (disch := omega) only [ea, ef, et, ek, hu, u0, u1, u2, u3, u4, g1, g2, g3, g4, g5, e1, e2, e3, e4, e5, e6, e7, e8, e9, ev_iload, ev_aload, rx_istore, ev_push, ev_iadd, ev_imul, rx_idiv, rx_irem, ev_goto, ev_jsr, rx_ine_t, rx_ine_f, rx_zeq_t, rx_zeq_f, rx_zne_t, rx_zne_f, ev_iald, ev_call, ev_callv, nr_i, nr_r, nr_l, nr_n, kA_46, kA_47, kA_48, kA_49, kA_50, kA_51, kA_52, kS_46, kS_47, kS_48, kS_49, kS_50, kS_51, kS_52, cg_93, cg_94, rx_zret_t, rx_zretI, rx_zretP, kb_96_0, kb_96_85, kb_96_87, kb_96_164, kb_96_175, kb_96_186, kb_96_188, kb_96_194, kb_96_198, kb_96_199, kb_96_232, kb_96_233, kr_96, List.getD_cons_zero, List.getD_cons_succ, List.set_cons_zero, List.set_cons_succ, ex_spl, ex_low, Option.toList, List.cons_append, List.nil_append, reduceIte, Int.reduceToNat, Nat.reduceDiv, Nat.reduceMod, Nat.reduceAdd, Nat.reduceMul, z_0, z_1, z_10, z_01, reduceCtorEq, ite_true, ite_false, true_and, and_true, ↓bI_01, ↓bP_01, ↓zret0, ↓zret1, z_add, z_sub, z_mul, up_1, up_2, not_true, not_false_iff, if_true, if_false, Bool.true_and, bI_T, bI_F, bP_T, bP_F, or_true, true_or, or_false, false_or, Int.reduceNeg, Int.reduceAdd, Int.reduceSub, Int.reduceMul, Int.reduceEq, Int.reduceLT, Int.reduceLE, Int.natCast_add, Int.cast_ofNat_Int]
    · rw [if_neg hx] at e1
      rcases h4 with h | h | h | h <;> subst h <;> (have hc : c = _ := hc) <;> simp only [reduceIte, Int.reduceEq] at hc <;> subst hc
      all_goals simp (disch := omega) only [ea, ef, et, ek, hu, u0, u1, u2, u3, u4, g1, g2, g3, g4, g5, e1, e2, e3, e4, e5, e6, e7, e8, e9, ev_iload, ev_aload, rx_istore, ev_push, ev_iadd, ev_imul, rx_idiv, rx_irem, ev_goto, ev_jsr, rx_ine_t, rx_ine_f, rx_zeq_t, rx_zeq_f, rx_zne_t, rx_zne_f, ev_iald, ev_call, ev_callv, nr_i, nr_r, nr_l, nr_n, kA_46, kA_47, kA_48, kA_49, kA_50, kA_51, kA_52, kS_46, kS_47, kS_48, kS_49, kS_50, kS_51, kS_52, cg_93, cg_94, rx_zret_t, rx_zretI, rx_zretP, kb_96_0, kb_96_85, kb_96_87, kb_96_164, kb_96_175, kb_96_186, kb_96_188, kb_96_194, kb_96_198, kb_96_199, kb_96_232, kb_96_233, kr_96, List.getD_cons_zero, List.getD_cons_succ, List.set_cons_zero, List.set_cons_succ, ex_spl, ex_low, Option.toList, List.cons_append, List.nil_append, reduceIte, Int.reduceToNat, Nat.reduceDiv, Nat.reduceMod, Nat.reduceAdd, Nat.reduceMul, z_0, z_1, z_10, z_01, reduceCtorEq, ite_true, ite_false, true_and, and_true, ↓bI_01, ↓bP_01, ↓zret0, ↓zret1, z_add, z_sub, z_mul, up_1, up_2, not_true, not_false_iff, if_true, if_false, Bool.true_and, bI_T, bI_F, bP_T, bP_F, or_true, true_or, or_false, false_or, Int.reduceNeg, Int.reduceAdd, Int.reduceSub, Int.reduceMul, Int.reduceEq, Int.reduceLT, Int.reduceLE, Int.natCast_add, Int.cast_ofNat_Int]
