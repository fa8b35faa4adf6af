/-! duty -/
theorem q_mul {a b m n : Int} (a0 : 0 ≤ a) (a1 : a ≤ m) (b0 : 0 ≤ b) (b1 : b ≤ n) : 0 ≤ a * b ∧ a * b ≤ m * n :=
  ⟨Int.mul_nonneg a0 b0, Int.mul_le_mul a1 b1 b0 (by omega)⟩
def q_rs (v f n : Int) : Int := if 0 < v - f * n then v - f * n else 0
def q_du (v f t k n : Int) : Int := k * n + (t * q_rs v f n + 9) / 10
theorem q_rs_r {v f n : Int} (v0 : 0 ≤ v) (v1 : v < 1000) (f0 : 0 ≤ f) (f1 : f < 100) (n0 : 1 ≤ n) (n1 : n ≤ 20) : 0 ≤ q_rs v f n ∧ q_rs v f n < 1000 ∧ 0 ≤ f * n ∧ f * n ≤ 1980 := by
  have := q_mul f0 (show f ≤ 99 by omega) (show 0 ≤ n by omega) n1
  unfold q_rs
  split <;> omega
theorem q_du_r {v f t k n : Int} (v0 : 0 ≤ v) (v1 : v < 1000) (f0 : 0 ≤ f) (f1 : f < 100) (t0 : 0 ≤ t) (t1 : t < 11) (k0 : 0 ≤ k) (k1 : k < 100) (n0 : 1 ≤ n) (n1 : n ≤ 20) : 0 ≤ q_du v f t k n ∧ q_du v f t k n < 3000 ∧ 0 ≤ k * n ∧ k * n ≤ 1980 ∧ 0 ≤ t * q_rs v f n ∧ t * q_rs v f n ≤ 9990 := by
  have h1 := q_rs_r v0 v1 f0 f1 n0 n1
  have h2 := q_mul k0 (show k ≤ 99 by omega) (show 0 ≤ n by omega) n1
  have h3 := q_mul t0 (show t ≤ 10 by omega) h1.1 (show q_rs v f n ≤ 999 by omega)
  unfold q_du
  omega
theorem m_dutyOf {d : Nat} {w : PW} {v f t k n : Int} (v0 : 0 ≤ v) (v1 : v < 1000) (f0 : 0 ≤ f) (f1 : f < 100) (t0 : 0 ≤ t) (t1 : t < 11) (k0 : 0 ≤ k) (k1 : k < 100) (n0 : 1 ≤ n) (n1 : n ≤ 20) : ex_cal (d + 3) 134 [.int (Int32.ofInt n), .int (Int32.ofInt v), .int (Int32.ofInt f), .int (Int32.ofInt t), .int (Int32.ofInt k)] w = some (some (.int (Int32.ofInt (q_du v f t k n))), w) := by
  have h1 := q_rs_r v0 v1 f0 f1 n0 n1
  have h2 := q_du_r v0 v1 f0 f1 t0 t1 k0 k1 n0 n1
  have e : (if 0 < v - f * n then v - f * n else 0) = q_rs v f n := rfl
  rw [ke_134]
  simp (disch := omega) only [e, ev_iload, rx_istore, ev_push, ev_iadd, ev_isub, ev_imul, rx_idiv, rx_max0, rx_min1, nr_i, nr_r, nr_l, nr_n, rx_iret, kb_134_0, kr_134, List.getD_cons_zero, List.getD_cons_succ, List.set_cons_zero, List.set_cons_succ, ex_spl, ex_low, Option.toList, List.cons_append, List.nil_append, reduceIte, Int.reduceToNat, Nat.reduceDiv, Nat.reduceMod, Nat.reduceAdd, Nat.reduceMul, z_0, z_1, z_10, z_01, reduceCtorEq, ite_true, ite_false, true_and, and_true, ↓bI_01, ↓bP_01, ↓zret0, ↓zret1, z_add, z_sub, z_mul, up_1, up_2, not_true, not_false_iff, if_true, if_false, bI_T, bI_F, bP_T, bP_F, Int.reduceNeg, Int.reduceAdd, Int.reduceSub, Int.reduceMul, Int.reduceEq, Int.reduceLT, Int.reduceLE, Int.natCast_add, Int.cast_ofNat_Int]
  rfl
/-- the least of the first so many -/
def q_dm (v f t k best least n : Int) : Prop := 1 ≤ best ∧ best < n ∧ least = q_du v f t k best ∧ ∀ i, 1 ≤ i → i < n → least < q_du v f t k i ∨ (least = q_du v f t k i ∧ best ≤ i)
theorem q_dm_u {v f t k x y a b n : Int} (hx : q_dm v f t k x a n) (hy : q_dm v f t k y b n) : x = y ∧ a = b := by
  obtain ⟨h1, h2, h3, h4⟩ := hx
  obtain ⟨g1, g2, g3, g4⟩ := hy
  have e1 := h4 y g1 g2
  have e2 := g4 x h1 h2
  omega
theorem q_dm_1 {v f t k : Int} : q_dm v f t k 1 (q_du v f t k 1) 2 :=
  ⟨by omega, by omega, rfl, fun i i0 i1 => by rw [show i = 1 by omega]; right; omega⟩
theorem q_dm_t {v f t k best least n : Int} (h : q_dm v f t k best least n) (hn : q_du v f t k n < least) : q_dm v f t k n (q_du v f t k n) (n + 1) := by
  obtain ⟨h1, h2, h3, h4⟩ := h
  refine ⟨by omega, by omega, rfl, fun i i0 i1 => ?_⟩
  by_cases hi : i = n
  · rw [hi]; right; omega
  · have := h4 i i0 (by omega); omega
theorem q_dm_s {v f t k best least n : Int} (h : q_dm v f t k best least n) (hn : ¬ q_du v f t k n < least) : q_dm v f t k best least (n + 1) := by
  obtain ⟨h1, h2, h3, h4⟩ := h
  refine ⟨h1, by omega, h3, fun i i0 i1 => ?_⟩
  by_cases hi : i = n
  · rw [hi]; omega
  · exact h4 i i0 (by omega)
theorem q_dm_ex (v f t k : Int) : ∀ n : Nat, ∃ best least, q_dm v f t k best least (n + 2) := by
  intro n
  induction n with
  | zero => exact ⟨1, _, q_dm_1⟩
  | succ n ih =>
    obtain ⟨best, least, h⟩ := ih
    by_cases hn : q_du v f t k (n + 2) < least
    · exact ⟨_, _, q_dm_t h hn⟩
    · exact ⟨_, _, q_dm_s h hn⟩
theorem g_duty {A : AS} (hV : q_V A) {v f t k o : Int} (v0 : -2147483648 ≤ v) (v1 : v < 2147483648) (f0 : -2147483648 ≤ f) (f1 : f < 2147483648) (t0 : -2147483648 ≤ t) (t1 : t < 2147483648) (k0 : -2147483648 ≤ k) (k1 : k < 2147483648) (o0 : -2147483648 ≤ o) (o1 : o < 2147483648) : q_both A 122 224 [.int (Int32.ofInt v), .int (Int32.ofInt f), .int (Int32.ofInt t), .int (Int32.ofInt k), .int (Int32.ofInt o)] := by
  by_cases hv : 0 ≤ v ∧ v < 1000
  · by_cases hf : 0 ≤ f ∧ f < 100
    · by_cases ht : 0 ≤ t ∧ t < 11
      · by_cases hk : 0 ≤ k ∧ k < 100
        · by_cases ho : 0 ≤ o ∧ o < 2
          · obtain ⟨best, least, hb⟩ := q_dm_ex v f t k 19
            obtain ⟨v2, v3⟩ := hv
            obtain ⟨f2, f3⟩ := hf
            obtain ⟨t2, t3⟩ := ht
            obtain ⟨k2, k3⟩ := hk
            have hq : ∀ n : Int, 1 ≤ n → n ≤ 20 → 0 ≤ q_du v f t k n ∧ q_du v f t k n < 3000 := fun n n0 n1 => by
              have := q_du_r v2 v3 f2 f3 t2 t3 k2 k3 n0 n1
              omega
            refine q_ask hV (.int (Int32.ofInt (if o = 0 then best else least))) (fun d w hC => ⟨w, ?_, sC_r w⟩) (fun d w hM => ⟨w, ?_, sM_r w⟩)
            · rw [ke_122 kc_0]
              simp (disch := omega) only [m_below, bI_t, bI_f, m_dutyOf, ev_iload, rx_istore, ev_iinc, ev_push, ev_goto, ev_jsr, rx_ige_t, rx_ige_f, rx_igt_t, rx_igt_f, rx_zeq_t, rx_zeq_f, rx_zne_t, rx_zne_f, ev_call, nr_i, nr_r, nr_l, nr_n, rx_iret, kb_122_0, kb_122_47, kb_122_50, kb_122_101, kb_122_107, kb_122_117, kb_122_119, kr_122, List.getD_cons_zero, List.getD_cons_succ, List.set_cons_zero, List.set_cons_succ, ex_spl, ex_low, Option.toList, List.cons_append, List.nil_append, reduceIte, Int.reduceToNat, Nat.reduceDiv, Nat.reduceMod, Nat.reduceAdd, Nat.reduceMul, z_0, z_1, z_10, z_01, reduceCtorEq, ite_true, ite_false, true_and, and_true, ↓bI_01, ↓bP_01, ↓zret0, ↓zret1, z_add, z_sub, z_mul, up_1, up_2, not_true, not_false_iff, if_true, if_false, bI_T, bI_F, bP_T, bP_F, Int.reduceNeg, Int.reduceAdd, Int.reduceSub, Int.reduceMul, Int.reduceEq, Int.reduceLT, Int.reduceLE, Int.natCast_add, Int.cast_ofNat_Int]
              refine ex_loop (Q := fun r => r = some (some (.int (Int32.ofInt (if o = 0 then best else least))), w)) (fun i s => ∃ b l v9, s = (ex_blk 122 67, [.ref 0, .int (Int32.ofInt v), .int (Int32.ofInt f), .int (Int32.ofInt t), .int (Int32.ofInt k), .int (Int32.ofInt o), .int (Int32.ofInt b), .int (Int32.ofInt l), .int (Int32.ofInt ((i : Int) + 2)), v9], [], w) ∧ xv v9 ∧ q_dm v f t k b l ((i : Int) + 2)) 19 ?_ ?_ ?_
              · exact ⟨1, _, .null, rfl, xv_n, q_dm_1⟩
              · rintro i s hi ⟨b, l, v9, rfl, x9, hd⟩
                right
                have h1 := hq ((i : Int) + 2) (by omega) (by omega)
                have hl := hq b hd.1 (by have := hd.2.1; omega)
                rw [← hd.2.2.1] at hl
                have e1 : (i : Int) + 2 + 1 = (i : Int) + 1 + 2 := by omega
                by_cases hlt : q_du v f t k ((i : Int) + 2) < l
                · refine ⟨(ex_blk 122 67, [.ref 0, .int (Int32.ofInt v), .int (Int32.ofInt f), .int (Int32.ofInt t), .int (Int32.ofInt k), .int (Int32.ofInt o), .int (Int32.ofInt ((i : Int) + 2)), .int (Int32.ofInt (q_du v f t k ((i : Int) + 2))), .int (Int32.ofInt ((i : Int) + 1 + 2)), .int (Int32.ofInt (q_du v f t k ((i : Int) + 2)))], [], w), ?_, _, _, _, rfl, xv_i _, by have := q_dm_t hd hlt; rw [e1] at this; exact this⟩
                  conv => lhs; rw [kb_122_67]
                  simp (disch := omega) only [m_dutyOf, x9, e1, ev_iload, rx_istore, ev_iinc, ev_push, ev_goto, ev_jsr, rx_ige_t, rx_ige_f, rx_igt_t, rx_igt_f, rx_zeq_t, rx_zeq_f, rx_zne_t, rx_zne_f, ev_call, nr_i, nr_r, nr_l, nr_n, rx_iret, kb_122_0, kb_122_47, kb_122_50, kb_122_101, kb_122_107, kb_122_117, kb_122_119, kr_122, List.getD_cons_zero, List.getD_cons_succ, List.set_cons_zero, List.set_cons_succ, ex_spl, ex_low, Option.toList, List.cons_append, List.nil_append, reduceIte, Int.reduceToNat, Nat.reduceDiv, Nat.reduceMod, Nat.reduceAdd, Nat.reduceMul, z_0, z_1, z_10, z_01, reduceCtorEq, ite_true, ite_false, true_and, and_true, ↓bI_01, ↓bP_01, ↓zret0, ↓zret1, z_add, z_sub, z_mul, up_1, up_2, not_true, not_false_iff, if_true, if_false, bI_T, bI_F, bP_T, bP_F, Int.reduceNeg, Int.reduceAdd, Int.reduceSub, Int.reduceMul, Int.reduceEq, Int.reduceLT, Int.reduceLE, Int.natCast_add, Int.cast_ofNat_Int]
                · refine ⟨(ex_blk 122 67, [.ref 0, .int (Int32.ofInt v), .int (Int32.ofInt f), .int (Int32.ofInt t), .int (Int32.ofInt k), .int (Int32.ofInt o), .int (Int32.ofInt b), .int (Int32.ofInt l), .int (Int32.ofInt ((i : Int) + 1 + 2)), .int (Int32.ofInt (q_du v f t k ((i : Int) + 2)))], [], w), ?_, _, _, _, rfl, xv_i _, by have := q_dm_s hd hlt; rw [e1] at this; exact this⟩
                  conv => lhs; rw [kb_122_67]
                  simp (disch := omega) only [m_dutyOf, x9, e1, ev_iload, rx_istore, ev_iinc, ev_push, ev_goto, ev_jsr, rx_ige_t, rx_ige_f, rx_igt_t, rx_igt_f, rx_zeq_t, rx_zeq_f, rx_zne_t, rx_zne_f, ev_call, nr_i, nr_r, nr_l, nr_n, rx_iret, kb_122_0, kb_122_47, kb_122_50, kb_122_101, kb_122_107, kb_122_117, kb_122_119, kr_122, List.getD_cons_zero, List.getD_cons_succ, List.set_cons_zero, List.set_cons_succ, ex_spl, ex_low, Option.toList, List.cons_append, List.nil_append, reduceIte, Int.reduceToNat, Nat.reduceDiv, Nat.reduceMod, Nat.reduceAdd, Nat.reduceMul, z_0, z_1, z_10, z_01, reduceCtorEq, ite_true, ite_false, true_and, and_true, ↓bI_01, ↓bP_01, ↓zret0, ↓zret1, z_add, z_sub, z_mul, up_1, up_2, not_true, not_false_iff, if_true, if_false, bI_T, bI_F, bP_T, bP_F, Int.reduceNeg, Int.reduceAdd, Int.reduceSub, Int.reduceMul, Int.reduceEq, Int.reduceLT, Int.reduceLE, Int.natCast_add, Int.cast_ofNat_Int]
              · rintro s ⟨b, l, v9, rfl, x9, hd⟩
                obtain ⟨rfl, rfl⟩ := q_dm_u hb hd
                rw [kb_122_67]
                by_cases hoo : o = 0
                · rw [if_pos hoo]
                  simp (disch := omega) only [ev_iload, rx_istore, ev_iinc, ev_push, ev_goto, ev_jsr, rx_ige_t, rx_ige_f, rx_igt_t, rx_igt_f, rx_zeq_t, rx_zeq_f, rx_zne_t, rx_zne_f, ev_call, nr_i, nr_r, nr_l, nr_n, rx_iret, kb_122_0, kb_122_47, kb_122_50, kb_122_101, kb_122_107, kb_122_117, kb_122_119, kr_122, List.getD_cons_zero, List.getD_cons_succ, List.set_cons_zero, List.set_cons_succ, ex_spl, ex_low, Option.toList, List.cons_append, List.nil_append, reduceIte, Int.reduceToNat, Nat.reduceDiv, Nat.reduceMod, Nat.reduceAdd, Nat.reduceMul, z_0, z_1, z_10, z_01, reduceCtorEq, ite_true, ite_false, true_and, and_true, ↓bI_01, ↓bP_01, ↓zret0, ↓zret1, z_add, z_sub, z_mul, up_1, up_2, not_true, not_false_iff, if_true, if_false, bI_T, bI_F, bP_T, bP_F, Int.reduceNeg, Int.reduceAdd, Int.reduceSub, Int.reduceMul, Int.reduceEq, Int.reduceLT, Int.reduceLE, Int.natCast_add, Int.cast_ofNat_Int]
                · rw [if_neg hoo]
                  simp (disch := omega) only [ev_iload, rx_istore, ev_iinc, ev_push, ev_goto, ev_jsr, rx_ige_t, rx_ige_f, rx_igt_t, rx_igt_f, rx_zeq_t, rx_zeq_f, rx_zne_t, rx_zne_f, ev_call, nr_i, nr_r, nr_l, nr_n, rx_iret, kb_122_0, kb_122_47, kb_122_50, kb_122_101, kb_122_107, kb_122_117, kb_122_119, kr_122, List.getD_cons_zero, List.getD_cons_succ, List.set_cons_zero, List.set_cons_succ, ex_spl, ex_low, Option.toList, List.cons_append, List.nil_append, reduceIte, Int.reduceToNat, Nat.reduceDiv, Nat.reduceMod, Nat.reduceAdd, Nat.reduceMul, z_0, z_1, z_10, z_01, reduceCtorEq, ite_true, ite_false, true_and, and_true, ↓bI_01, ↓bP_01, ↓zret0, ↓zret1, z_add, z_sub, z_mul, up_1, up_2, not_true, not_false_iff, if_true, if_false, bI_T, bI_F, bP_T, bP_F, Int.reduceNeg, Int.reduceAdd, Int.reduceSub, Int.reduceMul, Int.reduceEq, Int.reduceLT, Int.reduceLE, Int.natCast_add, Int.cast_ofNat_Int]
            · rw [ke_224 kc_46]
              simp (disch := omega) only [r_within, bP_t, bP_f, ev_iload, rx_istore, ev_iinc, ev_push, ev_iadd, ev_isub, ev_imul, rx_idiv, ev_goto, ev_jsr, rx_ige_t, rx_ige_f, rx_ile_t, rx_ile_f, rx_zeq_t, rx_zeq_f, rx_zne_t, rx_zne_f, ev_call, nr_i, nr_r, nr_l, nr_n, rx_iret, kb_224_0, kb_224_35, kb_224_36, kb_224_64, kb_224_67, kb_224_101, kb_224_102, kb_224_134, kb_224_136, kb_224_150, kb_224_152, kb_224_160, kb_224_170, kb_224_172, kr_224, List.getD_cons_zero, List.getD_cons_succ, List.set_cons_zero, List.set_cons_succ, ex_spl, ex_low, Option.toList, List.cons_append, List.nil_append, reduceIte, Int.reduceToNat, Nat.reduceDiv, Nat.reduceMod, Nat.reduceAdd, Nat.reduceMul, z_0, z_1, z_10, z_01, reduceCtorEq, ite_true, ite_false, true_and, and_true, ↓bI_01, ↓bP_01, ↓zret0, ↓zret1, z_add, z_sub, z_mul, up_1, up_2, not_true, not_false_iff, if_true, if_false, bI_T, bI_F, bP_T, bP_F, Int.reduceNeg, Int.reduceAdd, Int.reduceSub, Int.reduceMul, Int.reduceEq, Int.reduceLT, Int.reduceLE, Int.natCast_add, Int.cast_ofNat_Int]
              refine ex_loop (Q := fun r => r = some (some (.int (Int32.ofInt (if o = 0 then best else least))), w)) (fun i s => ∃ b l v10 v11, s = (ex_blk 224 77, [.ref 46, .int (Int32.ofInt v), .int (Int32.ofInt f), .int (Int32.ofInt t), .int (Int32.ofInt k), .int (Int32.ofInt o), .int (Int32.ofInt 1), .int (Int32.ofInt b), .int (Int32.ofInt l), .int (Int32.ofInt ((i : Int) + 1)), v10, v11], [], w) ∧ (xv v10 ∧ xv v11) ∧ ((i = 0 ∧ b = 0 ∧ l = 268435456) ∨ (1 ≤ i ∧ q_dm v f t k b l ((i : Int) + 1)))) 20 ?_ ?_ ?_
              · exact ⟨0, 268435456, .null, .null, rfl, ⟨xv_n, xv_n⟩, Or.inl ⟨rfl, rfl, rfl⟩⟩
              · rintro i s hi ⟨b, l, v10, v11, rfl, ⟨x10, x11⟩, hd⟩
                right
                have h0 := q_rs_r v2 v3 f2 f3 (show (1 : Int) ≤ (i : Int) + 1 by omega) (by omega)
                have h1 := q_du_r v2 v3 f2 f3 t2 t3 k2 k3 (show (1 : Int) ≤ (i : Int) + 1 by omega) (by omega)
                have hl : 0 ≤ l ∧ l ≤ 268435456 := by
                  rcases hd with ⟨a1, a2, a3⟩ | ⟨a1, a2⟩
                  · omega
                  · have := hq b a2.1 (by have := a2.2.1; omega)
                    rw [← a2.2.2.1] at this; omega
                have e1 : (i : Int) + 1 + 1 = ((i : Int) + 1) + 1 := rfl
                have edu : k * ((i : Int) + 1) + (t * q_rs v f ((i : Int) + 1) + 9) / 10 = q_du v f t k ((i : Int) + 1) := rfl
                have hrs : ∀ r : Int, r = q_rs v f ((i : Int) + 1) → (0 < v - f * ((i : Int) + 1) → r = v - f * ((i : Int) + 1)) ∧ (¬ 0 < v - f * ((i : Int) + 1) → r = 0) := by
                  intro r hr
                  unfold q_rs at hr
                  refine ⟨fun h => by rw [hr, if_pos h], fun h => by rw [hr, if_neg h]⟩
                by_cases hlt : q_du v f t k ((i : Int) + 1) < l
                · refine ⟨(ex_blk 224 77, [.ref 46, .int (Int32.ofInt v), .int (Int32.ofInt f), .int (Int32.ofInt t), .int (Int32.ofInt k), .int (Int32.ofInt o), .int (Int32.ofInt 1), .int (Int32.ofInt ((i : Int) + 1)), .int (Int32.ofInt (q_du v f t k ((i : Int) + 1))), .int (Int32.ofInt ((i : Int) + 1 + 1)), .int (Int32.ofInt (q_rs v f ((i : Int) + 1))), .int (Int32.ofInt (q_du v f t k ((i : Int) + 1)))], [], w), ?_, _, _, _, _, rfl, ⟨xv_i _, xv_i _⟩, Or.inr ⟨by omega, ?_⟩⟩
                  · conv => lhs; rw [kb_224_77]
                    by_cases hp : 0 < v - f * ((i : Int) + 1)
                    · have e := (hrs _ rfl).1 hp
                      simp (disch := omega) only [x10, x11, ← e, edu, ev_iload, rx_istore, ev_iinc, ev_push, ev_iadd, ev_isub, ev_imul, rx_idiv, ev_goto, ev_jsr, rx_ige_t, rx_ige_f, rx_ile_t, rx_ile_f, rx_zeq_t, rx_zeq_f, rx_zne_t, rx_zne_f, ev_call, nr_i, nr_r, nr_l, nr_n, rx_iret, kb_224_0, kb_224_35, kb_224_36, kb_224_64, kb_224_67, kb_224_101, kb_224_102, kb_224_134, kb_224_136, kb_224_150, kb_224_152, kb_224_160, kb_224_170, kb_224_172, kr_224, List.getD_cons_zero, List.getD_cons_succ, List.set_cons_zero, List.set_cons_succ, ex_spl, ex_low, Option.toList, List.cons_append, List.nil_append, reduceIte, Int.reduceToNat, Nat.reduceDiv, Nat.reduceMod, Nat.reduceAdd, Nat.reduceMul, z_0, z_1, z_10, z_01, reduceCtorEq, ite_true, ite_false, true_and, and_true, ↓bI_01, ↓bP_01, ↓zret0, ↓zret1, z_add, z_sub, z_mul, up_1, up_2, not_true, not_false_iff, if_true, if_false, bI_T, bI_F, bP_T, bP_F, Int.reduceNeg, Int.reduceAdd, Int.reduceSub, Int.reduceMul, Int.reduceEq, Int.reduceLT, Int.reduceLE, Int.natCast_add, Int.cast_ofNat_Int]
                    · have e := (hrs _ rfl).2 hp
                      have edu2 : k * ((i : Int) + 1) + (t * 0 + 9) / 10 = q_du v f t k ((i : Int) + 1) := by rw [← e]; rfl
                      rw [e] at h1 ⊢
                      simp (disch := omega) only [x10, x11, edu2, ev_iload, rx_istore, ev_iinc, ev_push, ev_iadd, ev_isub, ev_imul, rx_idiv, ev_goto, ev_jsr, rx_ige_t, rx_ige_f, rx_ile_t, rx_ile_f, rx_zeq_t, rx_zeq_f, rx_zne_t, rx_zne_f, ev_call, nr_i, nr_r, nr_l, nr_n, rx_iret, kb_224_0, kb_224_35, kb_224_36, kb_224_64, kb_224_67, kb_224_101, kb_224_102, kb_224_134, kb_224_136, kb_224_150, kb_224_152, kb_224_160, kb_224_170, kb_224_172, kr_224, List.getD_cons_zero, List.getD_cons_succ, List.set_cons_zero, List.set_cons_succ, ex_spl, ex_low, Option.toList, List.cons_append, List.nil_append, reduceIte, Int.reduceToNat, Nat.reduceDiv, Nat.reduceMod, Nat.reduceAdd, Nat.reduceMul, z_0, z_1, z_10, z_01, reduceCtorEq, ite_true, ite_false, true_and, and_true, ↓bI_01, ↓bP_01, ↓zret0, ↓zret1, z_add, z_sub, z_mul, up_1, up_2, not_true, not_false_iff, if_true, if_false, bI_T, bI_F, bP_T, bP_F, Int.reduceNeg, Int.reduceAdd, Int.reduceSub, Int.reduceMul, Int.reduceEq, Int.reduceLT, Int.reduceLE, Int.natCast_add, Int.cast_ofNat_Int]
                  · rcases hd with ⟨a1, a2, a3⟩ | ⟨a1, a2⟩
                    · subst a1; exact q_dm_1
                    · exact q_dm_t a2 hlt
                · refine ⟨(ex_blk 224 77, [.ref 46, .int (Int32.ofInt v), .int (Int32.ofInt f), .int (Int32.ofInt t), .int (Int32.ofInt k), .int (Int32.ofInt o), .int (Int32.ofInt 1), .int (Int32.ofInt b), .int (Int32.ofInt l), .int (Int32.ofInt ((i : Int) + 1 + 1)), .int (Int32.ofInt (q_rs v f ((i : Int) + 1))), .int (Int32.ofInt (q_du v f t k ((i : Int) + 1)))], [], w), ?_, _, _, _, _, rfl, ⟨xv_i _, xv_i _⟩, Or.inr ⟨by omega, ?_⟩⟩
                  · conv => lhs; rw [kb_224_77]
                    by_cases hp : 0 < v - f * ((i : Int) + 1)
                    · have e := (hrs _ rfl).1 hp
                      simp (disch := omega) only [x10, x11, ← e, edu, ev_iload, rx_istore, ev_iinc, ev_push, ev_iadd, ev_isub, ev_imul, rx_idiv, ev_goto, ev_jsr, rx_ige_t, rx_ige_f, rx_ile_t, rx_ile_f, rx_zeq_t, rx_zeq_f, rx_zne_t, rx_zne_f, ev_call, nr_i, nr_r, nr_l, nr_n, rx_iret, kb_224_0, kb_224_35, kb_224_36, kb_224_64, kb_224_67, kb_224_101, kb_224_102, kb_224_134, kb_224_136, kb_224_150, kb_224_152, kb_224_160, kb_224_170, kb_224_172, kr_224, List.getD_cons_zero, List.getD_cons_succ, List.set_cons_zero, List.set_cons_succ, ex_spl, ex_low, Option.toList, List.cons_append, List.nil_append, reduceIte, Int.reduceToNat, Nat.reduceDiv, Nat.reduceMod, Nat.reduceAdd, Nat.reduceMul, z_0, z_1, z_10, z_01, reduceCtorEq, ite_true, ite_false, true_and, and_true, ↓bI_01, ↓bP_01, ↓zret0, ↓zret1, z_add, z_sub, z_mul, up_1, up_2, not_true, not_false_iff, if_true, if_false, bI_T, bI_F, bP_T, bP_F, Int.reduceNeg, Int.reduceAdd, Int.reduceSub, Int.reduceMul, Int.reduceEq, Int.reduceLT, Int.reduceLE, Int.natCast_add, Int.cast_ofNat_Int]
                    · have e := (hrs _ rfl).2 hp
                      have edu2 : k * ((i : Int) + 1) + (t * 0 + 9) / 10 = q_du v f t k ((i : Int) + 1) := by rw [← e]; rfl
                      rw [e] at h1 ⊢
                      simp (disch := omega) only [x10, x11, edu2, ev_iload, rx_istore, ev_iinc, ev_push, ev_iadd, ev_isub, ev_imul, rx_idiv, ev_goto, ev_jsr, rx_ige_t, rx_ige_f, rx_ile_t, rx_ile_f, rx_zeq_t, rx_zeq_f, rx_zne_t, rx_zne_f, ev_call, nr_i, nr_r, nr_l, nr_n, rx_iret, kb_224_0, kb_224_35, kb_224_36, kb_224_64, kb_224_67, kb_224_101, kb_224_102, kb_224_134, kb_224_136, kb_224_150, kb_224_152, kb_224_160, kb_224_170, kb_224_172, kr_224, List.getD_cons_zero, List.getD_cons_succ, List.set_cons_zero, List.set_cons_succ, ex_spl, ex_low, Option.toList, List.cons_append, List.nil_append, reduceIte, Int.reduceToNat, Nat.reduceDiv, Nat.reduceMod, Nat.reduceAdd, Nat.reduceMul, z_0, z_1, z_10, z_01, reduceCtorEq, ite_true, ite_false, true_and, and_true, ↓bI_01, ↓bP_01, ↓zret0, ↓zret1, z_add, z_sub, z_mul, up_1, up_2, not_true, not_false_iff, if_true, if_false, bI_T, bI_F, bP_T, bP_F, Int.reduceNeg, Int.reduceAdd, Int.reduceSub, Int.reduceMul, Int.reduceEq, Int.reduceLT, Int.reduceLE, Int.natCast_add, Int.cast_ofNat_Int]
                  · rcases hd with ⟨a1, a2, a3⟩ | ⟨a1, a2⟩
                    · have := hq ((i : Int) + 1) (by omega) (by omega); omega
                    · exact q_dm_s a2 hlt
              · rintro s ⟨b, l, v10, v11, rfl, ⟨x10, x11⟩, hd⟩
                rcases hd with ⟨a1, a2, a3⟩ | ⟨a1, a2⟩
                · omega
                · obtain ⟨rfl, rfl⟩ := q_dm_u hb a2
                  rw [kb_224_77]
                  by_cases hoo : o = 0
                  · rw [if_pos hoo]
                    simp (disch := omega) only [ev_iload, rx_istore, ev_iinc, ev_push, ev_iadd, ev_isub, ev_imul, rx_idiv, ev_goto, ev_jsr, rx_ige_t, rx_ige_f, rx_ile_t, rx_ile_f, rx_zeq_t, rx_zeq_f, rx_zne_t, rx_zne_f, ev_call, nr_i, nr_r, nr_l, nr_n, rx_iret, kb_224_0, kb_224_35, kb_224_36, kb_224_64, kb_224_67, kb_224_101, kb_224_102, kb_224_134, kb_224_136, kb_224_150, kb_224_152, kb_224_160, kb_224_170, kb_224_172, kr_224, List.getD_cons_zero, List.getD_cons_succ, List.set_cons_zero, List.set_cons_succ, ex_spl, ex_low, Option.toList, List.cons_append, List.nil_append, reduceIte, Int.reduceToNat, Nat.reduceDiv, Nat.reduceMod, Nat.reduceAdd, Nat.reduceMul, z_0, z_1, z_10, z_01, reduceCtorEq, ite_true, ite_false, true_and, and_true, ↓bI_01, ↓bP_01, ↓zret0, ↓zret1, z_add, z_sub, z_mul, up_1, up_2, not_true, not_false_iff, if_true, if_false, bI_T, bI_F, bP_T, bP_F, Int.reduceNeg, Int.reduceAdd, Int.reduceSub, Int.reduceMul, Int.reduceEq, Int.reduceLT, Int.reduceLE, Int.natCast_add, Int.cast_ofNat_Int]
                  · rw [if_neg hoo]
                    simp (disch := omega) only [ev_iload, rx_istore, ev_iinc, ev_push, ev_iadd, ev_isub, ev_imul, rx_idiv, ev_goto, ev_jsr, rx_ige_t, rx_ige_f, rx_ile_t, rx_ile_f, rx_zeq_t, rx_zeq_f, rx_zne_t, rx_zne_f, ev_call, nr_i, nr_r, nr_l, nr_n, rx_iret, kb_224_0, kb_224_35, kb_224_36, kb_224_64, kb_224_67, kb_224_101, kb_224_102, kb_224_134, kb_224_136, kb_224_150, kb_224_152, kb_224_160, kb_224_170, kb_224_172, kr_224, List.getD_cons_zero, List.getD_cons_succ, List.set_cons_zero, List.set_cons_succ, ex_spl, ex_low, Option.toList, List.cons_append, List.nil_append, reduceIte, Int.reduceToNat, Nat.reduceDiv, Nat.reduceMod, Nat.reduceAdd, Nat.reduceMul, z_0, z_1, z_10, z_01, reduceCtorEq, ite_true, ite_false, true_and, and_true, ↓bI_01, ↓bP_01, ↓zret0, ↓zret1, z_add, z_sub, z_mul, up_1, up_2, not_true, not_false_iff, if_true, if_false, bI_T, bI_F, bP_T, bP_F, Int.reduceNeg, Int.reduceAdd, Int.reduceSub, Int.reduceMul, Int.reduceEq, Int.reduceLT, Int.reduceLE, Int.natCast_add, Int.cast_ofNat_Int]
          · refine q_ask hV (.int (Int32.ofInt (-102))) (fun d w hC => ⟨w, ?_, sC_r w⟩) (fun d w hM => ⟨w, ?_, sM_r w⟩)
            · rw [ke_122 kc_0]
              simp (disch := omega) only [m_below, bI_t, bI_f, ev_iload, rx_istore, ev_iinc, ev_push, ev_goto, ev_jsr, rx_ige_t, rx_ige_f, rx_igt_t, rx_igt_f, rx_zeq_t, rx_zeq_f, rx_zne_t, rx_zne_f, ev_call, nr_i, nr_r, nr_l, nr_n, rx_iret, kb_122_0, kb_122_47, kb_122_50, kb_122_101, kb_122_107, kb_122_117, kb_122_119, kr_122, List.getD_cons_zero, List.getD_cons_succ, List.set_cons_zero, List.set_cons_succ, ex_spl, ex_low, Option.toList, List.cons_append, List.nil_append, reduceIte, Int.reduceToNat, Nat.reduceDiv, Nat.reduceMod, Nat.reduceAdd, Nat.reduceMul, z_0, z_1, z_10, z_01, reduceCtorEq, ite_true, ite_false, true_and, and_true, ↓bI_01, ↓bP_01, ↓zret0, ↓zret1, z_add, z_sub, z_mul, up_1, up_2, not_true, not_false_iff, if_true, if_false, bI_T, bI_F, bP_T, bP_F, Int.reduceNeg, Int.reduceAdd, Int.reduceSub, Int.reduceMul, Int.reduceEq, Int.reduceLT, Int.reduceLE, Int.natCast_add, Int.cast_ofNat_Int]
            · rw [ke_224 kc_46]
              simp (disch := omega) only [r_within, bP_t, bP_f, ev_iload, rx_istore, ev_iinc, ev_push, ev_iadd, ev_isub, ev_imul, rx_idiv, ev_goto, ev_jsr, rx_ige_t, rx_ige_f, rx_ile_t, rx_ile_f, rx_zeq_t, rx_zeq_f, rx_zne_t, rx_zne_f, ev_call, nr_i, nr_r, nr_l, nr_n, rx_iret, kb_224_0, kb_224_35, kb_224_36, kb_224_64, kb_224_67, kb_224_101, kb_224_102, kb_224_134, kb_224_136, kb_224_150, kb_224_152, kb_224_160, kb_224_170, kb_224_172, kr_224, List.getD_cons_zero, List.getD_cons_succ, List.set_cons_zero, List.set_cons_succ, ex_spl, ex_low, Option.toList, List.cons_append, List.nil_append, reduceIte, Int.reduceToNat, Nat.reduceDiv, Nat.reduceMod, Nat.reduceAdd, Nat.reduceMul, z_0, z_1, z_10, z_01, reduceCtorEq, ite_true, ite_false, true_and, and_true, ↓bI_01, ↓bP_01, ↓zret0, ↓zret1, z_add, z_sub, z_mul, up_1, up_2, not_true, not_false_iff, if_true, if_false, bI_T, bI_F, bP_T, bP_F, Int.reduceNeg, Int.reduceAdd, Int.reduceSub, Int.reduceMul, Int.reduceEq, Int.reduceLT, Int.reduceLE, Int.natCast_add, Int.cast_ofNat_Int]
        · refine q_ask hV (.int (Int32.ofInt (-102))) (fun d w hC => ⟨w, ?_, sC_r w⟩) (fun d w hM => ⟨w, ?_, sM_r w⟩)
          · rw [ke_122 kc_0]
            simp (disch := omega) only [m_below, bI_t, bI_f, ev_iload, rx_istore, ev_iinc, ev_push, ev_goto, ev_jsr, rx_ige_t, rx_ige_f, rx_igt_t, rx_igt_f, rx_zeq_t, rx_zeq_f, rx_zne_t, rx_zne_f, ev_call, nr_i, nr_r, nr_l, nr_n, rx_iret, kb_122_0, kb_122_47, kb_122_50, kb_122_101, kb_122_107, kb_122_117, kb_122_119, kr_122, List.getD_cons_zero, List.getD_cons_succ, List.set_cons_zero, List.set_cons_succ, ex_spl, ex_low, Option.toList, List.cons_append, List.nil_append, reduceIte, Int.reduceToNat, Nat.reduceDiv, Nat.reduceMod, Nat.reduceAdd, Nat.reduceMul, z_0, z_1, z_10, z_01, reduceCtorEq, ite_true, ite_false, true_and, and_true, ↓bI_01, ↓bP_01, ↓zret0, ↓zret1, z_add, z_sub, z_mul, up_1, up_2, not_true, not_false_iff, if_true, if_false, bI_T, bI_F, bP_T, bP_F, Int.reduceNeg, Int.reduceAdd, Int.reduceSub, Int.reduceMul, Int.reduceEq, Int.reduceLT, Int.reduceLE, Int.natCast_add, Int.cast_ofNat_Int]
          · rw [ke_224 kc_46]
            simp (disch := omega) only [r_within, bP_t, bP_f, ev_iload, rx_istore, ev_iinc, ev_push, ev_iadd, ev_isub, ev_imul, rx_idiv, ev_goto, ev_jsr, rx_ige_t, rx_ige_f, rx_ile_t, rx_ile_f, rx_zeq_t, rx_zeq_f, rx_zne_t, rx_zne_f, ev_call, nr_i, nr_r, nr_l, nr_n, rx_iret, kb_224_0, kb_224_35, kb_224_36, kb_224_64, kb_224_67, kb_224_101, kb_224_102, kb_224_134, kb_224_136, kb_224_150, kb_224_152, kb_224_160, kb_224_170, kb_224_172, kr_224, List.getD_cons_zero, List.getD_cons_succ, List.set_cons_zero, List.set_cons_succ, ex_spl, ex_low, Option.toList, List.cons_append, List.nil_append, reduceIte, Int.reduceToNat, Nat.reduceDiv, Nat.reduceMod, Nat.reduceAdd, Nat.reduceMul, z_0, z_1, z_10, z_01, reduceCtorEq, ite_true, ite_false, true_and, and_true, ↓bI_01, ↓bP_01, ↓zret0, ↓zret1, z_add, z_sub, z_mul, up_1, up_2, not_true, not_false_iff, if_true, if_false, bI_T, bI_F, bP_T, bP_F, Int.reduceNeg, Int.reduceAdd, Int.reduceSub, Int.reduceMul, Int.reduceEq, Int.reduceLT, Int.reduceLE, Int.natCast_add, Int.cast_ofNat_Int]
      · refine q_ask hV (.int (Int32.ofInt (-102))) (fun d w hC => ⟨w, ?_, sC_r w⟩) (fun d w hM => ⟨w, ?_, sM_r w⟩)
        · rw [ke_122 kc_0]
          simp (disch := omega) only [m_below, bI_t, bI_f, ev_iload, rx_istore, ev_iinc, ev_push, ev_goto, ev_jsr, rx_ige_t, rx_ige_f, rx_igt_t, rx_igt_f, rx_zeq_t, rx_zeq_f, rx_zne_t, rx_zne_f, ev_call, nr_i, nr_r, nr_l, nr_n, rx_iret, kb_122_0, kb_122_47, kb_122_50, kb_122_101, kb_122_107, kb_122_117, kb_122_119, kr_122, List.getD_cons_zero, List.getD_cons_succ, List.set_cons_zero, List.set_cons_succ, ex_spl, ex_low, Option.toList, List.cons_append, List.nil_append, reduceIte, Int.reduceToNat, Nat.reduceDiv, Nat.reduceMod, Nat.reduceAdd, Nat.reduceMul, z_0, z_1, z_10, z_01, reduceCtorEq, ite_true, ite_false, true_and, and_true, ↓bI_01, ↓bP_01, ↓zret0, ↓zret1, z_add, z_sub, z_mul, up_1, up_2, not_true, not_false_iff, if_true, if_false, bI_T, bI_F, bP_T, bP_F, Int.reduceNeg, Int.reduceAdd, Int.reduceSub, Int.reduceMul, Int.reduceEq, Int.reduceLT, Int.reduceLE, Int.natCast_add, Int.cast_ofNat_Int]
        · rw [ke_224 kc_46]
          simp (disch := omega) only [r_within, bP_t, bP_f, ev_iload, rx_istore, ev_iinc, ev_push, ev_iadd, ev_isub, ev_imul, rx_idiv, ev_goto, ev_jsr, rx_ige_t, rx_ige_f, rx_ile_t, rx_ile_f, rx_zeq_t, rx_zeq_f, rx_zne_t, rx_zne_f, ev_call, nr_i, nr_r, nr_l, nr_n, rx_iret, kb_224_0, kb_224_35, kb_224_36, kb_224_64, kb_224_67, kb_224_101, kb_224_102, kb_224_134, kb_224_136, kb_224_150, kb_224_152, kb_224_160, kb_224_170, kb_224_172, kr_224, List.getD_cons_zero, List.getD_cons_succ, List.set_cons_zero, List.set_cons_succ, ex_spl, ex_low, Option.toList, List.cons_append, List.nil_append, reduceIte, Int.reduceToNat, Nat.reduceDiv, Nat.reduceMod, Nat.reduceAdd, Nat.reduceMul, z_0, z_1, z_10, z_01, reduceCtorEq, ite_true, ite_false, true_and, and_true, ↓bI_01, ↓bP_01, ↓zret0, ↓zret1, z_add, z_sub, z_mul, up_1, up_2, not_true, not_false_iff, if_true, if_false, bI_T, bI_F, bP_T, bP_F, Int.reduceNeg, Int.reduceAdd, Int.reduceSub, Int.reduceMul, Int.reduceEq, Int.reduceLT, Int.reduceLE, Int.natCast_add, Int.cast_ofNat_Int]
    · refine q_ask hV (.int (Int32.ofInt (-102))) (fun d w hC => ⟨w, ?_, sC_r w⟩) (fun d w hM => ⟨w, ?_, sM_r w⟩)
      · rw [ke_122 kc_0]
        simp (disch := omega) only [m_below, bI_t, bI_f, ev_iload, rx_istore, ev_iinc, ev_push, ev_goto, ev_jsr, rx_ige_t, rx_ige_f, rx_igt_t, rx_igt_f, rx_zeq_t, rx_zeq_f, rx_zne_t, rx_zne_f, ev_call, nr_i, nr_r, nr_l, nr_n, rx_iret, kb_122_0, kb_122_47, kb_122_50, kb_122_101, kb_122_107, kb_122_117, kb_122_119, kr_122, List.getD_cons_zero, List.getD_cons_succ, List.set_cons_zero, List.set_cons_succ, ex_spl, ex_low, Option.toList, List.cons_append, List.nil_append, reduceIte, Int.reduceToNat, Nat.reduceDiv, Nat.reduceMod, Nat.reduceAdd, Nat.reduceMul, z_0, z_1, z_10, z_01, reduceCtorEq, ite_true, ite_false, true_and, and_true, ↓bI_01, ↓bP_01, ↓zret0, ↓zret1, z_add, z_sub, z_mul, up_1, up_2, not_true, not_false_iff, if_true, if_false, bI_T, bI_F, bP_T, bP_F, Int.reduceNeg, Int.reduceAdd, Int.reduceSub, Int.reduceMul, Int.reduceEq, Int.reduceLT, Int.reduceLE, Int.natCast_add, Int.cast_ofNat_Int]
      · rw [ke_224 kc_46]
        simp (disch := omega) only [r_within, bP_t, bP_f, ev_iload, rx_istore, ev_iinc, ev_push, ev_iadd, ev_isub, ev_imul, rx_idiv, ev_goto, ev_jsr, rx_ige_t, rx_ige_f, rx_ile_t, rx_ile_f, rx_zeq_t, rx_zeq_f, rx_zne_t, rx_zne_f, ev_call, nr_i, nr_r, nr_l, nr_n, rx_iret, kb_224_0, kb_224_35, kb_224_36, kb_224_64, kb_224_67, kb_224_101, kb_224_102, kb_224_134, kb_224_136, kb_224_150, kb_224_152, kb_224_160, kb_224_170, kb_224_172, kr_224, List.getD_cons_zero, List.getD_cons_succ, List.set_cons_zero, List.set_cons_succ, ex_spl, ex_low, Option.toList, List.cons_append, List.nil_append, reduceIte, Int.reduceToNat, Nat.reduceDiv, Nat.reduceMod, Nat.reduceAdd, Nat.reduceMul, z_0, z_1, z_10, z_01, reduceCtorEq, ite_true, ite_false, true_and, and_true, ↓bI_01, ↓bP_01, ↓zret0, ↓zret1, z_add, z_sub, z_mul, up_1, up_2, not_true, not_false_iff, if_true, if_false, bI_T, bI_F, bP_T, bP_F, Int.reduceNeg, Int.reduceAdd, Int.reduceSub, Int.reduceMul, Int.reduceEq, Int.reduceLT, Int.reduceLE, Int.natCast_add, Int.cast_ofNat_Int]
  · refine q_ask hV (.int (Int32.ofInt (-102))) (fun d w hC => ⟨w, ?_, sC_r w⟩) (fun d w hM => ⟨w, ?_, sM_r w⟩)
    · rw [ke_122 kc_0]
      simp (disch := omega) only [m_below, bI_t, bI_f, ev_iload, rx_istore, ev_iinc, ev_push, ev_goto, ev_jsr, rx_ige_t, rx_ige_f, rx_igt_t, rx_igt_f, rx_zeq_t, rx_zeq_f, rx_zne_t, rx_zne_f, ev_call, nr_i, nr_r, nr_l, nr_n, rx_iret, kb_122_0, kb_122_47, kb_122_50, kb_122_101, kb_122_107, kb_122_117, kb_122_119, kr_122, List.getD_cons_zero, List.getD_cons_succ, List.set_cons_zero, List.set_cons_succ, ex_spl, ex_low, Option.toList, List.cons_append, List.nil_append, reduceIte, Int.reduceToNat, Nat.reduceDiv, Nat.reduceMod, Nat.reduceAdd, Nat.reduceMul, z_0, z_1, z_10, z_01, reduceCtorEq, ite_true, ite_false, true_and, and_true, ↓bI_01, ↓bP_01, ↓zret0, ↓zret1, z_add, z_sub, z_mul, up_1, up_2, not_true, not_false_iff, if_true, if_false, bI_T, bI_F, bP_T, bP_F, Int.reduceNeg, Int.reduceAdd, Int.reduceSub, Int.reduceMul, Int.reduceEq, Int.reduceLT, Int.reduceLE, Int.natCast_add, Int.cast_ofNat_Int]
    · rw [ke_224 kc_46]
      simp (disch := omega) only [r_within, bP_t, bP_f, ev_iload, rx_istore, ev_iinc, ev_push, ev_iadd, ev_isub, ev_imul, rx_idiv, ev_goto, ev_jsr, rx_ige_t, rx_ige_f, rx_ile_t, rx_ile_f, rx_zeq_t, rx_zeq_f, rx_zne_t, rx_zne_f, ev_call, nr_i, nr_r, nr_l, nr_n, rx_iret, kb_224_0, kb_224_35, kb_224_36, kb_224_64, kb_224_67, kb_224_101, kb_224_102, kb_224_134, kb_224_136, kb_224_150, kb_224_152, kb_224_160, kb_224_170, kb_224_172, kr_224, List.getD_cons_zero, List.getD_cons_succ, List.set_cons_zero, List.set_cons_succ, ex_spl, ex_low, Option.toList, List.cons_append, List.nil_append, reduceIte, Int.reduceToNat, Nat.reduceDiv, Nat.reduceMod, Nat.reduceAdd, Nat.reduceMul, z_0, z_1, z_10, z_01, reduceCtorEq, ite_true, ite_false, true_and, and_true, ↓bI_01, ↓bP_01, ↓zret0, ↓zret1, z_add, z_sub, z_mul, up_1, up_2, not_true, not_false_iff, if_true, if_false, bI_T, bI_F, bP_T, bP_F, Int.reduceNeg, Int.reduceAdd, Int.reduceSub, Int.reduceMul, Int.reduceEq, Int.reduceLT, Int.reduceLE, Int.natCast_add, Int.cast_ofNat_Int]
