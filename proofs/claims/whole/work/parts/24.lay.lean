/-! the reference: steps laid from a cell -/
def p_bf (e : Int → Int → Int → Prop) (f M : Int) (G q : Int → Int) (K k : Int) : Prop := p_ok e f M G ∧ K = p_k M G ∧ 0 ≤ k ∧ k ≤ K ∧ (∀ i, 0 ≤ i → i < K → 0 ≤ q i ∧ q i < 24 ∧ G (q i) < M) ∧ (∀ c, 0 ≤ c → c < 24 → G c < M → ∃ i, 0 ≤ i ∧ i < K ∧ q i = c) ∧ (∀ i j, 0 ≤ i → i ≤ j → j < K → G (q i) ≤ G (q j)) ∧ (∀ j, 0 ≤ j → j < K → k < K → G (q j) ≤ G (q k) + 1) ∧ (∀ i c s, 0 ≤ i → i < k → e (q i) c s → G c ≤ G (q i) + s)
theorem p_bf_visit {e : Int → Int → Int → Prop} (he : p_ed e) {f M : Int} (hM : 300 ≤ M) {G q : Int → Int} {K k c : Int} (h : p_bf e f M G q K k) (hk : k < K) (hs : e (q k) c 1) (hc : ¬ G c < M) : p_bf e f M (q_fu G c (G (q k) + 1)) (q_fu q K c) (K + 1) k ∧ K < 24 ∧ q_fu q K c k = q k ∧ q_fu G c (G (q k) + 1) (q k) = G (q k) := by
  obtain ⟨h1, h2, h3, h4, h5, h6, h7, h8, h9⟩ := h
  have hcr := he _ _ _ hs
  have hu := h5 k h3 hk
  have hbu := p_bd h1 hu.1 hu.2.1
  have hbc := p_bd h1 hcr.1 hcr.2.1
  have hl : G (q k) + 1 < G c := by omega
  have hne : ∀ i, 0 ≤ i → i < K → ¬ q i = c := fun i i0 i1 hi => hc (by rw [← hi]; exact (h5 i i0 i1).2.2)
  have hK : ∀ i, i < K → q_fu q K c i = q i := fun i hi => q_fu_o (by omega)
  have hG : ∀ i, 0 ≤ i → i < K → q_fu G c (G (q k) + 1) (q i) = G (q i) := fun i i0 i1 => q_fu_o (hne i i0 i1)
  refine ⟨⟨(p_rel he hM h1 hs hu.1 hu.2.1 hu.2.2 hl).1, ?_, h3, by omega, ?_, ?_, ?_, ?_, ?_⟩, ?_, hK k hk, hG k h3 hk⟩
  · rw [p_k_n hcr.1 hcr.2.1 (by omega) hc, h2]
  · intro i i0 i1
    by_cases hi : i < K
    · rw [hK i hi, hG i i0 hi]; exact h5 i i0 hi
    · have : i = K := by omega
      rw [this, q_fu_s, q_fu_s]; omega
  · intro c' c0 c1 hl'
    by_cases hcc : c' = c
    · exact ⟨K, by omega, by omega, by rw [q_fu_s, hcc]⟩
    · rw [q_fu_o hcc] at hl'
      obtain ⟨i, i0, i1, i2⟩ := h6 c' c0 c1 hl'
      exact ⟨i, i0, by omega, by rw [hK i i1]; exact i2⟩
  · intro i j i0 ij j1
    by_cases hj : j < K
    · rw [hK i (by omega), hK j hj, hG i i0 (by omega), hG j (by omega) hj]; exact h7 i j i0 ij hj
    · have : j = K := by omega
      by_cases hi : i < K
      · rw [this, q_fu_s, q_fu_s, hK i hi, hG i i0 hi]; exact h8 i i0 hi hk
      · have : i = j := by omega
        rw [this]; exact Int.le_refl _
  · intro j j0 j1 _
    rw [hK k hk, hG k h3 hk]
    by_cases hj : j < K
    · rw [hK j hj, hG j j0 hj]; exact h8 j j0 hj hk
    · have : j = K := by omega
      rw [this, q_fu_s, q_fu_s]; exact Int.le_refl _
  · intro i c' s i0 i1 hs'
    rw [hK i (by omega)] at hs' ⊢
    rw [hG i i0 (by omega)]
    by_cases hcc : c' = c
    · have := h9 i c s i0 i1 (by rw [← hcc]; exact hs')
      rw [hcc, q_fu_s]; omega
    · rw [q_fu_o hcc]; exact h9 i c' s i0 i1 hs'
  · rw [h2]; exact p_k23 hcr.1 hcr.2.1 hc
theorem p_bf_next {e : Int → Int → Int → Prop} {f M : Int} {G q : Int → Int} {K k : Int} (h : p_bf e f M G q K k) (hk : k < K) (hc : ∀ c s, e (q k) c s → G c ≤ G (q k) + s) : p_bf e f M G q K (k + 1) := by
  obtain ⟨h1, h2, h3, h4, h5, h6, h7, h8, h9⟩ := h
  refine ⟨h1, h2, by omega, by omega, h5, h6, h7, fun j j0 j1 hk1 => ?_, fun i c s i0 i1 hs => ?_⟩
  · have := h8 j j0 j1 hk
    have := h7 k (k + 1) h3 (by omega) hk1
    omega
  · by_cases hi : i = k
    · rw [hi] at hs ⊢; exact hc c s hs
    · exact h9 i c s i0 (by omega) hs
theorem p_bf_start {e : Int → Int → Int → Prop} {f M : Int} (f0 : 0 ≤ f) (f1 : f < 24) (hM : 300 ≤ M) {G q : Int → Int} (hG : ∀ c, G c = if c = f then 0 else M) (hq : q 0 = f) : p_bf e f M G q 1 0 := by
  have hs := p_start (e := e) f0 f1 hM hG
  have hGf : G f = 0 := by rw [hG, if_pos rfl]
  refine ⟨hs.1, hs.2.symm, by omega, by omega, fun i i0 i1 => ?_, fun c c0 c1 hc => ?_, fun i j i0 ij j1 => ?_, fun j j0 j1 _ => ?_, fun i c s i0 i1 => absurd i1 (by omega)⟩
  · have : i = 0 := by omega
    rw [this, hq, hGf]; omega
  · refine ⟨0, by omega, by omega, ?_⟩
    rw [hG] at hc
    by_cases h : c = f
    · rw [hq, h]
    · rw [if_neg h] at hc; omega
  · have : i = j := by omega
    rw [this]; exact Int.le_refl _
  · have : j = 0 := by omega
    rw [this]; omega
theorem p_bf_done {e : Int → Int → Int → Prop} {f M : Int} {G q : Int → Int} {K : Int} (h : p_bf e f M G q K K) : ∀ u c s, e u c s → 0 ≤ u → u < 24 → G u < M → G c ≤ G u + s := by
  obtain ⟨h1, h2, h3, h4, h5, h6, h7, h8, h9⟩ := h
  intro u c s hs u0 u1 hu
  obtain ⟨i, i0, i1, i2⟩ := h6 u u0 u1 hu
  rw [← i2] at hs ⊢
  exact h9 i c s i0 i1 hs
theorem q_ed_1 {A : AS} {f : Int} {b : Int → Prop} {u c s : Int} (h : q_ed A f 0 b u c s) : s = 1 := by
  obtain ⟨v, h1, h2, h3, h4, h5, h6⟩ := h
  rw [h6]; split <;> rfl
def rQ (w : PW) (q : Int → Int) (K : Int) : Prop := ∀ i, 0 ≤ i → i < K → w.1 70 i.toNat = Int32.ofInt (q i)
theorem rQ_u {w : PW} {q : Int → Int} {K x : Int} (h : rQ w q K) (h0 : 0 ≤ K) : rQ (ex_up w 70 K.toNat (Int32.ofInt x)) (q_fu q K x) (K + 1) := by
  intro i i0 i1
  rw [up_1]
  by_cases hi : i = K
  · subst hi; rw [if_pos ⟨rfl, rfl⟩, q_fu_s]
  · rw [if_neg (by omega), q_fu_o hi]; exact h i i0 (by omega)
theorem rQ_o {w : PW} {q : Int → Int} {K : Int} {o k : Nat} {x : Int32} (h : rQ w q K) (ho : ¬ o = 70) : rQ (ex_up w o k x) q K := by
  intro i i0 i1
  rw [up_1, if_neg (by omega)]; exact h i i0 i1
theorem rG_o {o o' k : Nat} {w : PW} {G : Int → Int} {x : Int32} (h : rG o w G) (ho : ¬ o = o') : rG o (ex_up w o' k x) G := by
  intro i i0 i1
  rw [up_1, if_neg (fun hh => ho hh.1)]; exact h i i0 i1
/-- the four ways of one cell -/
theorem r_layWays {d : Nat} {A : AS} {b : Int} {w : PW} (hV : q_vh A) (hM : rN A b w) {f u K k : Int} {B : Int → Prop} {G q : Int → Int} (f0 : 0 ≤ f) (f1 : f < A 0 15) (ar : Int32) (hG : rG 69 w G) (hQ : rQ w q K) (hb : p_bf (q_ed A f 0 B) f 268435456 G q K k) (hk : k < K) (hu : q k = u) (hub : u = f ∨ ¬ B u) (v8 : Value) (x8 : xv v8) : ∃ s', ex_ev (d + 5) (ex_cal (d + 5)) 177 (ex_blk 177 86, [.ref 46, .int (Int32.ofInt f), .int ar, .int (Int32.ofInt K), .int (Int32.ofInt k), .int (Int32.ofInt u), .int (Int32.ofInt 1), .int (Int32.ofInt 0), v8], [], w) = ex_ev (d + 5) (ex_cal (d + 5)) 177 s' ∧ ∃ w1 G1 q1 K1 v8, s' = (ex_blk 177 86, [.ref 46, .int (Int32.ofInt f), .int ar, .int (Int32.ofInt K1), .int (Int32.ofInt k), .int (Int32.ofInt u), .int (Int32.ofInt 1), .int (Int32.ofInt ((4 : Nat) : Int)), v8], [], w1) ∧ xv v8 ∧ sQ w w1 ∧ rG 69 w1 G1 ∧ rQ w1 q1 K1 ∧ p_bf (q_ed A f 0 B) f 268435456 G1 q1 K1 k ∧ k < K1 ∧ q1 k = u ∧ (∀ v c : Int, 0 ≤ v → v < ((4 : Nat) : Int) → q_nx A u v = c → q_op A c → G1 c ≤ G1 u + 1) := by
  have hr := q_rnh hV
  have he := q_ed_r hV (t := 0) (by omega) (by omega) (f := f) (b := B)
  refine ex_iterI (fun j s' => ∃ w1 G1 q1 K1 v8, s' = (ex_blk 177 86, [.ref 46, .int (Int32.ofInt f), .int ar, .int (Int32.ofInt K1), .int (Int32.ofInt k), .int (Int32.ofInt u), .int (Int32.ofInt 1), .int (Int32.ofInt (j : Int)), v8], [], w1) ∧ xv v8 ∧ sQ w w1 ∧ rG 69 w1 G1 ∧ rQ w1 q1 K1 ∧ p_bf (q_ed A f 0 B) f 268435456 G1 q1 K1 k ∧ k < K1 ∧ q1 k = u ∧ (∀ v c : Int, 0 ≤ v → v < (j : Int) → q_nx A u v = c → q_op A c → G1 c ≤ G1 u + 1)) (a := 0) (n := 4) (Nat.zero_le _) ?_ ?_
  · exact ⟨w, G, q, K, v8, rfl, x8, sQ_r w, hG, hQ, hb, hk, hu, fun v c h0 h1 => absurd h1 (by omega)⟩
  · rintro j s - hj ⟨w1, G1, q1, K1, v8, rfl, x8, ho, hG1, hQ1, hb1, hk1, hu1, hcl⟩
    have hM1 := rN_q hM ho
    have hq := hb1.2.2.2.2.1 k hb1.2.2.1 hk1
    rw [hu1] at hq
    have hK24 : K1 ≤ 24 := by rw [hb1.2.1]; exact p_k24 _ _
    have hin := q_rc_in f0 f1 ((hb1.1.2 u hq.1 hq.2.1).2 hq.2.2).1
    have hn := q_nxr hV hin.1 hin.2 j
    have hbu := p_bd hb1.1 hq.1 hq.2.1
    have eu := hG1 u hq.1 hq.2.1
    have k0 := hb1.2.2.1
    obtain ⟨-, ⟨gk, -⟩, -⟩ := id hM1
    conv => enter [1, s', 1, 1]; rw [kb_177_86]
    by_cases hm : q_nx A u j = -1
    · refine ⟨(ex_blk 177 86, [.ref 46, .int (Int32.ofInt f), .int ar, .int (Int32.ofInt K1), .int (Int32.ofInt k), .int (Int32.ofInt u), .int (Int32.ofInt 1), .int (Int32.ofInt ((j : Int) + 1)), .int (Int32.ofInt (-1))], [], w1), ?_, ⟨w1, G1, q1, K1, _, rfl, xv_i _, ho, hG1, hQ1, hb1, hk1, hu1, fun v c h0 h1 h2 h3 => ?_⟩⟩
      · simp (disch := omega) only [r_beside hV hM1, x8, hm, ev_iload, ev_aload, rx_istore, ev_iinc, ev_push, ev_iadd, ev_goto, ev_jsr, rx_ieq_t, rx_ieq_f, rx_ine_t, rx_ine_f, rx_ige_t, rx_ige_f, rx_zeq_t, rx_zeq_f, ev_getf, ev_iald, ev_callv, nr_i, nr_r, nr_l, nr_n, kA_47, kA_48, kA_49, kA_50, kA_51, kA_52, kA_53, kA_54, kA_55, kA_56, kA_57, kA_58, kA_59, kA_60, kA_61, kA_63, kA_64, kA_65, kA_66, kA_67, kA_68, kA_69, kA_70, kS_47, kS_48, kS_49, kS_50, kS_51, kS_52, kS_53, kS_54, kS_55, kS_56, kS_57, kS_58, kS_59, kS_60, kS_61, kS_63, kS_64, kS_65, kS_66, kS_67, kS_68, kS_69, kS_70, rx_vret, kb_177_0, kb_177_22, kb_177_76, kb_177_80, kb_177_81, kb_177_163, kb_177_169, kb_177_175, kr_177, kf_46_707, kf_46_754, kf_46_755, List.getD_cons_zero, List.getD_cons_succ, List.set_cons_zero, List.set_cons_succ, ex_spl, ex_low, Option.toList, List.cons_append, List.nil_append, reduceIte, Int.reduceToNat, Nat.reduceDiv, Nat.reduceMod, Nat.reduceAdd, Nat.reduceMul, z_0, z_1, z_10, z_01, reduceCtorEq, ite_true, ite_false, true_and, and_true, ↓bI_01, ↓bP_01, ↓zret0, ↓zret1, z_add, z_sub, z_mul, up_1, up_2, not_true, not_false_iff, if_true, if_false, Int.reduceNeg, Int.reduceAdd, Int.reduceSub, Int.reduceMul, Int.reduceEq, Int.reduceLT, Int.reduceLE, Int.natCast_add, Int.cast_ofNat_Int]
      · by_cases hvj : v = j
        · rw [hvj, hm] at h2; have := h3.1; omega
        · exact hcl v c h0 (by omega) h2 h3
    · generalize hc : q_nx A u j = c at *
      have ek := gk c (by omega) (by omega)
      have hkd := q_kd hV (c := c) (by omega) (by omega)
      have ec := hG1 c (by omega) (by omega)
      have hbc := p_bd hb1.1 (c := c) (by omega) (by omega)
      by_cases hw : A 1 c = 1
      · refine ⟨(ex_blk 177 86, [.ref 46, .int (Int32.ofInt f), .int ar, .int (Int32.ofInt K1), .int (Int32.ofInt k), .int (Int32.ofInt u), .int (Int32.ofInt 1), .int (Int32.ofInt ((j : Int) + 1)), .int (Int32.ofInt c)], [], w1), ?_, ⟨w1, G1, q1, K1, _, rfl, xv_i _, ho, hG1, hQ1, hb1, hk1, hu1, fun v i h0 h1 h2 h3 => ?_⟩⟩
        · simp (disch := omega) only [r_beside hV hM1, x8, hc, ek, hw, ev_iload, ev_aload, rx_istore, ev_iinc, ev_push, ev_iadd, ev_goto, ev_jsr, rx_ieq_t, rx_ieq_f, rx_ine_t, rx_ine_f, rx_ige_t, rx_ige_f, rx_zeq_t, rx_zeq_f, ev_getf, ev_iald, ev_callv, nr_i, nr_r, nr_l, nr_n, kA_47, kA_48, kA_49, kA_50, kA_51, kA_52, kA_53, kA_54, kA_55, kA_56, kA_57, kA_58, kA_59, kA_60, kA_61, kA_63, kA_64, kA_65, kA_66, kA_67, kA_68, kA_69, kA_70, kS_47, kS_48, kS_49, kS_50, kS_51, kS_52, kS_53, kS_54, kS_55, kS_56, kS_57, kS_58, kS_59, kS_60, kS_61, kS_63, kS_64, kS_65, kS_66, kS_67, kS_68, kS_69, kS_70, rx_vret, kb_177_0, kb_177_22, kb_177_76, kb_177_80, kb_177_81, kb_177_163, kb_177_169, kb_177_175, kr_177, kf_46_707, kf_46_754, kf_46_755, List.getD_cons_zero, List.getD_cons_succ, List.set_cons_zero, List.set_cons_succ, ex_spl, ex_low, Option.toList, List.cons_append, List.nil_append, reduceIte, Int.reduceToNat, Nat.reduceDiv, Nat.reduceMod, Nat.reduceAdd, Nat.reduceMul, z_0, z_1, z_10, z_01, reduceCtorEq, ite_true, ite_false, true_and, and_true, ↓bI_01, ↓bP_01, ↓zret0, ↓zret1, z_add, z_sub, z_mul, up_1, up_2, not_true, not_false_iff, if_true, if_false, Int.reduceNeg, Int.reduceAdd, Int.reduceSub, Int.reduceMul, Int.reduceEq, Int.reduceLT, Int.reduceLE, Int.natCast_add, Int.cast_ofNat_Int]
        · by_cases hvj : v = j
          · rw [hvj, hc] at h2; rw [← h2] at h3; exact absurd hw h3.2.2
          · exact hcl v i h0 (by omega) h2 h3
      · by_cases hl : G1 c < 268435456
        · refine ⟨(ex_blk 177 86, [.ref 46, .int (Int32.ofInt f), .int ar, .int (Int32.ofInt K1), .int (Int32.ofInt k), .int (Int32.ofInt u), .int (Int32.ofInt 1), .int (Int32.ofInt ((j : Int) + 1)), .int (Int32.ofInt c)], [], w1), ?_, ⟨w1, G1, q1, K1, _, rfl, xv_i _, ho, hG1, hQ1, hb1, hk1, hu1, fun v i h0 h1 h2 h3 => ?_⟩⟩
          · simp (disch := omega) only [r_beside hV hM1, x8, hc, ek, ec, ev_iload, ev_aload, rx_istore, ev_iinc, ev_push, ev_iadd, ev_goto, ev_jsr, rx_ieq_t, rx_ieq_f, rx_ine_t, rx_ine_f, rx_ige_t, rx_ige_f, rx_zeq_t, rx_zeq_f, ev_getf, ev_iald, ev_callv, nr_i, nr_r, nr_l, nr_n, kA_47, kA_48, kA_49, kA_50, kA_51, kA_52, kA_53, kA_54, kA_55, kA_56, kA_57, kA_58, kA_59, kA_60, kA_61, kA_63, kA_64, kA_65, kA_66, kA_67, kA_68, kA_69, kA_70, kS_47, kS_48, kS_49, kS_50, kS_51, kS_52, kS_53, kS_54, kS_55, kS_56, kS_57, kS_58, kS_59, kS_60, kS_61, kS_63, kS_64, kS_65, kS_66, kS_67, kS_68, kS_69, kS_70, rx_vret, kb_177_0, kb_177_22, kb_177_76, kb_177_80, kb_177_81, kb_177_163, kb_177_169, kb_177_175, kr_177, kf_46_707, kf_46_754, kf_46_755, List.getD_cons_zero, List.getD_cons_succ, List.set_cons_zero, List.set_cons_succ, ex_spl, ex_low, Option.toList, List.cons_append, List.nil_append, reduceIte, Int.reduceToNat, Nat.reduceDiv, Nat.reduceMod, Nat.reduceAdd, Nat.reduceMul, z_0, z_1, z_10, z_01, reduceCtorEq, ite_true, ite_false, true_and, and_true, ↓bI_01, ↓bP_01, ↓zret0, ↓zret1, z_add, z_sub, z_mul, up_1, up_2, not_true, not_false_iff, if_true, if_false, Int.reduceNeg, Int.reduceAdd, Int.reduceSub, Int.reduceMul, Int.reduceEq, Int.reduceLT, Int.reduceLE, Int.natCast_add, Int.cast_ofNat_Int]
          · by_cases hvj : v = j
            · rw [hvj, hc] at h2
              rw [← h2]
              obtain ⟨i, i0, i1, i2⟩ := hb1.2.2.2.2.2.1 c (by omega) (by omega) hl
              have := hb1.2.2.2.2.2.2.2.1 i i0 i1 hk1
              rw [i2, hu1] at this
              exact this
            · exact hcl v i h0 (by omega) h2 h3
        · have hGc : G1 c = 268435456 := by omega
          have hop : q_op A c := ⟨by omega, by omega, hw⟩
          have hs : q_ed A f 0 B (q1 k) c 1 := ⟨j, by omega, by omega, by rw [hu1]; exact hub, by rw [hu1]; exact hc, hop, by split <;> rfl⟩
          have hvis := p_bf_visit he (by omega) hb1 hk1 hs hl
          rw [hu1] at hvis
          have hK23 := hvis.2.1
          refine ⟨(ex_blk 177 86, [.ref 46, .int (Int32.ofInt f), .int ar, .int (Int32.ofInt (K1 + 1)), .int (Int32.ofInt k), .int (Int32.ofInt u), .int (Int32.ofInt 1), .int (Int32.ofInt ((j : Int) + 1)), .int (Int32.ofInt c)], [], ex_up (ex_up w1 69 c.toNat (Int32.ofInt (G1 u + 1))) 70 K1.toNat (Int32.ofInt c)), ?_, ⟨_, q_fu G1 c (G1 u + 1), q_fu q1 K1 c, K1 + 1, _, rfl, xv_i _, sQ_t ho (sQ_t (sQ_u _ _ _ _ (by omega)) (sQ_u _ _ _ _ (by omega))), rG_o (rG_u hG1 (by omega)) (by omega), rQ_u (rQ_o hQ1 (by omega)) (by omega), hvis.1, by omega, hvis.2.2.1, fun v i h0 h1 h2 h3 => ?_⟩⟩
          · simp (disch := omega) only [r_beside hV hM1, x8, hc, ek, ec, eu, hGc, ev_iload, ev_aload, rx_istore, ev_iinc, ev_push, ev_iadd, ev_goto, ev_jsr, rx_ieq_t, rx_ieq_f, rx_ine_t, rx_ine_f, rx_ige_t, rx_ige_f, rx_zeq_t, rx_zeq_f, ev_getf, ev_iald, ev_callv, nr_i, nr_r, nr_l, nr_n, kA_47, kA_48, kA_49, kA_50, kA_51, kA_52, kA_53, kA_54, kA_55, kA_56, kA_57, kA_58, kA_59, kA_60, kA_61, kA_63, kA_64, kA_65, kA_66, kA_67, kA_68, kA_69, kA_70, kS_47, kS_48, kS_49, kS_50, kS_51, kS_52, kS_53, kS_54, kS_55, kS_56, kS_57, kS_58, kS_59, kS_60, kS_61, kS_63, kS_64, kS_65, kS_66, kS_67, kS_68, kS_69, kS_70, rx_vret, kb_177_0, kb_177_22, kb_177_76, kb_177_80, kb_177_81, kb_177_163, kb_177_169, kb_177_175, kr_177, kf_46_707, kf_46_754, kf_46_755, List.getD_cons_zero, List.getD_cons_succ, List.set_cons_zero, List.set_cons_succ, ex_spl, ex_low, Option.toList, List.cons_append, List.nil_append, reduceIte, Int.reduceToNat, Nat.reduceDiv, Nat.reduceMod, Nat.reduceAdd, Nat.reduceMul, z_0, z_1, z_10, z_01, reduceCtorEq, ite_true, ite_false, true_and, and_true, ↓bI_01, ↓bP_01, ↓zret0, ↓zret1, z_add, z_sub, z_mul, up_1, up_2, not_true, not_false_iff, if_true, if_false, Int.reduceNeg, Int.reduceAdd, Int.reduceSub, Int.reduceMul, Int.reduceEq, Int.reduceLT, Int.reduceLE, Int.natCast_add, Int.cast_ofNat_Int]
          · rw [hvis.2.2.2]
            by_cases hic : i = c
            · rw [hic, q_fu_s]; exact Int.le_refl _
            · rw [q_fu_o hic]
              by_cases hvj : v = j
              · rw [hvj, hc] at h2; exact absurd h2.symm hic
              · exact hcl v i h0 (by omega) h2 h3
theorem r_lay {d : Nat} {A : AS} {b : Int} {w : PW} (hV : q_vh A) (hM : rN A b w) (hT : q_vt A 5 5) {f : Int} (ar : Bool) (f0 : 0 ≤ f) (f1 : f < A 0 15) : ∃ w' G', ex_cal (d + 6) 177 [.ref 46, .int (Int32.ofInt f), .int (Int32.ofInt (if ar then 1 else 0))] w = some (none, w') ∧ sQ w w' ∧ rG 69 w' G' ∧ ∀ c, 0 ≤ c → c < 24 → (0 ≤ G' c ∧ G' c ≤ 268435456) ∧ (if G' c < 268435456 then G' c else -1) = q_co A f 0 (fun c => ar = true ∧ ¬ q_ta A c = -1) c := by
  have hr := q_rnh hV
  have he := q_ed_r hV (t := 0) (by omega) (by omega) (f := f) (b := fun c => ar = true ∧ ¬ q_ta A c = -1)
  have hta : ∀ c, -1 ≤ q_ta A c ∧ q_ta A c < 3 := by
    intro c
    have h3 := hT.2.1
    have hx : ∃ t, q_ist A c t := by
      obtain ⟨m, h1, h2, h3⟩ := ex_fst (fun n => q_at A n c) (A 0 5).toNat
      by_cases hm : m < (A 0 5).toNat
      · exact ⟨m, Or.inr ⟨by omega, by omega, h3 hm, fun u u0 u1 => by have := h2 u.toNat (by omega); rwa [Int.toNat_of_nonneg u0] at this⟩⟩
      · exact ⟨-1, Or.inl ⟨rfl, fun u u0 u1 => by have := h2 u.toNat (by omega); rwa [Int.toNat_of_nonneg u0] at this⟩⟩
    have hs : q_ist A c (q_ta A c) := Classical.epsilon_spec hx
    rcases hs with ⟨a, -⟩ | ⟨a, b, -⟩ <;> omega
  rw [ke_177 kc_46]
  simp (disch := omega) only [ev_iload, ev_aload, rx_istore, ev_iinc, ev_push, ev_iadd, ev_goto, ev_jsr, rx_ieq_t, rx_ieq_f, rx_ine_t, rx_ine_f, rx_ige_t, rx_ige_f, rx_zeq_t, rx_zeq_f, ev_getf, ev_iald, ev_callv, nr_i, nr_r, nr_l, nr_n, kA_47, kA_48, kA_49, kA_50, kA_51, kA_52, kA_53, kA_54, kA_55, kA_56, kA_57, kA_58, kA_59, kA_60, kA_61, kA_63, kA_64, kA_65, kA_66, kA_67, kA_68, kA_69, kA_70, kS_47, kS_48, kS_49, kS_50, kS_51, kS_52, kS_53, kS_54, kS_55, kS_56, kS_57, kS_58, kS_59, kS_60, kS_61, kS_63, kS_64, kS_65, kS_66, kS_67, kS_68, kS_69, kS_70, rx_vret, kb_177_0, kb_177_22, kb_177_76, kb_177_80, kb_177_81, kb_177_163, kb_177_169, kb_177_175, kr_177, kf_46_707, kf_46_754, kf_46_755, List.getD_cons_zero, List.getD_cons_succ, List.set_cons_zero, List.set_cons_succ, ex_spl, ex_low, Option.toList, List.cons_append, List.nil_append, reduceIte, Int.reduceToNat, Nat.reduceDiv, Nat.reduceMod, Nat.reduceAdd, Nat.reduceMul, z_0, z_1, z_10, z_01, reduceCtorEq, ite_true, ite_false, true_and, and_true, ↓bI_01, ↓bP_01, ↓zret0, ↓zret1, z_add, z_sub, z_mul, up_1, up_2, not_true, not_false_iff, if_true, if_false, Int.reduceNeg, Int.reduceAdd, Int.reduceSub, Int.reduceMul, Int.reduceEq, Int.reduceLT, Int.reduceLE, Int.natCast_add, Int.cast_ofNat_Int]
  refine ex_loop (Q := fun r => ∃ w' G', r = some (none, w') ∧ sQ w w' ∧ rG 69 w' G' ∧ ∀ c, 0 ≤ c → c < 24 → (0 ≤ G' c ∧ G' c ≤ 268435456) ∧ (if G' c < 268435456 then G' c else -1) = q_co A f 0 (fun c => ar = true ∧ ¬ q_ta A c = -1) c) (fun i s => ∃ w1, s = (ex_blk 177 2, [.ref 46, .int (Int32.ofInt f), .int (Int32.ofInt (if ar then 1 else 0)), .int (Int32.ofInt (i : Int)), .null, .null, .null, .null, .null], [], w1) ∧ sQ w w1 ∧ ∀ c, 0 ≤ c → c < (i : Int) → w1.1 69 c.toNat = Int32.ofInt 268435456) 24 ?_ ?_ ?_
  · exact ⟨w, rfl, sQ_r w, fun c h0 h1 => absurd h1 (by omega)⟩
  · rintro i s hi ⟨w1, rfl, ho, hG⟩
    right
    refine ⟨(ex_blk 177 2, [.ref 46, .int (Int32.ofInt f), .int (Int32.ofInt (if ar then 1 else 0)), .int (Int32.ofInt ((i : Int) + 1)), .null, .null, .null, .null, .null], [], ex_up w1 69 (i : Int).toNat (Int32.ofInt 268435456)), ?_, _, rfl, sQ_t ho (sQ_u _ _ _ _ (by omega)), fun c c0 c1 => ?_⟩
    · conv => lhs; rw [kb_177_2]
      simp (disch := omega) only [ev_iload, ev_aload, rx_istore, ev_iinc, ev_push, ev_iadd, ev_goto, ev_jsr, rx_ieq_t, rx_ieq_f, rx_ine_t, rx_ine_f, rx_ige_t, rx_ige_f, rx_zeq_t, rx_zeq_f, ev_getf, ev_iald, ev_callv, nr_i, nr_r, nr_l, nr_n, kA_47, kA_48, kA_49, kA_50, kA_51, kA_52, kA_53, kA_54, kA_55, kA_56, kA_57, kA_58, kA_59, kA_60, kA_61, kA_63, kA_64, kA_65, kA_66, kA_67, kA_68, kA_69, kA_70, kS_47, kS_48, kS_49, kS_50, kS_51, kS_52, kS_53, kS_54, kS_55, kS_56, kS_57, kS_58, kS_59, kS_60, kS_61, kS_63, kS_64, kS_65, kS_66, kS_67, kS_68, kS_69, kS_70, rx_vret, kb_177_0, kb_177_22, kb_177_76, kb_177_80, kb_177_81, kb_177_163, kb_177_169, kb_177_175, kr_177, kf_46_707, kf_46_754, kf_46_755, List.getD_cons_zero, List.getD_cons_succ, List.set_cons_zero, List.set_cons_succ, ex_spl, ex_low, Option.toList, List.cons_append, List.nil_append, reduceIte, Int.reduceToNat, Nat.reduceDiv, Nat.reduceMod, Nat.reduceAdd, Nat.reduceMul, z_0, z_1, z_10, z_01, reduceCtorEq, ite_true, ite_false, true_and, and_true, ↓bI_01, ↓bP_01, ↓zret0, ↓zret1, z_add, z_sub, z_mul, up_1, up_2, not_true, not_false_iff, if_true, if_false, Int.reduceNeg, Int.reduceAdd, Int.reduceSub, Int.reduceMul, Int.reduceEq, Int.reduceLT, Int.reduceLE, Int.natCast_add, Int.cast_ofNat_Int]
    · rw [up_1]
      by_cases hc : c = i
      · subst hc; rw [if_pos ⟨rfl, rfl⟩]
      · rw [if_neg (by omega)]; exact hG c c0 (by omega)
  · rintro s ⟨w1, rfl, ho, hG⟩
    rw [kb_177_2]
    simp (disch := omega) only [ev_iload, ev_aload, rx_istore, ev_iinc, ev_push, ev_iadd, ev_goto, ev_jsr, rx_ieq_t, rx_ieq_f, rx_ine_t, rx_ine_f, rx_ige_t, rx_ige_f, rx_zeq_t, rx_zeq_f, ev_getf, ev_iald, ev_callv, nr_i, nr_r, nr_l, nr_n, kA_47, kA_48, kA_49, kA_50, kA_51, kA_52, kA_53, kA_54, kA_55, kA_56, kA_57, kA_58, kA_59, kA_60, kA_61, kA_63, kA_64, kA_65, kA_66, kA_67, kA_68, kA_69, kA_70, kS_47, kS_48, kS_49, kS_50, kS_51, kS_52, kS_53, kS_54, kS_55, kS_56, kS_57, kS_58, kS_59, kS_60, kS_61, kS_63, kS_64, kS_65, kS_66, kS_67, kS_68, kS_69, kS_70, rx_vret, kb_177_0, kb_177_22, kb_177_76, kb_177_80, kb_177_81, kb_177_163, kb_177_169, kb_177_175, kr_177, kf_46_707, kf_46_754, kf_46_755, List.getD_cons_zero, List.getD_cons_succ, List.set_cons_zero, List.set_cons_succ, ex_spl, ex_low, Option.toList, List.cons_append, List.nil_append, reduceIte, Int.reduceToNat, Nat.reduceDiv, Nat.reduceMod, Nat.reduceAdd, Nat.reduceMul, z_0, z_1, z_10, z_01, reduceCtorEq, ite_true, ite_false, true_and, and_true, ↓bI_01, ↓bP_01, ↓zret0, ↓zret1, z_add, z_sub, z_mul, up_1, up_2, not_true, not_false_iff, if_true, if_false, Int.reduceNeg, Int.reduceAdd, Int.reduceSub, Int.reduceMul, Int.reduceEq, Int.reduceLT, Int.reduceLE, Int.natCast_add, Int.cast_ofNat_Int]
    refine ex_while (Q := fun r => ∃ w' G', r = some (none, w') ∧ sQ w w' ∧ rG 69 w' G' ∧ ∀ c, 0 ≤ c → c < 24 → (0 ≤ G' c ∧ G' c ≤ 268435456) ∧ (if G' c < 268435456 then G' c else -1) = q_co A f 0 (fun c => ar = true ∧ ¬ q_ta A c = -1) c) (fun m s => ∃ w2 G2 q2 K2 k v5 v6 v7 v8, s = (ex_blk 177 41, [.ref 46, .int (Int32.ofInt f), .int (Int32.ofInt (if ar then 1 else 0)), .int (Int32.ofInt K2), .int (Int32.ofInt k), v5, v6, v7, v8], [], w2) ∧ (m : Int) = 24 - k ∧ (xv v5 ∧ xv v6 ∧ xv v7 ∧ xv v8) ∧ sQ w w2 ∧ rG 69 w2 G2 ∧ rQ w2 q2 K2 ∧ p_bf (q_ed A f 0 (fun c => ar = true ∧ ¬ q_ta A c = -1)) f 268435456 G2 q2 K2 k) ?_ 24 _ ?_
    · rintro m s ⟨w2, G2, q2, K2, k, v5, v6, v7, v8, rfl, hm, ⟨x5, x6, x7, x8⟩, ho2, hG2, hQ2, hb2⟩
      have k0 := hb2.2.2.1
      have kK := hb2.2.2.2.1
      have hK24 : K2 ≤ 24 := by rw [hb2.2.1]; exact p_k24 _ _
      by_cases hk : k < K2
      · right
        have hM2 := rN_q hM ho2
        have hq := hb2.2.2.2.2.1 k k0 hk
        have hin := q_rc_in f0 f1 ((hb2.1.2 _ hq.1 hq.2.1).2 hq.2.2).1
        have eq := hQ2 k k0 hk
        generalize hu : q2 k = u at *
        have htu := hta u
        by_cases hgo : u = f ∨ ¬ (ar = true ∧ ¬ q_ta A u = -1)
        · obtain ⟨s3, e3, w3, G3, q3, K3, v83, rfl, x83, ho3, hG3, hQ3, hb3, hk3, hu3, hcl3⟩ := r_layWays (d := d) hV hM2 f0 f1 (Int32.ofInt (if ar then 1 else 0)) hG2 hQ2 hb2 hk hu hgo v8 x8
          have hb4 := p_bf_next hb3 hk3 (fun c s hs => by
            rw [q_ed_1 hs, hu3]
            rw [hu3] at hs
            obtain ⟨v, a1, a2, a3, a4, a5, a6⟩ := hs
            exact hcl3 v c a1 (by omega) a4 a5)
          refine ⟨m - 1, (ex_blk 177 41, [.ref 46, .int (Int32.ofInt f), .int (Int32.ofInt (if ar then 1 else 0)), .int (Int32.ofInt K3), .int (Int32.ofInt (k + 1)), .int (Int32.ofInt u), .int (Int32.ofInt 1), .int (Int32.ofInt ((4 : Nat) : Int)), v83], [], w3), by omega, ?_, w3, G3, q3, K3, k + 1, _, _, _, _, rfl, by omega, ⟨xv_i _, xv_i _, xv_i _, x83⟩, sQ_t ho2 ho3, hG3, hQ3, hb4⟩
          conv => lhs; rw [kb_177_41]
          have fin : ex_ev (d + 5) (ex_cal (d + 5)) 177 (ex_blk 177 86, [.ref 46, .int (Int32.ofInt f), .int (Int32.ofInt (if ar then 1 else 0)), .int (Int32.ofInt K3), .int (Int32.ofInt k), .int (Int32.ofInt u), .int (Int32.ofInt 1), .int (Int32.ofInt ((4 : Nat) : Int)), v83], [], w3) = ex_ev (d + 5) (ex_cal (d + 5)) 177 (ex_blk 177 41, [.ref 46, .int (Int32.ofInt f), .int (Int32.ofInt (if ar then 1 else 0)), .int (Int32.ofInt K3), .int (Int32.ofInt (k + 1)), .int (Int32.ofInt u), .int (Int32.ofInt 1), .int (Int32.ofInt ((4 : Nat) : Int)), v83], [], w3) := by
            conv => lhs; rw [kb_177_86]
            simp (disch := omega) only [ev_iload, ev_aload, rx_istore, ev_iinc, ev_push, ev_iadd, ev_goto, ev_jsr, rx_ieq_t, rx_ieq_f, rx_ine_t, rx_ine_f, rx_ige_t, rx_ige_f, rx_zeq_t, rx_zeq_f, ev_getf, ev_iald, ev_callv, nr_i, nr_r, nr_l, nr_n, kA_47, kA_48, kA_49, kA_50, kA_51, kA_52, kA_53, kA_54, kA_55, kA_56, kA_57, kA_58, kA_59, kA_60, kA_61, kA_63, kA_64, kA_65, kA_66, kA_67, kA_68, kA_69, kA_70, kS_47, kS_48, kS_49, kS_50, kS_51, kS_52, kS_53, kS_54, kS_55, kS_56, kS_57, kS_58, kS_59, kS_60, kS_61, kS_63, kS_64, kS_65, kS_66, kS_67, kS_68, kS_69, kS_70, rx_vret, kb_177_0, kb_177_22, kb_177_76, kb_177_80, kb_177_81, kb_177_163, kb_177_169, kb_177_175, kr_177, kf_46_707, kf_46_754, kf_46_755, List.getD_cons_zero, List.getD_cons_succ, List.set_cons_zero, List.set_cons_succ, ex_spl, ex_low, Option.toList, List.cons_append, List.nil_append, reduceIte, Int.reduceToNat, Nat.reduceDiv, Nat.reduceMod, Nat.reduceAdd, Nat.reduceMul, z_0, z_1, z_10, z_01, reduceCtorEq, ite_true, ite_false, true_and, and_true, ↓bI_01, ↓bP_01, ↓zret0, ↓zret1, z_add, z_sub, z_mul, up_1, up_2, not_true, not_false_iff, if_true, if_false, Int.reduceNeg, Int.reduceAdd, Int.reduceSub, Int.reduceMul, Int.reduceEq, Int.reduceLT, Int.reduceLE, Int.natCast_add, Int.cast_ofNat_Int]
          rw [← fin, ← e3]
          cases ar with
          | false =>
            simp (disch := omega) only [x5, x6, x7, eq, Bool.false_eq_true, ev_iload, ev_aload, rx_istore, ev_iinc, ev_push, ev_iadd, ev_goto, ev_jsr, rx_ieq_t, rx_ieq_f, rx_ine_t, rx_ine_f, rx_ige_t, rx_ige_f, rx_zeq_t, rx_zeq_f, ev_getf, ev_iald, ev_callv, nr_i, nr_r, nr_l, nr_n, kA_47, kA_48, kA_49, kA_50, kA_51, kA_52, kA_53, kA_54, kA_55, kA_56, kA_57, kA_58, kA_59, kA_60, kA_61, kA_63, kA_64, kA_65, kA_66, kA_67, kA_68, kA_69, kA_70, kS_47, kS_48, kS_49, kS_50, kS_51, kS_52, kS_53, kS_54, kS_55, kS_56, kS_57, kS_58, kS_59, kS_60, kS_61, kS_63, kS_64, kS_65, kS_66, kS_67, kS_68, kS_69, kS_70, rx_vret, kb_177_0, kb_177_22, kb_177_76, kb_177_80, kb_177_81, kb_177_163, kb_177_169, kb_177_175, kr_177, kf_46_707, kf_46_754, kf_46_755, List.getD_cons_zero, List.getD_cons_succ, List.set_cons_zero, List.set_cons_succ, ex_spl, ex_low, Option.toList, List.cons_append, List.nil_append, reduceIte, Int.reduceToNat, Nat.reduceDiv, Nat.reduceMod, Nat.reduceAdd, Nat.reduceMul, z_0, z_1, z_10, z_01, reduceCtorEq, ite_true, ite_false, true_and, and_true, ↓bI_01, ↓bP_01, ↓zret0, ↓zret1, z_add, z_sub, z_mul, up_1, up_2, not_true, not_false_iff, if_true, if_false, Int.reduceNeg, Int.reduceAdd, Int.reduceSub, Int.reduceMul, Int.reduceEq, Int.reduceLT, Int.reduceLE, Int.natCast_add, Int.cast_ofNat_Int]
          | true =>
            by_cases huf : u = f
            · simp (disch := omega) only [x5, x6, x7, eq, ev_iload, ev_aload, rx_istore, ev_iinc, ev_push, ev_iadd, ev_goto, ev_jsr, rx_ieq_t, rx_ieq_f, rx_ine_t, rx_ine_f, rx_ige_t, rx_ige_f, rx_zeq_t, rx_zeq_f, ev_getf, ev_iald, ev_callv, nr_i, nr_r, nr_l, nr_n, kA_47, kA_48, kA_49, kA_50, kA_51, kA_52, kA_53, kA_54, kA_55, kA_56, kA_57, kA_58, kA_59, kA_60, kA_61, kA_63, kA_64, kA_65, kA_66, kA_67, kA_68, kA_69, kA_70, kS_47, kS_48, kS_49, kS_50, kS_51, kS_52, kS_53, kS_54, kS_55, kS_56, kS_57, kS_58, kS_59, kS_60, kS_61, kS_63, kS_64, kS_65, kS_66, kS_67, kS_68, kS_69, kS_70, rx_vret, kb_177_0, kb_177_22, kb_177_76, kb_177_80, kb_177_81, kb_177_163, kb_177_169, kb_177_175, kr_177, kf_46_707, kf_46_754, kf_46_755, List.getD_cons_zero, List.getD_cons_succ, List.set_cons_zero, List.set_cons_succ, ex_spl, ex_low, Option.toList, List.cons_append, List.nil_append, reduceIte, Int.reduceToNat, Nat.reduceDiv, Nat.reduceMod, Nat.reduceAdd, Nat.reduceMul, z_0, z_1, z_10, z_01, reduceCtorEq, ite_true, ite_false, true_and, and_true, ↓bI_01, ↓bP_01, ↓zret0, ↓zret1, z_add, z_sub, z_mul, up_1, up_2, not_true, not_false_iff, if_true, if_false, Int.reduceNeg, Int.reduceAdd, Int.reduceSub, Int.reduceMul, Int.reduceEq, Int.reduceLT, Int.reduceLE, Int.natCast_add, Int.cast_ofNat_Int]
            · have ht : q_ta A u = -1 := Classical.not_not.1 (fun hh => (hgo.resolve_left huf) ⟨rfl, hh⟩)
              simp (disch := omega) only [x5, x6, x7, eq, r_thingAt hV hM2 hT, ht, ev_iload, ev_aload, rx_istore, ev_iinc, ev_push, ev_iadd, ev_goto, ev_jsr, rx_ieq_t, rx_ieq_f, rx_ine_t, rx_ine_f, rx_ige_t, rx_ige_f, rx_zeq_t, rx_zeq_f, ev_getf, ev_iald, ev_callv, nr_i, nr_r, nr_l, nr_n, kA_47, kA_48, kA_49, kA_50, kA_51, kA_52, kA_53, kA_54, kA_55, kA_56, kA_57, kA_58, kA_59, kA_60, kA_61, kA_63, kA_64, kA_65, kA_66, kA_67, kA_68, kA_69, kA_70, kS_47, kS_48, kS_49, kS_50, kS_51, kS_52, kS_53, kS_54, kS_55, kS_56, kS_57, kS_58, kS_59, kS_60, kS_61, kS_63, kS_64, kS_65, kS_66, kS_67, kS_68, kS_69, kS_70, rx_vret, kb_177_0, kb_177_22, kb_177_76, kb_177_80, kb_177_81, kb_177_163, kb_177_169, kb_177_175, kr_177, kf_46_707, kf_46_754, kf_46_755, List.getD_cons_zero, List.getD_cons_succ, List.set_cons_zero, List.set_cons_succ, ex_spl, ex_low, Option.toList, List.cons_append, List.nil_append, reduceIte, Int.reduceToNat, Nat.reduceDiv, Nat.reduceMod, Nat.reduceAdd, Nat.reduceMul, z_0, z_1, z_10, z_01, reduceCtorEq, ite_true, ite_false, true_and, and_true, ↓bI_01, ↓bP_01, ↓zret0, ↓zret1, z_add, z_sub, z_mul, up_1, up_2, not_true, not_false_iff, if_true, if_false, Int.reduceNeg, Int.reduceAdd, Int.reduceSub, Int.reduceMul, Int.reduceEq, Int.reduceLT, Int.reduceLE, Int.natCast_add, Int.cast_ofNat_Int]
        · have huf : ¬ u = f := fun h => hgo (Or.inl h)
          have har : ar = true ∧ ¬ q_ta A u = -1 := Classical.not_not.1 (fun hh => hgo (Or.inr hh))
          obtain ⟨har1, har2⟩ := har
          subst har1
          have hb4 := p_bf_next hb2 hk (fun c s hs => by
            exfalso
            rw [hu] at hs
            obtain ⟨v, a1, a2, a3, a4, a5, a6⟩ := hs
            exact hgo a3)
          refine ⟨m - 1, (ex_blk 177 41, [.ref 46, .int (Int32.ofInt f), .int (Int32.ofInt (if true = true then 1 else 0)), .int (Int32.ofInt K2), .int (Int32.ofInt (k + 1)), .int (Int32.ofInt u), .int (Int32.ofInt 0), .int (Int32.ofInt 0), v8], [], w2), by omega, ?_, w2, G2, q2, K2, k + 1, _, _, _, _, rfl, by omega, ⟨xv_i _, xv_i _, xv_i _, x8⟩, ho2, hG2, hQ2, hb4⟩
          conv => lhs; rw [kb_177_41]
          simp (disch := omega) only [x5, x6, x7, eq, r_thingAt hV hM2 hT, ev_iload, ev_aload, rx_istore, ev_iinc, ev_push, ev_iadd, ev_goto, ev_jsr, rx_ieq_t, rx_ieq_f, rx_ine_t, rx_ine_f, rx_ige_t, rx_ige_f, rx_zeq_t, rx_zeq_f, ev_getf, ev_iald, ev_callv, nr_i, nr_r, nr_l, nr_n, kA_47, kA_48, kA_49, kA_50, kA_51, kA_52, kA_53, kA_54, kA_55, kA_56, kA_57, kA_58, kA_59, kA_60, kA_61, kA_63, kA_64, kA_65, kA_66, kA_67, kA_68, kA_69, kA_70, kS_47, kS_48, kS_49, kS_50, kS_51, kS_52, kS_53, kS_54, kS_55, kS_56, kS_57, kS_58, kS_59, kS_60, kS_61, kS_63, kS_64, kS_65, kS_66, kS_67, kS_68, kS_69, kS_70, rx_vret, kb_177_0, kb_177_22, kb_177_76, kb_177_80, kb_177_81, kb_177_86, kb_177_163, kb_177_169, kb_177_175, kr_177, kf_46_707, kf_46_754, kf_46_755, List.getD_cons_zero, List.getD_cons_succ, List.set_cons_zero, List.set_cons_succ, ex_spl, ex_low, Option.toList, List.cons_append, List.nil_append, reduceIte, Int.reduceToNat, Nat.reduceDiv, Nat.reduceMod, Nat.reduceAdd, Nat.reduceMul, z_0, z_1, z_10, z_01, reduceCtorEq, ite_true, ite_false, true_and, and_true, ↓bI_01, ↓bP_01, ↓zret0, ↓zret1, z_add, z_sub, z_mul, up_1, up_2, not_true, not_false_iff, if_true, if_false, Int.reduceNeg, Int.reduceAdd, Int.reduceSub, Int.reduceMul, Int.reduceEq, Int.reduceLT, Int.reduceLE, Int.natCast_add, Int.cast_ofNat_Int]
      · left
        have hkK : k = K2 := by omega
        subst hkK
        refine ⟨w2, G2, ?_, ho2, hG2, fun c c0 c1 => ⟨?_, ?_⟩⟩
        · rw [kb_177_41]
          simp (disch := omega) only [ev_iload, ev_aload, rx_istore, ev_iinc, ev_push, ev_iadd, ev_goto, ev_jsr, rx_ieq_t, rx_ieq_f, rx_ine_t, rx_ine_f, rx_ige_t, rx_ige_f, rx_zeq_t, rx_zeq_f, ev_getf, ev_iald, ev_callv, nr_i, nr_r, nr_l, nr_n, kA_47, kA_48, kA_49, kA_50, kA_51, kA_52, kA_53, kA_54, kA_55, kA_56, kA_57, kA_58, kA_59, kA_60, kA_61, kA_63, kA_64, kA_65, kA_66, kA_67, kA_68, kA_69, kA_70, kS_47, kS_48, kS_49, kS_50, kS_51, kS_52, kS_53, kS_54, kS_55, kS_56, kS_57, kS_58, kS_59, kS_60, kS_61, kS_63, kS_64, kS_65, kS_66, kS_67, kS_68, kS_69, kS_70, rx_vret, kb_177_0, kb_177_22, kb_177_76, kb_177_80, kb_177_81, kb_177_163, kb_177_169, kb_177_175, kr_177, kf_46_707, kf_46_754, kf_46_755, List.getD_cons_zero, List.getD_cons_succ, List.set_cons_zero, List.set_cons_succ, ex_spl, ex_low, Option.toList, List.cons_append, List.nil_append, reduceIte, Int.reduceToNat, Nat.reduceDiv, Nat.reduceMod, Nat.reduceAdd, Nat.reduceMul, z_0, z_1, z_10, z_01, reduceCtorEq, ite_true, ite_false, true_and, and_true, ↓bI_01, ↓bP_01, ↓zret0, ↓zret1, z_add, z_sub, z_mul, up_1, up_2, not_true, not_false_iff, if_true, if_false, Int.reduceNeg, Int.reduceAdd, Int.reduceSub, Int.reduceMul, Int.reduceEq, Int.reduceLT, Int.reduceLE, Int.natCast_add, Int.cast_ofNat_Int]
        · have := p_bd hb2.1 c0 c1; omega
        · exact (q_co_i hV (by omega) (by omega) f0 (by omega) (p_done he f0 (by omega) (by omega) hb2.1 (p_bf_done hb2) c0 c1)).symm
    · refine ⟨_, fun c => if c = f then 0 else 268435456, fun _ => f, 1, 0, .null, .null, .null, .null, rfl, by omega, ⟨xv_n, xv_n, xv_n, xv_n⟩, sQ_t ho (sQ_t (sQ_u _ _ _ _ (by omega)) (sQ_u _ _ _ _ (by omega))), fun c c0 c1 => ?_, fun i i0 i1 => ?_, p_bf_start f0 (by omega) (by omega) (fun c => rfl) rfl⟩
      · rw [up_1, if_neg (by omega), up_1]
        by_cases hc : c = f
        · subst hc; rw [if_pos ⟨rfl, rfl⟩]; show _ = Int32.ofInt (if c = c then _ else _); rw [if_pos rfl]
        · show _ = Int32.ofInt (if c = f then _ else _); rw [if_neg (by omega), if_neg hc]; exact hG c c0 (by omega)
      · have : i = 0 := by omega
        subst this
        rw [up_1, if_pos ⟨rfl, rfl⟩]
