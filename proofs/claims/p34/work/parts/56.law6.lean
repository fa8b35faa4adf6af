/-! letters written one by one, and what is read of them -/
theorem p_tr_cg {α : Type} {f : α → Int → Option α} {s0 : α} {A B : AS} : ∀ (n : Nat) (s : α), (∀ k : Int, 0 ≤ k → k < (n : Int) → B 8 k = A 8 k) → p_tr f s0 A n s → p_tr f s0 B n s := by
  intro n
  induction n with
  | zero => intro s _ h; exact h
  | succ n ih =>
    rintro s hk ⟨s', h1, h2⟩
    exact ⟨s', ih s' (fun k k0 k1 => hk k k0 (by omega)) h1, by rw [hk n (by omega) (by omega)]; exact h2⟩
/-- the whole page is taken, to the state s -/
def l_pg {α : Type} (f : α → Int → Option α) (s0 : α) (A : AS) (s : α) : Prop := p_tr f s0 A (A 0 8).toNat s
theorem l_pg_0 {α : Type} {f : α → Int → Option α} {s0 : α} {A : AS} (h : A 0 8 = 0) : l_pg f s0 A s0 := by
  unfold l_pg
  rw [h]
  rfl
theorem q_pc_n {A : AS} {c : Int} : q_pc A c 0 8 = A 0 8 + 1 := if_pos ⟨rfl, rfl⟩
theorem q_pc_e {A : AS} {c : Int} : q_pc A c 8 (A 0 8) = c := by
  unfold q_pc
  rw [if_neg (by omega), if_pos ⟨rfl, rfl⟩]
theorem q_pc_o {A : AS} {c k : Int} (h : ¬ k = A 0 8) : q_pc A c 8 k = A 8 k := by
  unfold q_pc
  rw [if_neg (by omega), if_neg (by omega)]
theorem l_pg_c {α : Type} {f : α → Int → Option α} {s0 s s' : α} {A : AS} {c : Int} (h0 : 0 ≤ A 0 8) (h : l_pg f s0 A s) (hf : f s c = some s') : l_pg f s0 (q_pc A c) s' := by
  unfold l_pg
  rw [q_pc_n, show (A 0 8 + 1).toNat = (A 0 8).toNat + 1 by omega]
  refine ⟨s, p_tr_cg _ _ (fun k k0 k1 => q_pc_o (by omega)) h, ?_⟩
  rw [Int.toNat_of_nonneg h0, q_pc_e]
  exact hf
/-- alike but for the page -/
def q_pe (A B : AS) : Prop := ∀ a b, ¬ (a = 0 ∧ b = 8) → ¬ a = 8 → B a b = A a b
theorem q_pe_r (A : AS) : q_pe A A := fun _ _ _ _ => rfl
theorem q_pe_t {A B C : AS} (h : q_pe A B) (h2 : q_pe B C) : q_pe A C := fun a b h3 h4 => (h2 a b h3 h4).trans (h a b h3 h4)
theorem q_pe_c (A : AS) (c : Int) : q_pe A (q_pc A c) := fun a b h3 h4 => by
  unfold q_pc
  rw [if_neg h3, if_neg (fun q => h4 q.1)]
/-- what a writing leaves: the class's relation at B, the law's arrays as they were -/
def l_to (A B : AS) (w w1 : PW) : Prop := q_V B ∧ rC B w1 ∧ fC w w1 ∧ w1.2 = w.2 ∧ q_pe A B
theorem fC_t {w w1 w2 : PW} (h : fC w w1) (h2 : fC w1 w2) : fC w w2 := fun a k ha => (h2 a k ha).trans (h a k ha)
theorem l_to_t {A B C : AS} {w w1 w2 : PW} (h : l_to A B w w1) (h2 : l_to B C w1 w2) : l_to A C w w2 := ⟨h2.1, h2.2.1, fC_t h.2.2.1 h2.2.2.1, h2.2.2.2.1.trans h.2.2.2.1, q_pe_t h.2.2.2.2 h2.2.2.2.2⟩
theorem l_putf {α : Type} {f : α → Int → Option α} {s0 s s' : α} {d : Nat} {A : AS} {w : PW} (hV : q_V A) (hC : rC A w) (hp : l_pg f s0 A s) {c : Int} (hf : f s c = some s') (c0 : 1 ≤ c) (c1 : c ≤ 126) (h40 : A 0 8 < 40) : ∃ B w1, ex_cal (d + 4) 93 [.ref 0, .int (Int32.ofInt c)] w = some (some (.int (Int32.ofInt 1)), w1) ∧ l_to A B w w1 ∧ l_pg f s0 B s' ∧ B 0 8 = A 0 8 + 1 := by
  have hr := q_rng hV.1
  obtain ⟨h1, w1, e1, h2, h3, h4⟩ := l_put (d := d) hV hC c0 c1 h40
  exact ⟨q_pc A c, w1, e1, ⟨h1, h2, h3, h4, q_pe_c A c⟩, l_pg_c (by omega) hp hf, q_pc_n⟩
theorem l_number {α : Type} {f : α → Int → Option α} {s0 s s' : α} {d : Nat} {A : AS} {w : PW} (hV : q_V A) (hC : rC A w) (hp : l_pg f s0 A s) {n : Int} (n0 : 0 ≤ n) (n1 : n < 24) (hs : (n < 10 ∧ f s (48 + n) = some s') ∨ (10 ≤ n ∧ ∃ s1, f s (48 + n / 10) = some s1 ∧ f s1 (48 + n % 10) = some s')) (h40 : A 0 8 < 39) : ∃ B w1, ex_cal (d + 5) 94 [.ref 0, .int (Int32.ofInt n)] w = some (some (.int (Int32.ofInt 1)), w1) ∧ l_to A B w w1 ∧ l_pg f s0 B s' ∧ B 0 8 ≤ A 0 8 + 2 := by
  rcases hs with ⟨h10, hf⟩ | ⟨h10, s1, hf1, hf2⟩
  · obtain ⟨B, w1, e1, h1, h2, h3⟩ := l_putf (d := d) hV hC hp (c := 48 + n) hf (by omega) (by omega) (by omega)
    refine ⟨B, w1, ?_, h1, h2, by omega⟩
    have hm : n % 10 = n := by omega
    rw [ke_94]
    simp (disch := omega) only [hm, e1, ev_iload, ev_aload, ev_push, ev_iadd, rx_idiv, rx_irem, ev_goto, ev_jsr, rx_ilt_t, rx_ilt_f, rx_zeq_t, rx_zeq_f, ev_call, nr_i, nr_r, nr_l, nr_n, cg_93, rx_zret_t, rx_zretI, rx_zretP, kb_94_0, kb_94_20, kb_94_38, kb_94_39, kr_94, List.getD_cons_zero, List.getD_cons_succ, List.set_cons_zero, List.set_cons_succ, ex_spl, ex_low, Option.toList, List.cons_append, List.nil_append, reduceIte, Int.reduceToNat, Nat.reduceDiv, Nat.reduceMod, Nat.reduceAdd, Nat.reduceMul, z_0, z_1, z_10, z_01, reduceCtorEq, ite_true, ite_false, true_and, and_true, ↓bI_01, ↓bP_01, ↓zret0, ↓zret1, z_add, z_sub, z_mul, up_1, up_2, not_true, not_false_iff, if_true, if_false, Bool.true_and, bI_T, bI_F, bP_T, bP_F, or_true, true_or, or_false, false_or, Int.reduceNeg, Int.reduceAdd, Int.reduceSub, Int.reduceMul, Int.reduceEq, Int.reduceLT, Int.reduceLE, Int.natCast_add, Int.cast_ofNat_Int]
  · obtain ⟨B, w1, e1, h1, h2, h3⟩ := l_putf (d := d) hV hC hp (c := 48 + n / 10) hf1 (by omega) (by omega) (by omega)
    obtain ⟨C, w2, e2, h4, h5, h6⟩ := l_putf (d := d) h1.1 h1.2.1 h2 (c := 48 + n % 10) hf2 (by omega) (by omega) (by omega)
    refine ⟨C, w2, ?_, l_to_t h1 h4, h5, by omega⟩
    rw [ke_94]
    simp (disch := omega) only [e1, e2, ev_iload, ev_aload, ev_push, ev_iadd, rx_idiv, rx_irem, ev_goto, ev_jsr, rx_ilt_t, rx_ilt_f, rx_zeq_t, rx_zeq_f, ev_call, nr_i, nr_r, nr_l, nr_n, cg_93, rx_zret_t, rx_zretI, rx_zretP, kb_94_0, kb_94_20, kb_94_38, kb_94_39, kr_94, List.getD_cons_zero, List.getD_cons_succ, List.set_cons_zero, List.set_cons_succ, ex_spl, ex_low, Option.toList, List.cons_append, List.nil_append, reduceIte, Int.reduceToNat, Nat.reduceDiv, Nat.reduceMod, Nat.reduceAdd, Nat.reduceMul, z_0, z_1, z_10, z_01, reduceCtorEq, ite_true, ite_false, true_and, and_true, ↓bI_01, ↓bP_01, ↓zret0, ↓zret1, z_add, z_sub, z_mul, up_1, up_2, not_true, not_false_iff, if_true, if_false, Bool.true_and, bI_T, bI_F, bP_T, bP_F, or_true, true_or, or_false, false_or, Int.reduceNeg, Int.reduceAdd, Int.reduceSub, Int.reduceMul, Int.reduceEq, Int.reduceLT, Int.reduceLE, Int.natCast_add, Int.cast_ofNat_Int]
