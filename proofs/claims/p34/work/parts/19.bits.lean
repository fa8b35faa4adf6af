/-! bits (the first rows are the kit's, pasted) -/
def bt (x : Int32) (i : Nat) : Bool := x.toBitVec.getLsbD i
theorem b_ext {x y : Int32} (h : ∀ i, i < 32 → bt x i = bt y i) : x = y := Int32.toBitVec_inj.mp (BitVec.eq_of_getLsbD_eq (fun i hi => h i hi))
theorem b_or (x y : Int32) (i : Nat) : bt (x ||| y) i = (bt x i || bt y i) := by unfold bt; rw [Int32.toBitVec_or, BitVec.getLsbD_or]
theorem b_and (x y : Int32) (i : Nat) : bt (x &&& y) i = (bt x i && bt y i) := by unfold bt; rw [Int32.toBitVec_and, BitVec.getLsbD_and]
theorem b_0 (i : Nat) : bt 0 i = false := BitVec.getLsbD_zero
theorem s_l : ∀ n, n < 32 → ((nI n &&& 31).toBitVec.smod 32).toNat = n := by decide +kernel
theorem b_shl (n : Nat) (hn : n < 32) (x : Int32) {i : Nat} (hi : i < 32) : bt (x <<< (nI n &&& 31)) i = (decide (n ≤ i) && bt x (i - n)) := by
  unfold bt
  rw [Int32.toBitVec_shiftLeft]
  show (x.toBitVec <<< ((nI n &&& 31).toBitVec.smod 32).toNat).getLsbD i = _
  rw [s_l n hn, BitVec.getLsbD_shiftLeft]
  rcases Nat.lt_or_ge i n with h | h
  · simp [h, Nat.not_le.mpr h]
  · simp [hi, h, Nat.not_lt.mpr h]
theorem b_sshr (n : Nat) (hn : n < 32) (x : Int32) {i : Nat} (hi : i < 32) : bt (x >>> (nI n &&& 31)) i = if n + i < 32 then bt x (n + i) else bt x 31 := by
  unfold bt
  rw [Int32.toBitVec_shiftRight]
  show (x.toBitVec.sshiftRight ((nI n &&& 31).toBitVec.smod 32).toNat).getLsbD i = _
  rw [s_l n hn, BitVec.getLsbD_sshiftRight, BitVec.msb_eq_getLsbD_last]
  simp [hi]
theorem b_1 : ∀ i, i < 32 → bt (Int32.ofInt 1) i = decide (i = 0) := by decide +kernel
theorem q_bt_b {m : Int32} {c : Int} (h0 : 0 ≤ c) (h1 : c < 32) : q_bt m c ↔ bt m c.toNat = true := by
  have hc : Int32.ofInt c = nI c.toNat := by rw [z_n]; congr 1; omega
  unfold q_bt
  rw [hc]
  have h2 : ∀ i, i < 32 → bt ((m >>> (nI c.toNat &&& 31)) &&& Int32.ofInt 1) i = (decide (i = 0) && bt m c.toNat) := by
    intro i hi
    rw [b_and, b_sshr _ (by omega) _ hi, b_1 i hi]
    by_cases h : i = 0
    · subst h; rw [if_pos (by omega)]; simp
    · simp [h]
  constructor
  · intro h
    cases hb : bt m c.toNat with
    | true => rfl
    | false =>
      exfalso; apply h
      refine b_ext fun i hi => ?_
      rw [h2 i hi, hb, ← z_0, b_0]; simp
  · intro h h3
    have := h2 0 (by omega)
    rw [h3, h, ← z_0, b_0] at this
    simp at this
theorem bt_b {c : Int} (h0 : 0 ≤ c) (h1 : c < 32) {i : Nat} (hi : i < 32) : bt (q_b c) i = decide ((i : Int) = c) := by
  have hc : Int32.ofInt c = nI c.toNat := by rw [z_n]; congr 1; omega
  unfold q_b
  rw [hc, b_shl _ (by omega) _ hi, b_1 _ (by omega)]
  by_cases h : (i : Int) = c
  · rw [decide_eq_true h, decide_eq_true (by omega), decide_eq_true (by omega)]; rfl
  · rw [decide_eq_false h]
    by_cases h2 : c.toNat ≤ i
    · rw [decide_eq_true h2, decide_eq_false (by omega)]; rfl
    · rw [decide_eq_false h2]; rfl
theorem q_bt_or {a b : Int32} {x : Int} (h0 : 0 ≤ x) (h1 : x < 32) : q_bt (a ||| b) x ↔ q_bt a x ∨ q_bt b x := by
  rw [q_bt_b h0 h1, q_bt_b h0 h1, q_bt_b h0 h1, b_or, Bool.or_eq_true]
theorem q_bt_bit {c x : Int} (c0 : 0 ≤ c) (c1 : c < 32) (h0 : 0 ≤ x) (h1 : x < 32) : q_bt (q_b c) x ↔ x = c := by
  rw [q_bt_b h0 h1, bt_b c0 c1 (by omega), decide_eq_true_iff, Int.toNat_of_nonneg h0]
theorem q_bt_0 {x : Int} (h0 : 0 ≤ x) (h1 : x < 32) : ¬ q_bt (Int32.ofInt 0) x := by
  rw [q_bt_b h0 h1, ← z_0, b_0]; simp
theorem m_eq0 {a : Int32} : a = Int32.ofInt 0 ↔ ∀ x, 0 ≤ x → x < 32 → ¬ q_bt a x := by
  constructor
  · intro h x h0 h1; rw [h]; exact q_bt_0 h0 h1
  · intro h
    refine b_ext fun i hi => ?_
    have := h i (by omega) (by omega)
    rw [q_bt_b (by omega) (by omega)] at this
    rw [← z_0, b_0]
    simpa using this
/-! what a thing has -/
theorem q_bt_sp {A : AS} (h : q_vh A) {k c v x : Int} (h0 : 0 ≤ x) (h1 : x < 32) : q_bt (q_sp A k c v) x ↔ (q_fl A c ∧ q_fl A (q_ls A k c v) ∧ (k = 1 ∨ v = 0)) ∧ (x = c ∨ x = q_ls A k c v) := by
  have hr := q_rnh h
  unfold q_sp q_ls
  by_cases hk : k = 1
  · rw [if_pos hk, if_pos hk]
    by_cases hf : q_fl A c ∧ q_fl A (q_nx A c v)
    · obtain ⟨⟨a1, a2, a3⟩, ⟨b1, b2, b3⟩⟩ := id hf
      rw [q_iw_t hf, q_bt_or h0 h1, q_bt_bit a1 (by omega) h0 h1, q_bt_bit b1 (by omega) h0 h1]
      exact ⟨fun h => ⟨⟨hf.1, hf.2, Or.inl hk⟩, h⟩, fun h => h.2⟩
    · rw [q_iw_f hf]
      exact ⟨fun h => absurd h (q_bt_0 h0 h1), fun h => absurd ⟨h.1.1, h.1.2.1⟩ hf⟩
  · rw [if_neg hk, if_neg hk]
    by_cases hf : q_fl A c ∧ v = 0
    · obtain ⟨⟨a1, a2, a3⟩, hv⟩ := id hf
      rw [q_iw_t hf, q_bt_bit a1 (by omega) h0 h1]
      exact ⟨fun h => ⟨⟨hf.1, hf.1, Or.inr hv⟩, Or.inl h⟩, fun h => by rcases h.2 with h | h <;> exact h⟩
    · rw [q_iw_f hf]
      exact ⟨fun h => absurd h (q_bt_0 h0 h1), fun h => absurd ⟨h.1.1, h.1.2.2.resolve_left hk⟩ hf⟩
/-- a thing there -/
theorem q_at_b {A : AS} (h : q_vh A) (hT : q_vt A 5 5) {t x : Int} (t0 : 0 ≤ t) (t1 : t < A 0 5) (h0 : 0 ≤ x) (h1 : x < 32) : q_bt (q_sp A (A 5 (5 * t)) (A 5 (5 * t + 1)) (A 5 (5 * t + 2))) x ↔ q_at A t x := by
  obtain ⟨f1, f2, f3, f4, f5, f6, f7⟩ := hT.2.2 t t0 t1
  rw [q_bt_sp h h0 h1]
  unfold q_at q_la
  exact ⟨fun hx => hx.2.imp Eq.symm Eq.symm, fun hx => ⟨⟨f6, f7, f5⟩, hx.imp Eq.symm Eq.symm⟩⟩
/-- which thing is there -/
theorem q_ta_i {A : AS} {c t : Int} (h : q_ist A c t) : q_ta A c = t := by
  have h2 := Classical.epsilon_spec (p := q_ist A c) ⟨t, h⟩
  show Classical.epsilon (q_ist A c) = t
  generalize Classical.epsilon (q_ist A c) = s at *
  rcases h with ⟨a, b⟩ | ⟨a, b, c, d⟩ <;> rcases h2 with ⟨a2, b2⟩ | ⟨a2, b2, c2, d2⟩
  · omega
  · exact absurd c2 (b s a2 b2)
  · exact absurd c (b2 t a b)
  · by_cases h1 : s < t
    · exact absurd c2 (d s a2 h1)
    · by_cases h3 : t < s
      · exact absurd c (d2 t a h3)
      · omega


