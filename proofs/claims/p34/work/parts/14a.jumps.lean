theorem bI_tt : bI (true = true) = Int32.ofInt 1 := rfl
theorem bI_ff : bI (false = true) = Int32.ofInt 0 := rfl
/-! truths without a procedure -/
noncomputable def bP (P : Prop) : Int32 := q_iw P (Int32.ofInt 1) (Int32.ofInt 0)
theorem bP_t {P : Prop} (h : P) : bP P = Int32.ofInt 1 := q_iw_t h
theorem bP_f {P : Prop} (h : ¬ P) : bP P = Int32.ofInt 0 := q_iw_f h
theorem bI_P {P : Prop} [Decidable P] : bI P = bP P := by
  by_cases h : P
  · rw [bI_t h, bP_t h]
  · rw [bI_f h, bP_f h]
theorem bP_z (P : Prop) : (bP P = Int32.ofInt 0) ↔ ¬ P := by
  by_cases h : P
  · rw [bP_t h]; exact ⟨fun h1 => absurd h1 z_10, fun h1 => absurd h h1⟩
  · rw [bP_f h]; exact ⟨fun _ => h, fun _ => rfl⟩
theorem bP_01 (P : Prop) : (bP P = Int32.ofInt 0 ∨ bP P = Int32.ofInt 1) ↔ True := by
  by_cases h : P
  · rw [bP_t h]; decide
  · rw [bP_f h]; decide
theorem bP_c {P Q : Prop} (h : P ↔ Q) : bP P = bP Q := by rw [propext h]
/-! jumps decided by whole numbers alone -/
theorem rx_ieq_t {d : Nat} {cal : Nat → List Value → PW → Option ER} {y : Nat} {c : List Instr} {pl st : List Value} {w : PW} {L : Int} {a b : Int} (h : a = b ∧ -2147483648 ≤ a ∧ a < 2147483648 ∧ -2147483648 ≤ b ∧ b < 2147483648) : ex_ev d cal y (.if_icmp .eq L :: c, pl, .int (Int32.ofInt b) :: .int (Int32.ofInt a) :: st, w) = ex_ev d cal y (ex_blk y L.toNat, pl, st, w) := by
  rw [ev_icmp_eq, if_pos ((z_eq h.2.1 h.2.2.1 h.2.2.2.1 h.2.2.2.2).2 h.1)]
theorem rx_ieq_f {d : Nat} {cal : Nat → List Value → PW → Option ER} {y : Nat} {c : List Instr} {pl st : List Value} {w : PW} {L : Int} {a b : Int} (h : ¬ (a = b) ∧ -2147483648 ≤ a ∧ a < 2147483648 ∧ -2147483648 ≤ b ∧ b < 2147483648) : ex_ev d cal y (.if_icmp .eq L :: c, pl, .int (Int32.ofInt b) :: .int (Int32.ofInt a) :: st, w) = ex_ev d cal y (c, pl, st, w) := by
  rw [ev_icmp_eq, if_neg (fun h1 => h.1 ((z_eq h.2.1 h.2.2.1 h.2.2.2.1 h.2.2.2.2).1 h1))]
theorem rx_ine_t {d : Nat} {cal : Nat → List Value → PW → Option ER} {y : Nat} {c : List Instr} {pl st : List Value} {w : PW} {L : Int} {a b : Int} (h : ¬ a = b ∧ -2147483648 ≤ a ∧ a < 2147483648 ∧ -2147483648 ≤ b ∧ b < 2147483648) : ex_ev d cal y (.if_icmp .ne L :: c, pl, .int (Int32.ofInt b) :: .int (Int32.ofInt a) :: st, w) = ex_ev d cal y (ex_blk y L.toNat, pl, st, w) := by
  rw [ev_icmp_ne, if_pos (fun h1 => h.1 ((z_eq h.2.1 h.2.2.1 h.2.2.2.1 h.2.2.2.2).1 h1))]
theorem rx_ine_f {d : Nat} {cal : Nat → List Value → PW → Option ER} {y : Nat} {c : List Instr} {pl st : List Value} {w : PW} {L : Int} {a b : Int} (h : ¬ (¬ a = b) ∧ -2147483648 ≤ a ∧ a < 2147483648 ∧ -2147483648 ≤ b ∧ b < 2147483648) : ex_ev d cal y (.if_icmp .ne L :: c, pl, .int (Int32.ofInt b) :: .int (Int32.ofInt a) :: st, w) = ex_ev d cal y (c, pl, st, w) := by
  rw [ev_icmp_ne, if_neg (fun h1 => h.1 (fun h2 => h1 ((z_eq h.2.1 h.2.2.1 h.2.2.2.1 h.2.2.2.2).2 h2)))]
theorem rx_ilt_t {d : Nat} {cal : Nat → List Value → PW → Option ER} {y : Nat} {c : List Instr} {pl st : List Value} {w : PW} {L : Int} {a b : Int} (h : a < b ∧ -2147483648 ≤ a ∧ a < 2147483648 ∧ -2147483648 ≤ b ∧ b < 2147483648) : ex_ev d cal y (.if_icmp .lt L :: c, pl, .int (Int32.ofInt b) :: .int (Int32.ofInt a) :: st, w) = ex_ev d cal y (ex_blk y L.toNat, pl, st, w) := by
  rw [ev_icmp_lt, if_pos ((z_lt h.2.1 h.2.2.1 h.2.2.2.1 h.2.2.2.2).2 h.1)]
theorem rx_ilt_f {d : Nat} {cal : Nat → List Value → PW → Option ER} {y : Nat} {c : List Instr} {pl st : List Value} {w : PW} {L : Int} {a b : Int} (h : ¬ (a < b) ∧ -2147483648 ≤ a ∧ a < 2147483648 ∧ -2147483648 ≤ b ∧ b < 2147483648) : ex_ev d cal y (.if_icmp .lt L :: c, pl, .int (Int32.ofInt b) :: .int (Int32.ofInt a) :: st, w) = ex_ev d cal y (c, pl, st, w) := by
  rw [ev_icmp_lt, if_neg (fun h1 => h.1 ((z_lt h.2.1 h.2.2.1 h.2.2.2.1 h.2.2.2.2).1 h1))]
theorem rx_ige_t {d : Nat} {cal : Nat → List Value → PW → Option ER} {y : Nat} {c : List Instr} {pl st : List Value} {w : PW} {L : Int} {a b : Int} (h : b ≤ a ∧ -2147483648 ≤ a ∧ a < 2147483648 ∧ -2147483648 ≤ b ∧ b < 2147483648) : ex_ev d cal y (.if_icmp .ge L :: c, pl, .int (Int32.ofInt b) :: .int (Int32.ofInt a) :: st, w) = ex_ev d cal y (ex_blk y L.toNat, pl, st, w) := by
  rw [ev_icmp_ge, if_pos ((z_le h.2.2.2.1 h.2.2.2.2 h.2.1 h.2.2.1).2 h.1)]
theorem rx_ige_f {d : Nat} {cal : Nat → List Value → PW → Option ER} {y : Nat} {c : List Instr} {pl st : List Value} {w : PW} {L : Int} {a b : Int} (h : ¬ (b ≤ a) ∧ -2147483648 ≤ a ∧ a < 2147483648 ∧ -2147483648 ≤ b ∧ b < 2147483648) : ex_ev d cal y (.if_icmp .ge L :: c, pl, .int (Int32.ofInt b) :: .int (Int32.ofInt a) :: st, w) = ex_ev d cal y (c, pl, st, w) := by
  rw [ev_icmp_ge, if_neg (fun h1 => h.1 ((z_le h.2.2.2.1 h.2.2.2.2 h.2.1 h.2.2.1).1 h1))]
theorem rx_igt_t {d : Nat} {cal : Nat → List Value → PW → Option ER} {y : Nat} {c : List Instr} {pl st : List Value} {w : PW} {L : Int} {a b : Int} (h : b < a ∧ -2147483648 ≤ a ∧ a < 2147483648 ∧ -2147483648 ≤ b ∧ b < 2147483648) : ex_ev d cal y (.if_icmp .gt L :: c, pl, .int (Int32.ofInt b) :: .int (Int32.ofInt a) :: st, w) = ex_ev d cal y (ex_blk y L.toNat, pl, st, w) := by
  rw [ev_icmp_gt, if_pos ((z_lt h.2.2.2.1 h.2.2.2.2 h.2.1 h.2.2.1).2 h.1)]
theorem rx_igt_f {d : Nat} {cal : Nat → List Value → PW → Option ER} {y : Nat} {c : List Instr} {pl st : List Value} {w : PW} {L : Int} {a b : Int} (h : ¬ (b < a) ∧ -2147483648 ≤ a ∧ a < 2147483648 ∧ -2147483648 ≤ b ∧ b < 2147483648) : ex_ev d cal y (.if_icmp .gt L :: c, pl, .int (Int32.ofInt b) :: .int (Int32.ofInt a) :: st, w) = ex_ev d cal y (c, pl, st, w) := by
  rw [ev_icmp_gt, if_neg (fun h1 => h.1 ((z_lt h.2.2.2.1 h.2.2.2.2 h.2.1 h.2.2.1).1 h1))]
theorem rx_ile_t {d : Nat} {cal : Nat → List Value → PW → Option ER} {y : Nat} {c : List Instr} {pl st : List Value} {w : PW} {L : Int} {a b : Int} (h : a ≤ b ∧ -2147483648 ≤ a ∧ a < 2147483648 ∧ -2147483648 ≤ b ∧ b < 2147483648) : ex_ev d cal y (.if_icmp .le L :: c, pl, .int (Int32.ofInt b) :: .int (Int32.ofInt a) :: st, w) = ex_ev d cal y (ex_blk y L.toNat, pl, st, w) := by
  rw [ev_icmp_le, if_pos ((z_le h.2.1 h.2.2.1 h.2.2.2.1 h.2.2.2.2).2 h.1)]
theorem rx_ile_f {d : Nat} {cal : Nat → List Value → PW → Option ER} {y : Nat} {c : List Instr} {pl st : List Value} {w : PW} {L : Int} {a b : Int} (h : ¬ (a ≤ b) ∧ -2147483648 ≤ a ∧ a < 2147483648 ∧ -2147483648 ≤ b ∧ b < 2147483648) : ex_ev d cal y (.if_icmp .le L :: c, pl, .int (Int32.ofInt b) :: .int (Int32.ofInt a) :: st, w) = ex_ev d cal y (c, pl, st, w) := by
  rw [ev_icmp_le, if_neg (fun h1 => h.1 ((z_le h.2.1 h.2.2.1 h.2.2.2.1 h.2.2.2.2).1 h1))]
theorem rx_zeq_t {d : Nat} {cal : Nat → List Value → PW → Option ER} {y : Nat} {c : List Instr} {pl st : List Value} {w : PW} {L : Int} {a : Int} (h : a = 0 ∧ -2147483648 ≤ a ∧ a < 2147483648) : ex_ev d cal y (.ifCond .eq L :: c, pl, .int (Int32.ofInt a) :: st, w) = ex_ev d cal y (ex_blk y L.toNat, pl, st, w) := by
  rw [ev_if_eq, z_0, if_pos ((z_eq h.2.1 h.2.2 (by omega) (by omega)).2 h.1)]
theorem rx_zeq_f {d : Nat} {cal : Nat → List Value → PW → Option ER} {y : Nat} {c : List Instr} {pl st : List Value} {w : PW} {L : Int} {a : Int} (h : ¬ (a = 0) ∧ -2147483648 ≤ a ∧ a < 2147483648) : ex_ev d cal y (.ifCond .eq L :: c, pl, .int (Int32.ofInt a) :: st, w) = ex_ev d cal y (c, pl, st, w) := by
  rw [ev_if_eq, z_0, if_neg (fun h1 => h.1 ((z_eq h.2.1 h.2.2 (by omega) (by omega)).1 h1))]
theorem rx_zne_t {d : Nat} {cal : Nat → List Value → PW → Option ER} {y : Nat} {c : List Instr} {pl st : List Value} {w : PW} {L : Int} {a : Int} (h : ¬ a = 0 ∧ -2147483648 ≤ a ∧ a < 2147483648) : ex_ev d cal y (.ifCond .ne L :: c, pl, .int (Int32.ofInt a) :: st, w) = ex_ev d cal y (ex_blk y L.toNat, pl, st, w) := by
  rw [ev_if_ne, z_0, if_pos (fun h1 => h.1 ((z_eq h.2.1 h.2.2 (by omega) (by omega)).1 h1))]
theorem rx_zne_f {d : Nat} {cal : Nat → List Value → PW → Option ER} {y : Nat} {c : List Instr} {pl st : List Value} {w : PW} {L : Int} {a : Int} (h : ¬ (¬ a = 0) ∧ -2147483648 ≤ a ∧ a < 2147483648) : ex_ev d cal y (.ifCond .ne L :: c, pl, .int (Int32.ofInt a) :: st, w) = ex_ev d cal y (c, pl, st, w) := by
  rw [ev_if_ne, z_0, if_neg (fun h1 => h.1 (fun h2 => h1 ((z_eq h.2.1 h.2.2 (by omega) (by omega)).2 h2)))]
theorem rx_zlt_t {d : Nat} {cal : Nat → List Value → PW → Option ER} {y : Nat} {c : List Instr} {pl st : List Value} {w : PW} {L : Int} {a : Int} (h : a < 0 ∧ -2147483648 ≤ a ∧ a < 2147483648) : ex_ev d cal y (.ifCond .lt L :: c, pl, .int (Int32.ofInt a) :: st, w) = ex_ev d cal y (ex_blk y L.toNat, pl, st, w) := by
  rw [ev_if_lt, z_0, if_pos ((z_lt h.2.1 h.2.2 (by omega) (by omega)).2 h.1)]
theorem rx_zlt_f {d : Nat} {cal : Nat → List Value → PW → Option ER} {y : Nat} {c : List Instr} {pl st : List Value} {w : PW} {L : Int} {a : Int} (h : ¬ (a < 0) ∧ -2147483648 ≤ a ∧ a < 2147483648) : ex_ev d cal y (.ifCond .lt L :: c, pl, .int (Int32.ofInt a) :: st, w) = ex_ev d cal y (c, pl, st, w) := by
  rw [ev_if_lt, z_0, if_neg (fun h1 => h.1 ((z_lt h.2.1 h.2.2 (by omega) (by omega)).1 h1))]
theorem rx_zge_t {d : Nat} {cal : Nat → List Value → PW → Option ER} {y : Nat} {c : List Instr} {pl st : List Value} {w : PW} {L : Int} {a : Int} (h : 0 ≤ a ∧ -2147483648 ≤ a ∧ a < 2147483648) : ex_ev d cal y (.ifCond .ge L :: c, pl, .int (Int32.ofInt a) :: st, w) = ex_ev d cal y (ex_blk y L.toNat, pl, st, w) := by
  rw [ev_if_ge, z_0, if_pos ((z_le (by omega) (by omega) h.2.1 h.2.2).2 h.1)]
theorem rx_zge_f {d : Nat} {cal : Nat → List Value → PW → Option ER} {y : Nat} {c : List Instr} {pl st : List Value} {w : PW} {L : Int} {a : Int} (h : ¬ (0 ≤ a) ∧ -2147483648 ≤ a ∧ a < 2147483648) : ex_ev d cal y (.ifCond .ge L :: c, pl, .int (Int32.ofInt a) :: st, w) = ex_ev d cal y (c, pl, st, w) := by
  rw [ev_if_ge, z_0, if_neg (fun h1 => h.1 ((z_le (by omega) (by omega) h.2.1 h.2.2).1 h1))]
theorem rx_zgt_t {d : Nat} {cal : Nat → List Value → PW → Option ER} {y : Nat} {c : List Instr} {pl st : List Value} {w : PW} {L : Int} {a : Int} (h : 0 < a ∧ -2147483648 ≤ a ∧ a < 2147483648) : ex_ev d cal y (.ifCond .gt L :: c, pl, .int (Int32.ofInt a) :: st, w) = ex_ev d cal y (ex_blk y L.toNat, pl, st, w) := by
  rw [ev_if_gt, z_0, if_pos ((z_lt (by omega) (by omega) h.2.1 h.2.2).2 h.1)]
theorem rx_zgt_f {d : Nat} {cal : Nat → List Value → PW → Option ER} {y : Nat} {c : List Instr} {pl st : List Value} {w : PW} {L : Int} {a : Int} (h : ¬ (0 < a) ∧ -2147483648 ≤ a ∧ a < 2147483648) : ex_ev d cal y (.ifCond .gt L :: c, pl, .int (Int32.ofInt a) :: st, w) = ex_ev d cal y (c, pl, st, w) := by
  rw [ev_if_gt, z_0, if_neg (fun h1 => h.1 ((z_lt (by omega) (by omega) h.2.1 h.2.2).1 h1))]
theorem rx_zle_t {d : Nat} {cal : Nat → List Value → PW → Option ER} {y : Nat} {c : List Instr} {pl st : List Value} {w : PW} {L : Int} {a : Int} (h : a ≤ 0 ∧ -2147483648 ≤ a ∧ a < 2147483648) : ex_ev d cal y (.ifCond .le L :: c, pl, .int (Int32.ofInt a) :: st, w) = ex_ev d cal y (ex_blk y L.toNat, pl, st, w) := by
  rw [ev_if_le, z_0, if_pos ((z_le h.2.1 h.2.2 (by omega) (by omega)).2 h.1)]
theorem rx_zle_f {d : Nat} {cal : Nat → List Value → PW → Option ER} {y : Nat} {c : List Instr} {pl st : List Value} {w : PW} {L : Int} {a : Int} (h : ¬ (a ≤ 0) ∧ -2147483648 ≤ a ∧ a < 2147483648) : ex_ev d cal y (.ifCond .le L :: c, pl, .int (Int32.ofInt a) :: st, w) = ex_ev d cal y (c, pl, st, w) := by
  rw [ev_if_le, z_0, if_neg (fun h1 => h.1 ((z_le h.2.1 h.2.2 (by omega) (by omega)).1 h1))]
theorem rx_idiv {d : Nat} {cal : Nat → List Value → PW → Option ER} {y : Nat} {c : List Instr} {pl st : List Value} {w : PW} {a b : Int} (h : 0 ≤ a ∧ a < 2147483648 ∧ 0 < b ∧ b < 2147483648) : ex_ev d cal y (.idiv :: c, pl, .int (Int32.ofInt b) :: .int (Int32.ofInt a) :: st, w) = ex_ev d cal y (c, pl, .int (Int32.ofInt (a / b)) :: st, w) := by
  rw [ev_idiv, z_0, if_neg (fun h1 => by have := (z_eq (by omega) h.2.2.2 (by omega) (by omega)).1 h1; omega), z_tdiv h.1 h.2.1 h.2.2.1 h.2.2.2]
theorem rx_irem {d : Nat} {cal : Nat → List Value → PW → Option ER} {y : Nat} {c : List Instr} {pl st : List Value} {w : PW} {a b : Int} (h : 0 ≤ a ∧ a < 2147483648 ∧ 0 < b ∧ b < 2147483648) : ex_ev d cal y (.irem :: c, pl, .int (Int32.ofInt b) :: .int (Int32.ofInt a) :: st, w) = ex_ev d cal y (c, pl, .int (Int32.ofInt (a % b)) :: st, w) := by
  rw [ev_irem, z_0, if_neg (fun h1 => by have := (z_eq (by omega) h.2.2.2 (by omega) (by omega)).1 h1; omega), z_tdiv h.1 h.2.1 h.2.2.1 h.2.2.2, z_mul, z_sub, z_rem]
theorem rx_zret_t {d : Nat} {cal : Nat → List Value → PW → Option ER} {y : Nat} {c : List Instr} {pl : List Value} {w : PW} {a : Int} (h : a = 0 ∨ a = 1) : ex_ev d cal y (.areturn :: c, pl, [.int (Int32.ofInt a)], w) = (if ex_ret y = some .boolean then some (some (.int (Int32.ofInt a)), w) else none) := by
  rw [rx_zret, if_pos (by rcases h with h | h <;> subst h <;> decide)]
theorem rx_zretI {d : Nat} {cal : Nat → List Value → PW → Option ER} {y : Nat} {c : List Instr} {pl : List Value} {w : PW} {P : Prop} [Decidable P] : ex_ev d cal y (.areturn :: c, pl, [.int (bI P)], w) = (if ex_ret y = some .boolean then some (some (.int (bI P)), w) else none) := by
  rw [rx_zret, if_pos ((bI_01 P).2 trivial)]
theorem rx_zretP {d : Nat} {cal : Nat → List Value → PW → Option ER} {y : Nat} {c : List Instr} {pl : List Value} {w : PW} {P : Prop} : ex_ev d cal y (.areturn :: c, pl, [.int (bP P)], w) = (if ex_ret y = some .boolean then some (some (.int (bP P)), w) else none) := by
  rw [rx_zret, if_pos ((bP_01 P).2 trivial)]
theorem rx_xeq_t {d : Nat} {cal : Nat → List Value → PW → Option ER} {y : Nat} {c : List Instr} {pl st : List Value} {w : PW} {L : Int} {x : Int32} (h : x = Int32.ofInt 0) : ex_ev d cal y (.ifCond .eq L :: c, pl, .int x :: st, w) = ex_ev d cal y (ex_blk y L.toNat, pl, st, w) := by
  rw [ev_if_eq, z_0, if_pos h]
theorem rx_xeq_f {d : Nat} {cal : Nat → List Value → PW → Option ER} {y : Nat} {c : List Instr} {pl st : List Value} {w : PW} {L : Int} {x : Int32} (h : ¬ x = Int32.ofInt 0) : ex_ev d cal y (.ifCond .eq L :: c, pl, .int x :: st, w) = ex_ev d cal y (c, pl, st, w) := by
  rw [ev_if_eq, z_0, if_neg h]
theorem rx_xne_t {d : Nat} {cal : Nat → List Value → PW → Option ER} {y : Nat} {c : List Instr} {pl st : List Value} {w : PW} {L : Int} {x : Int32} (h : ¬ x = Int32.ofInt 0) : ex_ev d cal y (.ifCond .ne L :: c, pl, .int x :: st, w) = ex_ev d cal y (ex_blk y L.toNat, pl, st, w) := by
  rw [ev_if_ne, z_0, if_pos h]
theorem rx_xne_f {d : Nat} {cal : Nat → List Value → PW → Option ER} {y : Nat} {c : List Instr} {pl st : List Value} {w : PW} {L : Int} {x : Int32} (h : x = Int32.ofInt 0) : ex_ev d cal y (.ifCond .ne L :: c, pl, .int x :: st, w) = ex_ev d cal y (c, pl, st, w) := by
  rw [ev_if_ne, z_0, if_neg (fun h1 => h1 h)]
theorem bI_T {h : Decidable True} : @bI True h = Int32.ofInt 1 := bI_t trivial
theorem bI_F {h : Decidable False} : @bI False h = Int32.ofInt 0 := bI_f id
theorem bP_T : bP True = Int32.ofInt 1 := bP_t trivial
theorem bP_F : bP False = Int32.ofInt 0 := bP_f id

