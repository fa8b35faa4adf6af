/-! integers as Int32.ofInt of a whole number -/
abbrev zI (z : Int) : Int32 := Int32.ofInt z
theorem z_0 : (0 : Int32) = Int32.ofInt 0 := rfl
theorem z_1 : (1 : Int32) = Int32.ofInt 1 := rfl
theorem z_n (n : Nat) : nI n = Int32.ofInt (n : Int) := rfl
theorem z_add (a b : Int) : Int32.ofInt a + Int32.ofInt b = Int32.ofInt (a + b) := (Int32.ofInt_add a b).symm
theorem z_sub (a b : Int) : Int32.ofInt a - Int32.ofInt b = Int32.ofInt (a - b) := (Int32.ofInt_sub a b).symm
theorem z_mul (a b : Int) : Int32.ofInt a * Int32.ofInt b = Int32.ofInt (a * b) := (Int32.ofInt_mul a b).symm
theorem z_toInt {a : Int} (h1 : -2147483648 ≤ a) (h2 : a < 2147483648) : (Int32.ofInt a).toInt = a := by
  rw [Int32.toInt_ofInt]
  have hs : (Int32.size : Int) = 4294967296 := rfl
  exact Int.bmod_eq_of_le (by omega) (by omega)
theorem z_lt {a b : Int} (h1 : -2147483648 ≤ a) (h2 : a < 2147483648) (h3 : -2147483648 ≤ b) (h4 : b < 2147483648) : (Int32.ofInt a < Int32.ofInt b) ↔ a < b := by
  rw [Int32.lt_iff_toInt_lt, z_toInt h1 h2, z_toInt h3 h4]
theorem z_le {a b : Int} (h1 : -2147483648 ≤ a) (h2 : a < 2147483648) (h3 : -2147483648 ≤ b) (h4 : b < 2147483648) : (Int32.ofInt a ≤ Int32.ofInt b) ↔ a ≤ b := by
  rw [Int32.le_iff_toInt_le, z_toInt h1 h2, z_toInt h3 h4]
theorem z_eq {a b : Int} (h1 : -2147483648 ≤ a) (h2 : a < 2147483648) (h3 : -2147483648 ≤ b) (h4 : b < 2147483648) : (Int32.ofInt a = Int32.ofInt b) ↔ a = b := by
  rw [← Int32.toInt_inj, z_toInt h1 h2, z_toInt h3 h4]
theorem z_clamp {a : Int} (h1 : 0 ≤ a) (h2 : a < 2147483648) : (Int32.ofInt a).toNatClampNeg = a.toNat := by
  show (Int32.ofInt a).toInt.toNat = a.toNat
  rw [z_toInt (by omega) h2]
theorem z_clampN {n : Nat} (h2 : n < 2147483648) : (Int32.ofInt (n : Int)).toNatClampNeg = n := by
  rw [z_clamp (by omega) (by omega)]; rfl
theorem z_of (x : Int32) : ∃ z : Int, -2147483648 ≤ z ∧ z < 2147483648 ∧ x = Int32.ofInt z :=
  ⟨x.toInt, Int32.le_toInt x, Int32.toInt_lt x, (Int32.ofInt_toInt x).symm⟩
theorem z_bool (c : Prop) [Decidable c] : (if c then Int32.ofInt 1 else Int32.ofInt 0) = (if c then 1 else 0) := rfl
theorem z_ite0 (c : Prop) [h : Decidable c] : ((if c then Int32.ofInt 1 else Int32.ofInt 0) = Int32.ofInt 0) ↔ ¬ c := by
  by_cases hc : c <;> simp [hc]
theorem z_ite01 (c : Prop) [h : Decidable c] : ((if c then Int32.ofInt 1 else Int32.ofInt 0) = Int32.ofInt 0 ∨ (if c then Int32.ofInt 1 else Int32.ofInt 0) = Int32.ofInt 1) ↔ True := by
  by_cases hc : c <;> simp [hc]
theorem z_10 : ¬ (Int32.ofInt 1 = Int32.ofInt 0) := by decide
theorem z_01 : ¬ (Int32.ofInt 0 = Int32.ofInt 1) := by decide
theorem z_neg (a : Int) : -Int32.ofInt a = Int32.ofInt (-a) := (Int32.ofInt_neg a).symm
theorem z_tdiv {a b : Int} (h1 : 0 ≤ a) (h2 : a < 2147483648) (h3 : 0 < b) (h4 : b < 2147483648) : Int32.ofInt a / Int32.ofInt b = Int32.ofInt (a / b) := by
  apply Int32.toInt_inj.1
  rw [Int32.toInt_div, z_toInt (by omega) h2, z_toInt (by omega) h4, Int.tdiv_eq_ediv_of_nonneg h1]
  have h5 : a / b ≤ a := Int.ediv_le_self _ h1
  have h6 : 0 ≤ a / b := Int.ediv_nonneg h1 (by omega)
  rw [z_toInt (by omega) (by omega)]
  have hs : (2 : Nat) ^ 32 = 4294967296 := by decide
  exact Int.bmod_eq_of_le (by omega) (by omega)
theorem z_rem {a b : Int} : a - a / b * b = a % b := by
  rw [Int.emod_def, Int.mul_comm]
theorem z_max {a b : Int} : (if Int32.ofInt a < Int32.ofInt b then Int32.ofInt b else Int32.ofInt a) = Int32.ofInt (if Int32.ofInt a < Int32.ofInt b then b else a) := by
  split <;> rfl
/-- a truth as the machine has it -/
def bI (P : Prop) [Decidable P] : Int32 := if P then 1 else 0
theorem bI_z (P : Prop) [Decidable P] : (bI P = Int32.ofInt 0) ↔ ¬ P := by
  unfold bI; by_cases h : P <;> simp [h, z_0]
theorem bI_n (P : Prop) [Decidable P] : (¬ bI P = Int32.ofInt 0) ↔ P := by
  rw [bI_z]; exact Decidable.not_not
theorem bI_1 (P : Prop) [Decidable P] : (bI P = Int32.ofInt 1) ↔ P := by
  unfold bI; by_cases h : P <;> simp [h, z_0, z_1]
theorem bI_01 (P : Prop) [Decidable P] : (bI P = Int32.ofInt 0 ∨ bI P = Int32.ofInt 1) ↔ True := by
  rw [bI_z, bI_1]; exact ⟨fun _ => trivial, fun _ => (Decidable.em P).symm⟩
theorem bI_t {P : Prop} [Decidable P] (h : P) : bI P = Int32.ofInt 1 := by
  unfold bI; rw [if_pos h]; rfl
theorem bI_f {P : Prop} [Decidable P] (h : ¬ P) : bI P = Int32.ofInt 0 := by
  unfold bI; rw [if_neg h]; rfl
theorem bI_true : bI True = Int32.ofInt 1 := bI_t trivial
theorem bI_false : bI False = Int32.ofInt 0 := bI_f id
theorem bI_congr {P Q : Prop} [Decidable P] [Decidable Q] (h : P ↔ Q) : bI P = bI Q := by
  by_cases hp : P
  · rw [bI_t hp, bI_t (h.1 hp)]
  · rw [bI_f hp, bI_f (fun q => hp (h.2 q))]
theorem zret0 : (Int32.ofInt 0 = Int32.ofInt 0 ∨ Int32.ofInt 0 = Int32.ofInt 1) ↔ True := by decide
theorem zret1 : (Int32.ofInt 1 = Int32.ofInt 0 ∨ Int32.ofInt 1 = Int32.ofInt 1) ↔ True := by decide
/-! returns -/
theorem rx_iret {d : Nat} {cal : Nat → List Value → PW → Option ER} {y : Nat} {c : List Instr} {pl : List Value} {w : PW} {x : Int32} : ex_ev d cal y (.ireturn :: c, pl, [.int x], w) = (if ex_ret y = some .int then some (some (.int x), w) else none) := ev_iret (st := [])
theorem rx_zret {d : Nat} {cal : Nat → List Value → PW → Option ER} {y : Nat} {c : List Instr} {pl : List Value} {w : PW} {x : Int32} : ex_ev d cal y (.areturn :: c, pl, [.int x], w) = (if x = Int32.ofInt 0 ∨ x = Int32.ofInt 1 then (if ex_ret y = some .boolean then some (some (.int x), w) else none) else none) := ev_zret (st := [])
theorem rx_lret {d : Nat} {cal : Nat → List Value → PW → Option ER} {y : Nat} {c : List Instr} {pl : List Value} {w : PW} {x : Int64} : ex_ev d cal y (.lreturn :: c, pl, [.long x], w) = (if ex_ret y = some .long then some (some (.long x), w) else none) := ev_lret (st := [])
theorem rx_vret {d : Nat} {cal : Nat → List Value → PW → Option ER} {y : Nat} {c : List Instr} {pl : List Value} {w : PW} : ex_ev d cal y (.return_ :: c, pl, [], w) = (if ex_ret y = none then some (none, w) else none) := ev_vret (st := [])
/-! arrays within their bounds -/
theorem z_in {c : Int} {n : Nat} (h0 : 0 ≤ c) (h1 : c < n) (hn : n < 1000) : (Int32.ofInt c < 0 ∨ n ≤ (Int32.ofInt c).toNatClampNeg) ↔ False := by
  rw [z_clamp h0 (by omega), z_0, z_lt (by omega) (by omega) (by omega) (by omega)]
  exact ⟨fun h => by rcases h with h | h <;> omega, False.elim⟩
theorem rd_A (w : PW) (o : Nat) (n : Nat) (ho : o < 1000) (hc : ex_cls o = 12) (hl : ex_len o = n) (hn : n < 1000) {c : Int} (h0 : 0 ≤ c) (h1 : c < n) : ex_ald w o (Int32.ofInt c) = some (w.1 o c.toNat) := by
  unfold ex_ald
  rw [if_neg (by omega), if_neg (by omega), if_neg (by omega), if_pos hc, hl, if_neg (by rw [z_in h0 h1 hn]; exact id), z_clamp h0 (by omega)]
theorem rd_B (d : Nat) (cal : Nat → List Value → PW → Option ER) (y : Nat) (k : List Instr) (pl st : List Value) (w : PW) (o : Nat) (n : Nat) (hc : ex_cls o = 13) (hl : ex_len o = n) (hn : n < 1000) {c : Int} (h0 : 0 ≤ c) (h1 : c < n) : ex_ev d cal y (.baload :: k, pl, .int (Int32.ofInt c) :: .ref o :: st, w) = ex_ev d cal y (k, pl, .int (w.1 o c.toNat) :: st, w) := by
  rw [ev_bald, if_pos ⟨hc, by rw [hl, z_in h0 h1 hn]; exact id⟩, z_clamp h0 (by omega)]
theorem wr_A (d : Nat) (cal : Nat → List Value → PW → Option ER) (y : Nat) (k : List Instr) (pl st : List Value) (w : PW) (x : Int32) (o : Nat) (n : Nat) (hc : ex_cls o = 12) (hl : ex_len o = n) (hn : n < 1000) {c : Int} (h0 : 0 ≤ c) (h1 : c < n) : ex_ev d cal y (.iastore :: k, pl, .int x :: .int (Int32.ofInt c) :: .ref o :: st, w) = ex_ev d cal y (k, pl, st, ex_up w o c.toNat x) := by
  rw [ev_iast, if_pos ⟨hc, by rw [hl, z_in h0 h1 hn]; exact id⟩, z_clamp h0 (by omega)]
theorem wr_B (d : Nat) (cal : Nat → List Value → PW → Option ER) (y : Nat) (k : List Instr) (pl st : List Value) (w : PW) (x : Int32) (o : Nat) (n : Nat) (hc : ex_cls o = 13) (hl : ex_len o = n) (hn : n < 1000) {c : Int} (h0 : 0 ≤ c) (h1 : c < n) : ex_ev d cal y (.bastore :: k, pl, .int x :: .int (Int32.ofInt c) :: .ref o :: st, w) = ex_ev d cal y (k, pl, st, ex_up w o c.toNat x.toInt8.toInt32) := by
  rw [ev_bast, if_pos ⟨hc, by rw [hl, z_in h0 h1 hn]; exact id⟩, z_clamp h0 (by omega)]
/-- the ways: up, right, down, left -/
def q_dn (v : Int) : Int := if v = 0 then -1 else if v = 2 then 1 else 0
def q_rt (v : Int) : Int := if v = 1 then 1 else if v = 3 then -1 else 0
theorem kA_2 {w : PW} {c : Int} (h0 : 0 ≤ c) (h1 : c < 40) : ex_ald w 2 (Int32.ofInt c) = some (w.1 2 c.toNat) := rd_A w 2 40 (by omega) kc_2 kl_2 (by omega) h0 h1
theorem kS_2 {d : Nat} {cal : Nat → List Value → PW → Option ER} {y : Nat} {k : List Instr} {pl st : List Value} {w : PW} {x : Int32} {c : Int} (h0 : 0 ≤ c) (h1 : c < 40) : ex_ev d cal y (.iastore :: k, pl, .int x :: .int (Int32.ofInt c) :: .ref 2 :: st, w) = ex_ev d cal y (k, pl, st, ex_up w 2 c.toNat x) := wr_A d cal y k pl st w x 2 40 kc_2 kl_2 (by omega) h0 h1
theorem kA_6 {w : PW} {c : Int} (h0 : 0 ≤ c) (h1 : c < 24) : ex_ald w 6 (Int32.ofInt c) = some (w.1 6 c.toNat) := rd_A w 6 24 (by omega) kc_6 kl_6 (by omega) h0 h1
theorem kS_6 {d : Nat} {cal : Nat → List Value → PW → Option ER} {y : Nat} {k : List Instr} {pl st : List Value} {w : PW} {x : Int32} {c : Int} (h0 : 0 ≤ c) (h1 : c < 24) : ex_ev d cal y (.iastore :: k, pl, .int x :: .int (Int32.ofInt c) :: .ref 6 :: st, w) = ex_ev d cal y (k, pl, st, ex_up w 6 c.toNat x) := wr_A d cal y k pl st w x 6 24 kc_6 kl_6 (by omega) h0 h1
theorem kA_7 {w : PW} {c : Int} (h0 : 0 ≤ c) (h1 : c < 24) : ex_ald w 7 (Int32.ofInt c) = some (w.1 7 c.toNat) := rd_A w 7 24 (by omega) kc_7 kl_7 (by omega) h0 h1
theorem kS_7 {d : Nat} {cal : Nat → List Value → PW → Option ER} {y : Nat} {k : List Instr} {pl st : List Value} {w : PW} {x : Int32} {c : Int} (h0 : 0 ≤ c) (h1 : c < 24) : ex_ev d cal y (.iastore :: k, pl, .int x :: .int (Int32.ofInt c) :: .ref 7 :: st, w) = ex_ev d cal y (k, pl, st, ex_up w 7 c.toNat x) := wr_A d cal y k pl st w x 7 24 kc_7 kl_7 (by omega) h0 h1
theorem kA_8 {w : PW} {c : Int} (h0 : 0 ≤ c) (h1 : c < 24) : ex_ald w 8 (Int32.ofInt c) = some (w.1 8 c.toNat) := rd_A w 8 24 (by omega) kc_8 kl_8 (by omega) h0 h1
theorem kS_8 {d : Nat} {cal : Nat → List Value → PW → Option ER} {y : Nat} {k : List Instr} {pl st : List Value} {w : PW} {x : Int32} {c : Int} (h0 : 0 ≤ c) (h1 : c < 24) : ex_ev d cal y (.iastore :: k, pl, .int x :: .int (Int32.ofInt c) :: .ref 8 :: st, w) = ex_ev d cal y (k, pl, st, ex_up w 8 c.toNat x) := wr_A d cal y k pl st w x 8 24 kc_8 kl_8 (by omega) h0 h1
theorem kA_9 {w : PW} {c : Int} (h0 : 0 ≤ c) (h1 : c < 4) : ex_ald w 9 (Int32.ofInt c) = some (w.1 9 c.toNat) := rd_A w 9 4 (by omega) kc_9 kl_9 (by omega) h0 h1
theorem kS_9 {d : Nat} {cal : Nat → List Value → PW → Option ER} {y : Nat} {k : List Instr} {pl st : List Value} {w : PW} {x : Int32} {c : Int} (h0 : 0 ≤ c) (h1 : c < 4) : ex_ev d cal y (.iastore :: k, pl, .int x :: .int (Int32.ofInt c) :: .ref 9 :: st, w) = ex_ev d cal y (k, pl, st, ex_up w 9 c.toNat x) := wr_A d cal y k pl st w x 9 4 kc_9 kl_9 (by omega) h0 h1
theorem kA_10 {w : PW} {c : Int} (h0 : 0 ≤ c) (h1 : c < 96) : ex_ald w 10 (Int32.ofInt c) = some (w.1 10 c.toNat) := rd_A w 10 96 (by omega) kc_10 kl_10 (by omega) h0 h1
theorem kS_10 {d : Nat} {cal : Nat → List Value → PW → Option ER} {y : Nat} {k : List Instr} {pl st : List Value} {w : PW} {x : Int32} {c : Int} (h0 : 0 ≤ c) (h1 : c < 96) : ex_ev d cal y (.iastore :: k, pl, .int x :: .int (Int32.ofInt c) :: .ref 10 :: st, w) = ex_ev d cal y (k, pl, st, ex_up w 10 c.toNat x) := wr_A d cal y k pl st w x 10 96 kc_10 kl_10 (by omega) h0 h1
theorem kA_11 {w : PW} {c : Int} (h0 : 0 ≤ c) (h1 : c < 96) : ex_ald w 11 (Int32.ofInt c) = some (w.1 11 c.toNat) := rd_A w 11 96 (by omega) kc_11 kl_11 (by omega) h0 h1
theorem kS_11 {d : Nat} {cal : Nat → List Value → PW → Option ER} {y : Nat} {k : List Instr} {pl st : List Value} {w : PW} {x : Int32} {c : Int} (h0 : 0 ≤ c) (h1 : c < 96) : ex_ev d cal y (.iastore :: k, pl, .int x :: .int (Int32.ofInt c) :: .ref 11 :: st, w) = ex_ev d cal y (k, pl, st, ex_up w 11 c.toNat x) := wr_A d cal y k pl st w x 11 96 kc_11 kl_11 (by omega) h0 h1
theorem kA_12 {w : PW} {c : Int} (h0 : 0 ≤ c) (h1 : c < 96) : ex_ald w 12 (Int32.ofInt c) = some (w.1 12 c.toNat) := rd_A w 12 96 (by omega) kc_12 kl_12 (by omega) h0 h1
theorem kS_12 {d : Nat} {cal : Nat → List Value → PW → Option ER} {y : Nat} {k : List Instr} {pl st : List Value} {w : PW} {x : Int32} {c : Int} (h0 : 0 ≤ c) (h1 : c < 96) : ex_ev d cal y (.iastore :: k, pl, .int x :: .int (Int32.ofInt c) :: .ref 12 :: st, w) = ex_ev d cal y (k, pl, st, ex_up w 12 c.toNat x) := wr_A d cal y k pl st w x 12 96 kc_12 kl_12 (by omega) h0 h1
theorem kA_13 {w : PW} {c : Int} (h0 : 0 ≤ c) (h1 : c < 96) : ex_ald w 13 (Int32.ofInt c) = some (w.1 13 c.toNat) := rd_A w 13 96 (by omega) kc_13 kl_13 (by omega) h0 h1
theorem kS_13 {d : Nat} {cal : Nat → List Value → PW → Option ER} {y : Nat} {k : List Instr} {pl st : List Value} {w : PW} {x : Int32} {c : Int} (h0 : 0 ≤ c) (h1 : c < 96) : ex_ev d cal y (.iastore :: k, pl, .int x :: .int (Int32.ofInt c) :: .ref 13 :: st, w) = ex_ev d cal y (k, pl, st, ex_up w 13 c.toNat x) := wr_A d cal y k pl st w x 13 96 kc_13 kl_13 (by omega) h0 h1
theorem kA_14 {w : PW} {c : Int} (h0 : 0 ≤ c) (h1 : c < 24) : ex_ald w 14 (Int32.ofInt c) = some (w.1 14 c.toNat) := rd_A w 14 24 (by omega) kc_14 kl_14 (by omega) h0 h1
theorem kS_14 {d : Nat} {cal : Nat → List Value → PW → Option ER} {y : Nat} {k : List Instr} {pl st : List Value} {w : PW} {x : Int32} {c : Int} (h0 : 0 ≤ c) (h1 : c < 24) : ex_ev d cal y (.iastore :: k, pl, .int x :: .int (Int32.ofInt c) :: .ref 14 :: st, w) = ex_ev d cal y (k, pl, st, ex_up w 14 c.toNat x) := wr_A d cal y k pl st w x 14 24 kc_14 kl_14 (by omega) h0 h1
theorem kA_15 {w : PW} {c : Int} (h0 : 0 ≤ c) (h1 : c < 24) : ex_ald w 15 (Int32.ofInt c) = some (w.1 15 c.toNat) := rd_A w 15 24 (by omega) kc_15 kl_15 (by omega) h0 h1
theorem kS_15 {d : Nat} {cal : Nat → List Value → PW → Option ER} {y : Nat} {k : List Instr} {pl st : List Value} {w : PW} {x : Int32} {c : Int} (h0 : 0 ≤ c) (h1 : c < 24) : ex_ev d cal y (.iastore :: k, pl, .int x :: .int (Int32.ofInt c) :: .ref 15 :: st, w) = ex_ev d cal y (k, pl, st, ex_up w 15 c.toNat x) := wr_A d cal y k pl st w x 15 24 kc_15 kl_15 (by omega) h0 h1
theorem kA_16 {w : PW} {c : Int} (h0 : 0 ≤ c) (h1 : c < 24) : ex_ald w 16 (Int32.ofInt c) = some (w.1 16 c.toNat) := rd_A w 16 24 (by omega) kc_16 kl_16 (by omega) h0 h1
theorem kS_16 {d : Nat} {cal : Nat → List Value → PW → Option ER} {y : Nat} {k : List Instr} {pl st : List Value} {w : PW} {x : Int32} {c : Int} (h0 : 0 ≤ c) (h1 : c < 24) : ex_ev d cal y (.iastore :: k, pl, .int x :: .int (Int32.ofInt c) :: .ref 16 :: st, w) = ex_ev d cal y (k, pl, st, ex_up w 16 c.toNat x) := wr_A d cal y k pl st w x 16 24 kc_16 kl_16 (by omega) h0 h1
theorem kA_19 {w : PW} {c : Int} (h0 : 0 ≤ c) (h1 : c < 60) : ex_ald w 19 (Int32.ofInt c) = some (w.1 19 c.toNat) := rd_A w 19 60 (by omega) kc_19 kl_19 (by omega) h0 h1
theorem kS_19 {d : Nat} {cal : Nat → List Value → PW → Option ER} {y : Nat} {k : List Instr} {pl st : List Value} {w : PW} {x : Int32} {c : Int} (h0 : 0 ≤ c) (h1 : c < 60) : ex_ev d cal y (.iastore :: k, pl, .int x :: .int (Int32.ofInt c) :: .ref 19 :: st, w) = ex_ev d cal y (k, pl, st, ex_up w 19 c.toNat x) := wr_A d cal y k pl st w x 19 60 kc_19 kl_19 (by omega) h0 h1
theorem kA_22 {w : PW} {c : Int} (h0 : 0 ≤ c) (h1 : c < 60) : ex_ald w 22 (Int32.ofInt c) = some (w.1 22 c.toNat) := rd_A w 22 60 (by omega) kc_22 kl_22 (by omega) h0 h1
theorem kS_22 {d : Nat} {cal : Nat → List Value → PW → Option ER} {y : Nat} {k : List Instr} {pl st : List Value} {w : PW} {x : Int32} {c : Int} (h0 : 0 ≤ c) (h1 : c < 60) : ex_ev d cal y (.iastore :: k, pl, .int x :: .int (Int32.ofInt c) :: .ref 22 :: st, w) = ex_ev d cal y (k, pl, st, ex_up w 22 c.toNat x) := wr_A d cal y k pl st w x 22 60 kc_22 kl_22 (by omega) h0 h1
theorem kA_24 {w : PW} {c : Int} (h0 : 0 ≤ c) (h1 : c < 60) : ex_ald w 24 (Int32.ofInt c) = some (w.1 24 c.toNat) := rd_A w 24 60 (by omega) kc_24 kl_24 (by omega) h0 h1
theorem kS_24 {d : Nat} {cal : Nat → List Value → PW → Option ER} {y : Nat} {k : List Instr} {pl st : List Value} {w : PW} {x : Int32} {c : Int} (h0 : 0 ≤ c) (h1 : c < 60) : ex_ev d cal y (.iastore :: k, pl, .int x :: .int (Int32.ofInt c) :: .ref 24 :: st, w) = ex_ev d cal y (k, pl, st, ex_up w 24 c.toNat x) := wr_A d cal y k pl st w x 24 60 kc_24 kl_24 (by omega) h0 h1
theorem kA_26 {w : PW} {c : Int} (h0 : 0 ≤ c) (h1 : c < 60) : ex_ald w 26 (Int32.ofInt c) = some (w.1 26 c.toNat) := rd_A w 26 60 (by omega) kc_26 kl_26 (by omega) h0 h1
theorem kS_26 {d : Nat} {cal : Nat → List Value → PW → Option ER} {y : Nat} {k : List Instr} {pl st : List Value} {w : PW} {x : Int32} {c : Int} (h0 : 0 ≤ c) (h1 : c < 60) : ex_ev d cal y (.iastore :: k, pl, .int x :: .int (Int32.ofInt c) :: .ref 26 :: st, w) = ex_ev d cal y (k, pl, st, ex_up w 26 c.toNat x) := wr_A d cal y k pl st w x 26 60 kc_26 kl_26 (by omega) h0 h1
theorem kA_28 {w : PW} {c : Int} (h0 : 0 ≤ c) (h1 : c < 60) : ex_ald w 28 (Int32.ofInt c) = some (w.1 28 c.toNat) := rd_A w 28 60 (by omega) kc_28 kl_28 (by omega) h0 h1
theorem kS_28 {d : Nat} {cal : Nat → List Value → PW → Option ER} {y : Nat} {k : List Instr} {pl st : List Value} {w : PW} {x : Int32} {c : Int} (h0 : 0 ≤ c) (h1 : c < 60) : ex_ev d cal y (.iastore :: k, pl, .int x :: .int (Int32.ofInt c) :: .ref 28 :: st, w) = ex_ev d cal y (k, pl, st, ex_up w 28 c.toNat x) := wr_A d cal y k pl st w x 28 60 kc_28 kl_28 (by omega) h0 h1
theorem kA_31 {w : PW} {c : Int} (h0 : 0 ≤ c) (h1 : c < 60) : ex_ald w 31 (Int32.ofInt c) = some (w.1 31 c.toNat) := rd_A w 31 60 (by omega) kc_31 kl_31 (by omega) h0 h1
theorem kS_31 {d : Nat} {cal : Nat → List Value → PW → Option ER} {y : Nat} {k : List Instr} {pl st : List Value} {w : PW} {x : Int32} {c : Int} (h0 : 0 ≤ c) (h1 : c < 60) : ex_ev d cal y (.iastore :: k, pl, .int x :: .int (Int32.ofInt c) :: .ref 31 :: st, w) = ex_ev d cal y (k, pl, st, ex_up w 31 c.toNat x) := wr_A d cal y k pl st w x 31 60 kc_31 kl_31 (by omega) h0 h1
theorem kA_33 {w : PW} {c : Int} (h0 : 0 ≤ c) (h1 : c < 60) : ex_ald w 33 (Int32.ofInt c) = some (w.1 33 c.toNat) := rd_A w 33 60 (by omega) kc_33 kl_33 (by omega) h0 h1
theorem kS_33 {d : Nat} {cal : Nat → List Value → PW → Option ER} {y : Nat} {k : List Instr} {pl st : List Value} {w : PW} {x : Int32} {c : Int} (h0 : 0 ≤ c) (h1 : c < 60) : ex_ev d cal y (.iastore :: k, pl, .int x :: .int (Int32.ofInt c) :: .ref 33 :: st, w) = ex_ev d cal y (k, pl, st, ex_up w 33 c.toNat x) := wr_A d cal y k pl st w x 33 60 kc_33 kl_33 (by omega) h0 h1
theorem kA_39 {w : PW} {c : Int} (h0 : 0 ≤ c) (h1 : c < 6) : ex_ald w 39 (Int32.ofInt c) = some (w.1 39 c.toNat) := rd_A w 39 6 (by omega) kc_39 kl_39 (by omega) h0 h1
theorem kS_39 {d : Nat} {cal : Nat → List Value → PW → Option ER} {y : Nat} {k : List Instr} {pl st : List Value} {w : PW} {x : Int32} {c : Int} (h0 : 0 ≤ c) (h1 : c < 6) : ex_ev d cal y (.iastore :: k, pl, .int x :: .int (Int32.ofInt c) :: .ref 39 :: st, w) = ex_ev d cal y (k, pl, st, ex_up w 39 c.toNat x) := wr_A d cal y k pl st w x 39 6 kc_39 kl_39 (by omega) h0 h1
theorem kA_40 {w : PW} {c : Int} (h0 : 0 ≤ c) (h1 : c < 144) : ex_ald w 40 (Int32.ofInt c) = some (w.1 40 c.toNat) := rd_A w 40 144 (by omega) kc_40 kl_40 (by omega) h0 h1
theorem kS_40 {d : Nat} {cal : Nat → List Value → PW → Option ER} {y : Nat} {k : List Instr} {pl st : List Value} {w : PW} {x : Int32} {c : Int} (h0 : 0 ≤ c) (h1 : c < 144) : ex_ev d cal y (.iastore :: k, pl, .int x :: .int (Int32.ofInt c) :: .ref 40 :: st, w) = ex_ev d cal y (k, pl, st, ex_up w 40 c.toNat x) := wr_A d cal y k pl st w x 40 144 kc_40 kl_40 (by omega) h0 h1
theorem kA_43 {w : PW} {c : Int} (h0 : 0 ≤ c) (h1 : c < 3) : ex_ald w 43 (Int32.ofInt c) = some (w.1 43 c.toNat) := rd_A w 43 3 (by omega) kc_43 kl_43 (by omega) h0 h1
theorem kS_43 {d : Nat} {cal : Nat → List Value → PW → Option ER} {y : Nat} {k : List Instr} {pl st : List Value} {w : PW} {x : Int32} {c : Int} (h0 : 0 ≤ c) (h1 : c < 3) : ex_ev d cal y (.iastore :: k, pl, .int x :: .int (Int32.ofInt c) :: .ref 43 :: st, w) = ex_ev d cal y (k, pl, st, ex_up w 43 c.toNat x) := wr_A d cal y k pl st w x 43 3 kc_43 kl_43 (by omega) h0 h1
theorem kA_44 {w : PW} {c : Int} (h0 : 0 ≤ c) (h1 : c < 3) : ex_ald w 44 (Int32.ofInt c) = some (w.1 44 c.toNat) := rd_A w 44 3 (by omega) kc_44 kl_44 (by omega) h0 h1
theorem kS_44 {d : Nat} {cal : Nat → List Value → PW → Option ER} {y : Nat} {k : List Instr} {pl st : List Value} {w : PW} {x : Int32} {c : Int} (h0 : 0 ≤ c) (h1 : c < 3) : ex_ev d cal y (.iastore :: k, pl, .int x :: .int (Int32.ofInt c) :: .ref 44 :: st, w) = ex_ev d cal y (k, pl, st, ex_up w 44 c.toNat x) := wr_A d cal y k pl st w x 44 3 kc_44 kl_44 (by omega) h0 h1
theorem kA_45 {w : PW} {c : Int} (h0 : 0 ≤ c) (h1 : c < 5) : ex_ald w 45 (Int32.ofInt c) = some (w.1 45 c.toNat) := rd_A w 45 5 (by omega) kc_45 kl_45 (by omega) h0 h1
theorem kS_45 {d : Nat} {cal : Nat → List Value → PW → Option ER} {y : Nat} {k : List Instr} {pl st : List Value} {w : PW} {x : Int32} {c : Int} (h0 : 0 ≤ c) (h1 : c < 5) : ex_ev d cal y (.iastore :: k, pl, .int x :: .int (Int32.ofInt c) :: .ref 45 :: st, w) = ex_ev d cal y (k, pl, st, ex_up w 45 c.toNat x) := wr_A d cal y k pl st w x 45 5 kc_45 kl_45 (by omega) h0 h1
theorem kA_46 {w : PW} {c : Int} (h0 : 0 ≤ c) (h1 : c < 6) : ex_ald w 46 (Int32.ofInt c) = some (w.1 46 c.toNat) := rd_A w 46 6 (by omega) kc_46 kl_46 (by omega) h0 h1
theorem kS_46 {d : Nat} {cal : Nat → List Value → PW → Option ER} {y : Nat} {k : List Instr} {pl st : List Value} {w : PW} {x : Int32} {c : Int} (h0 : 0 ≤ c) (h1 : c < 6) : ex_ev d cal y (.iastore :: k, pl, .int x :: .int (Int32.ofInt c) :: .ref 46 :: st, w) = ex_ev d cal y (k, pl, st, ex_up w 46 c.toNat x) := wr_A d cal y k pl st w x 46 6 kc_46 kl_46 (by omega) h0 h1
theorem kA_47 {w : PW} {c : Int} (h0 : 0 ≤ c) (h1 : c < 24) : ex_ald w 47 (Int32.ofInt c) = some (w.1 47 c.toNat) := rd_A w 47 24 (by omega) kc_47 kl_47 (by omega) h0 h1
theorem kS_47 {d : Nat} {cal : Nat → List Value → PW → Option ER} {y : Nat} {k : List Instr} {pl st : List Value} {w : PW} {x : Int32} {c : Int} (h0 : 0 ≤ c) (h1 : c < 24) : ex_ev d cal y (.iastore :: k, pl, .int x :: .int (Int32.ofInt c) :: .ref 47 :: st, w) = ex_ev d cal y (k, pl, st, ex_up w 47 c.toNat x) := wr_A d cal y k pl st w x 47 24 kc_47 kl_47 (by omega) h0 h1
theorem kA_48 {w : PW} {c : Int} (h0 : 0 ≤ c) (h1 : c < 24) : ex_ald w 48 (Int32.ofInt c) = some (w.1 48 c.toNat) := rd_A w 48 24 (by omega) kc_48 kl_48 (by omega) h0 h1
theorem kS_48 {d : Nat} {cal : Nat → List Value → PW → Option ER} {y : Nat} {k : List Instr} {pl st : List Value} {w : PW} {x : Int32} {c : Int} (h0 : 0 ≤ c) (h1 : c < 24) : ex_ev d cal y (.iastore :: k, pl, .int x :: .int (Int32.ofInt c) :: .ref 48 :: st, w) = ex_ev d cal y (k, pl, st, ex_up w 48 c.toNat x) := wr_A d cal y k pl st w x 48 24 kc_48 kl_48 (by omega) h0 h1
theorem kA_49 {w : PW} {c : Int} (h0 : 0 ≤ c) (h1 : c < 40) : ex_ald w 49 (Int32.ofInt c) = some (w.1 49 c.toNat) := rd_A w 49 40 (by omega) kc_49 kl_49 (by omega) h0 h1
theorem kS_49 {d : Nat} {cal : Nat → List Value → PW → Option ER} {y : Nat} {k : List Instr} {pl st : List Value} {w : PW} {x : Int32} {c : Int} (h0 : 0 ≤ c) (h1 : c < 40) : ex_ev d cal y (.iastore :: k, pl, .int x :: .int (Int32.ofInt c) :: .ref 49 :: st, w) = ex_ev d cal y (k, pl, st, ex_up w 49 c.toNat x) := wr_A d cal y k pl st w x 49 40 kc_49 kl_49 (by omega) h0 h1
theorem kA_50 {w : PW} {c : Int} (h0 : 0 ≤ c) (h1 : c < 60) : ex_ald w 50 (Int32.ofInt c) = some (w.1 50 c.toNat) := rd_A w 50 60 (by omega) kc_50 kl_50 (by omega) h0 h1
theorem kS_50 {d : Nat} {cal : Nat → List Value → PW → Option ER} {y : Nat} {k : List Instr} {pl st : List Value} {w : PW} {x : Int32} {c : Int} (h0 : 0 ≤ c) (h1 : c < 60) : ex_ev d cal y (.iastore :: k, pl, .int x :: .int (Int32.ofInt c) :: .ref 50 :: st, w) = ex_ev d cal y (k, pl, st, ex_up w 50 c.toNat x) := wr_A d cal y k pl st w x 50 60 kc_50 kl_50 (by omega) h0 h1
theorem kA_51 {w : PW} {c : Int} (h0 : 0 ≤ c) (h1 : c < 24) : ex_ald w 51 (Int32.ofInt c) = some (w.1 51 c.toNat) := rd_A w 51 24 (by omega) kc_51 kl_51 (by omega) h0 h1
theorem kS_51 {d : Nat} {cal : Nat → List Value → PW → Option ER} {y : Nat} {k : List Instr} {pl st : List Value} {w : PW} {x : Int32} {c : Int} (h0 : 0 ≤ c) (h1 : c < 24) : ex_ev d cal y (.iastore :: k, pl, .int x :: .int (Int32.ofInt c) :: .ref 51 :: st, w) = ex_ev d cal y (k, pl, st, ex_up w 51 c.toNat x) := wr_A d cal y k pl st w x 51 24 kc_51 kl_51 (by omega) h0 h1
theorem kA_52 {w : PW} {c : Int} (h0 : 0 ≤ c) (h1 : c < 3) : ex_ald w 52 (Int32.ofInt c) = some (w.1 52 c.toNat) := rd_A w 52 3 (by omega) kc_52 kl_52 (by omega) h0 h1
theorem kS_52 {d : Nat} {cal : Nat → List Value → PW → Option ER} {y : Nat} {k : List Instr} {pl st : List Value} {w : PW} {x : Int32} {c : Int} (h0 : 0 ≤ c) (h1 : c < 3) : ex_ev d cal y (.iastore :: k, pl, .int x :: .int (Int32.ofInt c) :: .ref 52 :: st, w) = ex_ev d cal y (k, pl, st, ex_up w 52 c.toNat x) := wr_A d cal y k pl st w x 52 3 kc_52 kl_52 (by omega) h0 h1
theorem kA_1000 {w : PW} {c : Int} (h0 : 0 ≤ c) (h1 : c < 4) : ex_ald w 1000 (Int32.ofInt c) = some (Int32.ofInt (q_dn c)) := by
  have h2 : c = 0 ∨ c = 1 ∨ c = 2 ∨ c = 3 := by omega
  rcases h2 with h2 | h2 | h2 | h2 <;> subst h2 <;> rfl
theorem gs_1000 : (1000 = 1000 ∨ 1000 = 1001) ↔ True := by decide
theorem kA_1001 {w : PW} {c : Int} (h0 : 0 ≤ c) (h1 : c < 4) : ex_ald w 1001 (Int32.ofInt c) = some (Int32.ofInt (q_rt c)) := by
  have h2 : c = 0 ∨ c = 1 ∨ c = 2 ∨ c = 3 := by omega
  rcases h2 with h2 | h2 | h2 | h2 <;> subst h2 <;> rfl
theorem gs_1001 : (1001 = 1000 ∨ 1001 = 1001) ↔ True := by decide
/-- what a world tells after a word is set -/
theorem up_1 (w : PW) (o k a b : Nat) (x : Int32) : (ex_up w o k x).1 a b = if a = o ∧ b = k then x else w.1 a b := rfl
theorem up_2 (w : PW) (o k : Nat) (x : Int32) : (ex_up w o k x).2 = w.2 := rfl
theorem pw_1 (f : Nat → Nat → Int32) (g : Nat × Nat × (Nat → Int32)) : ((f, g) : PW).1 = f := rfl
theorem pw_2 (f : Nat → Nat → Int32) (g : Nat × Nat × (Nat → Int32)) : ((f, g) : PW).2 = g := rfl
/-- a switch over a small number -/
theorem ts_z {a lo hi : Int} (h1 : -2147483648 ≤ a) (h2 : a < 2147483648) : ((Int32.ofInt a).toInt < lo ∨ hi < (Int32.ofInt a).toInt) ↔ (a < lo ∨ hi < a) := by
  rw [z_toInt h1 h2]
/-! stores: a local that may hold anything but a return address -/
def ex_nr (v : Value) (b : Option ER) : Option ER := match v with
  | .retAddr _ => none
  | _ => b
theorem nr_i {x : Int32} {b : Option ER} : ex_nr (.int x) b = b := rfl
theorem nr_r {x : Nat} {b : Option ER} : ex_nr (.ref x) b = b := rfl
theorem nr_l {x : Int64} {b : Option ER} : ex_nr (.long x) b = b := rfl
theorem nr_n {b : Option ER} : ex_nr .null b = b := rfl
theorem rx_istore {d : Nat} {cal : Nat → List Value → PW → Option ER} {y : Nat} {c : List Instr} {pl st : List Value} {w : PW} {k : Nat} {x : Int32} : ex_ev d cal y (.istore k :: c, pl, .int x :: st, w) = ex_nr (pl.getD k (.retAddr 0)) (ex_ev d cal y (c, pl.set k (.int x), st, w)) := by
  rw [ev_istore]
  unfold ex_nr
  cases pl.getD k (.retAddr 0) <;> rfl
theorem rx_astore {d : Nat} {cal : Nat → List Value → PW → Option ER} {y : Nat} {c : List Instr} {pl st : List Value} {w : PW} {k : Nat} {x : Nat} : ex_ev d cal y (.astore k :: c, pl, .ref x :: st, w) = ex_nr (pl.getD k (.retAddr 0)) (ex_ev d cal y (c, pl.set k (.ref x), st, w)) := by
  rw [ev_astore]
  unfold ex_nr
  cases pl.getD k (.retAddr 0) <;> rfl
abbrev xv (v : Value) : Prop := ∀ b, ex_nr v b = b
theorem xv_i (x : Int32) : xv (.int x) := fun _ => rfl
theorem xv_n : xv .null := fun _ => rfl
theorem xv_l (x : Int64) : xv (.long x) := fun _ => rfl
/-! loops -/
theorem ex_while {d : Nat} {cal : Nat → List Value → PW → Option ER} {y : Nat} {Q : Option ER → Prop} (I : Nat → ES → Prop) (hs : ∀ i s, I i s → Q (ex_ev d cal y s) ∨ ∃ i' s', i' < i ∧ ex_ev d cal y s = ex_ev d cal y s' ∧ I i' s') (i : Nat) (s : ES) (h0 : I i s) : Q (ex_ev d cal y s) := by
  induction i using Nat.strongRecOn generalizing s with
  | ind i ih =>
    rcases hs i s h0 with h | ⟨i', s', h1, h2, h3⟩
    · exact h
    · rw [h2]; exact ih i' h1 s' h3
theorem ex_loop {d : Nat} {cal : Nat → List Value → PW → Option ER} {y : Nat} {Q : Option ER → Prop} (I : Nat → ES → Prop) (n : Nat) {s : ES} (h0 : I 0 s) (hs : ∀ i s, i < n → I i s → Q (ex_ev d cal y s) ∨ ∃ s', ex_ev d cal y s = ex_ev d cal y s' ∧ I (i + 1) s') (he : ∀ s, I n s → Q (ex_ev d cal y s)) : Q (ex_ev d cal y s) := by
  have key : ∀ k i s, i + k = n → I i s → Q (ex_ev d cal y s) := by
    intro k
    induction k with
    | zero => intro i s h hI; exact he s (by rw [← h]; exact hI)
    | succ k ih =>
      intro i s h hI
      rcases hs i s (by omega) hI with h1 | ⟨s', h1, h2⟩
      · exact h1
      · rw [h1]; exact ih (i + 1) s' (by omega) h2
  exact key n 0 s (by omega) h0
theorem ex_iter {d : Nat} {cal : Nat → List Value → PW → Option ER} {y : Nat} (S : Nat → ES) {a n : Nat} (h : a ≤ n) (hs : ∀ i, a ≤ i → i < n → ex_ev d cal y (S i) = ex_ev d cal y (S (i + 1))) : ex_ev d cal y (S a) = ex_ev d cal y (S n) := by
  induction n with
  | zero => rw [show a = 0 by omega]
  | succ n ih =>
    by_cases hc : a = n + 1
    · rw [hc]
    · rw [ih (by omega) (fun i h1 h2 => hs i h1 (by omega))]
      exact hs n (by omega) (by omega)
theorem ex_iterI {d : Nat} {cal : Nat → List Value → PW → Option ER} {y : Nat} (I : Nat → ES → Prop) {a n : Nat} {s : ES} (h : a ≤ n) (h0 : I a s) (hs : ∀ i s, a ≤ i → i < n → I i s → ∃ s', ex_ev d cal y s = ex_ev d cal y s' ∧ I (i + 1) s') : ∃ s', ex_ev d cal y s = ex_ev d cal y s' ∧ I n s' := by
  induction n with
  | zero => exact ⟨s, rfl, by rw [show 0 = a by omega]; exact h0⟩
  | succ n ih =>
    by_cases hc : a = n + 1
    · exact ⟨s, rfl, by rw [← hc]; exact h0⟩
    · obtain ⟨s1, e1, h1⟩ := ih (by omega) (fun i s h1 h2 => hs i s h1 (by omega))
      obtain ⟨s2, e2, h2⟩ := hs n s1 (by omega) (by omega) h1
      exact ⟨s2, e1.trans e2, h2⟩
/-- the first below n, or n -/
theorem ex_fst (P : Nat → Prop) (n : Nat) : ∃ m, m ≤ n ∧ (∀ i, i < m → ¬ P i) ∧ (m < n → P m) := by
  induction n with
  | zero => exact ⟨0, by omega, fun i h => absurd h (by omega), fun h => absurd h (by omega)⟩
  | succ n ih =>
    obtain ⟨m, h1, h2, h3⟩ := ih
    by_cases hm : m < n
    · exact ⟨m, by omega, h2, fun _ => h3 hm⟩
    · have hmn : m = n := by omega
      subst hmn
      by_cases hp : P m
      · exact ⟨m, by omega, h2, fun _ => hp⟩
      · refine ⟨m + 1, by omega, fun i hi => ?_, fun h => absurd h (by omega)⟩
        by_cases him : i = m
        · rw [him]; exact hp
        · exact h2 i (by omega)
/-! switches -/
theorem ar_tl {α : Type} (l : List α) : (List.toArray l).toList = l := rfl
theorem rx_tsw {d : Nat} {cal : Nat → List Value → PW → Option ER} {y : Nat} {c : List Instr} {pl st : List Value} {w : PW} {df lo hi : Int} {offs : Array Int} {a : Int} (h1 : -2147483648 ≤ a) (h2 : a < 2147483648) (h3 : lo ≤ a) (h4 : a ≤ hi) : ex_ev d cal y (.tableswitch df lo hi offs :: c, pl, .int (Int32.ofInt a) :: st, w) = ex_ev d cal y (ex_blk y ((offs.toList.getD (a - lo).toNat 0).toNat), pl, st, w) := by
  rw [ev_tswitch, z_toInt h1 h2, if_neg (by omega)]
theorem rx_tsd {d : Nat} {cal : Nat → List Value → PW → Option ER} {y : Nat} {c : List Instr} {pl st : List Value} {w : PW} {df lo hi : Int} {offs : Array Int} {a : Int} (h1 : -2147483648 ≤ a) (h2 : a < 2147483648) (h3 : a < lo ∨ hi < a) : ex_ev d cal y (.tableswitch df lo hi offs :: c, pl, .int (Int32.ofInt a) :: st, w) = ex_ev d cal y (ex_blk y df.toNat, pl, st, w) := by
  rw [ev_tswitch, z_toInt h1 h2, if_pos h3]
theorem rx_lsw {d : Nat} {cal : Nat → List Value → PW → Option ER} {y : Nat} {c : List Instr} {pl st : List Value} {w : PW} {df : Int} {ps : Array (Int × Int)} {a : Int} (h1 : -2147483648 ≤ a) (h2 : a < 2147483648) : ex_ev d cal y (.lookupswitch df ps :: c, pl, .int (Int32.ofInt a) :: st, w) = ex_ev d cal y (ex_blk y (ex_lks ps.toList df a).toNat, pl, st, w) := by
  rw [ev_lswitch, z_toInt h1 h2]
theorem lks_t {q : Int × Int} {r : List (Int × Int)} {d x : Int} (h : x = q.1) : ex_lks (q :: r) d x = q.2 := by unfold ex_lks; rw [if_pos h]
theorem lks_f {q : Int × Int} {r : List (Int × Int)} {d x : Int} (h : ¬ x = q.1) : ex_lks (q :: r) d x = ex_lks r d x := by conv => lhs; unfold ex_lks; rw [if_neg h]
theorem lks_n {d x : Int} : ex_lks [] d x = d := rfl

