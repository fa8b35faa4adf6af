/-! integers as Int32.ofInt of a whole number -/
abbrev zI (z : Int) : Int32 := Int32.ofInt z
theorem z_0 : (0 : Int32) = Int32.ofInt 0 := rfl
theorem z_1 : (1 : Int32) = Int32.ofInt 1 := rfl
theorem z_n (n : Nat) : nI n = Int32.ofInt (n : Int) := rfl
theorem z_add (a b : Int) : Int32.ofInt a + Int32.ofInt b = Int32.ofInt (a + b) := (Int32.ofInt_add a b).symm
theorem z_sub (a b : Int) : Int32.ofInt a - Int32.ofInt b = Int32.ofInt (a - b) := (Int32.ofInt_sub a b).symm
theorem z_mul (a b : Int) : Int32.ofInt a * Int32.ofInt b = Int32.ofInt (a * b) := (Int32.ofInt_mul a b).symm
theorem z_toInt {a : Int} (h1 : -2147483648 ≤ a) (h2 : a < 2147483648) : (Int32.ofInt a).toInt = a := by
  rw [Int32.toInt_ofInt]
  have hs : (Int32.size : Int) = 4294967296 := rfl
  exact Int.bmod_eq_of_le (by omega) (by omega)
theorem z_lt {a b : Int} (h1 : -2147483648 ≤ a) (h2 : a < 2147483648) (h3 : -2147483648 ≤ b) (h4 : b < 2147483648) : (Int32.ofInt a < Int32.ofInt b) ↔ a < b := by
  rw [Int32.lt_iff_toInt_lt, z_toInt h1 h2, z_toInt h3 h4]
theorem z_le {a b : Int} (h1 : -2147483648 ≤ a) (h2 : a < 2147483648) (h3 : -2147483648 ≤ b) (h4 : b < 2147483648) : (Int32.ofInt a ≤ Int32.ofInt b) ↔ a ≤ b := by
  rw [Int32.le_iff_toInt_le, z_toInt h1 h2, z_toInt h3 h4]
theorem z_eq {a b : Int} (h1 : -2147483648 ≤ a) (h2 : a < 2147483648) (h3 : -2147483648 ≤ b) (h4 : b < 2147483648) : (Int32.ofInt a = Int32.ofInt b) ↔ a = b := by
  rw [← Int32.toInt_inj, z_toInt h1 h2, z_toInt h3 h4]
theorem z_clamp {a : Int} (h1 : 0 ≤ a) (h2 : a < 2147483648) : (Int32.ofInt a).toNatClampNeg = a.toNat := by
  show (Int32.ofInt a).toInt.toNat = a.toNat
  rw [z_toInt (by omega) h2]
theorem z_clampN {n : Nat} (h2 : n < 2147483648) : (Int32.ofInt (n : Int)).toNatClampNeg = n := by
  rw [z_clamp (by omega) (by omega)]; rfl
theorem z_of (x : Int32) : ∃ z : Int, -2147483648 ≤ z ∧ z < 2147483648 ∧ x = Int32.ofInt z :=
  ⟨x.toInt, Int32.le_toInt x, Int32.toInt_lt x, (Int32.ofInt_toInt x).symm⟩
theorem z_bool (c : Prop) [Decidable c] : (if c then Int32.ofInt 1 else Int32.ofInt 0) = (if c then 1 else 0) := rfl
theorem z_ite0 (c : Prop) [h : Decidable c] : ((if c then Int32.ofInt 1 else Int32.ofInt 0) = Int32.ofInt 0) ↔ ¬ c := by
  by_cases hc : c <;> simp [hc]
theorem z_ite01 (c : Prop) [h : Decidable c] : ((if c then Int32.ofInt 1 else Int32.ofInt 0) = Int32.ofInt 0 ∨ (if c then Int32.ofInt 1 else Int32.ofInt 0) = Int32.ofInt 1) ↔ True := by
  by_cases hc : c <;> simp [hc]
theorem z_10 : ¬ (Int32.ofInt 1 = Int32.ofInt 0) := by decide
theorem z_01 : ¬ (Int32.ofInt 0 = Int32.ofInt 1) := by decide
