/-! the machine, instruction by instruction, as equations -/
theorem ev_iload {d : Nat} {cal : Nat → List Value → PW → Option ER} {y : Nat} {c : List Instr} {pl st : List Value} {w : PW} {k : Nat} : ex_ev d cal y (.iload k :: c, pl, st, w) = (match pl.getD k .null with | .int x => ex_ev d cal y (c, pl, .int x :: st, w) | _ => none) := by
  rw [ex_ev_eq]
  show (match (match pl.getD k .null with | .int x => ex_go c pl (.int x :: st) w | _ => none) with | some (.inl r) => some r | some (.inr s') => ex_ev d cal y s' | none => none) = _
  cases pl.getD k .null <;> rfl
theorem ev_aload {d : Nat} {cal : Nat → List Value → PW → Option ER} {y : Nat} {c : List Instr} {pl st : List Value} {w : PW} {k : Nat} : ex_ev d cal y (.aload k :: c, pl, st, w) = (match pl.getD k .null with | .ref x => ex_ev d cal y (c, pl, .ref x :: st, w) | _ => none) := by
  rw [ex_ev_eq]
  show (match (match pl.getD k .null with | .ref x => ex_go c pl (.ref x :: st) w | _ => none) with | some (.inl r) => some r | some (.inr s') => ex_ev d cal y s' | none => none) = _
  cases pl.getD k .null <;> rfl
theorem ev_lload {d : Nat} {cal : Nat → List Value → PW → Option ER} {y : Nat} {c : List Instr} {pl st : List Value} {w : PW} {k : Nat} : ex_ev d cal y (.lload k :: c, pl, st, w) = (match pl.getD k .null with | .long x => ex_ev d cal y (c, pl, .long x :: st, w) | _ => none) := by
  rw [ex_ev_eq]
  show (match (match pl.getD k .null with | .long x => ex_go c pl (.long x :: st) w | _ => none) with | some (.inl r) => some r | some (.inr s') => ex_ev d cal y s' | none => none) = _
  cases pl.getD k .null <;> rfl
theorem ev_istore {d : Nat} {cal : Nat → List Value → PW → Option ER} {y : Nat} {c : List Instr} {pl st : List Value} {w : PW} {k : Nat} {x : Int32} : ex_ev d cal y (.istore k :: c, pl, .int x :: st, w) = (match pl.getD k (.retAddr 0) with | .retAddr _ => none | _ => ex_ev d cal y (c, pl.set k (.int x), st, w)) := by
  rw [ex_ev_eq]
  show (match (ex_store k (.int x) c pl st w) with | some (.inl r) => some r | some (.inr s') => ex_ev d cal y s' | none => none) = _
  unfold ex_store
  cases pl.getD k (.retAddr 0) <;> rfl
theorem ev_astore {d : Nat} {cal : Nat → List Value → PW → Option ER} {y : Nat} {c : List Instr} {pl st : List Value} {w : PW} {k : Nat} {x : Nat} : ex_ev d cal y (.astore k :: c, pl, .ref x :: st, w) = (match pl.getD k (.retAddr 0) with | .retAddr _ => none | _ => ex_ev d cal y (c, pl.set k (.ref x), st, w)) := by
  rw [ex_ev_eq]
  show (match (ex_store k (.ref x) c pl st w) with | some (.inl r) => some r | some (.inr s') => ex_ev d cal y s' | none => none) = _
  unfold ex_store
  cases pl.getD k (.retAddr 0) <;> rfl
theorem ev_lstore {d : Nat} {cal : Nat → List Value → PW → Option ER} {y : Nat} {c : List Instr} {pl st : List Value} {w : PW} {k : Nat} {x : Int64} : ex_ev d cal y (.lstore k :: c, pl, .long x :: st, w) = (if k + 1 < pl.length then (match (pl.set (k + 1) (.retAddr 0)).getD k (.retAddr 0) with | .retAddr _ => none | _ => ex_ev d cal y (c, (pl.set (k + 1) (.retAddr 0)).set k (.long x), st, w)) else none) := by
  rw [ex_ev_eq]
  show (match (if k + 1 < pl.length then ex_store k (.long x) c (pl.set (k + 1) (.retAddr 0)) st w else none) with | some (.inl r) => some r | some (.inr s') => ex_ev d cal y s' | none => none) = _
  unfold ex_store
  by_cases hk : k + 1 < pl.length
  · rw [if_pos hk, if_pos hk]
    cases (pl.set (k + 1) (.retAddr 0)).getD k (.retAddr 0) <;> rfl
  · rw [if_neg hk, if_neg hk]
theorem ev_iinc {d : Nat} {cal : Nat → List Value → PW → Option ER} {y : Nat} {c : List Instr} {pl st : List Value} {w : PW} {k : Nat} {n : Int} : ex_ev d cal y (.iinc k n :: c, pl, st, w) = (match pl.getD k .null with | .int x => ex_ev d cal y (c, pl.set k (.int (x + Int32.ofInt n)), st, w) | _ => none) := by
  rw [ex_ev_eq]
  show (match (match pl.getD k .null with | .int x => ex_go c (pl.set k (.int (x + Int32.ofInt n))) st w | _ => none) with | some (.inl r) => some r | some (.inr s') => ex_ev d cal y s' | none => none) = _
  cases pl.getD k .null <;> rfl
theorem ev_push {d : Nat} {cal : Nat → List Value → PW → Option ER} {y : Nat} {c : List Instr} {pl st : List Value} {w : PW} {n : Int} : ex_ev d cal y (.sipush n :: c, pl, st, w) = ex_ev d cal y (c, pl, .int (Int32.ofInt n) :: st, w) := by
  rw [ex_ev_eq]
  rfl
theorem ev_lpush {d : Nat} {cal : Nat → List Value → PW → Option ER} {y : Nat} {c : List Instr} {pl st : List Value} {w : PW} {n : Int} : ex_ev d cal y (.goto_w n :: c, pl, st, w) = ex_ev d cal y (c, pl, .long (Int64.ofInt n) :: st, w) := by
  rw [ex_ev_eq]
  rfl
theorem ev_iadd {d : Nat} {cal : Nat → List Value → PW → Option ER} {y : Nat} {c : List Instr} {pl st : List Value} {w : PW} {a b : Int32} : ex_ev d cal y (.iadd :: c, pl, .int b :: .int a :: st, w) = ex_ev d cal y (c, pl, .int (a + b) :: st, w) := by
  rw [ex_ev_eq]
  rfl
theorem ev_isub {d : Nat} {cal : Nat → List Value → PW → Option ER} {y : Nat} {c : List Instr} {pl st : List Value} {w : PW} {a b : Int32} : ex_ev d cal y (.isub :: c, pl, .int b :: .int a :: st, w) = ex_ev d cal y (c, pl, .int (a - b) :: st, w) := by
  rw [ex_ev_eq]
  rfl
theorem ev_imul {d : Nat} {cal : Nat → List Value → PW → Option ER} {y : Nat} {c : List Instr} {pl st : List Value} {w : PW} {a b : Int32} : ex_ev d cal y (.imul :: c, pl, .int b :: .int a :: st, w) = ex_ev d cal y (c, pl, .int (a * b) :: st, w) := by
  rw [ex_ev_eq]
  rfl
theorem ev_iand {d : Nat} {cal : Nat → List Value → PW → Option ER} {y : Nat} {c : List Instr} {pl st : List Value} {w : PW} {a b : Int32} : ex_ev d cal y (.iand :: c, pl, .int b :: .int a :: st, w) = ex_ev d cal y (c, pl, .int (a &&& b) :: st, w) := by
  rw [ex_ev_eq]
  rfl
theorem ev_ior {d : Nat} {cal : Nat → List Value → PW → Option ER} {y : Nat} {c : List Instr} {pl st : List Value} {w : PW} {a b : Int32} : ex_ev d cal y (.ior :: c, pl, .int b :: .int a :: st, w) = ex_ev d cal y (c, pl, .int (a ||| b) :: st, w) := by
  rw [ex_ev_eq]
  rfl
theorem ev_ixor {d : Nat} {cal : Nat → List Value → PW → Option ER} {y : Nat} {c : List Instr} {pl st : List Value} {w : PW} {a b : Int32} : ex_ev d cal y (.ixor :: c, pl, .int b :: .int a :: st, w) = ex_ev d cal y (c, pl, .int (a ^^^ b) :: st, w) := by
  rw [ex_ev_eq]
  rfl
theorem ev_ishl {d : Nat} {cal : Nat → List Value → PW → Option ER} {y : Nat} {c : List Instr} {pl st : List Value} {w : PW} {a b : Int32} : ex_ev d cal y (.ishl :: c, pl, .int b :: .int a :: st, w) = ex_ev d cal y (c, pl, .int (a <<< (b &&& 31)) :: st, w) := by
  rw [ex_ev_eq]
  rfl
theorem ev_ishr {d : Nat} {cal : Nat → List Value → PW → Option ER} {y : Nat} {c : List Instr} {pl st : List Value} {w : PW} {a b : Int32} : ex_ev d cal y (.ishr :: c, pl, .int b :: .int a :: st, w) = ex_ev d cal y (c, pl, .int (a >>> (b &&& 31)) :: st, w) := by
  rw [ex_ev_eq]
  rfl
theorem ev_idiv {d : Nat} {cal : Nat → List Value → PW → Option ER} {y : Nat} {c : List Instr} {pl st : List Value} {w : PW} {a b : Int32} : ex_ev d cal y (.idiv :: c, pl, .int b :: .int a :: st, w) = (if b = 0 then none else ex_ev d cal y (c, pl, .int (a / b) :: st, w)) := by
  rw [ex_ev_eq]
  show (match (if b = 0 then none else ex_go c pl (.int (a / b) :: st) w) with | some (.inl r) => some r | some (.inr s') => ex_ev d cal y s' | none => none) = _
  by_cases hk : b = 0
  · simp only [if_pos hk] <;> rfl
  · simp only [if_neg hk] <;> rfl
theorem ev_irem {d : Nat} {cal : Nat → List Value → PW → Option ER} {y : Nat} {c : List Instr} {pl st : List Value} {w : PW} {a b : Int32} : ex_ev d cal y (.irem :: c, pl, .int b :: .int a :: st, w) = (if b = 0 then none else ex_ev d cal y (c, pl, .int (a - a / b * b) :: st, w)) := by
  rw [ex_ev_eq]
  show (match (if b = 0 then none else ex_go c pl (.int (a - a / b * b) :: st) w) with | some (.inl r) => some r | some (.inr s') => ex_ev d cal y s' | none => none) = _
  by_cases hk : b = 0
  · simp only [if_pos hk] <;> rfl
  · simp only [if_neg hk] <;> rfl
theorem ev_ladd {d : Nat} {cal : Nat → List Value → PW → Option ER} {y : Nat} {c : List Instr} {pl st : List Value} {w : PW} {a b : Int64} : ex_ev d cal y (.ladd :: c, pl, .long b :: .long a :: st, w) = ex_ev d cal y (c, pl, .long (a + b) :: st, w) := by
  rw [ex_ev_eq]
  rfl
theorem ev_lmul {d : Nat} {cal : Nat → List Value → PW → Option ER} {y : Nat} {c : List Instr} {pl st : List Value} {w : PW} {a b : Int64} : ex_ev d cal y (.lmul :: c, pl, .long b :: .long a :: st, w) = ex_ev d cal y (c, pl, .long (a * b) :: st, w) := by
  rw [ex_ev_eq]
  rfl
theorem ev_land {d : Nat} {cal : Nat → List Value → PW → Option ER} {y : Nat} {c : List Instr} {pl st : List Value} {w : PW} {a b : Int64} : ex_ev d cal y (.land :: c, pl, .long b :: .long a :: st, w) = ex_ev d cal y (c, pl, .long (a &&& b) :: st, w) := by
  rw [ex_ev_eq]
  rfl
theorem ev_lshr {d : Nat} {cal : Nat → List Value → PW → Option ER} {y : Nat} {c : List Instr} {pl st : List Value} {w : PW} {a : Int64} {b : Int32} : ex_ev d cal y (.lshr :: c, pl, .int b :: .long a :: st, w) = ex_ev d cal y (c, pl, .long (a >>> (b.toInt64 &&& 63)) :: st, w) := by
  rw [ex_ev_eq]
  rfl
theorem ev_lushr {d : Nat} {cal : Nat → List Value → PW → Option ER} {y : Nat} {c : List Instr} {pl st : List Value} {w : PW} {a : Int64} {b : Int32} : ex_ev d cal y (.lushr :: c, pl, .int b :: .long a :: st, w) = ex_ev d cal y (c, pl, .long (a.toUInt64 >>> (b.toInt64.toUInt64 &&& Int64.toUInt64 63)).toInt64 :: st, w) := by
  rw [ex_ev_eq]
  rfl
theorem ev_i2l {d : Nat} {cal : Nat → List Value → PW → Option ER} {y : Nat} {c : List Instr} {pl st : List Value} {w : PW} {a : Int32} : ex_ev d cal y (.i2l :: c, pl, .int a :: st, w) = ex_ev d cal y (c, pl, .long a.toInt64 :: st, w) := by
  rw [ex_ev_eq]
  rfl
theorem ev_l2i {d : Nat} {cal : Nat → List Value → PW → Option ER} {y : Nat} {c : List Instr} {pl st : List Value} {w : PW} {a : Int64} : ex_ev d cal y (.l2i :: c, pl, .long a :: st, w) = ex_ev d cal y (c, pl, .int a.toInt32 :: st, w) := by
  rw [ex_ev_eq]
  rfl
theorem ev_i2b {d : Nat} {cal : Nat → List Value → PW → Option ER} {y : Nat} {c : List Instr} {pl st : List Value} {w : PW} {a : Int32} : ex_ev d cal y (.i2b :: c, pl, .int a :: st, w) = ex_ev d cal y (c, pl, .int a.toInt8.toInt32 :: st, w) := by
  rw [ex_ev_eq]
  rfl
theorem ev_dup_r {d : Nat} {cal : Nat → List Value → PW → Option ER} {y : Nat} {c : List Instr} {pl st : List Value} {w : PW} {a : Nat} : ex_ev d cal y (.dup :: c, pl, .ref a :: st, w) = ex_ev d cal y (c, pl, .ref a :: .ref a :: st, w) := by
  rw [ex_ev_eq]
  rfl
theorem ev_dup_i {d : Nat} {cal : Nat → List Value → PW → Option ER} {y : Nat} {c : List Instr} {pl st : List Value} {w : PW} {a : Int32} : ex_ev d cal y (.dup :: c, pl, .int a :: st, w) = ex_ev d cal y (c, pl, .int a :: .int a :: st, w) := by
  rw [ex_ev_eq]
  rfl
theorem ev_dup2 {d : Nat} {cal : Nat → List Value → PW → Option ER} {y : Nat} {c : List Instr} {pl st : List Value} {w : PW} {a : Int32} {b : Nat} : ex_ev d cal y (.dup2 :: c, pl, .int a :: .ref b :: st, w) = ex_ev d cal y (c, pl, .int a :: .ref b :: .int a :: .ref b :: st, w) := by
  rw [ex_ev_eq]
  rfl
theorem ev_pop {d : Nat} {cal : Nat → List Value → PW → Option ER} {y : Nat} {c : List Instr} {pl st : List Value} {w : PW} {a : Int32} : ex_ev d cal y (.pop :: c, pl, .int a :: st, w) = ex_ev d cal y (c, pl, st, w) := by
  rw [ex_ev_eq]
  rfl
theorem ev_goto {d : Nat} {cal : Nat → List Value → PW → Option ER} {y : Nat} {c : List Instr} {pl st : List Value} {w : PW} {L : Int} : ex_ev d cal y (.goto L :: c, pl, st, w) = ex_ev d cal y (ex_blk y L.toNat, pl, st, w) := by
  rw [ex_ev_eq]
  rfl
theorem ev_jsr {d : Nat} {cal : Nat → List Value → PW → Option ER} {y : Nat} {c : List Instr} {pl st : List Value} {w : PW} {L : Int} : ex_ev d cal y (.jsr L :: c, pl, st, w) = ex_ev d cal y (ex_blk y L.toNat, pl, st, w) := by
  rw [ex_ev_eq]
  rfl
theorem ev_icmp_eq {d : Nat} {cal : Nat → List Value → PW → Option ER} {y : Nat} {c : List Instr} {pl st : List Value} {w : PW} {a b : Int32} {L : Int} : ex_ev d cal y (.if_icmp .eq L :: c, pl, .int b :: .int a :: st, w) = (if a = b then ex_ev d cal y (ex_blk y L.toNat, pl, st, w) else ex_ev d cal y (c, pl, st, w)) := by
  rw [ex_ev_eq]
  show (match (if decide (a = b) = true then ex_go (ex_blk y L.toNat) pl st w else ex_go c pl st w) with | some (.inl r) => some r | some (.inr s') => ex_ev d cal y s' | none => none) = _
  by_cases h : a = b
  · rw [if_pos h, if_pos (decide_eq_true h)]; rfl
  · rw [if_neg h, if_neg (by simpa using h)]; rfl
theorem ev_if_eq {d : Nat} {cal : Nat → List Value → PW → Option ER} {y : Nat} {c : List Instr} {pl st : List Value} {w : PW} {a : Int32} {L : Int} : ex_ev d cal y (.ifCond .eq L :: c, pl, .int a :: st, w) = (if a = 0 then ex_ev d cal y (ex_blk y L.toNat, pl, st, w) else ex_ev d cal y (c, pl, st, w)) := by
  rw [ex_ev_eq]
  show (match (if decide (a = 0) = true then ex_go (ex_blk y L.toNat) pl st w else ex_go c pl st w) with | some (.inl r) => some r | some (.inr s') => ex_ev d cal y s' | none => none) = _
  by_cases h : a = 0
  · rw [if_pos h, if_pos (decide_eq_true h)]; rfl
  · rw [if_neg h, if_neg (by simpa using h)]; rfl
theorem ev_icmp_ne {d : Nat} {cal : Nat → List Value → PW → Option ER} {y : Nat} {c : List Instr} {pl st : List Value} {w : PW} {a b : Int32} {L : Int} : ex_ev d cal y (.if_icmp .ne L :: c, pl, .int b :: .int a :: st, w) = (if ¬ a = b then ex_ev d cal y (ex_blk y L.toNat, pl, st, w) else ex_ev d cal y (c, pl, st, w)) := by
  rw [ex_ev_eq]
  show (match (if decide (¬ a = b) = true then ex_go (ex_blk y L.toNat) pl st w else ex_go c pl st w) with | some (.inl r) => some r | some (.inr s') => ex_ev d cal y s' | none => none) = _
  by_cases h : ¬ a = b
  · rw [if_pos h, if_pos (decide_eq_true h)]; rfl
  · rw [if_neg h, if_neg (by simpa using h)]; rfl
theorem ev_if_ne {d : Nat} {cal : Nat → List Value → PW → Option ER} {y : Nat} {c : List Instr} {pl st : List Value} {w : PW} {a : Int32} {L : Int} : ex_ev d cal y (.ifCond .ne L :: c, pl, .int a :: st, w) = (if ¬ a = 0 then ex_ev d cal y (ex_blk y L.toNat, pl, st, w) else ex_ev d cal y (c, pl, st, w)) := by
  rw [ex_ev_eq]
  show (match (if decide (¬ a = 0) = true then ex_go (ex_blk y L.toNat) pl st w else ex_go c pl st w) with | some (.inl r) => some r | some (.inr s') => ex_ev d cal y s' | none => none) = _
  by_cases h : ¬ a = 0
  · rw [if_pos h, if_pos (decide_eq_true h)]; rfl
  · rw [if_neg h, if_neg (by simpa using h)]; rfl
theorem ev_icmp_lt {d : Nat} {cal : Nat → List Value → PW → Option ER} {y : Nat} {c : List Instr} {pl st : List Value} {w : PW} {a b : Int32} {L : Int} : ex_ev d cal y (.if_icmp .lt L :: c, pl, .int b :: .int a :: st, w) = (if a < b then ex_ev d cal y (ex_blk y L.toNat, pl, st, w) else ex_ev d cal y (c, pl, st, w)) := by
  rw [ex_ev_eq]
  show (match (if decide (a < b) = true then ex_go (ex_blk y L.toNat) pl st w else ex_go c pl st w) with | some (.inl r) => some r | some (.inr s') => ex_ev d cal y s' | none => none) = _
  by_cases h : a < b
  · rw [if_pos h, if_pos (decide_eq_true h)]; rfl
  · rw [if_neg h, if_neg (by simpa using h)]; rfl
theorem ev_if_lt {d : Nat} {cal : Nat → List Value → PW → Option ER} {y : Nat} {c : List Instr} {pl st : List Value} {w : PW} {a : Int32} {L : Int} : ex_ev d cal y (.ifCond .lt L :: c, pl, .int a :: st, w) = (if a < 0 then ex_ev d cal y (ex_blk y L.toNat, pl, st, w) else ex_ev d cal y (c, pl, st, w)) := by
  rw [ex_ev_eq]
  show (match (if decide (a < 0) = true then ex_go (ex_blk y L.toNat) pl st w else ex_go c pl st w) with | some (.inl r) => some r | some (.inr s') => ex_ev d cal y s' | none => none) = _
  by_cases h : a < 0
  · rw [if_pos h, if_pos (decide_eq_true h)]; rfl
  · rw [if_neg h, if_neg (by simpa using h)]; rfl
theorem ev_icmp_ge {d : Nat} {cal : Nat → List Value → PW → Option ER} {y : Nat} {c : List Instr} {pl st : List Value} {w : PW} {a b : Int32} {L : Int} : ex_ev d cal y (.if_icmp .ge L :: c, pl, .int b :: .int a :: st, w) = (if b ≤ a then ex_ev d cal y (ex_blk y L.toNat, pl, st, w) else ex_ev d cal y (c, pl, st, w)) := by
  rw [ex_ev_eq]
  show (match (if decide (b ≤ a) = true then ex_go (ex_blk y L.toNat) pl st w else ex_go c pl st w) with | some (.inl r) => some r | some (.inr s') => ex_ev d cal y s' | none => none) = _
  by_cases h : b ≤ a
  · rw [if_pos h, if_pos (decide_eq_true h)]; rfl
  · rw [if_neg h, if_neg (by simpa using h)]; rfl
theorem ev_if_ge {d : Nat} {cal : Nat → List Value → PW → Option ER} {y : Nat} {c : List Instr} {pl st : List Value} {w : PW} {a : Int32} {L : Int} : ex_ev d cal y (.ifCond .ge L :: c, pl, .int a :: st, w) = (if 0 ≤ a then ex_ev d cal y (ex_blk y L.toNat, pl, st, w) else ex_ev d cal y (c, pl, st, w)) := by
  rw [ex_ev_eq]
  show (match (if decide (0 ≤ a) = true then ex_go (ex_blk y L.toNat) pl st w else ex_go c pl st w) with | some (.inl r) => some r | some (.inr s') => ex_ev d cal y s' | none => none) = _
  by_cases h : 0 ≤ a
  · rw [if_pos h, if_pos (decide_eq_true h)]; rfl
  · rw [if_neg h, if_neg (by simpa using h)]; rfl
theorem ev_icmp_gt {d : Nat} {cal : Nat → List Value → PW → Option ER} {y : Nat} {c : List Instr} {pl st : List Value} {w : PW} {a b : Int32} {L : Int} : ex_ev d cal y (.if_icmp .gt L :: c, pl, .int b :: .int a :: st, w) = (if b < a then ex_ev d cal y (ex_blk y L.toNat, pl, st, w) else ex_ev d cal y (c, pl, st, w)) := by
  rw [ex_ev_eq]
  show (match (if decide (b < a) = true then ex_go (ex_blk y L.toNat) pl st w else ex_go c pl st w) with | some (.inl r) => some r | some (.inr s') => ex_ev d cal y s' | none => none) = _
  by_cases h : b < a
  · rw [if_pos h, if_pos (decide_eq_true h)]; rfl
  · rw [if_neg h, if_neg (by simpa using h)]; rfl
theorem ev_if_gt {d : Nat} {cal : Nat → List Value → PW → Option ER} {y : Nat} {c : List Instr} {pl st : List Value} {w : PW} {a : Int32} {L : Int} : ex_ev d cal y (.ifCond .gt L :: c, pl, .int a :: st, w) = (if 0 < a then ex_ev d cal y (ex_blk y L.toNat, pl, st, w) else ex_ev d cal y (c, pl, st, w)) := by
  rw [ex_ev_eq]
  show (match (if decide (0 < a) = true then ex_go (ex_blk y L.toNat) pl st w else ex_go c pl st w) with | some (.inl r) => some r | some (.inr s') => ex_ev d cal y s' | none => none) = _
  by_cases h : 0 < a
  · rw [if_pos h, if_pos (decide_eq_true h)]; rfl
  · rw [if_neg h, if_neg (by simpa using h)]; rfl
theorem ev_icmp_le {d : Nat} {cal : Nat → List Value → PW → Option ER} {y : Nat} {c : List Instr} {pl st : List Value} {w : PW} {a b : Int32} {L : Int} : ex_ev d cal y (.if_icmp .le L :: c, pl, .int b :: .int a :: st, w) = (if a ≤ b then ex_ev d cal y (ex_blk y L.toNat, pl, st, w) else ex_ev d cal y (c, pl, st, w)) := by
  rw [ex_ev_eq]
  show (match (if decide (a ≤ b) = true then ex_go (ex_blk y L.toNat) pl st w else ex_go c pl st w) with | some (.inl r) => some r | some (.inr s') => ex_ev d cal y s' | none => none) = _
  by_cases h : a ≤ b
  · rw [if_pos h, if_pos (decide_eq_true h)]; rfl
  · rw [if_neg h, if_neg (by simpa using h)]; rfl
theorem ev_if_le {d : Nat} {cal : Nat → List Value → PW → Option ER} {y : Nat} {c : List Instr} {pl st : List Value} {w : PW} {a : Int32} {L : Int} : ex_ev d cal y (.ifCond .le L :: c, pl, .int a :: st, w) = (if a ≤ 0 then ex_ev d cal y (ex_blk y L.toNat, pl, st, w) else ex_ev d cal y (c, pl, st, w)) := by
  rw [ex_ev_eq]
  show (match (if decide (a ≤ 0) = true then ex_go (ex_blk y L.toNat) pl st w else ex_go c pl st w) with | some (.inl r) => some r | some (.inr s') => ex_ev d cal y s' | none => none) = _
  by_cases h : a ≤ 0
  · rw [if_pos h, if_pos (decide_eq_true h)]; rfl
  · rw [if_neg h, if_neg (by simpa using h)]; rfl
theorem ev_tswitch {d : Nat} {cal : Nat → List Value → PW → Option ER} {y : Nat} {c : List Instr} {pl st : List Value} {w : PW} {df lo hi : Int} {offs : Array Int} {a : Int32} : ex_ev d cal y (.tableswitch df lo hi offs :: c, pl, .int a :: st, w) = (if a.toInt < lo ∨ hi < a.toInt then ex_ev d cal y (ex_blk y df.toNat, pl, st, w) else ex_ev d cal y (ex_blk y ((offs.toList.getD (a.toInt - lo).toNat 0).toNat), pl, st, w)) := by
  rw [ex_ev_eq]
  show (match (if a.toInt < lo ∨ hi < a.toInt then ex_go (ex_blk y df.toNat) pl st w else ex_go (ex_blk y ((offs.toList.getD (a.toInt - lo).toNat 0).toNat)) pl st w) with | some (.inl r) => some r | some (.inr s') => ex_ev d cal y s' | none => none) = _
  by_cases hk : a.toInt < lo ∨ hi < a.toInt
  · simp only [if_pos hk] <;> rfl
  · simp only [if_neg hk] <;> rfl
theorem ev_lswitch {d : Nat} {cal : Nat → List Value → PW → Option ER} {y : Nat} {c : List Instr} {pl st : List Value} {w : PW} {df : Int} {ps : Array (Int × Int)} {a : Int32} : ex_ev d cal y (.lookupswitch df ps :: c, pl, .int a :: st, w) = ex_ev d cal y (ex_blk y (ex_lks ps.toList df a.toInt).toNat, pl, st, w) := by
  rw [ex_ev_eq]
  rfl
def ex_fv (w : PW) (o e : Nat) : Option Value := match ex_fk o e with
  | some 0 => some (.int (w.1 o (e % 64)))
  | some 1 => none
  | some 2 => some (.int (w.1 o (e % 64)))
  | some (n + 3) => some (.ref n)
  | none => none
theorem ev_getf {d : Nat} {cal : Nat → List Value → PW → Option ER} {y : Nat} {c : List Instr} {pl st : List Value} {w : PW} {o e : Nat} : ex_ev d cal y (.getfield e :: c, pl, .ref o :: st, w) = (match ex_fv w o e with | some v => ex_ev d cal y (c, pl, v :: st, w) | none => none) := by
  rw [ex_ev_eq]
  show (match ex_gf e c pl (.ref o :: st) w with | some (.inl r) => some r | some (.inr s') => ex_ev d cal y s' | none => none) = _
  unfold ex_gf ex_fv
  dsimp only
  cases ex_fk o e with
  | none => rfl
  | some k =>
    match k with
    | 0 => rfl
    | 1 => rfl
    | 2 => rfl
    | n + 3 => rfl
theorem ev_putf {d : Nat} {cal : Nat → List Value → PW → Option ER} {y : Nat} {c : List Instr} {pl st : List Value} {w : PW} {o e : Nat} {x : Int32} : ex_ev d cal y (.putfield e :: c, pl, .int x :: .ref o :: st, w) = (match ex_fk o e with | some 0 => ex_ev d cal y (c, pl, st, ex_up w o (e % 64) x) | some 2 => (if x = 0 ∨ x = 1 then ex_ev d cal y (c, pl, st, ex_up w o (e % 64) x) else none) | _ => none) := by
  rw [ex_ev_eq]
  show (match ex_pf e c pl (.int x :: .ref o :: st) w with | some (.inl r) => some r | some (.inr s') => ex_ev d cal y s' | none => none) = _
  unfold ex_pf
  dsimp only
  cases ex_fk o e with
  | none => rfl
  | some k =>
    match k with
    | 0 => rfl
    | 1 => rfl
    | 2 =>
      by_cases hk : x = 0 ∨ x = 1
      · simp only [if_pos hk] <;> rfl
      · simp only [if_neg hk] <;> rfl
    | n + 3 => rfl
theorem ev_gets {d : Nat} {cal : Nat → List Value → PW → Option ER} {y : Nat} {c : List Instr} {pl st : List Value} {w : PW} {o : Nat} : ex_ev d cal y (.getstatic o :: c, pl, st, w) = (if o = 1000 ∨ o = 1001 then ex_ev d cal y (c, pl, .ref o :: st, w) else none) := by
  rw [ex_ev_eq]
  show (match (if o = 1000 ∨ o = 1001 then ex_go c pl (.ref o :: st) w else none) with | some (.inl r) => some r | some (.inr s') => ex_ev d cal y s' | none => none) = _
  by_cases hk : o = 1000 ∨ o = 1001
  · simp only [if_pos hk] <;> rfl
  · simp only [if_neg hk] <;> rfl
theorem ev_iald {d : Nat} {cal : Nat → List Value → PW → Option ER} {y : Nat} {c : List Instr} {pl st : List Value} {w : PW} {o : Nat} {i : Int32} : ex_ev d cal y (.iaload :: c, pl, .int i :: .ref o :: st, w) = (match ex_ald w o i with | some x => ex_ev d cal y (c, pl, .int x :: st, w) | none => none) := by
  rw [ex_ev_eq]
  show (match (match ex_ald w o i with | some x => ex_go c pl (.int x :: st) w | none => none) with | some (.inl r) => some r | some (.inr s') => ex_ev d cal y s' | none => none) = _
  cases ex_ald w o i <;> rfl
theorem ev_bald {d : Nat} {cal : Nat → List Value → PW → Option ER} {y : Nat} {c : List Instr} {pl st : List Value} {w : PW} {o : Nat} {i : Int32} : ex_ev d cal y (.baload :: c, pl, .int i :: .ref o :: st, w) = (if ex_cls o = 13 ∧ ¬ (i < 0 ∨ ex_len o ≤ i.toNatClampNeg) then ex_ev d cal y (c, pl, .int (w.1 o i.toNatClampNeg) :: st, w) else none) := by
  rw [ex_ev_eq]
  show (match (if ex_cls o = 13 ∧ ¬ (i < 0 ∨ ex_len o ≤ i.toNatClampNeg) then ex_go c pl (.int (w.1 o i.toNatClampNeg) :: st) w else none) with | some (.inl r) => some r | some (.inr s') => ex_ev d cal y s' | none => none) = _
  by_cases hk : ex_cls o = 13 ∧ ¬ (i < 0 ∨ ex_len o ≤ i.toNatClampNeg)
  · simp only [if_pos hk] <;> rfl
  · simp only [if_neg hk] <;> rfl
theorem ev_iast {d : Nat} {cal : Nat → List Value → PW → Option ER} {y : Nat} {c : List Instr} {pl st : List Value} {w : PW} {o : Nat} {i x : Int32} : ex_ev d cal y (.iastore :: c, pl, .int x :: .int i :: .ref o :: st, w) = (if ex_cls o = 12 ∧ ¬ (i < 0 ∨ ex_len o ≤ i.toNatClampNeg) then ex_ev d cal y (c, pl, st, ex_up w o i.toNatClampNeg x) else none) := by
  rw [ex_ev_eq]
  show (match (if ex_cls o = 12 ∧ ¬ (i < 0 ∨ ex_len o ≤ i.toNatClampNeg) then ex_go c pl st (ex_up w o i.toNatClampNeg x) else none) with | some (.inl r) => some r | some (.inr s') => ex_ev d cal y s' | none => none) = _
  by_cases hk : ex_cls o = 12 ∧ ¬ (i < 0 ∨ ex_len o ≤ i.toNatClampNeg)
  · simp only [if_pos hk] <;> rfl
  · simp only [if_neg hk] <;> rfl
theorem ev_bast {d : Nat} {cal : Nat → List Value → PW → Option ER} {y : Nat} {c : List Instr} {pl st : List Value} {w : PW} {o : Nat} {i x : Int32} : ex_ev d cal y (.bastore :: c, pl, .int x :: .int i :: .ref o :: st, w) = (if ex_cls o = 13 ∧ ¬ (i < 0 ∨ ex_len o ≤ i.toNatClampNeg) then ex_ev d cal y (c, pl, st, ex_up w o i.toNatClampNeg (x.toInt8.toInt32)) else none) := by
  rw [ex_ev_eq]
  show (match (if ex_cls o = 13 ∧ ¬ (i < 0 ∨ ex_len o ≤ i.toNatClampNeg) then ex_go c pl st (ex_up w o i.toNatClampNeg (x.toInt8.toInt32)) else none) with | some (.inl r) => some r | some (.inr s') => ex_ev d cal y s' | none => none) = _
  by_cases hk : ex_cls o = 13 ∧ ¬ (i < 0 ∨ ex_len o ≤ i.toNatClampNeg)
  · simp only [if_pos hk] <;> rfl
  · simp only [if_neg hk] <;> rfl
theorem ev_alen {d : Nat} {cal : Nat → List Value → PW → Option ER} {y : Nat} {c : List Instr} {pl st : List Value} {w : PW} {o : Nat} : ex_ev d cal y (.arraylength :: c, pl, .ref o :: st, w) = (if o = 2000 then ex_ev d cal y (c, pl, .int (Int32.ofNat w.2.2.1) :: st, w) else none) := by
  rw [ex_ev_eq]
  show (match (if o = 2000 then ex_go c pl (.int (Int32.ofNat w.2.2.1) :: st) w else none) with | some (.inl r) => some r | some (.inr s') => ex_ev d cal y s' | none => none) = _
  by_cases h2 : o = 2000
  · simp only [if_pos h2] <;> rfl
  · simp only [if_neg h2] <;> rfl
theorem ev_newa {d : Nat} {cal : Nat → List Value → PW → Option ER} {y : Nat} {c : List Instr} {pl st : List Value} {w : PW} {o : Nat} {n : Int32} : ex_ev d cal y (.anewarray o :: c, pl, [.int n], w) = (if n = Int32.ofNat (ex_len o) ∧ ex_dy y o = true then ex_ev d cal y (c, pl.map (ex_scr o), [.ref o], ex_zr w o) else none) := by
  rw [ex_ev_eq]
  show (match (if n = Int32.ofNat (ex_len o) ∧ ex_dy y o = true then ex_go c (pl.map (ex_scr o)) [.ref o] (ex_zr w o) else none) with | some (.inl r) => some r | some (.inr s') => ex_ev d cal y s' | none => none) = _
  by_cases hk : n = Int32.ofNat (ex_len o) ∧ ex_dy y o = true
  · simp only [if_pos hk] <;> rfl
  · simp only [if_neg hk] <;> rfl
theorem ev_call {d : Nat} {cal : Nat → List Value → PW → Option ER} {y : Nat} {c : List Instr} {pl st : List Value} {w : PW} {e : Nat} : ex_ev d cal y (.invokestatic e :: c, pl, st, w) = (match ex_spl (e % 16) [] st with | some (as, r) => (if (ex_cg (e / 16) pl r && ex_low r) = true then (match cal (e / 16) as w with | some (v, w1) => ex_ev d cal y (c, pl, v.toList ++ r, w1) | none => none) else none) | none => none) := by
  rw [ex_ev_eq]
  show (match ex_call cal (e / 16) (e % 16) c pl st w with | some (.inl r) => some r | some (.inr s') => ex_ev d cal y s' | none => none) = _
  unfold ex_call
  cases ex_spl (e % 16) [] st with
  | none => rfl
  | some q =>
    obtain ⟨as, r⟩ := q
    dsimp only
    by_cases hk : (ex_cg (e / 16) pl r && ex_low r) = true
    · simp only [if_pos hk]
      unfold ex_back
      cases cal (e / 16) as w with
      | none => rfl
      | some q => rfl
    · simp only [if_neg hk] <;> rfl
theorem ev_callv {d : Nat} {cal : Nat → List Value → PW → Option ER} {y : Nat} {c : List Instr} {pl st : List Value} {w : PW} {e : Nat} : ex_ev d cal y (.invokevirtual e :: c, pl, st, w) = (match ex_spl (e % 16 + 1) [] st with | some (as, r) => (match as with | .ref _ :: _ => (if ex_low r = true then (match cal (e / 16) as w with | some (v, w1) => ex_ev d cal y (c, pl, v.toList ++ r, w1) | none => none) else none) | _ => none) | none => none) := by
  rw [ex_ev_eq]
  show (match ex_callv cal (e / 16) (e % 16 + 1) c pl st w with | some (.inl r) => some r | some (.inr s') => ex_ev d cal y s' | none => none) = _
  unfold ex_callv
  cases ex_spl (e % 16 + 1) [] st with
  | none => rfl
  | some q =>
    obtain ⟨as, r⟩ := q
    dsimp only
    cases as with
    | nil => rfl
    | cons v as =>
      cases v with
      | ref o =>
        dsimp only
        by_cases hk : ex_low r = true
        · simp only [if_pos hk]
          unfold ex_back
          cases cal (e / 16) (.ref o :: as) w with
          | none => rfl
          | some q => rfl
        · simp only [if_neg hk] <;> rfl
      | _ => rfl
theorem ev_calli {d : Nat} {cal : Nat → List Value → PW → Option ER} {y : Nat} {c : List Instr} {pl st : List Value} {w : PW} {x n : Nat} : ex_ev d cal y (.invokeinterface x n :: c, pl, st, w) = (match ex_vcall cal x n c pl st w with | some (.inl r) => some r | some (.inr s') => ex_ev d cal y s' | none => none) := by
  rw [ex_ev_eq]
  rfl
theorem ev_iret {d : Nat} {cal : Nat → List Value → PW → Option ER} {y : Nat} {c : List Instr} {pl st : List Value} {w : PW} {x : Int32} : ex_ev d cal y (.ireturn :: c, pl, [.int x], w) = (if ex_ret y = some .int then some (some (.int x), w) else none) := by
  rw [ex_ev_eq]
  show (match (if ex_ret y = some .int then (some (.inl (some (.int x), w)) : Option (ER ⊕ ES)) else none) with | some (.inl r) => some r | some (.inr s') => ex_ev d cal y s' | none => none) = _
  by_cases hk : ex_ret y = some .int
  · simp only [if_pos hk] <;> rfl
  · simp only [if_neg hk] <;> rfl
theorem ev_zret {d : Nat} {cal : Nat → List Value → PW → Option ER} {y : Nat} {c : List Instr} {pl st : List Value} {w : PW} {x : Int32} : ex_ev d cal y (.areturn :: c, pl, [.int x], w) = (if x = 0 ∨ x = 1 then (if ex_ret y = some .boolean then some (some (.int x), w) else none) else none) := by
  rw [ex_ev_eq]
  show (match (if x = 0 ∨ x = 1 then (if ex_ret y = some .boolean then (some (.inl (some (.int x), w)) : Option (ER ⊕ ES)) else none) else none) with | some (.inl r) => some r | some (.inr s') => ex_ev d cal y s' | none => none) = _
  by_cases hk : x = 0 ∨ x = 1
  · by_cases hj : ex_ret y = some .boolean
    · simp only [if_pos hk, if_pos hj] <;> rfl
    · simp only [if_pos hk, if_neg hj] <;> rfl
  · simp only [if_neg hk] <;> rfl
theorem ev_lret {d : Nat} {cal : Nat → List Value → PW → Option ER} {y : Nat} {c : List Instr} {pl st : List Value} {w : PW} {x : Int64} : ex_ev d cal y (.lreturn :: c, pl, [.long x], w) = (if ex_ret y = some .long then some (some (.long x), w) else none) := by
  rw [ex_ev_eq]
  show (match (if ex_ret y = some .long then (some (.inl (some (.long x), w)) : Option (ER ⊕ ES)) else none) with | some (.inl r) => some r | some (.inr s') => ex_ev d cal y s' | none => none) = _
  by_cases hk : ex_ret y = some .long
  · simp only [if_pos hk] <;> rfl
  · simp only [if_neg hk] <;> rfl
theorem ev_vret {d : Nat} {cal : Nat → List Value → PW → Option ER} {y : Nat} {c : List Instr} {pl st : List Value} {w : PW}  : ex_ev d cal y (.return_ :: c, pl, [], w) = (if ex_ret y = none then some (none, w) else none) := by
  rw [ex_ev_eq]
  show (match (if ex_ret y = none then (some (.inl (none, w)) : Option (ER ⊕ ES)) else none) with | some (.inl r) => some r | some (.inr s') => ex_ev d cal y s' | none => none) = _
  by_cases hk : ex_ret y = none
  · simp only [if_pos hk] <;> rfl
  · simp only [if_neg hk] <;> rfl
theorem ex_cal_s {d y : Nat} {as : List Value} {w : PW} (h : ex_okR y as = true) : ex_cal (d + 1) y as w = ex_ev d (ex_cal d) y (ex_blk y 0, ex_ent y as, [], w) := by
  show (if ex_okR y as = true then _ else _) = _
  rw [if_pos h]
