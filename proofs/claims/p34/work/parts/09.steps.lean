/-! every instruction of the pure machine is the real one's: step by step -/
def ex_Cx (dC : Nat → ClassId) (dI : Nat → Nat → Nat) (ad : Nat → Nat) (cI cB : ClassId) (A : Nat → Prop) (U : State) (H : Heap) : Prop :=
  va_K (dC, dI) ex_cm [(cI, .int)] U ∧ (∀ x ∈ ex_nw, va_Nw x U) ∧ va_Z "BorderThroughBed$House" "DOWN" "[I" (.ref (ad 1000)) A U H ∧ va_T .int (ad 1000) 4 (fun j => .int (ex_down j)) A U H ∧ va_Z "BorderThroughBed$House" "RIGHT" "[I" (.ref (ad 1001)) A U H ∧ va_T .int (ad 1001) 4 (fun j => .int (ex_right j)) A U H ∧ va_T .int (ad 2000) (ad 2999) (fun j => .int (Int32.ofNat (ad (3000 + j)))) A U H
def ex_AA (ad : Nat → Nat) (sz : Nat) : Nat → Prop := fun q => (∃ o, ex_on o ∧ q = ad o) ∨ sz ≤ q
def ex_In (ad : Nat → Nat) : Prop := (∀ i j, ex_on i → ex_on j → ad i = ad j → i = j) ∧ 24 ≤ ad 2500
def ex_Rm (d n : Nat) : Room := { frames := d, cells := n, slots := 64 * n, locals := 33 * d }
def ex_fit (R : Room) (d y : Nat) : Prop := d ≤ R.frames ∧ 33 * d ≤ R.locals ∧ (y = 104 → 33 * d + 10 ≤ R.locals)
/-- what is made so far: K: cells and slots at the entry, the count there -/
def ex_kc (K : Nat × Nat × Nat) (w : PW) : Nat := K.1 + (w.2.1 - K.2.2)
def ex_ks (K : Nat × Nat × Nat) (w : PW) : Nat := K.2.1 + 64 * (w.2.1 - K.2.2)
def ex_Sc (ad : Nat → Nat) (w : PW) : Prop := w.2.2.1 = ad 2999 ∧ ∀ j, w.2.2.2 j = Int32.ofNat (ad (3000 + j))
def ex_St (y : Nat) (ad0 ad : Nat → Nat) (sz : Nat) (K : Nat × Nat × Nat) (w : PW) : Prop := ex_Ad y ad0 ad sz ∧ ex_In ad ∧ K.2.2 ≤ w.2.1 ∧ ex_Sc ad0 w
def ex_Fix (p : Program) (l : Launch) (e : Env) (R : Room) (s : State) (m : MethodId) (args : Array Value) (c : Code) (dC : Nat → ClassId) (dI : Nat → Nat → Nat) (ad0 : Nat → Nat) (cI cB : ClassId) (y d : Nat) : Prop :=
  p.tables.exec = Jvm.exec ∧ c.code = ex_B y ∧ c.maxLocals = ex_L y ∧ s.vm.findClass (ex_Rn (ex_C y)) = some m.cls ∧ (∀ w ∈ ex_tb, w.before args s = true) ∧ ex_Cx dC dI ad0 cI cB (ex_AA ad0 s.heap.size) s s.heap ∧ ex_fit R d y ∧ ex_C y < 12
def ex_G (p : Program) (l : Launch) (e : Env) (R : Room) (s : State) (m : MethodId) (args : Array Value) (below : List Frame) (meth : Method) (c : Code) (Q : State → Prop) (dC : Nat → ClassId) (dI : Nat → Nat → Nat) (ad0 : Nat → Nat) (cI cB : ClassId) (K : Nat × Nat × Nat) (y : Nat) (code : List Instr) (pl st : List Value) (w : PW) : Prop :=
  ∀ (ad : Nat → Nat) (pc : Nat) (H : Heap) (locs : List Loc) (ls : Array Slot), ex_St y ad0 ad s.heap.size K w → ex_ok y pc code = true → va_P (dC, dI) ex_cm (ex_cel ad cI cB w) H → va_S (ex_AA ad0 s.heap.size) s.heap H locs → ex_LR ad (ex_L y) ls pl → W p l e R s m args below meth c H locs (ex_kc K w) (ex_ks K w) Q (F0 m pc ls (st.map (ex_tv ad)))
theorem ex_Ad.aa {y : Nat} {ad0 ad : Nat → Nat} {sz o : Nat} (h : ex_Ad y ad0 ad sz) (ho : ex_on o) : ex_AA ad0 sz (ad o) := by
  rcases h o with h | ⟨-, h⟩ | ⟨h, -⟩
  · exact Or.inl ⟨o, ho, h⟩
  · exact Or.inr h
  · have := ho.1; omega
theorem ex_vD {y : Nat} {ad0 ad : Nat → Nat} {cI cB : ClassId} {w : PW} {sz : Nat} {K : Nat × Nat × Nat} (hA : ex_St y ad0 ad sz K w) : va_D (ex_AA ad0 sz) (ex_cel ad cI cB w) := by
  have h := hA.2.1.1
  constructor
  · intro i j p q hi hj he
    rcases Nat.lt_or_ge i 50 with h1 | h1
    · rcases Nat.lt_or_ge j 50 with h2 | h2
      · rw [ex_cel_pos h1] at hi
        rw [ex_cel_pos h2] at hj
        rw [← Option.some.inj hi, ← Option.some.inj hj] at he
        exact ex_ob_in h1 h2 (h _ _ (ex_ob_on h1) (ex_ob_on h2) he)
      · rw [ex_cel_none h2] at hj; cases hj
    · rw [ex_cel_none h1] at hi; cases hi
  · intro k q hk
    rcases Nat.lt_or_ge k 50 with h1 | h1
    · rw [ex_cel_pos h1] at hk
      rw [← Option.some.inj hk]
      exact hA.1.aa (ex_ob_on h1)
    · rw [ex_cel_none h1] at hk; cases hk
theorem ex_ok_cons {y pc : Nat} {i : Instr} {c : List Instr} (hj : ex_jsr i = none) (h : ex_ok y pc (i :: c) = true) : ∃ j len, decode (ex_B y) pc = .ok (j, len) ∧ ex_okI y pc i j len = true ∧ ex_ok y (pc + len) c = true := by
  unfold ex_ok at h
  rw [hj] at h
  dsimp only at h
  cases hd : decode (ex_B y) pc with
  | error x => rw [hd] at h; cases h
  | ok q =>
    obtain ⟨j, len⟩ := q
    rw [hd] at h
    dsimp only at h
    rw [Bool.and_eq_true] at h
    exact ⟨j, len, rfl, h.1, h.2⟩
theorem ex_ok_jsr {y pc : Nat} {L : Int} {c : List Instr} (h : ex_ok y pc (.jsr L :: c) = true) : L = (pc : Int) := by
  have h2 : (decide (L = (pc : Int))) = true := h
  exact of_decide_eq_true h2
theorem ex_ok_blk (y L : Nat) : ex_ok y L (ex_blk y L) = true := by
  unfold ex_blk
  cases h : (ex_bs.getD y []).lookup L with
  | none => rfl
  | some b =>
    have hm := ex_lk h
    have := List.all_eq_true.mp (show (ex_bs.getD y []).all (fun q => ex_ok y q.1 q.2) = true from ex_okM_all y) _ hm
    exact this
theorem ex_okJ_spec {pc : Nat} {L off : Int} {len n : Nat} (h : ex_okJ pc L off len n = true) : (pc : Int) + off = ((L.toNat : Nat) : Int) ∧ len = n := by
  unfold ex_okJ at h
  simp only [Bool.and_eq_true, decide_eq_true_eq, beq_iff_eq] at h
  obtain ⟨⟨h1, h2⟩, h3⟩ := h
  exact ⟨by omega, h3⟩
section ES
variable {p : Program} {l : Launch} {e : Env} {R : Room} {s : State} {m : MethodId} {args : Array Value} {below : List Frame} {meth : Method} {c : Code} {Q : State → Prop} {dC : Nat → ClassId} {dI : Nat → Nat → Nat} {ad0 : Nat → Nat} {cI cB : ClassId} {K : Nat × Nat × Nat} {y d : Nat} {code : List Instr} {pl st : List Value} {w : PW}
theorem es_iadd (C : ex_Fix p l e R s m args c dC dI ad0 cI cB y d) {a b : Int32} (k : ex_G p l e R s m args below meth c Q dC dI ad0 cI cB K y (code) (pl) (.int (a + b) :: st) (w)) : ex_G p l e R s m args below meth c Q dC dI ad0 cI cB K y (.iadd :: code) (pl) (.int b :: .int a :: st) (w) := by
  intro ad pc H locs ls hA hok hP hS hL
  obtain ⟨hx, hb, hml, hown, hts, hC, hR, hcl⟩ := C
  obtain ⟨j, len, hd, hi, ho⟩ := ex_ok_cons rfl hok
  have hi : (decide (j = .iadd) && len == 1) = true := hi
  simp only [Bool.and_eq_true, decide_eq_true_eq, beq_iff_eq] at hi
  obtain ⟨rfl, rfl⟩ := hi
  exact lv_iadd hx hb hd (k ad _ H locs ls hA ho hP hS hL)
theorem es_isub (C : ex_Fix p l e R s m args c dC dI ad0 cI cB y d) {a b : Int32} (k : ex_G p l e R s m args below meth c Q dC dI ad0 cI cB K y (code) (pl) (.int (a - b) :: st) (w)) : ex_G p l e R s m args below meth c Q dC dI ad0 cI cB K y (.isub :: code) (pl) (.int b :: .int a :: st) (w) := by
  intro ad pc H locs ls hA hok hP hS hL
  obtain ⟨hx, hb, hml, hown, hts, hC, hR, hcl⟩ := C
  obtain ⟨j, len, hd, hi, ho⟩ := ex_ok_cons rfl hok
  have hi : (decide (j = .isub) && len == 1) = true := hi
  simp only [Bool.and_eq_true, decide_eq_true_eq, beq_iff_eq] at hi
  obtain ⟨rfl, rfl⟩ := hi
  exact lv_isub hx hb hd (k ad _ H locs ls hA ho hP hS hL)
theorem es_imul (C : ex_Fix p l e R s m args c dC dI ad0 cI cB y d) {a b : Int32} (k : ex_G p l e R s m args below meth c Q dC dI ad0 cI cB K y (code) (pl) (.int (a * b) :: st) (w)) : ex_G p l e R s m args below meth c Q dC dI ad0 cI cB K y (.imul :: code) (pl) (.int b :: .int a :: st) (w) := by
  intro ad pc H locs ls hA hok hP hS hL
  obtain ⟨hx, hb, hml, hown, hts, hC, hR, hcl⟩ := C
  obtain ⟨j, len, hd, hi, ho⟩ := ex_ok_cons rfl hok
  have hi : (decide (j = .imul) && len == 1) = true := hi
  simp only [Bool.and_eq_true, decide_eq_true_eq, beq_iff_eq] at hi
  obtain ⟨rfl, rfl⟩ := hi
  exact lv_imul hx hb hd (k ad _ H locs ls hA ho hP hS hL)
theorem es_iand (C : ex_Fix p l e R s m args c dC dI ad0 cI cB y d) {a b : Int32} (k : ex_G p l e R s m args below meth c Q dC dI ad0 cI cB K y (code) (pl) (.int (a &&& b) :: st) (w)) : ex_G p l e R s m args below meth c Q dC dI ad0 cI cB K y (.iand :: code) (pl) (.int b :: .int a :: st) (w) := by
  intro ad pc H locs ls hA hok hP hS hL
  obtain ⟨hx, hb, hml, hown, hts, hC, hR, hcl⟩ := C
  obtain ⟨j, len, hd, hi, ho⟩ := ex_ok_cons rfl hok
  have hi : (decide (j = .iand) && len == 1) = true := hi
  simp only [Bool.and_eq_true, decide_eq_true_eq, beq_iff_eq] at hi
  obtain ⟨rfl, rfl⟩ := hi
  exact lv_iand hx hb hd (k ad _ H locs ls hA ho hP hS hL)
theorem es_ior (C : ex_Fix p l e R s m args c dC dI ad0 cI cB y d) {a b : Int32} (k : ex_G p l e R s m args below meth c Q dC dI ad0 cI cB K y (code) (pl) (.int (a ||| b) :: st) (w)) : ex_G p l e R s m args below meth c Q dC dI ad0 cI cB K y (.ior :: code) (pl) (.int b :: .int a :: st) (w) := by
  intro ad pc H locs ls hA hok hP hS hL
  obtain ⟨hx, hb, hml, hown, hts, hC, hR, hcl⟩ := C
  obtain ⟨j, len, hd, hi, ho⟩ := ex_ok_cons rfl hok
  have hi : (decide (j = .ior) && len == 1) = true := hi
  simp only [Bool.and_eq_true, decide_eq_true_eq, beq_iff_eq] at hi
  obtain ⟨rfl, rfl⟩ := hi
  exact lv_ior hx hb hd (k ad _ H locs ls hA ho hP hS hL)
theorem es_ixor (C : ex_Fix p l e R s m args c dC dI ad0 cI cB y d) {a b : Int32} (k : ex_G p l e R s m args below meth c Q dC dI ad0 cI cB K y (code) (pl) (.int (a ^^^ b) :: st) (w)) : ex_G p l e R s m args below meth c Q dC dI ad0 cI cB K y (.ixor :: code) (pl) (.int b :: .int a :: st) (w) := by
  intro ad pc H locs ls hA hok hP hS hL
  obtain ⟨hx, hb, hml, hown, hts, hC, hR, hcl⟩ := C
  obtain ⟨j, len, hd, hi, ho⟩ := ex_ok_cons rfl hok
  have hi : (decide (j = .ixor) && len == 1) = true := hi
  simp only [Bool.and_eq_true, decide_eq_true_eq, beq_iff_eq] at hi
  obtain ⟨rfl, rfl⟩ := hi
  exact lv_ixor hx hb hd (k ad _ H locs ls hA ho hP hS hL)
theorem es_ishl (C : ex_Fix p l e R s m args c dC dI ad0 cI cB y d) {a b : Int32} (k : ex_G p l e R s m args below meth c Q dC dI ad0 cI cB K y (code) (pl) (.int (a <<< (b &&& 31)) :: st) (w)) : ex_G p l e R s m args below meth c Q dC dI ad0 cI cB K y (.ishl :: code) (pl) (.int b :: .int a :: st) (w) := by
  intro ad pc H locs ls hA hok hP hS hL
  obtain ⟨hx, hb, hml, hown, hts, hC, hR, hcl⟩ := C
  obtain ⟨j, len, hd, hi, ho⟩ := ex_ok_cons rfl hok
  have hi : (decide (j = .ishl) && len == 1) = true := hi
  simp only [Bool.and_eq_true, decide_eq_true_eq, beq_iff_eq] at hi
  obtain ⟨rfl, rfl⟩ := hi
  exact lv_ishl hx hb hd (k ad _ H locs ls hA ho hP hS hL)
theorem es_ishr (C : ex_Fix p l e R s m args c dC dI ad0 cI cB y d) {a b : Int32} (k : ex_G p l e R s m args below meth c Q dC dI ad0 cI cB K y (code) (pl) (.int (a >>> (b &&& 31)) :: st) (w)) : ex_G p l e R s m args below meth c Q dC dI ad0 cI cB K y (.ishr :: code) (pl) (.int b :: .int a :: st) (w) := by
  intro ad pc H locs ls hA hok hP hS hL
  obtain ⟨hx, hb, hml, hown, hts, hC, hR, hcl⟩ := C
  obtain ⟨j, len, hd, hi, ho⟩ := ex_ok_cons rfl hok
  have hi : (decide (j = .ishr) && len == 1) = true := hi
  simp only [Bool.and_eq_true, decide_eq_true_eq, beq_iff_eq] at hi
  obtain ⟨rfl, rfl⟩ := hi
  exact lv_ishr hx hb hd (k ad _ H locs ls hA ho hP hS hL)
theorem es_idiv (C : ex_Fix p l e R s m args c dC dI ad0 cI cB y d) {a b : Int32} (hz : ¬ b = 0) (k : ex_G p l e R s m args below meth c Q dC dI ad0 cI cB K y (code) (pl) (.int (a / b) :: st) (w)) : ex_G p l e R s m args below meth c Q dC dI ad0 cI cB K y (.idiv :: code) (pl) (.int b :: .int a :: st) (w) := by
  intro ad pc H locs ls hA hok hP hS hL
  obtain ⟨hx, hb, hml, hown, hts, hC, hR, hcl⟩ := C
  obtain ⟨j, len, hd, hi, ho⟩ := ex_ok_cons rfl hok
  have hi : (decide (j = .idiv) && len == 1) = true := hi
  simp only [Bool.and_eq_true, decide_eq_true_eq, beq_iff_eq] at hi
  obtain ⟨rfl, rfl⟩ := hi
  exact lv_idiv hx hb hd hz (k ad _ H locs ls hA ho hP hS hL)
theorem es_irem (C : ex_Fix p l e R s m args c dC dI ad0 cI cB y d) {a b : Int32} (hz : ¬ b = 0) (k : ex_G p l e R s m args below meth c Q dC dI ad0 cI cB K y (code) (pl) (.int (a - a / b * b) :: st) (w)) : ex_G p l e R s m args below meth c Q dC dI ad0 cI cB K y (.irem :: code) (pl) (.int b :: .int a :: st) (w) := by
  intro ad pc H locs ls hA hok hP hS hL
  obtain ⟨hx, hb, hml, hown, hts, hC, hR, hcl⟩ := C
  obtain ⟨j, len, hd, hi, ho⟩ := ex_ok_cons rfl hok
  have hi : (decide (j = .irem) && len == 1) = true := hi
  simp only [Bool.and_eq_true, decide_eq_true_eq, beq_iff_eq] at hi
  obtain ⟨rfl, rfl⟩ := hi
  exact lv_irem hx hb hd hz (k ad _ H locs ls hA ho hP hS hL)
theorem es_ladd (C : ex_Fix p l e R s m args c dC dI ad0 cI cB y d) {a b : Int64} (k : ex_G p l e R s m args below meth c Q dC dI ad0 cI cB K y (code) (pl) (.long (a + b) :: st) (w)) : ex_G p l e R s m args below meth c Q dC dI ad0 cI cB K y (.ladd :: code) (pl) (.long b :: .long a :: st) (w) := by
  intro ad pc H locs ls hA hok hP hS hL
  obtain ⟨hx, hb, hml, hown, hts, hC, hR, hcl⟩ := C
  obtain ⟨j, len, hd, hi, ho⟩ := ex_ok_cons rfl hok
  have hi : (decide (j = .ladd) && len == 1) = true := hi
  simp only [Bool.and_eq_true, decide_eq_true_eq, beq_iff_eq] at hi
  obtain ⟨rfl, rfl⟩ := hi
  exact lv_ladd hx hb hd (k ad _ H locs ls hA ho hP hS hL)
theorem es_lmul (C : ex_Fix p l e R s m args c dC dI ad0 cI cB y d) {a b : Int64} (k : ex_G p l e R s m args below meth c Q dC dI ad0 cI cB K y (code) (pl) (.long (a * b) :: st) (w)) : ex_G p l e R s m args below meth c Q dC dI ad0 cI cB K y (.lmul :: code) (pl) (.long b :: .long a :: st) (w) := by
  intro ad pc H locs ls hA hok hP hS hL
  obtain ⟨hx, hb, hml, hown, hts, hC, hR, hcl⟩ := C
  obtain ⟨j, len, hd, hi, ho⟩ := ex_ok_cons rfl hok
  have hi : (decide (j = .lmul) && len == 1) = true := hi
  simp only [Bool.and_eq_true, decide_eq_true_eq, beq_iff_eq] at hi
  obtain ⟨rfl, rfl⟩ := hi
  exact lv_lmul hx hb hd (k ad _ H locs ls hA ho hP hS hL)
theorem es_land (C : ex_Fix p l e R s m args c dC dI ad0 cI cB y d) {a b : Int64} (k : ex_G p l e R s m args below meth c Q dC dI ad0 cI cB K y (code) (pl) (.long (a &&& b) :: st) (w)) : ex_G p l e R s m args below meth c Q dC dI ad0 cI cB K y (.land :: code) (pl) (.long b :: .long a :: st) (w) := by
  intro ad pc H locs ls hA hok hP hS hL
  obtain ⟨hx, hb, hml, hown, hts, hC, hR, hcl⟩ := C
  obtain ⟨j, len, hd, hi, ho⟩ := ex_ok_cons rfl hok
  have hi : (decide (j = .land) && len == 1) = true := hi
  simp only [Bool.and_eq_true, decide_eq_true_eq, beq_iff_eq] at hi
  obtain ⟨rfl, rfl⟩ := hi
  exact lv_land hx hb hd (k ad _ H locs ls hA ho hP hS hL)
theorem es_lshr (C : ex_Fix p l e R s m args c dC dI ad0 cI cB y d) {a : Int64} {b : Int32} (k : ex_G p l e R s m args below meth c Q dC dI ad0 cI cB K y (code) (pl) (.long (a >>> (b.toInt64 &&& 63)) :: st) (w)) : ex_G p l e R s m args below meth c Q dC dI ad0 cI cB K y (.lshr :: code) (pl) (.int b :: .long a :: st) (w) := by
  intro ad pc H locs ls hA hok hP hS hL
  obtain ⟨hx, hb, hml, hown, hts, hC, hR, hcl⟩ := C
  obtain ⟨j, len, hd, hi, ho⟩ := ex_ok_cons rfl hok
  have hi : (decide (j = .lshr) && len == 1) = true := hi
  simp only [Bool.and_eq_true, decide_eq_true_eq, beq_iff_eq] at hi
  obtain ⟨rfl, rfl⟩ := hi
  exact lv_lshr hx hb hd rfl (k ad _ H locs ls hA ho hP hS hL)
theorem es_lushr (C : ex_Fix p l e R s m args c dC dI ad0 cI cB y d) {a : Int64} {b : Int32} (k : ex_G p l e R s m args below meth c Q dC dI ad0 cI cB K y (code) (pl) (.long (a.toUInt64 >>> (b.toInt64.toUInt64 &&& Int64.toUInt64 63)).toInt64 :: st) (w)) : ex_G p l e R s m args below meth c Q dC dI ad0 cI cB K y (.lushr :: code) (pl) (.int b :: .long a :: st) (w) := by
  intro ad pc H locs ls hA hok hP hS hL
  obtain ⟨hx, hb, hml, hown, hts, hC, hR, hcl⟩ := C
  obtain ⟨j, len, hd, hi, ho⟩ := ex_ok_cons rfl hok
  have hi : (decide (j = .lushr) && len == 1) = true := hi
  simp only [Bool.and_eq_true, decide_eq_true_eq, beq_iff_eq] at hi
  obtain ⟨rfl, rfl⟩ := hi
  exact lv_lushr hx hb hd rfl (k ad _ H locs ls hA ho hP hS hL)
theorem es_i2l (C : ex_Fix p l e R s m args c dC dI ad0 cI cB y d) {a : Int32} (k : ex_G p l e R s m args below meth c Q dC dI ad0 cI cB K y (code) (pl) (.long a.toInt64 :: st) (w)) : ex_G p l e R s m args below meth c Q dC dI ad0 cI cB K y (.i2l :: code) (pl) (.int a :: st) (w) := by
  intro ad pc H locs ls hA hok hP hS hL
  obtain ⟨hx, hb, hml, hown, hts, hC, hR, hcl⟩ := C
  obtain ⟨j, len, hd, hi, ho⟩ := ex_ok_cons rfl hok
  have hi : (decide (j = .i2l) && len == 1) = true := hi
  simp only [Bool.and_eq_true, decide_eq_true_eq, beq_iff_eq] at hi
  obtain ⟨rfl, rfl⟩ := hi
  exact lv_i2l hx hb hd rfl (k ad _ H locs ls hA ho hP hS hL)
theorem es_l2i (C : ex_Fix p l e R s m args c dC dI ad0 cI cB y d) {a : Int64} (k : ex_G p l e R s m args below meth c Q dC dI ad0 cI cB K y (code) (pl) (.int a.toInt32 :: st) (w)) : ex_G p l e R s m args below meth c Q dC dI ad0 cI cB K y (.l2i :: code) (pl) (.long a :: st) (w) := by
  intro ad pc H locs ls hA hok hP hS hL
  obtain ⟨hx, hb, hml, hown, hts, hC, hR, hcl⟩ := C
  obtain ⟨j, len, hd, hi, ho⟩ := ex_ok_cons rfl hok
  have hi : (decide (j = .l2i) && len == 1) = true := hi
  simp only [Bool.and_eq_true, decide_eq_true_eq, beq_iff_eq] at hi
  obtain ⟨rfl, rfl⟩ := hi
  exact lv_l2i hx hb hd rfl (k ad _ H locs ls hA ho hP hS hL)
theorem es_i2b (C : ex_Fix p l e R s m args c dC dI ad0 cI cB y d) {a : Int32} (k : ex_G p l e R s m args below meth c Q dC dI ad0 cI cB K y (code) (pl) (.int a.toInt8.toInt32 :: st) (w)) : ex_G p l e R s m args below meth c Q dC dI ad0 cI cB K y (.i2b :: code) (pl) (.int a :: st) (w) := by
  intro ad pc H locs ls hA hok hP hS hL
  obtain ⟨hx, hb, hml, hown, hts, hC, hR, hcl⟩ := C
  obtain ⟨j, len, hd, hi, ho⟩ := ex_ok_cons rfl hok
  have hi : (decide (j = .i2b) && len == 1) = true := hi
  simp only [Bool.and_eq_true, decide_eq_true_eq, beq_iff_eq] at hi
  obtain ⟨rfl, rfl⟩ := hi
  exact lv_i2b hx hb hd rfl (k ad _ H locs ls hA ho hP hS hL)
theorem es_dup_r (C : ex_Fix p l e R s m args c dC dI ad0 cI cB y d) {a : Nat} (k : ex_G p l e R s m args below meth c Q dC dI ad0 cI cB K y (code) (pl) (.ref a :: .ref a :: st) (w)) : ex_G p l e R s m args below meth c Q dC dI ad0 cI cB K y (.dup :: code) (pl) (.ref a :: st) (w) := by
  intro ad pc H locs ls hA hok hP hS hL
  obtain ⟨hx, hb, hml, hown, hts, hC, hR, hcl⟩ := C
  obtain ⟨j, len, hd, hi, ho⟩ := ex_ok_cons rfl hok
  have hi : (decide (j = .dup) && len == 1) = true := hi
  simp only [Bool.and_eq_true, decide_eq_true_eq, beq_iff_eq] at hi
  obtain ⟨rfl, rfl⟩ := hi
  exact lv_dup (va := .ref (ad a)) hx hb hd rfl (k ad _ H locs ls hA ho hP hS hL)
theorem es_dup_i (C : ex_Fix p l e R s m args c dC dI ad0 cI cB y d) {a : Int32} (k : ex_G p l e R s m args below meth c Q dC dI ad0 cI cB K y (code) (pl) (.int a :: .int a :: st) (w)) : ex_G p l e R s m args below meth c Q dC dI ad0 cI cB K y (.dup :: code) (pl) (.int a :: st) (w) := by
  intro ad pc H locs ls hA hok hP hS hL
  obtain ⟨hx, hb, hml, hown, hts, hC, hR, hcl⟩ := C
  obtain ⟨j, len, hd, hi, ho⟩ := ex_ok_cons rfl hok
  have hi : (decide (j = .dup) && len == 1) = true := hi
  simp only [Bool.and_eq_true, decide_eq_true_eq, beq_iff_eq] at hi
  obtain ⟨rfl, rfl⟩ := hi
  exact lv_dup (va := .int a) hx hb hd rfl (k ad _ H locs ls hA ho hP hS hL)
theorem es_dup2 (C : ex_Fix p l e R s m args c dC dI ad0 cI cB y d) {a : Int32} {b : Nat} (k : ex_G p l e R s m args below meth c Q dC dI ad0 cI cB K y (code) (pl) (.int a :: .ref b :: .int a :: .ref b :: st) (w)) : ex_G p l e R s m args below meth c Q dC dI ad0 cI cB K y (.dup2 :: code) (pl) (.int a :: .ref b :: st) (w) := by
  intro ad pc H locs ls hA hok hP hS hL
  obtain ⟨hx, hb, hml, hown, hts, hC, hR, hcl⟩ := C
  obtain ⟨j, len, hd, hi, ho⟩ := ex_ok_cons rfl hok
  have hi : (decide (j = .dup2) && len == 1) = true := hi
  simp only [Bool.and_eq_true, decide_eq_true_eq, beq_iff_eq] at hi
  obtain ⟨rfl, rfl⟩ := hi
  exact lv_dup2_11 (va := .int a) (vb := .ref (ad b)) hx hb hd rfl rfl (k ad _ H locs ls hA ho hP hS hL)
theorem es_pop (C : ex_Fix p l e R s m args c dC dI ad0 cI cB y d) {a : Int32} (k : ex_G p l e R s m args below meth c Q dC dI ad0 cI cB K y (code) (pl) (st) (w)) : ex_G p l e R s m args below meth c Q dC dI ad0 cI cB K y (.pop :: code) (pl) (.int a :: st) (w) := by
  intro ad pc H locs ls hA hok hP hS hL
  obtain ⟨hx, hb, hml, hown, hts, hC, hR, hcl⟩ := C
  obtain ⟨j, len, hd, hi, ho⟩ := ex_ok_cons rfl hok
  have hi : (decide (j = .pop) && len == 1) = true := hi
  simp only [Bool.and_eq_true, decide_eq_true_eq, beq_iff_eq] at hi
  obtain ⟨rfl, rfl⟩ := hi
  exact lv_pop (va := .int a) hx hb hd rfl (k ad _ H locs ls hA ho hP hS hL)
theorem es_iload (C : ex_Fix p l e R s m args c dC dI ad0 cI cB y d) {i : Nat} {x : Int32} (hg : pl.getD i .null = .int x) (k : ex_G p l e R s m args below meth c Q dC dI ad0 cI cB K y (code) (pl) (.int x :: st) (w)) : ex_G p l e R s m args below meth c Q dC dI ad0 cI cB K y (.iload i :: code) (pl) (st) (w) := by
  intro ad pc H locs ls hA hok hP hS hL
  obtain ⟨hx, hb, hml, hown, hts, hC, hR, hcl⟩ := C
  obtain ⟨j, len, hd, hi, ho⟩ := ex_ok_cons rfl hok
  have hi : ((decide (j = .iload i) && len == 2) || (if h : i < 4 then decide (j = .iload_n ⟨i, h⟩) && len == 1 else false)) = true := hi
  have hl := hL.get (ex_getD hg (by intro q; cases q)) rfl
  rcases Bool.or_eq_true _ _ ▸ hi with hi | hi
  · simp only [Bool.and_eq_true, decide_eq_true_eq, beq_iff_eq] at hi
    obtain ⟨rfl, rfl⟩ := hi
    exact lv_iload hx hb hd hl (k ad _ H locs ls hA ho hP hS hL)
  · by_cases h4 : i < 4
    · rw [dif_pos h4] at hi
      simp only [Bool.and_eq_true, decide_eq_true_eq, beq_iff_eq] at hi
      obtain ⟨rfl, rfl⟩ := hi
      exact lv_iload_n hx hb hd rfl hl (k ad _ H locs ls hA ho hP hS hL)
    · rw [dif_neg h4] at hi
      cases hi
theorem es_aload (C : ex_Fix p l e R s m args c dC dI ad0 cI cB y d) {i : Nat} {x : Nat} (hg : pl.getD i .null = .ref x) (k : ex_G p l e R s m args below meth c Q dC dI ad0 cI cB K y (code) (pl) (.ref x :: st) (w)) : ex_G p l e R s m args below meth c Q dC dI ad0 cI cB K y (.aload i :: code) (pl) (st) (w) := by
  intro ad pc H locs ls hA hok hP hS hL
  obtain ⟨hx, hb, hml, hown, hts, hC, hR, hcl⟩ := C
  obtain ⟨j, len, hd, hi, ho⟩ := ex_ok_cons rfl hok
  have hi : ((decide (j = .aload i) && len == 2) || (if h : i < 4 then decide (j = .aload_n ⟨i, h⟩) && len == 1 else false)) = true := hi
  have hl := hL.get (ex_getD hg (by intro q; cases q)) rfl
  rcases Bool.or_eq_true _ _ ▸ hi with hi | hi
  · simp only [Bool.and_eq_true, decide_eq_true_eq, beq_iff_eq] at hi
    obtain ⟨rfl, rfl⟩ := hi
    exact lv_aload hx hb hd hl (k ad _ H locs ls hA ho hP hS hL)
  · by_cases h4 : i < 4
    · rw [dif_pos h4] at hi
      simp only [Bool.and_eq_true, decide_eq_true_eq, beq_iff_eq] at hi
      obtain ⟨rfl, rfl⟩ := hi
      exact lv_aload_n hx hb hd rfl hl (k ad _ H locs ls hA ho hP hS hL)
    · rw [dif_neg h4] at hi
      cases hi
theorem es_lload (C : ex_Fix p l e R s m args c dC dI ad0 cI cB y d) {i : Nat} {x : Int64} (hg : pl.getD i .null = .long x) (k : ex_G p l e R s m args below meth c Q dC dI ad0 cI cB K y (code) (pl) (.long x :: st) (w)) : ex_G p l e R s m args below meth c Q dC dI ad0 cI cB K y (.lload i :: code) (pl) (st) (w) := by
  intro ad pc H locs ls hA hok hP hS hL
  obtain ⟨hx, hb, hml, hown, hts, hC, hR, hcl⟩ := C
  obtain ⟨j, len, hd, hi, ho⟩ := ex_ok_cons rfl hok
  have hi : ((decide (j = .lload i) && len == 2) || (if h : i < 4 then decide (j = .lload_n ⟨i, h⟩) && len == 1 else false)) = true := hi
  have hl := hL.get (ex_getD hg (by intro q; cases q)) rfl
  rcases Bool.or_eq_true _ _ ▸ hi with hi | hi
  · simp only [Bool.and_eq_true, decide_eq_true_eq, beq_iff_eq] at hi
    obtain ⟨rfl, rfl⟩ := hi
    exact lv_lload hx hb hd hl (k ad _ H locs ls hA ho hP hS hL)
  · by_cases h4 : i < 4
    · rw [dif_pos h4] at hi
      simp only [Bool.and_eq_true, decide_eq_true_eq, beq_iff_eq] at hi
      obtain ⟨rfl, rfl⟩ := hi
      exact lv_lload_n hx hb hd rfl hl (k ad _ H locs ls hA ho hP hS hL)
    · rw [dif_neg h4] at hi
      cases hi
theorem es_istore (C : ex_Fix p l e R s m args c dC dI ad0 cI cB y d) {i : Nat} {x : Int32} {a : Value} (hg : pl[i]? = some a) (hr : ∀ n, a ≠ .retAddr n) (k : ex_G p l e R s m args below meth c Q dC dI ad0 cI cB K y (code) (pl.set i (.int x)) (st) (w)) : ex_G p l e R s m args below meth c Q dC dI ad0 cI cB K y (.istore i :: code) (pl) (.int x :: st) (w) := by
  intro ad pc H locs ls hA hok hP hS hL
  obtain ⟨hx, hb, hml, hown, hts, hC, hR, hcl⟩ := C
  obtain ⟨j, len, hd, hi, ho⟩ := ex_ok_cons rfl hok
  have hi : ((decide (j = .istore i) && len == 2) || (if h : i < 4 then decide (j = .istore_n ⟨i, h⟩) && len == 1 else false)) = true := hi
  have hn : i < ex_L y := by rw [← hL.1]; exact (List.getElem?_eq_some_iff.mp hg).1
  rcases Bool.or_eq_true _ _ ▸ hi with hi | hi
  · simp only [Bool.and_eq_true, decide_eq_true_eq, beq_iff_eq] at hi
    obtain ⟨rfl, rfl⟩ := hi
    exact lv_istore hx hb hd hL.2.1 hn rfl (fun ls' h' => k ad _ H locs ls' hA ho hP hS (hL.set1 hg hr rfl rfl h'))
  · by_cases h4 : i < 4
    · rw [dif_pos h4] at hi
      simp only [Bool.and_eq_true, decide_eq_true_eq, beq_iff_eq] at hi
      obtain ⟨rfl, rfl⟩ := hi
      exact lv_istore_n hx hb hd rfl hL.2.1 hn rfl (fun ls' h' => k ad _ H locs ls' hA ho hP hS (hL.set1 hg hr rfl rfl h'))
    · rw [dif_neg h4] at hi
      cases hi
theorem es_astore (C : ex_Fix p l e R s m args c dC dI ad0 cI cB y d) {i : Nat} {x : Nat} {a : Value} (hg : pl[i]? = some a) (hr : ∀ n, a ≠ .retAddr n) (k : ex_G p l e R s m args below meth c Q dC dI ad0 cI cB K y (code) (pl.set i (.ref x)) (st) (w)) : ex_G p l e R s m args below meth c Q dC dI ad0 cI cB K y (.astore i :: code) (pl) (.ref x :: st) (w) := by
  intro ad pc H locs ls hA hok hP hS hL
  obtain ⟨hx, hb, hml, hown, hts, hC, hR, hcl⟩ := C
  obtain ⟨j, len, hd, hi, ho⟩ := ex_ok_cons rfl hok
  have hi : ((decide (j = .astore i) && len == 2) || (if h : i < 4 then decide (j = .astore_n ⟨i, h⟩) && len == 1 else false)) = true := hi
  have hn : i < ex_L y := by rw [← hL.1]; exact (List.getElem?_eq_some_iff.mp hg).1
  rcases Bool.or_eq_true _ _ ▸ hi with hi | hi
  · simp only [Bool.and_eq_true, decide_eq_true_eq, beq_iff_eq] at hi
    obtain ⟨rfl, rfl⟩ := hi
    exact lv_astore hx hb hd hL.2.1 hn rfl (fun ls' h' => k ad _ H locs ls' hA ho hP hS (hL.set1 hg hr rfl rfl h'))
  · by_cases h4 : i < 4
    · rw [dif_pos h4] at hi
      simp only [Bool.and_eq_true, decide_eq_true_eq, beq_iff_eq] at hi
      obtain ⟨rfl, rfl⟩ := hi
      exact lv_astore_n hx hb hd rfl hL.2.1 hn rfl (fun ls' h' => k ad _ H locs ls' hA ho hP hS (hL.set1 hg hr rfl rfl h'))
    · rw [dif_neg h4] at hi
      cases hi
theorem es_lstore (C : ex_Fix p l e R s m args c dC dI ad0 cI cB y d) {i : Nat} {x : Int64} {a : Value} (hg : pl[i]? = some a) (hr : ∀ n, a ≠ .retAddr n) (hk : i + 1 < pl.length) (k : ex_G p l e R s m args below meth c Q dC dI ad0 cI cB K y (code) ((pl.set (i + 1) (.retAddr 0)).set i (.long x)) (st) (w)) : ex_G p l e R s m args below meth c Q dC dI ad0 cI cB K y (.lstore i :: code) (pl) (.long x :: st) (w) := by
  intro ad pc H locs ls hA hok hP hS hL
  obtain ⟨hx, hb, hml, hown, hts, hC, hR, hcl⟩ := C
  obtain ⟨j, len, hd, hi, ho⟩ := ex_ok_cons rfl hok
  have hi : ((decide (j = .lstore i) && len == 2) || (if h : i < 4 then decide (j = .lstore_n ⟨i, h⟩) && len == 1 else false)) = true := hi
  have hn : i + 1 < ex_L y := by rw [← hL.1]; exact hk
  rcases Bool.or_eq_true _ _ ▸ hi with hi | hi
  · simp only [Bool.and_eq_true, decide_eq_true_eq, beq_iff_eq] at hi
    obtain ⟨rfl, rfl⟩ := hi
    exact lv_lstore hx hb hd hL.2.1 hn rfl (fun ls' h' => k ad _ H locs ls' hA ho hP hS (hL.set2 hg hr hk h'))
  · by_cases h4 : i < 4
    · rw [dif_pos h4] at hi
      simp only [Bool.and_eq_true, decide_eq_true_eq, beq_iff_eq] at hi
      obtain ⟨rfl, rfl⟩ := hi
      exact lv_lstore_n hx hb hd rfl hL.2.1 hn rfl (fun ls' h' => k ad _ H locs ls' hA ho hP hS (hL.set2 hg hr hk h'))
    · rw [dif_neg h4] at hi
      cases hi
theorem es_iinc (C : ex_Fix p l e R s m args c dC dI ad0 cI cB y d) {i : Nat} {n : Int} {x : Int32} (hg : pl.getD i .null = .int x) (k : ex_G p l e R s m args below meth c Q dC dI ad0 cI cB K y (code) (pl.set i (.int (x + Int32.ofInt n))) (st) (w)) : ex_G p l e R s m args below meth c Q dC dI ad0 cI cB K y (.iinc i n :: code) (pl) (st) (w) := by
  intro ad pc H locs ls hA hok hP hS hL
  obtain ⟨hx, hb, hml, hown, hts, hC, hR, hcl⟩ := C
  obtain ⟨j, len, hd, hi, ho⟩ := ex_ok_cons rfl hok
  have hi : (decide (j = .iinc i n) && len == 3) = true := hi
  simp only [Bool.and_eq_true, decide_eq_true_eq, beq_iff_eq] at hi
  obtain ⟨rfl, rfl⟩ := hi
  have hg2 := ex_getD hg (by intro q; cases q)
  have hn : i < ex_L y := by rw [← hL.1]; exact (List.getElem?_eq_some_iff.mp hg2).1
  have hm : (i, Value.int x) ∈ ex_asc ad 0 pl := ex_asc_mem.mpr ⟨i, .int x, hg2, rfl, by omega, rfl⟩
  obtain ⟨q, hq⟩ := List.getElem?_of_mem hm
  exact lv_iinc hx hb hd hL.2.1 hq rfl hn rfl (fun ls' h' => k ad _ H locs ls' hA ho hP hS (hL.set1 hg2 (by intro n q; cases q) rfl rfl h'))
theorem es_push (C : ex_Fix p l e R s m args c dC dI ad0 cI cB y d) {n : Int} (k : ex_G p l e R s m args below meth c Q dC dI ad0 cI cB K y (code) (pl) (.int (Int32.ofInt n) :: st) (w)) : ex_G p l e R s m args below meth c Q dC dI ad0 cI cB K y (.sipush n :: code) (pl) (st) (w) := by
  intro ad pc H locs ls hA hok hP hS hL
  obtain ⟨hx, hb, hml, hown, hts, hC, hR, hcl⟩ := C
  obtain ⟨j, len, hd, hi, ho⟩ := ex_ok_cons rfl hok
  unfold ex_okI at hi
  dsimp only at hi
  cases j with
  | iconst a =>
    simp only [Bool.and_eq_true, beq_iff_eq] at hi
    obtain ⟨rfl, rfl⟩ := hi
    exact lv_iconst hx hb hd rfl (k ad _ H locs ls hA ho hP hS hL)
  | bipush a =>
    simp only [Bool.and_eq_true, beq_iff_eq] at hi
    obtain ⟨⟨rfl, rfl⟩, h3⟩ := hi
    exact lv_bipush hx hb hd h3 (k ad _ H locs ls hA ho hP hS hL)
  | sipush a =>
    simp only [Bool.and_eq_true, beq_iff_eq] at hi
    obtain ⟨⟨rfl, rfl⟩, h3⟩ := hi
    exact lv_sipush hx hb hd h3 (k ad _ H locs ls hA ho hP hS hL)
  | ldc a =>
    simp only [Bool.and_eq_true, beq_iff_eq] at hi
    obtain ⟨h3, rfl⟩ := hi
    have hq := kq_K hcl _ (ex_lk h3)
    exact lv_ldc hx hb hown (hts _ hq) hd (k ad _ H locs ls hA ho hP hS hL)
  | _ => cases hi
theorem es_lpush (C : ex_Fix p l e R s m args c dC dI ad0 cI cB y d) {n : Int} (k : ex_G p l e R s m args below meth c Q dC dI ad0 cI cB K y (code) (pl) (.long (Int64.ofInt n) :: st) (w)) : ex_G p l e R s m args below meth c Q dC dI ad0 cI cB K y (.goto_w n :: code) (pl) (st) (w) := by
  intro ad pc H locs ls hA hok hP hS hL
  obtain ⟨hx, hb, hml, hown, hts, hC, hR, hcl⟩ := C
  obtain ⟨j, len, hd, hi, ho⟩ := ex_ok_cons rfl hok
  unfold ex_okI at hi
  dsimp only at hi
  cases j with
  | ldc2_w a =>
    simp only [Bool.and_eq_true, beq_iff_eq] at hi
    obtain ⟨h3, rfl⟩ := hi
    have hq := kq_L hcl _ (ex_lk h3)
    exact lv_ldc2 hx hb hown (hts _ hq) hd (k ad _ H locs ls hA ho hP hS hL)
  | _ => cases hi
theorem es_jsr (C : ex_Fix p l e R s m args c dC dI ad0 cI cB y d) {L : Int} (k : ex_G p l e R s m args below meth c Q dC dI ad0 cI cB K y (ex_blk y L.toNat) (pl) (st) (w)) : ex_G p l e R s m args below meth c Q dC dI ad0 cI cB K y (.jsr L :: code) (pl) (st) (w) := by
  intro ad pc H locs ls hA hok hP hS hL
  obtain ⟨hx, hb, hml, hown, hts, hC, hR, hcl⟩ := C
  have hL2 := ex_ok_jsr hok
  have : L.toNat = pc := by omega
  exact k ad pc H locs ls hA (by rw [this]; exact ex_ok_blk y pc) hP hS hL
theorem es_goto (C : ex_Fix p l e R s m args c dC dI ad0 cI cB y d) {L : Int} (k : ex_G p l e R s m args below meth c Q dC dI ad0 cI cB K y (ex_blk y L.toNat) (pl) (st) (w)) : ex_G p l e R s m args below meth c Q dC dI ad0 cI cB K y (.goto L :: code) (pl) (st) (w) := by
  intro ad pc H locs ls hA hok hP hS hL
  obtain ⟨hx, hb, hml, hown, hts, hC, hR, hcl⟩ := C
  obtain ⟨j, len, hd, hi, ho⟩ := ex_ok_cons rfl hok
  unfold ex_okI at hi
  dsimp only at hi
  cases j with
  | goto off =>
    obtain ⟨h1, rfl⟩ := ex_okJ_spec hi
    exact lv_goto hx hb hd h1 (k ad _ H locs ls hA (ex_ok_blk y _) hP hS hL)
  | _ => cases hi
theorem es_icmp_eq (C : ex_Fix p l e R s m args c dC dI ad0 cI cB y d) {a b : Int32} {L : Int} (kt : a = b → ex_G p l e R s m args below meth c Q dC dI ad0 cI cB K y (ex_blk y L.toNat) (pl) (st) (w)) (kf : ¬ a = b → ex_G p l e R s m args below meth c Q dC dI ad0 cI cB K y (code) (pl) (st) (w)) : ex_G p l e R s m args below meth c Q dC dI ad0 cI cB K y (.if_icmp .eq L :: code) (pl) (.int b :: .int a :: st) (w) := by
  intro ad pc H locs ls hA hok hP hS hL
  obtain ⟨hx, hb, hml, hown, hts, hC, hR, hcl⟩ := C
  obtain ⟨j, len, hd, hi, ho⟩ := ex_ok_cons rfl hok
  unfold ex_okI at hi
  dsimp only at hi
  cases j with
  | if_icmp ce off =>
    simp only [Bool.and_eq_true, decide_eq_true_eq] at hi
    obtain ⟨rfl, h3⟩ := hi
    obtain ⟨h1, rfl⟩ := ex_okJ_spec h3
    exact lv_icmp_eq hx hb hd h1 (fun q => kt q ad _ H locs ls hA (ex_ok_blk y _) hP hS hL) (fun q => kf q ad _ H locs ls hA ho hP hS hL)
  | _ => cases hi
theorem es_if_eq (C : ex_Fix p l e R s m args c dC dI ad0 cI cB y d) {a : Int32} {L : Int} (kt : a = 0 → ex_G p l e R s m args below meth c Q dC dI ad0 cI cB K y (ex_blk y L.toNat) (pl) (st) (w)) (kf : ¬ a = 0 → ex_G p l e R s m args below meth c Q dC dI ad0 cI cB K y (code) (pl) (st) (w)) : ex_G p l e R s m args below meth c Q dC dI ad0 cI cB K y (.ifCond .eq L :: code) (pl) (.int a :: st) (w) := by
  intro ad pc H locs ls hA hok hP hS hL
  obtain ⟨hx, hb, hml, hown, hts, hC, hR, hcl⟩ := C
  obtain ⟨j, len, hd, hi, ho⟩ := ex_ok_cons rfl hok
  unfold ex_okI at hi
  dsimp only at hi
  cases j with
  | ifCond ce off =>
    simp only [Bool.and_eq_true, decide_eq_true_eq] at hi
    obtain ⟨rfl, h3⟩ := hi
    obtain ⟨h1, rfl⟩ := ex_okJ_spec h3
    exact lv_if_eq hx hb hd h1 (fun q => kt q ad _ H locs ls hA (ex_ok_blk y _) hP hS hL) (fun q => kf q ad _ H locs ls hA ho hP hS hL)
  | _ => cases hi
theorem es_icmp_ne (C : ex_Fix p l e R s m args c dC dI ad0 cI cB y d) {a b : Int32} {L : Int} (kt : ¬ a = b → ex_G p l e R s m args below meth c Q dC dI ad0 cI cB K y (ex_blk y L.toNat) (pl) (st) (w)) (kf : a = b → ex_G p l e R s m args below meth c Q dC dI ad0 cI cB K y (code) (pl) (st) (w)) : ex_G p l e R s m args below meth c Q dC dI ad0 cI cB K y (.if_icmp .ne L :: code) (pl) (.int b :: .int a :: st) (w) := by
  intro ad pc H locs ls hA hok hP hS hL
  obtain ⟨hx, hb, hml, hown, hts, hC, hR, hcl⟩ := C
  obtain ⟨j, len, hd, hi, ho⟩ := ex_ok_cons rfl hok
  unfold ex_okI at hi
  dsimp only at hi
  cases j with
  | if_icmp ce off =>
    simp only [Bool.and_eq_true, decide_eq_true_eq] at hi
    obtain ⟨rfl, h3⟩ := hi
    obtain ⟨h1, rfl⟩ := ex_okJ_spec h3
    exact lv_icmp_ne hx hb hd h1 (fun q => kt q ad _ H locs ls hA (ex_ok_blk y _) hP hS hL) (fun q => kf q ad _ H locs ls hA ho hP hS hL)
  | _ => cases hi
theorem es_if_ne (C : ex_Fix p l e R s m args c dC dI ad0 cI cB y d) {a : Int32} {L : Int} (kt : ¬ a = 0 → ex_G p l e R s m args below meth c Q dC dI ad0 cI cB K y (ex_blk y L.toNat) (pl) (st) (w)) (kf : a = 0 → ex_G p l e R s m args below meth c Q dC dI ad0 cI cB K y (code) (pl) (st) (w)) : ex_G p l e R s m args below meth c Q dC dI ad0 cI cB K y (.ifCond .ne L :: code) (pl) (.int a :: st) (w) := by
  intro ad pc H locs ls hA hok hP hS hL
  obtain ⟨hx, hb, hml, hown, hts, hC, hR, hcl⟩ := C
  obtain ⟨j, len, hd, hi, ho⟩ := ex_ok_cons rfl hok
  unfold ex_okI at hi
  dsimp only at hi
  cases j with
  | ifCond ce off =>
    simp only [Bool.and_eq_true, decide_eq_true_eq] at hi
    obtain ⟨rfl, h3⟩ := hi
    obtain ⟨h1, rfl⟩ := ex_okJ_spec h3
    exact lv_if_ne hx hb hd h1 (fun q => kt q ad _ H locs ls hA (ex_ok_blk y _) hP hS hL) (fun q => kf q ad _ H locs ls hA ho hP hS hL)
  | _ => cases hi
theorem es_icmp_lt (C : ex_Fix p l e R s m args c dC dI ad0 cI cB y d) {a b : Int32} {L : Int} (kt : a < b → ex_G p l e R s m args below meth c Q dC dI ad0 cI cB K y (ex_blk y L.toNat) (pl) (st) (w)) (kf : ¬ a < b → ex_G p l e R s m args below meth c Q dC dI ad0 cI cB K y (code) (pl) (st) (w)) : ex_G p l e R s m args below meth c Q dC dI ad0 cI cB K y (.if_icmp .lt L :: code) (pl) (.int b :: .int a :: st) (w) := by
  intro ad pc H locs ls hA hok hP hS hL
  obtain ⟨hx, hb, hml, hown, hts, hC, hR, hcl⟩ := C
  obtain ⟨j, len, hd, hi, ho⟩ := ex_ok_cons rfl hok
  unfold ex_okI at hi
  dsimp only at hi
  cases j with
  | if_icmp ce off =>
    simp only [Bool.and_eq_true, decide_eq_true_eq] at hi
    obtain ⟨rfl, h3⟩ := hi
    obtain ⟨h1, rfl⟩ := ex_okJ_spec h3
    exact lv_icmp_lt hx hb hd h1 (fun q => kt q ad _ H locs ls hA (ex_ok_blk y _) hP hS hL) (fun q => kf q ad _ H locs ls hA ho hP hS hL)
  | _ => cases hi
theorem es_if_lt (C : ex_Fix p l e R s m args c dC dI ad0 cI cB y d) {a : Int32} {L : Int} (kt : a < 0 → ex_G p l e R s m args below meth c Q dC dI ad0 cI cB K y (ex_blk y L.toNat) (pl) (st) (w)) (kf : ¬ a < 0 → ex_G p l e R s m args below meth c Q dC dI ad0 cI cB K y (code) (pl) (st) (w)) : ex_G p l e R s m args below meth c Q dC dI ad0 cI cB K y (.ifCond .lt L :: code) (pl) (.int a :: st) (w) := by
  intro ad pc H locs ls hA hok hP hS hL
  obtain ⟨hx, hb, hml, hown, hts, hC, hR, hcl⟩ := C
  obtain ⟨j, len, hd, hi, ho⟩ := ex_ok_cons rfl hok
  unfold ex_okI at hi
  dsimp only at hi
  cases j with
  | ifCond ce off =>
    simp only [Bool.and_eq_true, decide_eq_true_eq] at hi
    obtain ⟨rfl, h3⟩ := hi
    obtain ⟨h1, rfl⟩ := ex_okJ_spec h3
    exact lv_if_lt hx hb hd h1 (fun q => kt q ad _ H locs ls hA (ex_ok_blk y _) hP hS hL) (fun q => kf q ad _ H locs ls hA ho hP hS hL)
  | _ => cases hi
theorem es_icmp_ge (C : ex_Fix p l e R s m args c dC dI ad0 cI cB y d) {a b : Int32} {L : Int} (kt : b ≤ a → ex_G p l e R s m args below meth c Q dC dI ad0 cI cB K y (ex_blk y L.toNat) (pl) (st) (w)) (kf : ¬ b ≤ a → ex_G p l e R s m args below meth c Q dC dI ad0 cI cB K y (code) (pl) (st) (w)) : ex_G p l e R s m args below meth c Q dC dI ad0 cI cB K y (.if_icmp .ge L :: code) (pl) (.int b :: .int a :: st) (w) := by
  intro ad pc H locs ls hA hok hP hS hL
  obtain ⟨hx, hb, hml, hown, hts, hC, hR, hcl⟩ := C
  obtain ⟨j, len, hd, hi, ho⟩ := ex_ok_cons rfl hok
  unfold ex_okI at hi
  dsimp only at hi
  cases j with
  | if_icmp ce off =>
    simp only [Bool.and_eq_true, decide_eq_true_eq] at hi
    obtain ⟨rfl, h3⟩ := hi
    obtain ⟨h1, rfl⟩ := ex_okJ_spec h3
    exact lv_icmp_ge hx hb hd h1 (fun q => kt q ad _ H locs ls hA (ex_ok_blk y _) hP hS hL) (fun q => kf q ad _ H locs ls hA ho hP hS hL)
  | _ => cases hi
theorem es_if_ge (C : ex_Fix p l e R s m args c dC dI ad0 cI cB y d) {a : Int32} {L : Int} (kt : 0 ≤ a → ex_G p l e R s m args below meth c Q dC dI ad0 cI cB K y (ex_blk y L.toNat) (pl) (st) (w)) (kf : ¬ 0 ≤ a → ex_G p l e R s m args below meth c Q dC dI ad0 cI cB K y (code) (pl) (st) (w)) : ex_G p l e R s m args below meth c Q dC dI ad0 cI cB K y (.ifCond .ge L :: code) (pl) (.int a :: st) (w) := by
  intro ad pc H locs ls hA hok hP hS hL
  obtain ⟨hx, hb, hml, hown, hts, hC, hR, hcl⟩ := C
  obtain ⟨j, len, hd, hi, ho⟩ := ex_ok_cons rfl hok
  unfold ex_okI at hi
  dsimp only at hi
  cases j with
  | ifCond ce off =>
    simp only [Bool.and_eq_true, decide_eq_true_eq] at hi
    obtain ⟨rfl, h3⟩ := hi
    obtain ⟨h1, rfl⟩ := ex_okJ_spec h3
    exact lv_if_ge hx hb hd h1 (fun q => kt q ad _ H locs ls hA (ex_ok_blk y _) hP hS hL) (fun q => kf q ad _ H locs ls hA ho hP hS hL)
  | _ => cases hi
theorem es_icmp_gt (C : ex_Fix p l e R s m args c dC dI ad0 cI cB y d) {a b : Int32} {L : Int} (kt : b < a → ex_G p l e R s m args below meth c Q dC dI ad0 cI cB K y (ex_blk y L.toNat) (pl) (st) (w)) (kf : ¬ b < a → ex_G p l e R s m args below meth c Q dC dI ad0 cI cB K y (code) (pl) (st) (w)) : ex_G p l e R s m args below meth c Q dC dI ad0 cI cB K y (.if_icmp .gt L :: code) (pl) (.int b :: .int a :: st) (w) := by
  intro ad pc H locs ls hA hok hP hS hL
  obtain ⟨hx, hb, hml, hown, hts, hC, hR, hcl⟩ := C
  obtain ⟨j, len, hd, hi, ho⟩ := ex_ok_cons rfl hok
  unfold ex_okI at hi
  dsimp only at hi
  cases j with
  | if_icmp ce off =>
    simp only [Bool.and_eq_true, decide_eq_true_eq] at hi
    obtain ⟨rfl, h3⟩ := hi
    obtain ⟨h1, rfl⟩ := ex_okJ_spec h3
    exact lv_icmp_gt hx hb hd h1 (fun q => kt q ad _ H locs ls hA (ex_ok_blk y _) hP hS hL) (fun q => kf q ad _ H locs ls hA ho hP hS hL)
  | _ => cases hi
theorem es_if_gt (C : ex_Fix p l e R s m args c dC dI ad0 cI cB y d) {a : Int32} {L : Int} (kt : 0 < a → ex_G p l e R s m args below meth c Q dC dI ad0 cI cB K y (ex_blk y L.toNat) (pl) (st) (w)) (kf : ¬ 0 < a → ex_G p l e R s m args below meth c Q dC dI ad0 cI cB K y (code) (pl) (st) (w)) : ex_G p l e R s m args below meth c Q dC dI ad0 cI cB K y (.ifCond .gt L :: code) (pl) (.int a :: st) (w) := by
  intro ad pc H locs ls hA hok hP hS hL
  obtain ⟨hx, hb, hml, hown, hts, hC, hR, hcl⟩ := C
  obtain ⟨j, len, hd, hi, ho⟩ := ex_ok_cons rfl hok
  unfold ex_okI at hi
  dsimp only at hi
  cases j with
  | ifCond ce off =>
    simp only [Bool.and_eq_true, decide_eq_true_eq] at hi
    obtain ⟨rfl, h3⟩ := hi
    obtain ⟨h1, rfl⟩ := ex_okJ_spec h3
    exact lv_if_gt hx hb hd h1 (fun q => kt q ad _ H locs ls hA (ex_ok_blk y _) hP hS hL) (fun q => kf q ad _ H locs ls hA ho hP hS hL)
  | _ => cases hi
theorem es_icmp_le (C : ex_Fix p l e R s m args c dC dI ad0 cI cB y d) {a b : Int32} {L : Int} (kt : a ≤ b → ex_G p l e R s m args below meth c Q dC dI ad0 cI cB K y (ex_blk y L.toNat) (pl) (st) (w)) (kf : ¬ a ≤ b → ex_G p l e R s m args below meth c Q dC dI ad0 cI cB K y (code) (pl) (st) (w)) : ex_G p l e R s m args below meth c Q dC dI ad0 cI cB K y (.if_icmp .le L :: code) (pl) (.int b :: .int a :: st) (w) := by
  intro ad pc H locs ls hA hok hP hS hL
  obtain ⟨hx, hb, hml, hown, hts, hC, hR, hcl⟩ := C
  obtain ⟨j, len, hd, hi, ho⟩ := ex_ok_cons rfl hok
  unfold ex_okI at hi
  dsimp only at hi
  cases j with
  | if_icmp ce off =>
    simp only [Bool.and_eq_true, decide_eq_true_eq] at hi
    obtain ⟨rfl, h3⟩ := hi
    obtain ⟨h1, rfl⟩ := ex_okJ_spec h3
    exact lv_icmp_le hx hb hd h1 (fun q => kt q ad _ H locs ls hA (ex_ok_blk y _) hP hS hL) (fun q => kf q ad _ H locs ls hA ho hP hS hL)
  | _ => cases hi
theorem es_if_le (C : ex_Fix p l e R s m args c dC dI ad0 cI cB y d) {a : Int32} {L : Int} (kt : a ≤ 0 → ex_G p l e R s m args below meth c Q dC dI ad0 cI cB K y (ex_blk y L.toNat) (pl) (st) (w)) (kf : ¬ a ≤ 0 → ex_G p l e R s m args below meth c Q dC dI ad0 cI cB K y (code) (pl) (st) (w)) : ex_G p l e R s m args below meth c Q dC dI ad0 cI cB K y (.ifCond .le L :: code) (pl) (.int a :: st) (w) := by
  intro ad pc H locs ls hA hok hP hS hL
  obtain ⟨hx, hb, hml, hown, hts, hC, hR, hcl⟩ := C
  obtain ⟨j, len, hd, hi, ho⟩ := ex_ok_cons rfl hok
  unfold ex_okI at hi
  dsimp only at hi
  cases j with
  | ifCond ce off =>
    simp only [Bool.and_eq_true, decide_eq_true_eq] at hi
    obtain ⟨rfl, h3⟩ := hi
    obtain ⟨h1, rfl⟩ := ex_okJ_spec h3
    exact lv_if_le hx hb hd h1 (fun q => kt q ad _ H locs ls hA (ex_ok_blk y _) hP hS hL) (fun q => kf q ad _ H locs ls hA ho hP hS hL)
  | _ => cases hi
end ES
