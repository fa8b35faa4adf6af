/-! THE PURE MACHINE: integers alone are symbolic; references are numbers of objects (ex_Sh); an array of the law that is made takes its own number anew (ex_dy); w.2: arrays made so far, the script. -/
abbrev PW : Type := (Nat → Nat → Int32) × (Nat × Nat × (Nat → Int32))
abbrev ES : Type := List Instr × List Value × List Value × PW
abbrev ER : Type := Option Value × PW
def ex_up (w : PW) (o k : Nat) (x : Int32) : PW := (fun a b => if a = o ∧ b = k then x else w.1 a b, w.2)
def ex_fk (o e : Nat) : Option Nat := match ex_Sh[o]? with
  | some q => if q.1 = e / 64 then q.2[e % 64]? else none
  | none => none
def ex_cls (o : Nat) : Nat := match ex_Sh[o]? with
  | some q => q.1
  | none => 99
def ex_len (o : Nat) : Nat := match ex_Sh[o]? with
  | some q => q.2.headD 0
  | none => 0
def ex_dsp (x c : Nat) : Option Nat := (ex_D.getD x []).lookup c
def ex_mi (y : Nat) : MethodName × ByteArray × Nat × Option FieldType × Nat := ex_M.getD y (⟨"", "", ""⟩, ⟨#[]⟩, 0, none, 99)
def ex_Y (y : Nat) : MethodName := (ex_mi y).1
def ex_B (y : Nat) : ByteArray := (ex_mi y).2.1
def ex_L (y : Nat) : Nat := (ex_mi y).2.2.1
def ex_ret (y : Nat) : Option FieldType := (ex_mi y).2.2.2.1
def ex_C (y : Nat) : Nat := (ex_mi y).2.2.2.2
def ex_blk (y : Nat) (L : Nat) : List Instr := ((ex_bs.getD y []).lookup L).getD []
def ex_spl : Nat → List Value → List Value → Option (List Value × List Value)
  | 0, as, st => some (as, st)
  | _ + 1, _, [] => none
  | n + 1, as, v :: st => ex_spl n (v :: as) st
def ex_i1 (v : Value) : Bool := match v with
  | .int _ => true
  | _ => false
def ex_low : List Value → Bool
  | [] => true
  | [_] => true
  | [_, _] => true
  | [_, _, _] => true
  | [_, _, _, _] => true
  | [a, b, c, f, _] => ex_i1 a && (ex_i1 b && (ex_i1 c && ex_i1 f))
  | _ => false
def ex_down (j : Nat) : Int32 := if j = 0 then -1 else if j = 2 then 1 else 0
def ex_right (j : Nat) : Int32 := if j = 1 then 1 else if j = 3 then -1 else 0
/-- an int array's element (1000, 1001: the two static ones) -/
def ex_ald (w : PW) (o : Nat) (i : Int32) : Option Int32 :=
  if o = 1000 then (if i < 0 ∨ 4 ≤ i.toNatClampNeg then none else some (ex_down i.toNatClampNeg))
  else if o = 1001 then (if i < 0 ∨ 4 ≤ i.toNatClampNeg then none else some (ex_right i.toNatClampNeg))
  else if o = 2000 then (if i < 0 ∨ w.2.2.1 ≤ i.toNatClampNeg then none else some (w.2.2.2 i.toNatClampNeg))
  else if ex_cls o = 12 then (if i < 0 ∨ ex_len o ≤ i.toNatClampNeg then none else some (w.1 o i.toNatClampNeg)) else none
/-- the arrays that a method makes -/
def ex_dy (y o : Nat) : Bool := (o == 51 && (y == 101 || y == 102)) || ((o == 50 || o == 51 || o == 52) && y == 104)
def ex_al (y : Nat) : Bool := y == 101 || y == 102
def ex_n51 (v : Value) : Bool := match v with
  | .ref o => o != 51 && o != 2500
  | _ => true
/-- what a static call asks: who makes an array anew is called where it is not at hand -/
def ex_cg (z : Nat) (pl r : List Value) : Bool := !ex_al z || (pl.all ex_n51 && r.all ex_n51)
/-- what stands in the code: who calls whom -/
def ex_cy (y z : Nat) : Bool := (!ex_al z || ex_dy y 51) && (decide (ex_L z ≤ 14) || y == 104)
def ex_scr (o : Nat) (v : Value) : Value := match v with
  | .ref a => if a = o ∨ a = 2500 then .null else .ref a
  | v => v
def ex_zr (w : PW) (o : Nat) : PW := (fun a b => if a = o then 0 else w.1 a b, w.2.1 + 1, w.2.2)
def ex_lks : List (Int × Int) → Int → Int → Int
  | [], d, _ => d
  | q :: r, d, x => if x = q.1 then q.2 else ex_lks r d x
def ex_go (c : List Instr) (pl st : List Value) (w : PW) : Option (ER ⊕ ES) := some (.inr (c, pl, st, w))
def ex_ii (f : Int32 → Int32 → Int32) (c : List Instr) (pl st : List Value) (w : PW) : Option (ER ⊕ ES) := match st with
  | .int y :: .int x :: r => ex_go c pl (.int (f x y) :: r) w
  | _ => none
def ex_ll (f : Int64 → Int64 → Int64) (c : List Instr) (pl st : List Value) (w : PW) : Option (ER ⊕ ES) := match st with
  | .long y :: .long x :: r => ex_go c pl (.long (f x y) :: r) w
  | _ => none
def ex_lis (f : Int64 → Int32 → Int64) (c : List Instr) (pl st : List Value) (w : PW) : Option (ER ⊕ ES) := match st with
  | .int y :: .long x :: r => ex_go c pl (.long (f x y) :: r) w
  | _ => none
def ex_store (k : Nat) (v : Value) (c : List Instr) (pl r : List Value) (w : PW) : Option (ER ⊕ ES) := match pl.getD k (.retAddr 0) with
  | .retAddr _ => none
  | _ => ex_go c (pl.set k v) r w
def ex_cnd (c : ClassFile.Cond) (x y : Int32) : Prop := match c with
  | .eq => x = y
  | .ne => ¬ x = y
  | .lt => x < y
  | .ge => y ≤ x
  | .gt => y < x
  | .le => x ≤ y
noncomputable def ex_dec (P : Prop) : Decidable P := Classical.propDecidable P
def ex_cnb (c : ClassFile.Cond) (x y : Int32) : Bool := match c with
  | .eq => decide (x = y)
  | .ne => decide (¬ x = y)
  | .lt => decide (x < y)
  | .ge => decide (y ≤ x)
  | .gt => decide (y < x)
  | .le => decide (x ≤ y)
def ex_back (r : Option ER) (c : List Instr) (pl st : List Value) : Option (ER ⊕ ES) := match r with
  | some (v, w) => ex_go c pl (v.toList ++ st) w
  | none => none
def ex_call (cal : Nat → List Value → PW → Option ER) (y n : Nat) (c : List Instr) (pl st : List Value) (w : PW) : Option (ER ⊕ ES) := match ex_spl n [] st with
  | some (as, r) => if (ex_cg y pl r && ex_low r) = true then ex_back (cal y as w) c pl r else none
  | none => none
def ex_callv (cal : Nat → List Value → PW → Option ER) (y n : Nat) (c : List Instr) (pl st : List Value) (w : PW) : Option (ER ⊕ ES) := match ex_spl n [] st with
  | some (as, r) => match as with
    | .ref _ :: _ => if ex_low r then ex_back (cal y as w) c pl r else none
    | _ => none
  | none => none
def ex_vcall (cal : Nat → List Value → PW → Option ER) (x n : Nat) (c : List Instr) (pl st : List Value) (w : PW) : Option (ER ⊕ ES) := match ex_spl (n + 1) [] st with
  | some (as, r) => match as with
    | .ref o :: _ => match ex_dsp x (ex_cls o) with
      | some y => if ex_low r then ex_back (cal y as w) c pl r else none
      | none => none
    | _ => none
  | none => none
def ex_gf (e : Nat) (c : List Instr) (pl st : List Value) (w : PW) : Option (ER ⊕ ES) := match st with
  | .ref o :: r => match ex_fk o e with
    | some 0 => ex_go c pl (.int (w.1 o (e % 64)) :: r) w
    | some 1 => none
    | some 2 => ex_go c pl (.int (w.1 o (e % 64)) :: r) w
    | some (n + 3) => ex_go c pl (.ref n :: r) w
    | none => none
  | _ => none
def ex_pf (e : Nat) (c : List Instr) (pl st : List Value) (w : PW) : Option (ER ⊕ ES) := match st with
  | .int x :: .ref o :: r => match ex_fk o e with
    | some 0 => ex_go c pl r (ex_up w o (e % 64) x)
    | some 2 => if x = 0 ∨ x = 1 then ex_go c pl r (ex_up w o (e % 64) x) else none
    | _ => none
  | _ => none
def ex_nx (d : Nat) (cal : Nat → List Value → PW → Option ER) (y : Nat) : ES → Option (ER ⊕ ES) := fun s => match s with
  | ([], _) => none
  | (i :: c, pl, st, w) => match i with
    | .iload k => (match pl.getD k .null with | .int x => ex_go c pl (.int x :: st) w | _ => none)
    | .aload k => (match pl.getD k .null with | .ref x => ex_go c pl (.ref x :: st) w | _ => none)
    | .lload k => (match pl.getD k .null with | .long x => ex_go c pl (.long x :: st) w | _ => none)
    | .istore k => (match st with | .int x :: r => ex_store k (.int x) c pl r w | _ => none)
    | .astore k => (match st with | .ref x :: r => ex_store k (.ref x) c pl r w | _ => none)
    | .lstore k => (match st with | .long x :: r => if k + 1 < pl.length then ex_store k (.long x) c (pl.set (k + 1) (.retAddr 0)) r w else none | _ => none)
    | .iinc k n => (match pl.getD k .null with | .int x => ex_go c (pl.set k (.int (x + Int32.ofInt n))) st w | _ => none)
    | .sipush n => ex_go c pl (.int (Int32.ofInt n) :: st) w
    | .goto_w n => ex_go c pl (.long (Int64.ofInt n) :: st) w
    | .iadd => ex_ii (fun x y => x + y) c pl st w
    | .isub => ex_ii (fun x y => x - y) c pl st w
    | .imul => ex_ii (fun x y => x * y) c pl st w
    | .iand => ex_ii (fun x y => x &&& y) c pl st w
    | .ior => ex_ii (fun x y => x ||| y) c pl st w
    | .ixor => ex_ii (fun x y => x ^^^ y) c pl st w
    | .ishl => ex_ii (fun x y => x <<< (y &&& 31)) c pl st w
    | .ishr => ex_ii (fun x y => x >>> (y &&& 31)) c pl st w
    | .idiv => (match st with | .int y :: .int x :: r => if y = 0 then none else ex_go c pl (.int (x / y) :: r) w | _ => none)
    | .irem => (match st with | .int y :: .int x :: r => if y = 0 then none else ex_go c pl (.int (x - x / y * y) :: r) w | _ => none)
    | .ladd => ex_ll (fun x y => x + y) c pl st w
    | .lmul => ex_ll (fun x y => x * y) c pl st w
    | .land => ex_ll (fun x y => x &&& y) c pl st w
    | .lshr => ex_lis (fun x y => x >>> (y.toInt64 &&& 63)) c pl st w
    | .lushr => ex_lis (fun x y => (x.toUInt64 >>> (y.toInt64.toUInt64 &&& Int64.toUInt64 63)).toInt64) c pl st w
    | .i2l => (match st with | .int x :: r => ex_go c pl (.long x.toInt64 :: r) w | _ => none)
    | .l2i => (match st with | .long x :: r => ex_go c pl (.int x.toInt32 :: r) w | _ => none)
    | .i2b => (match st with | .int x :: r => ex_go c pl (.int x.toInt8.toInt32 :: r) w | _ => none)
    | .dup => (match st with | .ref x :: r => ex_go c pl (.ref x :: .ref x :: r) w | .int x :: r => ex_go c pl (.int x :: .int x :: r) w | _ => none)
    | .dup2 => (match st with | .int x :: .ref o :: r => ex_go c pl (.int x :: .ref o :: .int x :: .ref o :: r) w | _ => none)
    | .pop => (match st with | .int _ :: r => ex_go c pl r w | _ => none)
    | .goto L => ex_go (ex_blk y L.toNat) pl st w
    | .jsr L => ex_go (ex_blk y L.toNat) pl st w
    | .if_icmp cd L => (match st with | .int b :: .int a :: r => if ex_cnb cd a b = true then ex_go (ex_blk y L.toNat) pl r w else ex_go c pl r w | _ => none)
    | .ifCond cd L => (match st with | .int a :: r => if ex_cnb cd a 0 = true then ex_go (ex_blk y L.toNat) pl r w else ex_go c pl r w | _ => none)
    | .tableswitch df lo hi offs => (match st with | .int a :: r => if a.toInt < lo ∨ hi < a.toInt then ex_go (ex_blk y df.toNat) pl r w else ex_go (ex_blk y ((offs.toList.getD (a.toInt - lo).toNat 0).toNat)) pl r w | _ => none)
    | .lookupswitch df ps => (match st with | .int a :: r => ex_go (ex_blk y (ex_lks ps.toList df a.toInt).toNat) pl r w | _ => none)
    | .getfield e => ex_gf e c pl st w
    | .putfield e => ex_pf e c pl st w
    | .getstatic o => if o = 1000 ∨ o = 1001 then ex_go c pl (.ref o :: st) w else none
    | .iaload => (match st with | .int i :: .ref o :: r => (match ex_ald w o i with | some x => ex_go c pl (.int x :: r) w | none => none) | _ => none)
    | .baload => (match st with | .int i :: .ref o :: r => if ex_cls o = 13 ∧ ¬ (i < 0 ∨ ex_len o ≤ i.toNatClampNeg) then ex_go c pl (.int (w.1 o i.toNatClampNeg) :: r) w else none | _ => none)
    | .iastore => (match st with | .int x :: .int i :: .ref o :: r => if ex_cls o = 12 ∧ ¬ (i < 0 ∨ ex_len o ≤ i.toNatClampNeg) then ex_go c pl r (ex_up w o i.toNatClampNeg x) else none | _ => none)
    | .bastore => (match st with | .int x :: .int i :: .ref o :: r => if ex_cls o = 13 ∧ ¬ (i < 0 ∨ ex_len o ≤ i.toNatClampNeg) then ex_go c pl r (ex_up w o i.toNatClampNeg x.toInt8.toInt32) else none | _ => none)
    | .arraylength => (match st with | .ref o :: r => if o = 2000 then ex_go c pl (.int (Int32.ofNat w.2.2.1) :: r) w else none | _ => none)
    | .anewarray o => (match st with | [.int n] => if n = Int32.ofNat (ex_len o) ∧ ex_dy y o = true then ex_go c (pl.map (ex_scr o)) [.ref o] (ex_zr w o) else none | _ => none)
    | .invokestatic e => ex_call cal (e / 16) (e % 16) c pl st w
    | .invokevirtual e => ex_callv cal (e / 16) (e % 16 + 1) c pl st w
    | .invokeinterface x n => ex_vcall cal x n c pl st w
    | .ireturn => (match st with | [.int x] => if ex_ret y = some .int then some (.inl (some (.int x), w)) else none | _ => none)
    | .areturn => (match st with | [.int x] => if x = 0 ∨ x = 1 then (if ex_ret y = some .boolean then some (.inl (some (.int x), w)) else none) else none | _ => none)
    | .lreturn => (match st with | [.long x] => if ex_ret y = some .long then some (.inl (some (.long x), w)) else none | _ => none)
    | .return_ => (match st with | [] => if ex_ret y = none then some (.inl (none, w)) else none | _ => none)
    | _ => none
def ex_run (d : Nat) (cal : Nat → List Value → PW → Option ER) (y : Nat) : Nat → ES → Option ER
  | 0, _ => none
  | n + 1, s => match ex_nx d cal y s with
    | some (.inl r) => some r
    | some (.inr s') => ex_run d cal y n s'
    | none => none
noncomputable def ex_ev (d : Nat) (cal : Nat → List Value → PW → Option ER) (y : Nat) (s : ES) : Option ER :=
  @ite _ (∃ n, ex_run d cal y n s ≠ none) (Classical.propDecidable _) (ex_run d cal y (Classical.epsilon fun n => ex_run d cal y n s ≠ none) s) none
theorem ex_run_succ {d : Nat} {cal : Nat → List Value → PW → Option ER} {y n : Nat} {s : ES} {r : ER} (h : ex_run d cal y n s = some r) : ex_run d cal y (n + 1) s = some r := by
  induction n generalizing s with
  | zero => cases h
  | succ n ih =>
    cases h0 : ex_nx d cal y s with
    | none => rw [ex_run, h0] at h; cases h
    | some q =>
      cases q with
      | inl r0 =>
        rw [ex_run, h0] at h
        rw [ex_run, h0]; exact h
      | inr s' =>
        rw [ex_run, h0] at h
        rw [ex_run, h0]; exact ih h
theorem ex_run_le {d : Nat} {cal : Nat → List Value → PW → Option ER} {y n k : Nat} {s : ES} {r : ER} (h : ex_run d cal y n s = some r) : ex_run d cal y (n + k) s = some r := by
  induction k with
  | zero => exact h
  | succ k ih => exact ex_run_succ ih
theorem ex_run_det {d : Nat} {cal : Nat → List Value → PW → Option ER} {y n k : Nat} {s : ES} {r r' : ER} (h : ex_run d cal y n s = some r) (h' : ex_run d cal y k s = some r') : r = r' := by
  have h1 := ex_run_le (k := k) h
  have h2 := ex_run_le (k := n) h'
  rw [Nat.add_comm] at h2
  rw [h1] at h2
  exact Option.some.inj h2
theorem ex_ev_of {d : Nat} {cal : Nat → List Value → PW → Option ER} {y n : Nat} {s : ES} {r : ER} (h : ex_run d cal y n s = some r) : ex_ev d cal y s = some r := by
  have hx : ∃ n, ex_run d cal y n s ≠ none := ⟨n, by rw [h]; exact fun h => by cases h⟩
  have he := Classical.epsilon_spec hx
  unfold ex_ev
  rw [@if_pos _ (Classical.propDecidable _) hx]
  cases h2 : ex_run d cal y (Classical.epsilon fun n => ex_run d cal y n s ≠ none) s with
  | none => exact absurd h2 he
  | some r' => rw [ex_run_det h h2]
theorem ex_ev_run {d : Nat} {cal : Nat → List Value → PW → Option ER} {y : Nat} {s : ES} {r : ER} (h : ex_ev d cal y s = some r) : ∃ n, ex_run d cal y n s = some r := by
  unfold ex_ev at h
  by_cases hx : ∃ n, ex_run d cal y n s ≠ none
  · rw [@if_pos _ (Classical.propDecidable _) hx] at h
    exact ⟨_, h⟩
  · rw [@if_neg _ (Classical.propDecidable _) hx] at h
    cases h
theorem ex_ev_eq (d : Nat) (cal : Nat → List Value → PW → Option ER) (y : Nat) (s : ES) : ex_ev d cal y s = match ex_nx d cal y s with
    | some (.inl r) => some r
    | some (.inr s') => ex_ev d cal y s'
    | none => none := by
  cases h : ex_nx d cal y s with
  | none =>
    have : ¬ ∃ n, ex_run d cal y n s ≠ none := by
      rintro ⟨n, hn⟩
      cases n with
      | zero => exact hn rfl
      | succ n => rw [ex_run, h] at hn; exact hn rfl
    unfold ex_ev
    rw [@if_neg _ (Classical.propDecidable _) this]
  | some q =>
    cases q with
    | inl r => exact ex_ev_of (n := 1) (by rw [ex_run, h])
    | inr s' =>
      show ex_ev d cal y s = ex_ev d cal y s'
      cases h2 : ex_ev d cal y s' with
      | some r =>
        obtain ⟨n, hn⟩ := ex_ev_run h2
        exact ex_ev_of (n := n + 1) (by rw [ex_run, h]; exact hn)
      | none =>
        cases h3 : ex_ev d cal y s with
        | none => rfl
        | some r =>
          obtain ⟨n, hn⟩ := ex_ev_run h3
          cases n with
          | zero => cases hn
          | succ n =>
            rw [ex_run, h] at hn
            have := ex_ev_of hn
            rw [h2] at this
            cases this
def ex_isv (v : Value) : Bool := match v with
  | .int _ => true
  | .long _ => true
  | .ref _ => true
  | _ => false
def ex_lay : List Value → List Value
  | [] => []
  | .long x :: r => .long x :: .retAddr 0 :: ex_lay r
  | v :: r => v :: ex_lay r
def ex_okR (y : Nat) (as : List Value) : Bool := as.all ex_isv && (decide ((ex_lay as).length ≤ ex_L y) && (match as with
  | .ref o :: _ => ex_C y == 11 || ex_cls o == ex_C y || (ex_C y == 9 && (ex_cls o == 2 || ex_cls o == 4))
  | _ => true))
def ex_ent (y : Nat) (as : List Value) : List Value := ex_lay as ++ List.replicate (ex_L y - (ex_lay as).length) .null
noncomputable def ex_cal : Nat → Nat → List Value → PW → Option ER
  | 0 => fun _ _ _ => none
  | d + 1 => fun y as w => if ex_okR y as then ex_ev d (ex_cal d) y (ex_blk y 0, ex_ent y as, [], w) else none
