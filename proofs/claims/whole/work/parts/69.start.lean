/-! the start of both, and what a call leaves of the other -/
theorem rC_f {A : AS} {w w' : PW} (hC : rC A w) (h : fM w w') : rC A w' := by
  have e : ∀ a k, (a = 0 ∨ a = 1 ∨ a = 2 ∨ (5 ≤ a ∧ a < 15) ∨ (17 ≤ a ∧ a < 38)) → w'.1 a k = w.1 a k := fun a k ha => h a k (by omega)
  have et : ∀ o j m s, (17 ≤ o ∧ o < 37) → rCt A w o j m s → rCt A w' o j m s := fun o j m s ho ht => ⟨by rw [e _ _ (by omega)]; exact ht.1, by rw [e _ _ (by omega)]; exact ht.2.1, fun k k0 k1 => by rw [e _ _ (by omega)]; exact ht.2.2 k k0 k1⟩
  obtain ⟨⟨⟨⟨h511, h512, h513⟩, ⟨hk, hro, hco, hli⟩⟩, ⟨hbe, hah, hbs, hos⟩⟩, hdo, ⟨h010, h011, h09, h11⟩, hpc, ht18, ht21, ht23, ht25, ht27, ht30, ht32, ht34, ht36⟩ := id hC
  refine ⟨⟨⟨⟨?_, ?_, ?_⟩, ⟨fun k k0 k1 => ?_, fun k k0 k1 => ?_, fun k k0 k1 => ?_, fun k k0 k1 => ?_⟩⟩, ⟨fun k v k0 k1 v0 v1 => ?_, fun k v k0 k1 v0 v1 => ?_, fun k v k0 k1 v0 v1 => ?_, fun k v k0 k1 v0 v1 => ?_⟩⟩, fun k k0 k1 => ?_, ⟨?_, ?_, ?_, ?_⟩, fun k k0 k1 => ?_, et _ _ _ _ (by omega) ht18, et _ _ _ _ (by omega) ht21, et _ _ _ _ (by omega) ht23, et _ _ _ _ (by omega) ht25, et _ _ _ _ (by omega) ht27, et _ _ _ _ (by omega) ht30, et _ _ _ _ (by omega) ht32, et _ _ _ _ (by omega) ht34, et _ _ _ _ (by omega) ht36⟩
  all_goals rw [e _ _ (by omega)]
  · exact h511
  · exact h512
  · exact h513
  · exact hk k k0 k1
  · exact hro k k0 k1
  · exact hco k k0 k1
  · exact hli k k0 k1
  · exact hbe k v k0 k1 v0 v1
  · exact hah k v k0 k1 v0 v1
  · exact hbs k v k0 k1 v0 v1
  · exact hos k v k0 k1 v0 v1
  · exact hdo k k0 k1
  · exact h010
  · exact h011
  · exact h09
  · exact h11
  · exact hpc k k0 k1
theorem rM_f {A : AS} {w w' : PW} (hM : rM A w) (h : fC w w') : rM A w' :=
  ⟨rN_g hM.1 (fun k _ => h 46 k (by omega)) (fun a k ha _ => h a k (by omega)), rMk_g hM.2 (fun k _ _ => h 46 k (by omega)) (fun a k ha _ => h a k (by omega))⟩
/-- an answer's kind is what the method's says -/
def ex_An3 (y : Nat) (v : Option Value) : Prop := (ex_ret y = some .int → ∃ x, v = some (.int x)) ∧ (ex_ret y = some .long → ∃ x, v = some (.long x))
def ex_P3 (y : Nat) (q : ER ⊕ ES) : Prop := match q with
  | .inl r => ex_An3 y r.1
  | .inr _ => True
theorem ex_go_3 {w1 : PW} {y : Nat} {c1 : List Instr} {pl st : List Value} {q : ER ⊕ ES} (h : ex_go c1 pl st w1 = some q) : ex_P3 y q := by
  cases h; exact trivial
theorem ex_back_3 {y : Nat} {c : List Instr} {pl st : List Value} {r : Option ER} {q : ER ⊕ ES} (h : ex_back r c pl st = some q) : ex_P3 y q := by
  unfold ex_back at h
  cases r with
  | none => cases h
  | some p =>
    obtain ⟨v, w1⟩ := p
    exact ex_go_3 h
theorem ex_nx_3 {d : Nat} {cal : Nat → List Value → PW → Option ER} {y : Nat} {i : Instr} {c : List Instr} {pl st : List Value} {w : PW} {q : ER ⊕ ES} (h : ex_nx d cal y (i :: c, pl, st, w) = some q) : ex_P3 y q := by
  cases i with
  | invokestatic e =>
    have h : ex_call cal (e / 8) (e % 8) c pl st w = some q := h
    unfold ex_call at h
    cases hs : ex_spl (e % 8) [] st with
    | none => rw [hs] at h; cases h
    | some p =>
      rw [hs] at h
      obtain ⟨as, r⟩ := p
      dsimp only at h
      by_cases hl : ex_low r = true
      · rw [if_pos hl] at h
        exact ex_back_3 h
      · rw [if_neg hl] at h; cases h
  | invokevirtual e =>
    have h : ex_callv cal (e / 8) (e % 8 + 1) c pl st w = some q := h
    unfold ex_callv at h
    cases hs : ex_spl (e % 8 + 1) [] st with
    | none => rw [hs] at h; cases h
    | some p =>
      rw [hs] at h
      obtain ⟨as, r⟩ := p
      dsimp only at h
      match as, h with
      | .ref o :: as, h =>
        dsimp only at h
        by_cases hl : ex_low r = true
        · rw [if_pos hl] at h
          exact ex_back_3 h
        · rw [if_neg hl] at h; cases h
  | invokeinterface x n =>
    have h : ex_vcall cal x n c pl st w = some q := h
    unfold ex_vcall at h
    cases hs : ex_spl (n + 1) [] st with
    | none => rw [hs] at h; cases h
    | some p =>
      rw [hs] at h
      obtain ⟨as, r⟩ := p
      dsimp only at h
      match as, h with
      | .ref o :: as, h =>
        dsimp only at h
        cases hd : ex_dsp x (ex_cls o) with
        | none => rw [hd] at h; cases h
        | some yy =>
          rw [hd] at h
          dsimp only at h
          by_cases hl : ex_low r = true
          · rw [if_pos hl] at h
            exact ex_back_3 h
          · rw [if_neg hl] at h; cases h
  | putfield f =>
    have h : ex_pf f c pl st w = some q := h
    unfold ex_pf at h
    match st, h with
    | .int x :: .ref a :: st, h =>
      dsimp only at h
      cases hk : ex_fk a f with
      | none => rw [hk] at h; cases h
      | some kd =>
        rw [hk] at h
        match kd, hk, h with
        | 0, hk, h => exact ex_go_3 h
        | 1, hk, h => cases h
        | 2, hk, h =>
          by_cases hx : x = 0 ∨ x = 1
          · simp only [if_pos hx] at h
            exact ex_go_3 h
          · simp only [if_neg hx] at h
            cases h
        | n + 3, hk, h => cases h
    | .long x :: .ref a :: st, h =>
      dsimp only at h
      cases hk : ex_fk a f with
      | none => rw [hk] at h; cases h
      | some kd =>
        rw [hk] at h
        match kd, hk, h with
        | 0, hk, h => cases h
        | 1, hk, h => exact ex_go_3 h
        | n + 2, hk, h => cases h
  | invokedynamic k =>
    have h : ex_nat d k c pl st w = some q := h
    unfold ex_nat at h
    by_cases hd : d < 2
    · rw [if_pos hd] at h; cases h
    · rw [if_neg hd] at h
      match k, st, h with
      | 0, .int b :: .int a :: r, h =>
        have h : (if ex_low r = true then ex_go c pl (.int (if a < b then b else a) :: r) w else none) = some q := h
        by_cases hl : ex_low r = true
        · rw [if_pos hl] at h; exact ex_go_3 h
        · rw [if_neg hl] at h; cases h
      | 1, .int b :: .int a :: r, h =>
        have h : (if ex_low r = true then ex_go c pl (.int (if b < a then b else a) :: r) w else none) = some q := h
        by_cases hl : ex_low r = true
        · rw [if_pos hl] at h; exact ex_go_3 h
        · rw [if_neg hl] at h; cases h
      | 2, .int n :: .int dp :: .ref b :: .int sp :: .ref a :: [], h =>
        have h : (if sp = 0 ∧ dp = 0 ∧ ex_cls a = 12 ∧ ex_cls b = 12 ∧ ¬ n < 0 ∧ n.toNatClampNeg ≤ ex_len a ∧ n.toNatClampNeg ≤ ex_len b then ex_go c pl [] (ex_cpy w a b n.toNatClampNeg) else none) = some q := h
        split at h
        · exact ex_go_3 h
        · cases h
  | getfield f =>
    match st, h with
    | .ref a :: st, h =>
      have h : ex_gf f c pl (.ref a :: st) w = some q := h
      unfold ex_gf at h
      dsimp only at h
      cases hk : ex_fk a f with
      | none => rw [hk] at h; cases h
      | some kd =>
        rw [hk] at h
        match kd, hk, h with
        | 0, hk, h => exact ex_go_3 h
        | 1, hk, h => exact ex_go_3 h
        | 2, hk, h => exact ex_go_3 h
        | n + 3, hk, h => exact ex_go_3 h
  | goto L => exact ex_go_3 h
  | jsr L => exact ex_go_3 h
  | if_icmp cd L =>
    match st, h with
    | .int b :: .int a :: st, h =>
      have h : (if ex_cnb cd a b = true then ex_go (ex_blk y L.toNat) pl st w else ex_go c pl st w) = some q := h
      by_cases hx : ex_cnb cd a b = true
      · rw [if_pos hx] at h; exact ex_go_3 h
      · rw [if_neg hx] at h; exact ex_go_3 h
  | ifCond cd L =>
    match st, h with
    | .int a :: st, h =>
      have h : (if ex_cnb cd a 0 = true then ex_go (ex_blk y L.toNat) pl st w else ex_go c pl st w) = some q := h
      by_cases hx : ex_cnb cd a 0 = true
      · rw [if_pos hx] at h; exact ex_go_3 h
      · rw [if_neg hx] at h; exact ex_go_3 h
  | tableswitch df lo hi offs =>
    match st, h with
    | .int a :: st, h =>
      have h : (if a.toInt < lo ∨ hi < a.toInt then ex_go (ex_blk y df.toNat) pl st w else ex_go (ex_blk y ((offs.toList.getD (a.toInt - lo).toNat 0).toNat)) pl st w) = some q := h
      by_cases hx : a.toInt < lo ∨ hi < a.toInt
      · rw [if_pos hx] at h; exact ex_go_3 h
      · rw [if_neg hx] at h; exact ex_go_3 h
  | lookupswitch df ps =>
    match st, h with
    | .int a :: st, h => exact ex_go_3 h
  | istore k =>
    match st, h with
    | .int x :: st, h =>
      have h : ex_store k (.int x) c pl st w = some q := h
      unfold ex_store at h
      split at h
      · cases h
      · exact ex_go_3 h
  | astore k =>
    match st, h with
    | .ref x :: st, h =>
      have h : ex_store k (.ref x) c pl st w = some q := h
      unfold ex_store at h
      split at h
      · cases h
      · exact ex_go_3 h
  | lstore k =>
    match st, h with
    | .long x :: st, h =>
      have h : (if k + 1 < pl.length then ex_store k (.long x) c (pl.set (k + 1) (.retAddr 0)) st w else none) = some q := h
      by_cases hk : k + 1 < pl.length
      · rw [if_pos hk] at h
        unfold ex_store at h
        split at h
        · cases h
        · exact ex_go_3 h
      · rw [if_neg hk] at h; cases h
  | iload k =>
    have h : (match pl.getD k .null with | .int x => ex_go c pl (.int x :: st) w | _ => none) = some q := h
    split at h
    · exact ex_go_3 h
    · cases h
  | aload k =>
    have h : (match pl.getD k .null with | .ref x => ex_go c pl (.ref x :: st) w | _ => none) = some q := h
    split at h
    · exact ex_go_3 h
    · cases h
  | lload k =>
    have h : (match pl.getD k .null with | .long x => ex_go c pl (.long x :: st) w | _ => none) = some q := h
    split at h
    · exact ex_go_3 h
    · cases h
  | iinc k n =>
    have h : (match pl.getD k .null with | .int x => ex_go c (pl.set k (.int (x + Int32.ofInt n))) st w | _ => none) = some q := h
    split at h
    · exact ex_go_3 h
    · cases h
  | sipush n => exact ex_go_3 h
  | goto_w n => exact ex_go_3 h
  | getstatic f =>
    have h : (if f = 1000 ∨ f = 1001 then ex_go c pl (.ref f :: st) w else none) = some q := h
    split at h
    · exact ex_go_3 h
    · cases h
  | iaload =>
    match st, h with
    | .int i :: .ref a :: st, h =>
      have h : (match ex_ald w a i with | some x => ex_go c pl (.int x :: st) w | none => none) = some q := h
      split at h
      · exact ex_go_3 h
      · cases h
  | baload =>
    match st, h with
    | .int i :: .ref a :: st, h =>
      have h : (if ex_cls a = 13 ∧ ¬ (i < 0 ∨ ex_len a ≤ i.toNatClampNeg) then ex_go c pl (.int (w.1 a i.toNatClampNeg) :: st) w else none) = some q := h
      split at h
      · exact ex_go_3 h
      · cases h
  | iastore =>
    match st, h with
    | .int x :: .int i :: .ref a :: st, h =>
      have h : (if ex_cls a = 12 ∧ ¬ (i < 0 ∨ ex_len a ≤ i.toNatClampNeg) then ex_go c pl st (ex_up w a i.toNatClampNeg x) else none) = some q := h
      split at h
      · exact ex_go_3 h
      · cases h
  | bastore =>
    match st, h with
    | .int x :: .int i :: .ref a :: st, h =>
      have h : (if ex_cls a = 13 ∧ ¬ (i < 0 ∨ ex_len a ≤ i.toNatClampNeg) then ex_go c pl st (ex_up w a i.toNatClampNeg x.toInt8.toInt32) else none) = some q := h
      split at h
      · exact ex_go_3 h
      · cases h
  | arraylength =>
    match st, h with
    | .ref a :: st, h =>
      have h : (if ex_cls a = 12 then ex_go c pl (.int (Int32.ofNat (ex_len a)) :: st) w else none) = some q := h
      split at h
      · exact ex_go_3 h
      · cases h
  | idiv =>
    match st, h with
    | .int b :: .int a :: st, h =>
      have h : (if b = 0 then none else ex_go c pl (.int (a / b) :: st) w) = some q := h
      split at h
      · cases h
      · exact ex_go_3 h
  | irem =>
    match st, h with
    | .int b :: .int a :: st, h =>
      have h : (if b = 0 then none else ex_go c pl (.int (a - a / b * b) :: st) w) = some q := h
      split at h
      · cases h
      · exact ex_go_3 h
  | iadd => match st, h with | .int b :: .int a :: st, h => exact ex_go_3 h
  | isub => match st, h with | .int b :: .int a :: st, h => exact ex_go_3 h
  | imul => match st, h with | .int b :: .int a :: st, h => exact ex_go_3 h
  | iand => match st, h with | .int b :: .int a :: st, h => exact ex_go_3 h
  | ior => match st, h with | .int b :: .int a :: st, h => exact ex_go_3 h
  | ixor => match st, h with | .int b :: .int a :: st, h => exact ex_go_3 h
  | ishl => match st, h with | .int b :: .int a :: st, h => exact ex_go_3 h
  | ishr => match st, h with | .int b :: .int a :: st, h => exact ex_go_3 h
  | ladd => match st, h with | .long b :: .long a :: st, h => exact ex_go_3 h
  | lmul => match st, h with | .long b :: .long a :: st, h => exact ex_go_3 h
  | land => match st, h with | .long b :: .long a :: st, h => exact ex_go_3 h
  | lshr => match st, h with | .int b :: .long a :: st, h => exact ex_go_3 h
  | lushr => match st, h with | .int b :: .long a :: st, h => exact ex_go_3 h
  | i2l => match st, h with | .int a :: st, h => exact ex_go_3 h
  | l2i => match st, h with | .long a :: st, h => exact ex_go_3 h
  | i2b => match st, h with | .int a :: st, h => exact ex_go_3 h
  | pop => match st, h with | .int a :: st, h => exact ex_go_3 h
  | dup =>
    match st, h with
    | .ref a :: st, h => exact ex_go_3 h
    | .int a :: st, h => exact ex_go_3 h
  | dup2 => match st, h with | .int a :: .ref b :: st, h => exact ex_go_3 h
  | ireturn =>
    match st, h with
    | [.int x], h =>
      have h : (if ex_ret y = some .int then some (.inl (some (.int x), w)) else none) = some q := h
      by_cases he : ex_ret y = some .int
      · rw [if_pos he] at h; cases h; exact ⟨fun _ => ⟨x, rfl⟩, fun h2 => (by rw [he] at h2; cases h2)⟩
      · rw [if_neg he] at h; cases h
  | areturn =>
    match st, h with
    | [.int x], h =>
      have h : (if x = 0 ∨ x = 1 then (if ex_ret y = some .boolean then some (.inl (some (.int x), w)) else none) else none) = some q := h
      by_cases hx : x = 0 ∨ x = 1
      · rw [if_pos hx] at h
        by_cases he : ex_ret y = some .boolean
        · rw [if_pos he] at h; cases h; exact ⟨fun h2 => (by rw [he] at h2; cases h2), fun h2 => (by rw [he] at h2; cases h2)⟩
        · rw [if_neg he] at h; cases h
      · rw [if_neg hx] at h; cases h
  | lreturn =>
    match st, h with
    | [.long x], h =>
      have h : (if ex_ret y = some .long then some (.inl (some (.long x), w)) else none) = some q := h
      by_cases he : ex_ret y = some .long
      · rw [if_pos he] at h; cases h; exact ⟨fun h2 => (by rw [he] at h2; cases h2), fun _ => ⟨x, rfl⟩⟩
      · rw [if_neg he] at h; cases h
  | return_ =>
    match st, h with
    | [], h =>
      have h : (if ex_ret y = none then some (.inl (none, w)) else none) = some q := h
      by_cases he : ex_ret y = none
      · rw [if_pos he] at h; cases h; exact ⟨fun h2 => (by rw [he] at h2; cases h2), fun h2 => (by rw [he] at h2; cases h2)⟩
      · rw [if_neg he] at h; cases h
  | _ => cases h
theorem ex_run_3 {d : Nat} {cal : Nat → List Value → PW → Option ER} {y : Nat} : ∀ (n : Nat) (s : ES) (r : ER), ex_run d cal y n s = some r → ex_An3 y r.1 := by
  intro n
  induction n with
  | zero => intro s r h; cases h
  | succ n ih =>
    intro s r h
    obtain ⟨code, pl, st, w⟩ := s
    rw [ex_run] at h
    cases code with
    | nil => cases h
    | cons i c =>
      cases hq : ex_nx d cal y (i :: c, pl, st, w) with
      | none => rw [hq] at h; cases h
      | some q =>
        rw [hq] at h
        have h2 := ex_nx_3 hq
        cases q with
        | inl r0 => cases h; exact h2
        | inr s' => exact ih s' r h
theorem ex_cal_3 {d y : Nat} {as : List Value} {w : PW} {r : Option Value} {w1 : PW} (h : ex_cal d y as w = some (r, w1)) : ex_An3 y r := by
  cases d with
  | zero => cases h
  | succ d =>
    have h : (if ex_okR y as then ex_ev d (ex_cal d) y (ex_blk y 0, ex_ent y as, [], w) else none) = some (r, w1) := h
    by_cases hk : ex_okR y as = true
    · rw [if_pos hk] at h
      obtain ⟨n, hn⟩ := ex_ev_run h
      exact ex_run_3 n _ _ hn
    · rw [if_neg hk] at h; cases h
/-! the start -/
def x_f (m : Int32) : Nat → Int32 := fun k => if k = 1 then m else 0
def x_w0 : PW := (fun o => if o = 18 then x_f 8 else if o = 21 then x_f 3 else if o = 23 then x_f 12 else if o = 25 then x_f 6 else if o = 27 then x_f 10 else if o = 30 then x_f 3 else if o = 32 then x_f 12 else if o = 34 then x_f 6 else if o = 36 then x_f 10 else fun _ => 0, 0)
def x_A0 : AS := fun _ _ => 0
theorem x_no {k : Int} {P : Prop} (k0 : 0 ≤ k) (k1 : k < 0) : P := absurd k1 (by omega)
theorem x_no5 {k : Int} {P : Prop} (k0 : 0 ≤ k) (k1 : k < 5 * 0) : P := absurd k1 (by omega)
theorem x_V : q_V x_A0 := by
  have e : ∀ a b, x_A0 a b = 0 := fun _ _ => rfl
  refine ⟨⟨⟨by decide, by decide, by decide, Or.inl ⟨rfl, rfl, rfl⟩, fun c c0 c1 => x_no c0 c1, fun c c0 c1 => x_no c0 c1⟩, ⟨by decide, by decide, fun c c0 c1 => x_no c0 c1⟩, ⟨by decide, by decide, fun c c0 c1 => x_no c0 c1⟩, ⟨by decide, by decide, fun c c0 c1 => x_no c0 c1⟩, ⟨by decide, by decide, fun c c0 c1 => x_no c0 c1⟩, ⟨by decide, by decide, fun c c0 c1 => x_no c0 c1⟩, ⟨by decide, by decide, fun c c0 c1 => x_no c0 c1⟩, by decide, by decide, Or.inl rfl⟩, fun t u t0 t1 _ _ => x_no t0 t1, fun h => absurd h (by decide)⟩
theorem x_t (o : Nat) (j m : Int) (s : Nat) (h1 : x_w0.1 o 1 = Int32.ofInt m) (h2 : x_w0.1 o 2 = Int32.ofInt 0) : rCt x_A0 x_w0 o j m s := ⟨h1, h2, fun k k0 k1 => x_no5 k0 k1⟩
theorem x_C : rC x_A0 x_w0 := by
  refine ⟨⟨⟨⟨by decide +kernel, by decide +kernel, by decide +kernel⟩, ⟨fun k k0 k1 => x_no k0 k1, fun k k0 k1 => x_no k0 k1, fun k k0 k1 => x_no k0 k1, fun k k0 k1 => x_no k0 k1⟩⟩, ⟨fun k v k0 k1 _ _ => x_no k0 k1, fun k v k0 k1 _ _ => x_no k0 k1, fun k v k0 k1 v0 v1 => ?_, fun k v k0 k1 v0 v1 => ?_⟩⟩, fun k k0 k1 => x_no k0 k1, ⟨by decide +kernel, by decide +kernel, by decide +kernel, by decide +kernel⟩, fun k k0 k1 => x_no k0 k1, x_t _ _ _ _ (by decide +kernel) (by decide +kernel), x_t _ _ _ _ (by decide +kernel) (by decide +kernel), x_t _ _ _ _ (by decide +kernel) (by decide +kernel), x_t _ _ _ _ (by decide +kernel) (by decide +kernel), x_t _ _ _ _ (by decide +kernel) (by decide +kernel), x_t _ _ _ _ (by decide +kernel) (by decide +kernel), x_t _ _ _ _ (by decide +kernel) (by decide +kernel), x_t _ _ _ _ (by decide +kernel) (by decide +kernel), x_t _ _ _ _ (by decide +kernel) (by decide +kernel)⟩
  · rw [q_sp, if_pos rfl, q_iw_f (fun h => x_no k0 h.1.2.1)]
    exact (by decide +kernel : (0 : Int32) = Int32.ofInt 0)
  · rw [q_sp, if_neg (by decide), q_iw_f (fun h => x_no k0 h.1.2.1)]
    exact (by decide +kernel : (0 : Int32) = Int32.ofInt 0)
theorem x_M : rM x_A0 x_w0 := by
  refine ⟨⟨⟨by decide +kernel, by decide +kernel, by decide +kernel, by decide +kernel, by decide +kernel, by decide +kernel, by decide +kernel, by decide +kernel, by decide +kernel, by decide +kernel, by decide +kernel⟩, ⟨fun k k0 k1 => x_no k0 k1, fun k k0 k1 => x_no k0 k1⟩, ⟨fun k k0 k1 => x_no k0 k1, fun k k0 k1 => x_no k0 k1, fun k k0 k1 => x_no k0 k1, fun k k0 k1 => x_no k0 k1, fun k k0 k1 => x_no k0 k1⟩, ⟨fun k k0 k1 => x_no k0 k1, fun k k0 k1 => x_no k0 k1, fun k k0 k1 => x_no k0 k1⟩, fun k k0 k1 => x_no5 k0 k1, ⟨fun k k0 k1 => x_no k0 k1, fun k k0 k1 => x_no k0 k1⟩, ⟨fun k k0 k1 => x_no k0 k1, fun k k0 k1 => x_no k0 k1⟩, fun k k0 k1 => x_no k0 k1⟩, Or.inl (by decide +kernel), ⟨0, by decide, by decide, by decide +kernel, fun h => absurd h (by decide), fun h => absurd h.1 (by decide +kernel)⟩, fun h => absurd h (by decide)⟩
