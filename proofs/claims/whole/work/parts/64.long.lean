/-! the long field: only mix and digest set it -/
def ex_g1 (i : Instr) : Bool := match i with
  | .invokestatic e => decide (e / 8 < 233)
  | .invokevirtual e => decide (e / 8 < 233)
  | .putfield e => decide (¬ e = 761)
  | _ => true
theorem ex_all_g : ∀ y, y < 233 → (ex_bs.getD y []).all (fun p => p.2.all ex_g1) = true := by decide +kernel
theorem ex_lk_g {l : List (Nat × List Instr)} (h : l.all (fun p => p.2.all ex_g1) = true) (L : Nat) : ((l.lookup L).getD []).all ex_g1 = true := by
  induction l with
  | nil => rfl
  | cons p l ih =>
    rw [List.all_cons, Bool.and_eq_true] at h
    obtain ⟨k, c⟩ := p
    rw [List.lookup_cons]
    by_cases hk : (L == k) = true
    · rw [hk]; exact h.1
    · have hk2 : (L == k) = false := by simpa using hk
      rw [hk2]; exact ih h.2
theorem ex_blk_g {y : Nat} (hy : y < 233) (L : Nat) : (ex_blk y L).all ex_g1 = true := ex_lk_g (ex_all_g y hy) L
theorem ex_dsp_g0 : ∀ x, x < ex_D.length → (ex_D.getD x []).all (fun p => decide (p.2 < 233)) = true := by decide +kernel
theorem ex_lk_n {l : List (Nat × Nat)} (h : l.all (fun p => decide (p.2 < 233)) = true) {c y : Nat} (hl : l.lookup c = some y) : y < 233 := by
  induction l with
  | nil => cases hl
  | cons p l ih =>
    rw [List.all_cons, Bool.and_eq_true] at h
    obtain ⟨k, v⟩ := p
    rw [List.lookup_cons] at hl
    by_cases hk : (c == k) = true
    · rw [hk] at hl
      cases hl
      simpa using h.1
    · have hk2 : (c == k) = false := by simpa using hk
      rw [hk2] at hl; exact ih h.2 hl
theorem ex_dsp_g {x c y : Nat} (h : ex_dsp x c = some y) : y < 233 := by
  unfold ex_dsp at h
  by_cases hx : x < ex_D.length
  · exact ex_lk_n (ex_dsp_g0 x hx) h
  · rw [List.getD_eq_getElem?_getD, List.getElem?_eq_none (by omega)] at h
    cases h
theorem ex_fk_10 : ∀ o, o < ex_Sh.length → ∀ k, k < 64 → (ex_Sh.getD o (99, [])).2[k]? = some 1 → (ex_Sh.getD o (99, [])).1 * 64 + k = 761 := by decide +kernel
theorem ex_fk_1 {o e : Nat} (h : ex_fk o e = some 1) : e = 761 := by
  unfold ex_fk at h
  by_cases ho : o < ex_Sh.length
  · have h1 := ex_fk_10 o ho (e % 64) (by omega)
    rw [List.getD_eq_getElem?_getD] at h1
    cases hs : ex_Sh[o]? with
    | none => rw [hs] at h; cases h
    | some q =>
      rw [hs] at h h1
      dsimp only [Option.getD] at h h1
      by_cases hq : q.1 = e / 64
      · rw [if_pos hq] at h
        have := h1 h
        omega
      · rw [if_neg hq] at h; cases h
  · rw [List.getElem?_eq_none (by omega)] at h
    cases h
def ex_P2 (w : PW) (y : Nat) (c : List Instr) (q : ER ⊕ ES) : Prop := match q with
  | .inl r => r.2.2 = w.2
  | .inr s => s.2.2.2.2 = w.2 ∧ (s.1 = c ∨ ∃ L, s.1 = ex_blk y L)
theorem ex_go_2 {w w1 : PW} {y : Nat} {c c1 : List Instr} {pl st : List Value} {q : ER ⊕ ES} (h : ex_go c1 pl st w1 = some q) (h2 : w1.2 = w.2) (hc : c1 = c ∨ ∃ L, c1 = ex_blk y L) : ex_P2 w y c q := by
  cases h; exact ⟨h2, hc⟩
theorem ex_back_2 {w : PW} {y : Nat} {c : List Instr} {pl st : List Value} {r : Option ER} {q : ER ⊕ ES} (h : ex_back r c pl st = some q) (h2 : ∀ v w1, r = some (v, w1) → w1.2 = w.2) : ex_P2 w y c q := by
  unfold ex_back at h
  cases r with
  | none => cases h
  | some p =>
    obtain ⟨v, w1⟩ := p
    exact ex_go_2 h (h2 v w1 rfl) (Or.inl rfl)
theorem ex_nx_2 {d : Nat} {cal : Nat → List Value → PW → Option ER} {y : Nat} (hcal : ∀ yy as w r w1, yy < 233 → cal yy as w = some (r, w1) → w1.2 = w.2) {i : Instr} {c : List Instr} {pl st : List Value} {w : PW} (hg : ex_g1 i = true) {q : ER ⊕ ES} (h : ex_nx d cal y (i :: c, pl, st, w) = some q) : ex_P2 w y c q := by
  cases i with
  | invokestatic e =>
    have h : ex_call cal (e / 8) (e % 8) c pl st w = some q := h
    unfold ex_call at h
    have hg : decide (e / 8 < 233) = true := hg
    have hg := of_decide_eq_true hg
    cases hs : ex_spl (e % 8) [] st with
    | none => rw [hs] at h; cases h
    | some p =>
      rw [hs] at h
      obtain ⟨as, r⟩ := p
      dsimp only at h
      by_cases hl : ex_low r = true
      · rw [if_pos hl] at h
        exact ex_back_2 h fun v w1 hv => hcal _ _ _ _ _ hg hv
      · rw [if_neg hl] at h; cases h
  | invokevirtual e =>
    have h : ex_callv cal (e / 8) (e % 8 + 1) c pl st w = some q := h
    unfold ex_callv at h
    have hg : decide (e / 8 < 233) = true := hg
    have hg := of_decide_eq_true hg
    cases hs : ex_spl (e % 8 + 1) [] st with
    | none => rw [hs] at h; cases h
    | some p =>
      rw [hs] at h
      obtain ⟨as, r⟩ := p
      dsimp only at h
      match as, h with
      | .ref o :: as, h =>
        dsimp only at h
        by_cases hl : ex_low r = true
        · rw [if_pos hl] at h
          exact ex_back_2 h fun v w1 hv => hcal _ _ _ _ _ hg hv
        · rw [if_neg hl] at h; cases h
  | invokeinterface x n =>
    have h : ex_vcall cal x n c pl st w = some q := h
    unfold ex_vcall at h
    cases hs : ex_spl (n + 1) [] st with
    | none => rw [hs] at h; cases h
    | some p =>
      rw [hs] at h
      obtain ⟨as, r⟩ := p
      dsimp only at h
      match as, h with
      | .ref o :: as, h =>
        dsimp only at h
        cases hd : ex_dsp x (ex_cls o) with
        | none => rw [hd] at h; cases h
        | some yy =>
          rw [hd] at h
          dsimp only at h
          by_cases hl : ex_low r = true
          · rw [if_pos hl] at h
            exact ex_back_2 h fun v w1 hv => hcal _ _ _ _ _ (ex_dsp_g hd) hv
          · rw [if_neg hl] at h; cases h
  | putfield f =>
    have h : ex_pf f c pl st w = some q := h
    have hg : decide (¬ f = 761) = true := hg
    have hg := of_decide_eq_true hg
    unfold ex_pf at h
    match st, h with
    | .int x :: .ref a :: st, h =>
      dsimp only at h
      cases hk : ex_fk a f with
      | none => rw [hk] at h; cases h
      | some kd =>
        rw [hk] at h
        match kd, hk, h with
        | 0, hk, h => exact ex_go_2 h rfl (Or.inl rfl)
        | 1, hk, h => cases h
        | 2, hk, h =>
          by_cases hx : x = 0 ∨ x = 1
          · simp only [if_pos hx] at h
            exact ex_go_2 h rfl (Or.inl rfl)
          · simp only [if_neg hx] at h
            cases h
        | n + 3, hk, h => cases h
    | .long x :: .ref a :: st, h =>
      dsimp only at h
      cases hk : ex_fk a f with
      | none => rw [hk] at h; cases h
      | some kd =>
        rw [hk] at h
        match kd, hk, h with
        | 0, hk, h => cases h
        | 1, hk, h => exact absurd (ex_fk_1 hk) hg
        | n + 2, hk, h => cases h
  | invokedynamic k =>
    have h : ex_nat d k c pl st w = some q := h
    unfold ex_nat at h
    by_cases hd : d < 2
    · rw [if_pos hd] at h; cases h
    · rw [if_neg hd] at h
      match k, st, h with
      | 0, .int b :: .int a :: r, h =>
        have h : (if ex_low r = true then ex_go c pl (.int (if a < b then b else a) :: r) w else none) = some q := h
        by_cases hl : ex_low r = true
        · rw [if_pos hl] at h; exact ex_go_2 h rfl (Or.inl rfl)
        · rw [if_neg hl] at h; cases h
      | 1, .int b :: .int a :: r, h =>
        have h : (if ex_low r = true then ex_go c pl (.int (if b < a then b else a) :: r) w else none) = some q := h
        by_cases hl : ex_low r = true
        · rw [if_pos hl] at h; exact ex_go_2 h rfl (Or.inl rfl)
        · rw [if_neg hl] at h; cases h
      | 2, .int n :: .int dp :: .ref b :: .int sp :: .ref a :: [], h =>
        have h : (if sp = 0 ∧ dp = 0 ∧ ex_cls a = 12 ∧ ex_cls b = 12 ∧ ¬ n < 0 ∧ n.toNatClampNeg ≤ ex_len a ∧ n.toNatClampNeg ≤ ex_len b then ex_go c pl [] (ex_cpy w a b n.toNatClampNeg) else none) = some q := h
        split at h
        · exact ex_go_2 h rfl (Or.inl rfl)
        · cases h
  | getfield f =>
    match st, h with
    | .ref a :: st, h =>
      have h : ex_gf f c pl (.ref a :: st) w = some q := h
      unfold ex_gf at h
      dsimp only at h
      cases hk : ex_fk a f with
      | none => rw [hk] at h; cases h
      | some kd =>
        rw [hk] at h
        match kd, hk, h with
        | 0, hk, h => exact ex_go_2 h rfl (Or.inl rfl)
        | 1, hk, h => exact ex_go_2 h rfl (Or.inl rfl)
        | 2, hk, h => exact ex_go_2 h rfl (Or.inl rfl)
        | n + 3, hk, h => exact ex_go_2 h rfl (Or.inl rfl)
  | goto L => exact ex_go_2 h rfl (Or.inr ⟨_, rfl⟩)
  | jsr L => exact ex_go_2 h rfl (Or.inr ⟨_, rfl⟩)
  | if_icmp cd L =>
    match st, h with
    | .int b :: .int a :: st, h =>
      have h : (if ex_cnb cd a b = true then ex_go (ex_blk y L.toNat) pl st w else ex_go c pl st w) = some q := h
      by_cases hx : ex_cnb cd a b = true
      · rw [if_pos hx] at h; exact ex_go_2 h rfl (Or.inr ⟨_, rfl⟩)
      · rw [if_neg hx] at h; exact ex_go_2 h rfl (Or.inl rfl)
  | ifCond cd L =>
    match st, h with
    | .int a :: st, h =>
      have h : (if ex_cnb cd a 0 = true then ex_go (ex_blk y L.toNat) pl st w else ex_go c pl st w) = some q := h
      by_cases hx : ex_cnb cd a 0 = true
      · rw [if_pos hx] at h; exact ex_go_2 h rfl (Or.inr ⟨_, rfl⟩)
      · rw [if_neg hx] at h; exact ex_go_2 h rfl (Or.inl rfl)
  | tableswitch df lo hi offs =>
    match st, h with
    | .int a :: st, h =>
      have h : (if a.toInt < lo ∨ hi < a.toInt then ex_go (ex_blk y df.toNat) pl st w else ex_go (ex_blk y ((offs.toList.getD (a.toInt - lo).toNat 0).toNat)) pl st w) = some q := h
      by_cases hx : a.toInt < lo ∨ hi < a.toInt
      · rw [if_pos hx] at h; exact ex_go_2 h rfl (Or.inr ⟨_, rfl⟩)
      · rw [if_neg hx] at h; exact ex_go_2 h rfl (Or.inr ⟨_, rfl⟩)
  | lookupswitch df ps =>
    match st, h with
    | .int a :: st, h => exact ex_go_2 h rfl (Or.inr ⟨_, rfl⟩)
  | istore k =>
    match st, h with
    | .int x :: st, h =>
      have h : ex_store k (.int x) c pl st w = some q := h
      unfold ex_store at h
      split at h
      · cases h
      · exact ex_go_2 h rfl (Or.inl rfl)
  | astore k =>
    match st, h with
    | .ref x :: st, h =>
      have h : ex_store k (.ref x) c pl st w = some q := h
      unfold ex_store at h
      split at h
      · cases h
      · exact ex_go_2 h rfl (Or.inl rfl)
  | lstore k =>
    match st, h with
    | .long x :: st, h =>
      have h : (if k + 1 < pl.length then ex_store k (.long x) c (pl.set (k + 1) (.retAddr 0)) st w else none) = some q := h
      by_cases hk : k + 1 < pl.length
      · rw [if_pos hk] at h
        unfold ex_store at h
        split at h
        · cases h
        · exact ex_go_2 h rfl (Or.inl rfl)
      · rw [if_neg hk] at h; cases h
  | iload k =>
    have h : (match pl.getD k .null with | .int x => ex_go c pl (.int x :: st) w | _ => none) = some q := h
    split at h
    · exact ex_go_2 h rfl (Or.inl rfl)
    · cases h
  | aload k =>
    have h : (match pl.getD k .null with | .ref x => ex_go c pl (.ref x :: st) w | _ => none) = some q := h
    split at h
    · exact ex_go_2 h rfl (Or.inl rfl)
    · cases h
  | lload k =>
    have h : (match pl.getD k .null with | .long x => ex_go c pl (.long x :: st) w | _ => none) = some q := h
    split at h
    · exact ex_go_2 h rfl (Or.inl rfl)
    · cases h
  | iinc k n =>
    have h : (match pl.getD k .null with | .int x => ex_go c (pl.set k (.int (x + Int32.ofInt n))) st w | _ => none) = some q := h
    split at h
    · exact ex_go_2 h rfl (Or.inl rfl)
    · cases h
  | sipush n => exact ex_go_2 h rfl (Or.inl rfl)
  | goto_w n => exact ex_go_2 h rfl (Or.inl rfl)
  | getstatic f =>
    have h : (if f = 1000 ∨ f = 1001 then ex_go c pl (.ref f :: st) w else none) = some q := h
    split at h
    · exact ex_go_2 h rfl (Or.inl rfl)
    · cases h
  | iaload =>
    match st, h with
    | .int i :: .ref a :: st, h =>
      have h : (match ex_ald w a i with | some x => ex_go c pl (.int x :: st) w | none => none) = some q := h
      split at h
      · exact ex_go_2 h rfl (Or.inl rfl)
      · cases h
  | baload =>
    match st, h with
    | .int i :: .ref a :: st, h =>
      have h : (if ex_cls a = 13 ∧ ¬ (i < 0 ∨ ex_len a ≤ i.toNatClampNeg) then ex_go c pl (.int (w.1 a i.toNatClampNeg) :: st) w else none) = some q := h
      split at h
      · exact ex_go_2 h rfl (Or.inl rfl)
      · cases h
  | iastore =>
    match st, h with
    | .int x :: .int i :: .ref a :: st, h =>
      have h : (if ex_cls a = 12 ∧ ¬ (i < 0 ∨ ex_len a ≤ i.toNatClampNeg) then ex_go c pl st (ex_up w a i.toNatClampNeg x) else none) = some q := h
      split at h
      · exact ex_go_2 h rfl (Or.inl rfl)
      · cases h
  | bastore =>
    match st, h with
    | .int x :: .int i :: .ref a :: st, h =>
      have h : (if ex_cls a = 13 ∧ ¬ (i < 0 ∨ ex_len a ≤ i.toNatClampNeg) then ex_go c pl st (ex_up w a i.toNatClampNeg x.toInt8.toInt32) else none) = some q := h
      split at h
      · exact ex_go_2 h rfl (Or.inl rfl)
      · cases h
  | arraylength =>
    match st, h with
    | .ref a :: st, h =>
      have h : (if ex_cls a = 12 then ex_go c pl (.int (Int32.ofNat (ex_len a)) :: st) w else none) = some q := h
      split at h
      · exact ex_go_2 h rfl (Or.inl rfl)
      · cases h
  | idiv =>
    match st, h with
    | .int b :: .int a :: st, h =>
      have h : (if b = 0 then none else ex_go c pl (.int (a / b) :: st) w) = some q := h
      split at h
      · cases h
      · exact ex_go_2 h rfl (Or.inl rfl)
  | irem =>
    match st, h with
    | .int b :: .int a :: st, h =>
      have h : (if b = 0 then none else ex_go c pl (.int (a - a / b * b) :: st) w) = some q := h
      split at h
      · cases h
      · exact ex_go_2 h rfl (Or.inl rfl)
  | iadd => match st, h with | .int b :: .int a :: st, h => exact ex_go_2 h rfl (Or.inl rfl)
  | isub => match st, h with | .int b :: .int a :: st, h => exact ex_go_2 h rfl (Or.inl rfl)
  | imul => match st, h with | .int b :: .int a :: st, h => exact ex_go_2 h rfl (Or.inl rfl)
  | iand => match st, h with | .int b :: .int a :: st, h => exact ex_go_2 h rfl (Or.inl rfl)
  | ior => match st, h with | .int b :: .int a :: st, h => exact ex_go_2 h rfl (Or.inl rfl)
  | ixor => match st, h with | .int b :: .int a :: st, h => exact ex_go_2 h rfl (Or.inl rfl)
  | ishl => match st, h with | .int b :: .int a :: st, h => exact ex_go_2 h rfl (Or.inl rfl)
  | ishr => match st, h with | .int b :: .int a :: st, h => exact ex_go_2 h rfl (Or.inl rfl)
  | ladd => match st, h with | .long b :: .long a :: st, h => exact ex_go_2 h rfl (Or.inl rfl)
  | lmul => match st, h with | .long b :: .long a :: st, h => exact ex_go_2 h rfl (Or.inl rfl)
  | land => match st, h with | .long b :: .long a :: st, h => exact ex_go_2 h rfl (Or.inl rfl)
  | lshr => match st, h with | .int b :: .long a :: st, h => exact ex_go_2 h rfl (Or.inl rfl)
  | lushr => match st, h with | .int b :: .long a :: st, h => exact ex_go_2 h rfl (Or.inl rfl)
  | i2l => match st, h with | .int a :: st, h => exact ex_go_2 h rfl (Or.inl rfl)
  | l2i => match st, h with | .long a :: st, h => exact ex_go_2 h rfl (Or.inl rfl)
  | i2b => match st, h with | .int a :: st, h => exact ex_go_2 h rfl (Or.inl rfl)
  | pop => match st, h with | .int a :: st, h => exact ex_go_2 h rfl (Or.inl rfl)
  | dup =>
    match st, h with
    | .ref a :: st, h => exact ex_go_2 h rfl (Or.inl rfl)
    | .int a :: st, h => exact ex_go_2 h rfl (Or.inl rfl)
  | dup2 => match st, h with | .int a :: .ref b :: st, h => exact ex_go_2 h rfl (Or.inl rfl)
  | ireturn =>
    match st, h with
    | [.int x], h =>
      have h : (if ex_ret y = some .int then some (.inl (some (.int x), w)) else none) = some q := h
      split at h
      · cases h; exact (rfl : w.2 = w.2)
      · cases h
  | areturn =>
    match st, h with
    | [.int x], h =>
      have h : (if x = 0 ∨ x = 1 then (if ex_ret y = some .boolean then some (.inl (some (.int x), w)) else none) else none) = some q := h
      split at h
      · split at h
        · cases h; exact (rfl : w.2 = w.2)
        · cases h
      · cases h
  | lreturn =>
    match st, h with
    | [.long x], h =>
      have h : (if ex_ret y = some .long then some (.inl (some (.long x), w)) else none) = some q := h
      split at h
      · cases h; exact (rfl : w.2 = w.2)
      · cases h
  | return_ =>
    match st, h with
    | [], h =>
      have h : (if ex_ret y = none then some (.inl (none, w)) else none) = some q := h
      split at h
      · cases h; exact (rfl : w.2 = w.2)
      · cases h
  | _ => cases h
theorem ex_run_2 {d : Nat} {cal : Nat → List Value → PW → Option ER} {y : Nat} (hy : y < 233) (hcal : ∀ yy as w r w1, yy < 233 → cal yy as w = some (r, w1) → w1.2 = w.2) : ∀ (n : Nat) (s : ES) (r : ER), s.1.all ex_g1 = true → ex_run d cal y n s = some r → r.2.2 = s.2.2.2.2 := by
  intro n
  induction n with
  | zero => intro s r _ h; cases h
  | succ n ih =>
    intro s r hg h
    obtain ⟨code, pl, st, w⟩ := s
    rw [ex_run] at h
    cases code with
    | nil => cases h
    | cons i c =>
      rw [List.all_cons, Bool.and_eq_true] at hg
      cases hq : ex_nx d cal y (i :: c, pl, st, w) with
      | none => rw [hq] at h; cases h
      | some q =>
        rw [hq] at h
        have h2 := ex_nx_2 hcal hg.1 hq
        cases q with
        | inl r0 => cases h; exact h2
        | inr s' =>
          obtain ⟨h3, h4⟩ := h2
          have hg' : s'.1.all ex_g1 = true := by
            rcases h4 with h4 | ⟨L, h4⟩
            · rw [h4]; exact hg.2
            · rw [h4]; exact ex_blk_g hy L
          exact (ih s' r hg' h).trans h3
theorem ex_cal_2 : ∀ (d y : Nat) (as : List Value) (w : PW) (r : Option Value) (w1 : PW), y < 233 → ex_cal d y as w = some (r, w1) → w1.2 = w.2 := by
  intro d
  induction d with
  | zero => intro y as w r w1 _ h; cases h
  | succ d ih =>
    intro y as w r w1 hy h
    have h : (if ex_okR y as then ex_ev d (ex_cal d) y (ex_blk y 0, ex_ent y as, [], w) else none) = some (r, w1) := h
    by_cases hk : ex_okR y as = true
    · rw [if_pos hk] at h
      obtain ⟨n, hn⟩ := ex_ev_run h
      exact ex_run_2 hy (fun yy as w r w1 hyy hc => ih yy as w r w1 hyy hc) n _ _ (ex_blk_g hy 0) hn
    · rw [if_neg hk] at h; cases h
