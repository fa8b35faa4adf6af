/-! natives, returns, and THE SOUNDNESS of the pure machine -/
section EU
variable {p : Program} {l : Launch} {e : Env} {R : Room} {s : State} {m : MethodId} {args : Array Value} {below : List Frame} {meth : Method} {c : Code} {Q : State → Prop} {dC : Nat → ClassId} {dI : Nat → Nat → Nat} {ad0 : Nat → Nat} {cI cB : ClassId} {K : Nat × Nat × Nat} {y d : Nat} {code : List Instr} {pl st : List Value} {w : PW}
theorem es_iret (C : ex_Fix p l e R s m args c dC dI ad0 cI cB y d) (hlk : meth.locks = false) (hr : meth.sig.returnType = some .int) {x : Int32} : ex_G p l e R s m args below meth c (MQ below (ex_Post dC dI ad0 cI cB s.heap.size y (some (.int x)) w) args s (ex_kc K w) (ex_ks K w) (ex_AA ad0 s.heap.size)) dC dI ad0 cI cB K y (.ireturn :: code) (pl) ([.int x]) (w) := by
  intro ad pc H locs ls hA hok hP hS hL
  obtain ⟨hx, hb, hml, hown, hts, hC, hR, hcl⟩ := C
  obtain ⟨j, len, hd, hi, ho⟩ := ex_ok_cons rfl hok
  have hi : (decide (j = .ireturn) && len == 1) = true := hi
  simp only [Bool.and_eq_true, decide_eq_true_eq, beq_iff_eq] at hi
  obtain ⟨rfl, rfl⟩ := hi
  exact W.iret hx hb hr (fun t ht hW => ⟨rfl, ⟨ad, hA.1, hA.2.1, by rw [ht]; exact hP⟩, hS.F ht⟩) hS.2.2 hd hlk
theorem es_lret (C : ex_Fix p l e R s m args c dC dI ad0 cI cB y d) (hlk : meth.locks = false) (hr : meth.sig.returnType = some .long) {x : Int64} : ex_G p l e R s m args below meth c (MQ below (ex_Post dC dI ad0 cI cB s.heap.size y (some (.long x)) w) args s (ex_kc K w) (ex_ks K w) (ex_AA ad0 s.heap.size)) dC dI ad0 cI cB K y (.lreturn :: code) (pl) ([.long x]) (w) := by
  intro ad pc H locs ls hA hok hP hS hL
  obtain ⟨hx, hb, hml, hown, hts, hC, hR, hcl⟩ := C
  obtain ⟨j, len, hd, hi, ho⟩ := ex_ok_cons rfl hok
  have hi : (decide (j = .lreturn) && len == 1) = true := hi
  simp only [Bool.and_eq_true, decide_eq_true_eq, beq_iff_eq] at hi
  obtain ⟨rfl, rfl⟩ := hi
  exact W.lret hx hb hr (fun t ht hW => ⟨rfl, ⟨ad, hA.1, hA.2.1, by rw [ht]; exact hP⟩, hS.F ht⟩) hS.2.2 hd hlk
theorem es_zret (C : ex_Fix p l e R s m args c dC dI ad0 cI cB y d) (hlk : meth.locks = false) (hr : meth.sig.returnType = some .boolean) {x : Int32} (h01 : x = 0 ∨ x = 1) : ex_G p l e R s m args below meth c (MQ below (ex_Post dC dI ad0 cI cB s.heap.size y (some (.int x)) w) args s (ex_kc K w) (ex_ks K w) (ex_AA ad0 s.heap.size)) dC dI ad0 cI cB K y (.areturn :: code) (pl) ([.int x]) (w) := by
  intro ad pc H locs ls hA hok hP hS hL
  obtain ⟨hx, hb, hml, hown, hts, hC, hR, hcl⟩ := C
  obtain ⟨j, len, hd, hi, ho⟩ := ex_ok_cons rfl hok
  have hi : (decide (j = .ireturn) && len == 1) = true := hi
  simp only [Bool.and_eq_true, decide_eq_true_eq, beq_iff_eq] at hi
  obtain ⟨rfl, rfl⟩ := hi
  exact W.zret hx hb hr (by rcases h01 with rfl | rfl <;> decide) (fun t ht hW => ⟨rfl, ⟨ad, hA.1, hA.2.1, by rw [ht]; exact hP⟩, hS.F ht⟩) hS.2.2 hd hlk
theorem es_vret (C : ex_Fix p l e R s m args c dC dI ad0 cI cB y d) (hlk : meth.locks = false) (hr : meth.sig.returnType = none) : ex_G p l e R s m args below meth c (MQ below (ex_Post dC dI ad0 cI cB s.heap.size y (none) w) args s (ex_kc K w) (ex_ks K w) (ex_AA ad0 s.heap.size)) dC dI ad0 cI cB K y (.return_ :: code) (pl) ([]) (w) := by
  intro ad pc H locs ls hA hok hP hS hL
  obtain ⟨hx, hb, hml, hown, hts, hC, hR, hcl⟩ := C
  obtain ⟨j, len, hd, hi, ho⟩ := ex_ok_cons rfl hok
  have hi : (decide (j = .return_) && len == 1) = true := hi
  simp only [Bool.and_eq_true, decide_eq_true_eq, beq_iff_eq] at hi
  obtain ⟨rfl, rfl⟩ := hi
  exact W.vret hx hb hr (fun t ht hW => ⟨rfl, ⟨ad, hA.1, hA.2.1, by rw [ht]; exact hP⟩, hS.F ht⟩) hS.2.2 hd hlk
theorem es_all (C : ex_Fix p l e R s m args c dC dI ad0 cI cB y (d + 1)) (hcal : ∀ (yy : Nat) (as : List Value) (w : PW) (r : Option Value) (w1 : PW), ex_cal d yy as w = some (r, w1) → d ≠ 0 ∧ ex_okR yy as = true ∧ ex_Con l d yy as w r w1) (hmo : ∀ (yy : Nat) (as : List Value) (w : PW) (r : Option Value) (w1 : PW), ex_cal d yy as w = some (r, w1) → ex_nf r ∧ w.2.1 ≤ w1.2.1 ∧ w1.2.2 = w.2.2) {q : ER ⊕ ES} (h : ex_nx d (ex_cal d) y (code, pl, st, w) = some q) (hroom : ∀ c1 pl1 st1 w1, q = .inr (c1, pl1, st1, w1) → ex_kc K w1 ≤ R.cells ∧ ex_ks K w1 ≤ R.slots) (hin : ∀ c1 pl1 st1 w1, q = .inr (c1, pl1, st1, w1) → ex_G p l e R s m args below meth c Q dC dI ad0 cI cB K y (c1) (pl1) (st1) (w1)) (ho_i : ∀ (c9 : List Instr) (a : Int32), q = .inl (some (.int a), w) → ex_ret y = some .int → ex_G p l e R s m args below meth c Q dC dI ad0 cI cB K y (.ireturn :: c9) (pl) ([.int a]) (w)) (ho_l : ∀ (c9 : List Instr) (a : Int64), q = .inl (some (.long a), w) → ex_ret y = some .long → ex_G p l e R s m args below meth c Q dC dI ad0 cI cB K y (.lreturn :: c9) (pl) ([.long a]) (w)) (ho_z : ∀ (c9 : List Instr) (a : Int32), q = .inl (some (.int a), w) → ex_ret y = some .boolean → (a = 0 ∨ a = 1) → ex_G p l e R s m args below meth c Q dC dI ad0 cI cB K y (.areturn :: c9) (pl) ([.int a]) (w)) (ho_v : ∀ (c9 : List Instr), q = .inl (none, w) → ex_ret y = none → ex_G p l e R s m args below meth c Q dC dI ad0 cI cB K y (.return_ :: c9) (pl) ([]) (w)) : ex_G p l e R s m args below meth c Q dC dI ad0 cI cB K y (code) (pl) (st) (w) := by
  cases code with
  | nil => cases h
  | cons i c =>
    cases i with
    | iload k =>
      have h : (match pl.getD k .null with | .int x => ex_go c pl (.int x :: st) w | _ => none) = some q := h
      cases hg : pl.getD k .null with
      | int x =>
        rw [hg] at h
        cases h
        exact es_iload C hg (hin _ _ _ _ rfl)
      | _ => rw [hg] at h; cases h
    | aload k =>
      have h : (match pl.getD k .null with | .ref x => ex_go c pl (.ref x :: st) w | _ => none) = some q := h
      cases hg : pl.getD k .null with
      | ref x =>
        rw [hg] at h
        cases h
        exact es_aload C hg (hin _ _ _ _ rfl)
      | _ => rw [hg] at h; cases h
    | lload k =>
      have h : (match pl.getD k .null with | .long x => ex_go c pl (.long x :: st) w | _ => none) = some q := h
      cases hg : pl.getD k .null with
      | long x =>
        rw [hg] at h
        cases h
        exact es_lload C hg (hin _ _ _ _ rfl)
      | _ => rw [hg] at h; cases h
    | istore k =>
      cases st with
      | nil => cases h
      | cons v st =>
        cases v with
        | int x =>
          have h : ex_store k (.int x) c pl st w = some q := h
          unfold ex_store at h
          cases hg : pl[k]? with
          | none => rw [List.getD_eq_getElem?_getD, hg] at h; cases h
          | some a =>
            have hg2 : pl.getD k (.retAddr 0) = a := by rw [List.getD_eq_getElem?_getD, hg]; rfl
            rw [hg2] at h
            cases a with
            | retAddr n => cases h
            | _ => cases h; exact es_istore C hg (by intro n q; cases q) (hin _ _ _ _ rfl)
        | _ => cases h
    | astore k =>
      cases st with
      | nil => cases h
      | cons v st =>
        cases v with
        | ref x =>
          have h : ex_store k (.ref x) c pl st w = some q := h
          unfold ex_store at h
          cases hg : pl[k]? with
          | none => rw [List.getD_eq_getElem?_getD, hg] at h; cases h
          | some a =>
            have hg2 : pl.getD k (.retAddr 0) = a := by rw [List.getD_eq_getElem?_getD, hg]; rfl
            rw [hg2] at h
            cases a with
            | retAddr n => cases h
            | _ => cases h; exact es_astore C hg (by intro n q; cases q) (hin _ _ _ _ rfl)
        | _ => cases h
    | lstore k =>
      cases st with
      | nil => cases h
      | cons v st =>
        cases v with
        | long x =>
          have h : (if k + 1 < pl.length then ex_store k (.long x) c (pl.set (k + 1) (.retAddr 0)) st w else none) = some q := h
          by_cases hk : k + 1 < pl.length
          · rw [if_pos hk] at h
            unfold ex_store at h
            have hkl : k < pl.length := by omega
            have hg : pl[k]? = some pl[k] := List.getElem?_eq_getElem hkl
            have hg2 : (pl.set (k + 1) (.retAddr 0)).getD k (.retAddr 0) = pl[k] := by rw [List.getD_eq_getElem?_getD, List.getElem?_set, if_neg (by omega), hg]; rfl
            rw [hg2] at h
            generalize pl[k] = a at h hg
            cases a with
            | retAddr n => cases h
            | _ => cases h; exact es_lstore C hg (by intro n q; cases q) hk (hin _ _ _ _ rfl)
          · rw [if_neg hk] at h; cases h
        | _ => cases h
    | iinc k n =>
      have h : (match pl.getD k .null with | .int x => ex_go c (pl.set k (.int (x + Int32.ofInt n))) st w | _ => none) = some q := h
      cases hg : pl.getD k .null with
      | int x =>
        rw [hg] at h
        cases h
        exact es_iinc C hg (hin _ _ _ _ rfl)
      | _ => rw [hg] at h; cases h
    | sipush n =>
      cases h
      exact es_push C (hin _ _ _ _ rfl)
    | goto_w n =>
      cases h
      exact es_lpush C (hin _ _ _ _ rfl)
    | iadd =>
      match st, h with
      | .int b :: .int a :: st, h =>
        cases h
        exact es_iadd C (hin _ _ _ _ rfl)
    | isub =>
      match st, h with
      | .int b :: .int a :: st, h =>
        cases h
        exact es_isub C (hin _ _ _ _ rfl)
    | imul =>
      match st, h with
      | .int b :: .int a :: st, h =>
        cases h
        exact es_imul C (hin _ _ _ _ rfl)
    | iand =>
      match st, h with
      | .int b :: .int a :: st, h =>
        cases h
        exact es_iand C (hin _ _ _ _ rfl)
    | ior =>
      match st, h with
      | .int b :: .int a :: st, h =>
        cases h
        exact es_ior C (hin _ _ _ _ rfl)
    | ixor =>
      match st, h with
      | .int b :: .int a :: st, h =>
        cases h
        exact es_ixor C (hin _ _ _ _ rfl)
    | ishl =>
      match st, h with
      | .int b :: .int a :: st, h =>
        cases h
        exact es_ishl C (hin _ _ _ _ rfl)
    | ishr =>
      match st, h with
      | .int b :: .int a :: st, h =>
        cases h
        exact es_ishr C (hin _ _ _ _ rfl)
    | ladd =>
      match st, h with
      | .long b :: .long a :: st, h =>
        cases h
        exact es_ladd C (hin _ _ _ _ rfl)
    | lmul =>
      match st, h with
      | .long b :: .long a :: st, h =>
        cases h
        exact es_lmul C (hin _ _ _ _ rfl)
    | land =>
      match st, h with
      | .long b :: .long a :: st, h =>
        cases h
        exact es_land C (hin _ _ _ _ rfl)
    | lshr =>
      match st, h with
      | .int b :: .long a :: st, h =>
        cases h
        exact es_lshr C (hin _ _ _ _ rfl)
    | lushr =>
      match st, h with
      | .int b :: .long a :: st, h =>
        cases h
        exact es_lushr C (hin _ _ _ _ rfl)
    | idiv =>
      match st, h with
      | .int b :: .int a :: st, h =>
        have h : (if b = 0 then none else ex_go c pl (.int (a / b) :: st) w) = some q := h
        by_cases hz : b = 0
        · rw [if_pos hz] at h; cases h
        · rw [if_neg hz] at h
          cases h
          exact es_idiv C hz (hin _ _ _ _ rfl)
    | irem =>
      match st, h with
      | .int b :: .int a :: st, h =>
        have h : (if b = 0 then none else ex_go c pl (.int (a - a / b * b) :: st) w) = some q := h
        by_cases hz : b = 0
        · rw [if_pos hz] at h; cases h
        · rw [if_neg hz] at h
          cases h
          exact es_irem C hz (hin _ _ _ _ rfl)
    | i2l =>
      match st, h with
      | .int a :: st, h =>
        cases h
        exact es_i2l C (hin _ _ _ _ rfl)
    | l2i =>
      match st, h with
      | .long a :: st, h =>
        cases h
        exact es_l2i C (hin _ _ _ _ rfl)
    | i2b =>
      match st, h with
      | .int a :: st, h =>
        cases h
        exact es_i2b C (hin _ _ _ _ rfl)
    | pop =>
      match st, h with
      | .int a :: st, h =>
        cases h
        exact es_pop C (hin _ _ _ _ rfl)
    | dup =>
      match st, h with
      | .ref a :: st, h => cases h; exact es_dup_r C (hin _ _ _ _ rfl)
      | .int a :: st, h => cases h; exact es_dup_i C (hin _ _ _ _ rfl)
    | dup2 =>
      match st, h with
      | .int a :: .ref b :: st, h =>
        cases h
        exact es_dup2 C (hin _ _ _ _ rfl)
    | goto L =>
      cases h
      exact es_goto C (hin _ _ _ _ rfl)
    | jsr L =>
      cases h
      exact es_jsr C (hin _ _ _ _ rfl)
    | if_icmp cd L =>
      match st, h with
      | .int b :: .int a :: st, h =>
        cases cd with
          | eq =>
            have h : (if decide (a = b) = true then ex_go (ex_blk y L.toNat) pl st w else ex_go c pl st w) = some q := h
            exact es_icmp_eq C (fun hy => hin _ _ _ _ (by rw [if_pos (decide_eq_true hy)] at h; exact (Option.some.inj h).symm)) (fun hy => hin _ _ _ _ (by rw [if_neg (by simpa using hy)] at h; exact (Option.some.inj h).symm))
          | ne =>
            have h : (if decide (¬ a = b) = true then ex_go (ex_blk y L.toNat) pl st w else ex_go c pl st w) = some q := h
            exact es_icmp_ne C (fun hy => hin _ _ _ _ (by rw [if_pos (decide_eq_true hy)] at h; exact (Option.some.inj h).symm)) (fun hy => hin _ _ _ _ (by rw [if_neg (by simpa using hy)] at h; exact (Option.some.inj h).symm))
          | lt =>
            have h : (if decide (a < b) = true then ex_go (ex_blk y L.toNat) pl st w else ex_go c pl st w) = some q := h
            exact es_icmp_lt C (fun hy => hin _ _ _ _ (by rw [if_pos (decide_eq_true hy)] at h; exact (Option.some.inj h).symm)) (fun hy => hin _ _ _ _ (by rw [if_neg (by simpa using hy)] at h; exact (Option.some.inj h).symm))
          | ge =>
            have h : (if decide (b ≤ a) = true then ex_go (ex_blk y L.toNat) pl st w else ex_go c pl st w) = some q := h
            exact es_icmp_ge C (fun hy => hin _ _ _ _ (by rw [if_pos (decide_eq_true hy)] at h; exact (Option.some.inj h).symm)) (fun hy => hin _ _ _ _ (by rw [if_neg (by simpa using hy)] at h; exact (Option.some.inj h).symm))
          | gt =>
            have h : (if decide (b < a) = true then ex_go (ex_blk y L.toNat) pl st w else ex_go c pl st w) = some q := h
            exact es_icmp_gt C (fun hy => hin _ _ _ _ (by rw [if_pos (decide_eq_true hy)] at h; exact (Option.some.inj h).symm)) (fun hy => hin _ _ _ _ (by rw [if_neg (by simpa using hy)] at h; exact (Option.some.inj h).symm))
          | le =>
            have h : (if decide (a ≤ b) = true then ex_go (ex_blk y L.toNat) pl st w else ex_go c pl st w) = some q := h
            exact es_icmp_le C (fun hy => hin _ _ _ _ (by rw [if_pos (decide_eq_true hy)] at h; exact (Option.some.inj h).symm)) (fun hy => hin _ _ _ _ (by rw [if_neg (by simpa using hy)] at h; exact (Option.some.inj h).symm))
    | ifCond cd L =>
      match st, h with
      | .int a :: st, h =>
        cases cd with
          | eq =>
            have h : (if decide (a = 0) = true then ex_go (ex_blk y L.toNat) pl st w else ex_go c pl st w) = some q := h
            exact es_if_eq C (fun hy => hin _ _ _ _ (by rw [if_pos (decide_eq_true hy)] at h; exact (Option.some.inj h).symm)) (fun hy => hin _ _ _ _ (by rw [if_neg (by simpa using hy)] at h; exact (Option.some.inj h).symm))
          | ne =>
            have h : (if decide (¬ a = 0) = true then ex_go (ex_blk y L.toNat) pl st w else ex_go c pl st w) = some q := h
            exact es_if_ne C (fun hy => hin _ _ _ _ (by rw [if_pos (decide_eq_true hy)] at h; exact (Option.some.inj h).symm)) (fun hy => hin _ _ _ _ (by rw [if_neg (by simpa using hy)] at h; exact (Option.some.inj h).symm))
          | lt =>
            have h : (if decide (a < 0) = true then ex_go (ex_blk y L.toNat) pl st w else ex_go c pl st w) = some q := h
            exact es_if_lt C (fun hy => hin _ _ _ _ (by rw [if_pos (decide_eq_true hy)] at h; exact (Option.some.inj h).symm)) (fun hy => hin _ _ _ _ (by rw [if_neg (by simpa using hy)] at h; exact (Option.some.inj h).symm))
          | ge =>
            have h : (if decide (0 ≤ a) = true then ex_go (ex_blk y L.toNat) pl st w else ex_go c pl st w) = some q := h
            exact es_if_ge C (fun hy => hin _ _ _ _ (by rw [if_pos (decide_eq_true hy)] at h; exact (Option.some.inj h).symm)) (fun hy => hin _ _ _ _ (by rw [if_neg (by simpa using hy)] at h; exact (Option.some.inj h).symm))
          | gt =>
            have h : (if decide (0 < a) = true then ex_go (ex_blk y L.toNat) pl st w else ex_go c pl st w) = some q := h
            exact es_if_gt C (fun hy => hin _ _ _ _ (by rw [if_pos (decide_eq_true hy)] at h; exact (Option.some.inj h).symm)) (fun hy => hin _ _ _ _ (by rw [if_neg (by simpa using hy)] at h; exact (Option.some.inj h).symm))
          | le =>
            have h : (if decide (a ≤ 0) = true then ex_go (ex_blk y L.toNat) pl st w else ex_go c pl st w) = some q := h
            exact es_if_le C (fun hy => hin _ _ _ _ (by rw [if_pos (decide_eq_true hy)] at h; exact (Option.some.inj h).symm)) (fun hy => hin _ _ _ _ (by rw [if_neg (by simpa using hy)] at h; exact (Option.some.inj h).symm))
    | tableswitch df lo hi offs =>
      match st, h with
      | .int a :: st, h =>
        have h : (if a.toInt < lo ∨ hi < a.toInt then ex_go (ex_blk y df.toNat) pl st w else ex_go (ex_blk y ((offs.toList.getD (a.toInt - lo).toNat 0).toNat)) pl st w) = some q := h
        exact es_tswitch C (fun hy => hin _ _ _ _ (by rw [if_pos hy] at h; exact (Option.some.inj h).symm)) (fun hy => hin _ _ _ _ (by rw [if_neg hy] at h; exact (Option.some.inj h).symm))
    | lookupswitch df ps =>
      match st, h with
      | .int a :: st, h =>
        cases h
        exact es_lswitch C (hin _ _ _ _ rfl)
    | getfield f =>
      match st, h with
      | .ref a :: st, h =>
        have h : ex_gf f c pl (.ref a :: st) w = some q := h
        unfold ex_gf at h
        dsimp only at h
        cases hk : ex_fk a f with
        | none => rw [hk] at h; cases h
        | some kd =>
          rw [hk] at h
          match kd, hk, h with
          | 0, hk, h => cases h; exact es_getf C (by unfold ex_fv; rw [hk]) (hin _ _ _ _ rfl)
          | 1, hk, h => cases h
          | 2, hk, h => cases h; exact es_getf C (by unfold ex_fv; rw [hk]) (hin _ _ _ _ rfl)
          | n + 3, hk, h => cases h; exact es_getf C (by unfold ex_fv; rw [hk]) (hin _ _ _ _ rfl)
    | putfield f =>
      have h : ex_pf f c pl st w = some q := h
      unfold ex_pf at h
      match st, h with
      | .int x :: .ref a :: st, h =>
        dsimp only at h
        cases hk : ex_fk a f with
        | none => rw [hk] at h; cases h
        | some kd =>
          rw [hk] at h
          match kd, hk, h with
          | 0, hk, h => cases h; exact es_putf C hk (Or.inl rfl) (hin _ _ _ _ rfl)
          | 1, hk, h => cases h
          | 2, hk, h =>
            by_cases hx : x = 0 ∨ x = 1
            · simp only [if_pos hx] at h
              cases h; exact es_putf C hk (Or.inr ⟨rfl, hx⟩) (hin _ _ _ _ rfl)
            · simp only [if_neg hx] at h
              cases h
          | n + 3, hk, h => cases h
    | getstatic f =>
      have h : (if f = 1000 ∨ f = 1001 then ex_go c pl (.ref f :: st) w else none) = some q := h
      by_cases hf : f = 1000 ∨ f = 1001
      · rw [if_pos hf] at h; cases h
        exact es_gets C hf (hin _ _ _ _ rfl)
      · rw [if_neg hf] at h; cases h
    | iaload =>
      match st, h with
      | .int i :: .ref a :: st, h =>
        have h : (match ex_ald w a i with | some x => ex_go c pl (.int x :: st) w | none => none) = some q := h
        cases ha : ex_ald w a i with
        | none => rw [ha] at h; cases h
        | some x => rw [ha] at h; cases h; exact es_iald C ha (hin _ _ _ _ rfl)
    | baload =>
      match st, h with
      | .int i :: .ref a :: st, h =>
        have h : (if ex_cls a = 13 ∧ ¬ (i < 0 ∨ ex_len a ≤ i.toNatClampNeg) then ex_go c pl (.int (w.1 a i.toNatClampNeg) :: st) w else none) = some q := h
        by_cases ha : ex_cls a = 13 ∧ ¬ (i < 0 ∨ ex_len a ≤ i.toNatClampNeg)
        · rw [if_pos ha] at h; cases h; exact es_bald C ha.1 ha.2 (hin _ _ _ _ rfl)
        · rw [if_neg ha] at h; cases h
    | iastore =>
      match st, h with
      | .int x :: .int i :: .ref a :: st, h =>
        have h : (if ex_cls a = 12 ∧ ¬ (i < 0 ∨ ex_len a ≤ i.toNatClampNeg) then ex_go c pl st (ex_up w a i.toNatClampNeg (x)) else none) = some q := h
        by_cases ha : ex_cls a = 12 ∧ ¬ (i < 0 ∨ ex_len a ≤ i.toNatClampNeg)
        · rw [if_pos ha] at h; cases h; exact es_iast C ha.1 ha.2 (hin _ _ _ _ rfl)
        · rw [if_neg ha] at h; cases h
    | bastore =>
      match st, h with
      | .int x :: .int i :: .ref a :: st, h =>
        have h : (if ex_cls a = 13 ∧ ¬ (i < 0 ∨ ex_len a ≤ i.toNatClampNeg) then ex_go c pl st (ex_up w a i.toNatClampNeg (x.toInt8.toInt32)) else none) = some q := h
        by_cases ha : ex_cls a = 13 ∧ ¬ (i < 0 ∨ ex_len a ≤ i.toNatClampNeg)
        · rw [if_pos ha] at h; cases h; exact es_bast C ha.1 ha.2 (hin _ _ _ _ rfl)
        · rw [if_neg ha] at h; cases h
    | arraylength =>
      match st, h with
      | .ref a :: st, h =>
        have h : (if a = 2000 then ex_go c pl (.int (Int32.ofNat w.2.2.1) :: st) w else none) = some q := h
        by_cases h2 : a = 2000
        · rw [if_pos h2] at h; subst h2; cases h; exact es_slen C (hin _ _ _ _ rfl)
        · rw [if_neg h2] at h; cases h
    | anewarray o =>
      match st, h with
      | [.int n], h =>
        have h : (if n = Int32.ofNat (ex_len o) ∧ ex_dy y o = true then ex_go c (pl.map (ex_scr o)) [.ref o] (ex_zr w o) else none) = some q := h
        by_cases hk : n = Int32.ofNat (ex_len o) ∧ ex_dy y o = true
        · rw [if_pos hk] at h; cases h; exact es_newa C hk.1 hk.2 (hroom _ _ _ _ rfl) (hin _ _ _ _ rfl)
        · rw [if_neg hk] at h; cases h
    | invokestatic f =>
      have h : ex_call (ex_cal d) (f / 16) (f % 16) c pl st w = some q := h
      unfold ex_call at h
      cases hs : ex_spl (f % 16) [] st with
      | none => rw [hs] at h; cases h
      | some z =>
        obtain ⟨as, rest⟩ := z
        rw [hs] at h
        dsimp only at h
        by_cases hlow : (ex_cg (f / 16) pl rest && ex_low rest) = true
        · rw [if_pos hlow] at h
          rw [Bool.and_eq_true] at hlow
          unfold ex_back at h
          cases hc : ex_cal d (f / 16) as w with
          | none => rw [hc] at h; cases h
          | some z =>
            obtain ⟨r, w1⟩ := z
            rw [hc] at h
            cases h
            exact es_call C (hcal _ _ _ _ _ hc).2.2 (hmo _ _ _ _ _ hc).1 (hmo _ _ _ _ _ hc).2 (hroom _ _ _ _ rfl) hs hlow.1 hlow.2 (hin _ _ _ _ rfl)
        · rw [if_neg hlow] at h; cases h
    | invokevirtual f =>
      have h : ex_callv (ex_cal d) (f / 16) (f % 16 + 1) c pl st w = some q := h
      unfold ex_callv at h
      cases hs : ex_spl (f % 16 + 1) [] st with
      | none => rw [hs] at h; cases h
      | some z =>
        obtain ⟨as, rest⟩ := z
        rw [hs] at h
        dsimp only at h
        cases as with
        | nil => cases h
        | cons v as =>
          cases v with
          | ref ob =>
            dsimp only at h
            by_cases hlow : ex_low rest = true
            · rw [if_pos hlow] at h
              unfold ex_back at h
              cases hc : ex_cal d (f / 16) (.ref ob :: as) w with
              | none => rw [hc] at h; cases h
              | some z =>
                obtain ⟨r, w1⟩ := z
                rw [hc] at h
                cases h
                have hc3 := hcal _ _ _ _ _ hc
                exact es_callv C hc3.2.2 (hmo _ _ _ _ _ hc).1 (hmo _ _ _ _ _ hc).2 (hroom _ _ _ _ rfl) hc3.2.1 hs hlow (hin _ _ _ _ rfl)
            · rw [if_neg hlow] at h; cases h
          | _ => cases h
    | invokeinterface x n =>
      have h : ex_vcall (ex_cal d) x n c pl st w = some q := h
      unfold ex_vcall at h
      cases hs : ex_spl (n + 1) [] st with
      | none => rw [hs] at h; cases h
      | some z =>
        obtain ⟨as, rest⟩ := z
        rw [hs] at h
        dsimp only at h
        cases as with
        | nil => cases h
        | cons v as =>
          cases v with
          | ref ob =>
            dsimp only at h
            cases hdp : ex_dsp x (ex_cls ob) with
            | none => rw [hdp] at h; cases h
            | some yy =>
              rw [hdp] at h
              dsimp only at h
              by_cases hlow : ex_low rest = true
              · rw [if_pos hlow] at h
                unfold ex_back at h
                cases hc : ex_cal d yy (.ref ob :: as) w with
                | none => rw [hc] at h; cases h
                | some z =>
                  obtain ⟨r, w1⟩ := z
                  rw [hc] at h
                  cases h
                  exact es_calli C (hcal _ _ _ _ _ hc).2.2 (hmo _ _ _ _ _ hc).1 (hmo _ _ _ _ _ hc).2 (hroom _ _ _ _ rfl) hdp hs hlow (hin _ _ _ _ rfl)
              · rw [if_neg hlow] at h; cases h
          | _ => cases h
    | ireturn =>
      match st, h with
      | [.int a], h =>
        have h : (if ex_ret y = some .int then some (.inl (some (.int a), w)) else none) = some q := h
        by_cases hr : ex_ret y = some .int
        · rw [if_pos hr] at h
          cases h
          exact ho_i _ _ rfl hr
        · rw [if_neg hr] at h; cases h
    | lreturn =>
      match st, h with
      | [.long a], h =>
        have h : (if ex_ret y = some .long then some (.inl (some (.long a), w)) else none) = some q := h
        by_cases hr : ex_ret y = some .long
        · rw [if_pos hr] at h
          cases h
          exact ho_l _ _ rfl hr
        · rw [if_neg hr] at h; cases h
    | areturn =>
      match st, h with
      | [.int a], h =>
        have h : (if a = 0 ∨ a = 1 then (if ex_ret y = some .boolean then some (.inl (some (.int a), w)) else none) else none) = some q := h
        by_cases h01 : a = 0 ∨ a = 1
        · rw [if_pos h01] at h
          by_cases hr : ex_ret y = some .boolean
          · rw [if_pos hr] at h
            cases h
            exact ho_z _ _ rfl hr h01
          · rw [if_neg hr] at h; cases h
        · rw [if_neg h01] at h; cases h
    | return_ =>
      match st, h with
      | [], h =>
        have h : (if ex_ret y = none then some (.inl (none, w)) else none) = some q := h
        by_cases hr : ex_ret y = none
        · rw [if_pos hr] at h
          cases h
          exact ho_v _ rfl hr
        · rw [if_neg hr] at h; cases h
    | _ => cases h
end EU
/-! what a run leaves: the count of arrays grows, the script stays -/
theorem ex_nx_rel {P : PW → PW → Prop} {oI : Instr → Bool} {oY : Nat → Prop} {d y : Nat} {cal : Nat → List Value → PW → Option ER} (hrefl : ∀ w, P w w) (hup : ∀ w o k x, P w (ex_up w o k x)) (hnew : ∀ w o, oI (.anewarray o) = true → P w (ex_zr w o)) (hcal : ∀ (yy : Nat) (as : List Value) (w : PW) (r : Option Value) (w1 : PW), oY yy → cal yy as w = some (r, w1) → P w w1)
    (h1 : ∀ e, oI (.invokestatic e) = true → oY (e / 16)) (h2 : ∀ e, oI (.invokevirtual e) = true → oY (e / 16)) (h3 : ∀ x n o yy, oI (.invokeinterface x n) = true → ex_dsp x (ex_cls o) = some yy → oY yy) (hblk : ∀ L, (ex_blk y L).all oI = true) {c : List Instr} {pl st : List Value} {w : PW} (hc : c.all oI = true) {q : ER ⊕ ES} (h : ex_nx d cal y (c, pl, st, w) = some q) :
    (∀ r w1, q = .inl (r, w1) → ex_nf r ∧ P w w1) ∧ (∀ c1 pl1 st1 w1, q = .inr (c1, pl1, st1, w1) → c1.all oI = true ∧ P w w1) := by
  have go : ∀ {c : List Instr} {pl st : List Value} {w1 : PW}, c.all oI = true → P w w1 → ex_go c pl st w1 = some q → (∀ r w1, q = .inl (r, w1) → ex_nf r ∧ P w w1) ∧ (∀ c1 pl1 st1 w1, q = .inr (c1, pl1, st1, w1) → c1.all oI = true ∧ P w w1) := by
    intro c pl st w1 hc hp he
    cases he
    exact ⟨fun r w1 h => (by cases h), fun c1 pl1 st1 w2 h => (by cases h; exact ⟨hc, hp⟩)⟩
  have ret : ∀ {v : Option Value}, ex_nf v → (some (.inl (v, w)) : Option (ER ⊕ ES)) = some q → (∀ r w1, q = .inl (r, w1) → ex_nf r ∧ P w w1) ∧ (∀ c1 pl1 st1 w1, q = .inr (c1, pl1, st1, w1) → c1.all oI = true ∧ P w w1) := by
    intro v hv he
    cases he
    exact ⟨fun r w1 h => (by cases h; exact ⟨hv, hrefl _⟩), fun c1 pl1 st1 w2 h => (by cases h)⟩
  have sto : ∀ {k : Nat} {v : Value} {c : List Instr} {pl r : List Value}, c.all oI = true → ex_store k v c pl r w = some q → (∀ r w1, q = .inl (r, w1) → ex_nf r ∧ P w w1) ∧ (∀ c1 pl1 st1 w1, q = .inr (c1, pl1, st1, w1) → c1.all oI = true ∧ P w w1) := by
    intro k v c pl r hc he
    unfold ex_store at he
    split at he
    · cases he
    · exact go hc (hrefl _) he
  have bck : ∀ {yy : Nat} {as : List Value} {c : List Instr} {pl r : List Value}, c.all oI = true → oY yy → ex_back (cal yy as w) c pl r = some q → (∀ r w1, q = .inl (r, w1) → ex_nf r ∧ P w w1) ∧ (∀ c1 pl1 st1 w1, q = .inr (c1, pl1, st1, w1) → c1.all oI = true ∧ P w w1) := by
    intro yy as c pl r hc hy he
    unfold ex_back at he
    cases hq : cal yy as w with
    | none => rw [hq] at he; cases he
    | some z =>
      obtain ⟨v, w1⟩ := z
      rw [hq] at he
      exact go hc (hcal _ _ _ _ _ hy hq) he
  cases c with
  | nil => cases h
  | cons i c =>
    have hci : oI i = true := by rw [List.all_cons, Bool.and_eq_true] at hc; exact hc.1
    have hct : c.all oI = true := by rw [List.all_cons, Bool.and_eq_true] at hc; exact hc.2
    have hni : ∀ x, ex_nf (some (.int x)) := fun x v h o => by cases h; intro q; cases q
    have hnl : ∀ x, ex_nf (some (.long x)) := fun x v h o => by cases h; intro q; cases q
    have hnn : ex_nf none := fun v h o => by cases h
    cases i with
    | istore k => dsimp only [ex_nx] at h; split at h <;> first | exact sto hct h | cases h
    | astore k => dsimp only [ex_nx] at h; split at h <;> first | exact sto hct h | cases h
    | lstore k =>
      dsimp only [ex_nx] at h
      split at h
      · split at h <;> first | exact sto hct h | cases h
      · cases h
    | goto L => exact go (hblk _) (hrefl _) h
    | jsr L => exact go (hblk _) (hrefl _) h
    | if_icmp cd L =>
      dsimp only [ex_nx] at h
      split at h
      · split at h <;> first | exact go (hblk _) (hrefl _) h | exact go hct (hrefl _) h
      · cases h
    | ifCond cd L =>
      dsimp only [ex_nx] at h
      split at h
      · split at h <;> first | exact go (hblk _) (hrefl _) h | exact go hct (hrefl _) h
      · cases h
    | tableswitch df lo hi offs =>
      dsimp only [ex_nx] at h
      split at h
      · split at h <;> exact go (hblk _) (hrefl _) h
      · cases h
    | lookupswitch df ps =>
      dsimp only [ex_nx] at h
      split at h
      · exact go (hblk _) (hrefl _) h
      · cases h
    | getfield f =>
      dsimp only [ex_nx] at h
      unfold ex_gf at h
      split at h
      · first | (cases h; done) | (split at h <;> first | exact go hct (hrefl _) h | cases h)
      · cases h
    | putfield f =>
      dsimp only [ex_nx] at h
      unfold ex_pf at h
      split at h
      · split at h
        · exact go hct (hup _ _ _ _) h
        · split at h
          · exact go hct (hup _ _ _ _) h
          · cases h
        · cases h
      · cases h
    | iaload =>
      dsimp only [ex_nx] at h
      split at h
      · first | (cases h; done) | (split at h <;> first | exact go hct (hrefl _) h | cases h)
      · cases h
    | iastore =>
      dsimp only [ex_nx] at h
      split at h
      · split at h
        · exact go hct (hup _ _ _ _) h
        · cases h
      · cases h
    | bastore =>
      dsimp only [ex_nx] at h
      split at h
      · split at h
        · exact go hct (hup _ _ _ _) h
        · cases h
      · cases h
    | arraylength =>
      dsimp only [ex_nx] at h
      split at h
      · split at h
        · exact go hct (hrefl _) h
        · first | (cases h; done) | (split at h <;> first | exact go hct (hrefl _) h | cases h)
      · cases h
    | anewarray o =>
      dsimp only [ex_nx] at h
      split at h
      · split at h
        · exact go hct (hnew _ _ hci) h
        · cases h
      · cases h
    | invokestatic e =>
      dsimp only [ex_nx] at h
      unfold ex_call at h
      split at h
      · split at h
        · exact bck hct (h1 _ hci) h
        · cases h
      · cases h
    | invokevirtual e =>
      dsimp only [ex_nx] at h
      unfold ex_callv at h
      split at h
      · split at h
        · split at h
          · exact bck hct (h2 _ hci) h
          · cases h
        · cases h
      · cases h
    | invokeinterface x n =>
      dsimp only [ex_nx] at h
      unfold ex_vcall at h
      split at h
      · split at h
        · split at h
          · rename_i hd
            split at h
            · exact bck hct (h3 _ _ _ _ hci hd) h
            · cases h
          · cases h
        · cases h
      · cases h
    | ireturn =>
      dsimp only [ex_nx] at h
      split at h
      · split at h
        · exact ret (hni _) h
        · cases h
      · cases h
    | areturn =>
      dsimp only [ex_nx] at h
      split at h
      · split at h
        · split at h
          · exact ret (hni _) h
          · cases h
        · cases h
      · cases h
    | lreturn =>
      dsimp only [ex_nx] at h
      split at h
      · split at h
        · exact ret (hnl _) h
        · cases h
      · cases h
    | return_ =>
      dsimp only [ex_nx] at h
      split at h
      · split at h
        · exact ret hnn h
        · cases h
      · cases h
    | _ =>
      first
        | exact go hct (hrefl _) h
        | (cases h; done)
        | (dsimp only [ex_nx, ex_ii, ex_ll, ex_lis] at h
           split at h <;> first | exact go hct (hrefl _) h | cases h)
        | (dsimp only [ex_nx] at h
           split at h
           · first | (cases h; done) | (split at h <;> first | exact go hct (hrefl _) h | cases h)
           · cases h)
        | (dsimp only [ex_nx] at h
           split at h <;> first | exact go hct (hrefl _) h | cases h)
theorem ex_run_rel {P : PW → PW → Prop} {oI : Instr → Bool} {oY : Nat → Prop} {d y : Nat} {cal : Nat → List Value → PW → Option ER} (hrefl : ∀ w, P w w) (htr : ∀ a b c, P a b → P b c → P a c) (hup : ∀ w o k x, P w (ex_up w o k x)) (hnew : ∀ w o, oI (.anewarray o) = true → P w (ex_zr w o)) (hcal : ∀ (yy : Nat) (as : List Value) (w : PW) (r : Option Value) (w1 : PW), oY yy → cal yy as w = some (r, w1) → P w w1)
    (h1 : ∀ e, oI (.invokestatic e) = true → oY (e / 16)) (h2 : ∀ e, oI (.invokevirtual e) = true → oY (e / 16)) (h3 : ∀ x n o yy, oI (.invokeinterface x n) = true → ex_dsp x (ex_cls o) = some yy → oY yy) (hblk : ∀ L, (ex_blk y L).all oI = true) : ∀ (n : Nat) (c : List Instr) (pl st : List Value) (w : PW) (r : Option Value) (w1 : PW), c.all oI = true → ex_run d cal y n (c, pl, st, w) = some (r, w1) → ex_nf r ∧ P w w1 := by
  intro n
  induction n with
  | zero => intro c pl st w r w1 hc h; cases h
  | succ n ih =>
    intro c pl st w r w1 hc h
    cases hq : ex_nx d cal y (c, pl, st, w) with
    | none => rw [ex_run, hq] at h; cases h
    | some q =>
      have hr := ex_nx_rel hrefl hup hnew hcal h1 h2 h3 hblk hc hq
      rw [ex_run, hq] at h
      cases q with
      | inl z =>
        obtain ⟨v, w2⟩ := z
        cases h
        exact hr.1 _ _ rfl
      | inr z =>
        obtain ⟨c1, pl1, st1, w2⟩ := z
        obtain ⟨a1, a2⟩ := hr.2 _ _ _ _ rfl
        obtain ⟨b1, b2⟩ := ih _ _ _ _ _ _ a1 h
        exact ⟨b1, htr _ _ _ a2 b2⟩
theorem ex_all_t {c : List Instr} : c.all (fun _ => true) = true := by
  induction c with
  | nil => rfl
  | cons i c ih => rw [List.all_cons, ih]; rfl
def ex_Mo (w w1 : PW) : Prop := w.2.1 ≤ w1.2.1 ∧ w1.2.2 = w.2.2
theorem ex_Mo_tr (a b c : PW) (h : ex_Mo a b) (h2 : ex_Mo b c) : ex_Mo a c := ⟨Nat.le_trans h.1 h2.1, h2.2.trans h.2⟩
/-- a run: the count grows -/
theorem ex_mo_run {d y : Nat} (hmo : ∀ (yy : Nat) (as : List Value) (w : PW) (r : Option Value) (w1 : PW), ex_cal d yy as w = some (r, w1) → ex_nf r ∧ ex_Mo w w1) {n : Nat} {c : List Instr} {pl st : List Value} {w : PW} {r : Option Value} {w1 : PW} (h : ex_run d (ex_cal d) y n (c, pl, st, w) = some (r, w1)) : ex_nf r ∧ ex_Mo w w1 :=
  ex_run_rel (P := ex_Mo) (oI := fun _ => true) (oY := fun _ => True) (fun _ => ⟨Nat.le_refl _, rfl⟩) ex_Mo_tr (fun _ _ _ _ => ⟨Nat.le_refl _, rfl⟩) (fun _ _ _ => ⟨Nat.le_succ _, rfl⟩) (fun yy as w r w1 _ h => (hmo yy as w r w1 h).2) (fun _ _ => trivial) (fun _ _ => trivial) (fun _ _ _ _ _ _ => trivial) (fun _ => ex_all_t) n c pl st w r w1 ex_all_t h
theorem ex_mo : ∀ (d y : Nat) (as : List Value) (w : PW) (r : Option Value) (w1 : PW), ex_cal d y as w = some (r, w1) → ex_nf r ∧ ex_Mo w w1 := by
  intro d
  induction d with
  | zero => intro y as w r w1 h; cases h
  | succ d ih =>
    intro y as w r w1 h
    have h : (if ex_okR y as = true then ex_ev d (ex_cal d) y (ex_blk y 0, ex_ent y as, [], w) else none) = some (r, w1) := h
    by_cases hR : ex_okR y as = true
    · rw [if_pos hR] at h
      obtain ⟨n, hn⟩ := ex_ev_run h
      exact ex_mo_run ih hn
    · rw [if_neg hR] at h; cases h
/-- the class's methods make nothing -/
def ex_qI (i : Instr) : Bool := match i with
  | .anewarray _ => false
  | .invokestatic e => decide (e / 16 < 92)
  | .invokevirtual e => decide (e / 16 < 92)
  | _ => true
theorem ex_q_all : ∀ y, y < 92 → (ex_bs.getD y []).all (fun q => q.2.all ex_qI) = true := by decide +kernel
theorem ex_q_dsp : ex_Dall.all (fun q => decide (q.2.2 < 92)) = true := by decide +kernel
theorem ex_q_blk {y : Nat} (hy : y < 92) (L : Nat) : (ex_blk y L).all ex_qI = true := by
  unfold ex_blk
  cases h : (ex_bs.getD y []).lookup L with
  | none => rfl
  | some b => exact List.all_eq_true.mp (ex_q_all y hy) _ (ex_lk h)
theorem ex_quiet : ∀ (d y : Nat) (as : List Value) (w : PW) (r : Option Value) (w1 : PW), y < 92 → ex_cal d y as w = some (r, w1) → w1.2 = w.2 := by
  intro d
  induction d with
  | zero => intro y as w r w1 _ h; cases h
  | succ d ih =>
    intro y as w r w1 hy h
    have h : (if ex_okR y as = true then ex_ev d (ex_cal d) y (ex_blk y 0, ex_ent y as, [], w) else none) = some (r, w1) := h
    by_cases hR : ex_okR y as = true
    · rw [if_pos hR] at h
      obtain ⟨n, hn⟩ := ex_ev_run h
      exact (ex_run_rel (P := fun w w1 => w1.2 = w.2) (oI := ex_qI) (oY := fun z => z < 92) (fun _ => rfl) (fun _ _ _ h1 h2 => h2.trans h1) (fun _ _ _ _ => rfl) (fun _ _ h => by cases h) (fun yy as w r w1 hy h => ih yy as w r w1 hy h) (fun e h => of_decide_eq_true h) (fun e h => of_decide_eq_true h) (fun x n o yy _ h => of_decide_eq_true (List.all_eq_true.mp ex_q_dsp _ (ex_Dall_in h))) (ex_q_blk hy) n _ _ _ _ _ _ (ex_q_blk hy 0) hn).2
    · rw [if_neg hR] at h; cases h
section EV
variable {p : Program} {l : Launch} {e : Env} {R : Room} {s : State} {m : MethodId} {args : Array Value} {below : List Frame} {meth : Method} {c : Code} {Q : State → Prop} {dC : Nat → ClassId} {dI : Nat → Nat → Nat} {ad0 : Nat → Nat} {cI cB : ClassId} {K : Nat × Nat × Nat} {y d : Nat} {code : List Instr} {pl st : List Value} {w : PW}
theorem ex_room_le {w w1 : PW} (h : w.2.1 ≤ w1.2.1) (hr : ex_kc K w1 ≤ R.cells ∧ ex_ks K w1 ≤ R.slots) : ex_kc K w ≤ R.cells ∧ ex_ks K w ≤ R.slots := by
  have h1 : K.1 + (w1.2.1 - K.2.2) ≤ R.cells := hr.1
  have h2 : K.2.1 + 64 * (w1.2.1 - K.2.2) ≤ R.slots := hr.2
  show K.1 + (w.2.1 - K.2.2) ≤ R.cells ∧ K.2.1 + 64 * (w.2.1 - K.2.2) ≤ R.slots
  omega
theorem es_run (l : Launch) (hcal : ∀ (yy : Nat) (as : List Value) (w : PW) (r : Option Value) (w1 : PW), ex_cal d yy as w = some (r, w1) → d ≠ 0 ∧ ex_okR yy as = true ∧ ex_Con l d yy as w r w1)
    (C0 : ex_Fix p l e R s m args c dC dI ad0 cI cB y (d + 1)) {r : Option Value} {w1 : PW} (hroom : ex_kc K w1 ≤ R.cells ∧ ex_ks K w1 ≤ R.slots)
    (ho_i : ∀ (c1 : List Instr) (pl : List Value) (a : Int32), r = some (.int a) → ex_ret y = some .int → ex_G p l e R s m args below meth c Q dC dI ad0 cI cB K y (.ireturn :: c1) pl [.int a] w1) (ho_l : ∀ (c1 : List Instr) (pl : List Value) (a : Int64), r = some (.long a) → ex_ret y = some .long → ex_G p l e R s m args below meth c Q dC dI ad0 cI cB K y (.lreturn :: c1) pl [.long a] w1)
    (ho_z : ∀ (c1 : List Instr) (pl : List Value) (a : Int32), r = some (.int a) → ex_ret y = some .boolean → (a = 0 ∨ a = 1) → ex_G p l e R s m args below meth c Q dC dI ad0 cI cB K y (.areturn :: c1) pl [.int a] w1) (ho_v : ∀ (c1 : List Instr) (pl : List Value), r = none → ex_ret y = none → ex_G p l e R s m args below meth c Q dC dI ad0 cI cB K y (.return_ :: c1) pl [] w1) :
    ∀ (n : Nat) (code : List Instr) (pl st : List Value) (w : PW), ex_run d (ex_cal d) y n (code, pl, st, w) = some (r, w1) → ex_G p l e R s m args below meth c Q dC dI ad0 cI cB K y code pl st w := by
  intro n
  induction n with
  | zero => intro code pl st w h; cases h
  | succ n ih =>
    intro code pl st w h
    cases hq : ex_nx d (ex_cal d) y (code, pl, st, w) with
    | none => rw [ex_run, hq] at h; cases h
    | some q =>
      refine es_all C0 hcal (ex_mo d) hq ?_ ?_ ?_ ?_ ?_ ?_
      · intro c1 pl1 st1 w2 he
        subst he
        rw [ex_run, hq] at h
        exact ex_room_le (ex_mo_run (ex_mo d) h).2.1 hroom
      · intro c1 pl1 st1 w2 he
        subst he
        rw [ex_run, hq] at h
        exact ih c1 pl1 st1 w2 h
      · intro c1 a he hr
        subst he
        rw [ex_run, hq] at h
        cases h
        exact ho_i c1 pl a rfl hr
      · intro c1 a he hr
        subst he
        rw [ex_run, hq] at h
        cases h
        exact ho_l c1 pl a rfl hr
      · intro c1 a he hr h01
        subst he
        rw [ex_run, hq] at h
        cases h
        exact ho_z c1 pl a rfl hr h01
      · intro c1 he hr
        subst he
        rw [ex_run, hq] at h
        cases h
        exact ho_v c1 pl rfl hr
end EV
theorem ex_lay_args (ad : Nat → Nat) (as : List Value) (h : ∀ v ∈ as, ex_isv v = true) (i : Nat) : ∀ q ∈ ex_asc ad i (ex_lay as), q ∈ lv_args i (as.map (ex_tv ad)) := by
  induction as generalizing i with
  | nil => intro q hq; cases hq
  | cons v r ih =>
    have hr := fun u hu => h u (List.mem_cons_of_mem _ hu)
    have hv := h v List.mem_cons_self
    intro q hq
    cases v with
    | int x =>
      have hq : q ∈ (i, Value.int x) :: ex_asc ad (i + 1) (ex_lay r) := hq
      rcases List.mem_cons.mp hq with rfl | hq
      · exact List.mem_cons_self
      · exact List.mem_cons_of_mem _ (ih hr (i + 1) q hq)
    | long x =>
      have hq : q ∈ (i, Value.long x) :: ex_asc ad (i + 1 + 1) (ex_lay r) := hq
      rcases List.mem_cons.mp hq with rfl | hq
      · exact List.mem_cons_self
      · exact List.mem_cons_of_mem _ (ih hr (i + 2) q hq)
    | ref x =>
      have hq : q ∈ (i, Value.ref (ad x)) :: ex_asc ad (i + 1) (ex_lay r) := hq
      rcases List.mem_cons.mp hq with rfl | hq
      · exact List.mem_cons_self
      · exact List.mem_cons_of_mem _ (ih hr (i + 1) q hq)
    | _ => cases hv
theorem ex_asc_pad (ad : Nat → Nat) (l : List Value) (n i : Nat) : ex_asc ad i (l ++ List.replicate n .null) = ex_asc ad i l := by
  induction l generalizing i with
  | nil =>
    induction n generalizing i with
    | zero => rfl
    | succ n ih => exact ih (i + 1)
  | cons v r ih =>
    show (if ex_isv v then (i, ex_tv ad v) :: ex_asc ad (i + 1) (r ++ _) else ex_asc ad (i + 1) (r ++ _)) = (if ex_isv v then _ else _)
    rw [ih]
theorem ex_lay_len (ad : Nat → Nat) (as : List Value) (h : ∀ v ∈ as, ex_isv v = true) : (ex_lay as).length = (lg_sl (as.map (ex_tv ad))).length := by
  induction as with
  | nil => rfl
  | cons v r ih =>
    have hr := ih fun u hu => h u (List.mem_cons_of_mem _ hu)
    have hv := h v List.mem_cons_self
    cases v with
    | int x => show (ex_lay r).length + 1 = ([Slot.val (Value.int x)] ++ lg_sl (r.map (ex_tv ad))).length; rw [List.length_append, ← hr]; simp; omega
    | long x => show (ex_lay r).length + 1 + 1 = ([Slot.val (Value.long x), Slot.second] ++ lg_sl (r.map (ex_tv ad))).length; rw [List.length_append, ← hr]; simp; omega
    | ref x => show (ex_lay r).length + 1 = ([Slot.val (Value.ref (ad x))] ++ lg_sl (r.map (ex_tv ad))).length; rw [List.length_append, ← hr]; simp; omega
    | _ => cases hv
theorem ex_lay_mark (as : List Value) (n : Nat) : ∀ (j : Nat) (x : Int64), (ex_lay as ++ List.replicate n .null)[j]? = some (.long x) → (ex_lay as ++ List.replicate n .null)[j + 1]? = some (.retAddr 0) := by
  induction as with
  | nil =>
    intro j x h
    rw [show ex_lay [] = [] from rfl, List.nil_append, List.getElem?_replicate] at h
    split at h <;> cases h
  | cons v r ih =>
    intro j x h
    cases v with
    | long z =>
      cases j with
      | zero => rfl
      | succ j =>
        cases j with
        | zero => cases h
        | succ j => exact ih j x h
    | _ =>
      cases j with
      | zero => cases h
      | succ j => exact ih j x h
/-- THE SOUNDNESS: what the pure machine answers at depth d is the method's contract in the room of d frames -/
theorem ex_sound (l : Launch) : ∀ (d y : Nat) (as : List Value) (w : PW) (r : Option Value) (w1 : PW), ex_cal d y as w = some (r, w1) → d ≠ 0 ∧ ex_okR y as = true ∧ ex_Con l d y as w r w1 := by
  intro d
  induction d with
  | zero => intro y as w r w1 h; cases h
  | succ d ih =>
    intro y as w r w1 h
    have h : (if ex_okR y as = true then ex_ev d (ex_cal d) y (ex_blk y 0, ex_ent y as, [], w) else none) = some (r, w1) := h
    by_cases hR : ex_okR y as = true
    · rw [if_pos hR] at h
      refine ⟨Nat.succ_ne_zero d, hR, ?_⟩
      have hall : ∀ v ∈ as, ex_isv v = true := by
        unfold ex_okR at hR
        rw [Bool.and_eq_true] at hR
        exact List.all_eq_true.mp hR.1
      obtain ⟨n, hn⟩ := ex_ev_run h
      have hy : y < 104 := by
        rcases Nat.lt_or_ge y 104 with hy | hy
        · exact hy
        · have hb : ex_blk y 0 = [] := by
            rcases Nat.eq_or_lt_of_le hy with h4 | h4
            · subst h4; rfl
            · unfold ex_blk
              rw [List.getD_eq_getElem?_getD, List.getElem?_eq_none (Nat.le_trans (show ex_bs.length ≤ 105 by decide +kernel) h4)]
              rfl
          rw [hb] at hn
          cases n with
          | zero => cases hn
          | succ n =>
            rw [ex_run, show ex_nx d (ex_cal d) y ([], ex_ent y as, [], w) = none from rfl] at hn
            cases hn
      have hm := kw_all hy
      intro dC dI ad cI cB sz
      refine Met.ofW (cc := ex_B y) (maxL := ex_L y) (ret := ex_ret y) hm.2.2.2.2.1 rfl ?_
      intro p e s m args below meth c s₁ B hml hv
      obtain ⟨rfl, h0, hP, hCx, hIn, hSc⟩ := hv
      subst h0
      have hts := atoms_spec (ws := ex_ws y) B.pre
      have hown : s.vm.findClass (ex_Rn (ex_C y)) = some m.cls := by rw [← hm.2.2.1]; exact findClass_of_methodNamed B.named
      have hmo := ex_mo_run (ex_mo d) hn
      have C0 : ex_Fix p l e (headSpec (ex_ws y) (ex_Rm (d + 1) (w1.2.1 - w.2.1))).room s m (as.map (ex_tv ad)).toArray c dC dI ad cI cB y (d + 1) :=
        ⟨B.exec, B.bytes, hml, hown, fun w h => hts w (List.mem_cons_of_mem _ h), hCx, ⟨Nat.le_refl _, Nat.le_refl _, fun q => absurd q (by omega)⟩, hm.2.2.2.1⟩
      have hk : ex_kc (0, 0, w.2.1) w1 = w1.2.1 - w.2.1 := Nat.zero_add _
      have hs : ex_ks (0, 0, w.2.1) w1 = 64 * (w1.2.1 - w.2.1) := Nat.zero_add _
      have hk0 : ex_kc (0, 0, w.2.1) w = 0 := by show 0 + (w.2.1 - w.2.1) = 0; omega
      have hs0 : ex_ks (0, 0, w.2.1) w = 0 := by show 0 + 64 * (w.2.1 - w.2.1) = 0; omega
      have hG := es_run (below := below) (meth := meth) (K := (0, 0, w.2.1)) (Q := MQ below (ex_Post dC dI ad cI cB s.heap.size y r w1) (as.map (ex_tv ad)).toArray s (ex_kc (0, 0, w.2.1) w1) (ex_ks (0, 0, w.2.1) w1) (ex_AA ad s.heap.size)) l ih C0 (r := r) (w1 := w1) ⟨Nat.le_of_eq hk, Nat.le_of_eq hs⟩
        (fun c1 pl a he hr => by subst he; exact es_iret C0 B.notSynchronized (B.returns.trans hr))
        (fun c1 pl a he hr => by subst he; exact es_lret C0 B.notSynchronized (B.returns.trans hr))
        (fun c1 pl a he hr h01 => by subst he; exact es_zret C0 B.notSynchronized (B.returns.trans hr) h01)
        (fun c1 pl he hr => by subst he; exact es_vret C0 B.notSynchronized (B.returns.trans hr)) n _ _ _ _ hn
      rw [lg_entry_eq]
      have hfit : (lg_sl (as.map (ex_tv ad))).length ≤ ex_L y := by
        unfold ex_okR at hR
        rw [Bool.and_eq_true, Bool.and_eq_true] at hR
        rw [← ex_lay_len ad as hall]
        exact of_decide_eq_true hR.2.1
      have hent := lv_entry (as.map (ex_tv ad)) (n := ex_L y) hfit
      have key : ∀ ls : Array Slot, ex_LR ad (ex_L y) ls (ex_ent y as) → W p l e (headSpec (ex_ws y) (ex_Rm (d + 1) (w1.2.1 - w.2.1))).room s m (as.map (ex_tv ad)).toArray below meth c s.heap [] 0 0 (MQ below (ex_Post dC dI ad cI cB s.heap.size y r w1) (as.map (ex_tv ad)).toArray s (w1.2.1 - w.2.1) (64 * (w1.2.1 - w.2.1)) (ex_AA ad s.heap.size)) (F0 m 0 ls (([] : List Value).map (ex_tv ad))) := fun ls hL => by
        have h9 := hG ad 0 s.heap [] ls ⟨fun _ => Or.inl rfl, hIn, Nat.le_refl _, hSc⟩ (ex_ok_blk y 0) hP va_S.rf hL
        rw [hk0, hs0, hk, hs] at h9
        exact h9
      refine key _ ⟨?_, ?_, ?_⟩
      · unfold ex_ent
        rw [List.length_append, List.length_replicate, ex_lay_len ad as hall]
        omega
      · refine lv_has.less hent ?_
        unfold ex_ent
        rw [ex_asc_pad]
        exact ex_lay_args ad as hall 0
      · exact ex_lay_mark as _
    · rw [if_neg hR] at h; cases h
