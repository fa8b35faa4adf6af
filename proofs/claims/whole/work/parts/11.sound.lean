/-! natives, returns, and THE SOUNDNESS of the pure machine -/
theorem ex_nfw : nativeFrameWords "java/lang/System" "arraycopy" 5 + 11 ≤ 84 := by decide +kernel
theorem ex_cpy_1 {w : PW} {a b n : Nat} : (ex_cpy w a b n).1 b = va_cpy (w.1 a) (w.1 b) 0 0 n := by
  funext k
  show (if b = b ∧ k < n then w.1 a k else w.1 b k) = (if 0 ≤ k ∧ k < 0 + n then w.1 a (0 + (k - 0)) else w.1 b k)
  simp
theorem ex_cpy_2 {w : PW} {a b n o : Nat} (h : o ≠ b) : (ex_cpy w a b n).1 o = w.1 o := by
  funext k
  show (if o = b ∧ k < n then w.1 a k else w.1 o k) = _
  rw [if_neg (fun q => h q.1)]
section EU
variable {p : Program} {l : Launch} {e : Env} {R : Room} {s : State} {m : MethodId} {args : Array Value} {below : List Frame} {meth : Method} {c : Code} {Q : State → Prop} {dC : Nat → ClassId} {dI : Nat → Nat → Nat} {ad : Nat → Nat} {cI cB : ClassId} {y d : Nat} {code : List Instr} {pl st : List Value} {w : PW}
theorem es_max (C : ex_Fix p l e R s m args c dC dI ad cI cB y d) (h2d : 2 ≤ d) {a b : Int32} (hlow : ex_low st = true) (k : ex_G p l e R s m args below meth c Q dC dI ad cI cB y (code) (pl) (.int (if a < b then b else a) :: st) (w)) : ex_G p l e R s m args below meth c Q dC dI ad cI cB y (.invokedynamic 0 :: code) (pl) (.int b :: .int a :: st) (w) := by
  intro pc H locs ls hok hP hS hL
  obtain ⟨hx, hb, hml, hown, hts, hC, hIn, hR, hcl⟩ := C
  obtain ⟨j, len, hd, hi, ho⟩ := ex_ok_cons rfl hok
  unfold ex_okI at hi
  dsimp only at hi
  cases j with
  | invokestatic ix =>
    simp only [Bool.and_eq_true, beq_iff_eq] at hi
    obtain ⟨h3, rfl⟩ := hi
    have hq := kq_J hcl _ (ex_lk h3)
    have hml2 : c.maxLocals = ls.size := by rw [hml, hL.2.1.1]
    have hfr : 1 ≤ R.frames := by rw [hR]; exact Nat.le_trans (by decide : 1 ≤ 2) h2d
    have hlo : 84 ≤ R.locals := by rw [hR]; show 84 ≤ 42 * d; omega
    have hlink : Jvm.Cond.methodLink (ex_Rn (ex_C y)) ix Lib.Math.max.name ∈ ex_tb := by
      rcases hq with ⟨h, q⟩ | ⟨h, q⟩ | ⟨h, q⟩ <;> first | exact q | cases h
    have hcat := ex_low_cat (ad := ad) hlow
    exact va_mmax hx hb hml2 hown (hts _ hlink) (hts _ ks_max.1) (hts _ ks_math) (hts _ ks_max.2) hfr (by omega) (Nat.zero_le _) (Nat.zero_le _) hd (k _ H locs ls ho hP hS hL)
  | _ => cases hi
theorem es_min (C : ex_Fix p l e R s m args c dC dI ad cI cB y d) (h2d : 2 ≤ d) {a b : Int32} (hlow : ex_low st = true) (k : ex_G p l e R s m args below meth c Q dC dI ad cI cB y (code) (pl) (.int (if b < a then b else a) :: st) (w)) : ex_G p l e R s m args below meth c Q dC dI ad cI cB y (.invokedynamic 1 :: code) (pl) (.int b :: .int a :: st) (w) := by
  intro pc H locs ls hok hP hS hL
  obtain ⟨hx, hb, hml, hown, hts, hC, hIn, hR, hcl⟩ := C
  obtain ⟨j, len, hd, hi, ho⟩ := ex_ok_cons rfl hok
  unfold ex_okI at hi
  dsimp only at hi
  cases j with
  | invokestatic ix =>
    simp only [Bool.and_eq_true, beq_iff_eq] at hi
    obtain ⟨h3, rfl⟩ := hi
    have hq := kq_J hcl _ (ex_lk h3)
    have hml2 : c.maxLocals = ls.size := by rw [hml, hL.2.1.1]
    have hfr : 1 ≤ R.frames := by rw [hR]; exact Nat.le_trans (by decide : 1 ≤ 2) h2d
    have hlo : 84 ≤ R.locals := by rw [hR]; show 84 ≤ 42 * d; omega
    have hlink : Jvm.Cond.methodLink (ex_Rn (ex_C y)) ix Lib.Math.min.name ∈ ex_tb := by
      rcases hq with ⟨h, q⟩ | ⟨h, q⟩ | ⟨h, q⟩ <;> first | exact q | cases h
    have hcat := ex_low_cat (ad := ad) hlow
    exact va_mmin hx hb hml2 hown (hts _ hlink) (hts _ ks_min.1) (hts _ ks_math) (hts _ ks_min.2) hfr (by omega) (Nat.zero_le _) (Nat.zero_le _) hd (k _ H locs ls ho hP hS hL)
  | _ => cases hi
theorem es_copy (C : ex_Fix p l e R s m args c dC dI ad cI cB y d) (h2d : 2 ≤ d) {n : Int32} {a b : Nat} (ha : ex_cls a = 12) (hb12 : ex_cls b = 12) (hn : ¬ n < 0) (hla : n.toNatClampNeg ≤ ex_len a) (hlb : n.toNatClampNeg ≤ ex_len b) (k : ex_G p l e R s m args below meth c Q dC dI ad cI cB y (code) (pl) ([]) (ex_cpy w a b n.toNatClampNeg)) : ex_G p l e R s m args below meth c Q dC dI ad cI cB y (.invokedynamic 2 :: code) (pl) ([.int n, .int 0, .ref b, .int 0, .ref a]) (w) := by
  intro pc H locs ls hok hP hS hL
  obtain ⟨hx, hb, hml, hown, hts, hC, hIn, hR, hcl⟩ := C
  obtain ⟨j, len, hd, hi, ho⟩ := ex_ok_cons rfl hok
  unfold ex_okI at hi
  dsimp only at hi
  cases j with
  | invokestatic ix =>
    simp only [Bool.and_eq_true, beq_iff_eq] at hi
    obtain ⟨h3, rfl⟩ := hi
    have hq := kq_J hcl _ (ex_lk h3)
    have hml2 : c.maxLocals = ls.size := by rw [hml, hL.2.1.1]
    have hfr : 1 ≤ R.frames := by rw [hR]; exact Nat.le_trans (by decide : 1 ≤ 2) h2d
    have hlo : 84 ≤ R.locals := by rw [hR]; show 84 ≤ 42 * d; omega
    have hlink : Jvm.Cond.methodLink (ex_Rn (ex_C y)) ix arraycopyName ∈ ex_tb := by
      rcases hq with ⟨h, q⟩ | ⟨h, q⟩ | ⟨h, q⟩ <;> first | exact q | cases h
    have he1 : (ex_cel ad cI cB w)[a]? = some (ad a, .inl (cI, ex_len a, .inl (w.1 a))) := by rw [ex_cel_at (ex_cls_lt (by omega)), ex_en_ia ha]
    have he2 : (ex_cel ad cI cB w)[b]? = some (ad b, .inl (cI, ex_len b, .inl (w.1 b))) := by rw [ex_cel_at (ex_cls_lt (by omega)), ex_en_ia hb12]
    have hset : ex_cel ad cI cB (ex_cpy w a b n.toNatClampNeg) = (ex_cel ad cI cB w).set b (ad b, .inl (cI, ex_len b, .inl (va_cpy (w.1 a) (w.1 b) 0 0 n.toNatClampNeg))) := by
      rw [ex_cel_set (w' := ex_cpy w a b n.toNatClampNeg) (ex_cls_lt (by omega : ex_cls b < 99)) (fun o' hne => ex_en_same (ex_cpy_2 hne) rfl), ex_en_ia hb12, ex_cpy_1]
    exact va_copyi hx hb hml2 hown (hts _ hlink) (hts _ ks_copy.1) (hts _ ks_copy.2.1) (hts _ ks_copy.2.2) hC.1 hP (ex_vD hIn) hS a b 0 0 (ty := .int) he1 he2 rfl rfl rfl (sp := 0) (dp := 0) (by decide) (by decide) hn (by show 0 + n.toNatClampNeg ≤ _; omega) (by show 0 + n.toNatClampNeg ≤ _; omega) (fun _ _ => rfl) hfr (by have := ex_nfw; show 0 + _ ≤ _; omega) hd
      (fun H1 locs1 hP1 hD1 hS1 => k _ H1 locs1 ls ho (by rw [hset]; exact hP1) hS1 hL)
  | _ => cases hi
theorem es_iret (C : ex_Fix p l e R s m args c dC dI ad cI cB y d) (hlk : meth.locks = false) (hr : meth.sig.returnType = some .int) {x : Int32} : ex_G p l e R s m args below meth c (MQ below (ex_Post dC dI ad cI cB s.heap.size (some (.int x)) w) args s 0 0 (ex_AA ad s.heap.size)) dC dI ad cI cB y (.ireturn :: code) (pl) ([.int x]) (w) := by
  intro pc H locs ls hok hP hS hL
  obtain ⟨hx, hb, hml, hown, hts, hC, hIn, hR, hcl⟩ := C
  obtain ⟨j, len, hd, hi, ho⟩ := ex_ok_cons rfl hok
  have hi : (decide (j = .ireturn) && len == 1) = true := hi
  simp only [Bool.and_eq_true, decide_eq_true_eq, beq_iff_eq] at hi
  obtain ⟨rfl, rfl⟩ := hi
  exact W.iret hx hb hr (fun t ht hW => ⟨rfl, by rw [ht]; exact hP, hS.F ht⟩) hS.2.2 hd hlk
theorem es_lret (C : ex_Fix p l e R s m args c dC dI ad cI cB y d) (hlk : meth.locks = false) (hr : meth.sig.returnType = some .long) {x : Int64} : ex_G p l e R s m args below meth c (MQ below (ex_Post dC dI ad cI cB s.heap.size (some (.long x)) w) args s 0 0 (ex_AA ad s.heap.size)) dC dI ad cI cB y (.lreturn :: code) (pl) ([.long x]) (w) := by
  intro pc H locs ls hok hP hS hL
  obtain ⟨hx, hb, hml, hown, hts, hC, hIn, hR, hcl⟩ := C
  obtain ⟨j, len, hd, hi, ho⟩ := ex_ok_cons rfl hok
  have hi : (decide (j = .lreturn) && len == 1) = true := hi
  simp only [Bool.and_eq_true, decide_eq_true_eq, beq_iff_eq] at hi
  obtain ⟨rfl, rfl⟩ := hi
  exact W.lret hx hb hr (fun t ht hW => ⟨rfl, by rw [ht]; exact hP, hS.F ht⟩) hS.2.2 hd hlk
theorem es_zret (C : ex_Fix p l e R s m args c dC dI ad cI cB y d) (hlk : meth.locks = false) (hr : meth.sig.returnType = some .boolean) {x : Int32} (h01 : x = 0 ∨ x = 1) : ex_G p l e R s m args below meth c (MQ below (ex_Post dC dI ad cI cB s.heap.size (some (.int x)) w) args s 0 0 (ex_AA ad s.heap.size)) dC dI ad cI cB y (.areturn :: code) (pl) ([.int x]) (w) := by
  intro pc H locs ls hok hP hS hL
  obtain ⟨hx, hb, hml, hown, hts, hC, hIn, hR, hcl⟩ := C
  obtain ⟨j, len, hd, hi, ho⟩ := ex_ok_cons rfl hok
  have hi : (decide (j = .ireturn) && len == 1) = true := hi
  simp only [Bool.and_eq_true, decide_eq_true_eq, beq_iff_eq] at hi
  obtain ⟨rfl, rfl⟩ := hi
  exact W.zret hx hb hr (by rcases h01 with rfl | rfl <;> decide) (fun t ht hW => ⟨rfl, by rw [ht]; exact hP, hS.F ht⟩) hS.2.2 hd hlk
theorem es_vret (C : ex_Fix p l e R s m args c dC dI ad cI cB y d) (hlk : meth.locks = false) (hr : meth.sig.returnType = none) : ex_G p l e R s m args below meth c (MQ below (ex_Post dC dI ad cI cB s.heap.size (none) w) args s 0 0 (ex_AA ad s.heap.size)) dC dI ad cI cB y (.return_ :: code) (pl) ([]) (w) := by
  intro pc H locs ls hok hP hS hL
  obtain ⟨hx, hb, hml, hown, hts, hC, hIn, hR, hcl⟩ := C
  obtain ⟨j, len, hd, hi, ho⟩ := ex_ok_cons rfl hok
  have hi : (decide (j = .return_) && len == 1) = true := hi
  simp only [Bool.and_eq_true, decide_eq_true_eq, beq_iff_eq] at hi
  obtain ⟨rfl, rfl⟩ := hi
  exact W.vret hx hb hr (fun t ht hW => ⟨rfl, by rw [ht]; exact hP, hS.F ht⟩) hS.2.2 hd hlk
theorem es_all (C : ex_Fix p l e R s m args c dC dI ad cI cB y (d + 1)) (hlk : meth.locks = false) (hrt : meth.sig.returnType = ex_ret y) (hcal : ∀ (yy : Nat) (as : List Value) (w : PW) (r : Option Value) (w1 : PW), ex_cal d yy as w = some (r, w1) → d ≠ 0 ∧ ex_okR yy as = true ∧ ex_Con l d yy as w r w1) {q : ER ⊕ ES} (h : ex_nx d (ex_cal d) y (code, pl, st, w) = some q) (hin : ∀ c1 pl1 st1 w1, q = .inr (c1, pl1, st1, w1) → ex_G p l e R s m args below meth c Q dC dI ad cI cB y (c1) (pl1) (st1) (w1)) (hout : ∀ r w1, q = .inl (r, w1) → Q = (MQ below (ex_Post dC dI ad cI cB s.heap.size r w1) args s 0 0 (ex_AA ad s.heap.size))) : ex_G p l e R s m args below meth c Q dC dI ad cI cB y (code) (pl) (st) (w) := by
  cases code with
  | nil => cases h
  | cons i c =>
    cases i with
    | iload k =>
      have h : (match pl.getD k .null with | .int x => ex_go c pl (.int x :: st) w | _ => none) = some q := h
      cases hg : pl.getD k .null with
      | int x =>
        rw [hg] at h
        cases h
        exact es_iload C hg (hin _ _ _ _ rfl)
      | _ => rw [hg] at h; cases h
    | aload k =>
      have h : (match pl.getD k .null with | .ref x => ex_go c pl (.ref x :: st) w | _ => none) = some q := h
      cases hg : pl.getD k .null with
      | ref x =>
        rw [hg] at h
        cases h
        exact es_aload C hg (hin _ _ _ _ rfl)
      | _ => rw [hg] at h; cases h
    | lload k =>
      have h : (match pl.getD k .null with | .long x => ex_go c pl (.long x :: st) w | _ => none) = some q := h
      cases hg : pl.getD k .null with
      | long x =>
        rw [hg] at h
        cases h
        exact es_lload C hg (hin _ _ _ _ rfl)
      | _ => rw [hg] at h; cases h
    | istore k =>
      cases st with
      | nil => cases h
      | cons v st =>
        cases v with
        | int x =>
          have h : ex_store k (.int x) c pl st w = some q := h
          unfold ex_store at h
          cases hg : pl[k]? with
          | none => rw [List.getD_eq_getElem?_getD, hg] at h; cases h
          | some a =>
            have hg2 : pl.getD k (.retAddr 0) = a := by rw [List.getD_eq_getElem?_getD, hg]; rfl
            rw [hg2] at h
            cases a with
            | retAddr n => cases h
            | _ => cases h; exact es_istore C hg (by intro n q; cases q) (hin _ _ _ _ rfl)
        | _ => cases h
    | astore k =>
      cases st with
      | nil => cases h
      | cons v st =>
        cases v with
        | ref x =>
          have h : ex_store k (.ref x) c pl st w = some q := h
          unfold ex_store at h
          cases hg : pl[k]? with
          | none => rw [List.getD_eq_getElem?_getD, hg] at h; cases h
          | some a =>
            have hg2 : pl.getD k (.retAddr 0) = a := by rw [List.getD_eq_getElem?_getD, hg]; rfl
            rw [hg2] at h
            cases a with
            | retAddr n => cases h
            | _ => cases h; exact es_astore C hg (by intro n q; cases q) (hin _ _ _ _ rfl)
        | _ => cases h
    | lstore k =>
      cases st with
      | nil => cases h
      | cons v st =>
        cases v with
        | long x =>
          have h : (if k + 1 < pl.length then ex_store k (.long x) c (pl.set (k + 1) (.retAddr 0)) st w else none) = some q := h
          by_cases hk : k + 1 < pl.length
          · rw [if_pos hk] at h
            unfold ex_store at h
            have hkl : k < pl.length := by omega
            have hg : pl[k]? = some pl[k] := List.getElem?_eq_getElem hkl
            have hg2 : (pl.set (k + 1) (.retAddr 0)).getD k (.retAddr 0) = pl[k] := by rw [List.getD_eq_getElem?_getD, List.getElem?_set, if_neg (by omega), hg]; rfl
            rw [hg2] at h
            generalize pl[k] = a at h hg
            cases a with
            | retAddr n => cases h
            | _ => cases h; exact es_lstore C hg (by intro n q; cases q) hk (hin _ _ _ _ rfl)
          · rw [if_neg hk] at h; cases h
        | _ => cases h
    | iinc k n =>
      have h : (match pl.getD k .null with | .int x => ex_go c (pl.set k (.int (x + Int32.ofInt n))) st w | _ => none) = some q := h
      cases hg : pl.getD k .null with
      | int x =>
        rw [hg] at h
        cases h
        exact es_iinc C hg (hin _ _ _ _ rfl)
      | _ => rw [hg] at h; cases h
    | sipush n =>
      cases h
      exact es_push C (hin _ _ _ _ rfl)
    | goto_w n =>
      cases h
      exact es_lpush C (hin _ _ _ _ rfl)
    | iadd =>
      match st, h with
      | .int b :: .int a :: st, h =>
        cases h
        exact es_iadd C (hin _ _ _ _ rfl)
    | isub =>
      match st, h with
      | .int b :: .int a :: st, h =>
        cases h
        exact es_isub C (hin _ _ _ _ rfl)
    | imul =>
      match st, h with
      | .int b :: .int a :: st, h =>
        cases h
        exact es_imul C (hin _ _ _ _ rfl)
    | iand =>
      match st, h with
      | .int b :: .int a :: st, h =>
        cases h
        exact es_iand C (hin _ _ _ _ rfl)
    | ior =>
      match st, h with
      | .int b :: .int a :: st, h =>
        cases h
        exact es_ior C (hin _ _ _ _ rfl)
    | ixor =>
      match st, h with
      | .int b :: .int a :: st, h =>
        cases h
        exact es_ixor C (hin _ _ _ _ rfl)
    | ishl =>
      match st, h with
      | .int b :: .int a :: st, h =>
        cases h
        exact es_ishl C (hin _ _ _ _ rfl)
    | ishr =>
      match st, h with
      | .int b :: .int a :: st, h =>
        cases h
        exact es_ishr C (hin _ _ _ _ rfl)
    | ladd =>
      match st, h with
      | .long b :: .long a :: st, h =>
        cases h
        exact es_ladd C (hin _ _ _ _ rfl)
    | lmul =>
      match st, h with
      | .long b :: .long a :: st, h =>
        cases h
        exact es_lmul C (hin _ _ _ _ rfl)
    | land =>
      match st, h with
      | .long b :: .long a :: st, h =>
        cases h
        exact es_land C (hin _ _ _ _ rfl)
    | lshr =>
      match st, h with
      | .int b :: .long a :: st, h =>
        cases h
        exact es_lshr C (hin _ _ _ _ rfl)
    | lushr =>
      match st, h with
      | .int b :: .long a :: st, h =>
        cases h
        exact es_lushr C (hin _ _ _ _ rfl)
    | idiv =>
      match st, h with
      | .int b :: .int a :: st, h =>
        have h : (if b = 0 then none else ex_go c pl (.int (a / b) :: st) w) = some q := h
        by_cases hz : b = 0
        · rw [if_pos hz] at h; cases h
        · rw [if_neg hz] at h
          cases h
          exact es_idiv C hz (hin _ _ _ _ rfl)
    | irem =>
      match st, h with
      | .int b :: .int a :: st, h =>
        have h : (if b = 0 then none else ex_go c pl (.int (a - a / b * b) :: st) w) = some q := h
        by_cases hz : b = 0
        · rw [if_pos hz] at h; cases h
        · rw [if_neg hz] at h
          cases h
          exact es_irem C hz (hin _ _ _ _ rfl)
    | i2l =>
      match st, h with
      | .int a :: st, h =>
        cases h
        exact es_i2l C (hin _ _ _ _ rfl)
    | l2i =>
      match st, h with
      | .long a :: st, h =>
        cases h
        exact es_l2i C (hin _ _ _ _ rfl)
    | i2b =>
      match st, h with
      | .int a :: st, h =>
        cases h
        exact es_i2b C (hin _ _ _ _ rfl)
    | pop =>
      match st, h with
      | .int a :: st, h =>
        cases h
        exact es_pop C (hin _ _ _ _ rfl)
    | dup =>
      match st, h with
      | .ref a :: st, h => cases h; exact es_dup_r C (hin _ _ _ _ rfl)
      | .int a :: st, h => cases h; exact es_dup_i C (hin _ _ _ _ rfl)
    | dup2 =>
      match st, h with
      | .int a :: .ref b :: st, h =>
        cases h
        exact es_dup2 C (hin _ _ _ _ rfl)
    | goto L =>
      cases h
      exact es_goto C (hin _ _ _ _ rfl)
    | jsr L =>
      cases h
      exact es_jsr C (hin _ _ _ _ rfl)
    | if_icmp cd L =>
      match st, h with
      | .int b :: .int a :: st, h =>
        cases cd with
          | eq =>
            have h : (if decide (a = b) = true then ex_go (ex_blk y L.toNat) pl st w else ex_go c pl st w) = some q := h
            exact es_icmp_eq C (fun hy => hin _ _ _ _ (by rw [if_pos (decide_eq_true hy)] at h; exact (Option.some.inj h).symm)) (fun hy => hin _ _ _ _ (by rw [if_neg (by simpa using hy)] at h; exact (Option.some.inj h).symm))
          | ne =>
            have h : (if decide (¬ a = b) = true then ex_go (ex_blk y L.toNat) pl st w else ex_go c pl st w) = some q := h
            exact es_icmp_ne C (fun hy => hin _ _ _ _ (by rw [if_pos (decide_eq_true hy)] at h; exact (Option.some.inj h).symm)) (fun hy => hin _ _ _ _ (by rw [if_neg (by simpa using hy)] at h; exact (Option.some.inj h).symm))
          | lt =>
            have h : (if decide (a < b) = true then ex_go (ex_blk y L.toNat) pl st w else ex_go c pl st w) = some q := h
            exact es_icmp_lt C (fun hy => hin _ _ _ _ (by rw [if_pos (decide_eq_true hy)] at h; exact (Option.some.inj h).symm)) (fun hy => hin _ _ _ _ (by rw [if_neg (by simpa using hy)] at h; exact (Option.some.inj h).symm))
          | ge =>
            have h : (if decide (b ≤ a) = true then ex_go (ex_blk y L.toNat) pl st w else ex_go c pl st w) = some q := h
            exact es_icmp_ge C (fun hy => hin _ _ _ _ (by rw [if_pos (decide_eq_true hy)] at h; exact (Option.some.inj h).symm)) (fun hy => hin _ _ _ _ (by rw [if_neg (by simpa using hy)] at h; exact (Option.some.inj h).symm))
          | gt =>
            have h : (if decide (b < a) = true then ex_go (ex_blk y L.toNat) pl st w else ex_go c pl st w) = some q := h
            exact es_icmp_gt C (fun hy => hin _ _ _ _ (by rw [if_pos (decide_eq_true hy)] at h; exact (Option.some.inj h).symm)) (fun hy => hin _ _ _ _ (by rw [if_neg (by simpa using hy)] at h; exact (Option.some.inj h).symm))
          | le =>
            have h : (if decide (a ≤ b) = true then ex_go (ex_blk y L.toNat) pl st w else ex_go c pl st w) = some q := h
            exact es_icmp_le C (fun hy => hin _ _ _ _ (by rw [if_pos (decide_eq_true hy)] at h; exact (Option.some.inj h).symm)) (fun hy => hin _ _ _ _ (by rw [if_neg (by simpa using hy)] at h; exact (Option.some.inj h).symm))
    | ifCond cd L =>
      match st, h with
      | .int a :: st, h =>
        cases cd with
          | eq =>
            have h : (if decide (a = 0) = true then ex_go (ex_blk y L.toNat) pl st w else ex_go c pl st w) = some q := h
            exact es_if_eq C (fun hy => hin _ _ _ _ (by rw [if_pos (decide_eq_true hy)] at h; exact (Option.some.inj h).symm)) (fun hy => hin _ _ _ _ (by rw [if_neg (by simpa using hy)] at h; exact (Option.some.inj h).symm))
          | ne =>
            have h : (if decide (¬ a = 0) = true then ex_go (ex_blk y L.toNat) pl st w else ex_go c pl st w) = some q := h
            exact es_if_ne C (fun hy => hin _ _ _ _ (by rw [if_pos (decide_eq_true hy)] at h; exact (Option.some.inj h).symm)) (fun hy => hin _ _ _ _ (by rw [if_neg (by simpa using hy)] at h; exact (Option.some.inj h).symm))
          | lt =>
            have h : (if decide (a < 0) = true then ex_go (ex_blk y L.toNat) pl st w else ex_go c pl st w) = some q := h
            exact es_if_lt C (fun hy => hin _ _ _ _ (by rw [if_pos (decide_eq_true hy)] at h; exact (Option.some.inj h).symm)) (fun hy => hin _ _ _ _ (by rw [if_neg (by simpa using hy)] at h; exact (Option.some.inj h).symm))
          | ge =>
            have h : (if decide (0 ≤ a) = true then ex_go (ex_blk y L.toNat) pl st w else ex_go c pl st w) = some q := h
            exact es_if_ge C (fun hy => hin _ _ _ _ (by rw [if_pos (decide_eq_true hy)] at h; exact (Option.some.inj h).symm)) (fun hy => hin _ _ _ _ (by rw [if_neg (by simpa using hy)] at h; exact (Option.some.inj h).symm))
          | gt =>
            have h : (if decide (0 < a) = true then ex_go (ex_blk y L.toNat) pl st w else ex_go c pl st w) = some q := h
            exact es_if_gt C (fun hy => hin _ _ _ _ (by rw [if_pos (decide_eq_true hy)] at h; exact (Option.some.inj h).symm)) (fun hy => hin _ _ _ _ (by rw [if_neg (by simpa using hy)] at h; exact (Option.some.inj h).symm))
          | le =>
            have h : (if decide (a ≤ 0) = true then ex_go (ex_blk y L.toNat) pl st w else ex_go c pl st w) = some q := h
            exact es_if_le C (fun hy => hin _ _ _ _ (by rw [if_pos (decide_eq_true hy)] at h; exact (Option.some.inj h).symm)) (fun hy => hin _ _ _ _ (by rw [if_neg (by simpa using hy)] at h; exact (Option.some.inj h).symm))
    | tableswitch df lo hi offs =>
      match st, h with
      | .int a :: st, h =>
        have h : (if a.toInt < lo ∨ hi < a.toInt then ex_go (ex_blk y df.toNat) pl st w else ex_go (ex_blk y ((offs.toList.getD (a.toInt - lo).toNat 0).toNat)) pl st w) = some q := h
        exact es_tswitch C (fun hy => hin _ _ _ _ (by rw [if_pos hy] at h; exact (Option.some.inj h).symm)) (fun hy => hin _ _ _ _ (by rw [if_neg hy] at h; exact (Option.some.inj h).symm))
    | lookupswitch df ps =>
      match st, h with
      | .int a :: st, h =>
        cases h
        exact es_lswitch C (hin _ _ _ _ rfl)
    | getfield f =>
      match st, h with
      | .ref a :: st, h =>
        have h : ex_gf f c pl (.ref a :: st) w = some q := h
        unfold ex_gf at h
        dsimp only at h
        cases hk : ex_fk a f with
        | none => rw [hk] at h; cases h
        | some kd =>
          rw [hk] at h
          match kd, hk, h with
          | 0, hk, h => cases h; exact es_getf C (by unfold ex_fv; rw [hk]) (hin _ _ _ _ rfl)
          | 1, hk, h => cases h; exact es_getf C (by unfold ex_fv; rw [hk]) (hin _ _ _ _ rfl)
          | 2, hk, h => cases h; exact es_getf C (by unfold ex_fv; rw [hk]) (hin _ _ _ _ rfl)
          | n + 3, hk, h => cases h; exact es_getf C (by unfold ex_fv; rw [hk]) (hin _ _ _ _ rfl)
    | putfield f =>
      have h : ex_pf f c pl st w = some q := h
      unfold ex_pf at h
      match st, h with
      | .int x :: .ref a :: st, h =>
        dsimp only at h
        cases hk : ex_fk a f with
        | none => rw [hk] at h; cases h
        | some kd =>
          rw [hk] at h
          match kd, hk, h with
          | 0, hk, h => cases h; exact es_putf C hk (Or.inl rfl) (hin _ _ _ _ rfl)
          | 1, hk, h => cases h
          | 2, hk, h =>
            by_cases hx : x = 0 ∨ x = 1
            · simp only [if_pos hx] at h
              cases h; exact es_putf C hk (Or.inr ⟨rfl, hx⟩) (hin _ _ _ _ rfl)
            · simp only [if_neg hx] at h
              cases h
          | n + 3, hk, h => cases h
      | .long x :: .ref a :: st, h =>
        dsimp only at h
        cases hk : ex_fk a f with
        | none => rw [hk] at h; cases h
        | some kd =>
          rw [hk] at h
          match kd, hk, h with
          | 0, hk, h => cases h
          | 1, hk, h => cases h; exact es_putl C hk (hin _ _ _ _ rfl)
          | n + 2, hk, h => cases h
    | getstatic f =>
      have h : (if f = 1000 ∨ f = 1001 then ex_go c pl (.ref f :: st) w else none) = some q := h
      by_cases hf : f = 1000 ∨ f = 1001
      · rw [if_pos hf] at h; cases h
        exact es_gets C hf (hin _ _ _ _ rfl)
      · rw [if_neg hf] at h; cases h
    | iaload =>
      match st, h with
      | .int i :: .ref a :: st, h =>
        have h : (match ex_ald w a i with | some x => ex_go c pl (.int x :: st) w | none => none) = some q := h
        cases ha : ex_ald w a i with
        | none => rw [ha] at h; cases h
        | some x => rw [ha] at h; cases h; exact es_iald C ha (hin _ _ _ _ rfl)
    | baload =>
      match st, h with
      | .int i :: .ref a :: st, h =>
        have h : (if ex_cls a = 13 ∧ ¬ (i < 0 ∨ ex_len a ≤ i.toNatClampNeg) then ex_go c pl (.int (w.1 a i.toNatClampNeg) :: st) w else none) = some q := h
        by_cases ha : ex_cls a = 13 ∧ ¬ (i < 0 ∨ ex_len a ≤ i.toNatClampNeg)
        · rw [if_pos ha] at h; cases h; exact es_bald C ha.1 ha.2 (hin _ _ _ _ rfl)
        · rw [if_neg ha] at h; cases h
    | iastore =>
      match st, h with
      | .int x :: .int i :: .ref a :: st, h =>
        have h : (if ex_cls a = 12 ∧ ¬ (i < 0 ∨ ex_len a ≤ i.toNatClampNeg) then ex_go c pl st (ex_up w a i.toNatClampNeg (x)) else none) = some q := h
        by_cases ha : ex_cls a = 12 ∧ ¬ (i < 0 ∨ ex_len a ≤ i.toNatClampNeg)
        · rw [if_pos ha] at h; cases h; exact es_iast C ha.1 ha.2 (hin _ _ _ _ rfl)
        · rw [if_neg ha] at h; cases h
    | bastore =>
      match st, h with
      | .int x :: .int i :: .ref a :: st, h =>
        have h : (if ex_cls a = 13 ∧ ¬ (i < 0 ∨ ex_len a ≤ i.toNatClampNeg) then ex_go c pl st (ex_up w a i.toNatClampNeg (x.toInt8.toInt32)) else none) = some q := h
        by_cases ha : ex_cls a = 13 ∧ ¬ (i < 0 ∨ ex_len a ≤ i.toNatClampNeg)
        · rw [if_pos ha] at h; cases h; exact es_bast C ha.1 ha.2 (hin _ _ _ _ rfl)
        · rw [if_neg ha] at h; cases h
    | arraylength =>
      match st, h with
      | .ref a :: st, h =>
        have h : (if ex_cls a = 12 then ex_go c pl (.int (Int32.ofNat (ex_len a)) :: st) w else none) = some q := h
        by_cases ha : ex_cls a = 12
        · rw [if_pos ha] at h; cases h; exact es_alen C ha (hin _ _ _ _ rfl)
        · rw [if_neg ha] at h; cases h
    | invokestatic f =>
      have h : ex_call (ex_cal d) (f / 8) (f % 8) c pl st w = some q := h
      unfold ex_call at h
      cases hs : ex_spl (f % 8) [] st with
      | none => rw [hs] at h; cases h
      | some z =>
        obtain ⟨as, rest⟩ := z
        rw [hs] at h
        dsimp only at h
        by_cases hlow : ex_low rest = true
        · rw [if_pos hlow] at h
          unfold ex_back at h
          cases hc : ex_cal d (f / 8) as w with
          | none => rw [hc] at h; cases h
          | some z =>
            obtain ⟨r, w1⟩ := z
            rw [hc] at h
            cases h
            exact es_call C (hcal _ _ _ _ _ hc).2.2 hs hlow (hin _ _ _ _ rfl)
        · rw [if_neg hlow] at h; cases h
    | invokevirtual f =>
      have h : ex_callv (ex_cal d) (f / 8) (f % 8 + 1) c pl st w = some q := h
      unfold ex_callv at h
      cases hs : ex_spl (f % 8 + 1) [] st with
      | none => rw [hs] at h; cases h
      | some z =>
        obtain ⟨as, rest⟩ := z
        rw [hs] at h
        dsimp only at h
        cases as with
        | nil => cases h
        | cons v as =>
          cases v with
          | ref ob =>
            dsimp only at h
            by_cases hlow : ex_low rest = true
            · rw [if_pos hlow] at h
              unfold ex_back at h
              cases hc : ex_cal d (f / 8) (.ref ob :: as) w with
              | none => rw [hc] at h; cases h
              | some z =>
                obtain ⟨r, w1⟩ := z
                rw [hc] at h
                cases h
                have hc3 := hcal _ _ _ _ _ hc
                exact es_callv C hc3.2.2 hc3.2.1 hs hlow (hin _ _ _ _ rfl)
            · rw [if_neg hlow] at h; cases h
          | _ => cases h
    | invokeinterface x n =>
      have h : ex_vcall (ex_cal d) x n c pl st w = some q := h
      unfold ex_vcall at h
      cases hs : ex_spl (n + 1) [] st with
      | none => rw [hs] at h; cases h
      | some z =>
        obtain ⟨as, rest⟩ := z
        rw [hs] at h
        dsimp only at h
        cases as with
        | nil => cases h
        | cons v as =>
          cases v with
          | ref ob =>
            dsimp only at h
            cases hdp : ex_dsp x (ex_cls ob) with
            | none => rw [hdp] at h; cases h
            | some yy =>
              rw [hdp] at h
              dsimp only at h
              by_cases hlow : ex_low rest = true
              · rw [if_pos hlow] at h
                unfold ex_back at h
                cases hc : ex_cal d yy (.ref ob :: as) w with
                | none => rw [hc] at h; cases h
                | some z =>
                  obtain ⟨r, w1⟩ := z
                  rw [hc] at h
                  cases h
                  exact es_calli C (hcal _ _ _ _ _ hc).2.2 hdp hs hlow (hin _ _ _ _ rfl)
              · rw [if_neg hlow] at h; cases h
          | _ => cases h
    | invokedynamic k =>
      have h : ex_nat d k c pl st w = some q := h
      unfold ex_nat at h
      by_cases h2d : d < 2
      · rw [if_pos h2d] at h; cases h
      · rw [if_neg h2d] at h
        have h2d : 2 ≤ d + 1 := Nat.le_succ_of_le (Nat.le_of_not_lt h2d)
        split at h
        · rename_i yb xa r hh
          by_cases hlow : ex_low r = true
          · rw [if_pos hlow] at h; cases h; exact es_max C h2d hlow (hin _ _ _ _ rfl)
          · rw [if_neg hlow] at h; cases h
        · rename_i yb xa r hh
          by_cases hlow : ex_low r = true
          · rw [if_pos hlow] at h; cases h; exact es_min C h2d hlow (hin _ _ _ _ rfl)
          · rw [if_neg hlow] at h; cases h
        · rename_i n dp b sp a hh
          by_cases hc : sp = 0 ∧ dp = 0 ∧ ex_cls a = 12 ∧ ex_cls b = 12 ∧ ¬ n < 0 ∧ n.toNatClampNeg ≤ ex_len a ∧ n.toNatClampNeg ≤ ex_len b
          · rw [if_pos hc] at h
            obtain ⟨rfl, rfl, h5, h6, h7, h8, h9⟩ := hc
            cases h
            exact es_copy C h2d h5 h6 h7 h8 h9 (hin _ _ _ _ rfl)
          · rw [if_neg hc] at h; cases h
        · cases h
    | ireturn =>
      match st, h with
      | [.int a], h =>
        have h : (if ex_ret y = some .int then some (.inl (some (.int a), w)) else none) = some q := h
        by_cases hr : ex_ret y = some .int
        · rw [if_pos hr] at h
          cases h
          rw [hout _ _ rfl]
          exact es_iret C hlk (hrt.trans hr)
        · rw [if_neg hr] at h; cases h
    | lreturn =>
      match st, h with
      | [.long a], h =>
        have h : (if ex_ret y = some .long then some (.inl (some (.long a), w)) else none) = some q := h
        by_cases hr : ex_ret y = some .long
        · rw [if_pos hr] at h
          cases h
          rw [hout _ _ rfl]
          exact es_lret C hlk (hrt.trans hr)
        · rw [if_neg hr] at h; cases h
    | areturn =>
      match st, h with
      | [.int a], h =>
        have h : (if a = 0 ∨ a = 1 then (if ex_ret y = some .boolean then some (.inl (some (.int a), w)) else none) else none) = some q := h
        by_cases h01 : a = 0 ∨ a = 1
        · rw [if_pos h01] at h
          by_cases hr : ex_ret y = some .boolean
          · rw [if_pos hr] at h
            cases h
            rw [hout _ _ rfl]
            exact es_zret C hlk (hrt.trans hr) h01
          · rw [if_neg hr] at h; cases h
        · rw [if_neg h01] at h; cases h
    | return_ =>
      match st, h with
      | [], h =>
        have h : (if ex_ret y = none then some (.inl (none, w)) else none) = some q := h
        by_cases hr : ex_ret y = none
        · rw [if_pos hr] at h
          cases h
          rw [hout _ _ rfl]
          exact es_vret C hlk (hrt.trans hr)
        · rw [if_neg hr] at h; cases h
    | _ => cases h
theorem es_run {y d : Nat} (hy : y < 236) (l : Launch) (hcal : ∀ (yy : Nat) (as : List Value) (w : PW) (r : Option Value) (w1 : PW), ex_cal d yy as w = some (r, w1) → d ≠ 0 ∧ ex_okR yy as = true ∧ ex_Con l d yy as w r w1)
    {C0 : ex_Fix p l e R s m args c dC dI ad cI cB y (d + 1)} (hlk : meth.locks = false) (hrt : meth.sig.returnType = ex_ret y) {r : Option Value} {w1 : PW} : ∀ (n : Nat) (code : List Instr) (pl st : List Value) (w : PW), ex_run d (ex_cal d) y n (code, pl, st, w) = some (r, w1) →
    ex_G p l e R s m args below meth c (MQ below (ex_Post dC dI ad cI cB s.heap.size r w1) args s 0 0 (ex_AA ad s.heap.size)) dC dI ad cI cB y code pl st w := by
  intro n
  induction n with
  | zero => intro code pl st w h; cases h
  | succ n ih =>
    intro code pl st w h
    cases hq : ex_nx d (ex_cal d) y (code, pl, st, w) with
    | none => rw [ex_run, hq] at h; cases h
    | some q =>
      refine es_all C0 hlk hrt hcal hq ?_ ?_
      · intro c1 pl1 st1 w2 he
        subst he
        rw [ex_run, hq] at h
        exact ih c1 pl1 st1 w2 h
      · intro r2 w2 he
        subst he
        rw [ex_run, hq] at h
        cases h
        rfl
end EU
theorem ex_lay_args (ad : Nat → Nat) (as : List Value) (h : ∀ v ∈ as, ex_isv v = true) (i : Nat) : ∀ q ∈ ex_asc ad i (ex_lay as), q ∈ lv_args i (as.map (ex_tv ad)) := by
  induction as generalizing i with
  | nil => intro q hq; cases hq
  | cons v r ih =>
    have hr := fun u hu => h u (List.mem_cons_of_mem _ hu)
    have hv := h v List.mem_cons_self
    intro q hq
    cases v with
    | int x =>
      have hq : q ∈ (i, Value.int x) :: ex_asc ad (i + 1) (ex_lay r) := hq
      rcases List.mem_cons.mp hq with rfl | hq
      · exact List.mem_cons_self
      · exact List.mem_cons_of_mem _ (ih hr (i + 1) q hq)
    | long x =>
      have hq : q ∈ (i, Value.long x) :: ex_asc ad (i + 1 + 1) (ex_lay r) := hq
      rcases List.mem_cons.mp hq with rfl | hq
      · exact List.mem_cons_self
      · exact List.mem_cons_of_mem _ (ih hr (i + 2) q hq)
    | ref x =>
      have hq : q ∈ (i, Value.ref (ad x)) :: ex_asc ad (i + 1) (ex_lay r) := hq
      rcases List.mem_cons.mp hq with rfl | hq
      · exact List.mem_cons_self
      · exact List.mem_cons_of_mem _ (ih hr (i + 1) q hq)
    | _ => cases hv
theorem ex_asc_pad (ad : Nat → Nat) (l : List Value) (n i : Nat) : ex_asc ad i (l ++ List.replicate n .null) = ex_asc ad i l := by
  induction l generalizing i with
  | nil =>
    induction n generalizing i with
    | zero => rfl
    | succ n ih => exact ih (i + 1)
  | cons v r ih =>
    show (if ex_isv v then (i, ex_tv ad v) :: ex_asc ad (i + 1) (r ++ _) else ex_asc ad (i + 1) (r ++ _)) = (if ex_isv v then _ else _)
    rw [ih]
theorem ex_lay_len (ad : Nat → Nat) (as : List Value) (h : ∀ v ∈ as, ex_isv v = true) : (ex_lay as).length = (lg_sl (as.map (ex_tv ad))).length := by
  induction as with
  | nil => rfl
  | cons v r ih =>
    have hr := ih fun u hu => h u (List.mem_cons_of_mem _ hu)
    have hv := h v List.mem_cons_self
    cases v with
    | int x => show (ex_lay r).length + 1 = ([Slot.val (Value.int x)] ++ lg_sl (r.map (ex_tv ad))).length; rw [List.length_append, ← hr]; simp; omega
    | long x => show (ex_lay r).length + 1 + 1 = ([Slot.val (Value.long x), Slot.second] ++ lg_sl (r.map (ex_tv ad))).length; rw [List.length_append, ← hr]; simp; omega
    | ref x => show (ex_lay r).length + 1 = ([Slot.val (Value.ref (ad x))] ++ lg_sl (r.map (ex_tv ad))).length; rw [List.length_append, ← hr]; simp; omega
    | _ => cases hv
theorem ex_lay_mark (as : List Value) (n : Nat) : ∀ (j : Nat) (x : Int64), (ex_lay as ++ List.replicate n .null)[j]? = some (.long x) → (ex_lay as ++ List.replicate n .null)[j + 1]? = some (.retAddr 0) := by
  induction as with
  | nil =>
    intro j x h
    rw [show ex_lay [] = [] from rfl, List.nil_append, List.getElem?_replicate] at h
    split at h <;> cases h
  | cons v r ih =>
    intro j x h
    cases v with
    | long z =>
      cases j with
      | zero => rfl
      | succ j =>
        cases j with
        | zero => cases h
        | succ j => exact ih j x h
    | _ =>
      cases j with
      | zero => cases h
      | succ j => exact ih j x h
/-- THE SOUNDNESS: what the pure machine answers at depth d is the method's contract in the room of d frames -/
theorem ex_sound (l : Launch) : ∀ (d y : Nat) (as : List Value) (w : PW) (r : Option Value) (w1 : PW), ex_cal d y as w = some (r, w1) → d ≠ 0 ∧ ex_okR y as = true ∧ ex_Con l d y as w r w1 := by
  intro d
  induction d with
  | zero => intro y as w r w1 h; cases h
  | succ d ih =>
    intro y as w r w1 h
    have h : (if ex_okR y as = true then ex_ev d (ex_cal d) y (ex_blk y 0, ex_ent y as, [], w) else none) = some (r, w1) := h
    by_cases hR : ex_okR y as = true
    · rw [if_pos hR] at h
      refine ⟨Nat.succ_ne_zero d, hR, ?_⟩
      have hall : ∀ v ∈ as, ex_isv v = true := by
        unfold ex_okR at hR
        rw [Bool.and_eq_true] at hR
        exact List.all_eq_true.mp hR.1
      obtain ⟨n, hn⟩ := ex_ev_run h
      have hy : y < 236 := by
        rcases Nat.lt_or_ge y 236 with hy | hy
        · exact hy
        · have hb : ex_blk y 0 = [] := by
            unfold ex_blk
            rw [List.getD_eq_getElem?_getD, List.getElem?_eq_none (Nat.le_trans (show ex_bs.length ≤ 236 by decide +kernel) hy)]
            rfl
          rw [hb] at hn
          cases n with
          | zero => cases hn
          | succ n =>
            rw [ex_run, show ex_nx d (ex_cal d) y ([], ex_ent y as, [], w) = none from rfl] at hn
            cases hn
      have hm := kw_all hy
      intro dC dI ad cI cB sz
      refine Met.ofW (cc := ex_B y) (maxL := ex_L y) (ret := ex_ret y) hm.2.2.2.2.1 rfl ?_
      intro p e s m args below meth c s₁ B hml hv
      obtain ⟨rfl, h0, hP, hCx, hIn⟩ := hv
      subst h0
      have hts := atoms_spec (ws := ex_ws y) B.pre
      have hown : s.vm.findClass (ex_Rn (ex_C y)) = some m.cls := by rw [← hm.2.2.1]; exact findClass_of_methodNamed B.named
      have C0 : ex_Fix p l e (headSpec (ex_ws y) (ex_Rm (d + 1))).room s m (as.map (ex_tv ad)).toArray c dC dI ad cI cB y (d + 1) :=
        ⟨B.exec, B.bytes, hml, hown, fun w h => hts w (List.mem_cons_of_mem _ h), hCx, hIn, rfl, hm.2.2.2.1⟩
      have hG := es_run (below := below) hy l ih (C0 := C0) B.notSynchronized B.returns n _ _ _ _ hn
      rw [lg_entry_eq]
      have hfit : (lg_sl (as.map (ex_tv ad))).length ≤ ex_L y := by
        unfold ex_okR at hR
        rw [Bool.and_eq_true, Bool.and_eq_true] at hR
        rw [← ex_lay_len ad as hall]
        exact of_decide_eq_true hR.2.1
      have hent := lv_entry (as.map (ex_tv ad)) (n := ex_L y) hfit
      refine hG 0 s.heap [] _ (ex_ok_blk y 0) hP va_S.rf ⟨?_, ?_, ?_⟩
      · unfold ex_ent
        rw [List.length_append, List.length_replicate, ex_lay_len ad as hall]
        omega
      · refine lv_has.less hent ?_
        unfold ex_ent
        rw [ex_asc_pad]
        exact ex_lay_args ad as hall 0
      · exact ex_lay_mark as _
    · rw [if_neg hR] at h; cases h
