/-! steps, second half: fields, arrays, switches, calls -/
theorem ex_decl : ∀ c, c < 12 → ∀ k, k < ex_N c → (ex_T c k).1 = ex_Rn c := by decide +kernel
theorem ex_cat2 {v : Value} : v.category ≤ 2 := by cases v <;> first | exact Nat.le_refl 2 | exact Nat.le_succ 1
theorem ex_i1_cat {ad : Nat → Nat} {v : Value} (h : ex_i1 v = true) : (ex_tv ad v).category = 1 := by
  cases v <;> first | rfl | cases h
theorem ex_low_cat {ad : Nat → Nat} {st : List Value} (h : ex_low st = true) : ((st.map (ex_tv ad)).map fun v => v.category).sum ≤ 8 := by
  match st, h with
  | [], _ => exact Nat.zero_le 8
  | [a], _ => have h1 := @ex_cat2 (ex_tv ad a); simp only [List.map, List.sum_cons, List.sum_nil]; omega
  | [a, b], _ => have h1 := @ex_cat2 (ex_tv ad a); have h2 := @ex_cat2 (ex_tv ad b); simp only [List.map, List.sum_cons, List.sum_nil]; omega
  | [a, b, c], _ => have h1 := @ex_cat2 (ex_tv ad a); have h2 := @ex_cat2 (ex_tv ad b); have h3 := @ex_cat2 (ex_tv ad c); simp only [List.map, List.sum_cons, List.sum_nil]; omega
  | [a, b, c, f], _ => have h1 := @ex_cat2 (ex_tv ad a); have h2 := @ex_cat2 (ex_tv ad b); have h3 := @ex_cat2 (ex_tv ad c); have h4 := @ex_cat2 (ex_tv ad f); simp only [List.map, List.sum_cons, List.sum_nil]; omega
  | [a, b, c, f, g], h =>
    have h : (ex_i1 a && (ex_i1 b && (ex_i1 c && ex_i1 f))) = true := h
    rw [Bool.and_eq_true, Bool.and_eq_true, Bool.and_eq_true] at h
    have h1 := ex_i1_cat (ad := ad) h.1
    have h2 := ex_i1_cat (ad := ad) h.2.1
    have h3 := ex_i1_cat (ad := ad) h.2.2.1
    have h4 := ex_i1_cat (ad := ad) h.2.2.2
    have h5 := @ex_cat2 (ex_tv ad g)
    simp only [List.map, List.sum_cons, List.sum_nil]; omega
theorem ex_spl_spec {n : Nat} {acc st as rest : List Value} (h : ex_spl n acc st = some (as, rest)) : ∃ pre, st = pre ++ rest ∧ as = pre.reverse ++ acc ∧ pre.length = n := by
  induction n generalizing acc st with
  | zero =>
    have h2 : some (acc, st) = some (as, rest) := h
    cases h2
    exact ⟨[], rfl, rfl, rfl⟩
  | succ n ih =>
    cases st with
    | nil => cases h
    | cons v st =>
      obtain ⟨pre, h1, h2, h3⟩ := ih (show ex_spl n (v :: acc) st = some (as, rest) from h)
      exact ⟨v :: pre, by rw [h1]; rfl, by rw [h2]; simp, by rw [List.length_cons, h3]⟩
theorem ex_nw_warm {s U : State} (hW : s.WarmedH U.vm) : ∀ x ∈ ex_nw, va_Nw x s → va_Nw x U := by
  unfold ex_nw
  repeat' first
    | exact fun _ h => absurd h List.not_mem_nil
    | refine List.forall_mem_cons.mpr ⟨?_, ?_⟩
    | exact fun h => va_Nw.warmM hW h
    | exact fun h => va_Nw.warmD hW h
theorem ex_nw_same {u U : State} (h : u.vm = U.vm) : ∀ x ∈ ex_nw, va_Nw x u → va_Nw x U := by
  intro x hx
  have : x.onTables = true := List.all_eq_true.mp (show ex_nw.all (fun x => x.onTables) = true from rfl) x hx
  exact va_Nw.same this h
theorem ex_Cx.to {dC : Nat → ClassId} {dI : Nat → Nat → Nat} {ad : Nat → Nat} {cI cB : ClassId} {A B : Nat → Prop} {u U : State} {H H1 : Heap} (h : ex_Cx dC dI ad cI cB A u H) (h1 : u.vm.Alike U.vm) (h2 : ∀ x ∈ ex_nw, va_Nw x u → va_Nw x U) (h3 : ∀ a : Nat, a < H.size → ¬ A a → H1[a]? = H[a]?) (h4 : ∀ q, B q → A q) : ex_Cx dC dI ad cI cB B U H1 := by
  obtain ⟨a1, a2, a3, a4, a5, a6, a7⟩ := h
  exact ⟨a1.moved h1, fun x hx => h2 x hx (a2 x hx), ((a3.moved h1).kept h3).narrow h4, ((a4.moved h1).kept h3).narrow h4, ((a5.moved h1).kept h3).narrow h4, ((a6.moved h1).kept h3).narrow h4, ((a7.moved h1).kept h3).narrow h4⟩
theorem ex_Cx.ad {dC : Nat → ClassId} {dI : Nat → Nat → Nat} {ad0 ad : Nat → Nat} {cI cB : ClassId} {A : Nat → Prop} {U : State} {H : Heap} (h : ex_Cx dC dI ad0 cI cB A U H) (he : ∀ o, 53 ≤ o → ¬ o = 2500 → ad o = ad0 o) : ex_Cx dC dI ad cI cB A U H := by
  obtain ⟨a1, a2, a3, a4, a5, a6, a7⟩ := h
  have e0 := he 1000 (by omega) (by omega)
  have e1 := he 1001 (by omega) (by omega)
  have e2 := he 2000 (by omega) (by omega)
  have e3 := he 2999 (by omega) (by omega)
  have e4 : (fun j => Value.int (Int32.ofNat (ad (3000 + j)))) = fun j => Value.int (Int32.ofNat (ad0 (3000 + j))) := by
    funext j
    rw [he (3000 + j) (by omega) (by omega)]
  unfold ex_Cx
  rw [e0, e1, e2, e3, e4]
  exact ⟨a1, a2, a3, a4, a5, a6, a7⟩
theorem ex_Sc.ad {ad0 ad : Nat → Nat} {w w1 : PW} (h : ex_Sc ad0 w) (he : ∀ o, 53 ≤ o → ¬ o = 2500 → ad o = ad0 o) (hw : w1.2.2 = w.2.2) : ex_Sc ad w1 := by
  obtain ⟨h1, h2⟩ := h
  unfold ex_Sc
  rw [hw, he 2999 (by omega) (by omega)]
  exact ⟨h1, fun j => by rw [he (3000 + j) (by omega) (by omega)]; exact h2 j⟩
/-- what is answered is no reference -/
def ex_nf (r : Option Value) : Prop := ∀ v, r = some v → ∀ o, v ≠ .ref o
def ex_ws (y : Nat) : List Jvm.Cond := Jvm.Cond.code (ex_Y y) (ex_B y) (ex_L y) (ex_ret y) :: ex_tb
def ex_Pre (dC : Nat → ClassId) (dI : Nat → Nat → Nat) (ad : Nat → Nat) (cI cB : ClassId) (sz : Nat) (w : PW) (U : State) : Prop :=
  U.heap.size = sz ∧ va_P (dC, dI) ex_cm (ex_cel ad cI cB w) U.heap ∧ ex_Cx dC dI ad cI cB (ex_AA ad sz) U U.heap ∧ ex_In ad ∧ ex_Sc ad w
def ex_Post (dC : Nat → ClassId) (dI : Nat → Nat → Nat) (ad : Nat → Nat) (cI cB : ClassId) (sz y : Nat) (r : Option Value) (w : PW) : Array Value → State → Outcome → State → Prop := fun _ st oc t =>
  oc = .returned (r.map (ex_tv ad)) ∧ (∃ ad', ex_Ad y ad ad' sz ∧ ex_In ad' ∧ va_P (dC, dI) ex_cm (ex_cel ad' cI cB w) t.heap) ∧ va_F (ex_AA ad sz) st t
/-- THE CONTRACT of a method: what the pure machine answers, the real one does -/
def ex_Con (l : Launch) (d y : Nat) (as : List Value) (w : PW) (r : Option Value) (w1 : PW) : Prop :=
  ∀ (dC : Nat → ClassId) (dI : Nat → Nat → Nat) (ad : Nat → Nat) (cI cB : ClassId) (sz : Nat), Met l (ex_Y y) (ex_ws y) (ex_Rm d (w1.2.1 - w.2.1)) (va_Pc (as.map (ex_tv ad)) (ex_Pre dC dI ad cI cB sz w)) (ex_Post dC dI ad cI cB sz y r w1) (w1.2.1 - w.2.1) (64 * (w1.2.1 - w.2.1)) (ex_AA ad sz)
theorem ex_blind {dC : Nat → ClassId} {dI : Nat → Nat → Nat} {ad : Nat → Nat} {cI cB : ClassId} {sz : Nat} {w : PW} {vs : List Value} : FrameBlind (va_Pc vs (ex_Pre dC dI ad cI cB sz w)) := by
  intro a U g mk h
  obtain ⟨h0, h1, h2, h3, h4, h5⟩ := h
  exact ⟨h0, h1, h2, h3.to (U := U.calling g mk a) (Vm.Alike.refl U.vm) (ex_nw_same rfl) (fun _ _ _ => rfl) (fun _ q => q), h4, h5⟩
theorem ex_AA_le {ad : Nat → Nat} {a b : Nat} (h : a ≤ b) : ∀ q, ex_AA ad b q → ex_AA ad a q := by
  rintro q (q1 | q2)
  · exact Or.inl q1
  · exact Or.inr (Nat.le_trans h q2)
theorem ex_tb_good : ∀ w ∈ ex_tb, goodWord w = true := fun _ h => (List.mem_filter.mp h).2
theorem ex_ws_tb {y : Nat} (hy : ex_Pm y) : ∀ w ∈ ex_ws y, w ∈ ex_tb := by
  intro w h
  rcases List.mem_cons.mp h with rfl | h
  · exact hy.1
  · exact h
theorem ex_pay {args : Array Value} {s : State} {y : Nat} (hts : ∀ w ∈ ex_tb, w.before args s = true) (hy : ex_Pm y) : ∀ w ∈ ex_ws y, ∀ (a' : Array Value) (U : State), s.WarmedH U.vm → w.before a' U = true :=
  fun w hw _ _ hW => word_at hW (good_of_word (ex_tb_good w (ex_ws_tb hy w hw))) (hts w (ex_ws_tb hy w hw))
theorem ex_AA_ad {y : Nat} {ad0 ad : Nat → Nat} {a b : Nat} (hA : ex_Ad y ad0 ad a) (h : a ≤ b) : ∀ q, ex_AA ad b q → ex_AA ad0 a q := by
  rintro q (⟨o, ho, rfl⟩ | q2)
  · exact hA.aa ho
  · exact Or.inr (Nat.le_trans h q2)
theorem ex_Rm_fit {d mL y n : Nat} {R : Room} (h : mL ≤ 14 ∨ (mL ≤ 24 ∧ y = 104)) (hR : ex_fit R (d + 1) y) : (ex_Rm d n).frames + 1 ≤ R.frames ∧ 8 + (mL + 11) + (ex_Rm d n).locals ≤ R.locals := by
  obtain ⟨h1, h2, h3⟩ := hR
  refine ⟨h1, ?_⟩
  show 8 + (mL + 11) + 33 * d ≤ R.locals
  rcases h with h | ⟨h, hy⟩
  · omega
  · have := h3 hy; omega
theorem ex_cls_L : ∀ y, y < 92 → ex_L y ≤ 14 ∧ ex_al y = false := by decide +kernel
theorem ex_cls_11 : ∀ y, y < 92 → (ex_C y == 11) = false := by decide +kernel
theorem ex_dy_of {z o : Nat} (hz : z < 104) (h : ex_dy z o = true) : o = 51 ∧ ex_al z = true := by
  unfold ex_dy at h
  unfold ex_al
  simp only [Bool.or_eq_true, Bool.and_eq_true, beq_iff_eq] at h ⊢
  omega
section ET
variable {p : Program} {l : Launch} {e : Env} {R : Room} {s : State} {m : MethodId} {args : Array Value} {below : List Frame} {meth : Method} {c : Code} {Q : State → Prop} {dC : Nat → ClassId} {dI : Nat → Nat → Nat} {ad0 : Nat → Nat} {cI cB : ClassId} {K : Nat × Nat × Nat} {y d : Nat} {code : List Instr} {pl st : List Value} {w : PW}
theorem es_tswitch (C : ex_Fix p l e R s m args c dC dI ad0 cI cB y d) {df lo hi : Int} {offs : Array Int} {a : Int32} (k1 : a.toInt < lo ∨ hi < a.toInt → ex_G p l e R s m args below meth c Q dC dI ad0 cI cB K y (ex_blk y df.toNat) (pl) (st) (w)) (k2 : ¬ (a.toInt < lo ∨ hi < a.toInt) → ex_G p l e R s m args below meth c Q dC dI ad0 cI cB K y (ex_blk y ((offs.toList.getD (a.toInt - lo).toNat 0).toNat)) (pl) (st) (w)) : ex_G p l e R s m args below meth c Q dC dI ad0 cI cB K y (.tableswitch df lo hi offs :: code) (pl) (.int a :: st) (w) := by
  intro ad pc H locs ls hA hok hP hS hL
  obtain ⟨hx, hb, hml, hown, hts, hC, hR, hcl⟩ := C
  obtain ⟨j, len, hd, hq, ho⟩ := ex_ok_cons rfl hok
  unfold ex_okI at hq
  dsimp only at hq
  cases j with
  | tableswitch d2 l2 h2 o2 =>
    simp only [Bool.and_eq_true, decide_eq_true_eq, beq_iff_eq] at hq
    obtain ⟨⟨⟨⟨⟨⟨e1, e2⟩, rfl⟩, rfl⟩, e3⟩, e4⟩, e5⟩ := hq
    by_cases hin : a.toInt < lo ∨ hi < a.toInt
    · exact lv_tableOut hx hb hd hin (tgt := df.toNat) (by omega) (k1 hin ad _ H locs ls hA (ex_ok_blk y _) hP hS hL)
    · have hk : (a.toInt - lo).toNat < o2.toList.length := by
        rw [Array.length_toList]; omega
      have hoff : o2[(a.toInt - lo).toNat]? = some (o2.toList[(a.toInt - lo).toNat]) := by
        rw [← Array.getElem?_toList]
        exact List.getElem?_eq_getElem hk
      have hg : offs.toList.getD (a.toInt - lo).toNat 0 = (pc : Int) + o2.toList[(a.toInt - lo).toNat] := by
        rw [List.getD_eq_getElem?_getD, e3, List.getElem?_map, List.getElem?_eq_getElem hk]
        rfl
      have hn : 0 ≤ offs.toList.getD (a.toInt - lo).toNat 0 := by
        have hm : offs.toList.getD (a.toInt - lo).toNat 0 ∈ offs.toList := by
          rw [hg, e3]
          exact List.mem_map.mpr ⟨_, List.getElem_mem hk, rfl⟩
        have := List.all_eq_true.mp e4 _ hm
        exact of_decide_eq_true this
      exact lv_tableIn hx hb hd (by omega) (by omega) hoff (tgt := (offs.toList.getD (a.toInt - lo).toNat 0).toNat) (by rw [← hg]; omega) (k2 hin ad _ H locs ls hA (ex_ok_blk y _) hP hS hL)
  | _ => cases hq
theorem ex_lks_off {qs : List (Int × Int)} {d2 x pc : Int} : ex_lks (qs.map fun q => (q.1, pc + q.2)) (pc + d2) x = pc + Op.lookupswitch.offset qs d2 x := by
  induction qs with
  | nil => rfl
  | cons q r ih =>
    obtain ⟨a, b⟩ := q
    show (if x = a then pc + b else ex_lks (r.map fun q => (q.1, pc + q.2)) (pc + d2) x) = pc + (if a = x then b else Op.lookupswitch.offset r d2 x)
    by_cases h : x = a
    · rw [if_pos h, if_pos h.symm]
    · rw [if_neg h, if_neg (fun q => h q.symm), ih]
theorem ex_lks_nn {ps : List (Int × Int)} {df x : Int} (h : (ps.all fun q => decide (0 ≤ q.2)) = true) (hd : 0 ≤ df) : 0 ≤ ex_lks ps df x := by
  induction ps with
  | nil => exact hd
  | cons q r ih =>
    rw [List.all_cons, Bool.and_eq_true] at h
    show 0 ≤ (if x = q.1 then q.2 else ex_lks r df x)
    split
    · exact of_decide_eq_true h.1
    · exact ih h.2
theorem es_lswitch (C : ex_Fix p l e R s m args c dC dI ad0 cI cB y d) {df : Int} {ps : Array (Int × Int)} {a : Int32} (k : ex_G p l e R s m args below meth c Q dC dI ad0 cI cB K y (ex_blk y (ex_lks ps.toList df a.toInt).toNat) (pl) (st) (w)) : ex_G p l e R s m args below meth c Q dC dI ad0 cI cB K y (.lookupswitch df ps :: code) (pl) (.int a :: st) (w) := by
  intro ad pc H locs ls hA hok hP hS hL
  obtain ⟨hx, hb, hml, hown, hts, hC, hR, hcl⟩ := C
  obtain ⟨j, len, hd, hi, ho⟩ := ex_ok_cons rfl hok
  unfold ex_okI at hi
  dsimp only at hi
  cases j with
  | lookupswitch d2 p2 =>
    simp only [Bool.and_eq_true, decide_eq_true_eq] at hi
    obtain ⟨⟨e1, e2⟩, e3⟩ := hi
    unfold ex_okZ at e3
    rw [Bool.and_eq_true, Bool.and_eq_true] at e3
    obtain ⟨⟨e4, e5⟩, e6⟩ := e3
    have e4 := of_decide_eq_true e4
    have e7 : ex_lks ps.toList df a.toInt = (pc : Int) + Op.lookupswitch.offset p2.toList d2 a.toInt := by rw [e4, e1]; exact ex_lks_off
    have e8 : 0 ≤ ex_lks ps.toList df a.toInt := ex_lks_nn e5 e2
    exact lv_lookup hx hb hd e6 rfl (tgt := (ex_lks ps.toList df a.toInt).toNat) (by omega) (k ad _ H locs ls hA (ex_ok_blk y _) hP hS hL)
  | _ => cases hi
theorem es_getf (C : ex_Fix p l e R s m args c dC dI ad0 cI cB y d) {o f : Nat} {v : Value} (hf : ex_fv w o f = some v) (k : ex_G p l e R s m args below meth c Q dC dI ad0 cI cB K y (code) (pl) (v :: st) (w)) : ex_G p l e R s m args below meth c Q dC dI ad0 cI cB K y (.getfield f :: code) (pl) (.ref o :: st) (w) := by
  intro ad pc H locs ls hA hok hP hS hL
  obtain ⟨hx, hb, hml, hown, hts, hC, hR, hcl⟩ := C
  obtain ⟨j, len, hd, hi, ho⟩ := ex_ok_cons rfl hok
  unfold ex_okI at hi
  dsimp only at hi
  cases j with
  | getfield a =>
    simp only [Bool.and_eq_true, beq_iff_eq] at hi
    obtain ⟨h3, rfl⟩ := hi
    obtain ⟨hlink, hc, hk⟩ := kq_F hcl _ (ex_lk h3)
    unfold ex_fv at hf
    cases hkd : ex_fk o f with
    | none => rw [hkd] at hf; cases hf
    | some kd =>
      obtain ⟨ks, h1, h2⟩ := ex_fk_spec hkd
      have he : (ex_cel ad cI cB w)[ex_ps o]? = some (ad o, .inr (f / 64, ex_fs ad w o ks)) := by rw [ex_cel_at (ex_lto h1 (by dsimp only; omega)), ex_en_obj h1 hc]
      have hv : (ex_fs ad w o ks)[f % 64]? = some (ex_tv ad v) := by
        rw [ex_fs_at h2]
        rw [hkd] at hf
        match kd, hf with
        | 0, hf => cases hf; rfl
        | 1, hf => cases hf
        | 2, hf => cases hf; rfl
        | n + 3, hf => cases hf; rfl
      exact va_get (D := (dC, dI)) (own := ex_Rn (ex_C y)) (ref := ex_Rn (f / 64)) (C := ex_Rn (f / 64)) (T := ex_T (f / 64)) (N := ex_N (f / 64)) (Ts := ex_tb) hx hb hts (ku_all hc) hown hC.1 hP (ex_ps o) he (ex_cl_at (by have := ex_no11 h1; dsimp only at this; omega)) (f % 64) hk (hts _ hlink) (by rw [ex_decl _ hc _ hk]; exact fun _ h9 => h9) hv hd (k ad _ H locs ls hA ho hP hS hL)
  | _ => cases hi
theorem es_putf (C : ex_Fix p l e R s m args c dC dI ad0 cI cB y d) {o f kd : Nat} {x : Int32} (hf : ex_fk o f = some kd) (hkd : kd = 0 ∨ (kd = 2 ∧ (x = 0 ∨ x = 1))) (k : ex_G p l e R s m args below meth c Q dC dI ad0 cI cB K y (code) (pl) (st) (ex_up w o (f % 64) x)) : ex_G p l e R s m args below meth c Q dC dI ad0 cI cB K y (.putfield f :: code) (pl) (.int x :: .ref o :: st) (w) := by
  intro ad pc H locs ls hA hok hP hS hL
  obtain ⟨hx, hb, hml, hown, hts, hC, hR, hcl⟩ := C
  obtain ⟨j, len, hd, hi, ho⟩ := ex_ok_cons rfl hok
  unfold ex_okI at hi
  dsimp only at hi
  cases j with
  | putfield a =>
    simp only [Bool.and_eq_true, beq_iff_eq, Bool.not_eq_true'] at hi
    obtain ⟨⟨h3, rfl⟩, hfin⟩ := hi
    obtain ⟨hlink, hc, hk⟩ := kq_F hcl _ (ex_lk h3)
    obtain ⟨ks, h1, h2⟩ := ex_fk_spec hf
    have he : (ex_cel ad cI cB w)[ex_ps o]? = some (ad o, .inr (f / 64, ex_fs ad w o ks)) := by rw [ex_cel_at (ex_lto h1 (by dsimp only; omega)), ex_en_obj h1 hc]
    obtain ⟨-, hkl, hty⟩ := ex_kind h1 hc h2
    have hn : narrow (ex_ty (f / 64) (f % 64)) (.int x) = .int x ∧ fits (ex_ty (f / 64) (f % 64)) (.int x) = true := by
      rcases hkd with rfl | ⟨rfl, hx01⟩
      · rw [show ex_ty (f / 64) (f % 64) = .int from of_decide_eq_true hty]
        exact ⟨rfl, rfl⟩
      · rw [show ex_ty (f / 64) (f % 64) = .boolean from of_decide_eq_true hty]
        rcases hx01 with rfl | rfl
        · exact ⟨by decide, by decide⟩
        · exact ⟨by decide, by decide⟩
    have hset : ex_cel ad cI cB (ex_up w o (f % 64) x) = (ex_cel ad cI cB w).set (ex_ps o) (ad o, .inr (f / 64, (ex_fs ad w o ks).set (f % 64) (.int x))) := by
      rw [ex_cel_up (ex_lto h1 (by dsimp only; omega)), ex_en_obj h1 hc, ex_fs_set h2 (by rcases hkd with h | h; exact Or.inl h; exact Or.inr h.1)]
    exact va_put (D := (dC, dI)) (own := ex_Rn (ex_C y)) (ref := ex_Rn (f / 64)) (C := ex_Rn (f / 64)) (T := ex_T (f / 64)) (N := ex_N (f / 64)) (Ts := ex_tb) hx hb hts (ku_all hc) (ex_ty (f / 64)) (kp_all hc) (kn_all hc) hown hC.1 hP (ex_vD hA) hS (ex_ps o) he (ex_cl_at (by have := ex_no11 h1; dsimp only at this; omega)) (f % 64) hk (hts _ hlink) (by rw [ex_decl _ hc _ hk]; exact fun _ h9 => h9) hfin (kp_all hc _ hk) hn.1 hn.2 (by rw [ex_fs_len]; exact hkl) hd
      (fun H1 locs1 hP1 hD1 hS1 => k ad _ H1 locs1 ls hA ho (by rw [hset]; exact hP1) hS1 hL)
  | _ => cases hi
theorem ex_cell_ad {ad : Nat → Nat} {o a : Nat} {st : List Value} (h : ad o = a) : ((.ref o :: st : List Value).map (ex_tv ad)) = .ref a :: st.map (ex_tv ad) := by
  rw [List.map_cons, ← h]
  rfl
theorem es_gets (C : ex_Fix p l e R s m args c dC dI ad0 cI cB y d) {o : Nat} (hf : o = 1000 ∨ o = 1001) (k : ex_G p l e R s m args below meth c Q dC dI ad0 cI cB K y (code) (pl) (.ref o :: st) (w)) : ex_G p l e R s m args below meth c Q dC dI ad0 cI cB K y (.getstatic o :: code) (pl) (st) (w) := by
  intro ad pc H locs ls hA hok hP hS hL
  obtain ⟨hx, hb, hml, hown, hts, hC, hR, hcl⟩ := C
  obtain ⟨j, len, hd, hi, ho⟩ := ex_ok_cons rfl hok
  have h9 := k ad _ H locs ls hA ho hP hS hL
  rw [ex_cell_ad (hA.1.fix (o := o) (by omega))] at h9
  unfold ex_okI at hi
  dsimp only at hi
  cases j with
  | getstatic a =>
    simp only [Bool.and_eq_true, beq_iff_eq] at hi
    obtain ⟨h3, rfl⟩ := hi
    rcases kq_S hcl _ (ex_lk h3) with ⟨h4, h5⟩ | ⟨h4, h5⟩
    · have h4 : o = 1000 := h4
      subst h4
      exact va_gets hx hb (C := "BorderThroughBed$House") (ref := "BorderThroughBed$House") hC.2.2.1 hS hown (hts _ h5) (fun _ h => h) hd h9
    · have h4 : o = 1001 := h4
      subst h4
      exact va_gets hx hb (C := "BorderThroughBed$House") (ref := "BorderThroughBed$House") hC.2.2.2.2.1 hS hown (hts _ h5) (fun _ h => h) hd h9
  | _ => cases hi
theorem es_iald (C : ex_Fix p l e R s m args c dC dI ad0 cI cB y d) {o : Nat} {i x : Int32} (hf : ex_ald w o i = some x) (k : ex_G p l e R s m args below meth c Q dC dI ad0 cI cB K y (code) (pl) (.int x :: st) (w)) : ex_G p l e R s m args below meth c Q dC dI ad0 cI cB K y (.iaload :: code) (pl) (.int i :: .ref o :: st) (w) := by
  intro ad pc H locs ls hA hok hP hS hL
  obtain ⟨hx, hb, hml, hown, hts, hC, hR, hcl⟩ := C
  obtain ⟨j, len, hd, hi, ho⟩ := ex_ok_cons rfl hok
  have hi : (decide (j = .iaload) && len == 1) = true := hi
  simp only [Bool.and_eq_true, decide_eq_true_eq, beq_iff_eq] at hi
  obtain ⟨rfl, rfl⟩ := hi
  unfold ex_ald at hf
  by_cases h0 : o = 1000 ∨ o = 1001 ∨ o = 2000
  · show W p l e R s m args below meth c H locs (ex_kc K w) (ex_ks K w) Q (F0 m pc ls (.int i :: ((.ref o :: st : List Value).map (ex_tv ad))))
    rw [ex_cell_ad (hA.1.fix (o := o) (by omega))]
    rcases h0 with h0 | h0 | h0
    · subst h0
      rw [if_pos rfl] at hf
      by_cases hin : i < 0 ∨ 4 ≤ i.toNatClampNeg
      · rw [if_pos hin] at hf; cases hf
      · rw [if_neg hin] at hf
        exact va_ti hx hb hC.2.2.2.1 hS (i := i) hin (congrArg Value.int (Option.some.inj hf)) hd (k ad _ H locs ls hA ho hP hS hL)
    · subst h0
      rw [if_neg (by decide), if_pos rfl] at hf
      by_cases hin : i < 0 ∨ 4 ≤ i.toNatClampNeg
      · rw [if_pos hin] at hf; cases hf
      · rw [if_neg hin] at hf
        exact va_ti hx hb hC.2.2.2.2.2.1 hS (i := i) hin (congrArg Value.int (Option.some.inj hf)) hd (k ad _ H locs ls hA ho hP hS hL)
    · subst h0
      rw [if_neg (by decide), if_neg (by decide), if_pos rfl, hA.2.2.2.1] at hf
      by_cases hin : i < 0 ∨ ad0 2999 ≤ i.toNatClampNeg
      · rw [if_pos hin] at hf; cases hf
      · rw [if_neg hin, hA.2.2.2.2] at hf
        exact va_ti hx hb hC.2.2.2.2.2.2 hS (i := i) hin (congrArg Value.int (Option.some.inj hf)) hd (k ad _ H locs ls hA ho hP hS hL)
  · rw [if_neg (by omega), if_neg (by omega), if_neg (by omega)] at hf
    by_cases h2 : ex_cls o = 12
    · rw [if_pos h2] at hf
      by_cases hin : i < 0 ∨ ex_len o ≤ i.toNatClampNeg
      · rw [if_pos hin] at hf; cases hf
      · rw [if_neg hin] at hf
        have he : (ex_cel ad cI cB w)[ex_ps o]? = some (ad o, .inl (cI, ex_hl ad o, .inl (w.1 o))) := by rw [ex_cel_at (ex_cls_lt (by omega)), ex_en_ia h2]
        have hx2 := Option.some.inj hf
        subst hx2
        exact va_iald hx hb hC.1 hP (ex_ps o) 0 he rfl (ex_hin hA.2.1.2 hin) hd (k ad _ H locs ls hA ho hP hS hL)
    · rw [if_neg h2] at hf; cases hf
theorem ex_no13 (o : Nat) : ¬ ex_cls o = 13 := fun h => by
  have h1 := ex_cls_lt0 (o := o) (by omega)
  exact (by decide +kernel : ∀ o, o < ex_NO → ¬ ex_cls o = 13) o h1 h
theorem es_bald (C : ex_Fix p l e R s m args c dC dI ad0 cI cB y d) {o : Nat} {i : Int32} (h2 : ex_cls o = 13) (hin : ¬ (i < 0 ∨ ex_len o ≤ i.toNatClampNeg)) (k : ex_G p l e R s m args below meth c Q dC dI ad0 cI cB K y (code) (pl) (.int (w.1 o i.toNatClampNeg) :: st) (w)) : ex_G p l e R s m args below meth c Q dC dI ad0 cI cB K y (.baload :: code) (pl) (.int i :: .ref o :: st) (w) := absurd h2 (ex_no13 o)
theorem es_bast (C : ex_Fix p l e R s m args c dC dI ad0 cI cB y d) {o : Nat} {i x : Int32} (h2 : ex_cls o = 13) (hin : ¬ (i < 0 ∨ ex_len o ≤ i.toNatClampNeg)) (k : ex_G p l e R s m args below meth c Q dC dI ad0 cI cB K y (code) (pl) (st) (ex_up w o i.toNatClampNeg (x.toInt8.toInt32))) : ex_G p l e R s m args below meth c Q dC dI ad0 cI cB K y (.bastore :: code) (pl) (.int x :: .int i :: .ref o :: st) (w) := absurd h2 (ex_no13 o)
theorem es_iast (C : ex_Fix p l e R s m args c dC dI ad0 cI cB y d) {o : Nat} {i x : Int32} (h2 : ex_cls o = 12) (hin : ¬ (i < 0 ∨ ex_len o ≤ i.toNatClampNeg)) (k : ex_G p l e R s m args below meth c Q dC dI ad0 cI cB K y (code) (pl) (st) (ex_up w o i.toNatClampNeg (x))) : ex_G p l e R s m args below meth c Q dC dI ad0 cI cB K y (.iastore :: code) (pl) (.int x :: .int i :: .ref o :: st) (w) := by
  intro ad pc H locs ls hA hok hP hS hL
  obtain ⟨hx, hb, hml, hown, hts, hC, hR, hcl⟩ := C
  obtain ⟨j, len, hd, hi, ho⟩ := ex_ok_cons rfl hok
  have hi : (decide (j = .iastore) && len == 1) = true := hi
  simp only [Bool.and_eq_true, decide_eq_true_eq, beq_iff_eq] at hi
  obtain ⟨rfl, rfl⟩ := hi
  have he : (ex_cel ad cI cB w)[ex_ps o]? = some (ad o, .inl (cI, ex_hl ad o, .inl (w.1 o))) := by rw [ex_cel_at (ex_cls_lt (by omega)), ex_en_ia h2]
  have hset : ex_cel ad cI cB (ex_up w o i.toNatClampNeg (x)) = (ex_cel ad cI cB w).set (ex_ps o) (ad o, .inl (cI, ex_hl ad o, .inl (upd (w.1 o) i.toNatClampNeg (x)))) := by
    rw [ex_cel_up (ex_cls_lt (by omega)), ex_en_ia h2, ex_up_1]
  exact va_iast hx hb hC.1 hP (ex_vD hA) hS (ex_ps o) 0 he rfl (ex_hin hA.2.1.2 hin) hd (fun H1 locs1 hP1 hD1 hS1 => k ad _ H1 locs1 ls hA ho (by rw [hset]; exact hP1) hS1 hL)
theorem es_slen (C : ex_Fix p l e R s m args c dC dI ad0 cI cB y d) (k : ex_G p l e R s m args below meth c Q dC dI ad0 cI cB K y (code) (pl) (.int (Int32.ofNat w.2.2.1) :: st) (w)) : ex_G p l e R s m args below meth c Q dC dI ad0 cI cB K y (.arraylength :: code) (pl) (.ref 2000 :: st) (w) := by
  intro ad pc H locs ls hA hok hP hS hL
  obtain ⟨hx, hb, hml, hown, hts, hC, hR, hcl⟩ := C
  obtain ⟨j, len, hd, hi, ho⟩ := ex_ok_cons rfl hok
  have hi : (decide (j = .arraylength) && len == 1) = true := hi
  simp only [Bool.and_eq_true, decide_eq_true_eq, beq_iff_eq] at hi
  obtain ⟨rfl, rfl⟩ := hi
  have h9 := k ad _ H locs ls hA ho hP hS hL
  show W p l e R s m args below meth c H locs (ex_kc K w) (ex_ks K w) Q (F0 m pc ls ((.ref 2000 :: st : List Value).map (ex_tv ad)))
  rw [ex_cell_ad (hA.1.fix (o := 2000) (by omega))]
  exact va_tlen hx hb hC.2.2.2.2.2.2 hS (by rw [hA.2.2.2.1]) hd h9
theorem es_newa (C : ex_Fix p l e R s m args c dC dI ad0 cI cB y d) {o : Nat} {n : Int32} (hn : n = Int32.ofNat (ex_len o)) (hdy : ex_dy y o = true) (hroom : ex_kc K (ex_zr w o) ≤ R.cells ∧ ex_ks K (ex_zr w o) ≤ R.slots) (k : ex_G p l e R s m args below meth c Q dC dI ad0 cI cB K y (code) (pl.map (ex_scr o)) ([.ref o]) (ex_zr w o)) : ex_G p l e R s m args below meth c Q dC dI ad0 cI cB K y (.anewarray o :: code) (pl) ([.int n]) (w) := by
  intro ad pc H locs ls hA hok hP hS hL
  obtain ⟨hx, hb, hml, hown, hts, hC, hR, hcl⟩ := C
  obtain ⟨j, len, hd, hi, ho⟩ := ex_ok_cons rfl hok
  unfold ex_okI at hi
  dsimp only at hi
  cases j with
  | newarray ty =>
    simp only [Bool.and_eq_true, decide_eq_true_eq, beq_iff_eq] at hi
    obtain ⟨rfl, rfl⟩ := hi
    obtain ⟨h12, h64, hNO⟩ := ex_dy_cls hdy
    have h50 := ex_dy_lt hdy
    obtain ⟨hAd, hIn, hKw, hSc⟩ := id hA
    have hkc : ex_kc K (ex_zr w o) = ex_kc K w + 1 := by
      show K.1 + (w.2.1 + 1 - K.2.2) = K.1 + (w.2.1 - K.2.2) + 1
      omega
    have hks : ex_ks K (ex_zr w o) = ex_ks K w + 64 := by
      show K.2.1 + 64 * (w.2.1 + 1 - K.2.2) = K.2.1 + 64 * (w.2.1 - K.2.2) + 64
      omega
    have hnn : ¬ n < 0 ∧ n.toNatClampNeg = ex_len o := by
      subst hn
      have h3 : o = 50 ∨ o = 51 ∨ o = 52 := by omega
      rcases h3 with rfl | rfl | rfl <;> decide
    refine va_newaK (atype := .int) (N := ex_len o) hx hb (hts _ kt_int) rfl hd rfl hnn.1 hnn.2 (Nat.le_trans (Nat.mul_le_mul_right 4 h64) (by decide)) (by rw [← hkc]; exact hroom.1) (by have := hroom.2; omega) rfl (fun H1 cA e1 z1 o1 hAr hNm => ?_)
    have h2 : s.vm.findClass _ = some cI := (hC.1.2 0 (cI, .int) rfl).2
    have h3 : cA = cI := Option.some.inj (hNm.symm.trans h2)
    subst h3
    have hlt : ∀ a, ex_on a → ad a < H.size := fun a ha => va_at.lt (hP _ _ (ex_cel_at ha))
    obtain ⟨ad1, hA1, hAo, hA2, hA3⟩ : ∃ ad1 : Nat → Nat, (∀ a, a ≠ o → a ≠ 2500 → ad1 a = ad a) ∧ ad1 o = H.size ∧ (o = 51 → ad1 2500 = 24) ∧ (o ≠ 51 → ad1 2500 = ad 2500) := ⟨fun q => if q = o then H.size else if q = 2500 ∧ o = 51 then 24 else ad q, fun a ha hb => (if_neg ha).trans (if_neg fun h => hb h.1), if_pos rfl, fun h => (if_neg (by omega)).trans (if_pos ⟨rfl, h⟩), fun h => (if_neg (by omega)).trans (if_neg fun h2 => h h2.2)⟩
    have hSt : ex_St y ad0 ad1 s.heap.size K (ex_zr w o) := by
      refine ⟨fun a => ?_, ⟨fun i j hi hj he => ?_, ?_⟩, Nat.le_succ_of_le hKw, hSc⟩
      · by_cases ha : a = o
        · subst ha
          exact Or.inr (Or.inl ⟨hdy, by rw [hAo]; exact hS.1⟩)
        · by_cases ha2 : a = 2500
          · subst ha2
            by_cases h51 : o = 51
            · exact Or.inr (Or.inr ⟨rfl, by rw [← h51]; exact hdy⟩)
            · rw [hA3 h51]; exact hAd _
          · rw [hA1 a ha ha2]; exact hAd a
      · by_cases h1 : i = o
        · by_cases h2 : j = o
          · rw [h1, h2]
          · rw [h1, hAo, hA1 j h2 (by have := hj.1; omega)] at he
            have := hlt j hj; omega
        · by_cases h2 : j = o
          · rw [h2, hAo, hA1 i h1 (by have := hi.1; omega)] at he
            have := hlt i hi; omega
          · rw [hA1 i h1 (by have := hi.1; omega), hA1 j h2 (by have := hj.1; omega)] at he
            exact hIn.1 i j hi hj he
      · by_cases h51 : o = 51
        · rw [hA2 h51]; exact Nat.le_refl _
        · rw [hA3 h51]; exact hIn.2
    have hP1 : va_P (dC, dI) ex_cm (ex_cel ad1 cA cB (ex_zr w o)) H1 := by
      intro p q hq
      rcases Nat.lt_or_ge p 50 with hp | hp
      · rw [ex_cel_pos hp] at hq
        have hq := Option.some.inj hq
        subst hq
        have hi := ex_ob_on hp
        have hPi := hP p _ (ex_cel_pos hp)
        generalize ex_ob p = i at *
        by_cases h1 : i = o
        · rw [h1, hAo, ex_en_ia h12]
          have e6 : ex_hl ad1 o = ex_len o := by
            unfold ex_hl
            by_cases h51 : o = 51
            · rw [if_pos h51, hA2 h51, h51]; rfl
            · rw [if_neg h51]
          rw [e6]
          show H1[H.size]? = some (vp_cell cA (ex_len o, .inl ((ex_zr w o).1 o)))
          have e5 : (ex_zr w o).1 o = fun _ => 0 := by funext z; exact if_pos rfl
          rw [e5]
          exact e1
        · have hi53 := hi.1
          rw [hA1 i h1 (by omega), ex_en_ad (ad0 := ad) (fun a ha => hA1 a (by omega) (by omega)) (by
            unfold ex_hl
            by_cases h51 : i = 51
            · rw [if_pos h51, if_pos h51, hA3 (by omega)]
            · rw [if_neg h51, if_neg h51])]
          have e5 : (ex_zr w o).1 i = w.1 i := by funext z; exact if_neg h1
          rw [ex_en_same e5]
          exact va_at.kept hPi (o1 _ (hlt i hi))
      · rw [ex_cel_none hp] at hq; cases hq
    have hS1 : va_S (ex_AA ad0 s.heap.size) s.heap H1 locs := ⟨Nat.le_trans hS.1 (by omega), fun x h1 h2 => (o1 x (Nat.lt_of_lt_of_le h1 hS.1)).trans (hS.2.1 x h1 h2), hS.2.2⟩
    have h9 := k _ _ H1 locs ls hSt ho hP1 hS1 (hL.scr hA1)
    refine W.widen (k := ex_kc K (ex_zr w o)) (n := ex_ks K (ex_zr w o)) (by omega) (by omega) ?_
    rw [ex_cell_ad (st := []) hAo] at h9
    exact h9
  | _ => cases hi
/-- behind a call -/
theorem es_back {ad : Nat → Nat} {pc z : Nat} {H : Heap} {locs : List Loc} {ls : Array Slot} {st0 rest : List Value} {a : Array Value} {r : Option Value} {w1 : PW} (hz : z < 104) (hzy : ex_al z = true → ex_dy y 51 = true) (hnr : ex_nf r) (hm : w.2.1 ≤ w1.2.1 ∧ w1.2.2 = w.2.2) (hpl : ex_cg z pl rest = true)
    (hA : ex_St y ad0 ad s.heap.size K w)
    (hr : va_Run p l e R s m args below meth c H locs (ex_kc K w) (ex_ks K w) (w1.2.1 - w.2.1) (64 * (w1.2.1 - w.2.1)) (F0 m pc ls st0) (rest.map (ex_tv ad)) (ex_Post dC dI ad cI cB H.size z r w1 a) (ex_AA ad H.size)) (hS : va_S (ex_AA ad0 s.heap.size) s.heap H locs) (hL : ex_LR ad (ex_L y) ls pl)
    (ho : ex_ok y (pc + 3) code = true) (k : ex_G p l e R s m args below meth c Q dC dI ad0 cI cB K y (code) (pl) (r.toList ++ rest) (w1)) : W p l e R s m args below meth c H locs (ex_kc K w) (ex_ks K w) Q (F0 m pc ls st0) := by
  intro T hT X
  obtain ⟨v, st₀, t, T', L, h0, X', hL2, e1, e2, ⟨hv, ⟨ad', hAd, hIn', hp⟩, hz1, hk⟩, st⟩ := hr T hT X
  rw [h0] at hz1 hk
  have hAA := ex_AA_ad hA.1 hS.1
  have hv2 : v = r.map (ex_tv ad) := by cases hv; rfl
  subst hv2
  have hS1 : va_S (ex_AA ad0 s.heap.size) s.heap T'.heap (locs ++ L) :=
    ⟨Nat.le_trans hS.1 (by rw [e1]; exact hz1), fun q h1 h2 => by rw [e1, hk q (Nat.lt_of_lt_of_le h1 hS.1) (fun z => h2 (hAA q z))]; exact hS.2.1 q h1 h2, fun q hq => by
      rcases List.mem_append.mp hq with h | h
      · exact hS.2.2 q h
      · exact hAA _ (hL2 q h)⟩
  have hSt : ex_St y ad0 ad' s.heap.size K w1 := by
    refine ⟨fun o => ?_, hIn', Nat.le_trans hA.2.2.1 hm.1, hA.2.2.2.ad (fun _ _ _ => rfl) hm.2⟩
    rcases hAd o with h | ⟨h1, h2⟩ | ⟨rfl, h1⟩
    · rw [h]; exact hA.1 o
    · obtain ⟨rfl, h3⟩ := ex_dy_of hz h1
      exact Or.inr (Or.inl ⟨hzy h3, Nat.le_trans hS.1 h2⟩)
    · exact Or.inr (Or.inr ⟨rfl, hzy (ex_dy_of hz h1).2⟩)
  have hn51 : ∀ l : List Value, l.all ex_n51 = true → ∀ o, .ref o ∈ l → o ≠ 51 ∧ o ≠ 2500 := fun l h o ho => by
    have h2 : (o != 51 && o != 2500) = true := List.all_eq_true.mp h _ ho
    exact ⟨fun q => by rw [q] at h2; exact absurd h2 (by decide), fun q => by rw [q] at h2; exact absurd h2 (by decide)⟩
  have hsame : ∀ o, (ex_al z = true → o ≠ 51 ∧ o ≠ 2500) → ad' o = ad o := fun o h => by
    rcases hAd o with h1 | ⟨h1, -⟩ | ⟨h1, h2⟩
    · exact h1
    · obtain ⟨h3, h4⟩ := ex_dy_of hz h1
      exact absurd h3 (h h4).1
    · exact absurd h1 (h (ex_dy_of hz h2).2).2
  have hcg : ∀ o, (.ref o ∈ pl ∨ .ref o ∈ rest) → ex_al z = true → o ≠ 51 ∧ o ≠ 2500 := by
    intro o ho hal
    have h2 : (!ex_al z || (pl.all ex_n51 && rest.all ex_n51)) = true := hpl
    rw [hal] at h2
    have h2 : (pl.all ex_n51 && rest.all ex_n51) = true := h2
    rw [Bool.and_eq_true] at h2
    rcases ho with ho | ho
    · exact hn51 _ h2.1 o ho
    · exact hn51 _ h2.2 o ho
  have hL1 : ex_LR ad' (ex_L y) ls pl := hL.ad fun o ho => hsame o (hcg o (Or.inl ho))
  obtain ⟨t2, a1, b1⟩ := k ad' _ T'.heap (locs ++ L) ls hSt ho (by rw [e1]; exact hp) hS1 hL1 T' rfl (by
    have q1 : ex_kc K w1 = ex_kc K w + (w1.2.1 - w.2.1) := by
      have := hA.2.2.1; have := hm.1
      show K.1 + (w1.2.1 - K.2.2) = K.1 + (w.2.1 - K.2.2) + (w1.2.1 - w.2.1)
      omega
    have q2 : ex_ks K w1 = ex_ks K w + 64 * (w1.2.1 - w.2.1) := by
      have := hA.2.2.1; have := hm.1
      show K.2.1 + 64 * (w1.2.1 - K.2.2) = K.2.1 + 64 * (w.2.1 - K.2.2) + 64 * (w1.2.1 - w.2.1)
      omega
    rw [q1, q2]
    exact X')
  refine ⟨t2, st t2 ?_, b1⟩
  have e3 : ((r.toList ++ rest).map (ex_tv ad')) = (r.map (ex_tv ad)).toList ++ rest.map (ex_tv ad) := by
    rw [List.map_append, ex_map_ad (st := rest) (ad0 := ad) (fun o ho => hsame o (hcg o (Or.inr ho)))]
    congr 1
    cases r with
    | none => rfl
    | some v =>
      show [ex_tv ad' v] = [ex_tv ad v]
      rw [ex_tv_ad (ad0 := ad) (fun o ho => absurd ho (hnr v rfl o))]
  rw [e3] at a1
  exact a1
theorem ex_pre_at {ad : Nat → Nat} {H : Heap} {locs : List Loc} {U : State} (hC : ex_Cx dC dI ad0 cI cB (ex_AA ad0 s.heap.size) s s.heap) (hA : ex_St y ad0 ad s.heap.size K w) (hP : va_P (dC, dI) ex_cm (ex_cel ad cI cB w) H) (hS : va_S (ex_AA ad0 s.heap.size) s.heap H locs) (hU : U.heap = H) (hW : s.WarmedH U.vm) : ex_Pre dC dI ad cI cB H.size w U :=
  ⟨by rw [hU], by rw [hU]; exact hP, by rw [hU]; exact (hC.to hW.alike (ex_nw_warm hW) (fun a h1 h2 => hS.2.1 a h1 h2) (ex_AA_ad hA.1 hS.1)).ad (fun o h h2 => hA.1.fix (Or.inr ⟨h, h2⟩)), hA.2.1, hA.2.2.2.ad (fun o h h2 => hA.1.fix (Or.inr ⟨h, h2⟩)) rfl⟩
theorem ex_hf {R : Room} {w1 : PW} (hK : K.2.2 ≤ w.2.1) (hm : w.2.1 ≤ w1.2.1) (hroom : ex_kc K w1 ≤ R.cells ∧ ex_ks K w1 ≤ R.slots) : ex_kc K w + (w1.2.1 - w.2.1) ≤ R.cells ∧ ex_ks K w + 64 * (w1.2.1 - w.2.1) ≤ R.slots := by
  have h1 : K.1 + (w1.2.1 - K.2.2) ≤ R.cells := hroom.1
  have h2 : K.2.1 + 64 * (w1.2.1 - K.2.2) ≤ R.slots := hroom.2
  show K.1 + (w.2.1 - K.2.2) + (w1.2.1 - w.2.1) ≤ R.cells ∧ K.2.1 + 64 * (w.2.1 - K.2.2) + 64 * (w1.2.1 - w.2.1) ≤ R.slots
  omega
theorem es_call (C : ex_Fix p l e R s m args c dC dI ad0 cI cB y (d + 1)) {f : Nat} {as rest : List Value} {r : Option Value} {w1 : PW} (hcon : ex_Con l d (f / 16) as w r w1) (hnr : ex_nf r) (hm : w.2.1 ≤ w1.2.1 ∧ w1.2.2 = w.2.2) (hroom : ex_kc K w1 ≤ R.cells ∧ ex_ks K w1 ≤ R.slots) (hs : ex_spl (f % 16) [] st = some (as, rest)) (hcg : ex_cg (f / 16) pl rest = true) (hlow : ex_low rest = true) (k : ex_G p l e R s m args below meth c Q dC dI ad0 cI cB K y (code) (pl) (r.toList ++ rest) (w1)) : ex_G p l e R s m args below meth c Q dC dI ad0 cI cB K y (.invokestatic f :: code) (pl) (st) (w) := by
  intro ad pc H locs ls hA hok hP hS hL
  obtain ⟨hx, hb, hml, hown, hts, hC, hR, hcl⟩ := C
  obtain ⟨j, len, hd, hi, ho⟩ := ex_ok_cons rfl hok
  unfold ex_okI at hi
  dsimp only at hi
  cases j with
  | invokestatic a =>
    simp only [Bool.and_eq_true, beq_iff_eq] at hi
    obtain ⟨⟨h3, rfl⟩, hcy⟩ := hi
    obtain ⟨hy, har, hst, hlk⟩ := kq_T hcl _ (ex_lk h3)
    have hw := kw_all hy
    have hcy : ((!ex_al (f / 16) || ex_dy y 51) && (decide (ex_L (f / 16) ≤ 14) || y == 104)) = true := hcy
    rw [Bool.and_eq_true, Bool.or_eq_true, Bool.or_eq_true, decide_eq_true_eq, beq_iff_eq] at hcy
    have hzy : ex_al (f / 16) = true → ex_dy y 51 = true := fun q => by
      rcases hcy.1 with h | h
      · rw [q] at h; cases h
      · exact h
    obtain ⟨pre, e1, e2, e3⟩ := ex_spl_spec hs
    rw [List.append_nil] at e2
    have hst0 : st.map (ex_tv ad) = (as.map (ex_tv ad)).reverse ++ rest.map (ex_tv ad) := by
      rw [e1, e2, List.map_append, List.map_reverse, List.reverse_reverse]
    have hlen : (as.map (ex_tv ad)).length = f % 16 := by rw [List.length_map, e2, List.length_reverse, e3]
    have hfit := ex_Rm_fit (n := w1.2.1 - w.2.1) (mL := ex_L (f / 16)) (by rcases hcy.2 with h | h; exact Or.inl h; exact Or.inr ⟨hw.2.2.2.2.2.2, h⟩) hR
    have hari : ∀ sig, parseMethodDescriptor (ex_Y (f / 16)).desc = some sig → f % 16 = sig.parameters.length := by
      intro sig hsig
      have h2 : (parseMethodDescriptor (ex_Y (f / 16)).desc).map (fun d => d.parameters.length) = some (f % 16) := har
      rw [hsig] at h2
      exact (Option.some.inj h2).symm
    have hp : PreS s H (va_Pc (as.map (ex_tv ad)) (ex_Pre dC dI ad cI cB H.size w)) (as.map (ex_tv ad)) := ⟨ex_blind, fun U hU hW => ⟨rfl, ex_pre_at hC hA hP hS hU hW⟩⟩
    rw [hst0]
    have hfr0 := ex_hf hA.2.2.1 hm.1 hroom
    refine es_back (a := (as.map (ex_tv ad)).toArray) (z := f / 16) hy hzy hnr hm hcg hA ?_ hS hL ho k
    rcases hlk with hlk | hlk
    · exact va_runS (Ts := ex_tb) (own := ex_Rn (ex_C y)) ⟨hx, hb, hml, hown, hts⟩ (hcon dC dI ad cI cB H.size) ⟨⟨rfl, rfl, hfit.1, hfit.2, ex_pay hts hw, List.mem_cons_self, hts _ hw.1, hts _ hw.2.1, hw.2.2.2.2.2.1, hari, hts _ hlk⟩, hts _ hst⟩ hp rfl hlen hL.2.1.1 rfl (lv_room (ex_low_cat hlow)) hd hfr0
    · have hnw := hC.2.1 _ hlk
      exact va_runSN (Ts := ex_tb) (own := ex_Rn (ex_C y)) ⟨hx, hb, hml, hown, hts⟩ (hcon dC dI ad cI cB H.size) ⟨⟨⟨rfl, rfl, hfit.1, hfit.2, ex_pay hts hw, List.mem_cons_self⟩, hts _ hw.1, hts _ hw.2.1, hw.2.2.2.2.2.1, hari, va_Nw.use rfl hnw⟩, hts _ hst, trivial⟩ hp rfl hlen hL.2.1.1 rfl (lv_room (ex_low_cat hlow)) hd hfr0
  | _ => cases hi
theorem ex_recv {ad : Nat → Nat} {H : Heap} {o ci : Nat} (hC : va_K (dC, dI) ex_cm [(cI, .int)] s) (hP : va_P (dC, dI) ex_cm (ex_cel ad cI cB w) H) (ho : ex_cls o = ci) (h12 : ci < 12) : ∃ cell : Cell, H[ad o]? = some cell ∧ cell.vm.isStatics = false ∧ s.vm.findClass (ex_Rn ci) = some cell.cls := by
  have hlt : ex_on o := ex_cls_lt (by omega)
  have : ex_Sh[o]? = some (ci, (ex_Sh[o]'hlt.1).2) := by
    have h1 : ex_Sh[o]? = some (ex_Sh[o]'hlt.1) := List.getElem?_eq_getElem hlt.1
    unfold ex_cls at ho
    rw [h1] at ho ⊢
    dsimp only at ho
    rw [← ho]
  exact va_recv hC hP (ex_cl_at (by have := ex_no11 this; dsimp only at this; omega)) (q0 := ex_ps o) (by rw [ex_cel_at hlt, ex_en_obj this h12])
theorem es_callv (C : ex_Fix p l e R s m args c dC dI ad0 cI cB y (d + 1)) {f o : Nat} {as rest : List Value} {r : Option Value} {w1 : PW} (hcon : ex_Con l d (f / 16) (.ref o :: as) w r w1) (hnr : ex_nf r) (hm : w.2.1 ≤ w1.2.1 ∧ w1.2.2 = w.2.2) (hroom : ex_kc K w1 ≤ R.cells ∧ ex_ks K w1 ≤ R.slots) (hcls : ex_okR (f / 16) (.ref o :: as) = true) (hs : ex_spl (f % 16 + 1) [] st = some (.ref o :: as, rest)) (hlow : ex_low rest = true) (k : ex_G p l e R s m args below meth c Q dC dI ad0 cI cB K y (code) (pl) (r.toList ++ rest) (w1)) : ex_G p l e R s m args below meth c Q dC dI ad0 cI cB K y (.invokevirtual f :: code) (pl) (st) (w) := by
  intro ad pc H locs ls hA hok hP hS hL
  obtain ⟨hx, hb, hml, hown, hts, hC, hR, hcl⟩ := C
  obtain ⟨j, len, hd, hi, ho⟩ := ex_ok_cons rfl hok
  unfold ex_okI at hi
  dsimp only at hi
  cases j with
  | invokevirtual a =>
    simp only [Bool.and_eq_true, beq_iff_eq] at hi
    obtain ⟨h3, rfl⟩ := hi
    obtain ⟨hy, har, hin, hse, hlk, h9⟩ := kq_V hcl _ (ex_lk h3)
    have hy4 : f / 16 < 104 := Nat.lt_of_lt_of_le hy (by decide)
    have hw := kw_all hy4
    obtain ⟨hyL, hyA⟩ := ex_cls_L _ hy
    have hy11 : (ex_C (f / 16) == 11) = false := ex_cls_11 _ hy
    have hC9 : ex_cls o = ex_C (f / 16) := by
      have h5 : (ex_cls o == ex_C (f / 16) || (ex_C (f / 16) == 9 && (ex_cls o == 2 || ex_cls o == 4))) = true := by
        have h6 : ((.ref o :: as : List Value).all ex_isv && (decide ((ex_lay (.ref o :: as)).length ≤ ex_L (f / 16)) && (ex_C (f / 16) == 11 || ex_cls o == ex_C (f / 16) || (ex_C (f / 16) == 9 && (ex_cls o == 2 || ex_cls o == 4))))) = true := hcls
        rw [Bool.and_eq_true, Bool.and_eq_true, hy11, Bool.false_or] at h6
        exact h6.2.2
      rcases Bool.or_eq_true _ _ ▸ h5 with h6 | h6
      · exact eq_of_beq h6
      · rw [Bool.and_eq_true] at h6
        exact absurd (eq_of_beq h6.1) h9
    obtain ⟨pre, e1, e2, e3⟩ := ex_spl_spec hs
    rw [List.append_nil] at e2
    have hst0 : st.map (ex_tv ad) = (as.map (ex_tv ad)).reverse ++ .ref (ad o) :: rest.map (ex_tv ad) := by
      have e4 : pre = as.reverse ++ [.ref o] := by rw [← List.reverse_reverse (as := pre), ← e2]; simp
      rw [e1, e4]
      simp only [List.map_append, List.map_reverse, List.map_cons, List.map_nil, List.append_assoc]
      rfl
    have hlen : (as.map (ex_tv ad)).length = f % 16 := by
      have : (.ref o :: as : List Value).length = f % 16 + 1 := by rw [e2, List.length_reverse, e3]
      rw [List.length_map]
      simpa using this
    have hfit := ex_Rm_fit (n := w1.2.1 - w.2.1) (Or.inl hyL) hR
    have hari : ∀ sig, parseMethodDescriptor (ex_Y (f / 16)).desc = some sig → f % 16 = sig.parameters.length := by
      intro sig hsig
      have h2 : (parseMethodDescriptor (ex_Y (f / 16)).desc).map (fun d => d.parameters.length) = some (f % 16) := har
      rw [hsig] at h2
      exact (Option.some.inj h2).symm
    have hp : PreV s H (ex_Y (f / 16)).cls (ad o) (va_Pc ((.ref o :: as : List Value).map (ex_tv ad)) (ex_Pre dC dI ad cI cB H.size w)) (as.map (ex_tv ad)) :=
      ⟨ex_blind, by rw [hw.2.2.1]; exact ex_recv hC.1 hP hC9 hw.2.2.2.1, fun U hU hW => ⟨rfl, ex_pre_at hC hA hP hS hU hW⟩⟩
    rw [hst0]
    refine es_back (a := (Value.ref (ad o) :: as.map (ex_tv ad)).toArray) (z := f / 16) hy4 (fun q => by rw [hyA] at q; cases q) hnr hm (show ex_cg (f / 16) pl rest = true by unfold ex_cg; rw [hyA]; rfl) hA ?_ hS hL ho k
    exact va_runV (Ts := ex_tb) (own := ex_Rn (ex_C y)) ⟨hx, hb, hml, hown, hts⟩ (hcon dC dI ad cI cB H.size) ⟨⟨rfl, rfl, hfit.1, hfit.2, ex_pay hts hw, List.mem_cons_self, hts _ hw.1, hts _ hw.2.1, hw.2.2.2.2.2.1, hari, hts _ hlk⟩, hts _ hin, hts _ hse⟩ hp rfl hlen hL.2.1.1 rfl (lv_room (ex_low_cat hlow)) hd (ex_hf hA.2.2.1 hm.1 hroom)
  | _ => cases hi
theorem es_calli (C : ex_Fix p l e R s m args c dC dI ad0 cI cB y (d + 1)) {x n o yy : Nat} {as rest : List Value} {r : Option Value} {w1 : PW} (hcon : ex_Con l d yy (.ref o :: as) w r w1) (hnr : ex_nf r) (hm : w.2.1 ≤ w1.2.1 ∧ w1.2.2 = w.2.2) (hroom : ex_kc K w1 ≤ R.cells ∧ ex_ks K w1 ≤ R.slots) (hdp : ex_dsp x (ex_cls o) = some yy) (hs : ex_spl (n + 1) [] st = some (.ref o :: as, rest)) (hlow : ex_low rest = true) (k : ex_G p l e R s m args below meth c Q dC dI ad0 cI cB K y (code) (pl) (r.toList ++ rest) (w1)) : ex_G p l e R s m args below meth c Q dC dI ad0 cI cB K y (.invokeinterface x n :: code) (pl) (st) (w) := by
  intro ad pc H locs ls hA hok hP hS hL
  obtain ⟨hx, hb, hml, hown, hts, hC, hR, hcl⟩ := C
  obtain ⟨j, len, hd, hi, ho⟩ := ex_ok_cons rfl hok
  unfold ex_okI at hi
  dsimp only at hi
  cases j with
  | invokevirtual a =>
    simp only [Bool.and_eq_true, beq_iff_eq] at hi
    obtain ⟨h3, rfl⟩ := hi
    obtain ⟨hy, hc9, har, hlk, hsm, hdc, hse, hin, -⟩ := kx_all h3 hdp
    have hy4 : yy < 104 := Nat.lt_of_lt_of_le hy (by decide)
    have hw := kw_all hy4
    obtain ⟨hyL, hyA⟩ := ex_cls_L _ hy
    obtain ⟨pre, e1, e2, e3⟩ := ex_spl_spec hs
    rw [List.append_nil] at e2
    have hst0 : st.map (ex_tv ad) = (as.map (ex_tv ad)).reverse ++ .ref (ad o) :: rest.map (ex_tv ad) := by
      have e4 : pre = as.reverse ++ [.ref o] := by rw [← List.reverse_reverse (as := pre), ← e2]; simp
      rw [e1, e4]
      simp only [List.map_append, List.map_reverse, List.map_cons, List.map_nil, List.append_assoc]
      rfl
    have hlen : (as.map (ex_tv ad)).length = n := by
      have : (.ref o :: as : List Value).length = n + 1 := by rw [e2, List.length_reverse, e3]
      rw [List.length_map]
      simpa using this
    have hfit := ex_Rm_fit (n := w1.2.1 - w.2.1) (Or.inl hyL) hR
    have hari : ∀ sig, parseMethodDescriptor (ex_Xm x).desc = some sig → n = sig.parameters.length := by
      intro sig hsig
      have h2 : (parseMethodDescriptor (ex_Xm x).desc).map (fun d => d.parameters.length) = some n := har
      rw [hsig] at h2
      exact (Option.some.inj h2).symm
    have hp : PreV s H (ex_Rn (ex_cls o)) (ad o) (va_Pc ((.ref o :: as : List Value).map (ex_tv ad)) (ex_Pre dC dI ad cI cB H.size w)) (as.map (ex_tv ad)) :=
      ⟨ex_blind, ex_recv hC.1 hP rfl (by omega), fun U hU hW => ⟨rfl, ex_pre_at hC hA hP hS hU hW⟩⟩
    have hdc2 := va_Decl.abs (hC.2.1 _ hdc)
    rw [hst0]
    refine es_back (a := (Value.ref (ad o) :: as.map (ex_tv ad)).toArray) (z := yy) hy4 (fun q => by rw [hyA] at q; cases q) hnr hm (show ex_cg yy pl rest = true by unfold ex_cg; rw [hyA]; rfl) hA ?_ hS hL ho k
    exact va_runU (Ts := ex_tb) (own := ex_Rn (ex_C y)) (C := ex_Rn (ex_cls o)) (owner := "BorderThroughBed$Text") ⟨hx, hb, hml, hown, hts⟩ (hcon dC dI ad cI cB H.size) ⟨⟨rfl, rfl, hfit.1, hfit.2, ex_pay hts hw, List.mem_cons_self⟩, hts _ hw.1, hts _ hw.2.1, ⟨by decide, by decide⟩, hari, hts _ hlk, hts _ hsm, hdc2, hts _ hse, hts _ hin⟩ hp rfl hlen hL.2.1.1 rfl (lv_room (ex_low_cat hlow)) hd (ex_hf hA.2.2.1 hm.1 hroom)
  | _ => cases hi
end ET
