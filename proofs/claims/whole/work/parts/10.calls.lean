/-! steps, second half: fields, arrays, switches, calls -/
theorem ex_decl : ∀ c, c < 12 → ∀ k, k < ex_N c → (ex_T c k).1 = ex_Rn c := by decide +kernel
theorem ex_cat2 {v : Value} : v.category ≤ 2 := by cases v <;> first | exact Nat.le_refl 2 | exact Nat.le_succ 1
theorem ex_i1_cat {ad : Nat → Nat} {v : Value} (h : ex_i1 v = true) : (ex_tv ad v).category = 1 := by
  cases v <;> first | rfl | cases h
theorem ex_low_cat {ad : Nat → Nat} {st : List Value} (h : ex_low st = true) : ((st.map (ex_tv ad)).map fun v => v.category).sum ≤ 8 := by
  match st, h with
  | [], _ => exact Nat.zero_le 8
  | [a], _ => have h1 := @ex_cat2 (ex_tv ad a); simp only [List.map, List.sum_cons, List.sum_nil]; omega
  | [a, b], _ => have h1 := @ex_cat2 (ex_tv ad a); have h2 := @ex_cat2 (ex_tv ad b); simp only [List.map, List.sum_cons, List.sum_nil]; omega
  | [a, b, c], _ => have h1 := @ex_cat2 (ex_tv ad a); have h2 := @ex_cat2 (ex_tv ad b); have h3 := @ex_cat2 (ex_tv ad c); simp only [List.map, List.sum_cons, List.sum_nil]; omega
  | [a, b, c, f], _ => have h1 := @ex_cat2 (ex_tv ad a); have h2 := @ex_cat2 (ex_tv ad b); have h3 := @ex_cat2 (ex_tv ad c); have h4 := @ex_cat2 (ex_tv ad f); simp only [List.map, List.sum_cons, List.sum_nil]; omega
  | [a, b, c, f, g], h =>
    have h : (ex_i1 a && (ex_i1 b && (ex_i1 c && ex_i1 f))) = true := h
    rw [Bool.and_eq_true, Bool.and_eq_true, Bool.and_eq_true] at h
    have h1 := ex_i1_cat (ad := ad) h.1
    have h2 := ex_i1_cat (ad := ad) h.2.1
    have h3 := ex_i1_cat (ad := ad) h.2.2.1
    have h4 := ex_i1_cat (ad := ad) h.2.2.2
    have h5 := @ex_cat2 (ex_tv ad g)
    simp only [List.map, List.sum_cons, List.sum_nil]; omega
theorem ex_spl_spec {n : Nat} {acc st as rest : List Value} (h : ex_spl n acc st = some (as, rest)) : ∃ pre, st = pre ++ rest ∧ as = pre.reverse ++ acc ∧ pre.length = n := by
  induction n generalizing acc st with
  | zero =>
    have h2 : some (acc, st) = some (as, rest) := h
    cases h2
    exact ⟨[], rfl, rfl, rfl⟩
  | succ n ih =>
    cases st with
    | nil => cases h
    | cons v st =>
      obtain ⟨pre, h1, h2, h3⟩ := ih (show ex_spl n (v :: acc) st = some (as, rest) from h)
      exact ⟨v :: pre, by rw [h1]; rfl, by rw [h2]; simp, by rw [List.length_cons, h3]⟩
theorem ex_nw_warm {s U : State} (hW : s.WarmedH U.vm) : ∀ x ∈ ex_nw, va_Nw x s → va_Nw x U := by
  unfold ex_nw
  repeat' first
    | exact fun _ h => absurd h List.not_mem_nil
    | refine List.forall_mem_cons.mpr ⟨?_, ?_⟩
    | exact fun h => va_Nw.warmM hW h
    | exact fun h => va_Nw.warmD hW h
theorem ex_nw_same {u U : State} (h : u.vm = U.vm) : ∀ x ∈ ex_nw, va_Nw x u → va_Nw x U := by
  intro x hx
  have : x.onTables = true := List.all_eq_true.mp (show ex_nw.all (fun x => x.onTables) = true from rfl) x hx
  exact va_Nw.same this h
theorem ex_Cx.to {dC : Nat → ClassId} {dI : Nat → Nat → Nat} {ad : Nat → Nat} {cI cB : ClassId} {A B : Nat → Prop} {u U : State} {H H1 : Heap} (h : ex_Cx dC dI ad cI cB A u H) (h1 : u.vm.Alike U.vm) (h2 : ∀ x ∈ ex_nw, va_Nw x u → va_Nw x U) (h3 : ∀ a : Nat, a < H.size → ¬ A a → H1[a]? = H[a]?) (h4 : ∀ q, B q → A q) : ex_Cx dC dI ad cI cB B U H1 := by
  obtain ⟨a1, a2, a3, a4, a5, a6⟩ := h
  exact ⟨a1.moved h1, fun x hx => h2 x hx (a2 x hx), ((a3.moved h1).kept h3).narrow h4, ((a4.moved h1).kept h3).narrow h4, ((a5.moved h1).kept h3).narrow h4, ((a6.moved h1).kept h3).narrow h4⟩
def ex_ws (y : Nat) : List Jvm.Cond := Jvm.Cond.code (ex_Y y) (ex_B y) (ex_L y) (ex_ret y) :: ex_tb
def ex_Pre (dC : Nat → ClassId) (dI : Nat → Nat → Nat) (ad : Nat → Nat) (cI cB : ClassId) (sz : Nat) (w : PW) (U : State) : Prop :=
  U.heap.size = sz ∧ va_P (dC, dI) ex_cl (ex_cel ad cI cB w) U.heap ∧ ex_Cx dC dI ad cI cB (ex_AA ad sz) U U.heap ∧ ex_In ad
def ex_Post (dC : Nat → ClassId) (dI : Nat → Nat → Nat) (ad : Nat → Nat) (cI cB : ClassId) (sz : Nat) (r : Option Value) (w : PW) : Array Value → State → Outcome → State → Prop := fun _ st oc t =>
  oc = .returned (r.map (ex_tv ad)) ∧ va_P (dC, dI) ex_cl (ex_cel ad cI cB w) t.heap ∧ va_F (ex_AA ad sz) st t
/-- THE CONTRACT of a method: what the pure machine answers, the real one does -/
def ex_Con (l : Launch) (d y : Nat) (as : List Value) (w : PW) (r : Option Value) (w1 : PW) : Prop :=
  ∀ (dC : Nat → ClassId) (dI : Nat → Nat → Nat) (ad : Nat → Nat) (cI cB : ClassId) (sz : Nat), Met l (ex_Y y) (ex_ws y) (ex_Rm d) (va_Pc (as.map (ex_tv ad)) (ex_Pre dC dI ad cI cB sz w)) (ex_Post dC dI ad cI cB sz r w1) 0 0 (ex_AA ad sz)
theorem ex_blind {dC : Nat → ClassId} {dI : Nat → Nat → Nat} {ad : Nat → Nat} {cI cB : ClassId} {sz : Nat} {w : PW} {vs : List Value} : FrameBlind (va_Pc vs (ex_Pre dC dI ad cI cB sz w)) := by
  intro a U g mk h
  obtain ⟨h0, h1, h2, h3, h4⟩ := h
  exact ⟨h0, h1, h2, h3.to (U := U.calling g mk a) (Vm.Alike.refl U.vm) (ex_nw_same rfl) (fun _ _ _ => rfl) (fun _ q => q), h4⟩
theorem ex_AA_le {ad : Nat → Nat} {a b : Nat} (h : a ≤ b) : ∀ q, ex_AA ad b q → ex_AA ad a q := by
  rintro q (q1 | q2)
  · exact Or.inl q1
  · exact Or.inr (Nat.le_trans h q2)
theorem ex_tb_good : ∀ w ∈ ex_tb, goodWord w = true := fun _ h => (List.mem_filter.mp h).2
theorem ex_ws_tb {y : Nat} (hy : ex_Pm y) : ∀ w ∈ ex_ws y, w ∈ ex_tb := by
  intro w h
  rcases List.mem_cons.mp h with rfl | h
  · exact hy.1
  · exact h
theorem ex_pay {args : Array Value} {s : State} {y : Nat} (hts : ∀ w ∈ ex_tb, w.before args s = true) (hy : ex_Pm y) : ∀ w ∈ ex_ws y, ∀ (a' : Array Value) (U : State), s.WarmedH U.vm → w.before a' U = true :=
  fun w hw _ _ hW => word_at hW (good_of_word (ex_tb_good w (ex_ws_tb hy w hw))) (hts w (ex_ws_tb hy w hw))
theorem ex_Rm_fit {d mL : Nat} (h : mL ≤ 23) : (ex_Rm d).frames + 1 ≤ (ex_Rm (d + 1)).frames ∧ 8 + (mL + 11) + (ex_Rm d).locals ≤ (ex_Rm (d + 1)).locals := by
  constructor
  · exact Nat.le_refl _
  · show 8 + (mL + 11) + 42 * d ≤ 42 * (d + 1)
    omega
section ET
variable {p : Program} {l : Launch} {e : Env} {R : Room} {s : State} {m : MethodId} {args : Array Value} {below : List Frame} {meth : Method} {c : Code} {Q : State → Prop} {dC : Nat → ClassId} {dI : Nat → Nat → Nat} {ad : Nat → Nat} {cI cB : ClassId} {y d : Nat} {code : List Instr} {pl st : List Value} {w : PW}
theorem es_tswitch (C : ex_Fix p l e R s m args c dC dI ad cI cB y d) {df lo hi : Int} {offs : Array Int} {a : Int32} (k1 : a.toInt < lo ∨ hi < a.toInt → ex_G p l e R s m args below meth c Q dC dI ad cI cB y (ex_blk y df.toNat) (pl) (st) (w)) (k2 : ¬ (a.toInt < lo ∨ hi < a.toInt) → ex_G p l e R s m args below meth c Q dC dI ad cI cB y (ex_blk y ((offs.toList.getD (a.toInt - lo).toNat 0).toNat)) (pl) (st) (w)) : ex_G p l e R s m args below meth c Q dC dI ad cI cB y (.tableswitch df lo hi offs :: code) (pl) (.int a :: st) (w) := by
  intro pc H locs ls hok hP hS hL
  obtain ⟨hx, hb, hml, hown, hts, hC, hIn, hR, hcl⟩ := C
  obtain ⟨j, len, hd, hq, ho⟩ := ex_ok_cons rfl hok
  unfold ex_okI at hq
  dsimp only at hq
  cases j with
  | tableswitch d2 l2 h2 o2 =>
    simp only [Bool.and_eq_true, decide_eq_true_eq, beq_iff_eq] at hq
    obtain ⟨⟨⟨⟨⟨⟨e1, e2⟩, rfl⟩, rfl⟩, e3⟩, e4⟩, e5⟩ := hq
    by_cases hin : a.toInt < lo ∨ hi < a.toInt
    · exact lv_tableOut hx hb hd hin (tgt := df.toNat) (by omega) (k1 hin _ H locs ls (ex_ok_blk y _) hP hS hL)
    · have hk : (a.toInt - lo).toNat < o2.toList.length := by
        rw [Array.length_toList]; omega
      have hoff : o2[(a.toInt - lo).toNat]? = some (o2.toList[(a.toInt - lo).toNat]) := by
        rw [← Array.getElem?_toList]
        exact List.getElem?_eq_getElem hk
      have hg : offs.toList.getD (a.toInt - lo).toNat 0 = (pc : Int) + o2.toList[(a.toInt - lo).toNat] := by
        rw [List.getD_eq_getElem?_getD, e3, List.getElem?_map, List.getElem?_eq_getElem hk]
        rfl
      have hn : 0 ≤ offs.toList.getD (a.toInt - lo).toNat 0 := by
        have hm : offs.toList.getD (a.toInt - lo).toNat 0 ∈ offs.toList := by
          rw [hg, e3]
          exact List.mem_map.mpr ⟨_, List.getElem_mem hk, rfl⟩
        have := List.all_eq_true.mp e4 _ hm
        exact of_decide_eq_true this
      exact lv_tableIn hx hb hd (by omega) (by omega) hoff (tgt := (offs.toList.getD (a.toInt - lo).toNat 0).toNat) (by rw [← hg]; omega) (k2 hin _ H locs ls (ex_ok_blk y _) hP hS hL)
  | _ => cases hq
theorem ex_lks_off {qs : List (Int × Int)} {d2 x pc : Int} : ex_lks (qs.map fun q => (q.1, pc + q.2)) (pc + d2) x = pc + Op.lookupswitch.offset qs d2 x := by
  induction qs with
  | nil => rfl
  | cons q r ih =>
    obtain ⟨a, b⟩ := q
    show (if x = a then pc + b else ex_lks (r.map fun q => (q.1, pc + q.2)) (pc + d2) x) = pc + (if a = x then b else Op.lookupswitch.offset r d2 x)
    by_cases h : x = a
    · rw [if_pos h, if_pos h.symm]
    · rw [if_neg h, if_neg (fun q => h q.symm), ih]
theorem ex_lks_nn {ps : List (Int × Int)} {df x : Int} (h : (ps.all fun q => decide (0 ≤ q.2)) = true) (hd : 0 ≤ df) : 0 ≤ ex_lks ps df x := by
  induction ps with
  | nil => exact hd
  | cons q r ih =>
    rw [List.all_cons, Bool.and_eq_true] at h
    show 0 ≤ (if x = q.1 then q.2 else ex_lks r df x)
    split
    · exact of_decide_eq_true h.1
    · exact ih h.2
theorem es_lswitch (C : ex_Fix p l e R s m args c dC dI ad cI cB y d) {df : Int} {ps : Array (Int × Int)} {a : Int32} (k : ex_G p l e R s m args below meth c Q dC dI ad cI cB y (ex_blk y (ex_lks ps.toList df a.toInt).toNat) (pl) (st) (w)) : ex_G p l e R s m args below meth c Q dC dI ad cI cB y (.lookupswitch df ps :: code) (pl) (.int a :: st) (w) := by
  intro pc H locs ls hok hP hS hL
  obtain ⟨hx, hb, hml, hown, hts, hC, hIn, hR, hcl⟩ := C
  obtain ⟨j, len, hd, hi, ho⟩ := ex_ok_cons rfl hok
  unfold ex_okI at hi
  dsimp only at hi
  cases j with
  | lookupswitch d2 p2 =>
    simp only [Bool.and_eq_true, decide_eq_true_eq] at hi
    obtain ⟨⟨e1, e2⟩, e3⟩ := hi
    unfold ex_okZ at e3
    rw [Bool.and_eq_true, Bool.and_eq_true] at e3
    obtain ⟨⟨e4, e5⟩, e6⟩ := e3
    have e4 := of_decide_eq_true e4
    have e7 : ex_lks ps.toList df a.toInt = (pc : Int) + Op.lookupswitch.offset p2.toList d2 a.toInt := by rw [e4, e1]; exact ex_lks_off
    have e8 : 0 ≤ ex_lks ps.toList df a.toInt := ex_lks_nn e5 e2
    exact lv_lookup hx hb hd e6 rfl (tgt := (ex_lks ps.toList df a.toInt).toNat) (by omega) (k _ H locs ls (ex_ok_blk y _) hP hS hL)
  | _ => cases hi
theorem es_getf (C : ex_Fix p l e R s m args c dC dI ad cI cB y d) {o f : Nat} {v : Value} (hf : ex_fv w o f = some v) (k : ex_G p l e R s m args below meth c Q dC dI ad cI cB y (code) (pl) (v :: st) (w)) : ex_G p l e R s m args below meth c Q dC dI ad cI cB y (.getfield f :: code) (pl) (.ref o :: st) (w) := by
  intro pc H locs ls hok hP hS hL
  obtain ⟨hx, hb, hml, hown, hts, hC, hIn, hR, hcl⟩ := C
  obtain ⟨j, len, hd, hi, ho⟩ := ex_ok_cons rfl hok
  unfold ex_okI at hi
  dsimp only at hi
  cases j with
  | getfield a =>
    simp only [Bool.and_eq_true, beq_iff_eq] at hi
    obtain ⟨h3, rfl⟩ := hi
    obtain ⟨hlink, hc, hk⟩ := kq_F hcl _ (ex_lk h3)
    unfold ex_fv at hf
    cases hkd : ex_fk o f with
    | none => rw [hkd] at hf; cases hf
    | some kd =>
      obtain ⟨ks, h1, h2⟩ := ex_fk_spec hkd
      have he : (ex_cel ad cI cB w)[o]? = some (ad o, .inr (f / 64, ex_fs ad w o ks)) := by rw [ex_cel_at (ex_lt h1), ex_en_obj h1 hc]
      have hv : (ex_fs ad w o ks)[f % 64]? = some (ex_tv ad v) := by
        rw [ex_fs_at h2]
        rw [hkd] at hf
        match kd, hf with
        | 0, hf => cases hf; rfl
        | 1, hf => cases hf; rfl
        | 2, hf => cases hf; rfl
        | n + 3, hf => cases hf; rfl
      exact va_get (D := (dC, dI)) (own := ex_Rn (ex_C y)) (ref := ex_Rn (f / 64)) (C := ex_Rn (f / 64)) (T := ex_T (f / 64)) (N := ex_N (f / 64)) (Ts := ex_tb) hx hb hts (ku_all hc) hown hC.1 hP o he (ex_cl_at hc) (f % 64) hk (hts _ hlink) (by rw [ex_decl _ hc _ hk]; exact fun _ h9 => h9) hv hd (k _ H locs ls ho hP hS hL)
  | _ => cases hi
theorem es_putf (C : ex_Fix p l e R s m args c dC dI ad cI cB y d) {o f kd : Nat} {x : Int32} (hf : ex_fk o f = some kd) (hkd : kd = 0 ∨ (kd = 2 ∧ (x = 0 ∨ x = 1))) (k : ex_G p l e R s m args below meth c Q dC dI ad cI cB y (code) (pl) (st) (ex_up w o (f % 64) x)) : ex_G p l e R s m args below meth c Q dC dI ad cI cB y (.putfield f :: code) (pl) (.int x :: .ref o :: st) (w) := by
  intro pc H locs ls hok hP hS hL
  obtain ⟨hx, hb, hml, hown, hts, hC, hIn, hR, hcl⟩ := C
  obtain ⟨j, len, hd, hi, ho⟩ := ex_ok_cons rfl hok
  unfold ex_okI at hi
  dsimp only at hi
  cases j with
  | putfield a =>
    simp only [Bool.and_eq_true, beq_iff_eq, Bool.not_eq_true'] at hi
    obtain ⟨⟨h3, rfl⟩, hfin⟩ := hi
    obtain ⟨hlink, hc, hk⟩ := kq_F hcl _ (ex_lk h3)
    obtain ⟨ks, h1, h2⟩ := ex_fk_spec hf
    have he : (ex_cel ad cI cB w)[o]? = some (ad o, .inr (f / 64, ex_fs ad w o ks)) := by rw [ex_cel_at (ex_lt h1), ex_en_obj h1 hc]
    obtain ⟨-, hkl, hty⟩ := ex_kind h1 hc h2
    have hn : narrow (ex_ty (f / 64) (f % 64)) (.int x) = .int x ∧ fits (ex_ty (f / 64) (f % 64)) (.int x) = true := by
      rcases hkd with rfl | ⟨rfl, hx01⟩
      · rw [show ex_ty (f / 64) (f % 64) = .int from of_decide_eq_true hty]
        exact ⟨rfl, rfl⟩
      · rw [show ex_ty (f / 64) (f % 64) = .boolean from of_decide_eq_true hty]
        rcases hx01 with rfl | rfl
        · exact ⟨by decide, by decide⟩
        · exact ⟨by decide, by decide⟩
    have hset : ex_cel ad cI cB (ex_up w o (f % 64) x) = (ex_cel ad cI cB w).set o (ad o, .inr (f / 64, (ex_fs ad w o ks).set (f % 64) (.int x))) := by
      rw [ex_cel_up (ex_lt h1), ex_en_obj h1 hc, ex_fs_set h2 (by rcases hkd with h | h; exact Or.inl h; exact Or.inr h.1)]
    exact va_put (D := (dC, dI)) (own := ex_Rn (ex_C y)) (ref := ex_Rn (f / 64)) (C := ex_Rn (f / 64)) (T := ex_T (f / 64)) (N := ex_N (f / 64)) (Ts := ex_tb) hx hb hts (ku_all hc) (ex_ty (f / 64)) (kp_all hc) (kn_all hc) hown hC.1 hP (ex_vD hIn) hS o he (ex_cl_at hc) (f % 64) hk (hts _ hlink) (by rw [ex_decl _ hc _ hk]; exact fun _ h9 => h9) hfin (kp_all hc _ hk) hn.1 hn.2 (by rw [ex_fs_len]; exact hkl) hd
      (fun H1 locs1 hP1 hD1 hS1 => k _ H1 locs1 ls ho (by rw [hset]; exact hP1) hS1 hL)
  | _ => cases hi
theorem es_putl (C : ex_Fix p l e R s m args c dC dI ad cI cB y d) {o f : Nat} {x : Int64} (hf : ex_fk o f = some 1) (k : ex_G p l e R s m args below meth c Q dC dI ad cI cB y (code) (pl) (st) ((w.1, x))) : ex_G p l e R s m args below meth c Q dC dI ad cI cB y (.putfield f :: code) (pl) (.long x :: .ref o :: st) (w) := by
  intro pc H locs ls hok hP hS hL
  obtain ⟨hx, hb, hml, hown, hts, hC, hIn, hR, hcl⟩ := C
  obtain ⟨j, len, hd, hi, ho⟩ := ex_ok_cons rfl hok
  unfold ex_okI at hi
  dsimp only at hi
  cases j with
  | putfield a =>
    simp only [Bool.and_eq_true, beq_iff_eq, Bool.not_eq_true'] at hi
    obtain ⟨⟨h3, rfl⟩, hfin⟩ := hi
    obtain ⟨hlink, hc, hk⟩ := kq_F hcl _ (ex_lk h3)
    obtain ⟨ks, h1, h2⟩ := ex_fk_spec hf
    have he : (ex_cel ad cI cB w)[o]? = some (ad o, .inr (f / 64, ex_fs ad w o ks)) := by rw [ex_cel_at (ex_lt h1), ex_en_obj h1 hc]
    obtain ⟨-, hkl, hty⟩ := ex_kind h1 hc h2
    have ht : ex_ty (f / 64) (f % 64) = .long := of_decide_eq_true hty
    have ho46 := ex_fk_long hf
    have hu : ∀ i, ks[i]? = some 1 → i = f % 64 := by
      subst ho46
      have h46 : ex_Sh[46]? = some (ex_Sh.getD 46 (0, [])) := rfl
      rw [h46] at h1
      have h5 : ks = (ex_Sh.getD 46 (0, [])).2 := by rw [Option.some.inj h1]
      subst h5
      have hall : ∀ i, i < (ex_Sh.getD 46 (0, [])).2.length → ∀ j, j < (ex_Sh.getD 46 (0, [])).2.length → (ex_Sh.getD 46 (0, [])).2.getD i 0 = 1 → (ex_Sh.getD 46 (0, [])).2.getD j 0 = 1 → i = j := by decide +kernel
      intro i hi1
      have hl1 := (List.getElem?_eq_some_iff.mp hi1).1
      have hl2 := (List.getElem?_eq_some_iff.mp h2).1
      exact hall i hl1 _ hl2 (by rw [List.getD_eq_getElem?_getD, hi1]; rfl) (by rw [List.getD_eq_getElem?_getD, h2]; rfl)
    have hset : ex_cel ad cI cB (w.1, x) = (ex_cel ad cI cB w).set o (ad o, .inr (f / 64, (ex_fs ad w o ks).set (f % 64) (.long x))) := by
      rw [ex_cel_set (w' := (w.1, x)) (ex_lt h1) (fun o' hne => ex_en_long (by rw [ho46] at hne; exact hne)), ex_en_obj h1 hc, ex_fs_setL h2 hu]
    exact va_put (D := (dC, dI)) (own := ex_Rn (ex_C y)) (ref := ex_Rn (f / 64)) (C := ex_Rn (f / 64)) (T := ex_T (f / 64)) (N := ex_N (f / 64)) (Ts := ex_tb) hx hb hts (ku_all hc) (ex_ty (f / 64)) (kp_all hc) (kn_all hc) hown hC.1 hP (ex_vD hIn) hS o he (ex_cl_at hc) (f % 64) hk (hts _ hlink) (by rw [ex_decl _ hc _ hk]; exact fun _ h9 => h9) hfin (kp_all hc _ hk) (by rw [ht]; rfl) (by rw [ht]; rfl) (by rw [ex_fs_len]; exact hkl) hd
      (fun H1 locs1 hP1 hD1 hS1 => k _ H1 locs1 ls ho (by rw [hset]; exact hP1) hS1 hL)
  | _ => cases hi
theorem es_gets (C : ex_Fix p l e R s m args c dC dI ad cI cB y d) {o : Nat} (hf : o = 1000 ∨ o = 1001) (k : ex_G p l e R s m args below meth c Q dC dI ad cI cB y (code) (pl) (.ref o :: st) (w)) : ex_G p l e R s m args below meth c Q dC dI ad cI cB y (.getstatic o :: code) (pl) (st) (w) := by
  intro pc H locs ls hok hP hS hL
  obtain ⟨hx, hb, hml, hown, hts, hC, hIn, hR, hcl⟩ := C
  obtain ⟨j, len, hd, hi, ho⟩ := ex_ok_cons rfl hok
  unfold ex_okI at hi
  dsimp only at hi
  cases j with
  | getstatic a =>
    simp only [Bool.and_eq_true, beq_iff_eq] at hi
    obtain ⟨h3, rfl⟩ := hi
    rcases kq_S hcl _ (ex_lk h3) with ⟨h4, h5⟩ | ⟨h4, h5⟩
    · have h4 : o = 1000 := h4
      subst h4
      exact va_gets hx hb (C := "BorderThroughBed$House") (ref := "BorderThroughBed$House") hC.2.2.1 hS hown (hts _ h5) (fun _ h => h) hd (k _ H locs ls ho hP hS hL)
    · have h4 : o = 1001 := h4
      subst h4
      exact va_gets hx hb (C := "BorderThroughBed$House") (ref := "BorderThroughBed$House") hC.2.2.2.2.1 hS hown (hts _ h5) (fun _ h => h) hd (k _ H locs ls ho hP hS hL)
  | _ => cases hi
theorem es_iald (C : ex_Fix p l e R s m args c dC dI ad cI cB y d) {o : Nat} {i x : Int32} (hf : ex_ald w o i = some x) (k : ex_G p l e R s m args below meth c Q dC dI ad cI cB y (code) (pl) (.int x :: st) (w)) : ex_G p l e R s m args below meth c Q dC dI ad cI cB y (.iaload :: code) (pl) (.int i :: .ref o :: st) (w) := by
  intro pc H locs ls hok hP hS hL
  obtain ⟨hx, hb, hml, hown, hts, hC, hIn, hR, hcl⟩ := C
  obtain ⟨j, len, hd, hi, ho⟩ := ex_ok_cons rfl hok
  have hi : (decide (j = .iaload) && len == 1) = true := hi
  simp only [Bool.and_eq_true, decide_eq_true_eq, beq_iff_eq] at hi
  obtain ⟨rfl, rfl⟩ := hi
  unfold ex_ald at hf
  by_cases h0 : o = 1000
  · subst h0
    rw [if_pos rfl] at hf
    by_cases hin : i < 0 ∨ 4 ≤ i.toNatClampNeg
    · rw [if_pos hin] at hf; cases hf
    · rw [if_neg hin] at hf
      exact va_ti hx hb hC.2.2.2.1 hS (i := i) hin (congrArg Value.int (Option.some.inj hf)) hd (k _ H locs ls ho hP hS hL)
  · rw [if_neg h0] at hf
    by_cases h1 : o = 1001
    · subst h1
      rw [if_pos rfl] at hf
      by_cases hin : i < 0 ∨ 4 ≤ i.toNatClampNeg
      · rw [if_pos hin] at hf; cases hf
      · rw [if_neg hin] at hf
        exact va_ti hx hb hC.2.2.2.2.2 hS (i := i) hin (congrArg Value.int (Option.some.inj hf)) hd (k _ H locs ls ho hP hS hL)
    · rw [if_neg h1] at hf
      by_cases h2 : ex_cls o = 12
      · rw [if_pos h2] at hf
        by_cases hin : i < 0 ∨ ex_len o ≤ i.toNatClampNeg
        · rw [if_pos hin] at hf; cases hf
        · rw [if_neg hin] at hf
          have he : (ex_cel ad cI cB w)[o]? = some (ad o, .inl (cI, ex_len o, .inl (w.1 o))) := by rw [ex_cel_at (ex_cls_lt (by omega)), ex_en_ia h2]
          have hx2 := Option.some.inj hf
          subst hx2
          exact va_iald hx hb hC.1 hP o 0 he rfl hin hd (k _ H locs ls ho hP hS hL)
      · rw [if_neg h2] at hf; cases hf
theorem es_bald (C : ex_Fix p l e R s m args c dC dI ad cI cB y d) {o : Nat} {i : Int32} (h2 : ex_cls o = 13) (hin : ¬ (i < 0 ∨ ex_len o ≤ i.toNatClampNeg)) (k : ex_G p l e R s m args below meth c Q dC dI ad cI cB y (code) (pl) (.int (w.1 o i.toNatClampNeg) :: st) (w)) : ex_G p l e R s m args below meth c Q dC dI ad cI cB y (.baload :: code) (pl) (.int i :: .ref o :: st) (w) := by
  intro pc H locs ls hok hP hS hL
  obtain ⟨hx, hb, hml, hown, hts, hC, hIn, hR, hcl⟩ := C
  obtain ⟨j, len, hd, hi, ho⟩ := ex_ok_cons rfl hok
  have hi : (decide (j = .baload) && len == 1) = true := hi
  simp only [Bool.and_eq_true, decide_eq_true_eq, beq_iff_eq] at hi
  obtain ⟨rfl, rfl⟩ := hi
  have he : (ex_cel ad cI cB w)[o]? = some (ad o, .inl (cB, ex_len o, .inl (w.1 o))) := by rw [ex_cel_at (ex_cls_lt (by omega)), ex_en_ba h2]
  exact va_bald hx hb hC.1 hP o 1 he rfl hin hd (k _ H locs ls ho hP hS hL)
theorem es_iast (C : ex_Fix p l e R s m args c dC dI ad cI cB y d) {o : Nat} {i x : Int32} (h2 : ex_cls o = 12) (hin : ¬ (i < 0 ∨ ex_len o ≤ i.toNatClampNeg)) (k : ex_G p l e R s m args below meth c Q dC dI ad cI cB y (code) (pl) (st) (ex_up w o i.toNatClampNeg (x))) : ex_G p l e R s m args below meth c Q dC dI ad cI cB y (.iastore :: code) (pl) (.int x :: .int i :: .ref o :: st) (w) := by
  intro pc H locs ls hok hP hS hL
  obtain ⟨hx, hb, hml, hown, hts, hC, hIn, hR, hcl⟩ := C
  obtain ⟨j, len, hd, hi, ho⟩ := ex_ok_cons rfl hok
  have hi : (decide (j = .iastore) && len == 1) = true := hi
  simp only [Bool.and_eq_true, decide_eq_true_eq, beq_iff_eq] at hi
  obtain ⟨rfl, rfl⟩ := hi
  have he : (ex_cel ad cI cB w)[o]? = some (ad o, .inl (cI, ex_len o, .inl (w.1 o))) := by rw [ex_cel_at (ex_cls_lt (by omega)), ex_en_ia h2]
  have hset : ex_cel ad cI cB (ex_up w o i.toNatClampNeg (x)) = (ex_cel ad cI cB w).set o (ad o, .inl (cI, ex_len o, .inl (upd (w.1 o) i.toNatClampNeg (x)))) := by
    rw [ex_cel_up (ex_cls_lt (by omega)), ex_en_ia h2, ex_up_1]
  exact va_iast hx hb hC.1 hP (ex_vD hIn) hS o 0 he rfl hin hd (fun H1 locs1 hP1 hD1 hS1 => k _ H1 locs1 ls ho (by rw [hset]; exact hP1) hS1 hL)
theorem es_bast (C : ex_Fix p l e R s m args c dC dI ad cI cB y d) {o : Nat} {i x : Int32} (h2 : ex_cls o = 13) (hin : ¬ (i < 0 ∨ ex_len o ≤ i.toNatClampNeg)) (k : ex_G p l e R s m args below meth c Q dC dI ad cI cB y (code) (pl) (st) (ex_up w o i.toNatClampNeg (x.toInt8.toInt32))) : ex_G p l e R s m args below meth c Q dC dI ad cI cB y (.bastore :: code) (pl) (.int x :: .int i :: .ref o :: st) (w) := by
  intro pc H locs ls hok hP hS hL
  obtain ⟨hx, hb, hml, hown, hts, hC, hIn, hR, hcl⟩ := C
  obtain ⟨j, len, hd, hi, ho⟩ := ex_ok_cons rfl hok
  have hi : (decide (j = .bastore) && len == 1) = true := hi
  simp only [Bool.and_eq_true, decide_eq_true_eq, beq_iff_eq] at hi
  obtain ⟨rfl, rfl⟩ := hi
  have he : (ex_cel ad cI cB w)[o]? = some (ad o, .inl (cB, ex_len o, .inl (w.1 o))) := by rw [ex_cel_at (ex_cls_lt (by omega)), ex_en_ba h2]
  have hset : ex_cel ad cI cB (ex_up w o i.toNatClampNeg (x.toInt8.toInt32)) = (ex_cel ad cI cB w).set o (ad o, .inl (cB, ex_len o, .inl (upd (w.1 o) i.toNatClampNeg (x.toInt8.toInt32)))) := by
    rw [ex_cel_up (ex_cls_lt (by omega)), ex_en_ba h2, ex_up_1]
  exact va_bast hx hb hC.1 hP (ex_vD hIn) hS o 1 he rfl hin hd (fun H1 locs1 hP1 hD1 hS1 => k _ H1 locs1 ls ho (by rw [hset]; exact vp_nar_byte x ▸ hP1) hS1 hL)
theorem es_alen (C : ex_Fix p l e R s m args c dC dI ad cI cB y d) {o : Nat} (h2 : ex_cls o = 12) (k : ex_G p l e R s m args below meth c Q dC dI ad cI cB y (code) (pl) (.int (Int32.ofNat (ex_len o)) :: st) (w)) : ex_G p l e R s m args below meth c Q dC dI ad cI cB y (.arraylength :: code) (pl) (.ref o :: st) (w) := by
  intro pc H locs ls hok hP hS hL
  obtain ⟨hx, hb, hml, hown, hts, hC, hIn, hR, hcl⟩ := C
  obtain ⟨j, len, hd, hi, ho⟩ := ex_ok_cons rfl hok
  have hi : (decide (j = .arraylength) && len == 1) = true := hi
  simp only [Bool.and_eq_true, decide_eq_true_eq, beq_iff_eq] at hi
  obtain ⟨rfl, rfl⟩ := hi
  have he : (ex_cel ad cI cB w)[o]? = some (ad o, .inl (cI, ex_len o, .inl (w.1 o))) := by rw [ex_cel_at (ex_cls_lt (by omega)), ex_en_ia h2]
  exact va_alen hx hb hC.1 hP o 0 he (ty := .int) rfl rfl hd (k _ H locs ls ho hP hS hL)
/-- behind a call -/
theorem es_back {pc : Nat} {H : Heap} {locs : List Loc} {ls : Array Slot} {st0 rest : List Value} {a : Array Value} {r : Option Value} {w1 : PW}
    (hr : va_Run p l e R s m args below meth c H locs 0 0 0 0 (F0 m pc ls st0) (rest.map (ex_tv ad)) (ex_Post dC dI ad cI cB H.size r w1 a) (ex_AA ad H.size)) (hS : va_S (ex_AA ad s.heap.size) s.heap H locs)
    (kk : ∀ (H1 : Heap) (locs1 : List Loc), va_P (dC, dI) ex_cl (ex_cel ad cI cB w1) H1 → va_S (ex_AA ad s.heap.size) s.heap H1 locs1 → W p l e R s m args below meth c H1 locs1 0 0 Q (F0 m (pc + 3) ls ((r.toList ++ rest).map (ex_tv ad)))) : W p l e R s m args below meth c H locs 0 0 Q (F0 m pc ls st0) := by
  intro T hT X
  obtain ⟨v, st₀, t, T', L, h0, X', hL, e1, e2, ⟨hv, hp, hz, hk⟩, st⟩ := hr T hT X
  rw [h0] at hz hk
  have hA := ex_AA_le (ad := ad) hS.1
  have hv2 : v = r.map (ex_tv ad) := by cases hv; rfl
  subst hv2
  have hS1 : va_S (ex_AA ad s.heap.size) s.heap T'.heap (locs ++ L) :=
    ⟨Nat.le_trans hS.1 (by rw [e1]; exact hz), fun q h1 h2 => by rw [e1, hk q (Nat.lt_of_lt_of_le h1 hS.1) (fun z => h2 (hA q z))]; exact hS.2.1 q h1 h2, fun q hq => by
      rcases List.mem_append.mp hq with h | h
      · exact hS.2.2 q h
      · exact hA _ (hL q h)⟩
  obtain ⟨t2, a1, b1⟩ := kk T'.heap (locs ++ L) (by rw [e1]; exact hp) hS1 T' rfl X'
  refine ⟨t2, st t2 ?_, b1⟩
  have e3 : ((r.toList ++ rest).map (ex_tv ad)) = (r.map (ex_tv ad)).toList ++ rest.map (ex_tv ad) := by cases r <;> rfl
  rw [e3] at a1
  exact a1
theorem ex_pre_at {H : Heap} {locs : List Loc} {U : State} (hC : ex_Cx dC dI ad cI cB (ex_AA ad s.heap.size) s s.heap) (hIn : ex_In ad) (hP : va_P (dC, dI) ex_cl (ex_cel ad cI cB w) H) (hS : va_S (ex_AA ad s.heap.size) s.heap H locs) (hU : U.heap = H) (hW : s.WarmedH U.vm) : ex_Pre dC dI ad cI cB H.size w U :=
  ⟨by rw [hU], by rw [hU]; exact hP, by rw [hU]; exact hC.to hW.alike (ex_nw_warm hW) (fun a h1 h2 => hS.2.1 a h1 h2) (ex_AA_le hS.1), hIn⟩
theorem es_call (C : ex_Fix p l e R s m args c dC dI ad cI cB y (d + 1)) {f : Nat} {as rest : List Value} {r : Option Value} {w1 : PW} (hcon : ex_Con l d (f / 8) as w r w1) (hs : ex_spl (f % 8) [] st = some (as, rest)) (hlow : ex_low rest = true) (k : ex_G p l e R s m args below meth c Q dC dI ad cI cB y (code) (pl) (r.toList ++ rest) (w1)) : ex_G p l e R s m args below meth c Q dC dI ad cI cB y (.invokestatic f :: code) (pl) (st) (w) := by
  intro pc H locs ls hok hP hS hL
  obtain ⟨hx, hb, hml, hown, hts, hC, hIn, hR, hcl⟩ := C
  obtain ⟨j, len, hd, hi, ho⟩ := ex_ok_cons rfl hok
  unfold ex_okI at hi
  dsimp only at hi
  cases j with
  | invokestatic a =>
    simp only [Bool.and_eq_true, beq_iff_eq] at hi
    obtain ⟨h3, rfl⟩ := hi
    obtain ⟨hy, har, hst, hlk⟩ := kq_T hcl _ (ex_lk h3)
    have hm := kw_all hy
    obtain ⟨pre, e1, e2, e3⟩ := ex_spl_spec hs
    rw [List.append_nil] at e2
    have hst0 : st.map (ex_tv ad) = (as.map (ex_tv ad)).reverse ++ rest.map (ex_tv ad) := by
      rw [e1, e2, List.map_append, List.map_reverse, List.reverse_reverse]
    have hlen : (as.map (ex_tv ad)).length = f % 8 := by rw [List.length_map, e2, List.length_reverse, e3]
    have hfit := ex_Rm_fit (d := d) hm.2.2.2.2.2.2
    rw [← hR] at hfit
    have hari : ∀ sig, parseMethodDescriptor (ex_Y (f / 8)).desc = some sig → f % 8 = sig.parameters.length := by
      intro sig hsig
      have h2 : (parseMethodDescriptor (ex_Y (f / 8)).desc).map (fun d => d.parameters.length) = some (f % 8) := har
      rw [hsig] at h2
      exact (Option.some.inj h2).symm
    have hp : PreS s H (va_Pc (as.map (ex_tv ad)) (ex_Pre dC dI ad cI cB H.size w)) (as.map (ex_tv ad)) := ⟨ex_blind, fun U hU hW => ⟨rfl, ex_pre_at hC hIn hP hS hU hW⟩⟩
    have hgo : ∀ (H1 : Heap) (locs1 : List Loc), va_P (dC, dI) ex_cl (ex_cel ad cI cB w1) H1 → va_S (ex_AA ad s.heap.size) s.heap H1 locs1 → W p l e R s m args below meth c H1 locs1 0 0 Q (F0 m (pc + 3) ls ((r.toList ++ rest).map (ex_tv ad))) := fun H1 locs1 hP1 hS1 => k _ H1 locs1 ls ho hP1 hS1 hL
    rw [hst0]
    have hfr0 : 0 + 0 ≤ R.cells ∧ 0 + 0 ≤ R.slots := ⟨Nat.zero_le _, Nat.zero_le _⟩
    rcases hlk with hlk | hlk
    · exact es_back (va_runS (Ts := ex_tb) (own := ex_Rn (ex_C y)) ⟨hx, hb, hml, hown, hts⟩ (hcon dC dI ad cI cB H.size) ⟨⟨rfl, rfl, hfit.1, hfit.2, ex_pay hts hm, List.mem_cons_self, hts _ hm.1, hts _ hm.2.1, hm.2.2.2.2.2.1, hari, hts _ hlk⟩, hts _ hst⟩ hp rfl hlen hL.2.1.1 rfl (lv_room (ex_low_cat hlow)) hd hfr0) hS hgo
    · have hnw := hC.2.1 _ hlk
      exact es_back (va_runSN (Ts := ex_tb) (own := ex_Rn (ex_C y)) ⟨hx, hb, hml, hown, hts⟩ (hcon dC dI ad cI cB H.size) ⟨⟨⟨rfl, rfl, hfit.1, hfit.2, ex_pay hts hm, List.mem_cons_self⟩, hts _ hm.1, hts _ hm.2.1, hm.2.2.2.2.2.1, hari, va_Nw.use rfl hnw⟩, hts _ hst, trivial⟩ hp rfl hlen hL.2.1.1 rfl (lv_room (ex_low_cat hlow)) hd hfr0) hS hgo
  | _ => cases hi
theorem ex_recv {H : Heap} {o ci : Nat} (hC : va_K (dC, dI) ex_cl [(cI, .int), (cB, .byte)] s) (hP : va_P (dC, dI) ex_cl (ex_cel ad cI cB w) H) (ho : ex_cls o = ci) (h12 : ci < 12) : ∃ cell : Cell, H[ad o]? = some cell ∧ cell.vm.isStatics = false ∧ s.vm.findClass (ex_Rn ci) = some cell.cls := by
  have hlt : o < ex_NO := ex_cls_lt (by omega)
  have : ex_Sh[o]? = some (ci, (ex_Sh[o]).2) := by
    have h1 : ex_Sh[o]? = some ex_Sh[o] := List.getElem?_eq_getElem hlt
    unfold ex_cls at ho
    rw [h1] at ho ⊢
    dsimp only at ho
    rw [← ho]
  exact va_recv hC hP (ex_cl_at h12) (q0 := o) (by rw [ex_cel_at hlt, ex_en_obj this h12])
theorem es_callv (C : ex_Fix p l e R s m args c dC dI ad cI cB y (d + 1)) {f o : Nat} {as rest : List Value} {r : Option Value} {w1 : PW} (hcon : ex_Con l d (f / 8) (.ref o :: as) w r w1) (hcls : ex_okR (f / 8) (.ref o :: as) = true) (hs : ex_spl (f % 8 + 1) [] st = some (.ref o :: as, rest)) (hlow : ex_low rest = true) (k : ex_G p l e R s m args below meth c Q dC dI ad cI cB y (code) (pl) (r.toList ++ rest) (w1)) : ex_G p l e R s m args below meth c Q dC dI ad cI cB y (.invokevirtual f :: code) (pl) (st) (w) := by
  intro pc H locs ls hok hP hS hL
  obtain ⟨hx, hb, hml, hown, hts, hC, hIn, hR, hcl⟩ := C
  obtain ⟨j, len, hd, hi, ho⟩ := ex_ok_cons rfl hok
  unfold ex_okI at hi
  dsimp only at hi
  cases j with
  | invokevirtual a =>
    simp only [Bool.and_eq_true, beq_iff_eq] at hi
    obtain ⟨h3, rfl⟩ := hi
    obtain ⟨hy, har, hin, hse, hlk, h9⟩ := kq_V hcl _ (ex_lk h3)
    have hm := kw_all hy
    have hC9 : ex_cls o = ex_C (f / 8) := by
      have h5 : (ex_cls o == ex_C (f / 8) || (ex_C (f / 8) == 9 && (ex_cls o == 2 || ex_cls o == 4))) = true := by
        have h6 : ((.ref o :: as : List Value).all ex_isv && (decide ((ex_lay (.ref o :: as)).length ≤ ex_L (f / 8)) && (ex_cls o == ex_C (f / 8) || (ex_C (f / 8) == 9 && (ex_cls o == 2 || ex_cls o == 4))))) = true := hcls
        rw [Bool.and_eq_true, Bool.and_eq_true] at h6
        exact h6.2.2
      rcases Bool.or_eq_true _ _ ▸ h5 with h6 | h6
      · exact eq_of_beq h6
      · rw [Bool.and_eq_true] at h6
        exact absurd (eq_of_beq h6.1) h9
    obtain ⟨pre, e1, e2, e3⟩ := ex_spl_spec hs
    rw [List.append_nil] at e2
    have hst0 : st.map (ex_tv ad) = (as.map (ex_tv ad)).reverse ++ .ref (ad o) :: rest.map (ex_tv ad) := by
      have e4 : pre = as.reverse ++ [.ref o] := by rw [← List.reverse_reverse (as := pre), ← e2]; simp
      rw [e1, e4]
      simp only [List.map_append, List.map_reverse, List.map_cons, List.map_nil, List.append_assoc]
      rfl
    have hlen : (as.map (ex_tv ad)).length = f % 8 := by
      have : (.ref o :: as : List Value).length = f % 8 + 1 := by rw [e2, List.length_reverse, e3]
      rw [List.length_map]
      simpa using this
    have hfit := ex_Rm_fit (d := d) hm.2.2.2.2.2.2
    rw [← hR] at hfit
    have hari : ∀ sig, parseMethodDescriptor (ex_Y (f / 8)).desc = some sig → f % 8 = sig.parameters.length := by
      intro sig hsig
      have h2 : (parseMethodDescriptor (ex_Y (f / 8)).desc).map (fun d => d.parameters.length) = some (f % 8) := har
      rw [hsig] at h2
      exact (Option.some.inj h2).symm
    have hp : PreV s H (ex_Y (f / 8)).cls (ad o) (va_Pc ((.ref o :: as : List Value).map (ex_tv ad)) (ex_Pre dC dI ad cI cB H.size w)) (as.map (ex_tv ad)) :=
      ⟨ex_blind, by rw [hm.2.2.1]; exact ex_recv hC.1 hP hC9 hm.2.2.2.1, fun U hU hW => ⟨rfl, ex_pre_at hC hIn hP hS hU hW⟩⟩
    rw [hst0]
    exact es_back (va_runV (Ts := ex_tb) (own := ex_Rn (ex_C y)) ⟨hx, hb, hml, hown, hts⟩ (hcon dC dI ad cI cB H.size) ⟨⟨rfl, rfl, hfit.1, hfit.2, ex_pay hts hm, List.mem_cons_self, hts _ hm.1, hts _ hm.2.1, hm.2.2.2.2.2.1, hari, hts _ hlk⟩, hts _ hin, hts _ hse⟩ hp rfl hlen hL.2.1.1 rfl (lv_room (ex_low_cat hlow)) hd ⟨Nat.zero_le _, Nat.zero_le _⟩) hS
      (fun H1 locs1 hP1 hS1 => k _ H1 locs1 ls ho hP1 hS1 hL)
  | _ => cases hi
theorem es_calli (C : ex_Fix p l e R s m args c dC dI ad cI cB y (d + 1)) {x n o yy : Nat} {as rest : List Value} {r : Option Value} {w1 : PW} (hcon : ex_Con l d yy (.ref o :: as) w r w1) (hdp : ex_dsp x (ex_cls o) = some yy) (hs : ex_spl (n + 1) [] st = some (.ref o :: as, rest)) (hlow : ex_low rest = true) (k : ex_G p l e R s m args below meth c Q dC dI ad cI cB y (code) (pl) (r.toList ++ rest) (w1)) : ex_G p l e R s m args below meth c Q dC dI ad cI cB y (.invokeinterface x n :: code) (pl) (st) (w) := by
  intro pc H locs ls hok hP hS hL
  obtain ⟨hx, hb, hml, hown, hts, hC, hIn, hR, hcl⟩ := C
  obtain ⟨j, len, hd, hi, ho⟩ := ex_ok_cons rfl hok
  unfold ex_okI at hi
  dsimp only at hi
  cases j with
  | invokevirtual a =>
    simp only [Bool.and_eq_true, beq_iff_eq] at hi
    obtain ⟨h3, rfl⟩ := hi
    obtain ⟨hy, hc9, har, hlk, hsm, hdc, hse, hin, -⟩ := kx_all h3 hdp
    have hm := kw_all hy
    obtain ⟨pre, e1, e2, e3⟩ := ex_spl_spec hs
    rw [List.append_nil] at e2
    have hst0 : st.map (ex_tv ad) = (as.map (ex_tv ad)).reverse ++ .ref (ad o) :: rest.map (ex_tv ad) := by
      have e4 : pre = as.reverse ++ [.ref o] := by rw [← List.reverse_reverse (as := pre), ← e2]; simp
      rw [e1, e4]
      simp only [List.map_append, List.map_reverse, List.map_cons, List.map_nil, List.append_assoc]
      rfl
    have hlen : (as.map (ex_tv ad)).length = n := by
      have : (.ref o :: as : List Value).length = n + 1 := by rw [e2, List.length_reverse, e3]
      rw [List.length_map]
      simpa using this
    have hfit := ex_Rm_fit (d := d) hm.2.2.2.2.2.2
    rw [← hR] at hfit
    have hari : ∀ sig, parseMethodDescriptor (ex_Xm x).desc = some sig → n = sig.parameters.length := by
      intro sig hsig
      have h2 : (parseMethodDescriptor (ex_Xm x).desc).map (fun d => d.parameters.length) = some n := har
      rw [hsig] at h2
      exact (Option.some.inj h2).symm
    have hp : PreV s H (ex_Rn (ex_cls o)) (ad o) (va_Pc ((.ref o :: as : List Value).map (ex_tv ad)) (ex_Pre dC dI ad cI cB H.size w)) (as.map (ex_tv ad)) :=
      ⟨ex_blind, ex_recv hC.1 hP rfl (by omega), fun U hU hW => ⟨rfl, ex_pre_at hC hIn hP hS hU hW⟩⟩
    have hdc2 := va_Decl.abs (hC.2.1 _ hdc)
    rw [hst0]
    exact es_back (va_runU (Ts := ex_tb) (own := ex_Rn (ex_C y)) (C := ex_Rn (ex_cls o)) (owner := "BorderThroughBed$Text") ⟨hx, hb, hml, hown, hts⟩ (hcon dC dI ad cI cB H.size) ⟨⟨rfl, rfl, hfit.1, hfit.2, ex_pay hts hm, List.mem_cons_self⟩, hts _ hm.1, hts _ hm.2.1, ⟨by decide, by decide⟩, hari, hts _ hlk, hts _ hsm, hdc2, hts _ hse, hts _ hin⟩ hp rfl hlen hL.2.1.1 rfl (lv_room (ex_low_cat hlow)) hd ⟨Nat.zero_le _, Nat.zero_le _⟩) hS
      (fun H1 locs1 hP1 hS1 => k _ H1 locs1 ls ho hP1 hS1 hL)
  | _ => cases hi
end ET
