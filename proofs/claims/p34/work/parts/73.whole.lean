/-! THE CLAIM OUT OF ONE WALK OF THE LAW'S BODY. Your part is whole_start (and what it stands on); all else here is the same for every law, but numbers. -/
def R_law : String := "BorderThroughBedLaw"
def lw_P (b : Addr) (xs : List Int32) (args : Array Value) (s : State) : Prop := args = #[.ref b] ∧ s.IntsAt b xs ∧ xs.length ≤ 260 ∧ (Jvm.Cond.and given_1 narrow_1).before args s = true
def lw_Q (_ : Array Value) (s : State) (o : Outcome) (t : State) : Prop := o = .returned (some (.int 1)) ∧ Framed s o t [] 612604 7264437
def lw_Z (below : List Frame) (a : Array Value) (s : State) : State → Prop := fun t => ∃ o, t.status = .running ∧ Ended t below o ∧ lw_Q a s o t
/-- the law's own end, with 1 on the stack, nothing written that was there before, its room as the claim has it -/
theorem lw_ret {p : Program} {l : Launch} {e : Env} {s : State} {m : MethodId} {below : List Frame} {meth : Method} {c : Code} {b : Nat} (hx : p.tables.exec = Jvm.exec) (hb : c.code = code) (hr : meth.sig.returnType = ret) (hlocks : meth.locks = false) {pc : Nat} {H : Heap} {ls : Array Slot} (hdg : decode code pc = .ok (.ireturn, 1)) : W p l e room_1 s m #[Value.ref b] below meth c H [] 612604 7264437 (lw_Z below #[Value.ref b] s) (F0 m pc ls [.int 1]) := by
  intro T hT X
  obtain ⟨fs, hret, hrun, hended, hW, hframe⟩ := X.leave (v := some (.int 1)) (hlocks := hlocks) (fun h => by rw [hr] at h; cases h)
  have hmeth' : T.vm.method? m = some meth := X.method'
  refine ⟨T.setFrames fs, ?_, .returned (some (.int 1)), hrun, hended, rfl, ⟨_, rfl⟩, hW, hframe⟩
  jvm_step X.here [X.here.top, hx, hb, hdg, hmeth', hr, ret, narrow_b1]
  (try refine ⟨rfl, ?_⟩); (try refine ⟨rfl, ?_⟩)
  first | (intro acts; rw [hret _ acts rfl rfl rfl]) | rw [hret _ _ rfl rfl rfl]
  exact Steps.refl _
/-- what holds at the law's entry: the machine, the code, the tables' words (any of lw_tbl by 'hts w (by decide +kernel)'), the script of L ints xs at the cell b, what the Statement gives of the start (any of its parts by flat_of_before) -/
def lw_At (p : Program) (s : State) (m : MethodId) (meth : Method) (c : Code) (b L : Nat) (xs : Nat → Int32) : Prop :=
  p.tables.exec = Jvm.exec ∧ c.code = code ∧ meth.sig.returnType = ret ∧ c.maxLocals = 23 ∧ s.vm.findClass R_law = some m.cls ∧ (∀ w ∈ lw_tbl, w.before #[Value.ref b] s = true) ∧ va_X b L xs s s.heap ∧ b < s.heap.size ∧ meth.locks = false ∧ (Jvm.Cond.and given_1 narrow_1).before #[Value.ref b] s = true
-- ===== YOUR PART BEGINS =====
set_option maxHeartbeats 4000000 in
set_option maxRecDepth 100000 in
/-- YOUR PART: from the entry, for every script of at most 260 ints, the law comes to its end with true ('hflags': the launch's flags, for a law that throws: no stack traces) -/
theorem whole_start {p : Program} {e : Env} {s : State} {m : MethodId} {below : List Frame} {meth : Method} {c : Code} (l : Launch) (hflags : l.flags = flags0) {b L : Nat} {xs : Nat → Int32} (hL : L ≤ 260) (C0 : lw_At p s m meth c b L xs) : W p l e room_1 s m #[Value.ref b] below meth c s.heap [] 0 0 (lw_Z below #[Value.ref b] s) (entryFrame m ([Value.ref b] : List Value).toArray 23) := by
  obtain ⟨hx, hb, hr, hml, hown, hts, hX, hbl, hlocks, hgv⟩ := id C0
  have htb : ∀ w ∈ ex_tb, w.before #[Value.ref b] s = true := fun w h => hts w (List.mem_filter.mp h).1
  have hNw : ∀ x ∈ ex_nw, va_Nw x s := fun x hx => va_Nw.of (List.all_eq_true.mp (show ex_nw.all (fun x => x.onTables) = true from rfl) x hx) (hts x (List.mem_append_right _ (ex_nw_in x hx)))
  have hown : s.vm.findClass "BorderThroughBedLaw" = some m.cls := hown
  obtain ⟨cI, hI1, hI2⟩ : ∃ cI : ClassId, ArrOfT s cI .int ∧ va_RA s cI .int := by
    obtain ⟨c, k, comp, h1, h2, h3⟩ := Cond.arrayClass_spec (htb _ cw_int)
    exact ⟨c, fun n z => ⟨fun k h => (by cases h), k, h2, comp, h3⟩, h1⟩
  obtain ⟨dC, dI, hkn⟩ := ls_known htb (hts _ ls_sup)
  have hK : va_K (dC, dI) ex_cm [(cI, .int)] s := ⟨ls_K hkn, fun k q h => by
    match k, h with
    | 0, h => cases h; exact ⟨hI1, hI2⟩
    | k + 1, h => cases h⟩
  obtain ⟨tD, tR, hZD, hTD, hZR, hTR⟩ := ls_stat hts hgv
  have hA : ∀ q : Nat, s.heap.size ≤ q → (fun q : Nat => s.heap.size ≤ q) q := fun _ h => h
  have hS : va_S (fun q : Nat => s.heap.size ≤ q) s.heap s.heap [] := va_S.rf
  have hP : va_P (dC, dI) ex_cm [] s.heap := fun k q h => by simp at h
  have hD : va_D (fun q : Nat => s.heap.size ≤ q) [] := ⟨fun i j p q h => by simp at h, fun k q h => by simp at h⟩
  have hl := lv_entry ([.ref b]) (n := 23) (Nat.le_of_ble_eq_true rfl)
  rw [lg_entry_eq]
  generalize (lg_sl ([.ref b]) ++ List.replicate (23 - (lg_sl ([.ref b])).length) Slot.unset).toArray = ls at hl ⊢
  have hl : lv_has ls 23 [(0, .ref b)] := hl
  refine cx_new (ci := 10) (fs := [.null, .null, .null, .null, .null, .null, .null, .null, .null, .int 0, .int 0, .int 0]) (own := "BorderThroughBedLaw") hx hb htb hown (by decide) ls_cl0 ls_n10 ls_z10 hK hP hD hS hA (by decide +kernel) (Nat.le_of_ble_eq_true rfl) (Nat.le_of_ble_eq_true rfl) dl_0 (fun q0 H hP hD hS => ?_)
  refine W.widen (k := 1) (n := 12) (Nat.le_of_ble_eq_true rfl) (Nat.le_of_ble_eq_true rfl) ?_
  refine lv_dup hx hb dl_3 rfl ?_
  refine cx_ctor (As := []) (b := q0) (rest := [.ref q0]) (wc := [(q0, .inr (10, [.null, .null, .null, .null, .null, .null, .null, .null, .null, .int 0, .int 0, .int 0]))]) (wr := []) (isC := [0]) (isR := []) (own := "BorderThroughBedLaw") (nL := 23) (Hm := H) hx hb hml htb hown (c_Main l dC dI cI cI q0 H.size) cw_46 cw_47 cw_48 ls_i0 rfl (by decide +kernel) rfl rfl ⟨(Nat.le_of_ble_eq_true rfl), (Nat.le_of_ble_eq_true rfl)⟩ hK hNw hP hD hS hA rfl rfl (by decide) (by decide) hl.1 (Nat.le_of_ble_eq_true rfl) dl_4 ⟨(Nat.le_of_ble_eq_true rfl), (Nat.le_of_ble_eq_true rfl)⟩ (fun u H locs hP hD hS => ?_)
  refine W.widen (k := 46) (n := 1360) (Nat.le_of_ble_eq_true rfl) (Nat.le_of_ble_eq_true rfl) ?_
  have hP : va_P (dC, dI) ex_cm [(q0, .inr (10, [.ref (u 1), .ref (u 3), .ref (u 4), .ref (u 5), .ref (u 17), .ref (u 20), .ref (u 29), .ref (u 38), .ref (u 41), .int 0, .int 0, .int 0])), ((u 1), .inr (7, [.ref (u 2), .int 0])), ((u 2), .inl (cI, 40, .inl (fun _ => 0))), ((u 3), .inr (2, [.int 0, .int 0, .int 0, .int 0])), ((u 4), .inr (4, [.int 0, .int 0, .int 0, .int 0, .int 0, .int 0, .int 0])), ((u 5), .inr (1, [.ref (u 6), .ref (u 7), .ref (u 8), .ref (u 9), .ref (u 10), .ref (u 11), .ref (u 12), .ref (u 13), .ref (u 14), .ref (u 15), .ref (u 16), .int 0, .int 0, .int 0])), ((u 6), .inl (cI, 24, .inl (fun _ => 0))), ((u 7), .inl (cI, 24, .inl (fun _ => 0))), ((u 8), .inl (cI, 24, .inl (fun _ => 0))), ((u 9), .inl (cI, 4, .inl (fun _ => 0))), ((u 10), .inl (cI, 96, .inl (fun _ => 0))), ((u 11), .inl (cI, 96, .inl (fun _ => 0))), ((u 12), .inl (cI, 96, .inl (fun _ => 0))), ((u 13), .inl (cI, 96, .inl (fun _ => 0))), ((u 14), .inl (cI, 24, .inl (fun _ => 0))), ((u 15), .inl (cI, 24, .inl (fun _ => 0))), ((u 16), .inl (cI, 24, .inl (fun _ => 0))), ((u 17), .inr (5, [.ref (u 18)])), ((u 18), .inr (8, [.ref (u 19), .int 8, .int 0])), ((u 19), .inl (cI, 60, .inl (fun _ => 0))), ((u 20), .inr (0, [.ref (u 21), .ref (u 23), .ref (u 25), .ref (u 27)])), ((u 21), .inr (8, [.ref (u 22), .int 3, .int 0])), ((u 22), .inl (cI, 60, .inl (fun _ => 0))), ((u 23), .inr (8, [.ref (u 24), .int 12, .int 0])), ((u 24), .inl (cI, 60, .inl (fun _ => 0))), ((u 25), .inr (8, [.ref (u 26), .int 6, .int 0])), ((u 26), .inl (cI, 60, .inl (fun _ => 0))), ((u 27), .inr (8, [.ref (u 28), .int 10, .int 0])), ((u 28), .inl (cI, 60, .inl (fun _ => 0))), ((u 29), .inr (0, [.ref (u 30), .ref (u 32), .ref (u 34), .ref (u 36)])), ((u 30), .inr (8, [.ref (u 31), .int 3, .int 0])), ((u 31), .inl (cI, 60, .inl (fun _ => 0))), ((u 32), .inr (8, [.ref (u 33), .int 12, .int 0])), ((u 33), .inl (cI, 60, .inl (fun _ => 0))), ((u 34), .inr (8, [.ref (u 35), .int 6, .int 0])), ((u 35), .inl (cI, 60, .inl (fun _ => 0))), ((u 36), .inr (8, [.ref (u 37), .int 10, .int 0])), ((u 37), .inl (cI, 60, .inl (fun _ => 0))), ((u 38), .inr (3, [.ref (u 39), .ref (u 40), .int 0])), ((u 39), .inl (cI, 6, .inl (fun _ => 0))), ((u 40), .inl (cI, 144, .inl (fun _ => 0))), ((u 41), .inr (6, [.ref (u 42), .ref (u 43), .ref (u 44), .ref (u 45), .int 0, .int 0])), ((u 42), .inl (cI, 3, .inl (fun _ => 0))), ((u 43), .inl (cI, 3, .inl (fun _ => 0))), ((u 44), .inl (cI, 3, .inl (fun _ => 0))), ((u 45), .inl (cI, 5, .inl (fun _ => 0)))] H := hP
  have hD : va_D (fun q : Nat => s.heap.size ≤ q) [(q0, .inr (10, [.ref (u 1), .ref (u 3), .ref (u 4), .ref (u 5), .ref (u 17), .ref (u 20), .ref (u 29), .ref (u 38), .ref (u 41), .int 0, .int 0, .int 0])), ((u 1), .inr (7, [.ref (u 2), .int 0])), ((u 2), .inl (cI, 40, .inl (fun _ => 0))), ((u 3), .inr (2, [.int 0, .int 0, .int 0, .int 0])), ((u 4), .inr (4, [.int 0, .int 0, .int 0, .int 0, .int 0, .int 0, .int 0])), ((u 5), .inr (1, [.ref (u 6), .ref (u 7), .ref (u 8), .ref (u 9), .ref (u 10), .ref (u 11), .ref (u 12), .ref (u 13), .ref (u 14), .ref (u 15), .ref (u 16), .int 0, .int 0, .int 0])), ((u 6), .inl (cI, 24, .inl (fun _ => 0))), ((u 7), .inl (cI, 24, .inl (fun _ => 0))), ((u 8), .inl (cI, 24, .inl (fun _ => 0))), ((u 9), .inl (cI, 4, .inl (fun _ => 0))), ((u 10), .inl (cI, 96, .inl (fun _ => 0))), ((u 11), .inl (cI, 96, .inl (fun _ => 0))), ((u 12), .inl (cI, 96, .inl (fun _ => 0))), ((u 13), .inl (cI, 96, .inl (fun _ => 0))), ((u 14), .inl (cI, 24, .inl (fun _ => 0))), ((u 15), .inl (cI, 24, .inl (fun _ => 0))), ((u 16), .inl (cI, 24, .inl (fun _ => 0))), ((u 17), .inr (5, [.ref (u 18)])), ((u 18), .inr (8, [.ref (u 19), .int 8, .int 0])), ((u 19), .inl (cI, 60, .inl (fun _ => 0))), ((u 20), .inr (0, [.ref (u 21), .ref (u 23), .ref (u 25), .ref (u 27)])), ((u 21), .inr (8, [.ref (u 22), .int 3, .int 0])), ((u 22), .inl (cI, 60, .inl (fun _ => 0))), ((u 23), .inr (8, [.ref (u 24), .int 12, .int 0])), ((u 24), .inl (cI, 60, .inl (fun _ => 0))), ((u 25), .inr (8, [.ref (u 26), .int 6, .int 0])), ((u 26), .inl (cI, 60, .inl (fun _ => 0))), ((u 27), .inr (8, [.ref (u 28), .int 10, .int 0])), ((u 28), .inl (cI, 60, .inl (fun _ => 0))), ((u 29), .inr (0, [.ref (u 30), .ref (u 32), .ref (u 34), .ref (u 36)])), ((u 30), .inr (8, [.ref (u 31), .int 3, .int 0])), ((u 31), .inl (cI, 60, .inl (fun _ => 0))), ((u 32), .inr (8, [.ref (u 33), .int 12, .int 0])), ((u 33), .inl (cI, 60, .inl (fun _ => 0))), ((u 34), .inr (8, [.ref (u 35), .int 6, .int 0])), ((u 35), .inl (cI, 60, .inl (fun _ => 0))), ((u 36), .inr (8, [.ref (u 37), .int 10, .int 0])), ((u 37), .inl (cI, 60, .inl (fun _ => 0))), ((u 38), .inr (3, [.ref (u 39), .ref (u 40), .int 0])), ((u 39), .inl (cI, 6, .inl (fun _ => 0))), ((u 40), .inl (cI, 144, .inl (fun _ => 0))), ((u 41), .inr (6, [.ref (u 42), .ref (u 43), .ref (u 44), .ref (u 45), .int 0, .int 0])), ((u 42), .inl (cI, 3, .inl (fun _ => 0))), ((u 43), .inl (cI, 3, .inl (fun _ => 0))), ((u 44), .inl (cI, 3, .inl (fun _ => 0))), ((u 45), .inl (cI, 5, .inl (fun _ => 0)))] := hD
  refine lv_astore_n (lv' := [(1, .ref q0), (0, .ref b)]) hx hb dl_7 rfl hl (by decide) rfl (fun ls hl => ?_)
  refine lv_bipush (v := 6) hx hb dl_8 (by decide) ?_
  refine cx_newi (N := 6) hx hb htb hK hP hD hS hA (by decide) (by decide) (Nat.le_of_ble_eq_true rfl) (Nat.le_of_ble_eq_true rfl) (Nat.le_of_ble_eq_true rfl) dl_10 (fun r0 H hP hD hS => ?_)
  refine W.widen (k := 47) (n := 1366) (Nat.le_of_ble_eq_true rfl) (Nat.le_of_ble_eq_true rfl) ?_
  refine lv_astore_n (lv' := [(2, .ref r0), (1, .ref q0), (0, .ref b)]) hx hb dl_12 rfl hl (by decide) rfl (fun ls hl => ?_)
  refine lv_bipush (v := 24) hx hb dl_13 (by decide) ?_
  refine cx_newi (N := 24) hx hb htb hK hP hD hS hA (by decide) (by decide) (Nat.le_of_ble_eq_true rfl) (Nat.le_of_ble_eq_true rfl) (Nat.le_of_ble_eq_true rfl) dl_15 (fun r1 H hP hD hS => ?_)
  refine W.widen (k := 48) (n := 1390) (Nat.le_of_ble_eq_true rfl) (Nat.le_of_ble_eq_true rfl) ?_
  refine lv_astore_n (lv' := [(3, .ref r1), (2, .ref r0), (1, .ref q0), (0, .ref b)]) hx hb dl_17 rfl hl (by decide) rfl (fun ls hl => ?_)
  refine lv_bipush (v := 24) hx hb dl_18 (by decide) ?_
  refine cx_newi (N := 24) hx hb htb hK hP hD hS hA (by decide) (by decide) (Nat.le_of_ble_eq_true rfl) (Nat.le_of_ble_eq_true rfl) (Nat.le_of_ble_eq_true rfl) dl_20 (fun r2 H hP hD hS => ?_)
  refine W.widen (k := 49) (n := 1414) (Nat.le_of_ble_eq_true rfl) (Nat.le_of_ble_eq_true rfl) ?_
  refine lv_astore (lv' := [(4, .ref r2), (3, .ref r1), (2, .ref r0), (1, .ref q0), (0, .ref b)]) hx hb dl_22 hl (by decide) rfl (fun ls hl => ?_)
  refine lv_bipush (v := 40) hx hb dl_24 (by decide) ?_
  refine cx_newi (N := 40) hx hb htb hK hP hD hS hA (by decide) (by decide) (Nat.le_of_ble_eq_true rfl) (Nat.le_of_ble_eq_true rfl) (Nat.le_of_ble_eq_true rfl) dl_26 (fun r3 H hP hD hS => ?_)
  refine W.widen (k := 50) (n := 1454) (Nat.le_of_ble_eq_true rfl) (Nat.le_of_ble_eq_true rfl) ?_
  refine lv_astore (lv' := [(5, .ref r3), (4, .ref r2), (3, .ref r1), (2, .ref r0), (1, .ref q0), (0, .ref b)]) hx hb dl_28 hl (by decide) rfl (fun ls hl => ?_)
  have hP : va_P (dC, dI) ex_cm (ex_cel (x_ad q0 tD tR b L r0 r1 r2 r3 xs u) cI cI (x_w L xs)) H := by rw [x_cel]; exact hP
  have hD : va_D (fun q : Nat => s.heap.size ≤ q) (ex_cel (x_ad q0 tD tR b L r0 r1 r2 r3 xs u) cI cI (x_w L xs)) := by rw [x_cel]; exact hD
  have hIn : ex_In (x_ad q0 tD tR b L r0 r1 r2 r3 xs u) := ⟨fun i j hi hj h => by
    have h1 := congrArg ex_ob (hD.1 _ _ _ _ (ex_cel_at hi) (ex_cel_at hj) h)
    rw [(ex_ob_ps hi).1, (ex_ob_ps hj).1] at h1
    exact h1, (by decide : 24 ≤ 60)⟩
  have hge : ∀ q, ex_AA (x_ad q0 tD tR b L r0 r1 r2 r3 xs u) s.heap.size q → s.heap.size ≤ q := by
    rintro q (⟨o, ho, rfl⟩ | h)
    · exact hD.2 _ _ (ex_cel_at ho)
    · exact h
  have hS : va_S (ex_AA (x_ad q0 tD tR b L r0 r1 r2 r3 xs u) s.heap.size) s.heap H locs := ⟨hS.1, fun q h1 h2 => hS.2.1 q h1 (fun h => h2 (Or.inr h)), fun l hl => Or.inr (hS.2.2 l hl)⟩
  have e0 : (x_ad q0 tD tR b L r0 r1 r2 r3 xs u) 0 = q0 := rfl
  have e46 : (x_ad q0 tD tR b L r0 r1 r2 r3 xs u) 46 = r0 := rfl
  have e47 : (x_ad q0 tD tR b L r0 r1 r2 r3 xs u) 47 = r1 := rfl
  have e48 : (x_ad q0 tD tR b L r0 r1 r2 r3 xs u) 48 = r2 := rfl
  have e49 : (x_ad q0 tD tR b L r0 r1 r2 r3 xs u) 49 = r3 := rfl
  have eD : (x_ad q0 tD tR b L r0 r1 r2 r3 xs u) 1000 = tD := rfl
  have eR : (x_ad q0 tD tR b L r0 r1 r2 r3 xs u) 1001 = tR := rfl
  have eX : (x_ad q0 tD tR b L r0 r1 r2 r3 xs u) 2000 = b := rfl
  have eL : (x_ad q0 tD tR b L r0 r1 r2 r3 xs u) 2999 = L := rfl
  have hXs : ∀ j, Int32.ofNat ((x_ad q0 tD tR b L r0 r1 r2 r3 xs u) (3000 + j)) = xs j := fun j => x_scr j
  have hTX : va_T .int ((x_ad q0 tD tR b L r0 r1 r2 r3 xs u) 2000) ((x_ad q0 tD tR b L r0 r1 r2 r3 xs u) 2999) (fun j => .int (Int32.ofNat ((x_ad q0 tD tR b L r0 r1 r2 r3 xs u) (3000 + j)))) (ex_AA (x_ad q0 tD tR b L r0 r1 r2 r3 xs u) s.heap.size) s s.heap := by
    obtain ⟨scr, h1, h2, h3, h4, h5⟩ := hX
    rw [eX, eL]
    exact ⟨scr, h1, h2, h3, Nat.le_of_eq h4.symm, by rw [h4], fun j hj => by show scr.slots[j]? = some (Value.int (Int32.ofNat ((x_ad q0 tD tR b L r0 r1 r2 r3 xs u) (3000 + j)))); rw [hXs]; exact h5 j hj, fun h => absurd (hge b h) (Nat.not_le.mpr hbl)⟩
  have hCx : ex_Cx dC dI (x_ad q0 tD tR b L r0 r1 r2 r3 xs u) cI cI (ex_AA (x_ad q0 tD tR b L r0 r1 r2 r3 xs u) s.heap.size) s s.heap := by
    unfold ex_Cx
    rw [eD, eR]
    exact ⟨hK, hNw, hZD.narrow hge, hTD.narrow hge, hZR.narrow hge, hTR.narrow hge, hTX⟩
  have hl : lv_has ls 23 (ex_asc (x_ad q0 tD tR b L r0 r1 r2 r3 xs u) 0 [.ref 2000, .ref 0, .ref 46, .ref 47, .ref 48, .ref 49, .null, .null, .null, .null, .null, .null, .null, .null, .null, .null, .null, .null, .null, .null, .null, .null, .null]) := by
    show lv_has ls 23 [(0, .ref ((x_ad q0 tD tR b L r0 r1 r2 r3 xs u) 2000)), (1, .ref ((x_ad q0 tD tR b L r0 r1 r2 r3 xs u) 0)), (2, .ref ((x_ad q0 tD tR b L r0 r1 r2 r3 xs u) 46)), (3, .ref ((x_ad q0 tD tR b L r0 r1 r2 r3 xs u) 47)), (4, .ref ((x_ad q0 tD tR b L r0 r1 r2 r3 xs u) 48)), (5, .ref ((x_ad q0 tD tR b L r0 r1 r2 r3 xs u) 49))]
    rw [eX, e0, e46, e47, e48, e49]
    exact lv_sub hl [5, 4, 3, 2, 1, 0] rfl
  have hLR : ex_LR (x_ad q0 tD tR b L r0 r1 r2 r3 xs u) (ex_L 104) ls [.ref 2000, .ref 0, .ref 46, .ref 47, .ref 48, .ref 49, .null, .null, .null, .null, .null, .null, .null, .null, .null, .null, .null, .null, .null, .null, .null, .null, .null] := ⟨rfl, hl, fun j x h => by
    have h1 := List.mem_of_getElem? h
    simp at h1⟩
  obtain ⟨w1, hev, hct⟩ := l_all (A := x_A0) (w := x_w L xs) hL x_V (rC_f x_C fun _ _ _ => rfl) rfl (by decide) rfl (by decide)
  have hct : w1.2.1 ≤ 0 + 63 := hct
  obtain ⟨n, hn⟩ := ex_ev_run hev
  have C1 : ex_Fix p l e room_1 s m #[Value.ref b] c dC dI (x_ad q0 tD tR b L r0 r1 r2 r3 xs u) cI cI 104 11 := ⟨hx, hb, hml, hown, htb, hCx, ⟨by decide, by decide, fun _ => by decide⟩, by decide⟩
  have hkr : ex_ret 104 = some .boolean := rfl
  have hG := es_run (below := below) (meth := meth) (d := 10) (y := 104) (K := (50, 1454, 0)) (Q := lw_Z below #[Value.ref b] s) l (ex_sound l 10) C1 (w1 := w1) ⟨by show 50 + (w1.2.1 - 0) ≤ 612604; omega, by show 1454 + 64 * (w1.2.1 - 0) ≤ 7264437; omega⟩
    (fun c1 pl a _ h => by rw [hkr] at h; cases h) (fun c1 pl a _ h => by rw [hkr] at h; cases h)
    (fun c1 pl a he _ _ => by
      have ha : a = 1 := by cases he; rfl
      subst ha
      intro ad pc H locs ls hSt hok hP hS hL2
      obtain ⟨j, len, hd, hi, -⟩ := ex_ok_cons rfl hok
      have hi : (decide (j = .ireturn) && len == 1) = true := hi
      simp only [Bool.and_eq_true, decide_eq_true_eq, beq_iff_eq] at hi
      obtain ⟨rfl, rfl⟩ := hi
      refine W.widen (k := 612604) (n := 7264437) (by show 50 + (w1.2.1 - 0) ≤ 612604; omega) (by show 1454 + 64 * (w1.2.1 - 0) ≤ 7264437; omega) ?_
      refine va_forget (fun q hq => hge q.base (hS.2.2 q hq)) ?_
      exact lw_ret hx hb hr hlocks hd)
    (fun c1 pl _ h => by rw [hkr] at h; cases h) n _ _ _ _ hn
  exact hG (x_ad q0 tD tR b L r0 r1 r2 r3 xs u) 30 H locs ls ⟨fun o => Or.inl rfl, hIn, Nat.zero_le _, rfl, fun j => (hXs j).symm⟩ (ex_ok_blk 104 30) hP hS hLR
-- ===== YOUR PART ENDS =====
set_option maxHeartbeats 4000000 in
theorem lw_walk (l : Launch) (hflags : l.flags = flags0) (b : Addr) (xs : List Int32) : MetFree l x (headSpec (Jvm.Cond.code x code maxLocals ret :: tables_1) room_1) (lw_P b xs) (fun _ _ _ _ _ => True) lw_Q := by
  refine MetFree.of_bodyS (code := code) (maxLocals := maxLocals) (ret := ret) (by decide) ?_ ?_
  · intro args s m h hn
    obtain ⟨meth, c, h1, h2, h3, h4, h5, h6, -, -⟩ := Cond.code_spec hn (atoms_spec (ws := Jvm.Cond.code x code maxLocals ret :: tables_1) h _ List.mem_cons_self)
    exact ⟨meth, c, h1, h2, h3, h4, h5, h6⟩
  · intro p e s m args below meth c s₁ B hml0 hP _
    obtain ⟨rfl, hx, hbd, hgv⟩ := hP
    obtain ⟨scr, harrAt, hlist, hof, hsmall⟩ := hx
    obtain ⟨hcb, hkn, -, -⟩ := State.arrayAt?_spec harrAt
    have hown : s.vm.findClass R_law = some m.cls := findClass_of_methodNamed B.named
    have hts0 : ∀ c ∈ (Jvm.Cond.code x code maxLocals ret :: tables_1), c.before #[Value.ref b] s = true := atoms_spec (ws := Jvm.Cond.code x code maxLocals ret :: tables_1) B.pre
    have hts : ∀ w ∈ lw_tbl, w.before #[Value.ref b] s = true := k2_hts_sels lw_privs (fun w hw => hts0 w (List.mem_cons_of_mem _ hw)) lw_privs_ok
    have hml : c.maxLocals = 23 := B.maxLocals_eq (hts0 _ List.mem_cons_self)
    have X₀ : Stand p l e room_1 s m #[Value.ref b] below meth c s₁ [] 0 0 := Stand.of_body B
    have hh0 : s₁.heap = s.heap := by rw [B.state]; rfl
    have hsz : scr.slots.size = xs.length := by rw [← Array.length_toList, hlist, List.length_map]
    have hval : ∀ j : Nat, j < xs.length → scr.slots[j]? = some (.int (xs.getD j 0)) := fun j hj => by
      rw [← Array.getElem?_toList, hlist]
      simp [hj]
    have hbl : b < s.heap.size := (Array.getElem?_eq_some_iff.mp hcb).1
    have hX : va_X b xs.length (fun j => xs.getD j 0) s s.heap := ⟨scr, hcb, hof, hkn, hsz, hval⟩
    have K : W p l e room_1 s m #[Value.ref b] below meth c s₁.heap [] 0 0 (lw_Z below #[Value.ref b] s) (entryFrame m ([Value.ref b] : List Value).toArray 23) := by
      rw [hh0]
      exact whole_start l hflags hbd ⟨B.exec, B.bytes, B.returns, hml, hown, hts, hX, hbl, B.notSynchronized, hgv⟩
    obtain ⟨t, a1, o, b1, b2, b3⟩ := K s₁ rfl X₀
    exact ⟨t, o, a1, b1, b2, b3⟩
theorem lw_pre_spec {args : Array Value} {s : State} (h : (Jvm.Cond.and given_1 narrow_1).before args s = true) (hr : rest_1_c.before args s = true) : ∃ (b : Addr) (xs : List Int32), lw_P b xs args s := by
  have hs := flat_of_before _ h
  have hq := flat_of_before _ hr
  have hc : (Cond.count 1).before args s = true := hs _ (by decide +kernel)
  have harr : (Cond.arrayOf (.arg 0) .int).before args s = true := hs _ (by decide +kernel)
  have hle : (Cond.le (.length (.arg 0)) (.int 260)).before args s = true := hs _ (by decide +kernel)
  have hlen : (Cond.isInt (.length (.arg 0))).before args s = true := hq _ (by decide +kernel)
  have hall : (Cond.all (.arg 0) (.isInt (.elem (.arg 0) (.index 0)))).before args s = true := hq _ (by decide +kernel)
  obtain ⟨b, xs, hb, hx⟩ := State.ints_of_pre rfl harr hlen hall
  have hsm : xs.length < 2 ^ 31 := hx.choose_spec.2.2.2
  have hev : (Term.length (.arg 0)).eval args s none [] s = some (.int xs.length.toInt32) := hx.length_eval hb
  have hv := Cond.le_ints hev (show (Term.int 260).eval args s none [] s = some (.int 260) from rfl)
  have hd : xs.length.toInt32 ≤ 260 := by
    simpa [Cond.before, Cond.holds, hv] using hle
  have hN : xs.length ≤ 260 := (Int32.ofNat_le_ofNat hsm (by decide)).mp (show Int32.ofNat xs.length ≤ Int32.ofNat 260 from hd)
  exact ⟨b, xs, Cond.one_arg hc (show args[0]? = some (.ref b) from hb), hx, hN, h⟩
theorem lw_comes (l : Launch) (hflags : l.flags = flags0) : Comes l x (Jvm.Cond.code x code maxLocals ret :: tables_1) room_1 (fun tb e args s => Calls_1 tb e args s ∧ rest_1 tb e args s ∧ Pre_1 tb e args s)
    (fun _ _ args s o t => lw_Q args s o t) := by
  intro p e ha hc hk s m args below hf hfit hheap happ hpre
  obtain ⟨b, xs, hP⟩ := lw_pre_spec hpre.2.2 hpre.2.1
  obtain ⟨k, o, h1, h2, h3, hQ⟩ := lw_walk l hflags b xs p e ha hc hk s m args below hf ((Spec.applies_iff_loose hf).mp happ).1 hP trivial
  exact ⟨k, o, h1, h2, h3, hQ⟩
theorem lw_frame {s t : State} {o : Outcome} {args : Array Value} (h : Framed s o t [] 612604 7264437) :
    Framed s o t (fieldLocs frame_1_writes args s ++ arrayLocs frame_1_arrays args s ++ staticLocs frame_1_statics s) 612604 7264437 := h
theorem lw_limb (L : Cond) (hL : ∀ (args : Array Value) (s t : State), L.after args s (.returned (some (.int 1))) t = true) :
    ArmFor flags0 classFile x code maxLocals ret World_1 tables_1 room_1 Calls_1 rest_1 Pre_1
      (fun tb e a s o t => postC L tb e a s o t ∧ Framed s o t (fieldLocs frame_1_writes a s ++ arrayLocs frame_1_arrays a s ++ staticLocs frame_1_statics s) 612604 7264437) := by
  intro l hflags _ _ p e ha hc hk s m args below hf hfit hheap happ hpre
  obtain ⟨k, o, h1, h2, h3, rfl, hF⟩ := lw_comes l hflags p e ha hc hk s m args below hf hfit hheap happ hpre
  exact ⟨k, _, h1, h2, h3, hL args s _, lw_frame hF⟩
theorem i_vc : Claimed_1_1 ∧ Claimed_1_2 := ⟨lw_limb limb_1_1 (fun args s t => by simp [limb_1_1, Cond.after, Cond.holds, Cond.value]), lw_limb limb_1_2 (fun args s t => Cond.after_iff.mpr (by
  first | (rw [show limb_1_2 = Cond.eq .result (.int 1) from rfl, Cond.eq_ints (x := 1) (y := 1) rfl rfl]; simp; done) | (simp [limb_1_2, Cond.value, Term.eval]; done)))⟩
