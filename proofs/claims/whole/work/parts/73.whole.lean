/-! THE CLAIM OUT OF ONE WALK OF THE LAW'S BODY. Your part is whole_start (and what it stands on); all else here is the same for every law, but numbers. -/
def R_law : String := "BorderThroughBedLaw"
def lw_P (b : Addr) (xs : List Int32) (args : Array Value) (s : State) : Prop := args = #[.ref b] ∧ s.IntsAt b xs ∧ xs.length ≤ 3072 ∧ (Jvm.Cond.and given_1 narrow_1).before args s = true
def lw_Q (_ : Array Value) (s : State) (o : Outcome) (t : State) : Prop := o = .returned (some (.int 1)) ∧ Framed s o t [] 71 1804
def lw_Z (below : List Frame) (a : Array Value) (s : State) : State → Prop := fun t => ∃ o, t.status = .running ∧ Ended t below o ∧ lw_Q a s o t
/-- the law's own end, with 1 on the stack, nothing written that was there before, its room as the claim has it -/
theorem lw_ret {p : Program} {l : Launch} {e : Env} {s : State} {m : MethodId} {below : List Frame} {meth : Method} {c : Code} {b : Nat} (hx : p.tables.exec = Jvm.exec) (hb : c.code = code) (hr : meth.sig.returnType = ret) (hlocks : meth.locks = false) {pc : Nat} {H : Heap} {ls : Array Slot} (hdg : decode code pc = .ok (.ireturn, 1)) : W p l e room_1 s m #[Value.ref b] below meth c H [] 71 1804 (lw_Z below #[Value.ref b] s) (F0 m pc ls [.int 1]) := by
  intro T hT X
  obtain ⟨fs, hret, hrun, hended, hW, hframe⟩ := X.leave (v := some (.int 1)) (hlocks := hlocks) (fun h => by rw [hr] at h; cases h)
  have hmeth' : T.vm.method? m = some meth := X.method'
  refine ⟨T.setFrames fs, ?_, .returned (some (.int 1)), hrun, hended, rfl, ⟨_, rfl⟩, hW, hframe⟩
  jvm_step X.here [X.here.top, hx, hb, hdg, hmeth', hr, ret, narrow_b1]
  (try refine ⟨rfl, ?_⟩); (try refine ⟨rfl, ?_⟩)
  first | (intro acts; rw [hret _ acts rfl rfl rfl]) | rw [hret _ _ rfl rfl rfl]
  exact Steps.refl _
/-- what holds at the law's entry: the machine, the code, the tables' words (any of lw_tbl by 'hts w (by decide +kernel)'), the script of L ints xs at the cell b, what the Statement gives of the start (any of its parts by flat_of_before) -/
def lw_At (p : Program) (s : State) (m : MethodId) (meth : Method) (c : Code) (b L : Nat) (xs : Nat → Int32) : Prop :=
  p.tables.exec = Jvm.exec ∧ c.code = code ∧ meth.sig.returnType = ret ∧ c.maxLocals = 4 ∧ s.vm.findClass R_law = some m.cls ∧ (∀ w ∈ lw_tbl, w.before #[Value.ref b] s = true) ∧ va_X b L xs s s.heap ∧ b < s.heap.size ∧ meth.locks = false ∧ (Jvm.Cond.and given_1 narrow_1).before #[Value.ref b] s = true
-- ===== YOUR PART BEGINS =====
theorem lx_lim {L i : Nat} (hL : L ≤ 3072) (hi : i ≤ L) (h : ¬ Int32.ofNat L - 6 < nI i) : i + 6 ≤ L := by
  have e1 : Int32.ofNat L - 6 = Int32.ofInt ((L : Int) - 6) := z_sub (L : Int) 6
  have e2 : nI i = Int32.ofInt (i : Int) := z_n i
  rw [e1, e2, z_lt (by omega) (by omega) (by omega) (by omega)] at h
  omega
set_option maxHeartbeats 4000000 in
set_option maxRecDepth 100000 in
theorem lx_step {p : Program} {l : Launch} {e : Env} {s : State} {m : MethodId} {below : List Frame} {meth : Method} {c : Code} {b L : Nat} {xs : Nat → Int32} {dC : Nat → ClassId} {dI : Nat → Nat → Nat} {ad : Nat → Nat} {cI cB : ClassId} (C : lx_Fix p l e s m #[Value.ref b] below meth c b L xs dC dI ad cI cB) (hge : ∀ q, ex_AA ad s.heap.size q → s.heap.size ≤ q) (hr : meth.sig.returnType = ret) (hlocks : meth.locks = false)
    {i : Nat} (hiL : i ≤ L) (ih : i + 6 ≤ L → ∀ (A : AS) (w : PW) (H : Heap) (locs : List Loc) (ls : Array Slot), A 0 2 ≤ ((i + 6 : Nat) : Int) → q_V A → rC A w → rM A w → va_P (dC, dI) ex_cl (ex_cel ad cI cB w) H → va_S (ex_AA ad s.heap.size) s.heap H locs → lv_has ls 4 [(0, .ref b), (1, .ref (ad 0)), (2, .ref (ad 46)), (3, .int (nI (i + 6)))] → W p l e room_1 s m #[Value.ref b] below meth c H locs 71 1804 (lw_Z below #[Value.ref b] s) (F0 m 18 ls []))
    {A : AS} {w : PW} {H : Heap} {locs : List Loc} {ls : Array Slot} (hA2 : A 0 2 ≤ (i : Int)) (hV : q_V A) (hC : rC A w) (hM : rM A w) (hP : va_P (dC, dI) ex_cl (ex_cel ad cI cB w) H) (hS : va_S (ex_AA ad s.heap.size) s.heap H locs) (hl : lv_has ls 4 [(0, .ref b), (1, .ref (ad 0)), (2, .ref (ad 46)), (3, .int (nI i))]) :
    W p l e room_1 s m #[Value.ref b] below meth c H locs 71 1804 (lw_Z below #[Value.ref b] s) (F0 m 18 ls []) := by
  obtain ⟨hx, hb, hml, hown, hts, hCx, hIn, hX, hbl, hbA, hL⟩ := id C
  refine lv_iload_n hx hb dl_18 rfl (lv_at hl 3 rfl) ?_
  refine lv_aload_n hx hb dl_19 rfl (lv_at hl 0 rfl) ?_
  refine va_slen hx hb hX hbl hbA hS dl_20 ?_
  refine lv_bipush (v := 6) hx hb dl_21 (by decide) ?_
  refine lv_isub hx hb dl_23 ?_
  refine lv_icmp_gt (tgt := 1172) hx hb dl_24 (by decide) (fun c_1 => ?_) (fun c_1 => ?_)
  · refine lv_iconst (v := 1) hx hb dl_1172 (by decide) ?_
    refine va_forget (fun q hq => hge q.base (hS.2.2 q hq)) ?_
    exact lw_ret hx hb hr hlocks dl_1173
  · have hi : i + 6 ≤ L := lx_lim hL hiL c_1
    refine lv_aload_n hx hb dl_27 rfl (lv_at hl 0 rfl) ?_
    refine lv_iload_n hx hb dl_28 rfl (lv_at hl 3 rfl) ?_
    refine va_sld hx hb hX hbl hbA hS (vp_in_nI (show i < L by omega) (by omega)) dl_29 ?_
    refine lv_bipush (v := 31) hx hb dl_30 (by decide) ?_
    refine lv_iand hx hb dl_32 ?_
    refine lv_topi (fun y ey => ?_)
    obtain ⟨k, hk, ek⟩ := lx_and31 (xs (nI i).toNatClampNeg)
    have ey2 : y = Int32.ofNat k := ey.trans ek
    subst ey2
    have h2 : A 0 2 < 1000000 := by omega
    have K : lx_K p l e s m #[Value.ref b] below meth c (lw_Z below #[Value.ref b] s) dC dI ad cI cB A ls := by
      intro A' w' H' locs' hV' hC' hM' hle hP' hS'
      refine lv_iinc (v := nI (i + 6)) (lv' := [(3, .int (nI (i + 6))), (0, .ref b), (1, .ref (ad 0)), (2, .ref (ad 46))]) hx hb dl_1166 hl (k := 3) rfl (nI_add i 6) (by decide) rfl (fun ls hl => ?_)
      refine lv_goto (tgt := 18) hx hb dl_1169 (by decide) ?_
      exact ih hi A' w' H' locs' ls (by omega) hV' hC' hM' hP' hS' (lv_sub hl [1, 2, 3, 0] rfl)
    clear ey ek
    match k, hk with
    | 0, _ => exact lv_tableIn (x := Int32.ofNat 0) (off := 139) (tgt := 172) hx hb dl_33 (by decide) (by decide) (by decide +kernel) (by decide) (lx_c0 C hi hl hV hC hM h2 hP hS K)
    | 1, _ => exact lv_tableIn (x := Int32.ofNat 1) (off := 192) (tgt := 225) hx hb dl_33 (by decide) (by decide) (by decide +kernel) (by decide) (lx_c1 C hi hl hV hC hM h2 hP hS K)
    | 2, _ => exact lv_tableIn (x := Int32.ofNat 2) (off := 205) (tgt := 238) hx hb dl_33 (by decide) (by decide) (by decide +kernel) (by decide) (lx_c2 C hi hl hV hC hM h2 hP hS K)
    | 3, _ => exact lv_tableIn (x := Int32.ofNat 3) (off := 228) (tgt := 261) hx hb dl_33 (by decide) (by decide) (by decide +kernel) (by decide) (lx_c3 C hi hl hV hC hM h2 hP hS K)
    | 4, _ => exact lv_tableIn (x := Int32.ofNat 4) (off := 241) (tgt := 274) hx hb dl_33 (by decide) (by decide) (by decide +kernel) (by decide) (lx_c4 C hi hl hV hC hM h2 hP hS K)
    | 5, _ => exact lv_tableIn (x := Int32.ofNat 5) (off := 254) (tgt := 287) hx hb dl_33 (by decide) (by decide) (by decide +kernel) (by decide) (lx_c5 C hi hl hV hC hM h2 hP hS K)
    | 6, _ => exact lv_tableIn (x := Int32.ofNat 6) (off := 287) (tgt := 320) hx hb dl_33 (by decide) (by decide) (by decide +kernel) (by decide) (lx_c6 C hi hl hV hC hM h2 hP hS K)
    | 7, _ => exact lv_tableIn (x := Int32.ofNat 7) (off := 320) (tgt := 353) hx hb dl_33 (by decide) (by decide) (by decide +kernel) (by decide) (lx_c7 C hi hl hV hC hM h2 hP hS K)
    | 8, _ => exact lv_tableIn (x := Int32.ofNat 8) (off := 353) (tgt := 386) hx hb dl_33 (by decide) (by decide) (by decide +kernel) (by decide) (lx_c8 C hi hl hV hC hM h2 hP hS K)
    | 9, _ => exact lv_tableIn (x := Int32.ofNat 9) (off := 406) (tgt := 439) hx hb dl_33 (by decide) (by decide) (by decide +kernel) (by decide) (lx_c9 C hi hl hV hC hM h2 hP hS K)
    | 10, _ => exact lv_tableIn (x := Int32.ofNat 10) (off := 469) (tgt := 502) hx hb dl_33 (by decide) (by decide) (by decide +kernel) (by decide) (lx_c10 C hi hl hV hC hM h2 hP hS K)
    | 11, _ => exact lv_tableIn (x := Int32.ofNat 11) (off := 532) (tgt := 565) hx hb dl_33 (by decide) (by decide) (by decide +kernel) (by decide) (lx_c11 C hi hl hV hC hM h2 hP hS K)
    | 12, _ => exact lv_tableIn (x := Int32.ofNat 12) (off := 555) (tgt := 588) hx hb dl_33 (by decide) (by decide) (by decide +kernel) (by decide) (lx_c12 C hi hl hV hC hM h2 hP hS K)
    | 13, _ => exact lv_tableIn (x := Int32.ofNat 13) (off := 608) (tgt := 641) hx hb dl_33 (by decide) (by decide) (by decide +kernel) (by decide) (lx_c13 C hi hl hV hC hM h2 hP hS K)
    | 14, _ => exact lv_tableIn (x := Int32.ofNat 14) (off := 651) (tgt := 684) hx hb dl_33 (by decide) (by decide) (by decide +kernel) (by decide) (lx_c14 C hi hl hV hC hM h2 hP hS K)
    | 15, _ => exact lv_tableIn (x := Int32.ofNat 15) (off := 684) (tgt := 717) hx hb dl_33 (by decide) (by decide) (by decide +kernel) (by decide) (lx_c15 C hi hl hV hC hM h2 hP hS K)
    | 16, _ => exact lv_tableIn (x := Int32.ofNat 16) (off := 717) (tgt := 750) hx hb dl_33 (by decide) (by decide) (by decide +kernel) (by decide) (lx_c16 C hi hl hV hC hM h2 hP hS K)
    | 17, _ => exact lv_tableIn (x := Int32.ofNat 17) (off := 760) (tgt := 793) hx hb dl_33 (by decide) (by decide) (by decide +kernel) (by decide) (lx_c17 C hi hl hV hC hM h2 hP hS K)
    | 18, _ => exact lv_tableIn (x := Int32.ofNat 18) (off := 793) (tgt := 826) hx hb dl_33 (by decide) (by decide) (by decide +kernel) (by decide) (lx_c18 C hi hl hV hC hM h2 hP hS K)
    | 19, _ => exact lv_tableIn (x := Int32.ofNat 19) (off := 806) (tgt := 839) hx hb dl_33 (by decide) (by decide) (by decide +kernel) (by decide) (lx_c19 C hi hl hV hC hM h2 hP hS K)
    | 20, _ => exact lv_tableIn (x := Int32.ofNat 20) (off := 829) (tgt := 862) hx hb dl_33 (by decide) (by decide) (by decide +kernel) (by decide) (lx_c20 C hi hl hV hC hM h2 hP hS K)
    | 21, _ => exact lv_tableIn (x := Int32.ofNat 21) (off := 862) (tgt := 895) hx hb dl_33 (by decide) (by decide) (by decide +kernel) (by decide) (lx_c21 C hi hl hV hC hM h2 hP hS K)
    | 22, _ => exact lv_tableIn (x := Int32.ofNat 22) (off := 905) (tgt := 938) hx hb dl_33 (by decide) (by decide) (by decide +kernel) (by decide) (lx_c22 C hi hl hV hC hM h2 hP hS K)
    | 23, _ => exact lv_tableIn (x := Int32.ofNat 23) (off := 938) (tgt := 971) hx hb dl_33 (by decide) (by decide) (by decide +kernel) (by decide) (lx_c23 C hi hl hV hC hM h2 hP hS K)
    | 24, _ => exact lv_tableIn (x := Int32.ofNat 24) (off := 1001) (tgt := 1034) hx hb dl_33 (by decide) (by decide) (by decide +kernel) (by decide) (lx_c24 C hi hl hV hC hM h2 hP hS K)
    | 25, _ => exact lv_tableIn (x := Int32.ofNat 25) (off := 1024) (tgt := 1057) hx hb dl_33 (by decide) (by decide) (by decide +kernel) (by decide) (lx_c25 C hi hl hV hC hM h2 hP hS K)
    | 26, _ => exact lv_tableIn (x := Int32.ofNat 26) (off := 1057) (tgt := 1090) hx hb dl_33 (by decide) (by decide) (by decide +kernel) (by decide) (lx_c26 C hi hl hV hC hM h2 hP hS K)
    | 27, _ => exact lv_tableIn (x := Int32.ofNat 27) (off := 1070) (tgt := 1103) hx hb dl_33 (by decide) (by decide) (by decide +kernel) (by decide) (lx_c27 C hi hl hV hC hM h2 hP hS K)
    | 28, _ => exact lv_tableIn (x := Int32.ofNat 28) (off := 1083) (tgt := 1116) hx hb dl_33 (by decide) (by decide) (by decide +kernel) (by decide) (lx_c28 C hi hl hV hC hM h2 hP hS K)
    | 29, _ => exact lv_tableIn (x := Int32.ofNat 29) (off := 1096) (tgt := 1129) hx hb dl_33 (by decide) (by decide) (by decide +kernel) (by decide) (lx_c29 C hi hl hV hC hM h2 hP hS K)
    | 30, _ => exact lv_tableIn (x := Int32.ofNat 30) (off := 1119) (tgt := 1152) hx hb dl_33 (by decide) (by decide) (by decide +kernel) (by decide) (lx_c30 C hi hl hV hC hM h2 hP hS K)
    | 31, _ => exact lv_tableOut (x := Int32.ofNat 31) (tgt := 1166) hx hb dl_33 (Or.inr (by decide)) (by decide) (K A w H locs hV hC hM (by omega) hP hS)
    | k + 32, h => exact absurd h (by omega)
theorem lx_loop {p : Program} {l : Launch} {e : Env} {s : State} {m : MethodId} {below : List Frame} {meth : Method} {c : Code} {b L : Nat} {xs : Nat → Int32} {dC : Nat → ClassId} {dI : Nat → Nat → Nat} {ad : Nat → Nat} {cI cB : ClassId} (C : lx_Fix p l e s m #[Value.ref b] below meth c b L xs dC dI ad cI cB) (hge : ∀ q, ex_AA ad s.heap.size q → s.heap.size ≤ q) (hr : meth.sig.returnType = ret) (hlocks : meth.locks = false) :
    ∀ (n i : Nat), L ≤ i + n → i ≤ L → ∀ (A : AS) (w : PW) (H : Heap) (locs : List Loc) (ls : Array Slot), A 0 2 ≤ (i : Int) → q_V A → rC A w → rM A w → va_P (dC, dI) ex_cl (ex_cel ad cI cB w) H → va_S (ex_AA ad s.heap.size) s.heap H locs → lv_has ls 4 [(0, .ref b), (1, .ref (ad 0)), (2, .ref (ad 46)), (3, .int (nI i))] → W p l e room_1 s m #[Value.ref b] below meth c H locs 71 1804 (lw_Z below #[Value.ref b] s) (F0 m 18 ls []) := by
  intro n
  induction n with
  | zero =>
    intro i hn hiL A w H locs ls hA2 hV hC hM hP hS hl
    exact lx_step C hge hr hlocks hiL (fun h => absurd h (by omega)) hA2 hV hC hM hP hS hl
  | succ n ih =>
    intro i hn hiL A w H locs ls hA2 hV hC hM hP hS hl
    exact lx_step C hge hr hlocks hiL (fun h => ih (i + 6) (by omega) h) hA2 hV hC hM hP hS hl
set_option maxHeartbeats 4000000 in
set_option maxRecDepth 100000 in
/-- YOUR PART: from the entry, for every script of at most 3072 ints, the law comes to its end with true ('hflags': the launch's flags, for a law that throws: no stack traces) -/
theorem whole_start {p : Program} {e : Env} {s : State} {m : MethodId} {below : List Frame} {meth : Method} {c : Code} (l : Launch) (hflags : l.flags = flags0) {b L : Nat} {xs : Nat → Int32} (hL : L ≤ 3072) (C0 : lw_At p s m meth c b L xs) : W p l e room_1 s m #[Value.ref b] below meth c s.heap [] 0 0 (lw_Z below #[Value.ref b] s) (entryFrame m ([Value.ref b] : List Value).toArray 4) := by
  obtain ⟨hx, hb, hr, hml, hown, hts, hX, hbl, hlocks, hgv⟩ := id C0
  have htb : ∀ w ∈ ex_tb, w.before #[Value.ref b] s = true := fun w h => hts w (List.mem_filter.mp h).1
  have hNw : ∀ x ∈ ex_nw, va_Nw x s := fun x hx => va_Nw.of (List.all_eq_true.mp (show ex_nw.all (fun x => x.onTables) = true from rfl) x hx) (hts x (List.mem_append_right _ (ex_nw_in x hx)))
  have hown : s.vm.findClass "BorderThroughBedLaw" = some m.cls := hown
  obtain ⟨cI, hI1, hI2⟩ : ∃ cI : ClassId, ArrOfT s cI .int ∧ va_RA s cI .int := by
    obtain ⟨c, k, comp, h1, h2, h3⟩ := Cond.arrayClass_spec (htb _ cw_int)
    exact ⟨c, fun n z => ⟨fun k h => (by cases h), k, h2, comp, h3⟩, h1⟩
  obtain ⟨cB, hB1, hB2⟩ : ∃ cB : ClassId, ArrOfT s cB .byte ∧ va_RA s cB .byte := by
    obtain ⟨c, k, comp, h1, h2, h3⟩ := Cond.arrayClass_spec (htb _ cw_byte)
    exact ⟨c, fun n z => ⟨fun k h => (by cases h), k, h2, comp, h3⟩, h1⟩
  obtain ⟨dC, dI, hkn⟩ := ls_known htb (hts _ ls_sup)
  have hK : va_K (dC, dI) ex_cl [(cI, .int), (cB, .byte)] s := ⟨ls_K hkn, fun k q h => by
    match k, h with
    | 0, h => cases h; exact ⟨hI1, hI2⟩
    | 1, h => cases h; exact ⟨hB1, hB2⟩
    | k + 2, h => cases h⟩
  obtain ⟨tD, tR, hZD, hTD, hZR, hTR⟩ := ls_stat hts hgv
  have hA : ∀ q : Nat, s.heap.size ≤ q → (fun q : Nat => s.heap.size ≤ q) q := fun _ h => h
  have hS : va_S (fun q : Nat => s.heap.size ≤ q) s.heap s.heap [] := va_S.rf
  have hP : va_P (dC, dI) ex_cl [] s.heap := fun k q h => by simp at h
  have hD : va_D (fun q : Nat => s.heap.size ≤ q) [] := ⟨fun i j p q h => by simp at h, fun k q h => by simp at h⟩
  have hl := lv_entry ([.ref b]) (n := 4) (Nat.le_of_ble_eq_true rfl)
  rw [lg_entry_eq]
  generalize (lg_sl ([.ref b]) ++ List.replicate (4 - (lg_sl ([.ref b])).length) Slot.unset).toArray = ls at hl ⊢
  have hl : lv_has ls 4 [(0, .ref b)] := hl
  refine cx_new (ci := 10) (fs := [.null, .null, .null, .null, .null, .null, .null, .null, .null, .int 0, .int 0, .int 0]) (own := "BorderThroughBedLaw") hx hb htb hown (by decide) ls_cl0 ls_n10 ls_z10 hK hP hD hS hA (by decide +kernel) (Nat.le_of_ble_eq_true rfl) (Nat.le_of_ble_eq_true rfl) dl_0 (fun q0 H hP hD hS => ?_)
  refine W.widen (k := 1) (n := 12) (Nat.le_of_ble_eq_true rfl) (Nat.le_of_ble_eq_true rfl) ?_
  refine lv_dup hx hb dl_3 rfl ?_
  refine cx_ctor (As := []) (b := q0) (rest := [.ref q0]) (wc := [(q0, .inr (10, [.null, .null, .null, .null, .null, .null, .null, .null, .null, .int 0, .int 0, .int 0]))]) (wr := []) (isC := [0]) (isR := []) (own := "BorderThroughBedLaw") (nL := 4) (Hm := H) hx hb hml htb hown (c_Main l dC dI cI cB q0 H.size) cw_50 cw_51 cw_52 ls_i0 rfl (by decide +kernel) rfl rfl ⟨(Nat.le_of_ble_eq_true rfl), (Nat.le_of_ble_eq_true rfl)⟩ hK hNw hP hD hS hA rfl rfl (by decide) (by decide) hl.1 (Nat.le_of_ble_eq_true rfl) dl_4 ⟨(Nat.le_of_ble_eq_true rfl), (Nat.le_of_ble_eq_true rfl)⟩ (fun u H locs hP hD hS => ?_)
  refine W.widen (k := 46) (n := 1360) (Nat.le_of_ble_eq_true rfl) (Nat.le_of_ble_eq_true rfl) ?_
  have hP : va_P (dC, dI) ex_cl [(q0, .inr (10, [.ref (u 1), .ref (u 3), .ref (u 4), .ref (u 5), .ref (u 17), .ref (u 20), .ref (u 29), .ref (u 38), .ref (u 41), .int 0, .int 0, .int 0])), ((u 1), .inr (7, [.ref (u 2), .int 0])), ((u 2), .inl (cI, 40, .inl (fun _ => 0))), ((u 3), .inr (2, [.int 0, .int 0, .int 0, .int 0])), ((u 4), .inr (4, [.int 0, .int 0, .int 0, .int 0, .int 0, .int 0, .int 0])), ((u 5), .inr (1, [.ref (u 6), .ref (u 7), .ref (u 8), .ref (u 9), .ref (u 10), .ref (u 11), .ref (u 12), .ref (u 13), .ref (u 14), .ref (u 15), .ref (u 16), .int 0, .int 0, .int 0])), ((u 6), .inl (cI, 24, .inl (fun _ => 0))), ((u 7), .inl (cI, 24, .inl (fun _ => 0))), ((u 8), .inl (cI, 24, .inl (fun _ => 0))), ((u 9), .inl (cI, 4, .inl (fun _ => 0))), ((u 10), .inl (cI, 96, .inl (fun _ => 0))), ((u 11), .inl (cI, 96, .inl (fun _ => 0))), ((u 12), .inl (cI, 96, .inl (fun _ => 0))), ((u 13), .inl (cI, 96, .inl (fun _ => 0))), ((u 14), .inl (cI, 24, .inl (fun _ => 0))), ((u 15), .inl (cI, 24, .inl (fun _ => 0))), ((u 16), .inl (cI, 24, .inl (fun _ => 0))), ((u 17), .inr (5, [.ref (u 18)])), ((u 18), .inr (8, [.ref (u 19), .int 8, .int 0])), ((u 19), .inl (cI, 60, .inl (fun _ => 0))), ((u 20), .inr (0, [.ref (u 21), .ref (u 23), .ref (u 25), .ref (u 27)])), ((u 21), .inr (8, [.ref (u 22), .int 3, .int 0])), ((u 22), .inl (cI, 60, .inl (fun _ => 0))), ((u 23), .inr (8, [.ref (u 24), .int 12, .int 0])), ((u 24), .inl (cI, 60, .inl (fun _ => 0))), ((u 25), .inr (8, [.ref (u 26), .int 6, .int 0])), ((u 26), .inl (cI, 60, .inl (fun _ => 0))), ((u 27), .inr (8, [.ref (u 28), .int 10, .int 0])), ((u 28), .inl (cI, 60, .inl (fun _ => 0))), ((u 29), .inr (0, [.ref (u 30), .ref (u 32), .ref (u 34), .ref (u 36)])), ((u 30), .inr (8, [.ref (u 31), .int 3, .int 0])), ((u 31), .inl (cI, 60, .inl (fun _ => 0))), ((u 32), .inr (8, [.ref (u 33), .int 12, .int 0])), ((u 33), .inl (cI, 60, .inl (fun _ => 0))), ((u 34), .inr (8, [.ref (u 35), .int 6, .int 0])), ((u 35), .inl (cI, 60, .inl (fun _ => 0))), ((u 36), .inr (8, [.ref (u 37), .int 10, .int 0])), ((u 37), .inl (cI, 60, .inl (fun _ => 0))), ((u 38), .inr (3, [.ref (u 39), .ref (u 40), .int 0])), ((u 39), .inl (cI, 6, .inl (fun _ => 0))), ((u 40), .inl (cI, 144, .inl (fun _ => 0))), ((u 41), .inr (6, [.ref (u 42), .ref (u 43), .ref (u 44), .ref (u 45), .int 0, .int 0])), ((u 42), .inl (cI, 3, .inl (fun _ => 0))), ((u 43), .inl (cI, 3, .inl (fun _ => 0))), ((u 44), .inl (cI, 3, .inl (fun _ => 0))), ((u 45), .inl (cI, 5, .inl (fun _ => 0)))] H := hP
  have hD : va_D (fun q : Nat => s.heap.size ≤ q) [(q0, .inr (10, [.ref (u 1), .ref (u 3), .ref (u 4), .ref (u 5), .ref (u 17), .ref (u 20), .ref (u 29), .ref (u 38), .ref (u 41), .int 0, .int 0, .int 0])), ((u 1), .inr (7, [.ref (u 2), .int 0])), ((u 2), .inl (cI, 40, .inl (fun _ => 0))), ((u 3), .inr (2, [.int 0, .int 0, .int 0, .int 0])), ((u 4), .inr (4, [.int 0, .int 0, .int 0, .int 0, .int 0, .int 0, .int 0])), ((u 5), .inr (1, [.ref (u 6), .ref (u 7), .ref (u 8), .ref (u 9), .ref (u 10), .ref (u 11), .ref (u 12), .ref (u 13), .ref (u 14), .ref (u 15), .ref (u 16), .int 0, .int 0, .int 0])), ((u 6), .inl (cI, 24, .inl (fun _ => 0))), ((u 7), .inl (cI, 24, .inl (fun _ => 0))), ((u 8), .inl (cI, 24, .inl (fun _ => 0))), ((u 9), .inl (cI, 4, .inl (fun _ => 0))), ((u 10), .inl (cI, 96, .inl (fun _ => 0))), ((u 11), .inl (cI, 96, .inl (fun _ => 0))), ((u 12), .inl (cI, 96, .inl (fun _ => 0))), ((u 13), .inl (cI, 96, .inl (fun _ => 0))), ((u 14), .inl (cI, 24, .inl (fun _ => 0))), ((u 15), .inl (cI, 24, .inl (fun _ => 0))), ((u 16), .inl (cI, 24, .inl (fun _ => 0))), ((u 17), .inr (5, [.ref (u 18)])), ((u 18), .inr (8, [.ref (u 19), .int 8, .int 0])), ((u 19), .inl (cI, 60, .inl (fun _ => 0))), ((u 20), .inr (0, [.ref (u 21), .ref (u 23), .ref (u 25), .ref (u 27)])), ((u 21), .inr (8, [.ref (u 22), .int 3, .int 0])), ((u 22), .inl (cI, 60, .inl (fun _ => 0))), ((u 23), .inr (8, [.ref (u 24), .int 12, .int 0])), ((u 24), .inl (cI, 60, .inl (fun _ => 0))), ((u 25), .inr (8, [.ref (u 26), .int 6, .int 0])), ((u 26), .inl (cI, 60, .inl (fun _ => 0))), ((u 27), .inr (8, [.ref (u 28), .int 10, .int 0])), ((u 28), .inl (cI, 60, .inl (fun _ => 0))), ((u 29), .inr (0, [.ref (u 30), .ref (u 32), .ref (u 34), .ref (u 36)])), ((u 30), .inr (8, [.ref (u 31), .int 3, .int 0])), ((u 31), .inl (cI, 60, .inl (fun _ => 0))), ((u 32), .inr (8, [.ref (u 33), .int 12, .int 0])), ((u 33), .inl (cI, 60, .inl (fun _ => 0))), ((u 34), .inr (8, [.ref (u 35), .int 6, .int 0])), ((u 35), .inl (cI, 60, .inl (fun _ => 0))), ((u 36), .inr (8, [.ref (u 37), .int 10, .int 0])), ((u 37), .inl (cI, 60, .inl (fun _ => 0))), ((u 38), .inr (3, [.ref (u 39), .ref (u 40), .int 0])), ((u 39), .inl (cI, 6, .inl (fun _ => 0))), ((u 40), .inl (cI, 144, .inl (fun _ => 0))), ((u 41), .inr (6, [.ref (u 42), .ref (u 43), .ref (u 44), .ref (u 45), .int 0, .int 0])), ((u 42), .inl (cI, 3, .inl (fun _ => 0))), ((u 43), .inl (cI, 3, .inl (fun _ => 0))), ((u 44), .inl (cI, 3, .inl (fun _ => 0))), ((u 45), .inl (cI, 5, .inl (fun _ => 0)))] := hD
  refine lv_astore_n (lv' := [(1, .ref q0), (0, .ref b)]) hx hb dl_7 rfl hl (by decide) rfl (fun ls hl => ?_)
  refine cx_new (ci := 11) (fs := [.int 0, .int 0, .int 0, .null, .null, .int 0, .null, .null, .null, .null, .null, .int 0, .null, .int 0, .null, .null, .null, .int 0, .null, .null, .int 0, .null, .null, .int 0, .int 0, .null, .int 0, .int 0, .int 0, .int 0, .int 0, .int 0, .null, .null, .null, .null, .int 0, .int 0, .int 0, .int 0, .int 0, .int 0, .null, .null, .int 0, .int 0, .int 0, .int 0, .int 0, .int 0, .null, .null, .int 0, .int 0, .int 0, .int 0, .int 0, .long 0]) (own := "BorderThroughBedLaw") hx hb htb hown (by decide) ls_cl1 ls_n11 ls_z11 hK hP hD hS hA (by decide +kernel) (Nat.le_of_ble_eq_true rfl) (Nat.le_of_ble_eq_true rfl) dl_8 (fun q1 H hP hD hS => ?_)
  refine W.widen (k := 47) (n := 1418) (Nat.le_of_ble_eq_true rfl) (Nat.le_of_ble_eq_true rfl) ?_
  refine lv_dup hx hb dl_11 rfl ?_
  refine cx_ctor (As := []) (b := q1) (rest := [.ref q1]) (wc := [(q1, .inr (11, [.int 0, .int 0, .int 0, .null, .null, .int 0, .null, .null, .null, .null, .null, .int 0, .null, .int 0, .null, .null, .null, .int 0, .null, .null, .int 0, .null, .null, .int 0, .int 0, .null, .int 0, .int 0, .int 0, .int 0, .int 0, .int 0, .null, .null, .null, .null, .int 0, .int 0, .int 0, .int 0, .int 0, .int 0, .null, .null, .int 0, .int 0, .int 0, .int 0, .int 0, .int 0, .null, .null, .int 0, .int 0, .int 0, .int 0, .int 0, .long 0]))]) (wr := [(q0, .inr (10, [.ref (u 1), .ref (u 3), .ref (u 4), .ref (u 5), .ref (u 17), .ref (u 20), .ref (u 29), .ref (u 38), .ref (u 41), .int 0, .int 0, .int 0])), ((u 1), .inr (7, [.ref (u 2), .int 0])), ((u 2), .inl (cI, 40, .inl (fun _ => 0))), ((u 3), .inr (2, [.int 0, .int 0, .int 0, .int 0])), ((u 4), .inr (4, [.int 0, .int 0, .int 0, .int 0, .int 0, .int 0, .int 0])), ((u 5), .inr (1, [.ref (u 6), .ref (u 7), .ref (u 8), .ref (u 9), .ref (u 10), .ref (u 11), .ref (u 12), .ref (u 13), .ref (u 14), .ref (u 15), .ref (u 16), .int 0, .int 0, .int 0])), ((u 6), .inl (cI, 24, .inl (fun _ => 0))), ((u 7), .inl (cI, 24, .inl (fun _ => 0))), ((u 8), .inl (cI, 24, .inl (fun _ => 0))), ((u 9), .inl (cI, 4, .inl (fun _ => 0))), ((u 10), .inl (cI, 96, .inl (fun _ => 0))), ((u 11), .inl (cI, 96, .inl (fun _ => 0))), ((u 12), .inl (cI, 96, .inl (fun _ => 0))), ((u 13), .inl (cI, 96, .inl (fun _ => 0))), ((u 14), .inl (cI, 24, .inl (fun _ => 0))), ((u 15), .inl (cI, 24, .inl (fun _ => 0))), ((u 16), .inl (cI, 24, .inl (fun _ => 0))), ((u 17), .inr (5, [.ref (u 18)])), ((u 18), .inr (8, [.ref (u 19), .int 8, .int 0])), ((u 19), .inl (cI, 60, .inl (fun _ => 0))), ((u 20), .inr (0, [.ref (u 21), .ref (u 23), .ref (u 25), .ref (u 27)])), ((u 21), .inr (8, [.ref (u 22), .int 3, .int 0])), ((u 22), .inl (cI, 60, .inl (fun _ => 0))), ((u 23), .inr (8, [.ref (u 24), .int 12, .int 0])), ((u 24), .inl (cI, 60, .inl (fun _ => 0))), ((u 25), .inr (8, [.ref (u 26), .int 6, .int 0])), ((u 26), .inl (cI, 60, .inl (fun _ => 0))), ((u 27), .inr (8, [.ref (u 28), .int 10, .int 0])), ((u 28), .inl (cI, 60, .inl (fun _ => 0))), ((u 29), .inr (0, [.ref (u 30), .ref (u 32), .ref (u 34), .ref (u 36)])), ((u 30), .inr (8, [.ref (u 31), .int 3, .int 0])), ((u 31), .inl (cI, 60, .inl (fun _ => 0))), ((u 32), .inr (8, [.ref (u 33), .int 12, .int 0])), ((u 33), .inl (cI, 60, .inl (fun _ => 0))), ((u 34), .inr (8, [.ref (u 35), .int 6, .int 0])), ((u 35), .inl (cI, 60, .inl (fun _ => 0))), ((u 36), .inr (8, [.ref (u 37), .int 10, .int 0])), ((u 37), .inl (cI, 60, .inl (fun _ => 0))), ((u 38), .inr (3, [.ref (u 39), .ref (u 40), .int 0])), ((u 39), .inl (cI, 6, .inl (fun _ => 0))), ((u 40), .inl (cI, 144, .inl (fun _ => 0))), ((u 41), .inr (6, [.ref (u 42), .ref (u 43), .ref (u 44), .ref (u 45), .int 0, .int 0])), ((u 42), .inl (cI, 3, .inl (fun _ => 0))), ((u 43), .inl (cI, 3, .inl (fun _ => 0))), ((u 44), .inl (cI, 3, .inl (fun _ => 0))), ((u 45), .inl (cI, 5, .inl (fun _ => 0)))]) (isC := [46]) (isR := [0, 1, 2, 3, 4, 5, 6, 7, 8, 9, 10, 11, 12, 13, 14, 15, 16, 17, 18, 19, 20, 21, 22, 23, 24, 25, 26, 27, 28, 29, 30, 31, 32, 33, 34, 35, 36, 37, 38, 39, 40, 41, 42, 43, 44, 45]) (own := "BorderThroughBedLaw") (nL := 4) (Hm := H) hx hb hml htb hown (c_Model l dC dI cI cB q1 H.size) cw_46 cw_47 cw_48 ls_i1 rfl (by decide +kernel) rfl rfl ⟨(Nat.le_of_ble_eq_true rfl), (Nat.le_of_ble_eq_true rfl)⟩ hK hNw hP hD hS hA rfl rfl (by decide) (by decide) hl.1 (Nat.le_of_ble_eq_true rfl) dl_12 ⟨(Nat.le_of_ble_eq_true rfl), (Nat.le_of_ble_eq_true rfl)⟩ (fun v H locs hP hD hS => ?_)
  refine W.widen (k := 71) (n := 1804) (Nat.le_of_ble_eq_true rfl) (Nat.le_of_ble_eq_true rfl) ?_
  have hP : va_P (dC, dI) ex_cl (ex_cel (x_ad q0 q1 tD tR u v) cI cB x_w0) H := by rw [x_cel]; exact hP
  have hD : va_D (fun q : Nat => s.heap.size ≤ q) (ex_cel (x_ad q0 q1 tD tR u v) cI cB x_w0) := by rw [x_cel]; exact hD
  refine lv_astore_n (lv' := [(2, .ref q1), (1, .ref q0), (0, .ref b)]) hx hb dl_15 rfl hl (by decide) rfl (fun ls hl => ?_)
  refine lv_iconst (v := 0) hx hb dl_16 (by decide) ?_
  refine lv_istore_n (lv' := [(3, .int 0), (2, .ref q1), (1, .ref q0), (0, .ref b)]) hx hb dl_17 rfl hl (by decide) rfl (fun ls hl => ?_)
  have hIn : ex_In (x_ad q0 q1 tD tR u v) := fun i j hi hj h => hD.1 i j _ _ (ex_cel_at hi) (ex_cel_at hj) h
  have hge : ∀ q, ex_AA (x_ad q0 q1 tD tR u v) s.heap.size q → s.heap.size ≤ q := by
    rintro q (⟨o, ho, rfl⟩ | h)
    · exact hD.2 o _ (ex_cel_at ho)
    · exact h
  have hS : va_S (ex_AA (x_ad q0 q1 tD tR u v) s.heap.size) s.heap H locs := ⟨hS.1, fun q h1 h2 => hS.2.1 q h1 (fun h => h2 (Or.inr h)), fun l hl => Or.inr (hS.2.2 l hl)⟩
  have e0 : x_ad q0 q1 tD tR u v 0 = q0 := rfl
  have e46 : x_ad q0 q1 tD tR u v 46 = q1 := rfl
  have eD : x_ad q0 q1 tD tR u v 1000 = tD := rfl
  have eR : x_ad q0 q1 tD tR u v 1001 = tR := rfl
  have hCx : ex_Cx dC dI (x_ad q0 q1 tD tR u v) cI cB (ex_AA (x_ad q0 q1 tD tR u v) s.heap.size) s s.heap := by
    unfold ex_Cx
    rw [eD, eR]
    exact ⟨hK, hNw, hZD.narrow hge, hTD.narrow hge, hZR.narrow hge, hTR.narrow hge⟩
  have hl : lv_has ls 4 [(0, .ref b), (1, .ref (x_ad q0 q1 tD tR u v 0)), (2, .ref (x_ad q0 q1 tD tR u v 46)), (3, .int (nI 0))] := by
    rw [e0, e46, nI_0]
    exact lv_sub hl [3, 2, 1, 0] rfl
  exact lx_loop ⟨hx, hb, hml, hown, htb, hCx, hIn, hX, hbl, fun h => absurd (hge b h) (Nat.not_le.mpr hbl), hL⟩ hge hr hlocks L 0 (by omega) (Nat.zero_le L) x_A0 x_w0 H locs ls (by decide) x_V x_C x_M hP hS hl
-- ===== YOUR PART ENDS =====
set_option maxHeartbeats 4000000 in
theorem lw_walk (l : Launch) (hflags : l.flags = flags0) (b : Addr) (xs : List Int32) : MetFree l x (headSpec (Jvm.Cond.code x code maxLocals ret :: tables_1) room_1) (lw_P b xs) (fun _ _ _ _ _ => True) lw_Q := by
  refine MetFree.of_bodyS (code := code) (maxLocals := maxLocals) (ret := ret) (by decide) ?_ ?_
  · intro args s m h hn
    obtain ⟨meth, c, h1, h2, h3, h4, h5, h6, -, -⟩ := Cond.code_spec hn (atoms_spec (ws := Jvm.Cond.code x code maxLocals ret :: tables_1) h _ List.mem_cons_self)
    exact ⟨meth, c, h1, h2, h3, h4, h5, h6⟩
  · intro p e s m args below meth c s₁ B hml0 hP _
    obtain ⟨rfl, hx, hbd, hgv⟩ := hP
    obtain ⟨scr, harrAt, hlist, hof, hsmall⟩ := hx
    obtain ⟨hcb, hkn, -, -⟩ := State.arrayAt?_spec harrAt
    have hown : s.vm.findClass R_law = some m.cls := findClass_of_methodNamed B.named
    have hts0 : ∀ c ∈ (Jvm.Cond.code x code maxLocals ret :: tables_1), c.before #[Value.ref b] s = true := atoms_spec (ws := Jvm.Cond.code x code maxLocals ret :: tables_1) B.pre
    have hts : ∀ w ∈ lw_tbl, w.before #[Value.ref b] s = true := k2_hts_sels lw_privs (fun w hw => hts0 w (List.mem_cons_of_mem _ hw)) lw_privs_ok
    have hml : c.maxLocals = 4 := B.maxLocals_eq (hts0 _ List.mem_cons_self)
    have X₀ : Stand p l e room_1 s m #[Value.ref b] below meth c s₁ [] 0 0 := Stand.of_body B
    have hh0 : s₁.heap = s.heap := by rw [B.state]; rfl
    have hsz : scr.slots.size = xs.length := by rw [← Array.length_toList, hlist, List.length_map]
    have hval : ∀ j : Nat, j < xs.length → scr.slots[j]? = some (.int (xs.getD j 0)) := fun j hj => by
      rw [← Array.getElem?_toList, hlist]
      simp [hj]
    have hbl : b < s.heap.size := (Array.getElem?_eq_some_iff.mp hcb).1
    have hX : va_X b xs.length (fun j => xs.getD j 0) s s.heap := ⟨scr, hcb, hof, hkn, hsz, hval⟩
    have K : W p l e room_1 s m #[Value.ref b] below meth c s₁.heap [] 0 0 (lw_Z below #[Value.ref b] s) (entryFrame m ([Value.ref b] : List Value).toArray 4) := by
      rw [hh0]
      exact whole_start l hflags hbd ⟨B.exec, B.bytes, B.returns, hml, hown, hts, hX, hbl, B.notSynchronized, hgv⟩
    obtain ⟨t, a1, o, b1, b2, b3⟩ := K s₁ rfl X₀
    exact ⟨t, o, a1, b1, b2, b3⟩
theorem lw_pre_spec {args : Array Value} {s : State} (h : (Jvm.Cond.and given_1 narrow_1).before args s = true) (hr : rest_1_c.before args s = true) : ∃ (b : Addr) (xs : List Int32), lw_P b xs args s := by
  have hs := flat_of_before _ h
  have hq := flat_of_before _ hr
  have hc : (Cond.count 1).before args s = true := hs _ (by decide +kernel)
  have harr : (Cond.arrayOf (.arg 0) .int).before args s = true := hs _ (by decide +kernel)
  have hle : (Cond.le (.length (.arg 0)) (.int 3072)).before args s = true := hs _ (by decide +kernel)
  have hlen : (Cond.isInt (.length (.arg 0))).before args s = true := hq _ (by decide +kernel)
  have hall : (Cond.all (.arg 0) (.isInt (.elem (.arg 0) (.index 0)))).before args s = true := hq _ (by decide +kernel)
  obtain ⟨b, xs, hb, hx⟩ := State.ints_of_pre rfl harr hlen hall
  have hsm : xs.length < 2 ^ 31 := hx.choose_spec.2.2.2
  have hev : (Term.length (.arg 0)).eval args s none [] s = some (.int xs.length.toInt32) := hx.length_eval hb
  have hv := Cond.le_ints hev (show (Term.int 3072).eval args s none [] s = some (.int 3072) from rfl)
  have hd : xs.length.toInt32 ≤ 3072 := by
    simpa [Cond.before, Cond.holds, hv] using hle
  have hN : xs.length ≤ 3072 := (Int32.ofNat_le_ofNat hsm (by decide)).mp (show Int32.ofNat xs.length ≤ Int32.ofNat 3072 from hd)
  exact ⟨b, xs, Cond.one_arg hc (show args[0]? = some (.ref b) from hb), hx, hN, h⟩
theorem lw_comes (l : Launch) (hflags : l.flags = flags0) : Comes l x (Jvm.Cond.code x code maxLocals ret :: tables_1) room_1 (fun tb e args s => Calls_1 tb e args s ∧ rest_1 tb e args s ∧ Pre_1 tb e args s)
    (fun _ _ args s o t => lw_Q args s o t) := by
  intro p e ha hc hk s m args below hf hfit hheap happ hpre
  obtain ⟨b, xs, hP⟩ := lw_pre_spec hpre.2.2 hpre.2.1
  obtain ⟨k, o, h1, h2, h3, hQ⟩ := lw_walk l hflags b xs p e ha hc hk s m args below hf ((Spec.applies_iff_loose hf).mp happ).1 hP trivial
  exact ⟨k, o, h1, h2, h3, hQ⟩
theorem lw_frame {s t : State} {o : Outcome} {args : Array Value} (h : Framed s o t [] 71 1804) :
    Framed s o t (fieldLocs frame_1_writes args s ++ arrayLocs frame_1_arrays args s ++ staticLocs frame_1_statics s) 71 1804 := h
theorem lw_limb (L : Cond) (hL : ∀ (args : Array Value) (s t : State), L.after args s (.returned (some (.int 1))) t = true) :
    ArmFor flags0 classFile x code maxLocals ret World_1 tables_1 room_1 Calls_1 rest_1 Pre_1
      (fun tb e a s o t => postC L tb e a s o t ∧ Framed s o t (fieldLocs frame_1_writes a s ++ arrayLocs frame_1_arrays a s ++ staticLocs frame_1_statics s) 71 1804) := by
  intro l hflags _ _ p e ha hc hk s m args below hf hfit hheap happ hpre
  obtain ⟨k, o, h1, h2, h3, rfl, hF⟩ := lw_comes l hflags p e ha hc hk s m args below hf hfit hheap happ hpre
  exact ⟨k, _, h1, h2, h3, hL args s _, lw_frame hF⟩
theorem i_vc : Claimed_1_1 ∧ Claimed_1_2 := ⟨lw_limb limb_1_1 (fun args s t => by simp [limb_1_1, Cond.after, Cond.holds, Cond.value]), lw_limb limb_1_2 (fun args s t => Cond.after_iff.mpr (by
  first | (rw [show limb_1_2 = Cond.eq .result (.int 1) from rfl, Cond.eq_ints (x := 1) (y := 1) rfl rfl]; simp; done) | (simp [limb_1_2, Cond.value, Term.eval]; done)))⟩
