/-! the constructors: what a new object and its parts look like -/
def cx_ws (y : MethodName) (b : ByteArray) (n : Nat) : List Jvm.Cond := Jvm.Cond.code y b n none :: ex_tb
theorem cx_good {y : MethodName} {b : ByteArray} {n : Nat} (h : Jvm.Cond.code y b n none ∈ ex_tb) : GoodIn ex_tb (cx_ws y b n) := by
  intro w hw
  have hm : w ∈ ex_tb := by
    rcases List.mem_cons.mp hw with q | q
    · rw [q]; exact h
    · exact q
  exact ⟨hm, good_of_word (ex_tb_good w hm)⟩
def cx_Pre (dC : Nat → ClassId) (dI : Nat → Nat → Nat) (cI cB : ClassId) (sz : Nat) (ws : va_W) (U : State) : Prop :=
  U.heap.size = sz ∧ va_P (dC, dI) ex_cm ws U.heap ∧ va_K (dC, dI) ex_cm [(cI, .int)] U ∧ (∀ x ∈ ex_nw, va_Nw x U) ∧ va_D (fun _ => True) ws
abbrev cx_Post (dC : Nat → ClassId) (dI : Nat → Nat → Nat) (A : Nat → Prop) (f : (Nat → Nat) → va_W) : Array Value → State → Outcome → State → Prop :=
  va_Qv (fun _ : Nat → Nat => True) (fun u t => va_P (dC, dI) ex_cm (f u) t.heap ∧ va_D A (f u)) A
theorem cx_blind {dC : Nat → ClassId} {dI : Nat → Nat → Nat} {cI cB : ClassId} {sz : Nat} {ws : va_W} {vs : List Value} : FrameBlind (va_Pc vs (cx_Pre dC dI cI cB sz ws)) := by
  intro a U g mk h
  obtain ⟨h0, h1, h2, h3, h4, h5⟩ := h
  exact ⟨h0, h1, h2, va_K.moved (u := U) (U := U.calling g mk a) (Vm.Alike.refl U.vm) h3, fun x hx => ex_nw_same (u := U) (U := U.calling g mk a) rfl x hx (h4 x hx), h5⟩
theorem cx_at {ws w : va_W} {is : List Nat} (hs : is.map (fun i => ws[i]?) = w.map some) (k : Nat) (q : Nat × va_E) (hq : w[k]? = some q) : ∃ i, is[k]? = some i ∧ ws[i]? = some q := by
  have h1 : (is.map (fun i => ws[i]?))[k]? = some (some q) := by rw [hs, List.getElem?_map, hq]; rfl
  rw [List.getElem?_map] at h1
  cases hi : is[k]? with
  | none => rw [hi] at h1; cases h1
  | some i => rw [hi] at h1; exact ⟨i, rfl, Option.some.inj h1⟩
theorem cx_nd1 {a b : List Nat} (h : va_nd (a ++ b) = true) : va_nd a = true := by
  induction a with
  | nil => rfl
  | cons x a ih =>
    have h : (decide (x ∉ a ++ b) && va_nd (a ++ b)) = true := h
    rw [Bool.and_eq_true] at h
    show (decide (x ∉ a) && va_nd a) = true
    rw [Bool.and_eq_true]
    exact ⟨decide_eq_true (fun q => of_decide_eq_true h.1 (List.mem_append_left _ q)), ih h.2⟩
theorem cx_nd2 {a b : List Nat} (h : va_nd (a ++ b) = true) : va_nd b = true := by
  induction a with
  | nil => exact h
  | cons x a ih =>
    have h : (decide (x ∉ a ++ b) && va_nd (a ++ b)) = true := h
    rw [Bool.and_eq_true] at h
    exact ih h.2
theorem cw_int : (Jvm.Cond.arrayClass .int) ∈ ex_tb := ex_in (i := 59) (by decide +kernel) (by decide +kernel)
section CX
variable {p : Program} {l : Launch} {e : Env} {R : Room} {s : State} {m : MethodId} {args : Array Value} {below : List Frame} {meth : Method} {c : Code} {Hm : Heap} {locs : List Loc} {cells slots : Nat} {Q : State → Prop} {dC : Nat → ClassId} {dI : Nat → Nat → Nat} {cI cB : ClassId} {pc : Nat} {ls : Array Slot} {rest st0 : List Value} {a : Array Value} {A0 : Nat → Prop} {mc ms : Nat} {ws wc wr : va_W} {f : (Nat → Nat) → va_W} {isC isR : List Nat}
theorem cx_go (hr : va_Run p l e R s m args below meth c Hm locs cells slots mc ms (F0 m pc ls st0) rest (cx_Post dC dI (va_A wc Hm.size) f a) (va_A wc Hm.size))
    (hS : va_S A0 s.heap Hm locs) (hA : ∀ q, s.heap.size ≤ q → A0 q) (hP : va_P (dC, dI) ex_cm ws Hm) (hD : va_D A0 ws)
    (hC : isC.map (fun i => ws[i]?) = wc.map some) (hRr : isR.map (fun i => ws[i]?) = wr.map some) (hn : va_nd isR = true) (hdis : ∀ i ∈ isR, i ∉ isC)
    (kk : ∀ (u : Nat → Nat) (H1 : Heap) (locs1 : List Loc), va_P (dC, dI) ex_cm (wr ++ f u) H1 → va_D A0 (wr ++ f u) → va_S A0 s.heap H1 locs1 → W p l e R s m args below meth c H1 locs1 (cells + mc) (slots + ms) Q (F0 m (pc + 3) ls rest)) :
    W p l e R s m args below meth c Hm locs cells slots Q (F0 m pc ls st0) := by
  have hF := va_free hD hS hA isC hC
  refine va_callv hr hS (fun q _ h => hF q h) hF (fun u t H1 locs1 ht hvm hw hB hz hk hS1 => ?_)
  obtain ⟨hP1, hD1⟩ := hB
  rw [ht] at hP1
  obtain ⟨hP2, hD2⟩ := va_join hP hD isC isR hC hRr hn hdis hk hF hP1 hD1
  exact kk u H1 locs1 hP2 hD2 hS1
variable {maxL nL index : Nat} {y : MethodName} {bytes cc : ByteArray} {rm : Room} {own : String} {b : Nat} {As : List Value}
theorem cx_ctorN (hx : p.tables.exec = Jvm.exec) (hb : c.code = cc) (hml : c.maxLocals = nL) (hts : ∀ w ∈ ex_tb, w.before args s = true) (hown : s.vm.findClass own = some m.cls)
    (hM : Met l y (cx_ws y bytes maxL) rm (va_Pc (.ref b :: As) (cx_Pre dC dI cI cB Hm.size wc)) (cx_Post dC dI (va_A wc Hm.size) f) mc ms (va_A wc Hm.size))
    (hcode : Jvm.Cond.code y bytes maxL none ∈ ex_tb) (hini : Jvm.Cond.initialized y.cls ∈ ex_tb) (hinst : Jvm.Cond.instanceMethod y ∈ ex_tb) (hnest : Jvm.Cond.methodLinkNest own index y "BorderThroughBed" ∈ ex_nw) (hy1 : y.name = "<init>")
    (hd : y.cls ≠ "java/lang/invoke/MethodHandle" ∧ y.cls ≠ "java/lang/invoke/VarHandle" ∧ (parseMethodDescriptor y.desc).map (fun d => d.parameters.length) = some As.length)
    (hrc : rm.cells = mc) (hrs : rm.slots = ms) (hR : rm.frames + 1 ≤ R.frames ∧ 8 + (maxL + 11) + rm.locals ≤ R.locals)
    (hK : va_K (dC, dI) ex_cm [(cI, .int)] s) (hN : ∀ x ∈ ex_nw, va_Nw x s) (hP : va_P (dC, dI) ex_cm ws Hm) (hD : va_D A0 ws) (hS : va_S A0 s.heap Hm locs) (hA : ∀ q, s.heap.size ≤ q → A0 q)
    (hC : isC.map (fun i => ws[i]?) = wc.map some) (hRr : isR.map (fun i => ws[i]?) = wr.map some) (hn : va_nd (isR ++ isC) = true) (hdis : ∀ i ∈ isR, i ∉ isC)
    (hsize : ls.size = nL) (hroom : (rest.map fun v => v.category).sum ≤ 8) (hdg : decode cc pc = .ok (.invokespecial index, 3)) (hf : cells + mc ≤ R.cells ∧ slots + ms ≤ R.slots)
    (kk : ∀ (u : Nat → Nat) (H1 : Heap) (locs1 : List Loc), va_P (dC, dI) ex_cm (wr ++ f u) H1 → va_D A0 (wr ++ f u) → va_S A0 s.heap H1 locs1 → W p l e R s m args below meth c H1 locs1 (cells + mc) (slots + ms) Q (F0 m (pc + 3) ls rest)) :
    W p l e R s m args below meth c Hm locs cells slots Q (F0 m pc ls (As.reverse ++ .ref b :: rest)) := by
  have hPc : va_P (dC, dI) ex_cm wc Hm := fun k q hq => by
    obtain ⟨i, -, h2⟩ := cx_at hC k q hq
    exact hP i q h2
  have hDc := hD.sub isC (cx_nd2 hn) hC
  exact cx_go (va_runIN (As := As) (rest := rest) ⟨hx, hb, hml, hown, hts⟩ hM ⟨va_cnB As.length hts (cx_good hcode) rfl hrc hrs (hN _ hnest) (hts _ hini) hd hR, hy1, hts _ hinst⟩ ⟨cx_blind, fun U hU hW => ⟨rfl, by rw [hU], by rw [hU]; exact hPc, va_K.moved hW.alike hK, fun x hx => ex_nw_warm hW x hx (hN x hx), hDc.weaken (fun _ _ _ _ => trivial)⟩⟩ rfl rfl hsize rfl (lv_room hroom) hdg hf) hS hA hP hD hC hRr (cx_nd1 hn) hdis kk
theorem cx_ctor (hx : p.tables.exec = Jvm.exec) (hb : c.code = cc) (hml : c.maxLocals = nL) (hts : ∀ w ∈ ex_tb, w.before args s = true) (hown : s.vm.findClass own = some m.cls)
    (hM : Met l y (cx_ws y bytes maxL) rm (va_Pc (.ref b :: As) (cx_Pre dC dI cI cB Hm.size wc)) (cx_Post dC dI (va_A wc Hm.size) f) mc ms (va_A wc Hm.size))
    (hcode : Jvm.Cond.code y bytes maxL none ∈ ex_tb) (hini : Jvm.Cond.initialized y.cls ∈ ex_tb) (hinst : Jvm.Cond.instanceMethod y ∈ ex_tb) (hlink : Jvm.Cond.methodLink own index y ∈ ex_tb) (hy1 : y.name = "<init>")
    (hd : y.cls ≠ "java/lang/invoke/MethodHandle" ∧ y.cls ≠ "java/lang/invoke/VarHandle" ∧ (parseMethodDescriptor y.desc).map (fun d => d.parameters.length) = some As.length)
    (hrc : rm.cells = mc) (hrs : rm.slots = ms) (hR : rm.frames + 1 ≤ R.frames ∧ 8 + (maxL + 11) + rm.locals ≤ R.locals)
    (hK : va_K (dC, dI) ex_cm [(cI, .int)] s) (hN : ∀ x ∈ ex_nw, va_Nw x s) (hP : va_P (dC, dI) ex_cm ws Hm) (hD : va_D A0 ws) (hS : va_S A0 s.heap Hm locs) (hA : ∀ q, s.heap.size ≤ q → A0 q)
    (hC : isC.map (fun i => ws[i]?) = wc.map some) (hRr : isR.map (fun i => ws[i]?) = wr.map some) (hn : va_nd (isR ++ isC) = true) (hdis : ∀ i ∈ isR, i ∉ isC)
    (hsize : ls.size = nL) (hroom : (rest.map fun v => v.category).sum ≤ 8) (hdg : decode cc pc = .ok (.invokespecial index, 3)) (hf : cells + mc ≤ R.cells ∧ slots + ms ≤ R.slots)
    (kk : ∀ (u : Nat → Nat) (H1 : Heap) (locs1 : List Loc), va_P (dC, dI) ex_cm (wr ++ f u) H1 → va_D A0 (wr ++ f u) → va_S A0 s.heap H1 locs1 → W p l e R s m args below meth c H1 locs1 (cells + mc) (slots + ms) Q (F0 m (pc + 3) ls rest)) :
    W p l e R s m args below meth c Hm locs cells slots Q (F0 m pc ls (As.reverse ++ .ref b :: rest)) := by
  have hPc : va_P (dC, dI) ex_cm wc Hm := fun k q hq => by
    obtain ⟨i, -, h2⟩ := cx_at hC k q hq
    exact hP i q h2
  have hDc := hD.sub isC (cx_nd2 hn) hC
  exact cx_go (va_runI (As := As) (rest := rest) ⟨hx, hb, hml, hown, hts⟩ hM (cwI As.length hts (cx_good hcode) rfl hrc hrs (hts _ hini) (hts _ hlink) (hts _ hinst) hy1 hd hR) ⟨cx_blind, fun U hU hW => ⟨rfl, by rw [hU], by rw [hU]; exact hPc, va_K.moved hW.alike hK, fun x hx => ex_nw_warm hW x hx (hN x hx), hDc.weaken (fun _ _ _ _ => trivial)⟩⟩ rfl rfl hsize rfl (lv_room hroom) hdg hf) hS hA hP hD hC hRr (cx_nd1 hn) hdis kk
variable {ci k : Nat} {fs : List Value} {H0 : Heap} {v : Value}
theorem cx_new (hx : p.tables.exec = Jvm.exec) (hb : c.code = cc) (hts : ∀ w ∈ ex_tb, w.before args s = true) (hown : s.vm.findClass own = some m.cls) (hc : ci < 11)
    (hcl : Jvm.Cond.classLink own index (ex_Rn ci) ∈ ex_tb) (hinst : Jvm.Cond.instantiable (ex_Rn ci) (ex_N ci) ∈ ex_tb) (hini : Jvm.Cond.initialized (ex_Rn ci) ∈ ex_tb)
    (hK : va_K (dC, dI) ex_cm [(cI, .int)] s) (hP : va_P (dC, dI) ex_cm ws Hm) (hD : va_D A0 ws) (hS : va_S A0 H0 Hm locs) (hA : ∀ q, H0.size ≤ q → A0 q)
    (hfs : ∀ j, j < ex_N ci → defaultValue (ex_ty ci j) = vp_V fs j) (hcells : cells + 1 ≤ R.cells) (hslots : slots + ex_N ci ≤ R.slots) (hdg : decode cc pc = .ok (.new index, 3))
    (kk : ∀ (q : Nat) (H1 : Heap), va_P (dC, dI) ex_cm (ws ++ [(q, .inr (ci, fs))]) H1 → va_D A0 (ws ++ [(q, .inr (ci, fs))]) → va_S A0 H0 H1 locs → W p l e R s m args below meth c H1 locs (cells + 1) (slots + ex_N ci) Q (F0 m (pc + 3) ls (.ref q :: rest))) :
    W p l e R s m args below meth c Hm locs cells slots Q (F0 m pc ls rest) :=
  va_new (ci := ci) (C := ex_Rn ci) (T := ex_T ci) (N := ex_N ci) hx hb hts (ku_all (Nat.lt_succ_of_lt hc)) (ex_ty ci) (kp_all (Nat.lt_succ_of_lt hc)) hown (hts _ hcl) (hts _ hinst) (hts _ hini) hK hP hD hS hA (ex_cl_at hc) hfs hcells hslots hdg kk
theorem cx_newi {n : Int32} {N : Nat} (hx : p.tables.exec = Jvm.exec) (hb : c.code = cc) (hts : ∀ w ∈ ex_tb, w.before args s = true)
    (hK : va_K (dC, dI) ex_cm [(cI, .int)] s) (hP : va_P (dC, dI) ex_cm ws Hm) (hD : va_D A0 ws) (hS : va_S A0 H0 Hm locs) (hA : ∀ q, H0.size ≤ q → A0 q)
    (hn : ¬ n < 0) (hN : n.toNatClampNeg = N) (hbytes : N * componentBytes FieldType.int ≤ 536870912) (hcells : cells + 1 ≤ R.cells) (hslots : slots + N ≤ R.slots) (hdg : decode cc pc = .ok (.newarray .int, 2))
    (kk : ∀ (q : Nat) (H1 : Heap), va_P (dC, dI) ex_cm (ws ++ [(q, .inl (cI, N, .inl (fun _ => 0)))]) H1 → va_D A0 (ws ++ [(q, .inl (cI, N, .inl (fun _ => 0)))]) → va_S A0 H0 H1 locs → W p l e R s m args below meth c H1 locs (cells + 1) (slots + N) Q (F0 m (pc + 2) ls (.ref q :: rest))) :
    W p l e R s m args below meth c Hm locs cells slots Q (F0 m pc ls (.int n :: rest)) := by
  refine va_newa (atype := .int) (ty := .int) (a0 := (N, .inl (fun _ => 0))) hx hb (hts _ cw_int) rfl hK hP hD hS hA (fun _ => rfl) hn hN hbytes hcells hslots hdg (fun q cA H1 hK2 hP1 hD1 hS1 => ?_)
  have h1 : s.vm.findClass _ = some cA := (hK2.2 1 (cA, .int) rfl).2
  have h2 : s.vm.findClass _ = some cI := (hK.2 0 (cI, .int) rfl).2
  have h3 : cA = cI := Option.some.inj (h1.symm.trans h2)
  subst h3
  exact kk q H1 hP1 hD1 hS1
theorem cx_putF {a : Nat} (hx : p.tables.exec = Jvm.exec) (hb : c.code = cc) (hts : ∀ w ∈ ex_tb, w.before args s = true) (hown : s.vm.findClass (ex_Rn ci) = some m.cls) (hc : ci < 11)
    (hlink : Jvm.Cond.fieldLink (ex_Rn ci) index (ex_Rn ci) (ex_T ci k).2.1 (ex_T ci k).2.2.1 ∈ ex_tb)
    (hK : va_K (dC, dI) ex_cm [(cI, .int)] s) (hP : va_P (dC, dI) ex_cm ws Hm) (hD : va_D A0 ws) (hS : va_S A0 H0 Hm locs) (q0 : Nat) (he : ws[q0]? = some (a, .inr (ci, fs))) (hk : k < ex_N ci) (hfin : (ex_T ci k).2.2.2 = true) (hin : meth.name = "<init>")
    (hn : narrow (ex_ty ci k) v = v) (hfit : fits (ex_ty ci k) v = true) (hl : k < fs.length) (hdg : decode cc pc = .ok (.putfield index, 3))
    (kk : ∀ (H1 : Heap) (locs1 : List Loc), va_P (dC, dI) ex_cm (ws.set q0 (a, .inr (ci, fs.set k v))) H1 → va_D A0 (ws.set q0 (a, .inr (ci, fs.set k v))) → va_S A0 H0 H1 locs1 → W p l e R s m args below meth c H1 locs1 cells slots Q (F0 m (pc + 3) ls rest)) :
    W p l e R s m args below meth c Hm locs cells slots Q (F0 m pc ls (v :: .ref a :: rest)) :=
  va_putF (own := ex_Rn ci) (ref := ex_Rn ci) (C := ex_Rn ci) (T := ex_T ci) (N := ex_N ci) (Ts := ex_tb) hx hb hts (ku_all (Nat.lt_succ_of_lt hc)) (ex_ty ci) (kp_all (Nat.lt_succ_of_lt hc)) (kn_all (Nat.lt_succ_of_lt hc)) hown hK hP hD hS q0 he (ex_cl_at hc) k hk (hts _ hlink) (by rw [ex_decl _ (Nat.lt_succ_of_lt hc) _ hk]; exact fun _ h9 => h9) hfin hin (ex_decl _ (Nat.lt_succ_of_lt hc) _ hk) (kp_all (Nat.lt_succ_of_lt hc) _ hk) hn hfit hl hdg kk
theorem cx_put {a : Nat} (hx : p.tables.exec = Jvm.exec) (hb : c.code = cc) (hts : ∀ w ∈ ex_tb, w.before args s = true) (hown : s.vm.findClass (ex_Rn ci) = some m.cls) (hc : ci < 11)
    (hlink : Jvm.Cond.fieldLink (ex_Rn ci) index (ex_Rn ci) (ex_T ci k).2.1 (ex_T ci k).2.2.1 ∈ ex_tb)
    (hK : va_K (dC, dI) ex_cm [(cI, .int)] s) (hP : va_P (dC, dI) ex_cm ws Hm) (hD : va_D A0 ws) (hS : va_S A0 H0 Hm locs) (q0 : Nat) (he : ws[q0]? = some (a, .inr (ci, fs))) (hk : k < ex_N ci) (hfin : (ex_T ci k).2.2.2 = false)
    (hn : narrow (ex_ty ci k) v = v) (hfit : fits (ex_ty ci k) v = true) (hl : k < fs.length) (hdg : decode cc pc = .ok (.putfield index, 3))
    (kk : ∀ (H1 : Heap) (locs1 : List Loc), va_P (dC, dI) ex_cm (ws.set q0 (a, .inr (ci, fs.set k v))) H1 → va_D A0 (ws.set q0 (a, .inr (ci, fs.set k v))) → va_S A0 H0 H1 locs1 → W p l e R s m args below meth c H1 locs1 cells slots Q (F0 m (pc + 3) ls rest)) :
    W p l e R s m args below meth c Hm locs cells slots Q (F0 m pc ls (v :: .ref a :: rest)) :=
  va_put (own := ex_Rn ci) (ref := ex_Rn ci) (C := ex_Rn ci) (T := ex_T ci) (N := ex_N ci) (Ts := ex_tb) hx hb hts (ku_all (Nat.lt_succ_of_lt hc)) (ex_ty ci) (kp_all (Nat.lt_succ_of_lt hc)) (kn_all (Nat.lt_succ_of_lt hc)) hown hK hP hD hS q0 he (ex_cl_at hc) k hk (hts _ hlink) (by rw [ex_decl _ (Nat.lt_succ_of_lt hc) _ hk]; exact fun _ h9 => h9) hfin (kp_all (Nat.lt_succ_of_lt hc) _ hk) hn hfit hl hdg kk
end CX

def cy_Text : MethodName := ⟨"BorderThroughBed$Text", "<init>", "()V"⟩
abbrev cb_Text : ByteArray := prog_11_method_1_code
theorem cd_Text_0 : decode cb_Text 0 = .ok (.aload_n 0, 1) := by decide +kernel
theorem cd_Text_1 : decode cb_Text 1 = .ok (.invokespecial 1, 3) := by decide +kernel
theorem cd_Text_4 : decode cb_Text 4 = .ok (.return_, 1) := by decide +kernel
theorem cw_1 : (Jvm.Cond.code cy_Text cb_Text 1 none) ∈ ex_tb := ex_in (i := 67) (by decide +kernel) (by decide +kernel)
theorem cw_2 : (Jvm.Cond.instanceMethod cy_Text) ∈ ex_tb := ex_in (i := 66) (by decide +kernel) (by decide +kernel)
theorem cw_3 : (Jvm.Cond.methodLink "BorderThroughBed$Text" 1 Lib.objectInit) ∈ ex_tb := ex_in (i := 68) (by decide +kernel) (by decide +kernel)
theorem cw_4 : (Jvm.Cond.instanceMethod Lib.objectInit) ∈ ex_tb := ex_in (i := 44) (by decide +kernel) (by decide +kernel)
theorem cw_5 : (Jvm.Cond.code Lib.objectInit ⟨#[0xb1]⟩ 1 none) ∈ ex_tb := ex_in (i := 45) (by decide +kernel) (by decide +kernel)
theorem cw_6 : (Jvm.Cond.initialized "BorderThroughBed$Text") ∈ ex_tb := ex_in (i := 29) (by decide +kernel) (by decide +kernel)
set_option maxHeartbeats 4000000 in
set_option maxRecDepth 100000 in
theorem c_Text (l : Launch) (dC : Nat → ClassId) (dI : Nat → Nat → Nat) (cI cB : ClassId) (h0 sz : Nat) (ci : Nat) (fs : List Value) : Met l cy_Text (cx_ws cy_Text cb_Text 1) { frames := 1, cells := 0, slots := 0, locals := 12 } (va_Pc [.ref h0] (cx_Pre dC dI cI cB sz [(h0, .inr (ci, fs))])) (cx_Post dC dI (va_A [(h0, .inr (ci, fs))] sz) (fun u => [(h0, .inr (ci, fs))])) 0 0 (va_A [(h0, .inr (ci, fs))] sz) := by
  refine Met.ofW (cc := cb_Text) (maxL := 1) (ret := none) (by decide) rfl ?_
  intro p e s m args below meth c s₁ B hml hv
  obtain ⟨rfl, hsz, hP, hK, hN, hD0⟩ := hv
  have hx := B.exec
  have hb := B.bytes
  have hr := B.returns
  have hts0 := atoms_spec (ws := cx_ws cy_Text cb_Text 1) B.pre
  have hts : ∀ w ∈ ex_tb, w.before _ s = true := fun w h => hts0 w (List.mem_cons_of_mem _ h)
  have hown : s.vm.findClass "BorderThroughBed$Text" = some m.cls := findClass_of_methodNamed B.named
  have hlocks := B.notSynchronized
  have hin : meth.name = "<init>" := (name_of_methodNamed B.named B.method).1
  subst hsz
  have hD := hD0.self (sz := s.heap.size)
  generalize hAe : va_A [(h0, .inr (ci, fs))] s.heap.size = A at hD ⊢
  have hA : ∀ q : Nat, s.heap.size ≤ q → A q := fun q h => by rw [← hAe]; exact Or.inr h
  have hS : va_S A s.heap s.heap [] := va_S.rf
  have hl := lv_entry ([.ref h0]) (n := 1) (Nat.le_of_ble_eq_true rfl)
  rw [lg_entry_eq]
  generalize (lg_sl ([.ref h0]) ++ List.replicate (1 - (lg_sl ([.ref h0])).length) Slot.unset).toArray = ls at hl ⊢
  have hl : lv_has ls 1 [(0, .ref h0)] := hl
  refine lv_aload_n hx hb cd_Text_0 rfl (lv_at hl 0 rfl) ?_
  refine W.objInit (own := "BorderThroughBed$Text") hx hb hown (hts _ cw_3) (hts _ cw_4) (hts _ cw_5) rfl (by rw [hml]; exact hl.1) rfl cd_Text_1 (Nat.le_of_ble_eq_true rfl) (Nat.le_of_ble_eq_true rfl) ?_
  refine W.eq (g2 := F0 m 4 ls []) rfl ?_
  refine W.widen (k := 0) (n := 0) (Nat.le_of_ble_eq_true rfl) (Nat.le_of_ble_eq_true rfl) ?_
  exact W.vret hx hb hr (fun t ht hW => ⟨⟨fun k => ([h0] : List Nat).getD k 0, rfl, trivial, by rw [ht]; exact hP, hD⟩, hS.F ht⟩) hS.2.2 cd_Text_4
def cy_HouseText : MethodName := ⟨"BorderThroughBed$HouseText", "<init>", "()V"⟩
abbrev cb_HouseText : ByteArray := prog_4_method_1_code
theorem cd_HouseText_0 : decode cb_HouseText 0 = .ok (.aload_n 0, 1) := by decide +kernel
theorem cd_HouseText_1 : decode cb_HouseText 1 = .ok (.invokespecial 3, 3) := by decide +kernel
theorem cd_HouseText_4 : decode cb_HouseText 4 = .ok (.return_, 1) := by decide +kernel
theorem cw_7 : (Jvm.Cond.code cy_HouseText cb_HouseText 1 none) ∈ ex_tb := ex_in (i := 64) (by decide +kernel) (by decide +kernel)
theorem cw_8 : (Jvm.Cond.initialized "BorderThroughBed$HouseText") ∈ ex_tb := ex_in (i := 30) (by decide +kernel) (by decide +kernel)
theorem cw_9 : (Jvm.Cond.instanceMethod cy_HouseText) ∈ ex_tb := ex_in (i := 63) (by decide +kernel) (by decide +kernel)
set_option maxHeartbeats 4000000 in
set_option maxRecDepth 100000 in
theorem c_HouseText (l : Launch) (dC : Nat → ClassId) (dI : Nat → Nat → Nat) (cI cB : ClassId) (h0 sz : Nat) : Met l cy_HouseText (cx_ws cy_HouseText cb_HouseText 1) { frames := 2, cells := 0, slots := 0, locals := 32 } (va_Pc [.ref h0] (cx_Pre dC dI cI cB sz [(h0, .inr (2, [.int 0, .int 0, .int 0, .int 0]))])) (cx_Post dC dI (va_A [(h0, .inr (2, [.int 0, .int 0, .int 0, .int 0]))] sz) (fun u => [(h0, .inr (2, [.int 0, .int 0, .int 0, .int 0]))])) 0 0 (va_A [(h0, .inr (2, [.int 0, .int 0, .int 0, .int 0]))] sz) := by
  refine Met.ofW (cc := cb_HouseText) (maxL := 1) (ret := none) (by decide) rfl ?_
  intro p e s m args below meth c s₁ B hml hv
  obtain ⟨rfl, hsz, hP, hK, hN, hD0⟩ := hv
  have hx := B.exec
  have hb := B.bytes
  have hr := B.returns
  have hts0 := atoms_spec (ws := cx_ws cy_HouseText cb_HouseText 1) B.pre
  have hts : ∀ w ∈ ex_tb, w.before _ s = true := fun w h => hts0 w (List.mem_cons_of_mem _ h)
  have hown : s.vm.findClass "BorderThroughBed$HouseText" = some m.cls := findClass_of_methodNamed B.named
  have hlocks := B.notSynchronized
  have hin : meth.name = "<init>" := (name_of_methodNamed B.named B.method).1
  subst hsz
  have hD := hD0.self (sz := s.heap.size)
  generalize hAe : va_A [(h0, .inr (2, [.int 0, .int 0, .int 0, .int 0]))] s.heap.size = A at hD ⊢
  have hA : ∀ q : Nat, s.heap.size ≤ q → A q := fun q h => by rw [← hAe]; exact Or.inr h
  have hS : va_S A s.heap s.heap [] := va_S.rf
  have hl := lv_entry ([.ref h0]) (n := 1) (Nat.le_of_ble_eq_true rfl)
  rw [lg_entry_eq]
  generalize (lg_sl ([.ref h0]) ++ List.replicate (1 - (lg_sl ([.ref h0])).length) Slot.unset).toArray = ls at hl ⊢
  have hl : lv_has ls 1 [(0, .ref h0)] := hl
  refine lv_aload_n hx hb cd_HouseText_0 rfl (lv_at hl 0 rfl) ?_
  refine cx_ctorN (As := []) (b := h0) (rest := []) (wc := [(h0, .inr (2, [.int 0, .int 0, .int 0, .int 0]))]) (wr := []) (isC := [0]) (isR := []) (own := "BorderThroughBed$HouseText") (nL := 1) (Hm := s.heap) hx hb hml hts hown (c_Text l dC dI cI cB h0 s.heap.size 2 [.int 0, .int 0, .int 0, .int 0]) cw_1 cw_6 cw_2 (List.mem_of_getElem? (i := 2) (by decide +kernel)) rfl (by decide +kernel) rfl rfl ⟨Nat.le_of_ble_eq_true rfl, Nat.le_of_ble_eq_true rfl⟩ hK hN hP hD hS hA rfl rfl (by decide) (by decide) hl.1 (Nat.le_of_ble_eq_true rfl) cd_HouseText_1 ⟨Nat.le_of_ble_eq_true rfl, Nat.le_of_ble_eq_true rfl⟩ (fun u0 H locs hP hD hS => ?_)
  refine W.widen (k := 0) (n := 0) (Nat.le_of_ble_eq_true rfl) (Nat.le_of_ble_eq_true rfl) ?_
  have hP : va_P (dC, dI) ex_cm [(h0, .inr (2, [.int 0, .int 0, .int 0, .int 0]))] H := hP
  have hD : va_D A [(h0, .inr (2, [.int 0, .int 0, .int 0, .int 0]))] := hD
  refine W.widen (k := 0) (n := 0) (Nat.le_of_ble_eq_true rfl) (Nat.le_of_ble_eq_true rfl) ?_
  exact W.vret hx hb hr (fun t ht hW => ⟨⟨fun k => ([h0] : List Nat).getD k 0, rfl, trivial, by rw [ht]; exact hP, hD⟩, hS.F ht⟩) hS.2.2 cd_HouseText_4
def cy_LawText : MethodName := ⟨"BorderThroughBed$LawText", "<init>", "()V"⟩
abbrev cb_LawText : ByteArray := prog_6_method_1_code
theorem cd_LawText_0 : decode cb_LawText 0 = .ok (.aload_n 0, 1) := by decide +kernel
theorem cd_LawText_1 : decode cb_LawText 1 = .ok (.invokespecial 3, 3) := by decide +kernel
theorem cd_LawText_4 : decode cb_LawText 4 = .ok (.return_, 1) := by decide +kernel
theorem cw_10 : (Jvm.Cond.code cy_LawText cb_LawText 1 none) ∈ ex_tb := ex_in (i := 86) (by decide +kernel) (by decide +kernel)
theorem cw_11 : (Jvm.Cond.initialized "BorderThroughBed$LawText") ∈ ex_tb := ex_in (i := 31) (by decide +kernel) (by decide +kernel)
theorem cw_12 : (Jvm.Cond.instanceMethod cy_LawText) ∈ ex_tb := ex_in (i := 85) (by decide +kernel) (by decide +kernel)
set_option maxHeartbeats 4000000 in
set_option maxRecDepth 100000 in
theorem c_LawText (l : Launch) (dC : Nat → ClassId) (dI : Nat → Nat → Nat) (cI cB : ClassId) (h0 sz : Nat) : Met l cy_LawText (cx_ws cy_LawText cb_LawText 1) { frames := 2, cells := 0, slots := 0, locals := 32 } (va_Pc [.ref h0] (cx_Pre dC dI cI cB sz [(h0, .inr (4, [.int 0, .int 0, .int 0, .int 0, .int 0, .int 0, .int 0]))])) (cx_Post dC dI (va_A [(h0, .inr (4, [.int 0, .int 0, .int 0, .int 0, .int 0, .int 0, .int 0]))] sz) (fun u => [(h0, .inr (4, [.int 0, .int 0, .int 0, .int 0, .int 0, .int 0, .int 0]))])) 0 0 (va_A [(h0, .inr (4, [.int 0, .int 0, .int 0, .int 0, .int 0, .int 0, .int 0]))] sz) := by
  refine Met.ofW (cc := cb_LawText) (maxL := 1) (ret := none) (by decide) rfl ?_
  intro p e s m args below meth c s₁ B hml hv
  obtain ⟨rfl, hsz, hP, hK, hN, hD0⟩ := hv
  have hx := B.exec
  have hb := B.bytes
  have hr := B.returns
  have hts0 := atoms_spec (ws := cx_ws cy_LawText cb_LawText 1) B.pre
  have hts : ∀ w ∈ ex_tb, w.before _ s = true := fun w h => hts0 w (List.mem_cons_of_mem _ h)
  have hown : s.vm.findClass "BorderThroughBed$LawText" = some m.cls := findClass_of_methodNamed B.named
  have hlocks := B.notSynchronized
  have hin : meth.name = "<init>" := (name_of_methodNamed B.named B.method).1
  subst hsz
  have hD := hD0.self (sz := s.heap.size)
  generalize hAe : va_A [(h0, .inr (4, [.int 0, .int 0, .int 0, .int 0, .int 0, .int 0, .int 0]))] s.heap.size = A at hD ⊢
  have hA : ∀ q : Nat, s.heap.size ≤ q → A q := fun q h => by rw [← hAe]; exact Or.inr h
  have hS : va_S A s.heap s.heap [] := va_S.rf
  have hl := lv_entry ([.ref h0]) (n := 1) (Nat.le_of_ble_eq_true rfl)
  rw [lg_entry_eq]
  generalize (lg_sl ([.ref h0]) ++ List.replicate (1 - (lg_sl ([.ref h0])).length) Slot.unset).toArray = ls at hl ⊢
  have hl : lv_has ls 1 [(0, .ref h0)] := hl
  refine lv_aload_n hx hb cd_LawText_0 rfl (lv_at hl 0 rfl) ?_
  refine cx_ctorN (As := []) (b := h0) (rest := []) (wc := [(h0, .inr (4, [.int 0, .int 0, .int 0, .int 0, .int 0, .int 0, .int 0]))]) (wr := []) (isC := [0]) (isR := []) (own := "BorderThroughBed$LawText") (nL := 1) (Hm := s.heap) hx hb hml hts hown (c_Text l dC dI cI cB h0 s.heap.size 4 [.int 0, .int 0, .int 0, .int 0, .int 0, .int 0, .int 0]) cw_1 cw_6 cw_2 (List.mem_of_getElem? (i := 4) (by decide +kernel)) rfl (by decide +kernel) rfl rfl ⟨Nat.le_of_ble_eq_true rfl, Nat.le_of_ble_eq_true rfl⟩ hK hN hP hD hS hA rfl rfl (by decide) (by decide) hl.1 (Nat.le_of_ble_eq_true rfl) cd_LawText_1 ⟨Nat.le_of_ble_eq_true rfl, Nat.le_of_ble_eq_true rfl⟩ (fun u0 H locs hP hD hS => ?_)
  refine W.widen (k := 0) (n := 0) (Nat.le_of_ble_eq_true rfl) (Nat.le_of_ble_eq_true rfl) ?_
  have hP : va_P (dC, dI) ex_cm [(h0, .inr (4, [.int 0, .int 0, .int 0, .int 0, .int 0, .int 0, .int 0]))] H := hP
  have hD : va_D A [(h0, .inr (4, [.int 0, .int 0, .int 0, .int 0, .int 0, .int 0, .int 0]))] := hD
  refine W.widen (k := 0) (n := 0) (Nat.le_of_ble_eq_true rfl) (Nat.le_of_ble_eq_true rfl) ?_
  exact W.vret hx hb hr (fun t ht hW => ⟨⟨fun k => ([h0] : List Nat).getD k 0, rfl, trivial, by rw [ht]; exact hP, hD⟩, hS.F ht⟩) hS.2.2 cd_LawText_4
def cy_Page : MethodName := ⟨"BorderThroughBed$Page", "<init>", "()V"⟩
abbrev cb_Page : ByteArray := prog_9_method_1_code
theorem cd_Page_0 : decode cb_Page 0 = .ok (.aload_n 0, 1) := by decide +kernel
theorem cd_Page_1 : decode cb_Page 1 = .ok (.invokespecial 3, 3) := by decide +kernel
theorem cd_Page_4 : decode cb_Page 4 = .ok (.aload_n 0, 1) := by decide +kernel
theorem cd_Page_5 : decode cb_Page 5 = .ok (.bipush 40, 2) := by decide +kernel
theorem cd_Page_7 : decode cb_Page 7 = .ok (.newarray .int, 2) := by decide +kernel
theorem cd_Page_9 : decode cb_Page 9 = .ok (.putfield 11, 3) := by decide +kernel
theorem cd_Page_12 : decode cb_Page 12 = .ok (.return_, 1) := by decide +kernel
theorem cw_13 : (Jvm.Cond.code cy_Page cb_Page 1 none) ∈ ex_tb := ex_in (i := 50) (by decide +kernel) (by decide +kernel)
theorem cw_14 : (Jvm.Cond.initialized "BorderThroughBed$Page") ∈ ex_tb := ex_in (i := 28) (by decide +kernel) (by decide +kernel)
theorem cw_15 : (Jvm.Cond.instanceMethod cy_Page) ∈ ex_tb := ex_in (i := 49) (by decide +kernel) (by decide +kernel)
theorem cw_16 : (Jvm.Cond.methodLink "BorderThroughBed$Page" 3 Lib.objectInit) ∈ ex_tb := ex_in (i := 51) (by decide +kernel) (by decide +kernel)
set_option maxHeartbeats 4000000 in
set_option maxRecDepth 100000 in
theorem c_Page (l : Launch) (dC : Nat → ClassId) (dI : Nat → Nat → Nat) (cI cB : ClassId) (h0 sz : Nat) : Met l cy_Page (cx_ws cy_Page cb_Page 1) { frames := 1, cells := 1, slots := 40, locals := 12 } (va_Pc [.ref h0] (cx_Pre dC dI cI cB sz [(h0, .inr (7, [.null, .int 0]))])) (cx_Post dC dI (va_A [(h0, .inr (7, [.null, .int 0]))] sz) (fun u => [(h0, .inr (7, [.ref (u 1), .int 0])), ((u 1), .inl (cI, 40, .inl (fun _ => 0)))])) 1 40 (va_A [(h0, .inr (7, [.null, .int 0]))] sz) := by
  refine Met.ofW (cc := cb_Page) (maxL := 1) (ret := none) (by decide) rfl ?_
  intro p e s m args below meth c s₁ B hml hv
  obtain ⟨rfl, hsz, hP, hK, hN, hD0⟩ := hv
  have hx := B.exec
  have hb := B.bytes
  have hr := B.returns
  have hts0 := atoms_spec (ws := cx_ws cy_Page cb_Page 1) B.pre
  have hts : ∀ w ∈ ex_tb, w.before _ s = true := fun w h => hts0 w (List.mem_cons_of_mem _ h)
  have hown : s.vm.findClass "BorderThroughBed$Page" = some m.cls := findClass_of_methodNamed B.named
  have hlocks := B.notSynchronized
  have hin : meth.name = "<init>" := (name_of_methodNamed B.named B.method).1
  subst hsz
  have hD := hD0.self (sz := s.heap.size)
  generalize hAe : va_A [(h0, .inr (7, [.null, .int 0]))] s.heap.size = A at hD ⊢
  have hA : ∀ q : Nat, s.heap.size ≤ q → A q := fun q h => by rw [← hAe]; exact Or.inr h
  have hS : va_S A s.heap s.heap [] := va_S.rf
  have hl := lv_entry ([.ref h0]) (n := 1) (Nat.le_of_ble_eq_true rfl)
  rw [lg_entry_eq]
  generalize (lg_sl ([.ref h0]) ++ List.replicate (1 - (lg_sl ([.ref h0])).length) Slot.unset).toArray = ls at hl ⊢
  have hl : lv_has ls 1 [(0, .ref h0)] := hl
  refine lv_aload_n hx hb cd_Page_0 rfl (lv_at hl 0 rfl) ?_
  refine W.objInit (own := "BorderThroughBed$Page") hx hb hown (hts _ cw_16) (hts _ cw_4) (hts _ cw_5) rfl (by rw [hml]; exact hl.1) rfl cd_Page_1 (Nat.le_of_ble_eq_true rfl) (Nat.le_of_ble_eq_true rfl) ?_
  refine W.eq (g2 := F0 m 4 ls []) rfl ?_
  refine lv_aload_n hx hb cd_Page_4 rfl (lv_at hl 0 rfl) ?_
  refine lv_bipush (v := 40) hx hb cd_Page_5 (by decide) ?_
  refine cx_newi (N := 40) hx hb hts hK hP hD hS hA (by decide) (by decide) (Nat.le_of_ble_eq_true rfl) (Nat.le_of_ble_eq_true rfl) (Nat.le_of_ble_eq_true rfl) cd_Page_7 (fun q1 H hP hD hS => ?_)
  refine W.widen (k := 1) (n := 40) (Nat.le_of_ble_eq_true rfl) (Nat.le_of_ble_eq_true rfl) ?_
  refine cx_putF (ci := 7) (k := 0) (v := .ref q1) (a := h0) (fs := [.null, .int 0]) hx hb hts hown (by decide) (kq_F (c := 7) (by decide) (11, 448) (ex_lk (by decide +kernel))).1 hK hP hD hS 0 rfl (by decide) rfl hin rfl rfl (Nat.le_of_ble_eq_true rfl) cd_Page_9 (fun H locs hP hD hS => ?_)
  have hP : va_P (dC, dI) ex_cm [(h0, .inr (7, [.ref q1, .int 0])), (q1, .inl (cI, 40, .inl (fun _ => 0)))] H := hP
  have hD : va_D A [(h0, .inr (7, [.ref q1, .int 0])), (q1, .inl (cI, 40, .inl (fun _ => 0)))] := hD
  refine W.widen (k := 1) (n := 40) (Nat.le_of_ble_eq_true rfl) (Nat.le_of_ble_eq_true rfl) ?_
  exact W.vret hx hb hr (fun t ht hW => ⟨⟨fun k => ([h0, q1] : List Nat).getD k 0, rfl, trivial, by rw [ht]; exact hP, hD⟩, hS.F ht⟩) hS.2.2 cd_Page_12
def cy_Table : MethodName := ⟨"BorderThroughBed$Table", "<init>", "(I)V"⟩
abbrev cb_Table : ByteArray := prog_10_method_1_code
theorem cd_Table_0 : decode cb_Table 0 = .ok (.aload_n 0, 1) := by decide +kernel
theorem cd_Table_1 : decode cb_Table 1 = .ok (.invokespecial 3, 3) := by decide +kernel
theorem cd_Table_4 : decode cb_Table 4 = .ok (.aload_n 0, 1) := by decide +kernel
theorem cd_Table_5 : decode cb_Table 5 = .ok (.bipush 60, 2) := by decide +kernel
theorem cd_Table_7 : decode cb_Table 7 = .ok (.newarray .int, 2) := by decide +kernel
theorem cd_Table_9 : decode cb_Table 9 = .ok (.putfield 11, 3) := by decide +kernel
theorem cd_Table_12 : decode cb_Table 12 = .ok (.aload_n 0, 1) := by decide +kernel
theorem cd_Table_13 : decode cb_Table 13 = .ok (.iload_n 1, 1) := by decide +kernel
theorem cd_Table_14 : decode cb_Table 14 = .ok (.putfield 15, 3) := by decide +kernel
theorem cd_Table_17 : decode cb_Table 17 = .ok (.return_, 1) := by decide +kernel
theorem cw_17 : (Jvm.Cond.code cy_Table cb_Table 2 none) ∈ ex_tb := ex_in (i := 169) (by decide +kernel) (by decide +kernel)
theorem cw_18 : (Jvm.Cond.initialized "BorderThroughBed$Table") ∈ ex_tb := ex_in (i := 34) (by decide +kernel) (by decide +kernel)
theorem cw_19 : (Jvm.Cond.instanceMethod cy_Table) ∈ ex_tb := ex_in (i := 168) (by decide +kernel) (by decide +kernel)
theorem cw_20 : (Jvm.Cond.methodLink "BorderThroughBed$Table" 3 Lib.objectInit) ∈ ex_tb := ex_in (i := 170) (by decide +kernel) (by decide +kernel)
set_option maxHeartbeats 4000000 in
set_option maxRecDepth 100000 in
theorem c_Table (l : Launch) (dC : Nat → ClassId) (dI : Nat → Nat → Nat) (cI cB : ClassId) (h0 sz : Nat) (p0 : Int32) : Met l cy_Table (cx_ws cy_Table cb_Table 2) { frames := 1, cells := 1, slots := 60, locals := 12 } (va_Pc [.ref h0, .int p0] (cx_Pre dC dI cI cB sz [(h0, .inr (8, [.null, .int 0, .int 0]))])) (cx_Post dC dI (va_A [(h0, .inr (8, [.null, .int 0, .int 0]))] sz) (fun u => [(h0, .inr (8, [.ref (u 1), .int p0, .int 0])), ((u 1), .inl (cI, 60, .inl (fun _ => 0)))])) 1 60 (va_A [(h0, .inr (8, [.null, .int 0, .int 0]))] sz) := by
  refine Met.ofW (cc := cb_Table) (maxL := 2) (ret := none) (by decide) rfl ?_
  intro p e s m args below meth c s₁ B hml hv
  obtain ⟨rfl, hsz, hP, hK, hN, hD0⟩ := hv
  have hx := B.exec
  have hb := B.bytes
  have hr := B.returns
  have hts0 := atoms_spec (ws := cx_ws cy_Table cb_Table 2) B.pre
  have hts : ∀ w ∈ ex_tb, w.before _ s = true := fun w h => hts0 w (List.mem_cons_of_mem _ h)
  have hown : s.vm.findClass "BorderThroughBed$Table" = some m.cls := findClass_of_methodNamed B.named
  have hlocks := B.notSynchronized
  have hin : meth.name = "<init>" := (name_of_methodNamed B.named B.method).1
  subst hsz
  have hD := hD0.self (sz := s.heap.size)
  generalize hAe : va_A [(h0, .inr (8, [.null, .int 0, .int 0]))] s.heap.size = A at hD ⊢
  have hA : ∀ q : Nat, s.heap.size ≤ q → A q := fun q h => by rw [← hAe]; exact Or.inr h
  have hS : va_S A s.heap s.heap [] := va_S.rf
  have hl := lv_entry ([.ref h0, .int p0]) (n := 2) (Nat.le_of_ble_eq_true rfl)
  rw [lg_entry_eq]
  generalize (lg_sl ([.ref h0, .int p0]) ++ List.replicate (2 - (lg_sl ([.ref h0, .int p0])).length) Slot.unset).toArray = ls at hl ⊢
  have hl : lv_has ls 2 [(0, .ref h0), (1, .int p0)] := hl
  refine lv_aload_n hx hb cd_Table_0 rfl (lv_at hl 0 rfl) ?_
  refine W.objInit (own := "BorderThroughBed$Table") hx hb hown (hts _ cw_20) (hts _ cw_4) (hts _ cw_5) rfl (by rw [hml]; exact hl.1) rfl cd_Table_1 (Nat.le_of_ble_eq_true rfl) (Nat.le_of_ble_eq_true rfl) ?_
  refine W.eq (g2 := F0 m 4 ls []) rfl ?_
  refine lv_aload_n hx hb cd_Table_4 rfl (lv_at hl 0 rfl) ?_
  refine lv_bipush (v := 60) hx hb cd_Table_5 (by decide) ?_
  refine cx_newi (N := 60) hx hb hts hK hP hD hS hA (by decide) (by decide) (Nat.le_of_ble_eq_true rfl) (Nat.le_of_ble_eq_true rfl) (Nat.le_of_ble_eq_true rfl) cd_Table_7 (fun q1 H hP hD hS => ?_)
  refine W.widen (k := 1) (n := 60) (Nat.le_of_ble_eq_true rfl) (Nat.le_of_ble_eq_true rfl) ?_
  refine cx_putF (ci := 8) (k := 0) (v := .ref q1) (a := h0) (fs := [.null, .int 0, .int 0]) hx hb hts hown (by decide) (kq_F (c := 8) (by decide) (11, 512) (ex_lk (by decide +kernel))).1 hK hP hD hS 0 rfl (by decide) rfl hin rfl rfl (Nat.le_of_ble_eq_true rfl) cd_Table_9 (fun H locs hP hD hS => ?_)
  have hP : va_P (dC, dI) ex_cm [(h0, .inr (8, [.ref q1, .int 0, .int 0])), (q1, .inl (cI, 60, .inl (fun _ => 0)))] H := hP
  have hD : va_D A [(h0, .inr (8, [.ref q1, .int 0, .int 0])), (q1, .inl (cI, 60, .inl (fun _ => 0)))] := hD
  refine lv_aload_n hx hb cd_Table_12 rfl (lv_at hl 0 rfl) ?_
  refine lv_iload_n hx hb cd_Table_13 rfl (lv_at hl 1 rfl) ?_
  refine cx_putF (ci := 8) (k := 1) (v := .int p0) (a := h0) (fs := [.ref q1, .int 0, .int 0]) hx hb hts hown (by decide) (kq_F (c := 8) (by decide) (15, 513) (ex_lk (by decide +kernel))).1 hK hP hD hS 0 rfl (by decide) rfl hin rfl rfl (Nat.le_of_ble_eq_true rfl) cd_Table_14 (fun H locs hP hD hS => ?_)
  have hP : va_P (dC, dI) ex_cm [(h0, .inr (8, [.ref q1, .int p0, .int 0])), (q1, .inl (cI, 60, .inl (fun _ => 0)))] H := hP
  have hD : va_D A [(h0, .inr (8, [.ref q1, .int p0, .int 0])), (q1, .inl (cI, 60, .inl (fun _ => 0)))] := hD
  refine W.widen (k := 1) (n := 60) (Nat.le_of_ble_eq_true rfl) (Nat.le_of_ble_eq_true rfl) ?_
  exact W.vret hx hb hr (fun t ht hW => ⟨⟨fun k => ([h0, q1] : List Nat).getD k 0, rfl, trivial, by rw [ht]; exact hP, hD⟩, hS.F ht⟩) hS.2.2 cd_Table_17
def cy_Laws : MethodName := ⟨"BorderThroughBed$Laws", "<init>", "()V"⟩
abbrev cb_Laws : ByteArray := prog_7_method_1_code
theorem cd_Laws_0 : decode cb_Laws 0 = .ok (.aload_n 0, 1) := by decide +kernel
theorem cd_Laws_1 : decode cb_Laws 1 = .ok (.invokespecial 3, 3) := by decide +kernel
theorem cd_Laws_4 : decode cb_Laws 4 = .ok (.aload_n 0, 1) := by decide +kernel
theorem cd_Laws_5 : decode cb_Laws 5 = .ok (.new 9, 3) := by decide +kernel
theorem cd_Laws_8 : decode cb_Laws 8 = .ok (.dup, 1) := by decide +kernel
theorem cd_Laws_9 : decode cb_Laws 9 = .ok (.bipush 8, 2) := by decide +kernel
theorem cd_Laws_11 : decode cb_Laws 11 = .ok (.invokespecial 11, 3) := by decide +kernel
theorem cd_Laws_14 : decode cb_Laws 14 = .ok (.putfield 14, 3) := by decide +kernel
theorem cd_Laws_17 : decode cb_Laws 17 = .ok (.return_, 1) := by decide +kernel
theorem cw_21 : (Jvm.Cond.code cy_Laws cb_Laws 1 none) ∈ ex_tb := ex_in (i := 163) (by decide +kernel) (by decide +kernel)
theorem cw_22 : (Jvm.Cond.initialized "BorderThroughBed$Laws") ∈ ex_tb := ex_in (i := 33) (by decide +kernel) (by decide +kernel)
theorem cw_23 : (Jvm.Cond.instanceMethod cy_Laws) ∈ ex_tb := ex_in (i := 162) (by decide +kernel) (by decide +kernel)
theorem cw_24 : (Jvm.Cond.methodLink "BorderThroughBed$Laws" 3 Lib.objectInit) ∈ ex_tb := ex_in (i := 164) (by decide +kernel) (by decide +kernel)
theorem cw_25 : (Jvm.Cond.classLink "BorderThroughBed$Laws" 9 "BorderThroughBed$Table") ∈ ex_tb := ex_in (i := 165) (by decide +kernel) (by decide +kernel)
theorem cw_26 : (Jvm.Cond.instantiable "BorderThroughBed$Table" 3) ∈ ex_tb := ex_in (i := 166) (by decide +kernel) (by decide +kernel)
theorem cw_27 : (Jvm.Cond.methodLink "BorderThroughBed$Laws" 11 cy_Table) ∈ ex_tb := ex_in (i := 167) (by decide +kernel) (by decide +kernel)
set_option maxHeartbeats 4000000 in
set_option maxRecDepth 100000 in
theorem c_Laws (l : Launch) (dC : Nat → ClassId) (dI : Nat → Nat → Nat) (cI cB : ClassId) (h0 sz : Nat) : Met l cy_Laws (cx_ws cy_Laws cb_Laws 1) { frames := 2, cells := 2, slots := 63, locals := 33 } (va_Pc [.ref h0] (cx_Pre dC dI cI cB sz [(h0, .inr (5, [.null]))])) (cx_Post dC dI (va_A [(h0, .inr (5, [.null]))] sz) (fun u => [(h0, .inr (5, [.ref (u 1)])), ((u 1), .inr (8, [.ref (u 2), .int 8, .int 0])), ((u 2), .inl (cI, 60, .inl (fun _ => 0)))])) 2 63 (va_A [(h0, .inr (5, [.null]))] sz) := by
  refine Met.ofW (cc := cb_Laws) (maxL := 1) (ret := none) (by decide) rfl ?_
  intro p e s m args below meth c s₁ B hml hv
  obtain ⟨rfl, hsz, hP, hK, hN, hD0⟩ := hv
  have hx := B.exec
  have hb := B.bytes
  have hr := B.returns
  have hts0 := atoms_spec (ws := cx_ws cy_Laws cb_Laws 1) B.pre
  have hts : ∀ w ∈ ex_tb, w.before _ s = true := fun w h => hts0 w (List.mem_cons_of_mem _ h)
  have hown : s.vm.findClass "BorderThroughBed$Laws" = some m.cls := findClass_of_methodNamed B.named
  have hlocks := B.notSynchronized
  have hin : meth.name = "<init>" := (name_of_methodNamed B.named B.method).1
  subst hsz
  have hD := hD0.self (sz := s.heap.size)
  generalize hAe : va_A [(h0, .inr (5, [.null]))] s.heap.size = A at hD ⊢
  have hA : ∀ q : Nat, s.heap.size ≤ q → A q := fun q h => by rw [← hAe]; exact Or.inr h
  have hS : va_S A s.heap s.heap [] := va_S.rf
  have hl := lv_entry ([.ref h0]) (n := 1) (Nat.le_of_ble_eq_true rfl)
  rw [lg_entry_eq]
  generalize (lg_sl ([.ref h0]) ++ List.replicate (1 - (lg_sl ([.ref h0])).length) Slot.unset).toArray = ls at hl ⊢
  have hl : lv_has ls 1 [(0, .ref h0)] := hl
  refine lv_aload_n hx hb cd_Laws_0 rfl (lv_at hl 0 rfl) ?_
  refine W.objInit (own := "BorderThroughBed$Laws") hx hb hown (hts _ cw_24) (hts _ cw_4) (hts _ cw_5) rfl (by rw [hml]; exact hl.1) rfl cd_Laws_1 (Nat.le_of_ble_eq_true rfl) (Nat.le_of_ble_eq_true rfl) ?_
  refine W.eq (g2 := F0 m 4 ls []) rfl ?_
  refine lv_aload_n hx hb cd_Laws_4 rfl (lv_at hl 0 rfl) ?_
  refine cx_new (ci := 8) (fs := [.null, .int 0, .int 0]) (own := "BorderThroughBed$Laws") hx hb hts hown (by decide) cw_25 cw_26 cw_18 hK hP hD hS hA (by decide +kernel) (Nat.le_of_ble_eq_true rfl) (Nat.le_of_ble_eq_true rfl) cd_Laws_5 (fun q1 H hP hD hS => ?_)
  refine W.widen (k := 1) (n := 3) (Nat.le_of_ble_eq_true rfl) (Nat.le_of_ble_eq_true rfl) ?_
  refine lv_dup hx hb cd_Laws_8 rfl ?_
  refine lv_bipush (v := 8) hx hb cd_Laws_9 (by decide) ?_
  refine cx_ctor (As := [.int 8]) (b := q1) (rest := [.ref q1, .ref h0]) (wc := [(q1, .inr (8, [.null, .int 0, .int 0]))]) (wr := [(h0, .inr (5, [.null]))]) (isC := [1]) (isR := [0]) (own := "BorderThroughBed$Laws") (nL := 1) (Hm := H) hx hb hml hts hown (c_Table l dC dI cI cB q1 H.size 8) cw_17 cw_18 cw_19 cw_27 rfl (by decide +kernel) rfl rfl ⟨Nat.le_of_ble_eq_true rfl, Nat.le_of_ble_eq_true rfl⟩ hK hN hP hD hS hA rfl rfl (by decide) (by decide) hl.1 (Nat.le_of_ble_eq_true rfl) cd_Laws_11 ⟨Nat.le_of_ble_eq_true rfl, Nat.le_of_ble_eq_true rfl⟩ (fun u1 H locs hP hD hS => ?_)
  refine W.widen (k := 2) (n := 63) (Nat.le_of_ble_eq_true rfl) (Nat.le_of_ble_eq_true rfl) ?_
  have hP : va_P (dC, dI) ex_cm [(h0, .inr (5, [.null])), (q1, .inr (8, [.ref (u1 1), .int 8, .int 0])), ((u1 1), .inl (cI, 60, .inl (fun _ => 0)))] H := hP
  have hD : va_D A [(h0, .inr (5, [.null])), (q1, .inr (8, [.ref (u1 1), .int 8, .int 0])), ((u1 1), .inl (cI, 60, .inl (fun _ => 0)))] := hD
  refine cx_putF (ci := 5) (k := 0) (v := .ref q1) (a := h0) (fs := [.null]) hx hb hts hown (by decide) (kq_F (c := 5) (by decide) (14, 320) (ex_lk (by decide +kernel))).1 hK hP hD hS 0 rfl (by decide) rfl hin rfl rfl (Nat.le_of_ble_eq_true rfl) cd_Laws_14 (fun H locs hP hD hS => ?_)
  have hP : va_P (dC, dI) ex_cm [(h0, .inr (5, [.ref q1])), (q1, .inr (8, [.ref (u1 1), .int 8, .int 0])), ((u1 1), .inl (cI, 60, .inl (fun _ => 0)))] H := hP
  have hD : va_D A [(h0, .inr (5, [.ref q1])), (q1, .inr (8, [.ref (u1 1), .int 8, .int 0])), ((u1 1), .inl (cI, 60, .inl (fun _ => 0)))] := hD
  refine W.widen (k := 2) (n := 63) (Nat.le_of_ble_eq_true rfl) (Nat.le_of_ble_eq_true rfl) ?_
  exact W.vret hx hb hr (fun t ht hW => ⟨⟨fun k => ([h0, q1, (u1 1)] : List Nat).getD k 0, rfl, trivial, by rw [ht]; exact hP, hD⟩, hS.F ht⟩) hS.2.2 cd_Laws_17
def cy_Day : MethodName := ⟨"BorderThroughBed$Day", "<init>", "()V"⟩
abbrev cb_Day : ByteArray := prog_2_method_1_code
theorem cd_Day_0 : decode cb_Day 0 = .ok (.aload_n 0, 1) := by decide +kernel
theorem cd_Day_1 : decode cb_Day 1 = .ok (.invokespecial 3, 3) := by decide +kernel
theorem cd_Day_4 : decode cb_Day 4 = .ok (.aload_n 0, 1) := by decide +kernel
theorem cd_Day_5 : decode cb_Day 5 = .ok (.new 9, 3) := by decide +kernel
theorem cd_Day_8 : decode cb_Day 8 = .ok (.dup, 1) := by decide +kernel
theorem cd_Day_9 : decode cb_Day 9 = .ok (.iconst 3, 1) := by decide +kernel
theorem cd_Day_10 : decode cb_Day 10 = .ok (.invokespecial 11, 3) := by decide +kernel
theorem cd_Day_13 : decode cb_Day 13 = .ok (.putfield 14, 3) := by decide +kernel
theorem cd_Day_16 : decode cb_Day 16 = .ok (.aload_n 0, 1) := by decide +kernel
theorem cd_Day_17 : decode cb_Day 17 = .ok (.new 9, 3) := by decide +kernel
theorem cd_Day_20 : decode cb_Day 20 = .ok (.dup, 1) := by decide +kernel
theorem cd_Day_21 : decode cb_Day 21 = .ok (.bipush 12, 2) := by decide +kernel
theorem cd_Day_23 : decode cb_Day 23 = .ok (.invokespecial 11, 3) := by decide +kernel
theorem cd_Day_26 : decode cb_Day 26 = .ok (.putfield 20, 3) := by decide +kernel
theorem cd_Day_29 : decode cb_Day 29 = .ok (.aload_n 0, 1) := by decide +kernel
theorem cd_Day_30 : decode cb_Day 30 = .ok (.new 9, 3) := by decide +kernel
theorem cd_Day_33 : decode cb_Day 33 = .ok (.dup, 1) := by decide +kernel
theorem cd_Day_34 : decode cb_Day 34 = .ok (.bipush 6, 2) := by decide +kernel
theorem cd_Day_36 : decode cb_Day 36 = .ok (.invokespecial 11, 3) := by decide +kernel
theorem cd_Day_39 : decode cb_Day 39 = .ok (.putfield 23, 3) := by decide +kernel
theorem cd_Day_42 : decode cb_Day 42 = .ok (.aload_n 0, 1) := by decide +kernel
theorem cd_Day_43 : decode cb_Day 43 = .ok (.new 9, 3) := by decide +kernel
theorem cd_Day_46 : decode cb_Day 46 = .ok (.dup, 1) := by decide +kernel
theorem cd_Day_47 : decode cb_Day 47 = .ok (.bipush 10, 2) := by decide +kernel
theorem cd_Day_49 : decode cb_Day 49 = .ok (.invokespecial 11, 3) := by decide +kernel
theorem cd_Day_52 : decode cb_Day 52 = .ok (.putfield 26, 3) := by decide +kernel
theorem cd_Day_55 : decode cb_Day 55 = .ok (.return_, 1) := by decide +kernel
theorem cw_28 : (Jvm.Cond.code cy_Day cb_Day 1 none) ∈ ex_tb := ex_in (i := 189) (by decide +kernel) (by decide +kernel)
theorem cw_29 : (Jvm.Cond.initialized "BorderThroughBed$Day") ∈ ex_tb := ex_in (i := 35) (by decide +kernel) (by decide +kernel)
theorem cw_30 : (Jvm.Cond.instanceMethod cy_Day) ∈ ex_tb := ex_in (i := 188) (by decide +kernel) (by decide +kernel)
theorem cw_31 : (Jvm.Cond.methodLink "BorderThroughBed$Day" 3 Lib.objectInit) ∈ ex_tb := ex_in (i := 190) (by decide +kernel) (by decide +kernel)
theorem cw_32 : (Jvm.Cond.classLink "BorderThroughBed$Day" 9 "BorderThroughBed$Table") ∈ ex_tb := ex_in (i := 191) (by decide +kernel) (by decide +kernel)
theorem cw_33 : (Jvm.Cond.methodLink "BorderThroughBed$Day" 11 cy_Table) ∈ ex_tb := ex_in (i := 192) (by decide +kernel) (by decide +kernel)
set_option maxHeartbeats 4000000 in
set_option maxRecDepth 100000 in
theorem c_Day (l : Launch) (dC : Nat → ClassId) (dI : Nat → Nat → Nat) (cI cB : ClassId) (h0 sz : Nat) : Met l cy_Day (cx_ws cy_Day cb_Day 1) { frames := 2, cells := 8, slots := 252, locals := 33 } (va_Pc [.ref h0] (cx_Pre dC dI cI cB sz [(h0, .inr (0, [.null, .null, .null, .null]))])) (cx_Post dC dI (va_A [(h0, .inr (0, [.null, .null, .null, .null]))] sz) (fun u => [(h0, .inr (0, [.ref (u 1), .ref (u 3), .ref (u 5), .ref (u 7)])), ((u 1), .inr (8, [.ref (u 2), .int 3, .int 0])), ((u 2), .inl (cI, 60, .inl (fun _ => 0))), ((u 3), .inr (8, [.ref (u 4), .int 12, .int 0])), ((u 4), .inl (cI, 60, .inl (fun _ => 0))), ((u 5), .inr (8, [.ref (u 6), .int 6, .int 0])), ((u 6), .inl (cI, 60, .inl (fun _ => 0))), ((u 7), .inr (8, [.ref (u 8), .int 10, .int 0])), ((u 8), .inl (cI, 60, .inl (fun _ => 0)))])) 8 252 (va_A [(h0, .inr (0, [.null, .null, .null, .null]))] sz) := by
  refine Met.ofW (cc := cb_Day) (maxL := 1) (ret := none) (by decide) rfl ?_
  intro p e s m args below meth c s₁ B hml hv
  obtain ⟨rfl, hsz, hP, hK, hN, hD0⟩ := hv
  have hx := B.exec
  have hb := B.bytes
  have hr := B.returns
  have hts0 := atoms_spec (ws := cx_ws cy_Day cb_Day 1) B.pre
  have hts : ∀ w ∈ ex_tb, w.before _ s = true := fun w h => hts0 w (List.mem_cons_of_mem _ h)
  have hown : s.vm.findClass "BorderThroughBed$Day" = some m.cls := findClass_of_methodNamed B.named
  have hlocks := B.notSynchronized
  have hin : meth.name = "<init>" := (name_of_methodNamed B.named B.method).1
  subst hsz
  have hD := hD0.self (sz := s.heap.size)
  generalize hAe : va_A [(h0, .inr (0, [.null, .null, .null, .null]))] s.heap.size = A at hD ⊢
  have hA : ∀ q : Nat, s.heap.size ≤ q → A q := fun q h => by rw [← hAe]; exact Or.inr h
  have hS : va_S A s.heap s.heap [] := va_S.rf
  have hl := lv_entry ([.ref h0]) (n := 1) (Nat.le_of_ble_eq_true rfl)
  rw [lg_entry_eq]
  generalize (lg_sl ([.ref h0]) ++ List.replicate (1 - (lg_sl ([.ref h0])).length) Slot.unset).toArray = ls at hl ⊢
  have hl : lv_has ls 1 [(0, .ref h0)] := hl
  refine lv_aload_n hx hb cd_Day_0 rfl (lv_at hl 0 rfl) ?_
  refine W.objInit (own := "BorderThroughBed$Day") hx hb hown (hts _ cw_31) (hts _ cw_4) (hts _ cw_5) rfl (by rw [hml]; exact hl.1) rfl cd_Day_1 (Nat.le_of_ble_eq_true rfl) (Nat.le_of_ble_eq_true rfl) ?_
  refine W.eq (g2 := F0 m 4 ls []) rfl ?_
  refine lv_aload_n hx hb cd_Day_4 rfl (lv_at hl 0 rfl) ?_
  refine cx_new (ci := 8) (fs := [.null, .int 0, .int 0]) (own := "BorderThroughBed$Day") hx hb hts hown (by decide) cw_32 cw_26 cw_18 hK hP hD hS hA (by decide +kernel) (Nat.le_of_ble_eq_true rfl) (Nat.le_of_ble_eq_true rfl) cd_Day_5 (fun q1 H hP hD hS => ?_)
  refine W.widen (k := 1) (n := 3) (Nat.le_of_ble_eq_true rfl) (Nat.le_of_ble_eq_true rfl) ?_
  refine lv_dup hx hb cd_Day_8 rfl ?_
  refine lv_iconst (v := 3) hx hb cd_Day_9 (by decide) ?_
  refine cx_ctor (As := [.int 3]) (b := q1) (rest := [.ref q1, .ref h0]) (wc := [(q1, .inr (8, [.null, .int 0, .int 0]))]) (wr := [(h0, .inr (0, [.null, .null, .null, .null]))]) (isC := [1]) (isR := [0]) (own := "BorderThroughBed$Day") (nL := 1) (Hm := H) hx hb hml hts hown (c_Table l dC dI cI cB q1 H.size 3) cw_17 cw_18 cw_19 cw_33 rfl (by decide +kernel) rfl rfl ⟨Nat.le_of_ble_eq_true rfl, Nat.le_of_ble_eq_true rfl⟩ hK hN hP hD hS hA rfl rfl (by decide) (by decide) hl.1 (Nat.le_of_ble_eq_true rfl) cd_Day_10 ⟨Nat.le_of_ble_eq_true rfl, Nat.le_of_ble_eq_true rfl⟩ (fun u1 H locs hP hD hS => ?_)
  refine W.widen (k := 2) (n := 63) (Nat.le_of_ble_eq_true rfl) (Nat.le_of_ble_eq_true rfl) ?_
  have hP : va_P (dC, dI) ex_cm [(h0, .inr (0, [.null, .null, .null, .null])), (q1, .inr (8, [.ref (u1 1), .int 3, .int 0])), ((u1 1), .inl (cI, 60, .inl (fun _ => 0)))] H := hP
  have hD : va_D A [(h0, .inr (0, [.null, .null, .null, .null])), (q1, .inr (8, [.ref (u1 1), .int 3, .int 0])), ((u1 1), .inl (cI, 60, .inl (fun _ => 0)))] := hD
  refine cx_putF (ci := 0) (k := 0) (v := .ref q1) (a := h0) (fs := [.null, .null, .null, .null]) hx hb hts hown (by decide) (kq_F (c := 0) (by decide) (14, 0) (ex_lk (by decide +kernel))).1 hK hP hD hS 0 rfl (by decide) rfl hin rfl rfl (Nat.le_of_ble_eq_true rfl) cd_Day_13 (fun H locs hP hD hS => ?_)
  have hP : va_P (dC, dI) ex_cm [(h0, .inr (0, [.ref q1, .null, .null, .null])), (q1, .inr (8, [.ref (u1 1), .int 3, .int 0])), ((u1 1), .inl (cI, 60, .inl (fun _ => 0)))] H := hP
  have hD : va_D A [(h0, .inr (0, [.ref q1, .null, .null, .null])), (q1, .inr (8, [.ref (u1 1), .int 3, .int 0])), ((u1 1), .inl (cI, 60, .inl (fun _ => 0)))] := hD
  refine lv_aload_n hx hb cd_Day_16 rfl (lv_at hl 0 rfl) ?_
  refine cx_new (ci := 8) (fs := [.null, .int 0, .int 0]) (own := "BorderThroughBed$Day") hx hb hts hown (by decide) cw_32 cw_26 cw_18 hK hP hD hS hA (by decide +kernel) (Nat.le_of_ble_eq_true rfl) (Nat.le_of_ble_eq_true rfl) cd_Day_17 (fun q2 H hP hD hS => ?_)
  refine W.widen (k := 3) (n := 66) (Nat.le_of_ble_eq_true rfl) (Nat.le_of_ble_eq_true rfl) ?_
  refine lv_dup hx hb cd_Day_20 rfl ?_
  refine lv_bipush (v := 12) hx hb cd_Day_21 (by decide) ?_
  refine cx_ctor (As := [.int 12]) (b := q2) (rest := [.ref q2, .ref h0]) (wc := [(q2, .inr (8, [.null, .int 0, .int 0]))]) (wr := [(h0, .inr (0, [.ref q1, .null, .null, .null])), (q1, .inr (8, [.ref (u1 1), .int 3, .int 0])), ((u1 1), .inl (cI, 60, .inl (fun _ => 0)))]) (isC := [3]) (isR := [0, 1, 2]) (own := "BorderThroughBed$Day") (nL := 1) (Hm := H) hx hb hml hts hown (c_Table l dC dI cI cB q2 H.size 12) cw_17 cw_18 cw_19 cw_33 rfl (by decide +kernel) rfl rfl ⟨Nat.le_of_ble_eq_true rfl, Nat.le_of_ble_eq_true rfl⟩ hK hN hP hD hS hA rfl rfl (by decide) (by decide) hl.1 (Nat.le_of_ble_eq_true rfl) cd_Day_23 ⟨Nat.le_of_ble_eq_true rfl, Nat.le_of_ble_eq_true rfl⟩ (fun u2 H locs hP hD hS => ?_)
  refine W.widen (k := 4) (n := 126) (Nat.le_of_ble_eq_true rfl) (Nat.le_of_ble_eq_true rfl) ?_
  have hP : va_P (dC, dI) ex_cm [(h0, .inr (0, [.ref q1, .null, .null, .null])), (q1, .inr (8, [.ref (u1 1), .int 3, .int 0])), ((u1 1), .inl (cI, 60, .inl (fun _ => 0))), (q2, .inr (8, [.ref (u2 1), .int 12, .int 0])), ((u2 1), .inl (cI, 60, .inl (fun _ => 0)))] H := hP
  have hD : va_D A [(h0, .inr (0, [.ref q1, .null, .null, .null])), (q1, .inr (8, [.ref (u1 1), .int 3, .int 0])), ((u1 1), .inl (cI, 60, .inl (fun _ => 0))), (q2, .inr (8, [.ref (u2 1), .int 12, .int 0])), ((u2 1), .inl (cI, 60, .inl (fun _ => 0)))] := hD
  refine cx_putF (ci := 0) (k := 1) (v := .ref q2) (a := h0) (fs := [.ref q1, .null, .null, .null]) hx hb hts hown (by decide) (kq_F (c := 0) (by decide) (20, 1) (ex_lk (by decide +kernel))).1 hK hP hD hS 0 rfl (by decide) rfl hin rfl rfl (Nat.le_of_ble_eq_true rfl) cd_Day_26 (fun H locs hP hD hS => ?_)
  have hP : va_P (dC, dI) ex_cm [(h0, .inr (0, [.ref q1, .ref q2, .null, .null])), (q1, .inr (8, [.ref (u1 1), .int 3, .int 0])), ((u1 1), .inl (cI, 60, .inl (fun _ => 0))), (q2, .inr (8, [.ref (u2 1), .int 12, .int 0])), ((u2 1), .inl (cI, 60, .inl (fun _ => 0)))] H := hP
  have hD : va_D A [(h0, .inr (0, [.ref q1, .ref q2, .null, .null])), (q1, .inr (8, [.ref (u1 1), .int 3, .int 0])), ((u1 1), .inl (cI, 60, .inl (fun _ => 0))), (q2, .inr (8, [.ref (u2 1), .int 12, .int 0])), ((u2 1), .inl (cI, 60, .inl (fun _ => 0)))] := hD
  refine lv_aload_n hx hb cd_Day_29 rfl (lv_at hl 0 rfl) ?_
  refine cx_new (ci := 8) (fs := [.null, .int 0, .int 0]) (own := "BorderThroughBed$Day") hx hb hts hown (by decide) cw_32 cw_26 cw_18 hK hP hD hS hA (by decide +kernel) (Nat.le_of_ble_eq_true rfl) (Nat.le_of_ble_eq_true rfl) cd_Day_30 (fun q3 H hP hD hS => ?_)
  refine W.widen (k := 5) (n := 129) (Nat.le_of_ble_eq_true rfl) (Nat.le_of_ble_eq_true rfl) ?_
  refine lv_dup hx hb cd_Day_33 rfl ?_
  refine lv_bipush (v := 6) hx hb cd_Day_34 (by decide) ?_
  refine cx_ctor (As := [.int 6]) (b := q3) (rest := [.ref q3, .ref h0]) (wc := [(q3, .inr (8, [.null, .int 0, .int 0]))]) (wr := [(h0, .inr (0, [.ref q1, .ref q2, .null, .null])), (q1, .inr (8, [.ref (u1 1), .int 3, .int 0])), ((u1 1), .inl (cI, 60, .inl (fun _ => 0))), (q2, .inr (8, [.ref (u2 1), .int 12, .int 0])), ((u2 1), .inl (cI, 60, .inl (fun _ => 0)))]) (isC := [5]) (isR := [0, 1, 2, 3, 4]) (own := "BorderThroughBed$Day") (nL := 1) (Hm := H) hx hb hml hts hown (c_Table l dC dI cI cB q3 H.size 6) cw_17 cw_18 cw_19 cw_33 rfl (by decide +kernel) rfl rfl ⟨Nat.le_of_ble_eq_true rfl, Nat.le_of_ble_eq_true rfl⟩ hK hN hP hD hS hA rfl rfl (by decide) (by decide) hl.1 (Nat.le_of_ble_eq_true rfl) cd_Day_36 ⟨Nat.le_of_ble_eq_true rfl, Nat.le_of_ble_eq_true rfl⟩ (fun u3 H locs hP hD hS => ?_)
  refine W.widen (k := 6) (n := 189) (Nat.le_of_ble_eq_true rfl) (Nat.le_of_ble_eq_true rfl) ?_
  have hP : va_P (dC, dI) ex_cm [(h0, .inr (0, [.ref q1, .ref q2, .null, .null])), (q1, .inr (8, [.ref (u1 1), .int 3, .int 0])), ((u1 1), .inl (cI, 60, .inl (fun _ => 0))), (q2, .inr (8, [.ref (u2 1), .int 12, .int 0])), ((u2 1), .inl (cI, 60, .inl (fun _ => 0))), (q3, .inr (8, [.ref (u3 1), .int 6, .int 0])), ((u3 1), .inl (cI, 60, .inl (fun _ => 0)))] H := hP
  have hD : va_D A [(h0, .inr (0, [.ref q1, .ref q2, .null, .null])), (q1, .inr (8, [.ref (u1 1), .int 3, .int 0])), ((u1 1), .inl (cI, 60, .inl (fun _ => 0))), (q2, .inr (8, [.ref (u2 1), .int 12, .int 0])), ((u2 1), .inl (cI, 60, .inl (fun _ => 0))), (q3, .inr (8, [.ref (u3 1), .int 6, .int 0])), ((u3 1), .inl (cI, 60, .inl (fun _ => 0)))] := hD
  refine cx_putF (ci := 0) (k := 2) (v := .ref q3) (a := h0) (fs := [.ref q1, .ref q2, .null, .null]) hx hb hts hown (by decide) (kq_F (c := 0) (by decide) (23, 2) (ex_lk (by decide +kernel))).1 hK hP hD hS 0 rfl (by decide) rfl hin rfl rfl (Nat.le_of_ble_eq_true rfl) cd_Day_39 (fun H locs hP hD hS => ?_)
  have hP : va_P (dC, dI) ex_cm [(h0, .inr (0, [.ref q1, .ref q2, .ref q3, .null])), (q1, .inr (8, [.ref (u1 1), .int 3, .int 0])), ((u1 1), .inl (cI, 60, .inl (fun _ => 0))), (q2, .inr (8, [.ref (u2 1), .int 12, .int 0])), ((u2 1), .inl (cI, 60, .inl (fun _ => 0))), (q3, .inr (8, [.ref (u3 1), .int 6, .int 0])), ((u3 1), .inl (cI, 60, .inl (fun _ => 0)))] H := hP
  have hD : va_D A [(h0, .inr (0, [.ref q1, .ref q2, .ref q3, .null])), (q1, .inr (8, [.ref (u1 1), .int 3, .int 0])), ((u1 1), .inl (cI, 60, .inl (fun _ => 0))), (q2, .inr (8, [.ref (u2 1), .int 12, .int 0])), ((u2 1), .inl (cI, 60, .inl (fun _ => 0))), (q3, .inr (8, [.ref (u3 1), .int 6, .int 0])), ((u3 1), .inl (cI, 60, .inl (fun _ => 0)))] := hD
  refine lv_aload_n hx hb cd_Day_42 rfl (lv_at hl 0 rfl) ?_
  refine cx_new (ci := 8) (fs := [.null, .int 0, .int 0]) (own := "BorderThroughBed$Day") hx hb hts hown (by decide) cw_32 cw_26 cw_18 hK hP hD hS hA (by decide +kernel) (Nat.le_of_ble_eq_true rfl) (Nat.le_of_ble_eq_true rfl) cd_Day_43 (fun q4 H hP hD hS => ?_)
  refine W.widen (k := 7) (n := 192) (Nat.le_of_ble_eq_true rfl) (Nat.le_of_ble_eq_true rfl) ?_
  refine lv_dup hx hb cd_Day_46 rfl ?_
  refine lv_bipush (v := 10) hx hb cd_Day_47 (by decide) ?_
  refine cx_ctor (As := [.int 10]) (b := q4) (rest := [.ref q4, .ref h0]) (wc := [(q4, .inr (8, [.null, .int 0, .int 0]))]) (wr := [(h0, .inr (0, [.ref q1, .ref q2, .ref q3, .null])), (q1, .inr (8, [.ref (u1 1), .int 3, .int 0])), ((u1 1), .inl (cI, 60, .inl (fun _ => 0))), (q2, .inr (8, [.ref (u2 1), .int 12, .int 0])), ((u2 1), .inl (cI, 60, .inl (fun _ => 0))), (q3, .inr (8, [.ref (u3 1), .int 6, .int 0])), ((u3 1), .inl (cI, 60, .inl (fun _ => 0)))]) (isC := [7]) (isR := [0, 1, 2, 3, 4, 5, 6]) (own := "BorderThroughBed$Day") (nL := 1) (Hm := H) hx hb hml hts hown (c_Table l dC dI cI cB q4 H.size 10) cw_17 cw_18 cw_19 cw_33 rfl (by decide +kernel) rfl rfl ⟨Nat.le_of_ble_eq_true rfl, Nat.le_of_ble_eq_true rfl⟩ hK hN hP hD hS hA rfl rfl (by decide) (by decide) hl.1 (Nat.le_of_ble_eq_true rfl) cd_Day_49 ⟨Nat.le_of_ble_eq_true rfl, Nat.le_of_ble_eq_true rfl⟩ (fun u4 H locs hP hD hS => ?_)
  refine W.widen (k := 8) (n := 252) (Nat.le_of_ble_eq_true rfl) (Nat.le_of_ble_eq_true rfl) ?_
  have hP : va_P (dC, dI) ex_cm [(h0, .inr (0, [.ref q1, .ref q2, .ref q3, .null])), (q1, .inr (8, [.ref (u1 1), .int 3, .int 0])), ((u1 1), .inl (cI, 60, .inl (fun _ => 0))), (q2, .inr (8, [.ref (u2 1), .int 12, .int 0])), ((u2 1), .inl (cI, 60, .inl (fun _ => 0))), (q3, .inr (8, [.ref (u3 1), .int 6, .int 0])), ((u3 1), .inl (cI, 60, .inl (fun _ => 0))), (q4, .inr (8, [.ref (u4 1), .int 10, .int 0])), ((u4 1), .inl (cI, 60, .inl (fun _ => 0)))] H := hP
  have hD : va_D A [(h0, .inr (0, [.ref q1, .ref q2, .ref q3, .null])), (q1, .inr (8, [.ref (u1 1), .int 3, .int 0])), ((u1 1), .inl (cI, 60, .inl (fun _ => 0))), (q2, .inr (8, [.ref (u2 1), .int 12, .int 0])), ((u2 1), .inl (cI, 60, .inl (fun _ => 0))), (q3, .inr (8, [.ref (u3 1), .int 6, .int 0])), ((u3 1), .inl (cI, 60, .inl (fun _ => 0))), (q4, .inr (8, [.ref (u4 1), .int 10, .int 0])), ((u4 1), .inl (cI, 60, .inl (fun _ => 0)))] := hD
  refine cx_putF (ci := 0) (k := 3) (v := .ref q4) (a := h0) (fs := [.ref q1, .ref q2, .ref q3, .null]) hx hb hts hown (by decide) (kq_F (c := 0) (by decide) (26, 3) (ex_lk (by decide +kernel))).1 hK hP hD hS 0 rfl (by decide) rfl hin rfl rfl (Nat.le_of_ble_eq_true rfl) cd_Day_52 (fun H locs hP hD hS => ?_)
  have hP : va_P (dC, dI) ex_cm [(h0, .inr (0, [.ref q1, .ref q2, .ref q3, .ref q4])), (q1, .inr (8, [.ref (u1 1), .int 3, .int 0])), ((u1 1), .inl (cI, 60, .inl (fun _ => 0))), (q2, .inr (8, [.ref (u2 1), .int 12, .int 0])), ((u2 1), .inl (cI, 60, .inl (fun _ => 0))), (q3, .inr (8, [.ref (u3 1), .int 6, .int 0])), ((u3 1), .inl (cI, 60, .inl (fun _ => 0))), (q4, .inr (8, [.ref (u4 1), .int 10, .int 0])), ((u4 1), .inl (cI, 60, .inl (fun _ => 0)))] H := hP
  have hD : va_D A [(h0, .inr (0, [.ref q1, .ref q2, .ref q3, .ref q4])), (q1, .inr (8, [.ref (u1 1), .int 3, .int 0])), ((u1 1), .inl (cI, 60, .inl (fun _ => 0))), (q2, .inr (8, [.ref (u2 1), .int 12, .int 0])), ((u2 1), .inl (cI, 60, .inl (fun _ => 0))), (q3, .inr (8, [.ref (u3 1), .int 6, .int 0])), ((u3 1), .inl (cI, 60, .inl (fun _ => 0))), (q4, .inr (8, [.ref (u4 1), .int 10, .int 0])), ((u4 1), .inl (cI, 60, .inl (fun _ => 0)))] := hD
  refine W.widen (k := 8) (n := 252) (Nat.le_of_ble_eq_true rfl) (Nat.le_of_ble_eq_true rfl) ?_
  exact W.vret hx hb hr (fun t ht hW => ⟨⟨fun k => ([h0, q1, (u1 1), q2, (u2 1), q3, (u3 1), q4, (u4 1)] : List Nat).getD k 0, rfl, trivial, by rw [ht]; exact hP, hD⟩, hS.F ht⟩) hS.2.2 cd_Day_55
def cy_House : MethodName := ⟨"BorderThroughBed$House", "<init>", "()V"⟩
abbrev cb_House : ByteArray := prog_3_method_1_code
theorem cd_House_0 : decode cb_House 0 = .ok (.aload_n 0, 1) := by decide +kernel
theorem cd_House_1 : decode cb_House 1 = .ok (.invokespecial 3, 3) := by decide +kernel
theorem cd_House_4 : decode cb_House 4 = .ok (.aload_n 0, 1) := by decide +kernel
theorem cd_House_5 : decode cb_House 5 = .ok (.bipush 24, 2) := by decide +kernel
theorem cd_House_7 : decode cb_House 7 = .ok (.newarray .int, 2) := by decide +kernel
theorem cd_House_9 : decode cb_House 9 = .ok (.putfield 9, 3) := by decide +kernel
theorem cd_House_12 : decode cb_House 12 = .ok (.aload_n 0, 1) := by decide +kernel
theorem cd_House_13 : decode cb_House 13 = .ok (.bipush 24, 2) := by decide +kernel
theorem cd_House_15 : decode cb_House 15 = .ok (.newarray .int, 2) := by decide +kernel
theorem cd_House_17 : decode cb_House 17 = .ok (.putfield 15, 3) := by decide +kernel
theorem cd_House_20 : decode cb_House 20 = .ok (.aload_n 0, 1) := by decide +kernel
theorem cd_House_21 : decode cb_House 21 = .ok (.bipush 24, 2) := by decide +kernel
theorem cd_House_23 : decode cb_House 23 = .ok (.newarray .int, 2) := by decide +kernel
theorem cd_House_25 : decode cb_House 25 = .ok (.putfield 18, 3) := by decide +kernel
theorem cd_House_28 : decode cb_House 28 = .ok (.aload_n 0, 1) := by decide +kernel
theorem cd_House_29 : decode cb_House 29 = .ok (.iconst 4, 1) := by decide +kernel
theorem cd_House_30 : decode cb_House 30 = .ok (.newarray .int, 2) := by decide +kernel
theorem cd_House_32 : decode cb_House 32 = .ok (.putfield 21, 3) := by decide +kernel
theorem cd_House_35 : decode cb_House 35 = .ok (.aload_n 0, 1) := by decide +kernel
theorem cd_House_36 : decode cb_House 36 = .ok (.bipush 96, 2) := by decide +kernel
theorem cd_House_38 : decode cb_House 38 = .ok (.newarray .int, 2) := by decide +kernel
theorem cd_House_40 : decode cb_House 40 = .ok (.putfield 24, 3) := by decide +kernel
theorem cd_House_43 : decode cb_House 43 = .ok (.aload_n 0, 1) := by decide +kernel
theorem cd_House_44 : decode cb_House 44 = .ok (.bipush 96, 2) := by decide +kernel
theorem cd_House_46 : decode cb_House 46 = .ok (.newarray .int, 2) := by decide +kernel
theorem cd_House_48 : decode cb_House 48 = .ok (.putfield 27, 3) := by decide +kernel
theorem cd_House_51 : decode cb_House 51 = .ok (.aload_n 0, 1) := by decide +kernel
theorem cd_House_52 : decode cb_House 52 = .ok (.bipush 96, 2) := by decide +kernel
theorem cd_House_54 : decode cb_House 54 = .ok (.newarray .int, 2) := by decide +kernel
theorem cd_House_56 : decode cb_House 56 = .ok (.putfield 30, 3) := by decide +kernel
theorem cd_House_59 : decode cb_House 59 = .ok (.aload_n 0, 1) := by decide +kernel
theorem cd_House_60 : decode cb_House 60 = .ok (.bipush 96, 2) := by decide +kernel
theorem cd_House_62 : decode cb_House 62 = .ok (.newarray .int, 2) := by decide +kernel
theorem cd_House_64 : decode cb_House 64 = .ok (.putfield 33, 3) := by decide +kernel
theorem cd_House_67 : decode cb_House 67 = .ok (.aload_n 0, 1) := by decide +kernel
theorem cd_House_68 : decode cb_House 68 = .ok (.bipush 24, 2) := by decide +kernel
theorem cd_House_70 : decode cb_House 70 = .ok (.newarray .int, 2) := by decide +kernel
theorem cd_House_72 : decode cb_House 72 = .ok (.putfield 36, 3) := by decide +kernel
theorem cd_House_75 : decode cb_House 75 = .ok (.aload_n 0, 1) := by decide +kernel
theorem cd_House_76 : decode cb_House 76 = .ok (.bipush 24, 2) := by decide +kernel
theorem cd_House_78 : decode cb_House 78 = .ok (.newarray .int, 2) := by decide +kernel
theorem cd_House_80 : decode cb_House 80 = .ok (.putfield 39, 3) := by decide +kernel
theorem cd_House_83 : decode cb_House 83 = .ok (.aload_n 0, 1) := by decide +kernel
theorem cd_House_84 : decode cb_House 84 = .ok (.bipush 24, 2) := by decide +kernel
theorem cd_House_86 : decode cb_House 86 = .ok (.newarray .int, 2) := by decide +kernel
theorem cd_House_88 : decode cb_House 88 = .ok (.putfield 42, 3) := by decide +kernel
theorem cd_House_91 : decode cb_House 91 = .ok (.return_, 1) := by decide +kernel
theorem cw_34 : (Jvm.Cond.code cy_House cb_House 1 none) ∈ ex_tb := ex_in (i := 114) (by decide +kernel) (by decide +kernel)
theorem cw_35 : (Jvm.Cond.initialized "BorderThroughBed$House") ∈ ex_tb := ex_in (i := 32) (by decide +kernel) (by decide +kernel)
theorem cw_36 : (Jvm.Cond.instanceMethod cy_House) ∈ ex_tb := ex_in (i := 113) (by decide +kernel) (by decide +kernel)
theorem cw_37 : (Jvm.Cond.methodLink "BorderThroughBed$House" 3 Lib.objectInit) ∈ ex_tb := ex_in (i := 115) (by decide +kernel) (by decide +kernel)
set_option maxHeartbeats 4000000 in
set_option maxRecDepth 100000 in
theorem c_House (l : Launch) (dC : Nat → ClassId) (dI : Nat → Nat → Nat) (cI cB : ClassId) (h0 sz : Nat) : Met l cy_House (cx_ws cy_House cb_House 1) { frames := 1, cells := 11, slots := 532, locals := 12 } (va_Pc [.ref h0] (cx_Pre dC dI cI cB sz [(h0, .inr (1, [.null, .null, .null, .null, .null, .null, .null, .null, .null, .null, .null, .int 0, .int 0, .int 0]))])) (cx_Post dC dI (va_A [(h0, .inr (1, [.null, .null, .null, .null, .null, .null, .null, .null, .null, .null, .null, .int 0, .int 0, .int 0]))] sz) (fun u => [(h0, .inr (1, [.ref (u 1), .ref (u 2), .ref (u 3), .ref (u 4), .ref (u 5), .ref (u 6), .ref (u 7), .ref (u 8), .ref (u 9), .ref (u 10), .ref (u 11), .int 0, .int 0, .int 0])), ((u 1), .inl (cI, 24, .inl (fun _ => 0))), ((u 2), .inl (cI, 24, .inl (fun _ => 0))), ((u 3), .inl (cI, 24, .inl (fun _ => 0))), ((u 4), .inl (cI, 4, .inl (fun _ => 0))), ((u 5), .inl (cI, 96, .inl (fun _ => 0))), ((u 6), .inl (cI, 96, .inl (fun _ => 0))), ((u 7), .inl (cI, 96, .inl (fun _ => 0))), ((u 8), .inl (cI, 96, .inl (fun _ => 0))), ((u 9), .inl (cI, 24, .inl (fun _ => 0))), ((u 10), .inl (cI, 24, .inl (fun _ => 0))), ((u 11), .inl (cI, 24, .inl (fun _ => 0)))])) 11 532 (va_A [(h0, .inr (1, [.null, .null, .null, .null, .null, .null, .null, .null, .null, .null, .null, .int 0, .int 0, .int 0]))] sz) := by
  refine Met.ofW (cc := cb_House) (maxL := 1) (ret := none) (by decide) rfl ?_
  intro p e s m args below meth c s₁ B hml hv
  obtain ⟨rfl, hsz, hP, hK, hN, hD0⟩ := hv
  have hx := B.exec
  have hb := B.bytes
  have hr := B.returns
  have hts0 := atoms_spec (ws := cx_ws cy_House cb_House 1) B.pre
  have hts : ∀ w ∈ ex_tb, w.before _ s = true := fun w h => hts0 w (List.mem_cons_of_mem _ h)
  have hown : s.vm.findClass "BorderThroughBed$House" = some m.cls := findClass_of_methodNamed B.named
  have hlocks := B.notSynchronized
  have hin : meth.name = "<init>" := (name_of_methodNamed B.named B.method).1
  subst hsz
  have hD := hD0.self (sz := s.heap.size)
  generalize hAe : va_A [(h0, .inr (1, [.null, .null, .null, .null, .null, .null, .null, .null, .null, .null, .null, .int 0, .int 0, .int 0]))] s.heap.size = A at hD ⊢
  have hA : ∀ q : Nat, s.heap.size ≤ q → A q := fun q h => by rw [← hAe]; exact Or.inr h
  have hS : va_S A s.heap s.heap [] := va_S.rf
  have hl := lv_entry ([.ref h0]) (n := 1) (Nat.le_of_ble_eq_true rfl)
  rw [lg_entry_eq]
  generalize (lg_sl ([.ref h0]) ++ List.replicate (1 - (lg_sl ([.ref h0])).length) Slot.unset).toArray = ls at hl ⊢
  have hl : lv_has ls 1 [(0, .ref h0)] := hl
  refine lv_aload_n hx hb cd_House_0 rfl (lv_at hl 0 rfl) ?_
  refine W.objInit (own := "BorderThroughBed$House") hx hb hown (hts _ cw_37) (hts _ cw_4) (hts _ cw_5) rfl (by rw [hml]; exact hl.1) rfl cd_House_1 (Nat.le_of_ble_eq_true rfl) (Nat.le_of_ble_eq_true rfl) ?_
  refine W.eq (g2 := F0 m 4 ls []) rfl ?_
  refine lv_aload_n hx hb cd_House_4 rfl (lv_at hl 0 rfl) ?_
  refine lv_bipush (v := 24) hx hb cd_House_5 (by decide) ?_
  refine cx_newi (N := 24) hx hb hts hK hP hD hS hA (by decide) (by decide) (Nat.le_of_ble_eq_true rfl) (Nat.le_of_ble_eq_true rfl) (Nat.le_of_ble_eq_true rfl) cd_House_7 (fun q1 H hP hD hS => ?_)
  refine W.widen (k := 1) (n := 24) (Nat.le_of_ble_eq_true rfl) (Nat.le_of_ble_eq_true rfl) ?_
  refine cx_putF (ci := 1) (k := 0) (v := .ref q1) (a := h0) (fs := [.null, .null, .null, .null, .null, .null, .null, .null, .null, .null, .null, .int 0, .int 0, .int 0]) hx hb hts hown (by decide) (kq_F (c := 1) (by decide) (9, 64) (ex_lk (by decide +kernel))).1 hK hP hD hS 0 rfl (by decide) rfl hin rfl rfl (Nat.le_of_ble_eq_true rfl) cd_House_9 (fun H locs hP hD hS => ?_)
  have hP : va_P (dC, dI) ex_cm [(h0, .inr (1, [.ref q1, .null, .null, .null, .null, .null, .null, .null, .null, .null, .null, .int 0, .int 0, .int 0])), (q1, .inl (cI, 24, .inl (fun _ => 0)))] H := hP
  have hD : va_D A [(h0, .inr (1, [.ref q1, .null, .null, .null, .null, .null, .null, .null, .null, .null, .null, .int 0, .int 0, .int 0])), (q1, .inl (cI, 24, .inl (fun _ => 0)))] := hD
  refine lv_aload_n hx hb cd_House_12 rfl (lv_at hl 0 rfl) ?_
  refine lv_bipush (v := 24) hx hb cd_House_13 (by decide) ?_
  refine cx_newi (N := 24) hx hb hts hK hP hD hS hA (by decide) (by decide) (Nat.le_of_ble_eq_true rfl) (Nat.le_of_ble_eq_true rfl) (Nat.le_of_ble_eq_true rfl) cd_House_15 (fun q2 H hP hD hS => ?_)
  refine W.widen (k := 2) (n := 48) (Nat.le_of_ble_eq_true rfl) (Nat.le_of_ble_eq_true rfl) ?_
  refine cx_putF (ci := 1) (k := 1) (v := .ref q2) (a := h0) (fs := [.ref q1, .null, .null, .null, .null, .null, .null, .null, .null, .null, .null, .int 0, .int 0, .int 0]) hx hb hts hown (by decide) (kq_F (c := 1) (by decide) (15, 65) (ex_lk (by decide +kernel))).1 hK hP hD hS 0 rfl (by decide) rfl hin rfl rfl (Nat.le_of_ble_eq_true rfl) cd_House_17 (fun H locs hP hD hS => ?_)
  have hP : va_P (dC, dI) ex_cm [(h0, .inr (1, [.ref q1, .ref q2, .null, .null, .null, .null, .null, .null, .null, .null, .null, .int 0, .int 0, .int 0])), (q1, .inl (cI, 24, .inl (fun _ => 0))), (q2, .inl (cI, 24, .inl (fun _ => 0)))] H := hP
  have hD : va_D A [(h0, .inr (1, [.ref q1, .ref q2, .null, .null, .null, .null, .null, .null, .null, .null, .null, .int 0, .int 0, .int 0])), (q1, .inl (cI, 24, .inl (fun _ => 0))), (q2, .inl (cI, 24, .inl (fun _ => 0)))] := hD
  refine lv_aload_n hx hb cd_House_20 rfl (lv_at hl 0 rfl) ?_
  refine lv_bipush (v := 24) hx hb cd_House_21 (by decide) ?_
  refine cx_newi (N := 24) hx hb hts hK hP hD hS hA (by decide) (by decide) (Nat.le_of_ble_eq_true rfl) (Nat.le_of_ble_eq_true rfl) (Nat.le_of_ble_eq_true rfl) cd_House_23 (fun q3 H hP hD hS => ?_)
  refine W.widen (k := 3) (n := 72) (Nat.le_of_ble_eq_true rfl) (Nat.le_of_ble_eq_true rfl) ?_
  refine cx_putF (ci := 1) (k := 2) (v := .ref q3) (a := h0) (fs := [.ref q1, .ref q2, .null, .null, .null, .null, .null, .null, .null, .null, .null, .int 0, .int 0, .int 0]) hx hb hts hown (by decide) (kq_F (c := 1) (by decide) (18, 66) (ex_lk (by decide +kernel))).1 hK hP hD hS 0 rfl (by decide) rfl hin rfl rfl (Nat.le_of_ble_eq_true rfl) cd_House_25 (fun H locs hP hD hS => ?_)
  have hP : va_P (dC, dI) ex_cm [(h0, .inr (1, [.ref q1, .ref q2, .ref q3, .null, .null, .null, .null, .null, .null, .null, .null, .int 0, .int 0, .int 0])), (q1, .inl (cI, 24, .inl (fun _ => 0))), (q2, .inl (cI, 24, .inl (fun _ => 0))), (q3, .inl (cI, 24, .inl (fun _ => 0)))] H := hP
  have hD : va_D A [(h0, .inr (1, [.ref q1, .ref q2, .ref q3, .null, .null, .null, .null, .null, .null, .null, .null, .int 0, .int 0, .int 0])), (q1, .inl (cI, 24, .inl (fun _ => 0))), (q2, .inl (cI, 24, .inl (fun _ => 0))), (q3, .inl (cI, 24, .inl (fun _ => 0)))] := hD
  refine lv_aload_n hx hb cd_House_28 rfl (lv_at hl 0 rfl) ?_
  refine lv_iconst (v := 4) hx hb cd_House_29 (by decide) ?_
  refine cx_newi (N := 4) hx hb hts hK hP hD hS hA (by decide) (by decide) (Nat.le_of_ble_eq_true rfl) (Nat.le_of_ble_eq_true rfl) (Nat.le_of_ble_eq_true rfl) cd_House_30 (fun q4 H hP hD hS => ?_)
  refine W.widen (k := 4) (n := 76) (Nat.le_of_ble_eq_true rfl) (Nat.le_of_ble_eq_true rfl) ?_
  refine cx_putF (ci := 1) (k := 3) (v := .ref q4) (a := h0) (fs := [.ref q1, .ref q2, .ref q3, .null, .null, .null, .null, .null, .null, .null, .null, .int 0, .int 0, .int 0]) hx hb hts hown (by decide) (kq_F (c := 1) (by decide) (21, 67) (ex_lk (by decide +kernel))).1 hK hP hD hS 0 rfl (by decide) rfl hin rfl rfl (Nat.le_of_ble_eq_true rfl) cd_House_32 (fun H locs hP hD hS => ?_)
  have hP : va_P (dC, dI) ex_cm [(h0, .inr (1, [.ref q1, .ref q2, .ref q3, .ref q4, .null, .null, .null, .null, .null, .null, .null, .int 0, .int 0, .int 0])), (q1, .inl (cI, 24, .inl (fun _ => 0))), (q2, .inl (cI, 24, .inl (fun _ => 0))), (q3, .inl (cI, 24, .inl (fun _ => 0))), (q4, .inl (cI, 4, .inl (fun _ => 0)))] H := hP
  have hD : va_D A [(h0, .inr (1, [.ref q1, .ref q2, .ref q3, .ref q4, .null, .null, .null, .null, .null, .null, .null, .int 0, .int 0, .int 0])), (q1, .inl (cI, 24, .inl (fun _ => 0))), (q2, .inl (cI, 24, .inl (fun _ => 0))), (q3, .inl (cI, 24, .inl (fun _ => 0))), (q4, .inl (cI, 4, .inl (fun _ => 0)))] := hD
  refine lv_aload_n hx hb cd_House_35 rfl (lv_at hl 0 rfl) ?_
  refine lv_bipush (v := 96) hx hb cd_House_36 (by decide) ?_
  refine cx_newi (N := 96) hx hb hts hK hP hD hS hA (by decide) (by decide) (Nat.le_of_ble_eq_true rfl) (Nat.le_of_ble_eq_true rfl) (Nat.le_of_ble_eq_true rfl) cd_House_38 (fun q5 H hP hD hS => ?_)
  refine W.widen (k := 5) (n := 172) (Nat.le_of_ble_eq_true rfl) (Nat.le_of_ble_eq_true rfl) ?_
  refine cx_putF (ci := 1) (k := 4) (v := .ref q5) (a := h0) (fs := [.ref q1, .ref q2, .ref q3, .ref q4, .null, .null, .null, .null, .null, .null, .null, .int 0, .int 0, .int 0]) hx hb hts hown (by decide) (kq_F (c := 1) (by decide) (24, 68) (ex_lk (by decide +kernel))).1 hK hP hD hS 0 rfl (by decide) rfl hin rfl rfl (Nat.le_of_ble_eq_true rfl) cd_House_40 (fun H locs hP hD hS => ?_)
  have hP : va_P (dC, dI) ex_cm [(h0, .inr (1, [.ref q1, .ref q2, .ref q3, .ref q4, .ref q5, .null, .null, .null, .null, .null, .null, .int 0, .int 0, .int 0])), (q1, .inl (cI, 24, .inl (fun _ => 0))), (q2, .inl (cI, 24, .inl (fun _ => 0))), (q3, .inl (cI, 24, .inl (fun _ => 0))), (q4, .inl (cI, 4, .inl (fun _ => 0))), (q5, .inl (cI, 96, .inl (fun _ => 0)))] H := hP
  have hD : va_D A [(h0, .inr (1, [.ref q1, .ref q2, .ref q3, .ref q4, .ref q5, .null, .null, .null, .null, .null, .null, .int 0, .int 0, .int 0])), (q1, .inl (cI, 24, .inl (fun _ => 0))), (q2, .inl (cI, 24, .inl (fun _ => 0))), (q3, .inl (cI, 24, .inl (fun _ => 0))), (q4, .inl (cI, 4, .inl (fun _ => 0))), (q5, .inl (cI, 96, .inl (fun _ => 0)))] := hD
  refine lv_aload_n hx hb cd_House_43 rfl (lv_at hl 0 rfl) ?_
  refine lv_bipush (v := 96) hx hb cd_House_44 (by decide) ?_
  refine cx_newi (N := 96) hx hb hts hK hP hD hS hA (by decide) (by decide) (Nat.le_of_ble_eq_true rfl) (Nat.le_of_ble_eq_true rfl) (Nat.le_of_ble_eq_true rfl) cd_House_46 (fun q6 H hP hD hS => ?_)
  refine W.widen (k := 6) (n := 268) (Nat.le_of_ble_eq_true rfl) (Nat.le_of_ble_eq_true rfl) ?_
  refine cx_putF (ci := 1) (k := 5) (v := .ref q6) (a := h0) (fs := [.ref q1, .ref q2, .ref q3, .ref q4, .ref q5, .null, .null, .null, .null, .null, .null, .int 0, .int 0, .int 0]) hx hb hts hown (by decide) (kq_F (c := 1) (by decide) (27, 69) (ex_lk (by decide +kernel))).1 hK hP hD hS 0 rfl (by decide) rfl hin rfl rfl (Nat.le_of_ble_eq_true rfl) cd_House_48 (fun H locs hP hD hS => ?_)
  have hP : va_P (dC, dI) ex_cm [(h0, .inr (1, [.ref q1, .ref q2, .ref q3, .ref q4, .ref q5, .ref q6, .null, .null, .null, .null, .null, .int 0, .int 0, .int 0])), (q1, .inl (cI, 24, .inl (fun _ => 0))), (q2, .inl (cI, 24, .inl (fun _ => 0))), (q3, .inl (cI, 24, .inl (fun _ => 0))), (q4, .inl (cI, 4, .inl (fun _ => 0))), (q5, .inl (cI, 96, .inl (fun _ => 0))), (q6, .inl (cI, 96, .inl (fun _ => 0)))] H := hP
  have hD : va_D A [(h0, .inr (1, [.ref q1, .ref q2, .ref q3, .ref q4, .ref q5, .ref q6, .null, .null, .null, .null, .null, .int 0, .int 0, .int 0])), (q1, .inl (cI, 24, .inl (fun _ => 0))), (q2, .inl (cI, 24, .inl (fun _ => 0))), (q3, .inl (cI, 24, .inl (fun _ => 0))), (q4, .inl (cI, 4, .inl (fun _ => 0))), (q5, .inl (cI, 96, .inl (fun _ => 0))), (q6, .inl (cI, 96, .inl (fun _ => 0)))] := hD
  refine lv_aload_n hx hb cd_House_51 rfl (lv_at hl 0 rfl) ?_
  refine lv_bipush (v := 96) hx hb cd_House_52 (by decide) ?_
  refine cx_newi (N := 96) hx hb hts hK hP hD hS hA (by decide) (by decide) (Nat.le_of_ble_eq_true rfl) (Nat.le_of_ble_eq_true rfl) (Nat.le_of_ble_eq_true rfl) cd_House_54 (fun q7 H hP hD hS => ?_)
  refine W.widen (k := 7) (n := 364) (Nat.le_of_ble_eq_true rfl) (Nat.le_of_ble_eq_true rfl) ?_
  refine cx_putF (ci := 1) (k := 6) (v := .ref q7) (a := h0) (fs := [.ref q1, .ref q2, .ref q3, .ref q4, .ref q5, .ref q6, .null, .null, .null, .null, .null, .int 0, .int 0, .int 0]) hx hb hts hown (by decide) (kq_F (c := 1) (by decide) (30, 70) (ex_lk (by decide +kernel))).1 hK hP hD hS 0 rfl (by decide) rfl hin rfl rfl (Nat.le_of_ble_eq_true rfl) cd_House_56 (fun H locs hP hD hS => ?_)
  have hP : va_P (dC, dI) ex_cm [(h0, .inr (1, [.ref q1, .ref q2, .ref q3, .ref q4, .ref q5, .ref q6, .ref q7, .null, .null, .null, .null, .int 0, .int 0, .int 0])), (q1, .inl (cI, 24, .inl (fun _ => 0))), (q2, .inl (cI, 24, .inl (fun _ => 0))), (q3, .inl (cI, 24, .inl (fun _ => 0))), (q4, .inl (cI, 4, .inl (fun _ => 0))), (q5, .inl (cI, 96, .inl (fun _ => 0))), (q6, .inl (cI, 96, .inl (fun _ => 0))), (q7, .inl (cI, 96, .inl (fun _ => 0)))] H := hP
  have hD : va_D A [(h0, .inr (1, [.ref q1, .ref q2, .ref q3, .ref q4, .ref q5, .ref q6, .ref q7, .null, .null, .null, .null, .int 0, .int 0, .int 0])), (q1, .inl (cI, 24, .inl (fun _ => 0))), (q2, .inl (cI, 24, .inl (fun _ => 0))), (q3, .inl (cI, 24, .inl (fun _ => 0))), (q4, .inl (cI, 4, .inl (fun _ => 0))), (q5, .inl (cI, 96, .inl (fun _ => 0))), (q6, .inl (cI, 96, .inl (fun _ => 0))), (q7, .inl (cI, 96, .inl (fun _ => 0)))] := hD
  refine lv_aload_n hx hb cd_House_59 rfl (lv_at hl 0 rfl) ?_
  refine lv_bipush (v := 96) hx hb cd_House_60 (by decide) ?_
  refine cx_newi (N := 96) hx hb hts hK hP hD hS hA (by decide) (by decide) (Nat.le_of_ble_eq_true rfl) (Nat.le_of_ble_eq_true rfl) (Nat.le_of_ble_eq_true rfl) cd_House_62 (fun q8 H hP hD hS => ?_)
  refine W.widen (k := 8) (n := 460) (Nat.le_of_ble_eq_true rfl) (Nat.le_of_ble_eq_true rfl) ?_
  refine cx_putF (ci := 1) (k := 7) (v := .ref q8) (a := h0) (fs := [.ref q1, .ref q2, .ref q3, .ref q4, .ref q5, .ref q6, .ref q7, .null, .null, .null, .null, .int 0, .int 0, .int 0]) hx hb hts hown (by decide) (kq_F (c := 1) (by decide) (33, 71) (ex_lk (by decide +kernel))).1 hK hP hD hS 0 rfl (by decide) rfl hin rfl rfl (Nat.le_of_ble_eq_true rfl) cd_House_64 (fun H locs hP hD hS => ?_)
  have hP : va_P (dC, dI) ex_cm [(h0, .inr (1, [.ref q1, .ref q2, .ref q3, .ref q4, .ref q5, .ref q6, .ref q7, .ref q8, .null, .null, .null, .int 0, .int 0, .int 0])), (q1, .inl (cI, 24, .inl (fun _ => 0))), (q2, .inl (cI, 24, .inl (fun _ => 0))), (q3, .inl (cI, 24, .inl (fun _ => 0))), (q4, .inl (cI, 4, .inl (fun _ => 0))), (q5, .inl (cI, 96, .inl (fun _ => 0))), (q6, .inl (cI, 96, .inl (fun _ => 0))), (q7, .inl (cI, 96, .inl (fun _ => 0))), (q8, .inl (cI, 96, .inl (fun _ => 0)))] H := hP
  have hD : va_D A [(h0, .inr (1, [.ref q1, .ref q2, .ref q3, .ref q4, .ref q5, .ref q6, .ref q7, .ref q8, .null, .null, .null, .int 0, .int 0, .int 0])), (q1, .inl (cI, 24, .inl (fun _ => 0))), (q2, .inl (cI, 24, .inl (fun _ => 0))), (q3, .inl (cI, 24, .inl (fun _ => 0))), (q4, .inl (cI, 4, .inl (fun _ => 0))), (q5, .inl (cI, 96, .inl (fun _ => 0))), (q6, .inl (cI, 96, .inl (fun _ => 0))), (q7, .inl (cI, 96, .inl (fun _ => 0))), (q8, .inl (cI, 96, .inl (fun _ => 0)))] := hD
  refine lv_aload_n hx hb cd_House_67 rfl (lv_at hl 0 rfl) ?_
  refine lv_bipush (v := 24) hx hb cd_House_68 (by decide) ?_
  refine cx_newi (N := 24) hx hb hts hK hP hD hS hA (by decide) (by decide) (Nat.le_of_ble_eq_true rfl) (Nat.le_of_ble_eq_true rfl) (Nat.le_of_ble_eq_true rfl) cd_House_70 (fun q9 H hP hD hS => ?_)
  refine W.widen (k := 9) (n := 484) (Nat.le_of_ble_eq_true rfl) (Nat.le_of_ble_eq_true rfl) ?_
  refine cx_putF (ci := 1) (k := 8) (v := .ref q9) (a := h0) (fs := [.ref q1, .ref q2, .ref q3, .ref q4, .ref q5, .ref q6, .ref q7, .ref q8, .null, .null, .null, .int 0, .int 0, .int 0]) hx hb hts hown (by decide) (kq_F (c := 1) (by decide) (36, 72) (ex_lk (by decide +kernel))).1 hK hP hD hS 0 rfl (by decide) rfl hin rfl rfl (Nat.le_of_ble_eq_true rfl) cd_House_72 (fun H locs hP hD hS => ?_)
  have hP : va_P (dC, dI) ex_cm [(h0, .inr (1, [.ref q1, .ref q2, .ref q3, .ref q4, .ref q5, .ref q6, .ref q7, .ref q8, .ref q9, .null, .null, .int 0, .int 0, .int 0])), (q1, .inl (cI, 24, .inl (fun _ => 0))), (q2, .inl (cI, 24, .inl (fun _ => 0))), (q3, .inl (cI, 24, .inl (fun _ => 0))), (q4, .inl (cI, 4, .inl (fun _ => 0))), (q5, .inl (cI, 96, .inl (fun _ => 0))), (q6, .inl (cI, 96, .inl (fun _ => 0))), (q7, .inl (cI, 96, .inl (fun _ => 0))), (q8, .inl (cI, 96, .inl (fun _ => 0))), (q9, .inl (cI, 24, .inl (fun _ => 0)))] H := hP
  have hD : va_D A [(h0, .inr (1, [.ref q1, .ref q2, .ref q3, .ref q4, .ref q5, .ref q6, .ref q7, .ref q8, .ref q9, .null, .null, .int 0, .int 0, .int 0])), (q1, .inl (cI, 24, .inl (fun _ => 0))), (q2, .inl (cI, 24, .inl (fun _ => 0))), (q3, .inl (cI, 24, .inl (fun _ => 0))), (q4, .inl (cI, 4, .inl (fun _ => 0))), (q5, .inl (cI, 96, .inl (fun _ => 0))), (q6, .inl (cI, 96, .inl (fun _ => 0))), (q7, .inl (cI, 96, .inl (fun _ => 0))), (q8, .inl (cI, 96, .inl (fun _ => 0))), (q9, .inl (cI, 24, .inl (fun _ => 0)))] := hD
  refine lv_aload_n hx hb cd_House_75 rfl (lv_at hl 0 rfl) ?_
  refine lv_bipush (v := 24) hx hb cd_House_76 (by decide) ?_
  refine cx_newi (N := 24) hx hb hts hK hP hD hS hA (by decide) (by decide) (Nat.le_of_ble_eq_true rfl) (Nat.le_of_ble_eq_true rfl) (Nat.le_of_ble_eq_true rfl) cd_House_78 (fun q10 H hP hD hS => ?_)
  refine W.widen (k := 10) (n := 508) (Nat.le_of_ble_eq_true rfl) (Nat.le_of_ble_eq_true rfl) ?_
  refine cx_putF (ci := 1) (k := 9) (v := .ref q10) (a := h0) (fs := [.ref q1, .ref q2, .ref q3, .ref q4, .ref q5, .ref q6, .ref q7, .ref q8, .ref q9, .null, .null, .int 0, .int 0, .int 0]) hx hb hts hown (by decide) (kq_F (c := 1) (by decide) (39, 73) (ex_lk (by decide +kernel))).1 hK hP hD hS 0 rfl (by decide) rfl hin rfl rfl (Nat.le_of_ble_eq_true rfl) cd_House_80 (fun H locs hP hD hS => ?_)
  have hP : va_P (dC, dI) ex_cm [(h0, .inr (1, [.ref q1, .ref q2, .ref q3, .ref q4, .ref q5, .ref q6, .ref q7, .ref q8, .ref q9, .ref q10, .null, .int 0, .int 0, .int 0])), (q1, .inl (cI, 24, .inl (fun _ => 0))), (q2, .inl (cI, 24, .inl (fun _ => 0))), (q3, .inl (cI, 24, .inl (fun _ => 0))), (q4, .inl (cI, 4, .inl (fun _ => 0))), (q5, .inl (cI, 96, .inl (fun _ => 0))), (q6, .inl (cI, 96, .inl (fun _ => 0))), (q7, .inl (cI, 96, .inl (fun _ => 0))), (q8, .inl (cI, 96, .inl (fun _ => 0))), (q9, .inl (cI, 24, .inl (fun _ => 0))), (q10, .inl (cI, 24, .inl (fun _ => 0)))] H := hP
  have hD : va_D A [(h0, .inr (1, [.ref q1, .ref q2, .ref q3, .ref q4, .ref q5, .ref q6, .ref q7, .ref q8, .ref q9, .ref q10, .null, .int 0, .int 0, .int 0])), (q1, .inl (cI, 24, .inl (fun _ => 0))), (q2, .inl (cI, 24, .inl (fun _ => 0))), (q3, .inl (cI, 24, .inl (fun _ => 0))), (q4, .inl (cI, 4, .inl (fun _ => 0))), (q5, .inl (cI, 96, .inl (fun _ => 0))), (q6, .inl (cI, 96, .inl (fun _ => 0))), (q7, .inl (cI, 96, .inl (fun _ => 0))), (q8, .inl (cI, 96, .inl (fun _ => 0))), (q9, .inl (cI, 24, .inl (fun _ => 0))), (q10, .inl (cI, 24, .inl (fun _ => 0)))] := hD
  refine lv_aload_n hx hb cd_House_83 rfl (lv_at hl 0 rfl) ?_
  refine lv_bipush (v := 24) hx hb cd_House_84 (by decide) ?_
  refine cx_newi (N := 24) hx hb hts hK hP hD hS hA (by decide) (by decide) (Nat.le_of_ble_eq_true rfl) (Nat.le_of_ble_eq_true rfl) (Nat.le_of_ble_eq_true rfl) cd_House_86 (fun q11 H hP hD hS => ?_)
  refine W.widen (k := 11) (n := 532) (Nat.le_of_ble_eq_true rfl) (Nat.le_of_ble_eq_true rfl) ?_
  refine cx_putF (ci := 1) (k := 10) (v := .ref q11) (a := h0) (fs := [.ref q1, .ref q2, .ref q3, .ref q4, .ref q5, .ref q6, .ref q7, .ref q8, .ref q9, .ref q10, .null, .int 0, .int 0, .int 0]) hx hb hts hown (by decide) (kq_F (c := 1) (by decide) (42, 74) (ex_lk (by decide +kernel))).1 hK hP hD hS 0 rfl (by decide) rfl hin rfl rfl (Nat.le_of_ble_eq_true rfl) cd_House_88 (fun H locs hP hD hS => ?_)
  have hP : va_P (dC, dI) ex_cm [(h0, .inr (1, [.ref q1, .ref q2, .ref q3, .ref q4, .ref q5, .ref q6, .ref q7, .ref q8, .ref q9, .ref q10, .ref q11, .int 0, .int 0, .int 0])), (q1, .inl (cI, 24, .inl (fun _ => 0))), (q2, .inl (cI, 24, .inl (fun _ => 0))), (q3, .inl (cI, 24, .inl (fun _ => 0))), (q4, .inl (cI, 4, .inl (fun _ => 0))), (q5, .inl (cI, 96, .inl (fun _ => 0))), (q6, .inl (cI, 96, .inl (fun _ => 0))), (q7, .inl (cI, 96, .inl (fun _ => 0))), (q8, .inl (cI, 96, .inl (fun _ => 0))), (q9, .inl (cI, 24, .inl (fun _ => 0))), (q10, .inl (cI, 24, .inl (fun _ => 0))), (q11, .inl (cI, 24, .inl (fun _ => 0)))] H := hP
  have hD : va_D A [(h0, .inr (1, [.ref q1, .ref q2, .ref q3, .ref q4, .ref q5, .ref q6, .ref q7, .ref q8, .ref q9, .ref q10, .ref q11, .int 0, .int 0, .int 0])), (q1, .inl (cI, 24, .inl (fun _ => 0))), (q2, .inl (cI, 24, .inl (fun _ => 0))), (q3, .inl (cI, 24, .inl (fun _ => 0))), (q4, .inl (cI, 4, .inl (fun _ => 0))), (q5, .inl (cI, 96, .inl (fun _ => 0))), (q6, .inl (cI, 96, .inl (fun _ => 0))), (q7, .inl (cI, 96, .inl (fun _ => 0))), (q8, .inl (cI, 96, .inl (fun _ => 0))), (q9, .inl (cI, 24, .inl (fun _ => 0))), (q10, .inl (cI, 24, .inl (fun _ => 0))), (q11, .inl (cI, 24, .inl (fun _ => 0)))] := hD
  refine W.widen (k := 11) (n := 532) (Nat.le_of_ble_eq_true rfl) (Nat.le_of_ble_eq_true rfl) ?_
  exact W.vret hx hb hr (fun t ht hW => ⟨⟨fun k => ([h0, q1, q2, q3, q4, q5, q6, q7, q8, q9, q10, q11] : List Nat).getD k 0, rfl, trivial, by rw [ht]; exact hP, hD⟩, hS.F ht⟩) hS.2.2 cd_House_91
def cy_Keeping : MethodName := ⟨"BorderThroughBed$Keeping", "<init>", "()V"⟩
abbrev cb_Keeping : ByteArray := prog_5_method_1_code
theorem cd_Keeping_0 : decode cb_Keeping 0 = .ok (.aload_n 0, 1) := by decide +kernel
theorem cd_Keeping_1 : decode cb_Keeping 1 = .ok (.invokespecial 3, 3) := by decide +kernel
theorem cd_Keeping_4 : decode cb_Keeping 4 = .ok (.aload_n 0, 1) := by decide +kernel
theorem cd_Keeping_5 : decode cb_Keeping 5 = .ok (.bipush 6, 2) := by decide +kernel
theorem cd_Keeping_7 : decode cb_Keeping 7 = .ok (.newarray .int, 2) := by decide +kernel
theorem cd_Keeping_9 : decode cb_Keeping 9 = .ok (.putfield 9, 3) := by decide +kernel
theorem cd_Keeping_12 : decode cb_Keeping 12 = .ok (.aload_n 0, 1) := by decide +kernel
theorem cd_Keeping_13 : decode cb_Keeping 13 = .ok (.sipush 144, 3) := by decide +kernel
theorem cd_Keeping_16 : decode cb_Keeping 16 = .ok (.newarray .int, 2) := by decide +kernel
theorem cd_Keeping_18 : decode cb_Keeping 18 = .ok (.putfield 15, 3) := by decide +kernel
theorem cd_Keeping_21 : decode cb_Keeping 21 = .ok (.return_, 1) := by decide +kernel
theorem cw_38 : (Jvm.Cond.code cy_Keeping cb_Keeping 1 none) ∈ ex_tb := ex_in (i := 214) (by decide +kernel) (by decide +kernel)
theorem cw_39 : (Jvm.Cond.initialized "BorderThroughBed$Keeping") ∈ ex_tb := ex_in (i := 36) (by decide +kernel) (by decide +kernel)
theorem cw_40 : (Jvm.Cond.instanceMethod cy_Keeping) ∈ ex_tb := ex_in (i := 213) (by decide +kernel) (by decide +kernel)
theorem cw_41 : (Jvm.Cond.methodLink "BorderThroughBed$Keeping" 3 Lib.objectInit) ∈ ex_tb := ex_in (i := 215) (by decide +kernel) (by decide +kernel)
set_option maxHeartbeats 4000000 in
set_option maxRecDepth 100000 in
theorem c_Keeping (l : Launch) (dC : Nat → ClassId) (dI : Nat → Nat → Nat) (cI cB : ClassId) (h0 sz : Nat) : Met l cy_Keeping (cx_ws cy_Keeping cb_Keeping 1) { frames := 1, cells := 2, slots := 150, locals := 12 } (va_Pc [.ref h0] (cx_Pre dC dI cI cB sz [(h0, .inr (3, [.null, .null, .int 0]))])) (cx_Post dC dI (va_A [(h0, .inr (3, [.null, .null, .int 0]))] sz) (fun u => [(h0, .inr (3, [.ref (u 1), .ref (u 2), .int 0])), ((u 1), .inl (cI, 6, .inl (fun _ => 0))), ((u 2), .inl (cI, 144, .inl (fun _ => 0)))])) 2 150 (va_A [(h0, .inr (3, [.null, .null, .int 0]))] sz) := by
  refine Met.ofW (cc := cb_Keeping) (maxL := 1) (ret := none) (by decide) rfl ?_
  intro p e s m args below meth c s₁ B hml hv
  obtain ⟨rfl, hsz, hP, hK, hN, hD0⟩ := hv
  have hx := B.exec
  have hb := B.bytes
  have hr := B.returns
  have hts0 := atoms_spec (ws := cx_ws cy_Keeping cb_Keeping 1) B.pre
  have hts : ∀ w ∈ ex_tb, w.before _ s = true := fun w h => hts0 w (List.mem_cons_of_mem _ h)
  have hown : s.vm.findClass "BorderThroughBed$Keeping" = some m.cls := findClass_of_methodNamed B.named
  have hlocks := B.notSynchronized
  have hin : meth.name = "<init>" := (name_of_methodNamed B.named B.method).1
  subst hsz
  have hD := hD0.self (sz := s.heap.size)
  generalize hAe : va_A [(h0, .inr (3, [.null, .null, .int 0]))] s.heap.size = A at hD ⊢
  have hA : ∀ q : Nat, s.heap.size ≤ q → A q := fun q h => by rw [← hAe]; exact Or.inr h
  have hS : va_S A s.heap s.heap [] := va_S.rf
  have hl := lv_entry ([.ref h0]) (n := 1) (Nat.le_of_ble_eq_true rfl)
  rw [lg_entry_eq]
  generalize (lg_sl ([.ref h0]) ++ List.replicate (1 - (lg_sl ([.ref h0])).length) Slot.unset).toArray = ls at hl ⊢
  have hl : lv_has ls 1 [(0, .ref h0)] := hl
  refine lv_aload_n hx hb cd_Keeping_0 rfl (lv_at hl 0 rfl) ?_
  refine W.objInit (own := "BorderThroughBed$Keeping") hx hb hown (hts _ cw_41) (hts _ cw_4) (hts _ cw_5) rfl (by rw [hml]; exact hl.1) rfl cd_Keeping_1 (Nat.le_of_ble_eq_true rfl) (Nat.le_of_ble_eq_true rfl) ?_
  refine W.eq (g2 := F0 m 4 ls []) rfl ?_
  refine lv_aload_n hx hb cd_Keeping_4 rfl (lv_at hl 0 rfl) ?_
  refine lv_bipush (v := 6) hx hb cd_Keeping_5 (by decide) ?_
  refine cx_newi (N := 6) hx hb hts hK hP hD hS hA (by decide) (by decide) (Nat.le_of_ble_eq_true rfl) (Nat.le_of_ble_eq_true rfl) (Nat.le_of_ble_eq_true rfl) cd_Keeping_7 (fun q1 H hP hD hS => ?_)
  refine W.widen (k := 1) (n := 6) (Nat.le_of_ble_eq_true rfl) (Nat.le_of_ble_eq_true rfl) ?_
  refine cx_putF (ci := 3) (k := 0) (v := .ref q1) (a := h0) (fs := [.null, .null, .int 0]) hx hb hts hown (by decide) (kq_F (c := 3) (by decide) (9, 192) (ex_lk (by decide +kernel))).1 hK hP hD hS 0 rfl (by decide) rfl hin rfl rfl (Nat.le_of_ble_eq_true rfl) cd_Keeping_9 (fun H locs hP hD hS => ?_)
  have hP : va_P (dC, dI) ex_cm [(h0, .inr (3, [.ref q1, .null, .int 0])), (q1, .inl (cI, 6, .inl (fun _ => 0)))] H := hP
  have hD : va_D A [(h0, .inr (3, [.ref q1, .null, .int 0])), (q1, .inl (cI, 6, .inl (fun _ => 0)))] := hD
  refine lv_aload_n hx hb cd_Keeping_12 rfl (lv_at hl 0 rfl) ?_
  refine lv_sipush (v := 144) hx hb cd_Keeping_13 (by decide) ?_
  refine cx_newi (N := 144) hx hb hts hK hP hD hS hA (by decide) (by decide) (Nat.le_of_ble_eq_true rfl) (Nat.le_of_ble_eq_true rfl) (Nat.le_of_ble_eq_true rfl) cd_Keeping_16 (fun q2 H hP hD hS => ?_)
  refine W.widen (k := 2) (n := 150) (Nat.le_of_ble_eq_true rfl) (Nat.le_of_ble_eq_true rfl) ?_
  refine cx_putF (ci := 3) (k := 1) (v := .ref q2) (a := h0) (fs := [.ref q1, .null, .int 0]) hx hb hts hown (by decide) (kq_F (c := 3) (by decide) (15, 193) (ex_lk (by decide +kernel))).1 hK hP hD hS 0 rfl (by decide) rfl hin rfl rfl (Nat.le_of_ble_eq_true rfl) cd_Keeping_18 (fun H locs hP hD hS => ?_)
  have hP : va_P (dC, dI) ex_cm [(h0, .inr (3, [.ref q1, .ref q2, .int 0])), (q1, .inl (cI, 6, .inl (fun _ => 0))), (q2, .inl (cI, 144, .inl (fun _ => 0)))] H := hP
  have hD : va_D A [(h0, .inr (3, [.ref q1, .ref q2, .int 0])), (q1, .inl (cI, 6, .inl (fun _ => 0))), (q2, .inl (cI, 144, .inl (fun _ => 0)))] := hD
  refine W.widen (k := 2) (n := 150) (Nat.le_of_ble_eq_true rfl) (Nat.le_of_ble_eq_true rfl) ?_
  exact W.vret hx hb hr (fun t ht hW => ⟨⟨fun k => ([h0, q1, q2] : List Nat).getD k 0, rfl, trivial, by rw [ht]; exact hP, hD⟩, hS.F ht⟩) hS.2.2 cd_Keeping_21
def cy_Mover : MethodName := ⟨"BorderThroughBed$Mover", "<init>", "()V"⟩
abbrev cb_Mover : ByteArray := prog_8_method_1_code
theorem cd_Mover_0 : decode cb_Mover 0 = .ok (.aload_n 0, 1) := by decide +kernel
theorem cd_Mover_1 : decode cb_Mover 1 = .ok (.invokespecial 3, 3) := by decide +kernel
theorem cd_Mover_4 : decode cb_Mover 4 = .ok (.aload_n 0, 1) := by decide +kernel
theorem cd_Mover_5 : decode cb_Mover 5 = .ok (.iconst 3, 1) := by decide +kernel
theorem cd_Mover_6 : decode cb_Mover 6 = .ok (.newarray .int, 2) := by decide +kernel
theorem cd_Mover_8 : decode cb_Mover 8 = .ok (.putfield 9, 3) := by decide +kernel
theorem cd_Mover_11 : decode cb_Mover 11 = .ok (.aload_n 0, 1) := by decide +kernel
theorem cd_Mover_12 : decode cb_Mover 12 = .ok (.iconst 3, 1) := by decide +kernel
theorem cd_Mover_13 : decode cb_Mover 13 = .ok (.newarray .int, 2) := by decide +kernel
theorem cd_Mover_15 : decode cb_Mover 15 = .ok (.putfield 15, 3) := by decide +kernel
theorem cd_Mover_18 : decode cb_Mover 18 = .ok (.aload_n 0, 1) := by decide +kernel
theorem cd_Mover_19 : decode cb_Mover 19 = .ok (.iconst 3, 1) := by decide +kernel
theorem cd_Mover_20 : decode cb_Mover 20 = .ok (.newarray .int, 2) := by decide +kernel
theorem cd_Mover_22 : decode cb_Mover 22 = .ok (.putfield 18, 3) := by decide +kernel
theorem cd_Mover_25 : decode cb_Mover 25 = .ok (.aload_n 0, 1) := by decide +kernel
theorem cd_Mover_26 : decode cb_Mover 26 = .ok (.iconst 5, 1) := by decide +kernel
theorem cd_Mover_27 : decode cb_Mover 27 = .ok (.newarray .int, 2) := by decide +kernel
theorem cd_Mover_29 : decode cb_Mover 29 = .ok (.putfield 21, 3) := by decide +kernel
theorem cd_Mover_32 : decode cb_Mover 32 = .ok (.return_, 1) := by decide +kernel
theorem cw_42 : (Jvm.Cond.code cy_Mover cb_Mover 1 none) ∈ ex_tb := ex_in (i := 229) (by decide +kernel) (by decide +kernel)
theorem cw_43 : (Jvm.Cond.initialized "BorderThroughBed$Mover") ∈ ex_tb := ex_in (i := 37) (by decide +kernel) (by decide +kernel)
theorem cw_44 : (Jvm.Cond.instanceMethod cy_Mover) ∈ ex_tb := ex_in (i := 228) (by decide +kernel) (by decide +kernel)
theorem cw_45 : (Jvm.Cond.methodLink "BorderThroughBed$Mover" 3 Lib.objectInit) ∈ ex_tb := ex_in (i := 230) (by decide +kernel) (by decide +kernel)
set_option maxHeartbeats 4000000 in
set_option maxRecDepth 100000 in
theorem c_Mover (l : Launch) (dC : Nat → ClassId) (dI : Nat → Nat → Nat) (cI cB : ClassId) (h0 sz : Nat) : Met l cy_Mover (cx_ws cy_Mover cb_Mover 1) { frames := 1, cells := 4, slots := 14, locals := 12 } (va_Pc [.ref h0] (cx_Pre dC dI cI cB sz [(h0, .inr (6, [.null, .null, .null, .null, .int 0, .int 0]))])) (cx_Post dC dI (va_A [(h0, .inr (6, [.null, .null, .null, .null, .int 0, .int 0]))] sz) (fun u => [(h0, .inr (6, [.ref (u 1), .ref (u 2), .ref (u 3), .ref (u 4), .int 0, .int 0])), ((u 1), .inl (cI, 3, .inl (fun _ => 0))), ((u 2), .inl (cI, 3, .inl (fun _ => 0))), ((u 3), .inl (cI, 3, .inl (fun _ => 0))), ((u 4), .inl (cI, 5, .inl (fun _ => 0)))])) 4 14 (va_A [(h0, .inr (6, [.null, .null, .null, .null, .int 0, .int 0]))] sz) := by
  refine Met.ofW (cc := cb_Mover) (maxL := 1) (ret := none) (by decide) rfl ?_
  intro p e s m args below meth c s₁ B hml hv
  obtain ⟨rfl, hsz, hP, hK, hN, hD0⟩ := hv
  have hx := B.exec
  have hb := B.bytes
  have hr := B.returns
  have hts0 := atoms_spec (ws := cx_ws cy_Mover cb_Mover 1) B.pre
  have hts : ∀ w ∈ ex_tb, w.before _ s = true := fun w h => hts0 w (List.mem_cons_of_mem _ h)
  have hown : s.vm.findClass "BorderThroughBed$Mover" = some m.cls := findClass_of_methodNamed B.named
  have hlocks := B.notSynchronized
  have hin : meth.name = "<init>" := (name_of_methodNamed B.named B.method).1
  subst hsz
  have hD := hD0.self (sz := s.heap.size)
  generalize hAe : va_A [(h0, .inr (6, [.null, .null, .null, .null, .int 0, .int 0]))] s.heap.size = A at hD ⊢
  have hA : ∀ q : Nat, s.heap.size ≤ q → A q := fun q h => by rw [← hAe]; exact Or.inr h
  have hS : va_S A s.heap s.heap [] := va_S.rf
  have hl := lv_entry ([.ref h0]) (n := 1) (Nat.le_of_ble_eq_true rfl)
  rw [lg_entry_eq]
  generalize (lg_sl ([.ref h0]) ++ List.replicate (1 - (lg_sl ([.ref h0])).length) Slot.unset).toArray = ls at hl ⊢
  have hl : lv_has ls 1 [(0, .ref h0)] := hl
  refine lv_aload_n hx hb cd_Mover_0 rfl (lv_at hl 0 rfl) ?_
  refine W.objInit (own := "BorderThroughBed$Mover") hx hb hown (hts _ cw_45) (hts _ cw_4) (hts _ cw_5) rfl (by rw [hml]; exact hl.1) rfl cd_Mover_1 (Nat.le_of_ble_eq_true rfl) (Nat.le_of_ble_eq_true rfl) ?_
  refine W.eq (g2 := F0 m 4 ls []) rfl ?_
  refine lv_aload_n hx hb cd_Mover_4 rfl (lv_at hl 0 rfl) ?_
  refine lv_iconst (v := 3) hx hb cd_Mover_5 (by decide) ?_
  refine cx_newi (N := 3) hx hb hts hK hP hD hS hA (by decide) (by decide) (Nat.le_of_ble_eq_true rfl) (Nat.le_of_ble_eq_true rfl) (Nat.le_of_ble_eq_true rfl) cd_Mover_6 (fun q1 H hP hD hS => ?_)
  refine W.widen (k := 1) (n := 3) (Nat.le_of_ble_eq_true rfl) (Nat.le_of_ble_eq_true rfl) ?_
  refine cx_putF (ci := 6) (k := 0) (v := .ref q1) (a := h0) (fs := [.null, .null, .null, .null, .int 0, .int 0]) hx hb hts hown (by decide) (kq_F (c := 6) (by decide) (9, 384) (ex_lk (by decide +kernel))).1 hK hP hD hS 0 rfl (by decide) rfl hin rfl rfl (Nat.le_of_ble_eq_true rfl) cd_Mover_8 (fun H locs hP hD hS => ?_)
  have hP : va_P (dC, dI) ex_cm [(h0, .inr (6, [.ref q1, .null, .null, .null, .int 0, .int 0])), (q1, .inl (cI, 3, .inl (fun _ => 0)))] H := hP
  have hD : va_D A [(h0, .inr (6, [.ref q1, .null, .null, .null, .int 0, .int 0])), (q1, .inl (cI, 3, .inl (fun _ => 0)))] := hD
  refine lv_aload_n hx hb cd_Mover_11 rfl (lv_at hl 0 rfl) ?_
  refine lv_iconst (v := 3) hx hb cd_Mover_12 (by decide) ?_
  refine cx_newi (N := 3) hx hb hts hK hP hD hS hA (by decide) (by decide) (Nat.le_of_ble_eq_true rfl) (Nat.le_of_ble_eq_true rfl) (Nat.le_of_ble_eq_true rfl) cd_Mover_13 (fun q2 H hP hD hS => ?_)
  refine W.widen (k := 2) (n := 6) (Nat.le_of_ble_eq_true rfl) (Nat.le_of_ble_eq_true rfl) ?_
  refine cx_putF (ci := 6) (k := 1) (v := .ref q2) (a := h0) (fs := [.ref q1, .null, .null, .null, .int 0, .int 0]) hx hb hts hown (by decide) (kq_F (c := 6) (by decide) (15, 385) (ex_lk (by decide +kernel))).1 hK hP hD hS 0 rfl (by decide) rfl hin rfl rfl (Nat.le_of_ble_eq_true rfl) cd_Mover_15 (fun H locs hP hD hS => ?_)
  have hP : va_P (dC, dI) ex_cm [(h0, .inr (6, [.ref q1, .ref q2, .null, .null, .int 0, .int 0])), (q1, .inl (cI, 3, .inl (fun _ => 0))), (q2, .inl (cI, 3, .inl (fun _ => 0)))] H := hP
  have hD : va_D A [(h0, .inr (6, [.ref q1, .ref q2, .null, .null, .int 0, .int 0])), (q1, .inl (cI, 3, .inl (fun _ => 0))), (q2, .inl (cI, 3, .inl (fun _ => 0)))] := hD
  refine lv_aload_n hx hb cd_Mover_18 rfl (lv_at hl 0 rfl) ?_
  refine lv_iconst (v := 3) hx hb cd_Mover_19 (by decide) ?_
  refine cx_newi (N := 3) hx hb hts hK hP hD hS hA (by decide) (by decide) (Nat.le_of_ble_eq_true rfl) (Nat.le_of_ble_eq_true rfl) (Nat.le_of_ble_eq_true rfl) cd_Mover_20 (fun q3 H hP hD hS => ?_)
  refine W.widen (k := 3) (n := 9) (Nat.le_of_ble_eq_true rfl) (Nat.le_of_ble_eq_true rfl) ?_
  refine cx_putF (ci := 6) (k := 2) (v := .ref q3) (a := h0) (fs := [.ref q1, .ref q2, .null, .null, .int 0, .int 0]) hx hb hts hown (by decide) (kq_F (c := 6) (by decide) (18, 386) (ex_lk (by decide +kernel))).1 hK hP hD hS 0 rfl (by decide) rfl hin rfl rfl (Nat.le_of_ble_eq_true rfl) cd_Mover_22 (fun H locs hP hD hS => ?_)
  have hP : va_P (dC, dI) ex_cm [(h0, .inr (6, [.ref q1, .ref q2, .ref q3, .null, .int 0, .int 0])), (q1, .inl (cI, 3, .inl (fun _ => 0))), (q2, .inl (cI, 3, .inl (fun _ => 0))), (q3, .inl (cI, 3, .inl (fun _ => 0)))] H := hP
  have hD : va_D A [(h0, .inr (6, [.ref q1, .ref q2, .ref q3, .null, .int 0, .int 0])), (q1, .inl (cI, 3, .inl (fun _ => 0))), (q2, .inl (cI, 3, .inl (fun _ => 0))), (q3, .inl (cI, 3, .inl (fun _ => 0)))] := hD
  refine lv_aload_n hx hb cd_Mover_25 rfl (lv_at hl 0 rfl) ?_
  refine lv_iconst (v := 5) hx hb cd_Mover_26 (by decide) ?_
  refine cx_newi (N := 5) hx hb hts hK hP hD hS hA (by decide) (by decide) (Nat.le_of_ble_eq_true rfl) (Nat.le_of_ble_eq_true rfl) (Nat.le_of_ble_eq_true rfl) cd_Mover_27 (fun q4 H hP hD hS => ?_)
  refine W.widen (k := 4) (n := 14) (Nat.le_of_ble_eq_true rfl) (Nat.le_of_ble_eq_true rfl) ?_
  refine cx_putF (ci := 6) (k := 3) (v := .ref q4) (a := h0) (fs := [.ref q1, .ref q2, .ref q3, .null, .int 0, .int 0]) hx hb hts hown (by decide) (kq_F (c := 6) (by decide) (21, 387) (ex_lk (by decide +kernel))).1 hK hP hD hS 0 rfl (by decide) rfl hin rfl rfl (Nat.le_of_ble_eq_true rfl) cd_Mover_29 (fun H locs hP hD hS => ?_)
  have hP : va_P (dC, dI) ex_cm [(h0, .inr (6, [.ref q1, .ref q2, .ref q3, .ref q4, .int 0, .int 0])), (q1, .inl (cI, 3, .inl (fun _ => 0))), (q2, .inl (cI, 3, .inl (fun _ => 0))), (q3, .inl (cI, 3, .inl (fun _ => 0))), (q4, .inl (cI, 5, .inl (fun _ => 0)))] H := hP
  have hD : va_D A [(h0, .inr (6, [.ref q1, .ref q2, .ref q3, .ref q4, .int 0, .int 0])), (q1, .inl (cI, 3, .inl (fun _ => 0))), (q2, .inl (cI, 3, .inl (fun _ => 0))), (q3, .inl (cI, 3, .inl (fun _ => 0))), (q4, .inl (cI, 5, .inl (fun _ => 0)))] := hD
  refine W.widen (k := 4) (n := 14) (Nat.le_of_ble_eq_true rfl) (Nat.le_of_ble_eq_true rfl) ?_
  exact W.vret hx hb hr (fun t ht hW => ⟨⟨fun k => ([h0, q1, q2, q3, q4] : List Nat).getD k 0, rfl, trivial, by rw [ht]; exact hP, hD⟩, hS.F ht⟩) hS.2.2 cd_Mover_32
