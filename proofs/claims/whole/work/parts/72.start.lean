/-! the start of the law: the words of its two objects, the addresses, the static rows -/
theorem ls_cl0 : (Jvm.Cond.classLink "BorderThroughBedLaw" 7 "BorderThroughBed") ∈ ex_tb := ex_in (i := 108) (by decide +kernel) (by decide +kernel)
theorem ls_cl1 : (Jvm.Cond.classLink "BorderThroughBedLaw" 10 "BorderThroughBedModel") ∈ ex_tb := ex_in (i := 1016) (by decide +kernel) (by decide +kernel)
theorem ls_i0 : (Jvm.Cond.methodLink "BorderThroughBedLaw" 9 cy_Main) ∈ ex_tb := ex_in (i := 110) (by decide +kernel) (by decide +kernel)
theorem ls_i1 : (Jvm.Cond.methodLink "BorderThroughBedLaw" 12 cy_Model) ∈ ex_tb := ex_in (i := 1018) (by decide +kernel) (by decide +kernel)
theorem ls_n0 : (Jvm.Cond.instantiable (ex_Rn 0) 4) ∈ ex_tb := ex_in (i := 256) (by decide +kernel) (by decide +kernel)
theorem ls_n1 : (Jvm.Cond.instantiable (ex_Rn 1) 14) ∈ ex_tb := ex_in (i := 181) (by decide +kernel) (by decide +kernel)
theorem ls_n2 : (Jvm.Cond.instantiable (ex_Rn 2) 4) ∈ ex_tb := ex_in (i := 131) (by decide +kernel) (by decide +kernel)
theorem ls_n3 : (Jvm.Cond.instantiable (ex_Rn 3) 3) ∈ ex_tb := ex_in (i := 283) (by decide +kernel) (by decide +kernel)
theorem ls_n4 : (Jvm.Cond.instantiable (ex_Rn 4) 7) ∈ ex_tb := ex_in (i := 153) (by decide +kernel) (by decide +kernel)
theorem ls_n5 : (Jvm.Cond.instantiable (ex_Rn 5) 1) ∈ ex_tb := ex_in (i := 230) (by decide +kernel) (by decide +kernel)
theorem ls_n6 : (Jvm.Cond.instantiable (ex_Rn 6) 6) ∈ ex_tb := ex_in (i := 299) (by decide +kernel) (by decide +kernel)
theorem ls_n7 : (Jvm.Cond.instantiable (ex_Rn 7) 2) ∈ ex_tb := ex_in (i := 117) (by decide +kernel) (by decide +kernel)
theorem ls_n8 : (Jvm.Cond.instantiable (ex_Rn 8) 3) ∈ ex_tb := ex_in (i := 236) (by decide +kernel) (by decide +kernel)
theorem ls_n10 : (Jvm.Cond.instantiable (ex_Rn 10) 12) ∈ ex_tb := ex_in (i := 109) (by decide +kernel) (by decide +kernel)
theorem ls_n11 : (Jvm.Cond.instantiable (ex_Rn 11) 58) ∈ ex_tb := ex_in (i := 1017) (by decide +kernel) (by decide +kernel)
theorem ls_z10 : (Jvm.Cond.initialized (ex_Rn 10)) ∈ ex_tb := ex_in (i := 94) (by decide +kernel) (by decide +kernel)
theorem ls_z11 : (Jvm.Cond.initialized (ex_Rn 11)) ∈ ex_tb := ex_in (i := 105) (by decide +kernel) (by decide +kernel)
theorem ls_zh : (Jvm.Cond.initialized "BorderThroughBed$House") ∈ ex_tb := ex_in (i := 99) (by decide +kernel) (by decide +kernel)
theorem ls_sDOWN : (Jvm.Cond.laysStatic "BorderThroughBed$House" "DOWN" "[I") ∈ lw_tbl := List.mem_of_getElem? (i := 509) (by decide +kernel)
theorem ls_sRIGHT : (Jvm.Cond.laysStatic "BorderThroughBed$House" "RIGHT" "[I") ∈ lw_tbl := List.mem_of_getElem? (i := 511) (by decide +kernel)
theorem ls_sup : (Jvm.Cond.superclass "BorderThroughBed$HouseText" "BorderThroughBed$Text") ∈ lw_tbl := List.mem_of_getElem? (i := 151) (by decide +kernel)
theorem ls_text {args : Array Value} {s : State} (h : (Jvm.Cond.superclass "BorderThroughBed$HouseText" "BorderThroughBed$Text").before args s = true) : ∃ cC, ClassAt s "BorderThroughBed$Text" cC := by
  simp only [Cond.before, Cond.holds, Cond.value] at h
  cases hc : s.vm.findClass "BorderThroughBed$HouseText" with
  | none => simp [hc] at h
  | some c =>
    cases hp : s.vm.findClass "BorderThroughBed$Text" with
    | none => simp [hc, hp] at h
    | some p =>
      cases hk : s.vm.classes[c]? with
      | none => simp [hc, hp, hk] at h
      | some k =>
        cases hkp : s.vm.classes[p]? with
        | none => simp [hc, hp, hk, hkp] at h
        | some kp =>
          simp [hc, hp, hk, hkp] at h
          exact ⟨p, hp, kp, hkp, h.1.2⟩
theorem ls_known {args : Array Value} {s : State} (htb : ∀ w ∈ ex_tb, w.before args s = true) (hsup : (Jvm.Cond.superclass "BorderThroughBed$HouseText" "BorderThroughBed$Text").before args s = true) : ∃ (dC : Nat → ClassId) (dI : Nat → Nat → Nat), ∀ c, c < 12 → u_Kn s (ex_Rn c) (ex_T c) (ex_N c) (dC c) (dI c) := by
  have h : ∀ c, ∃ (cC : ClassId) (iS : Nat → Nat), c < 12 → u_Kn s (ex_Rn c) (ex_T c) (ex_N c) cC iS := by
    intro c
    by_cases hc : c < 12
    · have h1 : ∃ (cC : ClassId) (iS : Nat → Nat), u_Kn s (ex_Rn c) (ex_T c) (ex_N c) cC iS := by
        match c, hc with
        | 0, _ => exact u_known htb (ku_all (c := 0) (by decide)) (htb _ ls_n0)
        | 1, _ => exact u_known htb (ku_all (c := 1) (by decide)) (htb _ ls_n1)
        | 2, _ => exact u_known htb (ku_all (c := 2) (by decide)) (htb _ ls_n2)
        | 3, _ => exact u_known htb (ku_all (c := 3) (by decide)) (htb _ ls_n3)
        | 4, _ => exact u_known htb (ku_all (c := 4) (by decide)) (htb _ ls_n4)
        | 5, _ => exact u_known htb (ku_all (c := 5) (by decide)) (htb _ ls_n5)
        | 6, _ => exact u_known htb (ku_all (c := 6) (by decide)) (htb _ ls_n6)
        | 7, _ => exact u_known htb (ku_all (c := 7) (by decide)) (htb _ ls_n7)
        | 8, _ => exact u_known htb (ku_all (c := 8) (by decide)) (htb _ ls_n8)
        | 9, _ => obtain ⟨cC, h9⟩ := ls_text hsup; exact ⟨cC, fun _ => 0, fun k hk => absurd hk (Nat.not_lt_zero k), h9⟩
        | 10, _ => exact u_known htb (ku_all (c := 10) (by decide)) (htb _ ls_n10)
        | 11, _ => exact u_known htb (ku_all (c := 11) (by decide)) (htb _ ls_n11)
        | n + 12, h => exact absurd h (by omega)
      obtain ⟨cC, iS, h2⟩ := h1
      exact ⟨cC, iS, fun _ => h2⟩
    · exact ⟨0, fun _ => 0, fun h => absurd h hc⟩
  exact ⟨fun c => Classical.choose (h c), fun c => Classical.choose (Classical.choose_spec (h c)), fun c hc => Classical.choose_spec (Classical.choose_spec (h c)) hc⟩
theorem ls_K {s : State} {dC : Nat → ClassId} {dI : Nat → Nat → Nat} (h : ∀ c, c < 12 → u_Kn s (ex_Rn c) (ex_T c) (ex_N c) (dC c) (dI c)) (k : Nat) (q : vw_C) (hq : ex_cl[k]? = some q) : u_Kn s q.1 q.2.1 q.2.2 (dC k) (dI k) := by
  have hk : k < 12 := (List.getElem?_eq_some_iff.mp hq).1
  rw [ex_cl_at hk] at hq
  cases hq
  exact h k hk
def x_ad (q0 q1 tD tR : Nat) (u v : Nat → Nat) (o : Nat) : Nat := if o = 1000 then tD else if o = 1001 then tR else if o = 0 then q0 else if o < 46 then u o else if o = 46 then q1 else v (o - 46)

set_option maxRecDepth 100000 in
set_option maxHeartbeats 4000000 in
theorem x_cel {q0 q1 tD tR : Nat} {u v : Nat → Nat} {cI cB : ClassId} : ex_cel (x_ad q0 q1 tD tR u v) cI cB x_w0 = [(q0, .inr (10, [.ref (u 1), .ref (u 3), .ref (u 4), .ref (u 5), .ref (u 17), .ref (u 20), .ref (u 29), .ref (u 38), .ref (u 41), .int 0, .int 0, .int 0])), ((u 1), .inr (7, [.ref (u 2), .int 0])), ((u 2), .inl (cI, 40, .inl (fun _ => 0))), ((u 3), .inr (2, [.int 0, .int 0, .int 0, .int 0])), ((u 4), .inr (4, [.int 0, .int 0, .int 0, .int 0, .int 0, .int 0, .int 0])), ((u 5), .inr (1, [.ref (u 6), .ref (u 7), .ref (u 8), .ref (u 9), .ref (u 10), .ref (u 11), .ref (u 12), .ref (u 13), .ref (u 14), .ref (u 15), .ref (u 16), .int 0, .int 0, .int 0])), ((u 6), .inl (cI, 24, .inl (fun _ => 0))), ((u 7), .inl (cI, 24, .inl (fun _ => 0))), ((u 8), .inl (cI, 24, .inl (fun _ => 0))), ((u 9), .inl (cI, 4, .inl (fun _ => 0))), ((u 10), .inl (cI, 96, .inl (fun _ => 0))), ((u 11), .inl (cI, 96, .inl (fun _ => 0))), ((u 12), .inl (cI, 96, .inl (fun _ => 0))), ((u 13), .inl (cI, 96, .inl (fun _ => 0))), ((u 14), .inl (cI, 24, .inl (fun _ => 0))), ((u 15), .inl (cI, 24, .inl (fun _ => 0))), ((u 16), .inl (cI, 24, .inl (fun _ => 0))), ((u 17), .inr (5, [.ref (u 18)])), ((u 18), .inr (8, [.ref (u 19), .int 8, .int 0])), ((u 19), .inl (cI, 60, .inl (fun _ => 0))), ((u 20), .inr (0, [.ref (u 21), .ref (u 23), .ref (u 25), .ref (u 27)])), ((u 21), .inr (8, [.ref (u 22), .int 3, .int 0])), ((u 22), .inl (cI, 60, .inl (fun _ => 0))), ((u 23), .inr (8, [.ref (u 24), .int 12, .int 0])), ((u 24), .inl (cI, 60, .inl (fun _ => 0))), ((u 25), .inr (8, [.ref (u 26), .int 6, .int 0])), ((u 26), .inl (cI, 60, .inl (fun _ => 0))), ((u 27), .inr (8, [.ref (u 28), .int 10, .int 0])), ((u 28), .inl (cI, 60, .inl (fun _ => 0))), ((u 29), .inr (0, [.ref (u 30), .ref (u 32), .ref (u 34), .ref (u 36)])), ((u 30), .inr (8, [.ref (u 31), .int 3, .int 0])), ((u 31), .inl (cI, 60, .inl (fun _ => 0))), ((u 32), .inr (8, [.ref (u 33), .int 12, .int 0])), ((u 33), .inl (cI, 60, .inl (fun _ => 0))), ((u 34), .inr (8, [.ref (u 35), .int 6, .int 0])), ((u 35), .inl (cI, 60, .inl (fun _ => 0))), ((u 36), .inr (8, [.ref (u 37), .int 10, .int 0])), ((u 37), .inl (cI, 60, .inl (fun _ => 0))), ((u 38), .inr (3, [.ref (u 39), .ref (u 40), .int 0])), ((u 39), .inl (cI, 6, .inl (fun _ => 0))), ((u 40), .inl (cI, 144, .inl (fun _ => 0))), ((u 41), .inr (6, [.ref (u 42), .ref (u 43), .ref (u 44), .ref (u 45), .int 0, .int 0])), ((u 42), .inl (cI, 3, .inl (fun _ => 0))), ((u 43), .inl (cI, 3, .inl (fun _ => 0))), ((u 44), .inl (cI, 3, .inl (fun _ => 0))), ((u 45), .inl (cI, 5, .inl (fun _ => 0))), (q1, .inr (11, [.int 0, .int 0, .int 0, .ref (v 1), .ref (v 2), .int 0, .ref (v 3), .ref (v 4), .ref (v 5), .ref (v 6), .ref (v 7), .int 0, .ref (v 8), .int 0, .ref (v 9), .ref (v 10), .ref (v 11), .int 0, .ref (v 12), .ref (v 13), .int 0, .ref (v 14), .ref (v 15), .int 0, .int 0, .ref (v 16), .int 0, .int 0, .int 0, .int 0, .int 0, .int 0, .ref (v 17), .ref (v 18), .ref (v 19), .ref (v 20), .int 0, .int 0, .int 0, .int 0, .int 0, .int 0, .ref (v 21), .ref (v 22), .int 0, .int 0, .int 0, .int 0, .int 0, .int 0, .ref (v 23), .ref (v 24), .int 0, .int 0, .int 0, .int 0, .int 0, .long 0])), ((v 1), .inl (cI, 24, .inl (fun _ => 0))), ((v 2), .inl (cI, 4, .inl (fun _ => 0))), ((v 3), .inl (cI, 8, .inl (fun _ => 0))), ((v 4), .inl (cI, 8, .inl (fun _ => 0))), ((v 5), .inl (cI, 8, .inl (fun _ => 0))), ((v 6), .inl (cI, 8, .inl (fun _ => 0))), ((v 7), .inl (cI, 8, .inl (fun _ => 0))), ((v 8), .inl (cI, 60, .inl (fun _ => 0))), ((v 9), .inl (cI, 3, .inl (fun _ => 0))), ((v 10), .inl (cI, 3, .inl (fun _ => 0))), ((v 11), .inl (cI, 3, .inl (fun _ => 0))), ((v 12), .inl (cI, 6, .inl (fun _ => 0))), ((v 13), .inl (cI, 6, .inl (fun _ => 0))), ((v 14), .inl (cI, 10, .inl (fun _ => 0))), ((v 15), .inl (cI, 10, .inl (fun _ => 0))), ((v 16), .inl (cB, 40, .inl (fun _ => 0))), ((v 17), .inl (cI, 9, .inl (fun _ => 0))), ((v 18), .inl (cI, 60, .inl (fun _ => 0))), ((v 19), .inl (cI, 12, .inl (fun _ => 0))), ((v 20), .inl (cI, 20, .inl (fun _ => 0))), ((v 21), .inl (cI, 24, .inl (fun _ => 0))), ((v 22), .inl (cI, 4, .inl (fun _ => 0))), ((v 23), .inl (cI, 24, .inl (fun _ => 0))), ((v 24), .inl (cI, 24, .inl (fun _ => 0)))] := rfl
theorem ls_stat {args : Array Value} {s : State} (hts : ∀ w ∈ lw_tbl, w.before args s = true) (hgv : (Jvm.Cond.and given_1 narrow_1).before args s = true) : ∃ tD tR, va_Z "BorderThroughBed$House" "DOWN" "[I" (.ref tD) (fun q => s.heap.size ≤ q) s s.heap ∧ va_T .int tD 4 (fun j => .int (ex_down j)) (fun q => s.heap.size ≤ q) s s.heap ∧ va_Z "BorderThroughBed$House" "RIGHT" "[I" (.ref tR) (fun q => s.heap.size ≤ q) s s.heap ∧ va_T .int tR 4 (fun j => .int (ex_right j)) (fun q => s.heap.size ≤ q) s s.heap := by
  have hs := flat_of_before _ hgv
  have hA : ∀ a : Nat, a < s.heap.size → ¬ s.heap.size ≤ a := fun a h => Nat.not_le.mpr h
  have hini := hts _ (List.mem_filter.mp ls_zh).1
  have aDOWN := hs (Jvm.Cond.arrayOf (Jvm.Term.static "BorderThroughBed$House" "DOWN" "[I") .int) (by decide +kernel)
  have lDOWN : (Jvm.Term.length (Jvm.Term.static "BorderThroughBed$House" "DOWN" "[I")).eval args s none [] s = some (.int (Int32.ofNat 4)) := va_eqt (z := 4) (hs (Jvm.Cond.eq (Jvm.Term.length (Jvm.Term.static "BorderThroughBed$House" "DOWN" "[I")) (Jvm.Term.int 4)) (by decide +kernel))
  have eDOWN0 : (Jvm.Term.elem (Jvm.Term.static "BorderThroughBed$House" "DOWN" "[I") (.int (Int32.ofNat 0))).eval args s none [] s = some (.int (ex_down 0)) := va_eqt (z := -1) (hs (Jvm.Cond.eq (Jvm.Term.elem (Jvm.Term.static "BorderThroughBed$House" "DOWN" "[I") (Jvm.Term.int 0)) (Jvm.Term.int (-1))) (by decide +kernel))
  have eDOWN1 : (Jvm.Term.elem (Jvm.Term.static "BorderThroughBed$House" "DOWN" "[I") (.int (Int32.ofNat 1))).eval args s none [] s = some (.int (ex_down 1)) := va_eqt (z := 0) (hs (Jvm.Cond.eq (Jvm.Term.elem (Jvm.Term.static "BorderThroughBed$House" "DOWN" "[I") (Jvm.Term.int 1)) (Jvm.Term.int (0))) (by decide +kernel))
  have eDOWN2 : (Jvm.Term.elem (Jvm.Term.static "BorderThroughBed$House" "DOWN" "[I") (.int (Int32.ofNat 2))).eval args s none [] s = some (.int (ex_down 2)) := va_eqt (z := 1) (hs (Jvm.Cond.eq (Jvm.Term.elem (Jvm.Term.static "BorderThroughBed$House" "DOWN" "[I") (Jvm.Term.int 2)) (Jvm.Term.int (1))) (by decide +kernel))
  have eDOWN3 : (Jvm.Term.elem (Jvm.Term.static "BorderThroughBed$House" "DOWN" "[I") (.int (Int32.ofNat 3))).eval args s none [] s = some (.int (ex_down 3)) := va_eqt (z := 0) (hs (Jvm.Cond.eq (Jvm.Term.elem (Jvm.Term.static "BorderThroughBed$House" "DOWN" "[I") (Jvm.Term.int 3)) (Jvm.Term.int (0))) (by decide +kernel))
  obtain ⟨tDOWN, vDOWN, TDOWN⟩ := va_Tof (N := 4) (f := fun j => .int (ex_down j)) (by decide) aDOWN lDOWN (fun j hj => by
    match j, hj with
    | 0, _ => exact eDOWN0
    | 1, _ => exact eDOWN1
    | 2, _ => exact eDOWN2
    | 3, _ => exact eDOWN3
    | j + 4, h => exact absurd h (by omega)) hA
  have aRIGHT := hs (Jvm.Cond.arrayOf (Jvm.Term.static "BorderThroughBed$House" "RIGHT" "[I") .int) (by decide +kernel)
  have lRIGHT : (Jvm.Term.length (Jvm.Term.static "BorderThroughBed$House" "RIGHT" "[I")).eval args s none [] s = some (.int (Int32.ofNat 4)) := va_eqt (z := 4) (hs (Jvm.Cond.eq (Jvm.Term.length (Jvm.Term.static "BorderThroughBed$House" "RIGHT" "[I")) (Jvm.Term.int 4)) (by decide +kernel))
  have eRIGHT0 : (Jvm.Term.elem (Jvm.Term.static "BorderThroughBed$House" "RIGHT" "[I") (.int (Int32.ofNat 0))).eval args s none [] s = some (.int (ex_right 0)) := va_eqt (z := 0) (hs (Jvm.Cond.eq (Jvm.Term.elem (Jvm.Term.static "BorderThroughBed$House" "RIGHT" "[I") (Jvm.Term.int 0)) (Jvm.Term.int (0))) (by decide +kernel))
  have eRIGHT1 : (Jvm.Term.elem (Jvm.Term.static "BorderThroughBed$House" "RIGHT" "[I") (.int (Int32.ofNat 1))).eval args s none [] s = some (.int (ex_right 1)) := va_eqt (z := 1) (hs (Jvm.Cond.eq (Jvm.Term.elem (Jvm.Term.static "BorderThroughBed$House" "RIGHT" "[I") (Jvm.Term.int 1)) (Jvm.Term.int (1))) (by decide +kernel))
  have eRIGHT2 : (Jvm.Term.elem (Jvm.Term.static "BorderThroughBed$House" "RIGHT" "[I") (.int (Int32.ofNat 2))).eval args s none [] s = some (.int (ex_right 2)) := va_eqt (z := 0) (hs (Jvm.Cond.eq (Jvm.Term.elem (Jvm.Term.static "BorderThroughBed$House" "RIGHT" "[I") (Jvm.Term.int 2)) (Jvm.Term.int (0))) (by decide +kernel))
  have eRIGHT3 : (Jvm.Term.elem (Jvm.Term.static "BorderThroughBed$House" "RIGHT" "[I") (.int (Int32.ofNat 3))).eval args s none [] s = some (.int (ex_right 3)) := va_eqt (z := -1) (hs (Jvm.Cond.eq (Jvm.Term.elem (Jvm.Term.static "BorderThroughBed$House" "RIGHT" "[I") (Jvm.Term.int 3)) (Jvm.Term.int (-1))) (by decide +kernel))
  obtain ⟨tRIGHT, vRIGHT, TRIGHT⟩ := va_Tof (N := 4) (f := fun j => .int (ex_right j)) (by decide) aRIGHT lRIGHT (fun j hj => by
    match j, hj with
    | 0, _ => exact eRIGHT0
    | 1, _ => exact eRIGHT1
    | 2, _ => exact eRIGHT2
    | 3, _ => exact eRIGHT3
    | j + 4, h => exact absurd h (by omega)) hA
  exact ⟨tDOWN, tRIGHT, va_Zof (hts _ ls_sDOWN) hini vDOWN hA, TDOWN, va_Zof (hts _ ls_sRIGHT) hini vRIGHT hA, TRIGHT⟩
