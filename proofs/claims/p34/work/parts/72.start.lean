/-! the start of the law: the words of its object, the addresses, the static rows -/
theorem ls_cl0 : (Jvm.Cond.classLink "BorderThroughBedLaw" 9 "BorderThroughBed") ∈ ex_tb := ex_in (i := 38) (by decide +kernel) (by decide +kernel)
theorem ls_i0 : (Jvm.Cond.methodLink "BorderThroughBedLaw" 61 cy_Main) ∈ ex_tb := ex_in (i := 40) (by decide +kernel) (by decide +kernel)
theorem ls_n0 : (Jvm.Cond.instantiable (ex_Rn 0) 4) ∈ ex_tb := ex_in (i := 186) (by decide +kernel) (by decide +kernel)
theorem ls_n1 : (Jvm.Cond.instantiable (ex_Rn 1) 14) ∈ ex_tb := ex_in (i := 111) (by decide +kernel) (by decide +kernel)
theorem ls_n2 : (Jvm.Cond.instantiable (ex_Rn 2) 4) ∈ ex_tb := ex_in (i := 61) (by decide +kernel) (by decide +kernel)
theorem ls_n3 : (Jvm.Cond.instantiable (ex_Rn 3) 3) ∈ ex_tb := ex_in (i := 211) (by decide +kernel) (by decide +kernel)
theorem ls_n4 : (Jvm.Cond.instantiable (ex_Rn 4) 7) ∈ ex_tb := ex_in (i := 83) (by decide +kernel) (by decide +kernel)
theorem ls_n5 : (Jvm.Cond.instantiable (ex_Rn 5) 1) ∈ ex_tb := ex_in (i := 160) (by decide +kernel) (by decide +kernel)
theorem ls_n6 : (Jvm.Cond.instantiable (ex_Rn 6) 6) ∈ ex_tb := ex_in (i := 226) (by decide +kernel) (by decide +kernel)
theorem ls_n7 : (Jvm.Cond.instantiable (ex_Rn 7) 2) ∈ ex_tb := ex_in (i := 47) (by decide +kernel) (by decide +kernel)
theorem ls_n8 : (Jvm.Cond.instantiable (ex_Rn 8) 3) ∈ ex_tb := ex_in (i := 166) (by decide +kernel) (by decide +kernel)
theorem ls_n10 : (Jvm.Cond.instantiable (ex_Rn 10) 12) ∈ ex_tb := ex_in (i := 39) (by decide +kernel) (by decide +kernel)
theorem ls_z10 : (Jvm.Cond.initialized (ex_Rn 10)) ∈ ex_tb := ex_in (i := 27) (by decide +kernel) (by decide +kernel)
theorem ls_zh : (Jvm.Cond.initialized "BorderThroughBed$House") ∈ ex_tb := ex_in (i := 32) (by decide +kernel) (by decide +kernel)
theorem ls_sDOWN : (Jvm.Cond.laysStatic "BorderThroughBed$House" "DOWN" "[I") ∈ lw_tbl := List.mem_of_getElem? (i := 628) (by decide +kernel)
theorem ls_sRIGHT : (Jvm.Cond.laysStatic "BorderThroughBed$House" "RIGHT" "[I") ∈ lw_tbl := List.mem_of_getElem? (i := 630) (by decide +kernel)
theorem ls_sup : (Jvm.Cond.superclass "BorderThroughBed$HouseText" "BorderThroughBed$Text") ∈ lw_tbl := List.mem_of_getElem? (i := 81) (by decide +kernel)
theorem dl_0 : decode code 0 = .ok (.new 9, 3) := by decide +kernel
theorem dl_3 : decode code 3 = .ok (.dup, 1) := by decide +kernel
theorem dl_4 : decode code 4 = .ok (.invokespecial 61, 3) := by decide +kernel
theorem dl_7 : decode code 7 = .ok (.astore_n 1, 1) := by decide +kernel
theorem dl_8 : decode code 8 = .ok (.bipush 6, 2) := by decide +kernel
theorem dl_10 : decode code 10 = .ok (.newarray .int, 2) := by decide +kernel
theorem dl_12 : decode code 12 = .ok (.astore_n 2, 1) := by decide +kernel
theorem dl_13 : decode code 13 = .ok (.bipush 24, 2) := by decide +kernel
theorem dl_15 : decode code 15 = .ok (.newarray .int, 2) := by decide +kernel
theorem dl_17 : decode code 17 = .ok (.astore_n 3, 1) := by decide +kernel
theorem dl_18 : decode code 18 = .ok (.bipush 24, 2) := by decide +kernel
theorem dl_20 : decode code 20 = .ok (.newarray .int, 2) := by decide +kernel
theorem dl_22 : decode code 22 = .ok (.astore 4, 2) := by decide +kernel
theorem dl_24 : decode code 24 = .ok (.bipush 40, 2) := by decide +kernel
theorem dl_26 : decode code 26 = .ok (.newarray .int, 2) := by decide +kernel
theorem dl_28 : decode code 28 = .ok (.astore 5, 2) := by decide +kernel
theorem ls_text {args : Array Value} {s : State} (h : (Jvm.Cond.superclass "BorderThroughBed$HouseText" "BorderThroughBed$Text").before args s = true) : ∃ cC, ClassAt s "BorderThroughBed$Text" cC := by
  simp only [Cond.before, Cond.holds, Cond.value] at h
  cases hc : s.vm.findClass "BorderThroughBed$HouseText" with
  | none => simp [hc] at h
  | some c =>
    cases hp : s.vm.findClass "BorderThroughBed$Text" with
    | none => simp [hc, hp] at h
    | some p =>
      cases hk : s.vm.classes[c]? with
      | none => simp [hc, hp, hk] at h
      | some k =>
        cases hkp : s.vm.classes[p]? with
        | none => simp [hc, hp, hk, hkp] at h
        | some kp =>
          simp [hc, hp, hk, hkp] at h
          exact ⟨p, hp, kp, hkp, h.1.2⟩
theorem ls_known {args : Array Value} {s : State} (htb : ∀ w ∈ ex_tb, w.before args s = true) (hsup : (Jvm.Cond.superclass "BorderThroughBed$HouseText" "BorderThroughBed$Text").before args s = true) : ∃ (dC : Nat → ClassId) (dI : Nat → Nat → Nat), ∀ c, c < 11 → u_Kn s (ex_Rn c) (ex_T c) (ex_N c) (dC c) (dI c) := by
  have h : ∀ c, ∃ (cC : ClassId) (iS : Nat → Nat), c < 11 → u_Kn s (ex_Rn c) (ex_T c) (ex_N c) cC iS := by
    intro c
    by_cases hc : c < 11
    · have h1 : ∃ (cC : ClassId) (iS : Nat → Nat), u_Kn s (ex_Rn c) (ex_T c) (ex_N c) cC iS := by
        match c, hc with
        | 0, _ => exact u_known htb (ku_all (c := 0) (by decide)) (htb _ ls_n0)
        | 1, _ => exact u_known htb (ku_all (c := 1) (by decide)) (htb _ ls_n1)
        | 2, _ => exact u_known htb (ku_all (c := 2) (by decide)) (htb _ ls_n2)
        | 3, _ => exact u_known htb (ku_all (c := 3) (by decide)) (htb _ ls_n3)
        | 4, _ => exact u_known htb (ku_all (c := 4) (by decide)) (htb _ ls_n4)
        | 5, _ => exact u_known htb (ku_all (c := 5) (by decide)) (htb _ ls_n5)
        | 6, _ => exact u_known htb (ku_all (c := 6) (by decide)) (htb _ ls_n6)
        | 7, _ => exact u_known htb (ku_all (c := 7) (by decide)) (htb _ ls_n7)
        | 8, _ => exact u_known htb (ku_all (c := 8) (by decide)) (htb _ ls_n8)
        | 9, _ => obtain ⟨cC, h9⟩ := ls_text hsup; exact ⟨cC, fun _ => 0, fun k hk => absurd hk (Nat.not_lt_zero k), h9⟩
        | 10, _ => exact u_known htb (ku_all (c := 10) (by decide)) (htb _ ls_n10)
        | n + 11, h => exact absurd h (by omega)
      obtain ⟨cC, iS, h2⟩ := h1
      exact ⟨cC, iS, fun _ => h2⟩
    · exact ⟨0, fun _ => 0, fun h => absurd h hc⟩
  exact ⟨fun c => Classical.choose (h c), fun c => Classical.choose (Classical.choose_spec (h c)), fun c hc => Classical.choose_spec (Classical.choose_spec (h c)) hc⟩
theorem ls_K {s : State} {dC : Nat → ClassId} {dI : Nat → Nat → Nat} (h : ∀ c, c < 11 → u_Kn s (ex_Rn c) (ex_T c) (ex_N c) (dC c) (dI c)) (k : Nat) (q : vw_C) (hq : ex_cm[k]? = some q) : u_Kn s q.1 q.2.1 q.2.2 (dC k) (dI k) := by
  have hk := (List.getElem?_eq_some_iff.mp hq).1
  rw [show ex_cm.length = 11 from rfl] at hk
  rw [ex_cl_at hk] at hq
  cases hq
  exact h k hk
/-- the addresses at the start; the script in numbers -/
def x_ad (q0 tD tR b L r0 r1 r2 r3 : Nat) (xs : Nat → Int32) (u : Nat → Nat) (o : Nat) : Nat :=
  if 3000 ≤ o then (xs (o - 3000)).toBitVec.toNat else if o = 1000 then tD else if o = 1001 then tR else if o = 2000 then b else if o = 2999 then L else if o = 2500 then 60
  else if o = 2535 then u 35 else if o = 2537 then u 37 else if o = 2542 then u 42 else if o = 50 then u 35 else if o = 51 then u 37 else if o = 52 then u 42
  else if o = 0 then q0 else if o < 46 then u o else if o = 46 then r0 else if o = 47 then r1 else if o = 48 then r2 else r3
theorem x_of (x : Int32) : Int32.ofNat x.toBitVec.toNat = x := by
  apply Int32.toBitVec_inj.mp
  show BitVec.ofNat 32 x.toBitVec.toNat = x.toBitVec
  simp
theorem x_scr {q0 tD tR b L r0 r1 r2 r3 : Nat} {xs : Nat → Int32} {u : Nat → Nat} (j : Nat) : Int32.ofNat (x_ad q0 tD tR b L r0 r1 r2 r3 xs u (3000 + j)) = xs j := by
  unfold x_ad
  rw [if_pos (by omega), show 3000 + j - 3000 = j by omega]
  exact x_of _
def x_w (L : Nat) (xs : Nat → Int32) : PW := (x_w0.1, 0, L, xs)
set_option maxRecDepth 100000 in
set_option maxHeartbeats 4000000 in
theorem x_cel {q0 tD tR b L r0 r1 r2 r3 : Nat} {xs : Nat → Int32} {u : Nat → Nat} {cI cB : ClassId} : ex_cel (x_ad q0 tD tR b L r0 r1 r2 r3 xs u) cI cB (x_w L xs) = [(q0, .inr (10, [.ref (u 1), .ref (u 3), .ref (u 4), .ref (u 5), .ref (u 17), .ref (u 20), .ref (u 29), .ref (u 38), .ref (u 41), .int 0, .int 0, .int 0])), ((u 1), .inr (7, [.ref (u 2), .int 0])), ((u 2), .inl (cI, 40, .inl (fun _ => 0))), ((u 3), .inr (2, [.int 0, .int 0, .int 0, .int 0])), ((u 4), .inr (4, [.int 0, .int 0, .int 0, .int 0, .int 0, .int 0, .int 0])), ((u 5), .inr (1, [.ref (u 6), .ref (u 7), .ref (u 8), .ref (u 9), .ref (u 10), .ref (u 11), .ref (u 12), .ref (u 13), .ref (u 14), .ref (u 15), .ref (u 16), .int 0, .int 0, .int 0])), ((u 6), .inl (cI, 24, .inl (fun _ => 0))), ((u 7), .inl (cI, 24, .inl (fun _ => 0))), ((u 8), .inl (cI, 24, .inl (fun _ => 0))), ((u 9), .inl (cI, 4, .inl (fun _ => 0))), ((u 10), .inl (cI, 96, .inl (fun _ => 0))), ((u 11), .inl (cI, 96, .inl (fun _ => 0))), ((u 12), .inl (cI, 96, .inl (fun _ => 0))), ((u 13), .inl (cI, 96, .inl (fun _ => 0))), ((u 14), .inl (cI, 24, .inl (fun _ => 0))), ((u 15), .inl (cI, 24, .inl (fun _ => 0))), ((u 16), .inl (cI, 24, .inl (fun _ => 0))), ((u 17), .inr (5, [.ref (u 18)])), ((u 18), .inr (8, [.ref (u 19), .int 8, .int 0])), ((u 19), .inl (cI, 60, .inl (fun _ => 0))), ((u 20), .inr (0, [.ref (u 21), .ref (u 23), .ref (u 25), .ref (u 27)])), ((u 21), .inr (8, [.ref (u 22), .int 3, .int 0])), ((u 22), .inl (cI, 60, .inl (fun _ => 0))), ((u 23), .inr (8, [.ref (u 24), .int 12, .int 0])), ((u 24), .inl (cI, 60, .inl (fun _ => 0))), ((u 25), .inr (8, [.ref (u 26), .int 6, .int 0])), ((u 26), .inl (cI, 60, .inl (fun _ => 0))), ((u 27), .inr (8, [.ref (u 28), .int 10, .int 0])), ((u 28), .inl (cI, 60, .inl (fun _ => 0))), ((u 29), .inr (0, [.ref (u 30), .ref (u 32), .ref (u 34), .ref (u 36)])), ((u 30), .inr (8, [.ref (u 31), .int 3, .int 0])), ((u 31), .inl (cI, 60, .inl (fun _ => 0))), ((u 32), .inr (8, [.ref (u 33), .int 12, .int 0])), ((u 33), .inl (cI, 60, .inl (fun _ => 0))), ((u 34), .inr (8, [.ref (u 35), .int 6, .int 0])), ((u 35), .inl (cI, 60, .inl (fun _ => 0))), ((u 36), .inr (8, [.ref (u 37), .int 10, .int 0])), ((u 37), .inl (cI, 60, .inl (fun _ => 0))), ((u 38), .inr (3, [.ref (u 39), .ref (u 40), .int 0])), ((u 39), .inl (cI, 6, .inl (fun _ => 0))), ((u 40), .inl (cI, 144, .inl (fun _ => 0))), ((u 41), .inr (6, [.ref (u 42), .ref (u 43), .ref (u 44), .ref (u 45), .int 0, .int 0])), ((u 42), .inl (cI, 3, .inl (fun _ => 0))), ((u 43), .inl (cI, 3, .inl (fun _ => 0))), ((u 44), .inl (cI, 3, .inl (fun _ => 0))), ((u 45), .inl (cI, 5, .inl (fun _ => 0))), (r0, .inl (cI, 6, .inl (fun _ => 0))), (r1, .inl (cI, 24, .inl (fun _ => 0))), (r2, .inl (cI, 24, .inl (fun _ => 0))), (r3, .inl (cI, 40, .inl (fun _ => 0)))] := rfl
theorem ls_stat {args : Array Value} {s : State} (hts : ∀ w ∈ lw_tbl, w.before args s = true) (hgv : (Jvm.Cond.and given_1 narrow_1).before args s = true) : ∃ tD tR, va_Z "BorderThroughBed$House" "DOWN" "[I" (.ref tD) (fun q => s.heap.size ≤ q) s s.heap ∧ va_T .int tD 4 (fun j => .int (ex_down j)) (fun q => s.heap.size ≤ q) s s.heap ∧ va_Z "BorderThroughBed$House" "RIGHT" "[I" (.ref tR) (fun q => s.heap.size ≤ q) s s.heap ∧ va_T .int tR 4 (fun j => .int (ex_right j)) (fun q => s.heap.size ≤ q) s s.heap := by
  have hs := flat_of_before _ hgv
  have hA : ∀ a : Nat, a < s.heap.size → ¬ s.heap.size ≤ a := fun a h => Nat.not_le.mpr h
  have hini := hts _ (List.mem_filter.mp ls_zh).1
  have aDOWN := hs (Jvm.Cond.arrayOf (Jvm.Term.static "BorderThroughBed$House" "DOWN" "[I") .int) (by decide +kernel)
  have lDOWN : (Jvm.Term.length (Jvm.Term.static "BorderThroughBed$House" "DOWN" "[I")).eval args s none [] s = some (.int (Int32.ofNat 4)) := va_eqt (z := 4) (hs (Jvm.Cond.eq (Jvm.Term.length (Jvm.Term.static "BorderThroughBed$House" "DOWN" "[I")) (Jvm.Term.int 4)) (by decide +kernel))
  have eDOWN0 : (Jvm.Term.elem (Jvm.Term.static "BorderThroughBed$House" "DOWN" "[I") (.int (Int32.ofNat 0))).eval args s none [] s = some (.int (ex_down 0)) := va_eqt (z := -1) (hs (Jvm.Cond.eq (Jvm.Term.elem (Jvm.Term.static "BorderThroughBed$House" "DOWN" "[I") (Jvm.Term.int 0)) (Jvm.Term.int (-1))) (by decide +kernel))
  have eDOWN1 : (Jvm.Term.elem (Jvm.Term.static "BorderThroughBed$House" "DOWN" "[I") (.int (Int32.ofNat 1))).eval args s none [] s = some (.int (ex_down 1)) := va_eqt (z := 0) (hs (Jvm.Cond.eq (Jvm.Term.elem (Jvm.Term.static "BorderThroughBed$House" "DOWN" "[I") (Jvm.Term.int 1)) (Jvm.Term.int (0))) (by decide +kernel))
  have eDOWN2 : (Jvm.Term.elem (Jvm.Term.static "BorderThroughBed$House" "DOWN" "[I") (.int (Int32.ofNat 2))).eval args s none [] s = some (.int (ex_down 2)) := va_eqt (z := 1) (hs (Jvm.Cond.eq (Jvm.Term.elem (Jvm.Term.static "BorderThroughBed$House" "DOWN" "[I") (Jvm.Term.int 2)) (Jvm.Term.int (1))) (by decide +kernel))
  have eDOWN3 : (Jvm.Term.elem (Jvm.Term.static "BorderThroughBed$House" "DOWN" "[I") (.int (Int32.ofNat 3))).eval args s none [] s = some (.int (ex_down 3)) := va_eqt (z := 0) (hs (Jvm.Cond.eq (Jvm.Term.elem (Jvm.Term.static "BorderThroughBed$House" "DOWN" "[I") (Jvm.Term.int 3)) (Jvm.Term.int (0))) (by decide +kernel))
  obtain ⟨tDOWN, vDOWN, TDOWN⟩ := va_Tof (N := 4) (f := fun j => .int (ex_down j)) (by decide) aDOWN lDOWN (fun j hj => by
    match j, hj with
    | 0, _ => exact eDOWN0
    | 1, _ => exact eDOWN1
    | 2, _ => exact eDOWN2
    | 3, _ => exact eDOWN3
    | j + 4, h => exact absurd h (by omega)) hA
  have aRIGHT := hs (Jvm.Cond.arrayOf (Jvm.Term.static "BorderThroughBed$House" "RIGHT" "[I") .int) (by decide +kernel)
  have lRIGHT : (Jvm.Term.length (Jvm.Term.static "BorderThroughBed$House" "RIGHT" "[I")).eval args s none [] s = some (.int (Int32.ofNat 4)) := va_eqt (z := 4) (hs (Jvm.Cond.eq (Jvm.Term.length (Jvm.Term.static "BorderThroughBed$House" "RIGHT" "[I")) (Jvm.Term.int 4)) (by decide +kernel))
  have eRIGHT0 : (Jvm.Term.elem (Jvm.Term.static "BorderThroughBed$House" "RIGHT" "[I") (.int (Int32.ofNat 0))).eval args s none [] s = some (.int (ex_right 0)) := va_eqt (z := 0) (hs (Jvm.Cond.eq (Jvm.Term.elem (Jvm.Term.static "BorderThroughBed$House" "RIGHT" "[I") (Jvm.Term.int 0)) (Jvm.Term.int (0))) (by decide +kernel))
  have eRIGHT1 : (Jvm.Term.elem (Jvm.Term.static "BorderThroughBed$House" "RIGHT" "[I") (.int (Int32.ofNat 1))).eval args s none [] s = some (.int (ex_right 1)) := va_eqt (z := 1) (hs (Jvm.Cond.eq (Jvm.Term.elem (Jvm.Term.static "BorderThroughBed$House" "RIGHT" "[I") (Jvm.Term.int 1)) (Jvm.Term.int (1))) (by decide +kernel))
  have eRIGHT2 : (Jvm.Term.elem (Jvm.Term.static "BorderThroughBed$House" "RIGHT" "[I") (.int (Int32.ofNat 2))).eval args s none [] s = some (.int (ex_right 2)) := va_eqt (z := 0) (hs (Jvm.Cond.eq (Jvm.Term.elem (Jvm.Term.static "BorderThroughBed$House" "RIGHT" "[I") (Jvm.Term.int 2)) (Jvm.Term.int (0))) (by decide +kernel))
  have eRIGHT3 : (Jvm.Term.elem (Jvm.Term.static "BorderThroughBed$House" "RIGHT" "[I") (.int (Int32.ofNat 3))).eval args s none [] s = some (.int (ex_right 3)) := va_eqt (z := -1) (hs (Jvm.Cond.eq (Jvm.Term.elem (Jvm.Term.static "BorderThroughBed$House" "RIGHT" "[I") (Jvm.Term.int 3)) (Jvm.Term.int (-1))) (by decide +kernel))
  obtain ⟨tRIGHT, vRIGHT, TRIGHT⟩ := va_Tof (N := 4) (f := fun j => .int (ex_right j)) (by decide) aRIGHT lRIGHT (fun j hj => by
    match j, hj with
    | 0, _ => exact eRIGHT0
    | 1, _ => exact eRIGHT1
    | 2, _ => exact eRIGHT2
    | 3, _ => exact eRIGHT3
    | j + 4, h => exact absurd h (by omega)) hA
  exact ⟨tDOWN, tRIGHT, va_Zof (hts _ ls_sDOWN) hini vDOWN hA, TDOWN, va_Zof (hts _ ls_sRIGHT) hini vRIGHT hA, TRIGHT⟩
