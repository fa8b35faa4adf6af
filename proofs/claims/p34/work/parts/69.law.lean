/-! the law's body, whole; the world at its start -/
theorem l_all {A : AS} {w : PW} (hz : w.2.2.1 ≤ 260) (hV : q_V A) (hC : rC A w) (h8 : A 0 8 = 0) (hb : A 0 2 < 1000000) (h3 : A 0 3 = 0) (hA2 : 0 ≤ A 0 2) : ∃ w1, ex_ev 10 (ex_cal 10) 104 (ex_blk 104 30, [.ref 2000, .ref 0, .ref 46, .ref 47, .ref 48, .ref 49, .null, .null, .null, .null, .null, .null, .null, .null, .null, .null, .null, .null, .null, .null, .null, .null, .null], [], w) = some (some (.int (Int32.ofInt 1)), w1) ∧ w1.2.1 ≤ w.2.1 + 63 := by
  obtain ⟨B, w1, e1, hV1, hC1, hR1, hz1, hc1, hn2, hn3, hn4, hn5, hn7, hn8, hn10, hn15⟩ := b_start (d := 0) hz hV hC h8 hb h3 hA2
  obtain ⟨w2, e2, hC2, hR2, hz2, hc2⟩ := b_cells (d := 0) hV1 hC1 hR1 hn5
  have hzz : w2.2.2 = w.2.2 := by rw [hz2, hz1]
  obtain ⟨D, w3, y9, y10, e3, ⟨x9, x10⟩, ⟨hV3, hC3, hR3, hw3⟩, hs3, n3, n8, n4, n7, n1⟩ := b_laws (d := 0) (by rw [hzz]; exact hz) hV1 hC2 hR2 hn8 hn3 (N := B 0 15)
  obtain ⟨E, w4, e, f, g, y13, y14, y15, y16, y17, y18, y19, y20, y21, y22, e4, ⟨z13, z14, z15, z16, z17, z18, z19, z20, z21, z22⟩, ⟨hV4, hC4, hR4⟩, hev, hw4, hs4, k3, k7⟩ := b_tries (d := 0) (by rw [hw3, hzz]; exact hz) hV3 hC3 hR3 (by rw [hs3.2.2.1]; exact hn15) (by rw [hs3.2.2.2.2.2.1]; omega) (by rw [n4]; exact hn4) (xv_i (Int32.ofInt (q_s w2.2.2 4 % 9))) x9 x10
  have E15 : E 0 15 = B 0 15 := hs4.2.2.1.trans hs3.2.2.1
  have E2 : E 0 2 = B 0 2 := hs4.2.2.2.2.2.1.trans hs3.2.2.2.2.2.1
  rw [hs3.2.2.1, n3] at e4
  have e5 := b_first (d := 0) hV4 hC4 hev z13 z14 z15 z16 z17 z18 z19 z20 z21 z22
  obtain ⟨u13, u14, e6, x13, x14⟩ := b_drawn (d := 0) hV4 hC4 hR4 (by omega) hev z13 z14 (v15 := y15) (v16 := y16) (v17 := y17) (v18 := y18) (v19 := y19) (v20 := y20) (v21 := y21) (v22 := y22)
  obtain ⟨G, w5, F1, s', m, u16, u17, u18, u19, e7, ⟨hV5, hC5, hR5, hw5⟩, hs5, g3, g7, hm, hF⟩ := b_judges (d := 0) (by rw [hw4, hw3, hzz]; exact hz) hV4 hC4 hR4 (by omega) (e := e) (f := f) (g := g) (by rw [k7, n7]; exact hn7) (xv_i (Int32.ofInt 4)) x13 x14 z15 z16 z17 z18 z19 z20 z21 z22
  rw [E15, k3, n3] at e5 e6 e7
  have G15 : G 0 15 = B 0 15 := hs5.2.2.1.trans E15
  have G2 : G 0 2 = B 0 2 := hs5.2.2.2.2.2.1.trans E2
  have G1 : G 1 0 = B 1 0 := by rw [hs5.2.2.2.1, hs4.2.2.2.1, hs3.2.2.2.1]
  have ho : q_op G 0 := ⟨by omega, by omega, by rw [G1, hn10]; decide⟩
  have e8 := b_en1 (d := 0) hV5 hC5 (by omega) (by omega) ho (e := e) (f := f) (g := g) (s' := s') (m := m) (l_fz_u hF) (v16 := u16) (v17 := u17) (v18 := u18) (v19 := u19) (v20 := y20) (v21 := y21) (v22 := y22)
  have e9 := b_en2 (d := 0) hV5 hC5 (by omega) (by omega) ho (e := e) (f := f) (g := g) (s' := s') (m := m) (F := F1) (v16 := u16) (v17 := u17) (v18 := u18) (v19 := u19) (v20 := y20) (v21 := y21) (v22 := y22)
  have e10 := b_en3 (d := 0) hV5 hC5 (by omega) (by omega) ho (e := e) (f := f) (g := g) (s' := s') (m := m) (F := F1) (v16 := u16) (v17 := u17) (v18 := u18) (v19 := u19) (v20 := y20) (v21 := y21) (v22 := y22)
  have e11 := b_en4 (d := 0) hV5 hC5 (by omega) (by omega) ho (e := e) (f := f) (g := g) (s' := s') (m := m) (F := F1) g7 (v16 := u16) (v17 := u17) (v18 := u18) (v19 := u19) (v20 := y20) (v21 := y21) (v22 := y22)
  have e12 := b_en5 (d := 0) hV5 hC5 (by omega) (by omega) ho (e := e) (f := f) (g := g) (s' := s') (m := m) (F := F1) (v16 := u16) (v17 := u17) (v18 := u18) (v19 := u19) (v20 := y20) (v21 := y21) (v22 := y22)
  rw [G15, g3, k3, n3] at e8 e9 e10 e11 e12
  refine ⟨w5, e1.trans (e2.trans (e3.trans (e4.trans (e5.trans (e6.trans (e7.trans (e8.trans (e9.trans (e10.trans (e11.trans e12)))))))))), ?_⟩
  rw [hw5, hw4, hw3]
  show w2.2.1 + 15 ≤ _
  omega
def x_f (m : Int32) : Nat → Int32 := fun k => if k = 1 then m else 0
def x_w0 : PW := (fun o => if o = 18 then x_f 8 else if o = 21 then x_f 3 else if o = 23 then x_f 12 else if o = 25 then x_f 6 else if o = 27 then x_f 10 else if o = 30 then x_f 3 else if o = 32 then x_f 12 else if o = 34 then x_f 6 else if o = 36 then x_f 10 else fun _ => 0, (0, 0, fun _ => 0))
def x_A0 : AS := fun _ _ => 0
theorem x_no {k : Int} {P : Prop} (k0 : 0 ≤ k) (k1 : k < 0) : P := absurd k1 (by omega)
theorem x_no5 {k : Int} {P : Prop} (k0 : 0 ≤ k) (k1 : k < 5 * 0) : P := absurd k1 (by omega)
theorem x_V : q_V x_A0 := by
  have e : ∀ a b, x_A0 a b = 0 := fun _ _ => rfl
  refine ⟨⟨⟨by decide, by decide, by decide, Or.inl ⟨rfl, rfl, rfl⟩, fun c c0 c1 => x_no c0 c1, fun c c0 c1 => x_no c0 c1⟩, ⟨by decide, by decide, fun c c0 c1 => x_no c0 c1⟩, ⟨by decide, by decide, fun c c0 c1 => x_no c0 c1⟩, ⟨by decide, by decide, fun c c0 c1 => x_no c0 c1⟩, ⟨by decide, by decide, fun c c0 c1 => x_no c0 c1⟩, ⟨by decide, by decide, fun c c0 c1 => x_no c0 c1⟩, ⟨by decide, by decide, fun c c0 c1 => x_no c0 c1⟩, by decide, by decide, Or.inl rfl⟩, fun t u t0 t1 _ _ => x_no t0 t1, fun h => absurd h (by decide)⟩
theorem x_t (o : Nat) (j m : Int) (s : Nat) (h1 : x_w0.1 o 1 = Int32.ofInt m) (h2 : x_w0.1 o 2 = Int32.ofInt 0) : rCt x_A0 x_w0 o j m s := ⟨h1, h2, fun k k0 k1 => x_no5 k0 k1⟩
theorem x_C : rC x_A0 x_w0 := by
  refine ⟨⟨⟨⟨by decide +kernel, by decide +kernel, by decide +kernel⟩, ⟨fun k k0 k1 => x_no k0 k1, fun k k0 k1 => x_no k0 k1, fun k k0 k1 => x_no k0 k1, fun k k0 k1 => x_no k0 k1⟩⟩, ⟨fun k v k0 k1 _ _ => x_no k0 k1, fun k v k0 k1 _ _ => x_no k0 k1, fun k v k0 k1 v0 v1 => ?_, fun k v k0 k1 v0 v1 => ?_⟩⟩, fun k k0 k1 => x_no k0 k1, ⟨by decide +kernel, by decide +kernel, by decide +kernel, by decide +kernel⟩, fun k k0 k1 => x_no k0 k1, x_t _ _ _ _ (by decide +kernel) (by decide +kernel), x_t _ _ _ _ (by decide +kernel) (by decide +kernel), x_t _ _ _ _ (by decide +kernel) (by decide +kernel), x_t _ _ _ _ (by decide +kernel) (by decide +kernel), x_t _ _ _ _ (by decide +kernel) (by decide +kernel), x_t _ _ _ _ (by decide +kernel) (by decide +kernel), x_t _ _ _ _ (by decide +kernel) (by decide +kernel), x_t _ _ _ _ (by decide +kernel) (by decide +kernel), x_t _ _ _ _ (by decide +kernel) (by decide +kernel)⟩
  · rw [q_sp, if_pos rfl, q_iw_f (fun h => x_no k0 h.1.2.1)]
    exact (by decide +kernel : (0 : Int32) = Int32.ofInt 0)
  · rw [q_sp, if_neg (by decide), q_iw_f (fun h => x_no k0 h.1.2.1)]
    exact (by decide +kernel : (0 : Int32) = Int32.ofInt 0)
