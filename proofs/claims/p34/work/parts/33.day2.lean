/-! what changes the day: a new row -/
theorem up_n {w : PW} {o k o' k' : Nat} {x : Int32} (h : ¬ (o' = o ∧ k' = k)) : (ex_up w o k x).1 o' k' = w.1 o' k' := by rw [up_1, if_neg h]
theorem up_e {w : PW} {o k o' k' : Nat} {x : Int32} (h : o' = o ∧ k' = k) : (ex_up w o k x).1 o' k' = x := by rw [up_1, if_pos h]
/-- a row more at the end of table s, counted at j -/
def q_ad (A : AS) (j : Int) (s : Nat) (a b c d e : Int) : AS := fun x y => if x = 0 ∧ y = j then A 0 j + 1 else if x = s ∧ 5 * A 0 j ≤ y ∧ y < 5 * A 0 j + 5 then (if y = 5 * A 0 j then a else if y = 5 * A 0 j + 1 then b else if y = 5 * A 0 j + 2 then c else if y = 5 * A 0 j + 3 then d else e) else A x y
theorem q_ad_n {A : AS} {j : Int} {s : Nat} {a b c d e : Int} : q_ad A j s a b c d e 0 j = A 0 j + 1 := if_pos ⟨rfl, rfl⟩
theorem q_ad_o {A : AS} {j : Int} {s : Nat} {a b c d e y : Int} (hs : ¬ s = 0) (hy : y < 5 * A 0 j) : q_ad A j s a b c d e s y = A s y := by
  unfold q_ad
  rw [if_neg (fun h => hs h.1), if_neg (by omega)]
theorem q_ad_r {A : AS} {j : Int} {s : Nat} {a b c d e : Int} (hs : ¬ s = 0) : q_ad A j s a b c d e s (5 * A 0 j) = a ∧ q_ad A j s a b c d e s (5 * A 0 j + 1) = b ∧ q_ad A j s a b c d e s (5 * A 0 j + 2) = c ∧ q_ad A j s a b c d e s (5 * A 0 j + 3) = d ∧ q_ad A j s a b c d e s (5 * A 0 j + 4) = e := by
  unfold q_ad
  refine ⟨?_, ?_, ?_, ?_, ?_⟩ <;> rw [if_neg (fun h => hs h.1), if_pos (by omega)] <;> (repeat rw [if_neg (by omega)]) <;> first | rfl | rw [if_pos (by omega)]
theorem rCt_ad {A : AS} {w : PW} {o s : Nat} {j m a b c d e : Int} (h : rCt A w o j m s) (hs : ¬ s = 0) (h0 : 0 ≤ A 0 j) : rCt (q_ad A j s a b c d e) (q_add w o (A 0 j) (Int32.ofInt a) (Int32.ofInt b) (Int32.ofInt c) (Int32.ofInt d) (Int32.ofInt e)) o j m s := by
  obtain ⟨h1, h2, h3⟩ := h
  obtain ⟨r0, r1, r2, r3, r4⟩ := q_ad_r (A := A) (j := j) (s := s) (a := a) (b := b) (c := c) (d := d) (e := e) hs
  unfold q_add
  refine ⟨?_, ?_, fun k k0 k1 => ?_⟩
  · rw [up_n (by omega), up_n (by omega), up_n (by omega), up_n (by omega), up_n (by omega), up_n (by omega)]; exact h1
  · rw [up_n (by omega), up_n (by omega), up_n (by omega), up_n (by omega), up_n (by omega), up_e (by omega), q_ad_n]
  · rw [q_ad_n] at k1
    by_cases k2 : k < 5 * A 0 j
    · rw [up_n (by omega), up_n (by omega), up_n (by omega), up_n (by omega), up_n (by omega), up_n (by omega), q_ad_o hs k2]
      exact h3 k k0 k2
    · have hk : k = 5 * A 0 j ∨ k = 5 * A 0 j + 1 ∨ k = 5 * A 0 j + 2 ∨ k = 5 * A 0 j + 3 ∨ k = 5 * A 0 j + 4 := by omega
      rcases hk with hk | hk | hk | hk | hk
      · rw [hk, r0, up_n (by omega), up_n (by omega), up_n (by omega), up_n (by omega), up_e (by omega)]
      · rw [hk, r1, up_n (by omega), up_n (by omega), up_n (by omega), up_e (by omega)]
      · rw [hk, r2, up_n (by omega), up_n (by omega), up_e (by omega)]
      · rw [hk, r3, up_n (by omega), up_e (by omega)]
      · rw [hk, r4, up_e (by omega)]
theorem fC_r (w : PW) : fC w w := fun _ _ _ => rfl
theorem fC_u {w w' : PW} {o k : Nat} {x : Int32} (h : fC w w') (ho : o < 46) : fC w (ex_up w' o k x) := fun a k' ha => by rw [up_n (by omega)]; exact h a k' ha
theorem fC_ad {w : PW} {o : Nat} {n : Int} {a b c d e : Int32} (ho : o < 45) : fC w (q_add w o n a b c d e) := fC_u (fC_u (fC_u (fC_u (fC_u (fC_u (fC_r w) (by omega)) (by omega)) (by omega)) (by omega)) (by omega)) (by omega)
