theorem rx_xeq_f {d : Nat} {cal : Nat → List Value → PW → Option ER} {y : Nat} {c : List Instr} {pl st : List Value} {w : PW} {L : Int} {x : Int32} (h : ¬ x = Int32.ofInt 0) : ex_ev d cal y (.ifCond .eq L :: c, pl, .int x :: st, w) = ex_ev d cal y (c, pl, st, w) := by
  rw [ev_if_eq, z_0, if_neg h]
