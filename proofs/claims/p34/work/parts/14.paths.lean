/-! sums, walks, the cheapest ways: mathematics alone -/
def q_sum (f : Int → Int) : Nat → Int
  | 0 => 0
  | n + 1 => q_sum f n + f n
theorem q_sum_le {f g : Int → Int} {n : Nat} (h : ∀ i : Int, 0 ≤ i → i < n → f i ≤ g i) : q_sum f n ≤ q_sum g n := by
  induction n with
  | zero => exact Int.le_refl _
  | succ n ih =>
    have h1 := ih (fun i h0 h1 => h i h0 (by omega))
    have h2 := h n (by omega) (by omega)
    show q_sum f n + f n ≤ q_sum g n + g n
    omega
theorem q_sum_lt {f g : Int → Int} {n : Nat} (h : ∀ i : Int, 0 ≤ i → i < n → f i ≤ g i) {j : Int} (j0 : 0 ≤ j) (j1 : j < n) (hj : f j < g j) : q_sum f n < q_sum g n := by
  induction n with
  | zero => omega
  | succ n ih =>
    have h2 := h n (by omega) (by omega)
    show q_sum f n + f n < q_sum g n + g n
    by_cases hc : j < n
    · have h1 := ih (fun i h0 h1 => h i h0 (by omega)) hc
      omega
    · have h1 := q_sum_le (f := f) (g := g) (n := n) (fun i h0 h1 => h i h0 (by omega))
      have hjn : j = n := by omega
      rw [hjn] at hj
      omega
theorem q_sum_ge {f : Int → Int} {n : Nat} (h : ∀ i : Int, 0 ≤ i → i < n → 0 ≤ f i) : 0 ≤ q_sum f n := by
  induction n with
  | zero => exact Int.le_refl _
  | succ n ih =>
    have h1 := ih (fun i h0 h1 => h i h0 (by omega))
    have h2 := h n (by omega) (by omega)
    show 0 ≤ q_sum f n + f n
    omega
theorem q_sum_one {n : Nat} : q_sum (fun _ => 1) n = n := by
  induction n with
  | zero => rfl
  | succ n ih =>
    show q_sum (fun _ => 1) n + 1 = _
    rw [ih]; omega
def q_fu (G : Int → Int) (c x : Int) : Int → Int := fun i => if i = c then x else G i
theorem q_fu_s {G : Int → Int} {c x : Int} : q_fu G c x c = x := if_pos rfl
theorem q_fu_o {G : Int → Int} {c x i : Int} (h : ¬ i = c) : q_fu G c x i = G i := if_neg h
theorem q_sum_up {G : Int → Int} {n : Nat} {c x : Int} (h0 : 0 ≤ c) (h1 : c < n) : q_sum (q_fu G c x) n = q_sum G n + x - G c := by
  induction n with
  | zero => omega
  | succ n ih =>
    show q_sum (q_fu G c x) n + q_fu G c x n = q_sum G n + G n + x - G c
    by_cases hc : c < n
    · rw [ih hc, q_fu_o (by omega)]; omega
    · have hcn : c = n := by omega
      have hs : ∀ m : Nat, m ≤ n → q_sum (q_fu G c x) m = q_sum G m := by
        intro m
        induction m with
        | zero => intro _; rfl
        | succ m im =>
          intro hm
          show q_sum (q_fu G c x) m + q_fu G c x m = q_sum G m + G m
          rw [im (by omega), q_fu_o (by omega)]
      rw [hs n (Nat.le_refl _), ← hcn, q_fu_s]; omega
theorem q_sum_cg {f g : Int → Int} {n : Nat} (h : ∀ i : Int, 0 ≤ i → i < n → f i = g i) : q_sum f n = q_sum g n := by
  induction n with
  | zero => rfl
  | succ n ih =>
    show q_sum f n + f n = q_sum g n + g n
    rw [ih (fun i h0 h1 => h i h0 (by omega)), h n (by omega) (by omega)]
/-- the least -/
theorem q_min_ex {P : Int → Prop} (h : ∀ y, P y → 0 ≤ y) : ∃ x, q_min P x := by
  by_cases hp : ∃ y, P y
  · obtain ⟨y, hy⟩ := hp
    have hs : ∀ n : Nat, ∀ y, P y → y.toNat = n → ∃ x, P x ∧ ∀ z, P z → x ≤ z := by
      intro n
      induction n using Nat.strongRecOn with
      | ind n ih =>
        intro y hy hn
        by_cases hz : ∃ z, P z ∧ z < y
        · obtain ⟨z, hz, hl⟩ := hz
          have h1 := h z hz
          have h2 := h y hy
          exact ih z.toNat (by omega) z hz rfl
        · exact ⟨y, hy, fun z hz' => Classical.byContradiction fun hc => hz ⟨z, hz', by omega⟩⟩
    obtain ⟨x, h1, h2⟩ := hs y.toNat y hy rfl
    exact ⟨x, Or.inr ⟨h1, h2⟩⟩
  · exact ⟨-1, Or.inl ⟨rfl, fun y hy => hp ⟨y, hy⟩⟩⟩
theorem q_min_u {P : Int → Prop} (h : ∀ y, P y → 0 ≤ y) {x y : Int} (hx : q_min P x) (hy : q_min P y) : x = y := by
  rcases hx with ⟨h1, h2⟩ | ⟨h1, h2⟩ <;> rcases hy with ⟨h3, h4⟩ | ⟨h3, h4⟩
  · omega
  · exact absurd h3 (h2 _)
  · exact absurd h1 (h4 _)
  · have := h2 _ h3; have := h4 _ h1; omega
/-- edges within 0 .. 23, of costs 1 to 10 -/
def p_ed (e : Int → Int → Int → Prop) : Prop := ∀ u c s, e u c s → 0 ≤ c ∧ c < 24 ∧ 1 ≤ s ∧ s ≤ 10
theorem p_wk_r {e : Int → Int → Int → Prop} (he : p_ed e) {f : Int} (f0 : 0 ≤ f) (f1 : f < 24) {n : Nat} {c x : Int} (h : p_wk e f n c x) : 0 ≤ c ∧ c < 24 ∧ 0 ≤ x := by
  induction n generalizing c x with
  | zero => obtain ⟨h1, h2⟩ := h; omega
  | succ n ih =>
    obtain ⟨u, s, h1, h2⟩ := h
    have := ih h2
    have := he _ _ _ h1
    omega
theorem p_rc_nn {e : Int → Int → Int → Prop} (he : p_ed e) {f : Int} (f0 : 0 ≤ f) (f1 : f < 24) {c x : Int} (h : p_rc e f c x) : 0 ≤ x := by
  obtain ⟨n, h⟩ := h
  exact (p_wk_r he f0 f1 h).2.2
theorem p_rc_s {e : Int → Int → Int → Prop} {f u c x s : Int} (h : p_rc e f u x) (hs : e u c s) : p_rc e f c (x + s) := by
  obtain ⟨n, h⟩ := h
  exact ⟨n + 1, u, s, hs, by rw [show x + s - s = x by omega]; exact h⟩
theorem p_rc_0 {e : Int → Int → Int → Prop} {f : Int} : p_rc e f f 0 := ⟨0, rfl, rfl⟩
/-- how many are reached -/
def p_k (M : Int) (G : Int → Int) : Int := q_sum (fun c => if G c < M then 1 else 0) 24
def p_ok (e : Int → Int → Int → Prop) (f M : Int) (G : Int → Int) : Prop := G f = 0 ∧ ∀ c, 0 ≤ c → c < 24 → (0 ≤ G c ∧ G c ≤ M) ∧ (G c < M → p_rc e f c (G c) ∧ G c ≤ 10 * (p_k M G - 1))
theorem p_k24 (M : Int) (G : Int → Int) : p_k M G ≤ 24 := by
  have := q_sum_le (f := fun c => if G c < M then 1 else 0) (g := fun _ => 1) (n := 24) (fun i _ _ => by (try dsimp only); split <;> omega)
  rw [q_sum_one] at this
  exact this
theorem p_k_o {M : Int} {G : Int → Int} {c x : Int} (h0 : 0 ≤ c) (h1 : c < 24) (hx : x < M) (h : G c < M) : p_k M (q_fu G c x) = p_k M G := by
  refine q_sum_cg fun i _ _ => ?_
  by_cases hi : i = c
  · subst hi; (try dsimp only); rw [q_fu_s, if_pos hx, if_pos h]
  · (try dsimp only); rw [q_fu_o hi]
theorem p_k_n {M : Int} {G : Int → Int} {c x : Int} (h0 : 0 ≤ c) (h1 : c < 24) (hx : x < M) (h : ¬ G c < M) : p_k M (q_fu G c x) = p_k M G + 1 := by
  have h2 : p_k M (q_fu G c x) = q_sum (q_fu (fun c => if G c < M then 1 else 0) c 1) 24 := by
    refine q_sum_cg fun i _ _ => ?_
    by_cases hi : i = c
    · subst hi; (try dsimp only); rw [q_fu_s, q_fu_s, if_pos hx]
    · (try dsimp only); rw [q_fu_o hi, q_fu_o hi]
  rw [h2, q_sum_up (n := 24) h0 h1, if_neg h]
  show _ = q_sum _ 24 + 1
  omega
theorem p_start {e : Int → Int → Int → Prop} {f M : Int} (f0 : 0 ≤ f) (f1 : f < 24) (hM : 300 ≤ M) {G : Int → Int} (hG : ∀ c, G c = if c = f then 0 else M) : p_ok e f M G ∧ p_k M G = 1 := by
  have h1 : p_k M G = 1 := by
    have h2 : p_k M G = q_sum (q_fu (fun _ => 0) f 1) 24 := by
      refine q_sum_cg fun i _ _ => ?_
      by_cases hi : i = f
      · subst hi; (try dsimp only); rw [q_fu_s, hG, if_pos rfl, if_pos (by omega)]
      · (try dsimp only); rw [q_fu_o hi, hG, if_neg hi, if_neg (by omega)]
    rw [h2, q_sum_up (n := 24) f0 f1]
    rfl
  refine ⟨⟨by rw [hG, if_pos rfl], fun c h0 h2 => ?_⟩, h1⟩
  rw [h1, hG]
  by_cases hc : c = f
  · rw [if_pos hc]
    exact ⟨by omega, fun _ => ⟨by rw [hc]; exact p_rc_0, by omega⟩⟩
  · rw [if_neg hc]
    exact ⟨by omega, fun h => absurd h (by omega)⟩
theorem p_bd {e : Int → Int → Int → Prop} {f M : Int} {G : Int → Int} (h : p_ok e f M G) {c : Int} (h0 : 0 ≤ c) (h1 : c < 24) : 0 ≤ G c ∧ G c ≤ M ∧ (G c < M → G c ≤ 230) := by
  have h2 := (h.2 c h0 h1)
  have h3 := p_k24 M G
  exact ⟨h2.1.1, h2.1.2, fun h4 => by have := (h2.2 h4).2; omega⟩
/-- a way became cheaper -/
theorem p_rel {e : Int → Int → Int → Prop} (he : p_ed e) {f M : Int} (hM : 300 ≤ M) {G : Int → Int} (h : p_ok e f M G) {u c s : Int} (hs : e u c s) (u0 : 0 ≤ u) (u1 : u < 24) (hu : G u < M) (hl : G u + s < G c) : p_ok e f M (q_fu G c (G u + s)) ∧ q_sum (q_fu G c (G u + s)) 24 < q_sum G 24 := by
  have hc := he _ _ _ hs
  have hb := p_bd h u0 u1
  have hbc := p_bd h hc.1 hc.2.1
  have hu2 := (h.2 u u0 u1).2 hu
  have hM2 : G u + s < M := by omega
  have hk : p_k M G ≤ p_k M (q_fu G c (G u + s)) ∧ G u + s ≤ 10 * (p_k M (q_fu G c (G u + s)) - 1) := by
    by_cases hcM : G c < M
    · rw [p_k_o hc.1 hc.2.1 hM2 hcM]
      have := ((h.2 c hc.1 hc.2.1).2 hcM).2
      omega
    · rw [p_k_n hc.1 hc.2.1 hM2 hcM]
      omega
  refine ⟨⟨?_, fun i i0 i1 => ?_⟩, ?_⟩
  · rw [q_fu_o]; exact h.1
    intro hf; have h0 := h.1; rw [hf] at h0; omega
  · by_cases hi : i = c
    · subst hi
      rw [q_fu_s]
      exact ⟨by omega, fun _ => ⟨p_rc_s hu2.1 hs, hk.2⟩⟩
    · rw [q_fu_o hi]
      have h3 := h.2 i i0 i1
      exact ⟨h3.1, fun h4 => ⟨(h3.2 h4).1, by have := (h3.2 h4).2; omega⟩⟩
  · rw [q_sum_up (n := 24) hc.1 hc.2.1]; omega
/-- nothing becomes cheaper: it is the cheapest -/
theorem p_done {e : Int → Int → Int → Prop} (he : p_ed e) {f M : Int} (f0 : 0 ≤ f) (f1 : f < 24) (hM : 300 ≤ M) {G : Int → Int} (h : p_ok e f M G) (hc : ∀ u c s, e u c s → 0 ≤ u → u < 24 → G u < M → G c ≤ G u + s) {c : Int} (c0 : 0 ≤ c) (c1 : c < 24) : q_min (p_rc e f c) (if G c < M then G c else -1) := by
  have key : ∀ (n : Nat) (c x : Int), p_wk e f n c x → G c < M ∧ G c ≤ x := by
    intro n
    induction n with
    | zero => intro c x hw; obtain ⟨h1, h2⟩ := hw; rw [h1, h.1]; omega
    | succ n ih =>
      intro c x hw
      obtain ⟨u, s, h1, h2⟩ := hw
      have hr := p_wk_r he f0 f1 h2
      have h3 := ih u _ h2
      have h4 := hc u c s h1 hr.1 hr.2.1 h3.1
      have h5 := p_bd h hr.1 hr.2.1
      have h6 := he _ _ _ h1
      omega
  by_cases hl : G c < M
  · rw [if_pos hl]
    exact Or.inr ⟨((h.2 c c0 c1).2 hl).1, fun y hy => by obtain ⟨n, hy⟩ := hy; exact (key n c y hy).2⟩
  · rw [if_neg hl]
    exact Or.inl ⟨rfl, fun y hy => by obtain ⟨n, hy⟩ := hy; exact hl (key n c y hy).1⟩
/-- all is the cheapest already -/
def p_fin (e : Int → Int → Int → Prop) (f : Int) (G : Int → Int) (c : Int) : Prop := ∀ x, p_rc e f c x → G c ≤ x
theorem p_fin_c {e : Int → Int → Int → Prop} (he : p_ed e) {f M : Int} {G : Int → Int} (h : p_ok e f M G) (hf : ∀ c, 0 ≤ c → c < 24 → p_fin e f G c) : ∀ u c s, e u c s → 0 ≤ u → u < 24 → G u < M → G c ≤ G u + s := by
  intro u c s hs u0 u1 hu
  have hc := he _ _ _ hs
  exact hf c hc.1 hc.2.1 _ (p_rc_s ((h.2 u u0 u1).2 hu).1 hs)
noncomputable def p_n (e : Int → Int → Int → Prop) (f : Int) (G : Int → Int) : Int := q_sum (fun c => q_if (p_fin e f G c) 1 0) 24
theorem p_if01 (P : Prop) : 0 ≤ q_if P 1 0 ∧ q_if P 1 0 ≤ 1 := by
  by_cases h : P
  · rw [q_if_t h]; omega
  · rw [q_if_f h]; omega
theorem p_n24 {e : Int → Int → Int → Prop} {f : Int} {G : Int → Int} (h : 24 ≤ p_n e f G) : ∀ c, 0 ≤ c → c < 24 → p_fin e f G c := by
  intro c c0 c1
  refine Classical.byContradiction fun hc => ?_
  have := q_sum_lt (f := fun c => q_if (p_fin e f G c) 1 0) (g := fun _ => 1) (n := 24) (fun i _ _ => (p_if01 _).2) c0 c1 (by (try dsimp only); rw [q_if_f hc]; omega)
  rw [q_sum_one] at this
  unfold p_n at h
  omega
/-- one round of relaxing -/
def p_rd (e : Int → Int → Int → Prop) (M : Int) (G0 G : Int → Int) : Prop := (∀ c, 0 ≤ c → c < 24 → G c ≤ G0 c) ∧ ∀ u c s, e u c s → 0 ≤ u → u < 24 → G0 u < M → G c ≤ G0 u + s
theorem p_round {e : Int → Int → Int → Prop} (he : p_ed e) {f M : Int} (f0 : 0 ≤ f) (f1 : f < 24) {G0 G : Int → Int} (h0 : p_ok e f M G0) (hr : p_rd e M G0 G) : (∀ c, 0 ≤ c → c < 24 → p_fin e f G0 c) ∨ p_n e f G0 + 1 ≤ p_n e f G := by
  by_cases ha : ∀ c, 0 ≤ c → c < 24 → p_fin e f G0 c
  · exact Or.inl ha
  · right
    obtain ⟨x, hx⟩ := q_min_ex (P := fun x => ∃ c, 0 ≤ c ∧ c < 24 ∧ p_rc e f c x ∧ x < G0 c) (fun y hy => by obtain ⟨c, c0, c1, h1, h2⟩ := hy; exact p_rc_nn he f0 f1 h1)
    rcases hx with ⟨h1, h2⟩ | ⟨⟨c, c0, c1, h1, h2⟩, h3⟩
    · exfalso
      apply ha
      intro c c0 c1 y hy
      exact Classical.byContradiction fun hl => h2 y ⟨c, c0, c1, hy, by omega⟩
    · have hc : p_fin e f G c := by
        intro y hy
        have hxy : x ≤ y := by
          by_cases hl : y < G0 c
          · exact h3 y ⟨c, c0, c1, hy, hl⟩
          · omega
        obtain ⟨n, hn⟩ := h1
        cases n with
        | zero => obtain ⟨q1, q2⟩ := hn; rw [q1, h0.1] at h2; omega
        | succ n =>
          obtain ⟨u, s, hs, hw⟩ := hn
          have hu := p_wk_r he f0 f1 hw
          have he2 := he _ _ _ hs
          have hG : G0 u ≤ x - s := by
            refine Classical.byContradiction fun hl => ?_
            have := h3 (x - s) ⟨u, hu.1, hu.2.1, ⟨n, hw⟩, by omega⟩
            omega
          have hM := (h0.2 c c0 c1).1.2
          have := hr.2 u c s hs hu.1 hu.2.1 (by omega)
          omega
      have hnc : ¬ p_fin e f G0 c := fun hf => by have := hf x h1; omega
      have := q_sum_lt (f := fun c => q_if (p_fin e f G0 c) 1 0) (g := fun c => q_if (p_fin e f G c) 1 0) (n := 24) (fun i i0 i1 => by
        (try dsimp only)
        by_cases hi : p_fin e f G0 i
        · rw [q_if_t hi, q_if_t (show p_fin e f G i from fun x hx => Int.le_trans (hr.1 i i0 i1) (hi x hx))]; omega
        · rw [q_if_f hi]; exact (p_if01 _).1) c0 c1 (by (try dsimp only); rw [q_if_f hnc, q_if_t hc]; omega)
      unfold p_n
      omega
theorem p_fin_r {e : Int → Int → Int → Prop} {f M : Int} {G0 G : Int → Int} (hr : p_rd e M G0 G) (h : ∀ c, 0 ≤ c → c < 24 → p_fin e f G0 c) : ∀ c, 0 ≤ c → c < 24 → p_fin e f G c := fun c c0 c1 x hx => Int.le_trans (hr.1 c c0 c1) (h c c0 c1 x hx)
/-! the ways of THE HOUSE -/
theorem q_ed_r {A : AS} (h : q_vh A) {f t : Int} (t0 : 0 ≤ t) (t1 : t < 10) {b : Int → Prop} : p_ed (q_ed A f t b) := by
  intro u c s hs
  obtain ⟨v, h0, h1, h2, h3, h4, h5⟩ := hs
  have hr := q_rnh h
  refine ⟨h4.1, ?_, ?_, ?_⟩
  · have := h4.2.1; omega
  · rw [h5]; split <;> omega
  · rw [h5]; split <;> omega
theorem q_co_i {A : AS} (h : q_vh A) {f t : Int} (t0 : 0 ≤ t) (t1 : t < 10) {b : Int → Prop} (f0 : 0 ≤ f) (f1 : f < 24) {c x : Int} (hx : q_min (p_rc (q_ed A f t b) f c) x) : q_co A f t b c = x :=
  q_min_u (fun y hy => p_rc_nn (q_ed_r h t0 t1) f0 f1 hy) (Classical.epsilon_spec (p := q_min (p_rc (q_ed A f t b) f c)) ⟨x, hx⟩) hx
theorem q_co_e {A : AS} (h : q_vh A) {f t : Int} (t0 : 0 ≤ t) (t1 : t < 10) {b : Int → Prop} (f0 : 0 ≤ f) (f1 : f < 24) (c : Int) : q_min (p_rc (q_ed A f t b) f c) (q_co A f t b c) :=
  Classical.epsilon_spec (p := q_min (p_rc (q_ed A f t b) f c)) (q_min_ex fun y hy => p_rc_nn (q_ed_r h t0 t1) f0 f1 hy)
theorem q_co_r {A : AS} (h : q_vh A) {f t : Int} (t0 : 0 ≤ t) (t1 : t < 10) {b : Int → Prop} (f0 : 0 ≤ f) (f1 : f < 24) (c : Int) : -1 ≤ q_co A f t b c := by
  rcases q_co_e h t0 t1 f0 f1 (b := b) c with h1 | h1
  · omega
  · have := p_rc_nn (q_ed_r h t0 t1) f0 f1 h1.1; omega
/-! a way and its way back -/
theorem q_nx_b {A : AS} (h : q_vh A) {u c : Int} (u0 : 0 ≤ u) (u1 : u < A 0 15) {v : Int} (v0 : 0 ≤ v) (v1 : v < 4) (hn : q_nx A u v = c) (hc : ¬ c = -1) : ∃ v', 0 ≤ v' ∧ v' < 4 ∧ q_nx A c v' = u := by
  have hd := q_dv h u0 u1
  unfold q_nx at hn
  split at hn
  · rename_i hh
    have hm := q_mk h hh.1 hh.2.1 hh.2.2.1 hh.2.2.2
    refine ⟨if v = 0 then 2 else if v = 1 then 3 else if v = 2 then 0 else 1, by split <;> (try split) <;> (try split) <;> omega, by split <;> (try split) <;> (try split) <;> omega, ?_⟩
    have hv : v = 0 ∨ v = 1 ∨ v = 2 ∨ v = 3 := by omega
    unfold q_nx
    rw [← hn, hm.2.2.1, hm.2.2.2]
    rcases hv with hv | hv | hv | hv <;> subst hv <;> simp only [q_dn, q_rt, reduceIte, Int.reduceEq, Int.add_zero] <;> rw [if_pos (by omega)] <;> simp only [Int.add_neg_cancel_right, Int.neg_add_cancel_right, Int.add_assoc, Int.reduceAdd, Int.add_zero, Int.reduceNeg] <;> exact hd.2.2.2.2.1
  · omega

