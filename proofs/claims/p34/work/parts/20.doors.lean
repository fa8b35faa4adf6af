theorem m_or0 (a : Int32) : a ||| Int32.ofInt 0 = a := by
  refine b_ext fun i hi => ?_
  rw [b_or, ← z_0, b_0, Bool.or_false]
/-! the nearest door -/
theorem q_isd_ex {A : AS} (h : q_vh A) {c : Int} (c0 : 0 ≤ c) (c1 : c < A 0 15) : ∃ d, q_isd A c d := by
  have hr := q_rnh h
  have hst : ∀ e, -1 ≤ q_st A c e := fun e => q_co_r h (by omega) (by omega) c0 (by omega) e
  obtain ⟨x, hx⟩ := q_min_ex (P := fun x => ∃ d, 0 ≤ d ∧ d < A 0 15 ∧ A 1 d = 2 ∧ 0 ≤ q_st A c d ∧ x = 100 * q_st A c d + d) (fun y hy => by obtain ⟨d, h1, h2, h3, h4, h5⟩ := hy; omega)
  rcases hx with ⟨h1, h2⟩ | ⟨⟨d, h1, h2, h3, h4, h5⟩, h6⟩
  · refine ⟨-1, Or.inl ⟨rfl, fun e e0 e1 e2 => ?_⟩⟩
    have := hst e
    refine Classical.byContradiction fun hn => h2 (100 * q_st A c e + e) ⟨e, e0, e1, e2, by omega, rfl⟩
  · refine ⟨d, Or.inr ⟨h1, h2, h3, h4, fun e e0 e1 e2 => ?_⟩⟩
    by_cases hn : q_st A c e = -1
    · exact Or.inl hn
    · have := hst e
      have := h6 (100 * q_st A c e + e) ⟨e, e0, e1, e2, by omega, rfl⟩
      right; omega
theorem q_isd_u {A : AS} {c d e : Int} (h1 : q_isd A c d) (h2 : q_isd A c e) : d = e := by
  rcases h1 with ⟨a, b⟩ | ⟨a, b, c1, d1, e1⟩ <;> rcases h2 with ⟨a2, b2⟩ | ⟨a2, b2, c2, d2, e2⟩
  · omega
  · have := b e a2 b2 c2; omega
  · have := b2 d a b c1; omega
  · have := e1 e a2 b2 c2; have := e2 d a b c1; omega
theorem q_dr_i {A : AS} (h : q_vh A) {c d : Int} (c0 : 0 ≤ c) (c1 : c < A 0 15) (hw : ¬ A 1 c = 1) (hd : q_isd A c d) : q_dr A c = d := by
  unfold q_dr
  rw [q_if_f hw]
  exact q_isd_u (Classical.epsilon_spec (p := q_isd A c) (q_isd_ex h c0 c1)) hd
theorem q_dr_r {A : AS} (h : q_vh A) {c : Int} (c0 : 0 ≤ c) (c1 : c < A 0 15) : q_dr A c = -1 ∨ (0 ≤ q_dr A c ∧ q_dr A c < A 0 15) := by
  rcases q_drr (A := A) c with h1 | h1 | h1
  · exact Or.inl h1
  · exact Or.inr h1
  · exact absurd (q_isd_ex h c0 c1) h1
theorem q_do_r {A : AS} (h : q_vh A) {c : Int} (c0 : 0 ≤ c) (c1 : c < A 0 15) : 0 ≤ q_do A c ∧ q_do A c < A 0 15 := by
  have := q_dr_r h c0 c1
  unfold q_do
  split <;> omega
/-! ways there and back -/
theorem q_co_b {A : AS} {f t : Int} {b b' : Int → Prop} (f0 : 0 ≤ f) (f1 : f < A 0 15) (hb : ∀ c, 0 ≤ c → c < A 0 15 → (b c ↔ b' c)) (c : Int) : q_co A f t b c = q_co A f t b' c := by
  have key : ∀ (b b' : Int → Prop), (∀ c, 0 ≤ c → c < A 0 15 → (b c ↔ b' c)) → ∀ n c x, p_wk (q_ed A f t b) f n c x → p_wk (q_ed A f t b') f n c x := by
    intro b b' hb n
    induction n with
    | zero => exact fun c x h => h
    | succ n ih =>
      rintro c x ⟨u, s, ⟨v, h1, h2, h3, h4, h5, h6⟩, h7⟩
      have hu := q_rc_in f0 f1 ⟨n, h7⟩
      exact ⟨u, s, ⟨v, h1, h2, h3.imp id (fun hh hb' => hh ((hb u hu.1 hu.2).2 hb')), h4, h5, h6⟩, ih u _ h7⟩
  have e : p_rc (q_ed A f t b) f c = p_rc (q_ed A f t b') f c := by
    refine funext fun x => propext ⟨?_, ?_⟩
    · rintro ⟨n, h⟩; exact ⟨n, key b b' hb n c x h⟩
    · rintro ⟨n, h⟩; exact ⟨n, key b' b (fun c c0 c1 => (hb c c0 c1).symm) n c x h⟩
  unfold q_co
  rw [e]
theorem p_wk_cons {e : Int → Int → Int → Prop} {f g s : Int} (hs : e g f s) : ∀ n c x, p_wk e f n c x → p_wk e g (n + 1) c (x + s) := by
  intro n
  induction n with
  | zero =>
    rintro c x ⟨h1, h2⟩
    exact ⟨g, s, by rw [h1]; exact hs, rfl, by omega⟩
  | succ n ih =>
    rintro c x ⟨u, r, h1, h2⟩
    exact ⟨u, r, h1, by rw [show x + s - r = x - r + s by omega]; exact ih u _ h2⟩
def q_e0 (A : AS) : Int → Int → Int → Prop := fun u c s => ∃ v, 0 ≤ v ∧ v < 4 ∧ q_nx A u v = c ∧ q_op A c ∧ s = 1
theorem q_e0_e {A : AS} {f : Int} : q_ed A f 0 (fun _ => False) = q_e0 A := by
  refine funext fun u => funext fun c => funext fun s => propext ⟨?_, ?_⟩
  · rintro ⟨v, h1, h2, h3, h4, h5, h6⟩
    refine ⟨v, h1, h2, h4, h5, ?_⟩
    rw [h6]; split <;> rfl
  · rintro ⟨v, h1, h2, h4, h5, h6⟩
    refine ⟨v, h1, h2, Or.inr id, h4, h5, ?_⟩
    rw [h6]; split <;> rfl
theorem q_st_rev {A : AS} (h : q_vh A) {f : Int} (hf : q_op A f) : ∀ n c x, p_wk (q_e0 A) f n c x → p_wk (q_e0 A) c n f x := by
  intro n
  induction n with
  | zero => rintro c x ⟨h1, h2⟩; exact ⟨h1.symm, h2⟩
  | succ n ih =>
    rintro c x ⟨u, s, ⟨v, h1, h2, h3, h4, h5⟩, h6⟩
    have hu : q_op A u := by
      cases n with
      | zero => obtain ⟨q1, q2⟩ := h6; rw [q1]; exact hf
      | succ n => obtain ⟨u', s', ⟨v', a1, a2, a3, a4, a5⟩, a6⟩ := h6; exact a4
    obtain ⟨v', b1, b2, b3⟩ := q_nx_b h hu.1 hu.2.1 h1 h2 h3 (by have := h4.1; omega)
    have := p_wk_cons (e := q_e0 A) (f := u) (g := c) (s := 1) ⟨v', b1, b2, b3, hu, rfl⟩ n f (x - s) (ih u _ h6)
    rw [show x - s + 1 = x by omega] at this
    exact this
theorem q_st_sym {A : AS} (h : q_vh A) {f c : Int} (hf : q_op A f) (hc : q_op A c) : q_st A f c = q_st A c f := by
  have e : p_rc (q_e0 A) f c = p_rc (q_e0 A) c f := by
    refine funext fun x => propext ⟨?_, ?_⟩
    · rintro ⟨n, hw⟩; exact ⟨n, q_st_rev h hf n c x hw⟩
    · rintro ⟨n, hw⟩; exact ⟨n, q_st_rev h hc n f x hw⟩
  unfold q_st q_co
  rw [q_e0_e, q_e0_e, e]
theorem q_st_wall {A : AS} (h : q_vh A) {f c : Int} (f0 : 0 ≤ f) (f1 : f < A 0 15) (hfc : ¬ f = c) (hc : ¬ q_op A c) : q_st A f c = -1 := by
  have hr := q_rnh h
  refine q_co_i h (by omega) (by omega) f0 (by omega) (Or.inl ⟨rfl, ?_⟩)
  rintro y ⟨n, hw⟩
  cases n with
  | zero => exact hfc hw.1.symm
  | succ n =>
    obtain ⟨u, s, ⟨v, h1, h2, h3, h4, h5, h6⟩, h7⟩ := hw
    exact hc h5

