/-! moves(): what both look for -/
def q_like (A B : AS) : Prop := (∀ s, ¬ s = 5 → B s = A s) ∧ ∀ t, B 5 (5 * t) = A 5 (5 * t)
theorem q_like_r (A : AS) : q_like A A := ⟨fun _ _ => rfl, fun _ => rfl⟩
theorem q_like_mv {A B : AS} (h : q_like A B) {t c v : Int} : q_like A (q_mv B t c v) := by
  refine ⟨fun s hs => ?_, fun u => q_mv_k.trans (h.2 u)⟩
  have e : q_mv B t c v s = B s := by
    funext y
    unfold q_mv
    rw [if_neg (fun hh => hs hh.1), if_neg (fun hh => hs hh.1)]
  rw [e]; exact h.1 s hs
theorem q_like_hn {A B : AS} (h : q_like A B) : q_hn B = q_hn A := by
  refine funext fun a => funext fun b => ?_
  unfold q_hn
  by_cases h5 : a = 5
  · subst h5
    rw [if_neg (by omega), if_neg (by omega), if_neg (by omega), if_neg (by omega)]
  · rw [h.1 a h5, h.1 0 (by omega)]
theorem q_br_cg {A B : AS} (h : q_hn B = q_hn A) (h0 : B 0 3 = A 0 3) (h3 : B 3 = A 3) : q_br B = q_br A := by
  have hv : q_vi B = q_vi A := by
    funext b a hh p c v l
    unfold q_vi q_hl q_cn
    rw [h3, q_sd_n B, q_sd_n A, q_pt_n B, q_pt_n A, q_do_n B, q_do_n A, h]
  have key : ∀ b a hh p c v n, q_brn B b a hh p c v n = q_brn A b a hh p c v n := by
    intro b a hh p c v n
    induction n with
    | zero => rfl
    | succ n ih =>
      show q_brn B b a hh p c v n ||| q_iw (q_vi B b a hh p c v n) _ _ = q_brn A b a hh p c v n ||| q_iw (q_vi A b a hh p c v n) _ _
      rw [ih, hv]
  funext b a hh p c v
  unfold q_br
  rw [h0, key]
theorem q_like_br {A B : AS} (h : q_like A B) : q_br B = q_br A := q_br_cg (q_like_hn h) (by rw [h.1 0 (by omega)]) (h.1 3 (by omega))
theorem q_like_sp {A B : AS} (h : q_like A B) : q_sp B = q_sp A := by rw [q_sp_n B, q_like_hn h, ← q_sp_n A]
theorem q_like_nx {A B : AS} (h : q_like A B) : q_nx B = q_nx A := by rw [q_nx_n B, q_like_hn h, ← q_nx_n A]
theorem q_like_ls {A B : AS} (h : q_like A B) : q_ls B = q_ls A := by rw [q_ls_n B, q_like_hn h, ← q_ls_n A]
theorem q_op_h (A : AS) : q_op A = q_op (q_hn A) := rfl
theorem q_fl_h (A : AS) : q_fl A = q_fl (q_hn A) := rfl
theorem q_like_op {A B : AS} (h : q_like A B) : q_op B = q_op A := by rw [q_op_h B, q_like_hn h, ← q_op_h A]
theorem q_like_fl {A B : AS} (h : q_like A B) : q_fl B = q_fl A := by rw [q_fl_h B, q_like_hn h, ← q_fl_h A]
theorem q_like_gd {A B : AS} (h : q_like A B) : q_gd B = q_gd A := by
  funext a hh e x
  unfold q_gd q_gc
  rw [q_like_br h, q_like_sp h, q_like_nx h, q_like_op h, h.1 0 (by omega)]
theorem q_like_vh {A B : AS} (h : q_like A B) (hV : q_vh A) : q_vh B := by
  unfold q_vh at *
  rw [h.1 0 (by omega), h.1 1 (by omega), h.1 2 (by omega)]; exact hV
/-- it is valid again, if all have room -/
theorem q_like_v0 {A B : AS} (h : q_like A B) (hV : q_v0 A) (hg : ∀ t, 0 ≤ t → t < A 0 5 → q_gr B t) (hr : q_hr B) : q_v0 B ∧ q_vd B 5 5 := by
  obtain ⟨v1, v2, v3, v4, v5, v6, v7, v8, v9, v10⟩ := hV
  have h0 := h.1 0 (by omega)
  refine ⟨⟨q_like_vh h v1, ?_, ?_, ?_, ?_, ?_, ?_, ?_, ?_, ?_⟩, fun t u t0 t1 u0 u1 => (hr t t0 t1).2 u u0 u1⟩
  · unfold q_vl at *; rw [h0, h.1 3 (by omega)]; exact v2
  · unfold q_vp at *; rw [h0, h.1 8 (by omega)]; exact v3
  · refine ⟨by rw [h0]; exact v4.1, by rw [h0]; exact v4.2.1, fun t t0 t1 => ?_⟩
    exact q_gr_f (hg t t0 (by rw [h0] at t1; exact t1)) (hr t t0 t1).1
  · unfold q_ve at *; rw [h0, h.1 4 (by omega), q_like_op h]; exact v5
  · unfold q_vb at *; rw [h0, h.1 6 (by omega)]; exact v6
  · unfold q_vj at *; rw [h0, h.1 7 (by omega)]; exact v7
  · rw [h0]; exact v8
  · rw [h0]; exact v9
  · rw [h0]; exact v10
theorem q_tkm_u {A : AS} {u v : Int} {m m' : Int32} (h : q_tkm A u v m) (h' : q_tkm A u v m') : m = m' := by
  refine b_ext fun i hi => ?_
  have e := (h i (by omega) (by omega)).trans (h' i (by omega) (by omega)).symm
  rw [q_bt_b (by omega) (by omega), q_bt_b (by omega) (by omega)] at e
  have ei : (i : Int).toNat = i := by omega
  rw [ei] at e
  cases h1 : bt m i <;> cases h2 : bt m' i <;> simp_all
theorem q_tkm_ex (A : AS) (g0 : 0 ≤ A 0 5) (u v : Int) : ∃ m, q_tkm A u v m := by
  have key : ∀ n : Nat, ∃ m, ∀ x, 0 ≤ x → x < 32 → (q_bt m x ↔ ∃ t, 0 ≤ t ∧ t < (n : Int) ∧ ¬ t = u ∧ ¬ t = v ∧ q_bt (q_sp A (A 5 (5 * t)) (A 5 (5 * t + 1)) (A 5 (5 * t + 2))) x) := by
    intro n
    induction n with
    | zero => exact ⟨Int32.ofInt 0, fun x x0 x1 => ⟨fun h => absurd h (q_bt_0 x0 x1), fun ⟨t, t0, t1, _⟩ => absurd t1 (by omega)⟩⟩
    | succ n ih =>
      obtain ⟨m, hm⟩ := ih
      by_cases hu : (n : Int) = u ∨ (n : Int) = v
      · exact ⟨m, fun x x0 x1 => (hm x x0 x1).trans ⟨fun ⟨t, t0, t1, t2⟩ => ⟨t, t0, by omega, t2⟩, fun ⟨t, t0, t1, t2, t3, t4⟩ => ⟨t, t0, by omega, t2, t3, t4⟩⟩⟩
      · refine ⟨m ||| q_sp A (A 5 (5 * n)) (A 5 (5 * n + 1)) (A 5 (5 * n + 2)), fun x x0 x1 => ?_⟩
        rw [q_bt_or x0 x1, hm x x0 x1]
        constructor
        · rintro (⟨t, t0, t1, t2⟩ | q)
          · exact ⟨t, t0, by omega, t2⟩
          · exact ⟨n, by omega, by omega, by omega, by omega, q⟩
        · rintro ⟨t, t0, t1, t2, t3, t4⟩
          by_cases ht : t = n
          · rw [ht] at t4; exact Or.inr t4
          · exact Or.inl ⟨t, t0, by omega, t2, t3, t4⟩
  obtain ⟨m, hm⟩ := key (A 0 5).toNat
  rw [Int.toNat_of_nonneg g0] at hm
  exact ⟨m, hm⟩
/-- all habits are kept where things stand so -/
def q_ka (A : AS) : Prop := ∃ m, q_tkm A (-1) (-1) m ∧ q_an A m
theorem q_ka_i {A : AS} {m : Int32} (h : q_tkm A (-1) (-1) m) : q_an A m ↔ q_ka A := ⟨fun h2 => ⟨m, h, h2⟩, fun ⟨m', h1, h2⟩ => by rw [q_tkm_u h h1]; exact h2⟩
theorem q_ka_akp {A : AS} (hV : q_v0 A) (hd : q_vd A 5 5) : q_ka A ↔ q_akp A := by
  have hr := q_rng hV
  obtain ⟨m, hm⟩ := q_tkm_ex A (by omega) (-1) (-1)
  rw [← q_ka_i hm]
  exact ⟨fun h a a0 a1 => (q_kn_kp hV hd hm a0 a1).1 (h a a0 a1), fun h a a0 a1 => (q_kn_kp hV hd hm a0 a1).2 (h a a0 a1)⟩
/-! a thing is set elsewhere -/
def q_ip (A : AS) (t p : Int) : Prop := (¬ p = 4 * A 5 (5 * t + 1) + A 5 (5 * t + 2)) ∧ ¬ q_sp A (A 5 (5 * t)) (p / 4) (p % 4) = Int32.ofInt 0
def q_dis (A : AS) (u c v : Int) : Prop := ∀ t, 0 ≤ t → t < A 0 5 → ¬ t = u → q_sp A (A 5 (5 * u)) c v &&& q_sp A (A 5 (5 * t)) (A 5 (5 * t + 1)) (A 5 (5 * t + 2)) = Int32.ofInt 0
def q_D (A : AS) (u p : Int) : Prop := q_ip A u p ∧ q_dis A u (p / 4) (p % 4) ∧ q_ka (q_mv A u (p / 4) (p % 4))
def q_O (A : AS) (t p : Int) : Prop := q_ip A t p ∧ q_hr (q_mv A t (p / 4) (p % 4)) ∧ q_akp (q_mv A t (p / 4) (p % 4))
def q_oth (A : AS) (u : Int) : Prop := ∀ x y, 0 ≤ x → x < A 0 5 → 0 ≤ y → y < x → ¬ x = u → ¬ y = u → q_ap A 5 x y
theorem q_sp_n0 {A : AS} (hV : q_vh A) {k c v : Int} (h : ¬ q_sp A k c v = Int32.ofInt 0) : q_fl A c ∧ q_fl A (q_ls A k c v) ∧ (k = 1 ∨ v = 0) := Classical.not_not.1 fun hh => h ((q_sp0 hV).2 hh)
theorem q_sp_and {A : AS} (hV : q_vh A) {k c v k' c' v' : Int} (h1 : ¬ q_sp A k c v = Int32.ofInt 0) (h2 : ¬ q_sp A k' c' v' = Int32.ofInt 0) : q_sp A k c v &&& q_sp A k' c' v' = Int32.ofInt 0 ↔ ¬ c = c' ∧ ¬ c = q_ls A k' c' v' ∧ ¬ q_ls A k c v = c' ∧ ¬ q_ls A k c v = q_ls A k' c' v' := by
  have f1 := q_sp_n0 hV h1
  have f2 := q_sp_n0 hV h2
  have hr := q_rnh hV
  have c0 := f1.1.1
  have c1 := f1.1.2.1
  have l0 := f1.2.1.1
  have l1 := f1.2.1.2.1
  rw [m_and0]
  constructor
  · intro h
    have a1 := h c c0 (by omega)
    have a2 := h (q_ls A k c v) l0 (by omega)
    rw [q_bt_sp hV c0 (by omega), q_bt_sp hV c0 (by omega)] at a1
    rw [q_bt_sp hV l0 (by omega), q_bt_sp hV l0 (by omega)] at a2
    exact ⟨fun e => a1 ⟨⟨f1, Or.inl rfl⟩, f2, Or.inl e⟩, fun e => a1 ⟨⟨f1, Or.inl rfl⟩, f2, Or.inr e⟩, fun e => a2 ⟨⟨f1, Or.inr rfl⟩, f2, Or.inl e⟩, fun e => a2 ⟨⟨f1, Or.inr rfl⟩, f2, Or.inr e⟩⟩
  · rintro ⟨b1, b2, b3, b4⟩ x x0 x1 hh
    rw [q_bt_sp hV x0 x1, q_bt_sp hV x0 x1] at hh
    obtain ⟨⟨-, h3⟩, -, h4⟩ := hh
    rcases h3 with h3 | h3 <;> rcases h4 with h4 | h4
    · exact b1 (h3.symm.trans h4)
    · exact b2 (h3.symm.trans h4)
    · exact b3 (h3.symm.trans h4)
    · exact b4 (h3.symm.trans h4)
theorem q_ip_r {A : AS} (hV : q_vh A) {t p : Int} (h : q_ip A t p) : 0 ≤ p / 4 ∧ p / 4 < A 0 15 ∧ (A 5 (5 * t) = 1 ∨ p % 4 = 0) ∧ q_fl A (p / 4) ∧ q_fl A (q_ls A (A 5 (5 * t)) (p / 4) (p % 4)) := by
  have f := q_sp_n0 hV h.2
  exact ⟨f.1.1, f.1.2.1, f.2.2, f.1, f.2.1⟩
theorem q_gr_mv2 {B : AS} {u c v : Int} (hg : ∀ t, 0 ≤ t → t < B 0 5 → q_gr B t) (c0 : 0 ≤ c) (c1 : c < B 0 15) (v0 : 0 ≤ v) (v1 : v < 4) (hw : B 5 (5 * u) = 1 ∨ v = 0) : ∀ t, 0 ≤ t → t < B 0 5 → q_gr (q_mv B u c v) t := by
  intro t t0 t1
  obtain ⟨h1, h2, h3, h4, h5, h6, h7⟩ := hg t t0 t1
  unfold q_gr
  rw [q_mv_k]
  by_cases hu : t = u
  · subst hu
    rw [q_mv_s.1, q_mv_s.2]
    exact ⟨h1, h2, v0, by omega, hw, c0, c1⟩
  · rw [(q_mv_o hu).1, (q_mv_o hu).2]
    exact ⟨h1, h2, h3, h4, h5, h6, h7⟩
theorem q_hr_D {B : AS} (hV : q_vh B) {u p : Int} (hg : ∀ t, 0 ≤ t → t < B 0 5 → q_gr B t) (ho : ∀ t, 0 ≤ t → t < B 0 5 → ¬ t = u → q_o1 B t) (u0 : 0 ≤ u) (u1 : u < B 0 5) (hi : q_ip B u p) : q_hr (q_mv B u (p / 4) (p % 4)) ↔ q_oth B u ∧ q_dis B u (p / 4) (p % 4) := by
  obtain ⟨i1, i2, i3, i4, i5⟩ := q_ip_r hV hi
  have hsp : ∀ t, 0 ≤ t → t < B 0 5 → ¬ t = u → ¬ q_sp B (B 5 (5 * t)) (B 5 (5 * t + 1)) (B 5 (5 * t + 2)) = Int32.ofInt 0 := by
    intro t t0 t1 ht hs
    have g := hg t t0 t1
    have o := ho t t0 t1 ht
    exact (q_sp0 hV).1 hs ⟨o.1, o.2, g.2.2.2.2.1⟩
  have hnew : ∀ t, 0 ≤ t → t < B 0 5 → ¬ t = u → (q_ap (q_mv B u (p / 4) (p % 4)) 5 u t ↔ q_sp B (B 5 (5 * u)) (p / 4) (p % 4) &&& q_sp B (B 5 (5 * t)) (B 5 (5 * t + 1)) (B 5 (5 * t + 2)) = Int32.ofInt 0) := by
    intro t t0 t1 ht
    rw [q_ap_e, q_sp_and hV hi.2 (hsp t t0 t1 ht), q_mv_s.1, q_mv_ls, (q_mv_o ht).1, q_mv_la ht]
    exact Iff.rfl
  constructor
  · intro h
    refine ⟨fun x y x0 x1 y0 y1 hx hy => ?_, fun t t0 t1 ht => ?_⟩
    · have := q_ap_e.1 ((h x x0 x1).2 y y0 y1)
      rw [(q_mv_o hx).1, (q_mv_o hy).1, q_mv_la hx, q_mv_la hy] at this
      exact q_ap_e.2 this
    · refine (hnew t t0 t1 ht).1 ?_
      by_cases hlt : t < u
      · exact (h u u0 u1).2 t t0 hlt
      · exact q_ap_s ((h t t0 t1).2 u u0 (by omega))
  · rintro ⟨h1, h2⟩ t t0 t1
    have t1' : t < B 0 5 := t1
    by_cases ht : t = u
    · subst ht
      refine ⟨⟨by rw [q_mv_s.1]; exact i4, by rw [q_mv_ls]; exact i5⟩, fun y y0 y1 => ?_⟩
      exact (hnew y y0 (by omega) (by omega)).2 (h2 y y0 (by omega) (by omega))
    · have o := ho t t0 t1' ht
      refine ⟨⟨by rw [(q_mv_o ht).1]; exact o.1, by rw [q_mv_la ht]; exact o.2⟩, fun y y0 y1 => ?_⟩
      by_cases hy : y = u
      · subst hy
        exact q_ap_s ((hnew t t0 t1' ht).2 (h2 t t0 t1' ht))
      · refine q_ap_e.2 ?_
        rw [(q_mv_o ht).1, (q_mv_o hy).1, q_mv_la ht, q_mv_la hy]
        exact q_ap_e.1 (h1 t y t0 t1' y0 y1 ht hy)
theorem q_D_O {A B : AS} (hV : q_v0 A) (hl : q_like A B) {u p : Int} (hg : ∀ t, 0 ≤ t → t < A 0 5 → q_gr B t) (ho : ∀ t, 0 ≤ t → t < A 0 5 → ¬ t = u → q_o1 B t) (u0 : 0 ≤ u) (u1 : u < A 0 5) (p0 : 0 ≤ p) : q_oth B u ∧ q_D B u p ↔ q_O B u p := by
  have h0 := hl.1 0 (by omega)
  have hVB := q_like_vh hl hV.1
  have hgB : ∀ t, 0 ≤ t → t < B 0 5 → q_gr B t := by rw [h0]; exact hg
  have hoB : ∀ t, 0 ≤ t → t < B 0 5 → ¬ t = u → q_o1 B t := by rw [h0]; exact ho
  have hval : q_ip B u p → q_hr (q_mv B u (p / 4) (p % 4)) → (q_ka (q_mv B u (p / 4) (p % 4)) ↔ q_akp (q_mv B u (p / 4) (p % 4))) := by
    intro hi hh
    obtain ⟨i1, i2, i3, i4, i5⟩ := q_ip_r hVB hi
    have hg2 := q_gr_mv2 hgB i1 i2 (by omega) (by omega) i3
    rw [h0] at hg2
    obtain ⟨v, dd⟩ := q_like_v0 (q_like_mv hl) hV hg2 hh
    exact q_ka_akp v dd
  constructor
  · rintro ⟨h1, h2, h3, h4⟩
    have hh := (q_hr_D hVB hgB hoB u0 (by rw [h0]; exact u1) h2).2 ⟨h1, h3⟩
    exact ⟨h2, hh, (hval h2 hh).1 h4⟩
  · rintro ⟨h2, hh, h4⟩
    have h13 := (q_hr_D hVB hgB hoB u0 (by rw [h0]; exact u1) h2).1 hh
    exact ⟨h13.1, h2, h13.2, (hval h2 hh).2 h4⟩
