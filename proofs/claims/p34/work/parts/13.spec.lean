/-! THE SPEC: the state that both sides tell (A), in whole numbers.
A 0: 0 rows, 1 columns, 2 houses, 3 laws, 4 events, 5 things, 6 habits, 7 judgments, 8 letters, 9 asks, 10 an image is kept, 11 its things, 12 events, 13 habits, 14 judgments, 15 cells. The shift of the line stands apart.
A 1 kinds, 2 lines, 3 laws (5 l + j), 4 events, 5 things, 6 habits, 7 judgments, 8 letters, 9 .. 12 the image's things, events, habits, judgments. -/
abbrev AS : Type := Nat → Int → Int
def q_nx (A : AS) (c v : Int) : Int :=
  if 0 ≤ c / A 0 1 + q_dn v ∧ c / A 0 1 + q_dn v < A 0 0 ∧ 0 ≤ c % A 0 1 + q_rt v ∧ c % A 0 1 + q_rt v < A 0 1 then (c / A 0 1 + q_dn v) * A 0 1 + (c % A 0 1 + q_rt v) else -1
abbrev q_op (A : AS) (c : Int) : Prop := 0 ≤ c ∧ c < A 0 15 ∧ ¬ A 1 c = 1
abbrev q_fl (A : AS) (c : Int) : Prop := 0 ≤ c ∧ c < A 0 15 ∧ A 1 c = 0
noncomputable def q_if (P : Prop) (a b : Int) : Int := @ite _ P (Classical.propDecidable P) a b
theorem q_if_t {P : Prop} {a b : Int} (h : P) : q_if P a b = a := @if_pos _ (Classical.propDecidable P) h _ _ _
theorem q_if_f {P : Prop} {a b : Int} (h : ¬ P) : q_if P a b = b := @if_neg _ (Classical.propDecidable P) h _ _ _
noncomputable def q_iw (P : Prop) (a b : Int32) : Int32 := @ite _ P (Classical.propDecidable P) a b
theorem q_iw_t {P : Prop} {a b : Int32} (h : P) : q_iw P a b = a := @if_pos _ (Classical.propDecidable P) h _ _ _
theorem q_iw_f {P : Prop} {a b : Int32} (h : ¬ P) : q_iw P a b = b := @if_neg _ (Classical.propDecidable P) h _ _ _
noncomputable def q_ah (A : AS) (c v : Int) : Int := q_if (q_op A (q_nx A c v)) (q_nx A c v) c
def q_sd (A : AS) (b c : Int) : Int := if c % A 0 1 < A 2 (c / A 0 1) + b then 0 else 1
noncomputable def q_pt (A : AS) (p c v k : Int) : Int := q_if ((k = 1 ∧ p = 0) ∨ (k = 2 ∧ p = 1) ∨ (k = 3 ∧ ¬ p = 0)) (q_ah A c v) c
/-- one bit -/
def q_b (c : Int) : Int32 := Int32.ofInt 1 <<< (Int32.ofInt c &&& 31)
noncomputable def q_sp (A : AS) (k c v : Int) : Int32 := if k = 1 then q_iw (q_fl A c ∧ q_fl A (q_nx A c v)) (q_b c ||| q_b (q_nx A c v)) (Int32.ofInt 0) else q_iw (q_fl A c ∧ v = 0) (q_b c) (Int32.ofInt 0)
def q_ls (A : AS) (k c v : Int) : Int := if k = 1 then q_nx A c v else c
/-- a way of n steps and its cost, from f, over edges -/
def p_wk (e : Int → Int → Int → Prop) (f : Int) : Nat → Int → Int → Prop
  | 0, c, x => c = f ∧ x = 0
  | n + 1, c, x => ∃ u s, e u c s ∧ p_wk e f n u (x - s)
def p_rc (e : Int → Int → Int → Prop) (f : Int) (c x : Int) : Prop := ∃ n, p_wk e f n c x
/-- a step of a way from f; b: where none goes on -/
def q_ed (A : AS) (f t : Int) (b : Int → Prop) (u c s : Int) : Prop := ∃ v, 0 ≤ v ∧ v < 4 ∧ (u = f ∨ ¬ b u) ∧ q_nx A u v = c ∧ q_op A c ∧ s = 1 + if q_sd A 0 u = q_sd A 0 c then 0 else t
/-- what the cheapest way costs; -1: there is none -/
def q_min (P : Int → Prop) (x : Int) : Prop := (x = -1 ∧ ∀ y, ¬ P y) ∨ (P x ∧ ∀ y, P y → x ≤ y)
noncomputable def q_co (A : AS) (f t : Int) (b : Int → Prop) (c : Int) : Int := Classical.epsilon (q_min (p_rc (q_ed A f t b) f c))
noncomputable def q_st (A : AS) (f c : Int) : Int := q_co A f 0 (fun _ => False) c
/-- the nearest door -/
def q_isd (A : AS) (c d : Int) : Prop := (d = -1 ∧ ∀ e, 0 ≤ e → e < A 0 15 → A 1 e = 2 → q_st A c e = -1) ∨ (0 ≤ d ∧ d < A 0 15 ∧ A 1 d = 2 ∧ 0 ≤ q_st A c d ∧ ∀ e, 0 ≤ e → e < A 0 15 → A 1 e = 2 → q_st A c e = -1 ∨ q_st A c d < q_st A c e ∨ (q_st A c d = q_st A c e ∧ d ≤ e))
noncomputable def q_dr (A : AS) (c : Int) : Int := q_if (A 1 c = 1) (-1) (Classical.epsilon (q_isd A c))
noncomputable def q_do (A : AS) (c : Int) : Int := if q_dr A c = -1 then c else q_dr A c
/-- the laws -/
def q_hl (A : AS) (l h : Int) : Prop := if A 3 (5 * l + 2) = A 3 (5 * l + 3) then True else if A 3 (5 * l + 2) < A 3 (5 * l + 3) then A 3 (5 * l + 2) ≤ h ∧ h < A 3 (5 * l + 3) else A 3 (5 * l + 2) ≤ h ∨ h < A 3 (5 * l + 3)
def q_cn (A : AS) (b l p c v : Int) : Prop :=
  if A 3 (5 * l + 4) = 1 then q_sd A b c = A 3 (5 * l)
  else if A 3 (5 * l + 4) = 2 then q_sd A b (q_pt A p c v 1) = A 3 (5 * l)
  else if A 3 (5 * l + 4) = 3 then q_sd A b c = A 3 (5 * l) ∧ q_sd A b (q_pt A p c v 2) = A 3 (5 * l) ∧ q_sd A b (q_pt A p c v 3) = A 3 (5 * l)
  else if A 3 (5 * l + 4) = 4 then q_sd A b (q_do A c) = A 3 (5 * l)
  else True
def q_vi (A : AS) (b a h p c v l : Int) : Prop := A 3 (5 * l + 1) = a ∧ q_hl A l h ∧ q_cn A b l p c v
noncomputable def q_brn (A : AS) (b a h p c v : Int) : Nat → Int32
  | 0 => Int32.ofInt 0
  | n + 1 => q_brn A b a h p c v n ||| q_iw (q_vi A b a h p c v n) (q_b n) (Int32.ofInt 0)
noncomputable def q_br (A : AS) (b a h p c v : Int) : Int32 := q_brn A b a h p c v (A 0 3).toNat
def q_la (A : AS) (t : Int) : Int := q_ls A (A 5 (5 * t)) (A 5 (5 * t + 1)) (A 5 (5 * t + 2))
def q_at (A : AS) (t c : Int) : Prop := A 5 (5 * t + 1) = c ∨ q_la A t = c
def q_ist (A : AS) (c t : Int) : Prop := (t = -1 ∧ ∀ u, 0 ≤ u → u < A 0 5 → ¬ q_at A u c) ∨ (0 ≤ t ∧ t < A 0 5 ∧ q_at A t c ∧ ∀ u, 0 ≤ u → u < t → ¬ q_at A u c)
noncomputable def q_ta (A : AS) (c : Int) : Int := Classical.epsilon (q_ist A c)
/-- what is sound -/
def q_vh (A : AS) : Prop := 0 ≤ A 0 2 ∧ A 0 2 ≤ 1000000 ∧ A 0 15 = A 0 0 * A 0 1 ∧ ((A 0 0 = 0 ∧ A 0 1 = 0 ∧ A 0 2 = 0) ∨ (2 ≤ A 0 0 ∧ A 0 0 ≤ 4 ∧ 2 ≤ A 0 1 ∧ A 0 1 ≤ 6 ∧ 0 < A 0 2)) ∧ (∀ c, 0 ≤ c → c < A 0 15 → 0 ≤ A 1 c ∧ A 1 c ≤ 2) ∧ (∀ r, 0 ≤ r → r < A 0 0 → 0 ≤ A 2 r ∧ A 2 r ≤ A 0 1)
def q_vl (A : AS) : Prop := 0 ≤ A 0 3 ∧ A 0 3 ≤ 8 ∧ ∀ l, 0 ≤ l → l < A 0 3 → 0 ≤ A 3 (5 * l) ∧ A 3 (5 * l) ≤ 1 ∧ 0 ≤ A 3 (5 * l + 1) ∧ A 3 (5 * l + 1) ≤ 5 ∧ 0 ≤ A 3 (5 * l + 2) ∧ A 3 (5 * l + 2) ≤ 23 ∧ 0 ≤ A 3 (5 * l + 3) ∧ A 3 (5 * l + 3) ≤ 23 ∧ 0 ≤ A 3 (5 * l + 4) ∧ A 3 (5 * l + 4) ≤ 4
def q_vp (A : AS) : Prop := 0 ≤ A 0 8 ∧ A 0 8 ≤ 40 ∧ ∀ k, 0 ≤ k → k < A 0 8 → 1 ≤ A 8 k ∧ A 8 k ≤ 126
/-- a thing of a kind in a place by itself -/
def q_fit (A : AS) (k c v : Int) : Prop := 0 ≤ k ∧ k ≤ 3 ∧ 0 ≤ v ∧ v ≤ 3 ∧ (k = 1 ∨ v = 0) ∧ q_fl A c ∧ q_fl A (q_ls A k c v)
def q_vt (A : AS) (j : Int) (s : Nat) : Prop := 0 ≤ A 0 j ∧ A 0 j ≤ 3 ∧ ∀ t, 0 ≤ t → t < A 0 j → q_fit A (A s (5 * t)) (A s (5 * t + 1)) (A s (5 * t + 2))
def q_ve (A : AS) (j : Int) (s : Nat) : Prop := 0 ≤ A 0 j ∧ A 0 j ≤ 12 ∧ ∀ t, 0 ≤ t → t < A 0 j → 0 ≤ A s (5 * t) ∧ A s (5 * t) ≤ 23 ∧ 0 ≤ A s (5 * t + 1) ∧ A s (5 * t + 1) ≤ 5 ∧ 0 ≤ A s (5 * t + 2) ∧ A s (5 * t + 2) ≤ 2 ∧ q_op A (A s (5 * t + 3)) ∧ 0 ≤ A s (5 * t + 4) ∧ A s (5 * t + 4) ≤ 3
def q_vb (A : AS) (j : Int) (s : Nat) : Prop := 0 ≤ A 0 j ∧ A 0 j ≤ 6 ∧ ∀ t, 0 ≤ t → t < A 0 j → 0 ≤ A s (5 * t) ∧ A s (5 * t) ≤ 5 ∧ 0 ≤ A s (5 * t + 1) ∧ A s (5 * t + 1) ≤ 23
def q_vj (A : AS) (j : Int) (s : Nat) : Prop := 0 ≤ A 0 j ∧ A 0 j ≤ 10 ∧ ∀ t, 0 ≤ t → t < A 0 j → 0 ≤ A s (5 * t) ∧ A s (5 * t) < A 0 15 ∧ 0 ≤ A s (5 * t + 1) ∧ A s (5 * t + 1) ≤ 1
/-- no two things in one cell -/
def q_ap (A : AS) (s : Nat) (t u : Int) : Prop := ¬ A s (5 * t + 1) = A s (5 * u + 1) ∧ ¬ A s (5 * t + 1) = q_ls A (A s (5 * u)) (A s (5 * u + 1)) (A s (5 * u + 2)) ∧ ¬ q_ls A (A s (5 * t)) (A s (5 * t + 1)) (A s (5 * t + 2)) = A s (5 * u + 1) ∧ ¬ q_ls A (A s (5 * t)) (A s (5 * t + 1)) (A s (5 * t + 2)) = q_ls A (A s (5 * u)) (A s (5 * u + 1)) (A s (5 * u + 2))
def q_vd (A : AS) (j : Int) (s : Nat) : Prop := ∀ t u, 0 ≤ t → t < A 0 j → 0 ≤ u → u < t → q_ap A s t u
/-- the state but for what the things are to each other, and for the image -/
def q_v0 (A : AS) : Prop := q_vh A ∧ q_vl A ∧ q_vp A ∧ q_vt A 5 5 ∧ q_ve A 4 4 ∧ q_vb A 6 6 ∧ q_vj A 7 7 ∧ 0 ≤ A 0 9 ∧ A 0 9 ≤ 12 ∧ (A 0 10 = 0 ∨ A 0 10 = 1)
def q_vi0 (A : AS) : Prop := A 0 10 = 1 → (0 < A 0 2 ∧ q_vt A 11 9 ∧ q_vd A 11 9 ∧ q_ve A 12 10 ∧ q_vb A 13 11 ∧ q_vj A 14 12)
def q_V (A : AS) : Prop := q_v0 A ∧ q_vd A 5 5 ∧ q_vi0 A
/-! what a world tells of it: the class's side -/
abbrev q_ar (A : AS) (w : PW) (s o : Nat) (n : Int) : Prop := ∀ k, 0 ≤ k → k < n → w.1 o k.toNat = Int32.ofInt (A s k)
def rCs (A : AS) (w : PW) : Prop := w.1 5 11 = Int32.ofInt (A 0 15) ∧ w.1 5 12 = Int32.ofInt (A 0 0) ∧ w.1 5 13 = Int32.ofInt (A 0 1)
def rC0 (A : AS) (w : PW) : Prop := w.1 0 10 = Int32.ofInt (A 0 2) ∧ w.1 0 11 = Int32.ofInt (A 0 9) ∧ w.1 0 9 = Int32.ofInt (A 0 10) ∧ w.1 1 1 = Int32.ofInt (A 0 8)
def rCt (A : AS) (w : PW) (o : Nat) (j m : Int) (s : Nat) : Prop := w.1 o 1 = Int32.ofInt m ∧ w.1 o 2 = Int32.ofInt (A 0 j) ∧ q_ar A w s (o + 1) (5 * A 0 j)
def rCh (A : AS) (w : PW) : Prop := q_ar A w 1 6 (A 0 15) ∧ (∀ c, 0 ≤ c → c < A 0 15 → w.1 7 c.toNat = Int32.ofInt (c / A 0 1)) ∧ (∀ c, 0 ≤ c → c < A 0 15 → w.1 8 c.toNat = Int32.ofInt (c % A 0 1)) ∧ q_ar A w 2 9 (A 0 0)
def rCn (A : AS) (w : PW) : Prop := (∀ c v, 0 ≤ c → c < A 0 15 → 0 ≤ v → v < 4 → w.1 10 (4 * c + v).toNat = Int32.ofInt (q_nx A c v)) ∧ (∀ c v, 0 ≤ c → c < A 0 15 → 0 ≤ v → v < 4 → w.1 11 (4 * c + v).toNat = Int32.ofInt (q_ah A c v)) ∧ (∀ c v, 0 ≤ c → c < 24 → 0 ≤ v → v < 4 → w.1 12 (4 * c + v).toNat = q_sp A 1 c v) ∧ (∀ c v, 0 ≤ c → c < 24 → 0 ≤ v → v < 4 → w.1 13 (4 * c + v).toNat = q_sp A 0 c v)
def rCd (A : AS) (w : PW) : Prop := ∀ c, 0 ≤ c → c < A 0 15 → w.1 14 c.toNat = Int32.ofInt (q_dr A c)
def rCp (A : AS) (w : PW) : Prop := q_ar A w 8 2 (A 0 8)
/-- the house's cells -/
def rK (A : AS) (w : PW) : Prop := rCs A w ∧ rCh A w
/-- and what is beside what -/
def rH (A : AS) (w : PW) : Prop := rK A w ∧ rCn A w
def rC (A : AS) (w : PW) : Prop := rH A w ∧ rCd A w ∧ rC0 A w ∧ rCp A w ∧ rCt A w 18 3 8 3 ∧ rCt A w 21 5 3 5 ∧ rCt A w 23 4 12 4 ∧ rCt A w 25 6 6 6 ∧ rCt A w 27 7 10 7 ∧ rCt A w 30 11 3 9 ∧ rCt A w 32 12 12 10 ∧ rCt A w 34 13 6 11 ∧ rCt A w 36 14 10 12
theorem q_rnh {A : AS} (h : q_vh A) : 0 ≤ A 0 0 ∧ A 0 0 ≤ 4 ∧ 0 ≤ A 0 1 ∧ A 0 1 ≤ 6 ∧ 0 ≤ A 0 2 ∧ A 0 2 ≤ 1000000 ∧ 0 ≤ A 0 15 ∧ A 0 15 ≤ 24 := by
  obtain ⟨h1, h2, h3, h4, h5, h6⟩ := h
  have h24 : 0 ≤ A 0 15 ∧ A 0 15 ≤ 24 := by
    rw [h3]
    rcases h4 with ⟨a, b, c⟩ | ⟨a, b, c, d, e⟩
    · rw [a, b]; omega
    · refine ⟨Int.mul_nonneg (by omega) (by omega), ?_⟩
      have : A 0 0 * A 0 1 ≤ 4 * 6 := Int.mul_le_mul b d (by omega) (by omega)
      omega
  omega
theorem q_rng {A : AS} (h : q_v0 A) : (0 ≤ A 0 0 ∧ A 0 0 ≤ 4 ∧ 0 ≤ A 0 1 ∧ A 0 1 ≤ 6 ∧ 0 ≤ A 0 2 ∧ A 0 2 ≤ 1000000 ∧ 0 ≤ A 0 3 ∧ A 0 3 ≤ 8 ∧ 0 ≤ A 0 4 ∧ A 0 4 ≤ 12 ∧ 0 ≤ A 0 5 ∧ A 0 5 ≤ 3 ∧ 0 ≤ A 0 6 ∧ A 0 6 ≤ 6 ∧ 0 ≤ A 0 7 ∧ A 0 7 ≤ 10) ∧ (0 ≤ A 0 8 ∧ A 0 8 ≤ 40 ∧ 0 ≤ A 0 9 ∧ A 0 9 ≤ 12 ∧ 0 ≤ A 0 10 ∧ A 0 10 ≤ 1 ∧ 0 ≤ A 0 15 ∧ A 0 15 ≤ 24) := by
  have hh := q_rnh h.1
  obtain ⟨-, ⟨h7, h8, -⟩, ⟨h9, h10, -⟩, ⟨h11, h12, -⟩, ⟨h13, h14, -⟩, ⟨h15, h16, -⟩, ⟨h17, h18, -⟩, h19, h20, h21⟩ := h
  refine ⟨?_, ?_⟩ <;> omega
theorem q_dv {A : AS} (h : q_vh A) {c : Int} (h0 : 0 ≤ c) (h1 : c < A 0 15) : 0 ≤ c / A 0 1 ∧ c / A 0 1 < A 0 0 ∧ 0 ≤ c % A 0 1 ∧ c % A 0 1 < A 0 1 ∧ c / A 0 1 * A 0 1 + c % A 0 1 = c ∧ 2 ≤ A 0 0 ∧ 2 ≤ A 0 1 := by
  obtain ⟨-, -, h3, h4, -⟩ := h
  rcases h4 with ⟨a, b, c⟩ | ⟨a, b, c', d, e⟩
  · rw [h3, a, b] at h1; omega
  · refine ⟨Int.ediv_nonneg h0 (by omega), ?_, Int.emod_nonneg _ (by omega), Int.emod_lt_of_pos _ (by omega), ?_, a, c'⟩
    · exact Int.ediv_lt_of_lt_mul (by omega) (by rw [← h3]; exact h1)
    · rw [Int.mul_comm]; exact Int.mul_ediv_add_emod c (A 0 1)
theorem q_mk {A : AS} (h : q_vh A) {r k : Int} (h0 : 0 ≤ r) (h1 : r < A 0 0) (h2 : 0 ≤ k) (h3 : k < A 0 1) : 0 ≤ r * A 0 1 + k ∧ r * A 0 1 + k < A 0 15 ∧ (r * A 0 1 + k) / A 0 1 = r ∧ (r * A 0 1 + k) % A 0 1 = k := by
  obtain ⟨-, -, h5, -⟩ := h
  have h6 : 0 ≤ r * A 0 1 := Int.mul_nonneg h0 (by omega)
  have h7 : (r + 1) * A 0 1 ≤ A 0 0 * A 0 1 := Int.mul_le_mul_of_nonneg_right (by omega) (by omega)
  rw [Int.add_mul, Int.one_mul] at h7
  refine ⟨by omega, by rw [h5]; omega, ?_, ?_⟩
  · rw [Int.add_comm, Int.add_mul_ediv_right _ _ (by omega), Int.ediv_eq_zero_of_lt h2 h3]; omega
  · rw [Int.add_comm, Int.add_mul_emod_self_right, Int.emod_eq_of_lt h2 h3]
theorem q_kd {A : AS} (h : q_vh A) {c : Int} (h0 : 0 ≤ c) (h1 : c < A 0 15) : 0 ≤ A 1 c ∧ A 1 c ≤ 2 := h.2.2.2.2.1 c h0 h1
theorem q_li {A : AS} (h : q_vh A) {c : Int} (h0 : 0 ≤ c) (h1 : c < A 0 0) : 0 ≤ A 2 c ∧ A 2 c ≤ A 0 1 := h.2.2.2.2.2 c h0 h1
theorem q_nxr {A : AS} (h : q_vh A) {c : Int} (h0 : 0 ≤ c) (h1 : c < A 0 15) (v : Int) : q_nx A c v = -1 ∨ (0 ≤ q_nx A c v ∧ q_nx A c v < A 0 15) := by
  unfold q_nx
  split
  · rename_i hh
    obtain ⟨a1, a2, a3, a4⟩ := hh
    have := q_mk h a1 a2 a3 a4
    right; exact ⟨this.1, this.2.1⟩
  · left; rfl
theorem q_ahr {A : AS} (h : q_vh A) {c : Int} (h0 : 0 ≤ c) (h1 : c < A 0 15) (v : Int) : 0 ≤ q_ah A c v ∧ q_ah A c v < A 0 15 := by
  unfold q_ah
  by_cases hp : q_op A (q_nx A c v)
  · rw [q_if_t hp]; exact ⟨hp.1, hp.2.1⟩
  · rw [q_if_f hp]; exact ⟨h0, h1⟩
theorem q_ptr {A : AS} (h : q_vh A) {c : Int} (h0 : 0 ≤ c) (h1 : c < A 0 15) (p v k : Int) : 0 ≤ q_pt A p c v k ∧ q_pt A p c v k < A 0 15 := by
  unfold q_pt
  by_cases hp : ((k = 1 ∧ p = 0) ∨ (k = 2 ∧ p = 1) ∨ (k = 3 ∧ ¬ p = 0))
  · rw [q_if_t hp]; exact q_ahr h h0 h1 v
  · rw [q_if_f hp]; exact ⟨h0, h1⟩
theorem q_sdr (A : AS) (b c : Int) : 0 ≤ q_sd A b c ∧ q_sd A b c ≤ 1 := by
  unfold q_sd; split <;> omega
theorem q_drr {A : AS} (c : Int) : q_dr A c = -1 ∨ (0 ≤ q_dr A c ∧ q_dr A c < A 0 15) ∨ ¬ ∃ d, q_isd A c d := by
  by_cases hx : ∃ d, q_isd A c d
  · by_cases hw : A 1 c = 1
    · left; unfold q_dr; rw [q_if_t hw]
    · have := Classical.epsilon_spec hx
      unfold q_dr; rw [q_if_f hw]
      rcases this with ⟨a, -⟩ | ⟨a, b, -⟩
      · left; exact a
      · right; left; exact ⟨a, b⟩
  · right; right; exact hx

