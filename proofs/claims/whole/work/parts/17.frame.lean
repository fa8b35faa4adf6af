/-! what a call may leave behind: the class's and the reference's work room -/
def tC (a : Nat) : Prop := a = 3 ∨ a = 4 ∨ a = 15 ∨ a = 16 ∨ (38 ≤ a ∧ a < 46)
def sC (w w' : PW) : Prop := ∀ a k, ¬ tC a → w'.1 a k = w.1 a k
def tM (a k : Nat) : Prop := 67 ≤ a ∨ (a = 46 ∧ ((36 ≤ k ∧ k < 42) ∨ (44 ≤ k ∧ k < 49) ∨ (52 ≤ k ∧ k < 58)))
def sM (w w' : PW) : Prop := ∀ a k, ¬ tM a k → w'.1 a k = w.1 a k
def sO (o : Nat) (w w' : PW) : Prop := ∀ a k, ¬ a = o → w'.1 a k = w.1 a k
theorem sC_r (w : PW) : sC w w := fun _ _ _ => rfl
theorem sM_r (w : PW) : sM w w := fun _ _ _ => rfl
theorem sO_r (o : Nat) (w : PW) : sO o w w := fun _ _ _ => rfl
theorem sC_t {w w' w'' : PW} (h : sC w w') (h' : sC w' w'') : sC w w'' := fun a k hk => (h' a k hk).trans (h a k hk)
theorem sM_t {w w' w'' : PW} (h : sM w w') (h' : sM w' w'') : sM w w'' := fun a k hk => (h' a k hk).trans (h a k hk)
theorem sO_t {o : Nat} {w w' w'' : PW} (h : sO o w w') (h' : sO o w' w'') : sO o w w'' := fun a k hk => (h' a k hk).trans (h a k hk)
theorem sO_C {o : Nat} {w w' : PW} (h : sO o w w') (ho : tC o) : sC w w' := fun a k hk => h a k fun he => hk (he ▸ ho)
theorem sO_M {o : Nat} {w w' : PW} (h : sO o w w') (ho : 67 ≤ o) : sM w w' := fun a k hk => h a k fun he => hk (Or.inl (he ▸ ho))
theorem sO_u (w : PW) (o k : Nat) (x : Int32) : sO o w (ex_up w o k x) := fun a k' hk => by
  rw [up_1, if_neg (fun hh => hk hh.1)]
theorem sC_u (w : PW) (o k : Nat) (x : Int32) (h : tC o) : sC w (ex_up w o k x) := sO_C (sO_u w o k x) h
theorem sM_u (w : PW) (o k : Nat) (x : Int32) (h : tM o k) : sM w (ex_up w o k x) := fun a k' hk => by
  rw [up_1, if_neg (fun hh => hk (by rw [hh.1, hh.2]; exact h))]
theorem rC_cg {A : AS} {w w' : PW} (hC : rC A w) (h : sC w w') : rC A w' := by
  have e : ∀ a k, (a = 0 ∨ a = 1 ∨ a = 2 ∨ (5 ≤ a ∧ a < 15) ∨ (17 ≤ a ∧ a < 38)) → w'.1 a k = w.1 a k := fun a k ha => h a k (by unfold tC; omega)
  have et : ∀ o j m s, (17 ≤ o ∧ o < 37) → rCt A w o j m s → rCt A w' o j m s := fun o j m s ho ht => ⟨by rw [e _ _ (by omega)]; exact ht.1, by rw [e _ _ (by omega)]; exact ht.2.1, fun k k0 k1 => by rw [e _ _ (by omega)]; exact ht.2.2 k k0 k1⟩
  obtain ⟨⟨⟨⟨h511, h512, h513⟩, ⟨hk, hro, hco, hli⟩⟩, ⟨hbe, hah, hbs, hos⟩⟩, hdo, ⟨h010, h011, h09, h11⟩, hpc, ht18, ht21, ht23, ht25, ht27, ht30, ht32, ht34, ht36⟩ := id hC
  refine ⟨⟨⟨⟨?_, ?_, ?_⟩, ⟨fun k k0 k1 => ?_, fun k k0 k1 => ?_, fun k k0 k1 => ?_, fun k k0 k1 => ?_⟩⟩, ⟨fun k v k0 k1 v0 v1 => ?_, fun k v k0 k1 v0 v1 => ?_, fun k v k0 k1 v0 v1 => ?_, fun k v k0 k1 v0 v1 => ?_⟩⟩, fun k k0 k1 => ?_, ⟨?_, ?_, ?_, ?_⟩, fun k k0 k1 => ?_, et _ _ _ _ (by omega) ht18, et _ _ _ _ (by omega) ht21, et _ _ _ _ (by omega) ht23, et _ _ _ _ (by omega) ht25, et _ _ _ _ (by omega) ht27, et _ _ _ _ (by omega) ht30, et _ _ _ _ (by omega) ht32, et _ _ _ _ (by omega) ht34, et _ _ _ _ (by omega) ht36⟩
  all_goals rw [e _ _ (by omega)]
  · exact h511
  · exact h512
  · exact h513
  · exact hk k k0 k1
  · exact hro k k0 k1
  · exact hco k k0 k1
  · exact hli k k0 k1
  · exact hbe k v k0 k1 v0 v1
  · exact hah k v k0 k1 v0 v1
  · exact hbs k v k0 k1 v0 v1
  · exact hos k v k0 k1 v0 v1
  · exact hdo k k0 k1
  · exact h010
  · exact h011
  · exact h09
  · exact h11
  · exact hpc k k0 k1
theorem rH_cg {A : AS} {w w' : PW} (hH : rH A w) (h : sC w w') : rH A w' := by
  have e : ∀ a k, (5 ≤ a ∧ a < 15) → w'.1 a k = w.1 a k := fun a k ha => h a k (by unfold tC; omega)
  obtain ⟨⟨⟨h511, h512, h513⟩, ⟨hk, hro, hco, hli⟩⟩, ⟨hbe, hah, hbs, hos⟩⟩ := id hH
  refine ⟨⟨⟨?_, ?_, ?_⟩, ⟨fun k k0 k1 => ?_, fun k k0 k1 => ?_, fun k k0 k1 => ?_, fun k k0 k1 => ?_⟩⟩, ⟨fun k v k0 k1 v0 v1 => ?_, fun k v k0 k1 v0 v1 => ?_, fun k v k0 k1 v0 v1 => ?_, fun k v k0 k1 v0 v1 => ?_⟩⟩
  all_goals rw [e _ _ (by omega)]
  · exact h511
  · exact h512
  · exact h513
  · exact hk k k0 k1
  · exact hro k k0 k1
  · exact hco k k0 k1
  · exact hli k k0 k1
  · exact hbe k v k0 k1 v0 v1
  · exact hah k v k0 k1 v0 v1
  · exact hbs k v k0 k1 v0 v1
  · exact hos k v k0 k1 v0 v1
theorem rN_cg {A : AS} {b : Int} {w w' : PW} (hM : rN A b w) (h : sM w w') : rN A b w' := by
  have e : ∀ a k, a < 67 → ¬ a = 46 → w'.1 a k = w.1 a k := fun a k h1 h2 => h a k (by unfold tM; omega)
  have e46 : ∀ k, (k < 36 ∨ k = 49) → w'.1 46 k = w.1 46 k := fun k h1 => h 46 k (by unfold tM; omega)
  obtain ⟨⟨g0, g1, g2, g5, g11, g13, g17, g20, g23, g24, g49⟩, ⟨gk, gl⟩, ⟨gs, ga, gf, gt, gn⟩, ⟨gtk, gtc, gtw⟩, ge, ⟨gba, gbh⟩, ⟨gjc, gjs⟩, gp⟩ := id hM
  refine ⟨⟨?_, ?_, ?_, ?_, ?_, ?_, ?_, ?_, ?_, ?_, ?_⟩, ⟨fun k k0 k1 => ?_, fun k k0 k1 => ?_⟩, ⟨fun k k0 k1 => ?_, fun k k0 k1 => ?_, fun k k0 k1 => ?_, fun k k0 k1 => ?_, fun k k0 k1 => ?_⟩, ⟨fun k k0 k1 => ?_, fun k k0 k1 => ?_, fun k k0 k1 => ?_⟩, fun k k0 k1 => ?_, ⟨fun k k0 k1 => ?_, fun k k0 k1 => ?_⟩, ⟨fun k k0 k1 => ?_, fun k k0 k1 => ?_⟩, fun k k0 k1 => ?_⟩
  all_goals first | rw [e46 _ (by omega)] | rw [e _ _ (by omega) (by omega)]
  · exact g0
  · exact g1
  · exact g2
  · exact g5
  · exact g11
  · exact g13
  · exact g17
  · exact g20
  · exact g23
  · exact g24
  · exact g49
  · exact gk k k0 k1
  · exact gl k k0 k1
  · exact gs k k0 k1
  · exact ga k k0 k1
  · exact gf k k0 k1
  · exact gt k k0 k1
  · exact gn k k0 k1
  · exact gtk k k0 k1
  · exact gtc k k0 k1
  · exact gtw k k0 k1
  · exact ge k k0 k1
  · exact gba k k0 k1
  · exact gbh k k0 k1
  · exact gjc k k0 k1
  · exact gjs k k0 k1
  · exact gp k k0 k1
theorem rMk_cg {A : AS} {w w' : PW} (hM : rMk A w) (h : sM w w') : rMk A w' := by
  have e : ∀ a k, a < 67 → ¬ a = 46 → w'.1 a k = w.1 a k := fun a k h1 h2 => h a k (by unfold tM; omega)
  have e46 : ∀ k, (k < 36 ∨ k = 49) → w'.1 46 k = w.1 46 k := fun k h1 => h 46 k (by unfold tM; omega)
  obtain ⟨h1, ⟨q, h2, h3, h4, h5⟩, h6⟩ := hM
  refine ⟨by rw [e46 _ (by omega)]; exact h1, ⟨q, h2, h3, by rw [e46 _ (by omega)]; exact h4, by rw [e46 _ (by omega)]; exact h5⟩, fun h7 => ?_⟩
  obtain ⟨a1, a2, a3, a4, a5, a6, a7, a8⟩ := h6 h7
  refine ⟨by rw [e46 _ (by omega)]; exact a1, by rw [e46 _ (by omega)]; exact a2, by rw [e46 _ (by omega)]; exact a3, by rw [e46 _ (by omega)]; exact a4, fun l l0 l1 => ?_, fun l l0 l1 => ?_, fun l l0 l1 => ?_, fun l l0 l1 => ?_⟩
  · rw [e _ _ (by omega) (by omega), e _ _ (by omega) (by omega), e _ _ (by omega) (by omega)]; exact a5 l l0 l1
  · rw [e _ _ (by omega) (by omega)]; exact a6 l l0 l1
  · rw [e _ _ (by omega) (by omega), e _ _ (by omega) (by omega)]; exact a7 l l0 l1
  · rw [e _ _ (by omega) (by omega), e _ _ (by omega) (by omega)]; exact a8 l l0 l1
/-- the house's part of a state: what the ways, the sides and the doors rest on -/
def q_hn (A : AS) : AS := fun a b => if a = 0 then (if b = 0 ∨ b = 1 ∨ b = 15 then A 0 b else 0) else if a = 1 ∨ a = 2 then A a b else 0
theorem q_hn_up {A : AS} {s : Nat} {k v : Int} (h : (s = 0 ∧ ¬ k = 0 ∧ ¬ k = 1 ∧ ¬ k = 15) ∨ 3 ≤ s) : q_hn (q_up A s k v) = q_hn A := by
  refine funext fun a => funext fun b => ?_
  unfold q_hn q_up
  by_cases h1 : a = 0
  · rw [if_pos h1, if_pos h1]
    by_cases h2 : b = 0 ∨ b = 1 ∨ b = 15
    · rw [if_pos h2, if_pos h2, if_neg (by omega)]
    · rw [if_neg h2, if_neg h2]
  · rw [if_neg h1, if_neg h1]
    by_cases h2 : a = 1 ∨ a = 2
    · rw [if_pos h2, if_pos h2, if_neg (by omega)]
    · rw [if_neg h2, if_neg h2]
theorem q_nx_n (A : AS) : q_nx A = q_nx (q_hn A) := rfl
theorem q_ah_n (A : AS) : q_ah A = q_ah (q_hn A) := rfl
theorem q_sd_n (A : AS) : q_sd A = q_sd (q_hn A) := rfl
theorem q_sp_n (A : AS) : q_sp A = q_sp (q_hn A) := rfl
theorem q_ls_n (A : AS) : q_ls A = q_ls (q_hn A) := rfl
theorem q_pt_n (A : AS) : q_pt A = q_pt (q_hn A) := rfl
theorem q_co_n (A : AS) : q_co A = q_co (q_hn A) := rfl
theorem q_st_n (A : AS) : q_st A = q_st (q_hn A) := rfl
theorem q_dr_n (A : AS) : q_dr A = q_dr (q_hn A) := rfl
theorem q_do_n (A : AS) : q_do A = q_do (q_hn A) := rfl
theorem rCs_n (A : AS) : rCs A = rCs (q_hn A) := rfl
theorem rH_n (A : AS) : rH A = rH (q_hn A) := rfl
theorem rCh_n (A : AS) : rCh A = rCh (q_hn A) := rfl
theorem rCn_n (A : AS) : rCn A = rCn (q_hn A) := rfl
theorem rCd_n (A : AS) : rCd A = rCd (q_hn A) := rfl
theorem rMh_n (A : AS) : rMh A = rMh (q_hn A) := rfl
