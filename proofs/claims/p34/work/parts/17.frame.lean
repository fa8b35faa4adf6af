/-! what a call may leave behind: the class's and the reference's work room -/
def tC (a : Nat) : Prop := a = 3 ∨ a = 4 ∨ a = 15 ∨ a = 16 ∨ (38 ≤ a ∧ a < 46)
def sC (w w' : PW) : Prop := ∀ a k, ¬ tC a → w'.1 a k = w.1 a k
def sO (o : Nat) (w w' : PW) : Prop := ∀ a k, ¬ a = o → w'.1 a k = w.1 a k
theorem sC_r (w : PW) : sC w w := fun _ _ _ => rfl
theorem sO_r (o : Nat) (w : PW) : sO o w w := fun _ _ _ => rfl
theorem sO_t {o : Nat} {w w' w'' : PW} (h : sO o w w') (h' : sO o w' w'') : sO o w w'' := fun a k hk => (h' a k hk).trans (h a k hk)
theorem sO_C {o : Nat} {w w' : PW} (h : sO o w w') (ho : tC o) : sC w w' := fun a k hk => h a k fun he => hk (he ▸ ho)
theorem sO_u (w : PW) (o k : Nat) (x : Int32) : sO o w (ex_up w o k x) := fun a k' hk => by
  rw [up_1, if_neg (fun hh => hk hh.1)]
theorem rC_cg {A : AS} {w w' : PW} (hC : rC A w) (h : sC w w') : rC A w' := by
  have e : ∀ a k, (a = 0 ∨ a = 1 ∨ a = 2 ∨ (5 ≤ a ∧ a < 15) ∨ (17 ≤ a ∧ a < 38)) → w'.1 a k = w.1 a k := fun a k ha => h a k (by unfold tC; omega)
  have et : ∀ o j m s, (17 ≤ o ∧ o < 37) → rCt A w o j m s → rCt A w' o j m s := fun o j m s ho ht => ⟨by rw [e _ _ (by omega)]; exact ht.1, by rw [e _ _ (by omega)]; exact ht.2.1, fun k k0 k1 => by rw [e _ _ (by omega)]; exact ht.2.2 k k0 k1⟩
  obtain ⟨⟨⟨⟨h511, h512, h513⟩, ⟨hk, hro, hco, hli⟩⟩, ⟨hbe, hah, hbs, hos⟩⟩, hdo, ⟨h010, h011, h09, h11⟩, hpc, ht18, ht21, ht23, ht25, ht27, ht30, ht32, ht34, ht36⟩ := id hC
  refine ⟨⟨⟨⟨?_, ?_, ?_⟩, ⟨fun k k0 k1 => ?_, fun k k0 k1 => ?_, fun k k0 k1 => ?_, fun k k0 k1 => ?_⟩⟩, ⟨fun k v k0 k1 v0 v1 => ?_, fun k v k0 k1 v0 v1 => ?_, fun k v k0 k1 v0 v1 => ?_, fun k v k0 k1 v0 v1 => ?_⟩⟩, fun k k0 k1 => ?_, ⟨?_, ?_, ?_, ?_⟩, fun k k0 k1 => ?_, et _ _ _ _ (by omega) ht18, et _ _ _ _ (by omega) ht21, et _ _ _ _ (by omega) ht23, et _ _ _ _ (by omega) ht25, et _ _ _ _ (by omega) ht27, et _ _ _ _ (by omega) ht30, et _ _ _ _ (by omega) ht32, et _ _ _ _ (by omega) ht34, et _ _ _ _ (by omega) ht36⟩
  all_goals rw [e _ _ (by omega)]
  · exact h511
  · exact h512
  · exact h513
  · exact hk k k0 k1
  · exact hro k k0 k1
  · exact hco k k0 k1
  · exact hli k k0 k1
  · exact hbe k v k0 k1 v0 v1
  · exact hah k v k0 k1 v0 v1
  · exact hbs k v k0 k1 v0 v1
  · exact hos k v k0 k1 v0 v1
  · exact hdo k k0 k1
  · exact h010
  · exact h011
  · exact h09
  · exact h11
  · exact hpc k k0 k1
theorem rH_cg {A : AS} {w w' : PW} (hH : rH A w) (h : sC w w') : rH A w' := by
  have e : ∀ a k, (5 ≤ a ∧ a < 15) → w'.1 a k = w.1 a k := fun a k ha => h a k (by unfold tC; omega)
  obtain ⟨⟨⟨h511, h512, h513⟩, ⟨hk, hro, hco, hli⟩⟩, ⟨hbe, hah, hbs, hos⟩⟩ := id hH
  refine ⟨⟨⟨?_, ?_, ?_⟩, ⟨fun k k0 k1 => ?_, fun k k0 k1 => ?_, fun k k0 k1 => ?_, fun k k0 k1 => ?_⟩⟩, ⟨fun k v k0 k1 v0 v1 => ?_, fun k v k0 k1 v0 v1 => ?_, fun k v k0 k1 v0 v1 => ?_, fun k v k0 k1 v0 v1 => ?_⟩⟩
  all_goals rw [e _ _ (by omega)]
  · exact h511
  · exact h512
  · exact h513
  · exact hk k k0 k1
  · exact hro k k0 k1
  · exact hco k k0 k1
  · exact hli k k0 k1
  · exact hbe k v k0 k1 v0 v1
  · exact hah k v k0 k1 v0 v1
  · exact hbs k v k0 k1 v0 v1
  · exact hos k v k0 k1 v0 v1
