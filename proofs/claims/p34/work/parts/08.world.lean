/-! the world of the pure machine in a heap -/
def ex_tv (ad : Nat → Nat) (v : Value) : Value := match v with
  | .ref o => .ref (ad o)
  | v => v
def ex_fval (ad : Nat → Nat) (w : PW) (o k kd : Nat) : Value := match kd with
  | 0 => .int (w.1 o k)
  | 1 => .int 0
  | 2 => .int (w.1 o k)
  | n + 3 => .ref (ad n)
def ex_fs (ad : Nat → Nat) (w : PW) (o : Nat) (ks : List Nat) : List Value := (List.range ks.length).map fun k => ex_fval ad w o k (ks.getD k 0)
/-- what is told of: not the objects 35, 37, 42; 50, 51, 52 stand at their places -/
def ex_on (o : Nat) : Prop := o < 53 ∧ ¬ o = 35 ∧ ¬ o = 37 ∧ ¬ o = 42
def ex_ob (p : Nat) : Nat := if p = 35 then 50 else if p = 37 then 51 else if p = 42 then 52 else p
def ex_ps (o : Nat) : Nat := if o = 50 then 35 else if o = 51 then 37 else if o = 52 then 42 else o
theorem ex_ob_on {p : Nat} (h : p < 50) : ex_on (ex_ob p) := by
  unfold ex_on ex_ob
  split <;> (try split) <;> (try split) <;> omega
theorem ex_ob_in {p q : Nat} (h : p < 50) (h2 : q < 50) (e : ex_ob p = ex_ob q) : p = q := by
  unfold ex_ob at e
  by_cases a1 : p = 35
  · rw [if_pos a1] at e
    by_cases b1 : q = 35
    · omega
    · rw [if_neg b1] at e
      by_cases b2 : q = 37
      · rw [if_pos b2] at e; omega
      · rw [if_neg b2] at e
        by_cases b3 : q = 42
        · rw [if_pos b3] at e; omega
        · rw [if_neg b3] at e; omega
  · rw [if_neg a1] at e
    by_cases a2 : p = 37
    · rw [if_pos a2] at e
      by_cases b1 : q = 35
      · rw [if_pos b1] at e; omega
      · rw [if_neg b1] at e
        by_cases b2 : q = 37
        · omega
        · rw [if_neg b2] at e
          by_cases b3 : q = 42
          · rw [if_pos b3] at e; omega
          · rw [if_neg b3] at e; omega
    · rw [if_neg a2] at e
      by_cases a3 : p = 42
      · rw [if_pos a3] at e
        by_cases b1 : q = 35
        · rw [if_pos b1] at e; omega
        · rw [if_neg b1] at e
          by_cases b2 : q = 37
          · rw [if_pos b2] at e; omega
          · rw [if_neg b2] at e
            by_cases b3 : q = 42
            · omega
            · rw [if_neg b3] at e; omega
      · rw [if_neg a3] at e
        by_cases b1 : q = 35
        · rw [if_pos b1] at e; omega
        · rw [if_neg b1] at e
          by_cases b2 : q = 37
          · rw [if_pos b2] at e; omega
          · rw [if_neg b2] at e
            by_cases b3 : q = 42
            · rw [if_pos b3] at e; omega
            · rw [if_neg b3] at e; exact e
theorem ex_ob_ps {o : Nat} (h : ex_on o) : ex_ob (ex_ps o) = o ∧ ex_ps o < 50 := by
  obtain ⟨h0, h1, h2, h3⟩ := h
  by_cases a1 : o = 50
  · subst a1; decide
  · by_cases a2 : o = 51
    · subst a2; decide
    · by_cases a3 : o = 52
      · subst a3; decide
      · have e : ex_ps o = o := by unfold ex_ps; rw [if_neg a1, if_neg a2, if_neg a3]
        rw [e]
        unfold ex_ob
        rw [if_neg h1, if_neg h2, if_neg h3]
        exact ⟨rfl, by omega⟩
/-- an array's length in the heap: 51 is another before it is first made -/
def ex_hl (ad : Nat → Nat) (o : Nat) : Nat := if o = 51 then ad 2500 else ex_len o
theorem ex_hl_le {ad : Nat → Nat} {o : Nat} (h : 24 ≤ ad 2500) : ex_len o ≤ ex_hl ad o := by
  unfold ex_hl
  by_cases e : o = 51
  · rw [if_pos e, e]; exact h
  · rw [if_neg e]; exact Nat.le_refl _
theorem ex_hin {ad : Nat → Nat} {o : Nat} {i : Int32} (h : 24 ≤ ad 2500) (hin : ¬ (i < 0 ∨ ex_len o ≤ i.toNatClampNeg)) : ¬ (i < 0 ∨ ex_hl ad o ≤ i.toNatClampNeg) :=
  fun q => hin (q.imp id (Nat.le_trans (ex_hl_le h)))
def ex_en (ad : Nat → Nat) (cI cB : ClassId) (w : PW) (o : Nat) : va_E := match ex_Sh[o]? with
  | some q => if q.1 = 12 then .inl (cI, ex_hl ad o, .inl (w.1 o)) else if q.1 = 13 then .inl (cB, q.2.headD 0, .inl (w.1 o)) else .inr (q.1, ex_fs ad w o q.2)
  | none => .inr (0, [])
def ex_cel (ad : Nat → Nat) (cI cB : ClassId) (w : PW) : va_W := (List.range 50).map fun p => (ad (ex_ob p), ex_en ad cI cB w (ex_ob p))
theorem ex_lt {o : Nat} {q : Nat × List Nat} (h : ex_Sh[o]? = some q) : o < ex_NO := (List.getElem?_eq_some_iff.mp h).1
theorem ex_cel_pos {ad : Nat → Nat} {cI cB : ClassId} {w : PW} {p : Nat} (h : p < 50) : (ex_cel ad cI cB w)[p]? = some (ad (ex_ob p), ex_en ad cI cB w (ex_ob p)) := by
  unfold ex_cel
  rw [List.getElem?_map, List.getElem?_range h]
  rfl
theorem ex_cel_at {ad : Nat → Nat} {cI cB : ClassId} {w : PW} {o : Nat} (h : ex_on o) : (ex_cel ad cI cB w)[ex_ps o]? = some (ad o, ex_en ad cI cB w o) := by
  rw [ex_cel_pos (ex_ob_ps h).2, (ex_ob_ps h).1]
theorem ex_cel_none {ad : Nat → Nat} {cI cB : ClassId} {w : PW} {p : Nat} (h : 50 ≤ p) : (ex_cel ad cI cB w)[p]? = none := List.getElem?_eq_none (by unfold ex_cel; rw [List.length_map, List.length_range]; exact h)
theorem ex_en_obj {ad : Nat → Nat} {cI cB : ClassId} {w : PW} {o c : Nat} {ks : List Nat} (h : ex_Sh[o]? = some (c, ks)) (h1 : c < 12) : ex_en ad cI cB w o = .inr (c, ex_fs ad w o ks) := by
  unfold ex_en
  rw [h]
  dsimp only
  rw [if_neg (by omega), if_neg (by omega)]
theorem ex_en_ia {ad : Nat → Nat} {cI cB : ClassId} {w : PW} {o : Nat} (h : ex_cls o = 12) : ex_en ad cI cB w o = .inl (cI, ex_hl ad o, .inl (w.1 o)) := by
  unfold ex_cls at h
  unfold ex_en
  cases h2 : ex_Sh[o]? with
  | none => rw [h2] at h; cases h
  | some q =>
    rw [h2] at h
    dsimp only at h ⊢
    rw [if_pos h]
theorem ex_en_ba {ad : Nat → Nat} {cI cB : ClassId} {w : PW} {o : Nat} (h : ex_cls o = 13) : ex_en ad cI cB w o = .inl (cB, ex_len o, .inl (w.1 o)) := by
  unfold ex_cls at h
  unfold ex_en ex_len
  cases h2 : ex_Sh[o]? with
  | none => rw [h2] at h; cases h
  | some q =>
    rw [h2] at h
    dsimp only at h ⊢
    rw [if_neg (by omega), if_pos h]
theorem ex_on_all : ∀ o, o < ex_NO → ex_cls o < 99 → (¬ o = 35 ∧ ¬ o = 37 ∧ ¬ o = 42) := by decide +kernel
theorem ex_cls_lt0 {o : Nat} (h : ex_cls o < 99) : o < ex_NO := by
  unfold ex_cls at h
  cases h2 : ex_Sh[o]? with
  | none => rw [h2] at h; exact absurd h (by decide)
  | some q => exact ex_lt h2
theorem ex_cls_lt {o : Nat} (h : ex_cls o < 99) : ex_on o := ⟨ex_cls_lt0 h, ex_on_all o (ex_cls_lt0 h) h⟩
theorem ex_lto {o : Nat} {q : Nat × List Nat} (h : ex_Sh[o]? = some q) (h1 : q.1 < 99) : ex_on o := ex_cls_lt (by unfold ex_cls; rw [h]; exact h1)
/-- what a field's kind says -/
theorem ex_fk_spec {o e kd : Nat} (h : ex_fk o e = some kd) : ∃ ks, ex_Sh[o]? = some (e / 64, ks) ∧ ks[e % 64]? = some kd := by
  unfold ex_fk at h
  cases h2 : ex_Sh[o]? with
  | none => rw [h2] at h; cases h
  | some q =>
    obtain ⟨c, ks⟩ := q
    rw [h2] at h
    dsimp only at h
    by_cases hc : c = e / 64
    · rw [if_pos hc] at h
      exact ⟨ks, by rw [hc], h⟩
    · rw [if_neg hc] at h
      cases h
theorem ex_fs_at {ad : Nat → Nat} {w : PW} {o k kd : Nat} {ks : List Nat} (h : ks[k]? = some kd) : (ex_fs ad w o ks)[k]? = some (ex_fval ad w o k kd) := by
  have hl := (List.getElem?_eq_some_iff.mp h).1
  unfold ex_fs
  rw [List.getElem?_map, List.getElem?_range hl]
  show some (ex_fval ad w o k (ks.getD k 0)) = _
  rw [List.getD_eq_getElem?_getD, h]
  rfl
theorem ex_fs_len {ad : Nat → Nat} {w : PW} {o : Nat} {ks : List Nat} : (ex_fs ad w o ks).length = ks.length := by
  unfold ex_fs
  rw [List.length_map, List.length_range]
theorem ex_up_1 {w : PW} {o k : Nat} {x : Int32} : (ex_up w o k x).1 o = upd (w.1 o) k x := by
  funext j
  show (if o = o ∧ j = k then x else w.1 o j) = _
  unfold upd
  by_cases h : j = k
  · simp [h]
  · simp [h]
theorem ex_up_2 {w : PW} {o o' k : Nat} {x : Int32} (h : o' ≠ o) : (ex_up w o k x).1 o' = w.1 o' := by
  funext j
  show (if o' = o ∧ j = k then x else w.1 o' j) = _
  rw [if_neg (fun q => h q.1)]
theorem ex_up_h {w : PW} {o k : Nat} {x : Int32} : (ex_up w o k x).2 = w.2 := rfl
theorem ex_fval_same {ad : Nat → Nat} {w w' : PW} {o k kd : Nat} (h1 : w'.1 o k = w.1 o k) : ex_fval ad w' o k kd = ex_fval ad w o k kd := by
  match kd with
  | 0 => show Value.int _ = Value.int _; rw [h1]
  | 1 => rfl
  | 2 => show Value.int _ = Value.int _; rw [h1]
  | n + 3 => rfl
theorem ex_en_same {ad : Nat → Nat} {cI cB : ClassId} {w w' : PW} {o : Nat} (h1 : w'.1 o = w.1 o) : ex_en ad cI cB w' o = ex_en ad cI cB w o := by
  have : ∀ ks, ex_fs ad w' o ks = ex_fs ad w o ks := fun ks => by
    unfold ex_fs
    exact List.map_congr_left fun k _ => ex_fval_same (by rw [h1])
  unfold ex_en
  rw [h1]
  cases ex_Sh[o]? with
  | none => rfl
  | some q => dsimp only; rw [this]
theorem ex_cel_set {ad : Nat → Nat} {cI cB : ClassId} {w w' : PW} {o : Nat} (ho : ex_on o) (h : ∀ o', o' ≠ o → ex_en ad cI cB w' o' = ex_en ad cI cB w o') : ex_cel ad cI cB w' = (ex_cel ad cI cB w).set (ex_ps o) (ad o, ex_en ad cI cB w' o) := by
  obtain ⟨e1, e2⟩ := ex_ob_ps ho
  apply List.ext_getElem?
  intro i
  rcases Nat.lt_or_ge i 50 with hi | hi
  · rw [ex_cel_pos hi, List.getElem?_set]
    by_cases e : ex_ps o = i
    · subst e
      rw [if_pos rfl, if_pos (by unfold ex_cel; rw [List.length_map, List.length_range]; exact hi), e1]
    · rw [if_neg e, ex_cel_pos hi, h _ (fun q => e (ex_ob_in e2 hi (e1.trans q.symm)))]
  · rw [ex_cel_none hi, List.getElem?_set, if_neg (by omega), ex_cel_none hi]
theorem ex_cel_up {ad : Nat → Nat} {cI cB : ClassId} {w : PW} {o k : Nat} {x : Int32} (ho : ex_on o) : ex_cel ad cI cB (ex_up w o k x) = (ex_cel ad cI cB w).set (ex_ps o) (ad o, ex_en ad cI cB (ex_up w o k x) o) :=
  ex_cel_set ho fun _ h => ex_en_same (ex_up_2 h)
theorem ex_fs_set {ad : Nat → Nat} {w : PW} {o k kd : Nat} {ks : List Nat} {x : Int32} (h : ks[k]? = some kd) (hk : kd = 0 ∨ kd = 2) : ex_fs ad (ex_up w o k x) o ks = (ex_fs ad w o ks).set k (.int x) := by
  apply List.ext_getElem?
  intro i
  rw [List.getElem?_set]
  rcases Nat.lt_or_ge i ks.length with hi | hi
  · have hk2 : ks[i]? = some ks[i] := List.getElem?_eq_getElem hi
    rw [ex_fs_at hk2, ex_fs_at hk2, ex_fs_len]
    by_cases e : k = i
    · subst e
      rw [if_pos rfl, if_pos hi]
      rw [hk2] at h
      have h3 := Option.some.inj h
      rw [h3]
      rcases hk with rfl | rfl
      · show some (Value.int ((ex_up w o k x).1 o k)) = _
        rw [ex_up_1]; unfold upd; simp
      · show some (Value.int ((ex_up w o k x).1 o k)) = _
        rw [ex_up_1]; unfold upd; simp
    · rw [if_neg e]
      exact congrArg some (ex_fval_same (by rw [ex_up_1]; unfold upd; rw [if_neg (fun q => e q.symm)]))
  · rw [List.getElem?_eq_none (by rw [ex_fs_len]; exact hi), List.getElem?_eq_none (by rw [ex_fs_len]; exact hi)]
    by_cases e : k = i
    · subst e
      rw [List.getElem?_eq_none hi] at h
      cases h
    · rw [if_neg e]
/-- the classes that have objects -/
def ex_cm : List vw_C := ex_cl.take 11
theorem ex_no11_all : ∀ o, o < ex_NO → ¬ (ex_Sh.getD o (0, [])).1 = 11 := by decide +kernel
theorem ex_no11 {o : Nat} {q : Nat × List Nat} (h : ex_Sh[o]? = some q) : ¬ q.1 = 11 := by
  have h1 := ex_no11_all o (ex_lt h)
  rw [List.getD_eq_getElem?_getD, h] at h1
  exact h1
theorem ex_cl_at {c : Nat} (h : c < 11) : ex_cm[c]? = some (ex_Rn c, ex_T c, ex_N c) := by
  match c, h with
  | 0, _ => rfl
  | 1, _ => rfl
  | 2, _ => rfl
  | 3, _ => rfl
  | 4, _ => rfl
  | 5, _ => rfl
  | 6, _ => rfl
  | 7, _ => rfl
  | 8, _ => rfl
  | 9, _ => rfl
  | 10, _ => rfl
/-- kinds and types agree -/
def ex_kty (kd : Nat) (t : FieldType) : Bool := match kd with
  | 0 => decide (t = .int)
  | 1 => decide (t = .long)
  | 2 => decide (t = .boolean)
  | _ => true
def ex_ktys (o : Nat) : Bool := match ex_Sh[o]? with
  | some q => if q.1 < 12 then q.2.length == ex_N q.1 && (List.range q.2.length).all (fun k => ex_kty (q.2.getD k 0) (ex_ty q.1 k)) else true
  | none => true
theorem ex_ktys_all : ∀ o, o < ex_NO → ex_ktys o = true := by decide +kernel
theorem ex_kind {o c k kd : Nat} {ks : List Nat} (h : ex_Sh[o]? = some (c, ks)) (hc : c < 12) (hk : ks[k]? = some kd) : k < ex_N c ∧ k < ks.length ∧ ex_kty kd (ex_ty c k) = true := by
  have h1 := ex_ktys_all o (ex_lt h)
  unfold ex_ktys at h1
  rw [h] at h1
  dsimp only at h1
  rw [if_pos hc, Bool.and_eq_true] at h1
  have hl := (List.getElem?_eq_some_iff.mp hk).1
  have h2 := List.all_eq_true.mp h1.2 k (List.mem_range.mpr hl)
  rw [List.getD_eq_getElem?_getD, hk] at h2
  exact ⟨by rw [← eq_of_beq h1.1]; exact hl, hl, h2⟩
/-- locals -/
def ex_asc (ad : Nat → Nat) : Nat → List Value → List (Nat × Value)
  | _, [] => []
  | i, v :: r => if ex_isv v then (i, ex_tv ad v) :: ex_asc ad (i + 1) r else ex_asc ad (i + 1) r
theorem ex_asc_mem {ad : Nat → Nat} {pl : List Value} {i j : Nat} {u : Value} : (j, u) ∈ ex_asc ad i pl ↔ ∃ k v, pl[k]? = some v ∧ ex_isv v = true ∧ j = i + k ∧ u = ex_tv ad v := by
  induction pl generalizing i with
  | nil =>
    constructor
    · intro h; cases h
    · rintro ⟨k, v, h, -⟩
      simp at h
  | cons a r ih =>
    have hr : ∀ {P : Prop}, ((j, u) ∈ ex_asc ad (i + 1) r → P) → ((∃ k v, r[k]? = some v ∧ ex_isv v = true ∧ j = i + 1 + k ∧ u = ex_tv ad v) → P) := fun h q => h (ih.mpr q)
    unfold ex_asc
    by_cases ha : ex_isv a = true
    · rw [if_pos ha, List.mem_cons, Prod.mk.injEq]
      constructor
      · rintro (⟨rfl, rfl⟩ | h)
        · exact ⟨0, a, rfl, ha, rfl, rfl⟩
        · obtain ⟨k, v, h1, h2, h3, h4⟩ := ih.mp h
          exact ⟨k + 1, v, h1, h2, by omega, h4⟩
      · rintro ⟨k, v, h1, h2, h3, h4⟩
        cases k with
        | zero =>
          have : v = a := (Option.some.inj h1).symm
          subst this
          exact Or.inl ⟨by omega, h4⟩
        | succ k => exact Or.inr (ih.mpr ⟨k, v, h1, h2, by omega, h4⟩)
    · rw [if_neg ha]
      constructor
      · intro h
        obtain ⟨k, v, h1, h2, h3, h4⟩ := ih.mp h
        exact ⟨k + 1, v, h1, h2, by omega, h4⟩
      · rintro ⟨k, v, h1, h2, h3, h4⟩
        cases k with
        | zero =>
          have : v = a := (Option.some.inj h1).symm
          subst this
          exact absurd h2 ha
        | succ k => exact ih.mpr ⟨k, v, h1, h2, by omega, h4⟩
def ex_LR (ad : Nat → Nat) (nL : Nat) (ls : Array Slot) (pl : List Value) : Prop :=
  pl.length = nL ∧ lv_has ls nL (ex_asc ad 0 pl) ∧ ∀ (j : Nat) (x : Int64), pl[j]? = some (.long x) → pl[j + 1]? = some (.retAddr 0)
theorem ex_LR.get {ad : Nat → Nat} {nL k : Nat} {ls : Array Slot} {pl : List Value} {v : Value} (h : ex_LR ad nL ls pl) (hk : pl[k]? = some v) (hv : ex_isv v = true) : ls[k]? = some (.val (ex_tv ad v)) :=
  h.2.1.2.2 (k, ex_tv ad v) (ex_asc_mem.mpr ⟨k, v, hk, hv, by omega, rfl⟩)
theorem ex_getD {pl : List Value} {k : Nat} {d v : Value} (h : pl.getD k d = v) (hd : v ≠ d) : pl[k]? = some v := by
  rw [List.getD_eq_getElem?_getD] at h
  cases h2 : pl[k]? with
  | none => rw [h2] at h; exact absurd h.symm hd
  | some u => rw [h2] at h; rw [← h]; rfl
theorem lv_has.less {ls : Array Slot} {nL : Nat} {l l' : List (Nat × Value)} (h : lv_has ls nL l) (hs : ∀ q ∈ l', q ∈ l) : lv_has ls nL l' := ⟨h.1, h.2.1, fun q hq => h.2.2 q (hs q hq)⟩
theorem ex_tv_cat {ad : Nat → Nat} {v : Value} : (ex_tv ad v).category = v.category := by cases v <;> rfl
/-- storing a value of category 1 -/
theorem ex_LR.set1 {ad : Nat → Nat} {nL k : Nat} {ls ls' : Array Slot} {pl : List Value} {v a : Value} (h : ex_LR ad nL ls pl) (ha : pl[k]? = some a) (hra : ∀ n, a ≠ .retAddr n) (hc : v.category = 1) (hv : ex_isv v = true)
    (h' : lv_has ls' nL ((k, ex_tv ad v) :: (ex_asc ad 0 pl).filter (fun q => !(q.1 == k) && !(q.1 + 1 == k && q.2.category == 2)))) : ex_LR ad nL ls' (pl.set k v) := by
  have hl := (List.getElem?_eq_some_iff.mp ha).1
  refine ⟨by rw [List.length_set]; exact h.1, lv_has.less h' ?_, ?_⟩
  · rintro ⟨j, u⟩ hq
    obtain ⟨i, x, h1, h2, h3, h4⟩ := ex_asc_mem.mp hq
    have hji : j = i := by omega
    subst hji
    rw [List.getElem?_set] at h1
    by_cases e : k = j
    · subst e
      rw [if_pos rfl, if_pos hl] at h1
      rw [← Option.some.inj h1] at h4
      rw [h4]
      exact List.mem_cons_self
    · rw [if_neg e] at h1
      refine List.mem_cons_of_mem _ (List.mem_filter.mpr ⟨ex_asc_mem.mpr ⟨j, x, h1, h2, by omega, h4⟩, ?_⟩)
      have e1 : (j == k) = false := by simpa using fun q : j = k => e q.symm
      dsimp only
      rw [e1]
      by_cases e2 : j + 1 = k
      · have : u.category ≠ 2 := by
          rw [h4, ex_tv_cat]
          intro h5
          cases x with
          | long z =>
            have := h.2.2 j z h1
            rw [e2, ha] at this
            exact hra 0 (Option.some.inj this)
          | double z => cases h2
          | _ => cases h5
        simp [this]
      · simp [e2]
  · intro j x h1
    rw [List.getElem?_set] at h1 ⊢
    by_cases e : k = j
    · subst e
      rw [if_pos rfl, if_pos hl] at h1
      rw [Option.some.inj h1] at hc
      cases hc
    · rw [if_neg e] at h1
      have h2 := h.2.2 j x h1
      by_cases e2 : k = j + 1
      · subst e2
        rw [ha] at h2
        exact absurd (Option.some.inj h2) (hra 0)
      · rw [if_neg e2]
        exact h2
theorem ex_LR.set2 {ad : Nat → Nat} {nL k : Nat} {ls ls' : Array Slot} {pl : List Value} {x : Int64} {a : Value} (h : ex_LR ad nL ls pl) (ha : pl[k]? = some a) (hra : ∀ n, a ≠ .retAddr n) (hk : k + 1 < pl.length)
    (h' : lv_has ls' nL ((k, Value.long x) :: (ex_asc ad 0 pl).filter (fun q => !(q.1 == k) && (!(q.1 == k + 1) && !(q.1 + 1 == k && q.2.category == 2))))) : ex_LR ad nL ls' ((pl.set (k + 1) (.retAddr 0)).set k (.long x)) := by
  have hl := (List.getElem?_eq_some_iff.mp ha).1
  have hget : ∀ j, ((pl.set (k + 1) (.retAddr 0)).set k (.long x))[j]? = if j = k then some (.long x) else if j = k + 1 then some (.retAddr 0) else pl[j]? := by
    intro j
    rw [List.getElem?_set, List.getElem?_set, List.length_set]
    by_cases e : j = k
    · subst e; simp [hl]
    · rw [if_neg (fun q => e q.symm), if_neg e]
      by_cases e2 : j = k + 1
      · subst e2; simp [hk]
      · rw [if_neg (fun q => e2 q.symm), if_neg e2]
  refine ⟨by rw [List.length_set, List.length_set]; exact h.1, lv_has.less h' ?_, ?_⟩
  · rintro ⟨j, u⟩ hq
    obtain ⟨i, v, h1, h2, h3, h4⟩ := ex_asc_mem.mp hq
    have hji : j = i := by omega
    subst hji
    rw [hget] at h1
    by_cases e : j = k
    · subst e
      rw [if_pos rfl] at h1
      rw [← Option.some.inj h1] at h4
      rw [h4]
      exact List.mem_cons_self
    · rw [if_neg e] at h1
      by_cases e2 : j = k + 1
      · rw [if_pos e2] at h1
        rw [← Option.some.inj h1] at h2
        cases h2
      · rw [if_neg e2] at h1
        refine List.mem_cons_of_mem _ (List.mem_filter.mpr ⟨ex_asc_mem.mpr ⟨j, v, h1, h2, by omega, h4⟩, ?_⟩)
        have e1 : (j == k) = false := by simpa using e
        have e3 : (j == k + 1) = false := by simpa using e2
        dsimp only
        rw [e1, e3]
        by_cases e4 : j + 1 = k
        · have : u.category ≠ 2 := by
            rw [h4, ex_tv_cat]
            intro h5
            cases v with
            | long z =>
              have := h.2.2 j z h1
              rw [e4, ha] at this
              exact hra 0 (Option.some.inj this)
            | double z => cases h2
            | _ => cases h5
          simp [this]
        · simp [e4]
  · intro j z h1
    rw [hget] at h1 ⊢
    by_cases e : j = k
    · subst e
      rw [if_neg (by omega), if_pos rfl]
    · rw [if_neg e] at h1
      by_cases e2 : j = k + 1
      · rw [if_pos e2] at h1; cases h1
      · rw [if_neg e2] at h1
        have h2 := h.2.2 j z h1
        by_cases e3 : j + 1 = k
        · rw [e3, ha] at h2
          exact absurd (Option.some.inj h2) (hra 0)
        · rw [if_neg e3]
          by_cases e4 : j + 1 = k + 1
          · omega
          · rw [if_neg e4]
            exact h2
/-! arrays made anew, the script -/
theorem kt_int : (Jvm.Cond.arrayClass .int) ∈ ex_tb := ex_in (i := 59) (by decide +kernel) (by decide +kernel)
theorem ex_dy_lt {y o : Nat} (h : ex_dy y o = true) : 50 ≤ o ∧ o < 53 := by
  unfold ex_dy at h
  simp only [Bool.or_eq_true, Bool.and_eq_true, beq_iff_eq] at h
  omega
theorem ex_dy_cls {y o : Nat} (h : ex_dy y o = true) : ex_cls o = 12 ∧ ex_len o ≤ 64 ∧ ex_on o := by
  have h2 := ex_dy_lt h
  have h3 : o = 50 ∨ o = 51 ∨ o = 52 := by omega
  rcases h3 with rfl | rfl | rfl <;> exact ⟨by decide, by decide, by decide, by decide, by decide, by decide⟩
/-- the addresses as they are (ad) and as they were at the entry (ad0) -/
def ex_Ad (y : Nat) (ad0 ad : Nat → Nat) (sz : Nat) : Prop := ∀ o, ad o = ad0 o ∨ (ex_dy y o = true ∧ sz ≤ ad o) ∨ (o = 2500 ∧ ex_dy y 51 = true)
theorem ex_Ad.fix {y : Nat} {ad0 ad : Nat → Nat} {sz : Nat} (h : ex_Ad y ad0 ad sz) {o : Nat} (ho : o < 50 ∨ (53 ≤ o ∧ ¬ o = 2500)) : ad o = ad0 o := by
  rcases h o with h | ⟨h, -⟩ | ⟨h, -⟩
  · exact h
  · have := ex_dy_lt h; omega
  · omega
/-- fields hold objects that stay -/
theorem ex_ref_all : ∀ o, o < ex_NO → (ex_Sh.getD o (0, [])).1 = 12 ∨ (ex_Sh.getD o (0, [])).1 = 13 ∨ (ex_Sh.getD o (0, [])).2.all (fun k => decide (k < 53 ∨ 2503 < k)) = true := by decide +kernel
theorem ex_en_ad {ad0 ad : Nat → Nat} {cI cB : ClassId} {w : PW} {o : Nat} (h : ∀ o, (o < 50 ∨ (53 ≤ o ∧ ¬ o = 2500)) → ad o = ad0 o) (hl : ex_hl ad o = ex_hl ad0 o) : ex_en ad cI cB w o = ex_en ad0 cI cB w o := by
  unfold ex_en
  cases h2 : ex_Sh[o]? with
  | none => rfl
  | some q =>
    dsimp only
    by_cases h12 : q.1 = 12
    · rw [if_pos h12, if_pos h12, hl]
    · rw [if_neg h12, if_neg h12]
      by_cases h13 : q.1 = 13
      · rw [if_pos h13, if_pos h13]
      · rw [if_neg h13, if_neg h13]
        have ha := ex_ref_all o (ex_lt h2)
        have hg : ex_Sh.getD o (0, []) = q := by rw [List.getD_eq_getElem?_getD, h2]; rfl
        rw [hg] at ha
        have ha : q.2.all (fun k => decide (k < 53 ∨ 2503 < k)) = true := by
          rcases ha with ha | ha | ha
          · exact absurd ha h12
          · exact absurd ha h13
          · exact ha
        have : ex_fs ad w o q.2 = ex_fs ad0 w o q.2 := by
          unfold ex_fs
          apply List.map_congr_left
          intro k hk
          have hl : k < q.2.length := List.mem_range.mp hk
          have hm : q.2.getD k 0 ∈ q.2 := by
            rw [List.getD_eq_getElem?_getD, List.getElem?_eq_getElem hl]
            exact List.getElem_mem hl
          have hlt := of_decide_eq_true (List.all_eq_true.mp ha _ hm)
          match h5 : q.2.getD k 0 with
          | 0 => rfl
          | 1 => rfl
          | 2 => rfl
          | n + 3 =>
            rw [h5] at hlt
            show Value.ref (ad n) = Value.ref (ad0 n)
            rw [h n (by omega)]
        rw [this]
/-- locals, where some addresses are others -/
theorem ex_tv_ad {ad0 ad : Nat → Nat} {v : Value} (h : ∀ o, v = .ref o → ad o = ad0 o) : ex_tv ad v = ex_tv ad0 v := by
  cases v with
  | ref o => show Value.ref (ad o) = Value.ref (ad0 o); rw [h o rfl]
  | _ => rfl
theorem ex_map_ad {ad0 ad : Nat → Nat} {st : List Value} (h : ∀ o, .ref o ∈ st → ad o = ad0 o) : st.map (ex_tv ad) = st.map (ex_tv ad0) :=
  List.map_congr_left fun v hv => ex_tv_ad fun o ho => h o (by rw [← ho]; exact hv)
theorem ex_LR.ad {ad0 ad : Nat → Nat} {nL : Nat} {ls : Array Slot} {pl : List Value} (h : ex_LR ad0 nL ls pl) (ha : ∀ o, .ref o ∈ pl → ad o = ad0 o) : ex_LR ad nL ls pl := by
  refine ⟨h.1, lv_has.less h.2.1 ?_, h.2.2⟩
  rintro ⟨j, u⟩ hq
  obtain ⟨i, v, h1, h2, h3, h4⟩ := ex_asc_mem.mp hq
  exact ex_asc_mem.mpr ⟨i, v, h1, h2, h3, by rw [h4]; exact ex_tv_ad fun o ho => ha o (by rw [← ho]; exact List.mem_of_getElem? h1)⟩
theorem ex_scr_isv {o : Nat} {v : Value} (h : ex_isv (ex_scr o v) = true) : ex_scr o v = v ∧ v ≠ .ref o ∧ v ≠ .ref 2500 := by
  cases v with
  | ref a =>
    have e : ex_scr o (.ref a) = if a = o ∨ a = 2500 then .null else .ref a := rfl
    by_cases ha : a = o ∨ a = 2500
    · rw [e, if_pos ha] at h; cases h
    · rw [e, if_neg ha]
      exact ⟨rfl, fun q => ha (Or.inl (by injection q)), fun q => ha (Or.inr (by injection q))⟩
  | _ => exact ⟨rfl, (by intro q; cases q), (by intro q; cases q)⟩
theorem ex_LR.scr {ad0 ad : Nat → Nat} {nL o : Nat} {ls : Array Slot} {pl : List Value} (h : ex_LR ad0 nL ls pl) (ha : ∀ a, a ≠ o → a ≠ 2500 → ad a = ad0 a) : ex_LR ad nL ls (pl.map (ex_scr o)) := by
  refine ⟨by rw [List.length_map]; exact h.1, lv_has.less h.2.1 ?_, ?_⟩
  · rintro ⟨j, u⟩ hq
    obtain ⟨i, v, h1, h2, h3, h4⟩ := ex_asc_mem.mp hq
    rw [List.getElem?_map] at h1
    cases h5 : pl[i]? with
    | none => rw [h5] at h1; cases h1
    | some x =>
      rw [h5] at h1
      have h1 : ex_scr o x = v := Option.some.inj h1
      subst h1
      obtain ⟨e1, e2, e20⟩ := ex_scr_isv h2
      rw [e1] at h2 h4
      exact ex_asc_mem.mpr ⟨i, x, h5, h2, h3, by rw [h4]; exact ex_tv_ad fun a hx => ha a (fun q => e2 (by rw [hx, q])) (fun q => e20 (by rw [hx, q]))⟩
  · intro j x h1
    rw [List.getElem?_map] at h1 ⊢
    cases h5 : pl[j]? with
    | none => rw [h5] at h1; cases h1
    | some v =>
      rw [h5] at h1
      have h1 : ex_scr o v = .long x := Option.some.inj h1
      obtain ⟨e1, -⟩ := ex_scr_isv (o := o) (v := v) (by rw [h1]; rfl)
      rw [e1] at h1
      subst h1
      rw [h.2.2 j x h5]
      rfl
