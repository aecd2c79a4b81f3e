/-! 03: the numbered memory, and the judgement J over it -/
/-- a cell: an array (number of its kind, what it holds), or an object (number of its class, its fields by their slots) -/
abbrev jdE : Type := (Nat × vp_A) ⊕ (Nat × (Nat → Value))
abbrev jdM : Type := Nat → jdE
def jd_nf : Nat → Nat
  | 0 => 4 | 1 => 5 | 2 => 1 | 3 => 8 | 4 => 1 | 5 => 5 | 6 => 13 | 7 => 13 | 8 => 47 | 9 => 29 | _ => 0
theorem jd_nf_ok {ci : Nat} {q : vw_C} (h : vwCl[ci]? = some q) : jd_nf ci = q.2.2 := by
  match ci, h with
  | 0, h => cases h; rfl
  | 1, h => cases h; rfl
  | 2, h => cases h; rfl
  | 3, h => cases h; rfl
  | 4, h => cases h; rfl
  | 5, h => cases h; rfl
  | 6, h => cases h; rfl
  | 7, h => cases h; rfl
  | 8, h => cases h; rfl
  | 9, h => cases h; rfl
  | k + 10, h => simp [vwCl] at h
def up {α : Type} (f : Nat → α) (k : Nat) (v : α) : Nat → α := fun j => if j = k then v else f j
theorem up_eq {α : Type} {f : Nat → α} {k : Nat} {v : α} : up f k v k = v := if_pos rfl
theorem up_ne {α : Type} {f : Nat → α} {k j : Nat} {v : α} (h : j ≠ k) : up f k v j = f j := if_neg h
def jv (ad : Nat → Nat) : Value → Value
  | .ref k => .ref (ad k)
  | v => v
def ja (ad : Nat → Nat) : vp_A → vp_A
  | (n, .inr (.inr (.inr (.inr f)))) => (n, .inr (.inr (.inr (.inr (fun j => (f j).map ad)))))
  | a => a
def je (dA : Nat → ClassId) (ad : Nat → Nat) : jdE → va_E
  | .inl (t, a) => .inl (dA t, ja ad a)
  | .inr (ci, F) => .inr (ci, (List.range (jd_nf ci)).map (fun j => jv ad (F j)))
def jW (dA : Nat → ClassId) (ad : Nat → Nat) (n : Nat) (M : jdM) : va_W := (List.range n).map (fun k => (ad k, je dA ad (M k)))
def jok (n : Nat) : Value → Prop
  | .ref k => k < n ∨ 1000000 ≤ k
  | _ => True
def jokA (n : Nat) : vp_A → Prop
  | (_, .inr (.inr (.inr (.inr f)))) => ∀ (j y : Nat), f j = some y → y < n
  | _ => True
def jokE (n : Nat) : jdE → Prop
  | .inl (_, a) => jokA n a
  | .inr (ci, F) => ∀ j, j < jd_nf ci → jok n (F j)
def jls (ad : Nat → Nat) : Nat → List (Option Value) → List (Nat × Value)
  | _, [] => []
  | i, none :: t => jls ad (i + 1) t
  | i, some v :: t => (i, jv ad v) :: jls ad (i + 1) t
abbrev jI (z : Int) : Value := .int (Int32.ofInt z)
abbrev jL (z : Int) : Value := .long (Int64.ofInt z)
abbrev jdA (len : Nat) (f : Nat → Int) : jdE := .inl (0, len, .inl (fun j => Int32.ofInt (f j)))
abbrev jdL (len : Nat) (f : Nat → Int) : jdE := .inl (1, len, .inr (.inl (fun j => Int64.ofInt (f j))))
abbrev jdY (len : Nat) (f : Nat → Int) : jdE := .inl (2, len, .inl (fun j => Int32.ofInt (f j)))
abbrev jdZ (len : Nat) (f : Nat → Int) : jdE := .inl (3, len, .inl (fun j => Int32.ofInt (f j)))
abbrev jdR (t len : Nat) (f : Nat → Option Nat) : jdE := .inl (t, len, .inr (.inr (.inr (.inr f))))
abbrev jdO (ci : Nat) (F : Nat → Value) : jdE := .inr (ci, F)
theorem jv_cat (ad : Nat → Nat) (v : Value) : (jv ad v).category = v.category := by cases v <;> rfl
theorem jv_same {ad ad' : Nat → Nat} {n : Nat} {v : Value} (h : ∀ k, (k < n ∨ 1000000 ≤ k) → ad' k = ad k) (hv : jok n v) : jv ad' v = jv ad v := by
  cases v with
  | ref k => exact congrArg Value.ref (h k hv)
  | _ => rfl
theorem jok_mono {n n' : Nat} (h : n ≤ n') {v : Value} (hv : jok n v) : jok n' v := by
  cases v with
  | ref k => exact hv.elim (fun q => Or.inl (Nat.lt_of_lt_of_le q h)) Or.inr
  | _ => trivial
theorem jokE_mono {n n' : Nat} (h : n ≤ n') {e : jdE} (he : jokE n e) : jokE n' e := by
  match e, he with
  | .inl (_, (_, .inl _)), _ => trivial
  | .inl (_, (_, .inr (.inl _))), _ => trivial
  | .inl (_, (_, .inr (.inr (.inl _)))), _ => trivial
  | .inl (_, (_, .inr (.inr (.inr (.inl _))))), _ => trivial
  | .inl (_, (_, .inr (.inr (.inr (.inr f))))), he => exact fun j y hj => Nat.lt_of_lt_of_le (he j y hj) h
  | .inr (ci, F), he => exact fun j hj => jok_mono h (he j hj)
theorem je_same {dA : Nat → ClassId} {ad ad' : Nat → Nat} {n : Nat} {e : jdE} (h : ∀ k, (k < n ∨ 1000000 ≤ k) → ad' k = ad k) (he : jokE n e) : je dA ad' e = je dA ad e := by
  match e, he with
  | .inl (_, (_, .inl _)), _ => rfl
  | .inl (_, (_, .inr (.inl _))), _ => rfl
  | .inl (_, (_, .inr (.inr (.inl _)))), _ => rfl
  | .inl (_, (_, .inr (.inr (.inr (.inl _))))), _ => rfl
  | .inl (t, (len, .inr (.inr (.inr (.inr f))))), he =>
    have e1 : (fun j => (f j).map ad') = (fun j => (f j).map ad) := by
      funext j
      cases hj : f j with
      | none => rfl
      | some y => exact congrArg some (h y (Or.inl (he j y hj)))
    exact congrArg (fun g => (.inl (dA t, (len, .inr (.inr (.inr (.inr g))))) : va_E)) e1
  | .inr (ci, F), he =>
    show (.inr (ci, _) : va_E) = .inr (ci, _)
    congr 2
    apply List.map_congr_left
    intro j hj
    exact jv_same h (he j (List.mem_range.mp hj))
theorem jW_get {dA : Nat → ClassId} {ad : Nat → Nat} {n : Nat} {M : jdM} {k : Nat} (h : k < n) : (jW dA ad n M)[k]? = some (ad k, je dA ad (M k)) := by
  simp [jW, h]
theorem jW_get' {dA : Nat → ClassId} {ad : Nat → Nat} {n : Nat} {M : jdM} {k : Nat} {q : Nat × va_E} (h : (jW dA ad n M)[k]? = some q) : k < n ∧ q = (ad k, je dA ad (M k)) := by
  by_cases hk : k < n
  · rw [jW_get hk] at h
    exact ⟨hk, (Option.some.inj h).symm⟩
  · simp [jW, hk] at h
theorem jW_set {dA : Nat → ClassId} {ad : Nat → Nat} {n : Nat} {M : jdM} {k : Nat} (e : jdE) : (jW dA ad n M).set k (ad k, je dA ad e) = jW dA ad n (up M k e) := by
  apply List.ext_getElem?
  intro i
  by_cases hi : i < n
  · rw [jW_get hi]
    by_cases hk : i = k
    · subst hk
      rw [List.getElem?_set_self (by simp [jW, hi]), up_eq]
    · rw [List.getElem?_set_ne (Ne.symm hk), jW_get hi, up_ne hk]
  · simp [jW, hi]
theorem jW_push {dA : Nat → ClassId} {ad : Nat → Nat} {n : Nat} {M : jdM} {e : jdE} {q : Nat} {ee : va_E} (hn : n < 1000000) (hM : ∀ k, k < n → jokE n (M k)) (he : je dA (up ad n q) e = ee) : jW dA ad n M ++ [(q, ee)] = jW dA (up ad n q) (n + 1) (up M n e) := by
  subst he
  apply List.ext_getElem?
  intro i
  by_cases hi : i < n
  · rw [jW_get (by omega), List.getElem?_append_left (by simp [jW, hi]), jW_get hi, up_ne (by omega), up_ne (by omega)]
    rw [je_same (ad := ad) (fun k hk => up_ne (by rcases hk with h | h <;> omega)) (hM i hi)]
  · by_cases hi2 : i = n
    · subst hi2
      rw [jW_get (by omega), up_eq, up_eq]
      simp [jW]
    · have h1 : (jW dA ad n M).length = n := by simp [jW]
      have h2 : (jW dA (up ad n q) (n + 1) (up M n e)).length = n + 1 := by simp [jW]
      rw [List.getElem?_eq_none (by rw [List.length_append, h1]; simp; omega), List.getElem?_eq_none (by rw [h2]; omega)]
theorem jW_same {dA : Nat → ClassId} {ad ad' : Nat → Nat} {n : Nat} {M : jdM} (h : ∀ k, (k < n ∨ 1000000 ≤ k) → ad' k = ad k) (hM : ∀ k, k < n → jokE n (M k)) : jW dA ad' n M = jW dA ad n M := by
  apply List.ext_getElem?
  intro i
  by_cases hi : i < n
  · rw [jW_get hi, jW_get hi, h i (Or.inl hi), je_same h (hM i hi)]
  · simp [jW, hi]
theorem jls_mem {ad : Nat → Nat} : ∀ {ls : List (Option Value)} {i k : Nat} {v : Value}, ls[k]? = some (some v) → (i + k, jv ad v) ∈ jls ad i ls
  | none :: t, i, 0, v, h => by cases h
  | some w :: t, i, 0, v, h => by cases h; exact List.mem_cons_self
  | none :: t, i, k + 1, v, h => by
    rw [List.getElem?_cons_succ] at h
    have := jls_mem (ad := ad) (i := i + 1) h
    rw [show i + (k + 1) = i + 1 + k by omega]
    exact this
  | some w :: t, i, k + 1, v, h => by
    rw [List.getElem?_cons_succ] at h
    have := jls_mem (ad := ad) (i := i + 1) h
    rw [show i + (k + 1) = i + 1 + k by omega]
    exact List.mem_cons_of_mem _ this
  | [], i, k, v, h => by simp at h
theorem jls_of {ad : Nat → Nat} : ∀ {ls : List (Option Value)} {i : Nat} {q : Nat × Value}, q ∈ jls ad i ls → ∃ (k : Nat) (v : Value), ls[k]? = some (some v) ∧ q = (i + k, jv ad v)
  | [], i, q, h => by cases h
  | none :: t, i, q, h => by
    obtain ⟨k, v, h1, h2⟩ := jls_of (ls := t) (i := i + 1) h
    exact ⟨k + 1, v, by rw [List.getElem?_cons_succ]; exact h1, by rw [h2, show i + (k + 1) = i + 1 + k by omega]⟩
  | some w :: t, i, q, h => by
    rcases List.mem_cons.mp h with h | h
    · exact ⟨0, w, rfl, h⟩
    · obtain ⟨k, v, h1, h2⟩ := jls_of (ls := t) (i := i + 1) h
      exact ⟨k + 1, v, by rw [List.getElem?_cons_succ]; exact h1, by rw [h2, show i + (k + 1) = i + 1 + k by omega]⟩
/-- reading a local -/
theorem jls_at {ad : Nat → Nat} {ls : List (Option Value)} {la : Array Slot} {nL k : Nat} {v : Value} (h : lv_has la nL (jls ad 0 ls)) (hk : ls[k]? = some (some v)) : la[k]? = some (.val (jv ad v)) := by
  have := h.2.2 _ (jls_mem (ad := ad) (i := 0) hk)
  simpa using this
/-- writing a local: the list of locals behind it (a two-place value ahead of it is forgotten) -/
def jst (v : Value) : Nat → List (Option Value) → List (Option Value)
  | _, [] => []
  | 0, _ :: t => some v :: t
  | 1, some w :: t => (if w.category = 2 then none else some w) :: jst v 0 t
  | 1, none :: t => none :: jst v 0 t
  | k + 2, a :: t => a :: jst v (k + 1) t
def jst2 (v : Value) : Nat → List (Option Value) → List (Option Value)
  | _, [] => []
  | 0, _ :: t => some v :: (match t with | [] => [] | _ :: t' => none :: t')
  | 1, some w :: t => (if w.category = 2 then none else some w) :: jst2 v 0 t
  | 1, none :: t => none :: jst2 v 0 t
  | k + 2, a :: t => a :: jst2 v (k + 1) t
theorem jst_get {v w : Value} : ∀ {k : Nat} {ls : List (Option Value)} {j : Nat}, (jst v k ls)[j]? = some (some w) → (j = k ∧ w = v) ∨ (j ≠ k ∧ ls[j]? = some (some w) ∧ ¬ (j + 1 = k ∧ w.category = 2))
  | k, [], j, h => by simp [jst] at h
  | 0, a :: t, 0, h => by
    simp [jst] at h
    exact Or.inl ⟨rfl, h.symm⟩
  | 0, a :: t, j + 1, h => by
    simp [jst] at h
    exact Or.inr ⟨by omega, by simpa using h, by omega⟩
  | 1, none :: t, 0, h => by simp [jst] at h
  | 1, some u :: t, 0, h => by
    simp only [jst, List.getElem?_cons_zero] at h
    by_cases hc : u.category = 2
    · simp [hc] at h
    · simp [hc] at h
      subst h
      exact Or.inr ⟨by omega, rfl, fun q => hc q.2⟩
  | 1, a :: t, j + 1, h => by
    have h2 : (jst v 0 t)[j]? = some (some w) := by
      cases a <;> simpa [jst] using h
    rcases jst_get h2 with ⟨h3, h4⟩ | ⟨h3, h4, h5⟩
    · exact Or.inl ⟨by omega, h4⟩
    · exact Or.inr ⟨by omega, by simpa using h4, by omega⟩
  | k + 2, a :: t, 0, h => by
    simp [jst] at h
    exact Or.inr ⟨by omega, by simp [h], by omega⟩
  | k + 2, a :: t, j + 1, h => by
    simp only [jst, List.getElem?_cons_succ] at h
    rcases jst_get h with ⟨h3, h4⟩ | ⟨h3, h4, h5⟩
    · exact Or.inl ⟨by omega, h4⟩
    · exact Or.inr ⟨by omega, by simpa using h4, fun q => h5 ⟨by omega, q.2⟩⟩
theorem jst2_get {v w : Value} : ∀ {k : Nat} {ls : List (Option Value)} {j : Nat}, (jst2 v k ls)[j]? = some (some w) → (j = k ∧ w = v) ∨ (j ≠ k ∧ j ≠ k + 1 ∧ ls[j]? = some (some w) ∧ ¬ (j + 1 = k ∧ w.category = 2))
  | k, [], j, h => by simp [jst2] at h
  | 0, a :: t, 0, h => by
    simp [jst2] at h
    exact Or.inl ⟨rfl, h.symm⟩
  | 0, a :: [], j + 1, h => by simp [jst2] at h
  | 0, a :: b :: t, 1, h => by simp [jst2] at h
  | 0, a :: b :: t, j + 2, h => by
    simp [jst2] at h
    exact Or.inr ⟨by omega, by omega, by simpa using h, by omega⟩
  | 1, none :: t, 0, h => by simp [jst2] at h
  | 1, some u :: t, 0, h => by
    simp only [jst2, List.getElem?_cons_zero] at h
    by_cases hc : u.category = 2
    · simp [hc] at h
    · simp [hc] at h
      subst h
      exact Or.inr ⟨by omega, by omega, rfl, fun q => hc q.2⟩
  | 1, a :: t, j + 1, h => by
    have h2 : (jst2 v 0 t)[j]? = some (some w) := by
      cases a <;> simpa [jst2] using h
    rcases jst2_get h2 with ⟨h3, h4⟩ | ⟨h3, h6, h4, h5⟩
    · exact Or.inl ⟨by omega, h4⟩
    · exact Or.inr ⟨by omega, by omega, by simpa using h4, by omega⟩
  | k + 2, a :: t, 0, h => by
    simp [jst2] at h
    exact Or.inr ⟨by omega, by omega, by simp [h], by omega⟩
  | k + 2, a :: t, j + 1, h => by
    simp only [jst2, List.getElem?_cons_succ] at h
    rcases jst2_get h with ⟨h3, h4⟩ | ⟨h3, h6, h4, h5⟩
    · exact Or.inl ⟨by omega, h4⟩
    · exact Or.inr ⟨by omega, by omega, by simpa using h4, fun q => h5 ⟨by omega, q.2⟩⟩
theorem jls_st {ad : Nat → Nat} {ls : List (Option Value)} {la : Array Slot} {nL k : Nat} {v : Value} (h : lv_has la nL ((k, jv ad v) :: (jls ad 0 ls).filter (fun q => !(q.1 == k) && !(q.1 + 1 == k && q.2.category == 2)))) : lv_has la nL (jls ad 0 (jst v k ls)) := by
  refine ⟨h.1, h.2.1, fun q hq => ?_⟩
  obtain ⟨j, w, h1, rfl⟩ := jls_of hq
  rcases jst_get h1 with ⟨rfl, rfl⟩ | ⟨h2, h3, h4⟩
  · have := h.2.2 _ List.mem_cons_self
    simpa using this
  · refine h.2.2 _ (List.mem_cons_of_mem _ (List.mem_filter.mpr ⟨jls_mem h3, ?_⟩))
    simp only [Nat.zero_add, jv_cat]
    simp only [Bool.and_eq_true, Bool.not_eq_true', beq_eq_false_iff_ne, Bool.and_eq_false_imp, beq_iff_eq]
    exact ⟨h2, fun q r => h4 ⟨q, r⟩⟩
theorem jls_st2 {ad : Nat → Nat} {ls : List (Option Value)} {la : Array Slot} {nL k : Nat} {v : Value} (h : lv_has la nL ((k, jv ad v) :: (jls ad 0 ls).filter (fun q => !(q.1 == k) && (!(q.1 == k + 1) && !(q.1 + 1 == k && q.2.category == 2))))) : lv_has la nL (jls ad 0 (jst2 v k ls)) := by
  refine ⟨h.1, h.2.1, fun q hq => ?_⟩
  obtain ⟨j, w, h1, rfl⟩ := jls_of hq
  rcases jst2_get h1 with ⟨rfl, rfl⟩ | ⟨h2, h5, h3, h4⟩
  · have := h.2.2 _ List.mem_cons_self
    simpa using this
  · refine h.2.2 _ (List.mem_cons_of_mem _ (List.mem_filter.mpr ⟨jls_mem h3, ?_⟩))
    simp only [Nat.zero_add, jv_cat]
    simp only [Bool.and_eq_true, Bool.not_eq_true', beq_eq_false_iff_ne, Bool.and_eq_false_imp, beq_iff_eq]
    exact ⟨h2, h5, fun q r => h4 ⟨q, r⟩⟩
theorem jst_ok {P : Value → Prop} {v : Value} {k : Nat} {ls : List (Option Value)} (hl : ∀ w, some w ∈ ls → P w) (hv : P v) : ∀ w, some w ∈ jst v k ls → P w := by
  intro w hw
  obtain ⟨j, hj⟩ := List.getElem?_of_mem hw
  rcases jst_get hj with ⟨-, rfl⟩ | ⟨-, h3, -⟩
  · exact hv
  · exact hl w (List.mem_of_getElem? h3)
theorem jst2_ok {P : Value → Prop} {v : Value} {k : Nat} {ls : List (Option Value)} (hl : ∀ w, some w ∈ ls → P w) (hv : P v) : ∀ w, some w ∈ jst2 v k ls → P w := by
  intro w hw
  obtain ⟨j, hj⟩ := List.getElem?_of_mem hw
  rcases jst2_get hj with ⟨-, rfl⟩ | ⟨-, -, h3, -⟩
  · exact hv
  · exact hl w (List.mem_of_getElem? h3)
/-- the locals with which a method begins -/
def jargs : List Value → List (Option Value)
  | [] => []
  | v :: t => some v :: (if v.category = 2 then none :: jargs t else jargs t)
theorem jargs_mem {v : Value} : ∀ {vs : List Value}, some v ∈ jargs vs → v ∈ vs
  | [], h => by simp [jargs] at h
  | w :: t, h => by
    simp only [jargs] at h
    rcases List.mem_cons.mp h with h | h
    · cases h; exact List.mem_cons_self
    · by_cases hc : w.category = 2
      · simp [hc] at h
        exact List.mem_cons_of_mem _ (jargs_mem h)
      · simp [hc] at h
        exact List.mem_cons_of_mem _ (jargs_mem h)
theorem jls_none (ad : Nat → Nat) : ∀ (k i : Nat), jls ad i (List.replicate k none) = []
  | 0, _ => rfl
  | k + 1, i => by rw [List.replicate_succ]; exact jls_none ad k (i + 1)
theorem jls_args (ad : Nat → Nat) (k : Nat) : ∀ (vs : List Value) (i : Nat), jls ad i (jargs vs ++ List.replicate k none) = lv_args i (vs.map (jv ad))
  | [], i => jls_none ad k i
  | v :: t, i => by
    simp only [jargs, List.map_cons, lv_args, jv_cat]
    by_cases hc : v.category = 2
    · simp only [hc, if_true, List.cons_append, jls]
      exact congrArg _ (jls_args ad k t (i + 2))
    · simp only [hc, if_false, List.cons_append, jls]
      exact congrArg _ (jls_args ad k t (i + 1))
