/-! 54: the reference, its cells; what its calls share; the cabin -/
def fX9 (m : Nat) (g : Nat → Int) (w : Int) (fl rd : Value) : Nat → Value
  | 0 => jI (g 0)
  | 1 => jI (g 1)
  | 2 => jI (g 2)
  | 3 => fl
  | 4 => rd
  | 5 => .ref (m + 1)
  | 6 => jI (g 6)
  | 7 => jI (g 7)
  | 8 => jI (g 8)
  | 9 => jI (g 9)
  | 10 => jI (g 10)
  | 11 => jI (g 11)
  | 12 => jI (g 12)
  | 13 => jI (g 13)
  | 14 => jI (g 14)
  | 15 => jL w
  | 16 => .ref (m + 2)
  | 17 => .ref (m + 3)
  | 18 => .ref (m + 4)
  | 19 => jI (g 19)
  | 20 => .ref (m + 5)
  | 21 => .ref (m + 6)
  | 22 => .ref (m + 7)
  | 23 => .ref (m + 8)
  | 24 => .ref (m + 9)
  | 25 => .ref (m + 10)
  | 26 => jI (g 26)
  | 27 => .ref (m + 11)
  | 28 => .ref (m + 12)
  | _ => .null
theorem fX9_0 {m : Nat} {g : Nat → Int} {w x : Int} {fl rd : Value} : up (fX9 m g w fl rd) 0 (jI x) = fX9 m (up g 0 x) w fl rd := by
  funext i
  match i with
  | 0 => rfl
  | 1 => rfl
  | 2 => rfl
  | 3 => rfl
  | 4 => rfl
  | 5 => rfl
  | 6 => rfl
  | 7 => rfl
  | 8 => rfl
  | 9 => rfl
  | 10 => rfl
  | 11 => rfl
  | 12 => rfl
  | 13 => rfl
  | 14 => rfl
  | 15 => rfl
  | 16 => rfl
  | 17 => rfl
  | 18 => rfl
  | 19 => rfl
  | 20 => rfl
  | 21 => rfl
  | 22 => rfl
  | 23 => rfl
  | 24 => rfl
  | 25 => rfl
  | 26 => rfl
  | 27 => rfl
  | 28 => rfl
  | i + 29 => rfl
theorem fX9_1 {m : Nat} {g : Nat → Int} {w x : Int} {fl rd : Value} : up (fX9 m g w fl rd) 1 (jI x) = fX9 m (up g 1 x) w fl rd := by
  funext i
  match i with
  | 0 => rfl
  | 1 => rfl
  | 2 => rfl
  | 3 => rfl
  | 4 => rfl
  | 5 => rfl
  | 6 => rfl
  | 7 => rfl
  | 8 => rfl
  | 9 => rfl
  | 10 => rfl
  | 11 => rfl
  | 12 => rfl
  | 13 => rfl
  | 14 => rfl
  | 15 => rfl
  | 16 => rfl
  | 17 => rfl
  | 18 => rfl
  | 19 => rfl
  | 20 => rfl
  | 21 => rfl
  | 22 => rfl
  | 23 => rfl
  | 24 => rfl
  | 25 => rfl
  | 26 => rfl
  | 27 => rfl
  | 28 => rfl
  | i + 29 => rfl
theorem fX9_2 {m : Nat} {g : Nat → Int} {w x : Int} {fl rd : Value} : up (fX9 m g w fl rd) 2 (jI x) = fX9 m (up g 2 x) w fl rd := by
  funext i
  match i with
  | 0 => rfl
  | 1 => rfl
  | 2 => rfl
  | 3 => rfl
  | 4 => rfl
  | 5 => rfl
  | 6 => rfl
  | 7 => rfl
  | 8 => rfl
  | 9 => rfl
  | 10 => rfl
  | 11 => rfl
  | 12 => rfl
  | 13 => rfl
  | 14 => rfl
  | 15 => rfl
  | 16 => rfl
  | 17 => rfl
  | 18 => rfl
  | 19 => rfl
  | 20 => rfl
  | 21 => rfl
  | 22 => rfl
  | 23 => rfl
  | 24 => rfl
  | 25 => rfl
  | 26 => rfl
  | 27 => rfl
  | 28 => rfl
  | i + 29 => rfl
theorem fX9_6 {m : Nat} {g : Nat → Int} {w x : Int} {fl rd : Value} : up (fX9 m g w fl rd) 6 (jI x) = fX9 m (up g 6 x) w fl rd := by
  funext i
  match i with
  | 0 => rfl
  | 1 => rfl
  | 2 => rfl
  | 3 => rfl
  | 4 => rfl
  | 5 => rfl
  | 6 => rfl
  | 7 => rfl
  | 8 => rfl
  | 9 => rfl
  | 10 => rfl
  | 11 => rfl
  | 12 => rfl
  | 13 => rfl
  | 14 => rfl
  | 15 => rfl
  | 16 => rfl
  | 17 => rfl
  | 18 => rfl
  | 19 => rfl
  | 20 => rfl
  | 21 => rfl
  | 22 => rfl
  | 23 => rfl
  | 24 => rfl
  | 25 => rfl
  | 26 => rfl
  | 27 => rfl
  | 28 => rfl
  | i + 29 => rfl
theorem fX9_7 {m : Nat} {g : Nat → Int} {w x : Int} {fl rd : Value} : up (fX9 m g w fl rd) 7 (jI x) = fX9 m (up g 7 x) w fl rd := by
  funext i
  match i with
  | 0 => rfl
  | 1 => rfl
  | 2 => rfl
  | 3 => rfl
  | 4 => rfl
  | 5 => rfl
  | 6 => rfl
  | 7 => rfl
  | 8 => rfl
  | 9 => rfl
  | 10 => rfl
  | 11 => rfl
  | 12 => rfl
  | 13 => rfl
  | 14 => rfl
  | 15 => rfl
  | 16 => rfl
  | 17 => rfl
  | 18 => rfl
  | 19 => rfl
  | 20 => rfl
  | 21 => rfl
  | 22 => rfl
  | 23 => rfl
  | 24 => rfl
  | 25 => rfl
  | 26 => rfl
  | 27 => rfl
  | 28 => rfl
  | i + 29 => rfl
theorem fX9_8 {m : Nat} {g : Nat → Int} {w x : Int} {fl rd : Value} : up (fX9 m g w fl rd) 8 (jI x) = fX9 m (up g 8 x) w fl rd := by
  funext i
  match i with
  | 0 => rfl
  | 1 => rfl
  | 2 => rfl
  | 3 => rfl
  | 4 => rfl
  | 5 => rfl
  | 6 => rfl
  | 7 => rfl
  | 8 => rfl
  | 9 => rfl
  | 10 => rfl
  | 11 => rfl
  | 12 => rfl
  | 13 => rfl
  | 14 => rfl
  | 15 => rfl
  | 16 => rfl
  | 17 => rfl
  | 18 => rfl
  | 19 => rfl
  | 20 => rfl
  | 21 => rfl
  | 22 => rfl
  | 23 => rfl
  | 24 => rfl
  | 25 => rfl
  | 26 => rfl
  | 27 => rfl
  | 28 => rfl
  | i + 29 => rfl
theorem fX9_9 {m : Nat} {g : Nat → Int} {w x : Int} {fl rd : Value} : up (fX9 m g w fl rd) 9 (jI x) = fX9 m (up g 9 x) w fl rd := by
  funext i
  match i with
  | 0 => rfl
  | 1 => rfl
  | 2 => rfl
  | 3 => rfl
  | 4 => rfl
  | 5 => rfl
  | 6 => rfl
  | 7 => rfl
  | 8 => rfl
  | 9 => rfl
  | 10 => rfl
  | 11 => rfl
  | 12 => rfl
  | 13 => rfl
  | 14 => rfl
  | 15 => rfl
  | 16 => rfl
  | 17 => rfl
  | 18 => rfl
  | 19 => rfl
  | 20 => rfl
  | 21 => rfl
  | 22 => rfl
  | 23 => rfl
  | 24 => rfl
  | 25 => rfl
  | 26 => rfl
  | 27 => rfl
  | 28 => rfl
  | i + 29 => rfl
theorem fX9_10 {m : Nat} {g : Nat → Int} {w x : Int} {fl rd : Value} : up (fX9 m g w fl rd) 10 (jI x) = fX9 m (up g 10 x) w fl rd := by
  funext i
  match i with
  | 0 => rfl
  | 1 => rfl
  | 2 => rfl
  | 3 => rfl
  | 4 => rfl
  | 5 => rfl
  | 6 => rfl
  | 7 => rfl
  | 8 => rfl
  | 9 => rfl
  | 10 => rfl
  | 11 => rfl
  | 12 => rfl
  | 13 => rfl
  | 14 => rfl
  | 15 => rfl
  | 16 => rfl
  | 17 => rfl
  | 18 => rfl
  | 19 => rfl
  | 20 => rfl
  | 21 => rfl
  | 22 => rfl
  | 23 => rfl
  | 24 => rfl
  | 25 => rfl
  | 26 => rfl
  | 27 => rfl
  | 28 => rfl
  | i + 29 => rfl
theorem fX9_11 {m : Nat} {g : Nat → Int} {w x : Int} {fl rd : Value} : up (fX9 m g w fl rd) 11 (jI x) = fX9 m (up g 11 x) w fl rd := by
  funext i
  match i with
  | 0 => rfl
  | 1 => rfl
  | 2 => rfl
  | 3 => rfl
  | 4 => rfl
  | 5 => rfl
  | 6 => rfl
  | 7 => rfl
  | 8 => rfl
  | 9 => rfl
  | 10 => rfl
  | 11 => rfl
  | 12 => rfl
  | 13 => rfl
  | 14 => rfl
  | 15 => rfl
  | 16 => rfl
  | 17 => rfl
  | 18 => rfl
  | 19 => rfl
  | 20 => rfl
  | 21 => rfl
  | 22 => rfl
  | 23 => rfl
  | 24 => rfl
  | 25 => rfl
  | 26 => rfl
  | 27 => rfl
  | 28 => rfl
  | i + 29 => rfl
theorem fX9_12 {m : Nat} {g : Nat → Int} {w x : Int} {fl rd : Value} : up (fX9 m g w fl rd) 12 (jI x) = fX9 m (up g 12 x) w fl rd := by
  funext i
  match i with
  | 0 => rfl
  | 1 => rfl
  | 2 => rfl
  | 3 => rfl
  | 4 => rfl
  | 5 => rfl
  | 6 => rfl
  | 7 => rfl
  | 8 => rfl
  | 9 => rfl
  | 10 => rfl
  | 11 => rfl
  | 12 => rfl
  | 13 => rfl
  | 14 => rfl
  | 15 => rfl
  | 16 => rfl
  | 17 => rfl
  | 18 => rfl
  | 19 => rfl
  | 20 => rfl
  | 21 => rfl
  | 22 => rfl
  | 23 => rfl
  | 24 => rfl
  | 25 => rfl
  | 26 => rfl
  | 27 => rfl
  | 28 => rfl
  | i + 29 => rfl
theorem fX9_13 {m : Nat} {g : Nat → Int} {w x : Int} {fl rd : Value} : up (fX9 m g w fl rd) 13 (jI x) = fX9 m (up g 13 x) w fl rd := by
  funext i
  match i with
  | 0 => rfl
  | 1 => rfl
  | 2 => rfl
  | 3 => rfl
  | 4 => rfl
  | 5 => rfl
  | 6 => rfl
  | 7 => rfl
  | 8 => rfl
  | 9 => rfl
  | 10 => rfl
  | 11 => rfl
  | 12 => rfl
  | 13 => rfl
  | 14 => rfl
  | 15 => rfl
  | 16 => rfl
  | 17 => rfl
  | 18 => rfl
  | 19 => rfl
  | 20 => rfl
  | 21 => rfl
  | 22 => rfl
  | 23 => rfl
  | 24 => rfl
  | 25 => rfl
  | 26 => rfl
  | 27 => rfl
  | 28 => rfl
  | i + 29 => rfl
theorem fX9_14 {m : Nat} {g : Nat → Int} {w x : Int} {fl rd : Value} : up (fX9 m g w fl rd) 14 (jI x) = fX9 m (up g 14 x) w fl rd := by
  funext i
  match i with
  | 0 => rfl
  | 1 => rfl
  | 2 => rfl
  | 3 => rfl
  | 4 => rfl
  | 5 => rfl
  | 6 => rfl
  | 7 => rfl
  | 8 => rfl
  | 9 => rfl
  | 10 => rfl
  | 11 => rfl
  | 12 => rfl
  | 13 => rfl
  | 14 => rfl
  | 15 => rfl
  | 16 => rfl
  | 17 => rfl
  | 18 => rfl
  | 19 => rfl
  | 20 => rfl
  | 21 => rfl
  | 22 => rfl
  | 23 => rfl
  | 24 => rfl
  | 25 => rfl
  | 26 => rfl
  | 27 => rfl
  | 28 => rfl
  | i + 29 => rfl
theorem fX9_19 {m : Nat} {g : Nat → Int} {w x : Int} {fl rd : Value} : up (fX9 m g w fl rd) 19 (jI x) = fX9 m (up g 19 x) w fl rd := by
  funext i
  match i with
  | 0 => rfl
  | 1 => rfl
  | 2 => rfl
  | 3 => rfl
  | 4 => rfl
  | 5 => rfl
  | 6 => rfl
  | 7 => rfl
  | 8 => rfl
  | 9 => rfl
  | 10 => rfl
  | 11 => rfl
  | 12 => rfl
  | 13 => rfl
  | 14 => rfl
  | 15 => rfl
  | 16 => rfl
  | 17 => rfl
  | 18 => rfl
  | 19 => rfl
  | 20 => rfl
  | 21 => rfl
  | 22 => rfl
  | 23 => rfl
  | 24 => rfl
  | 25 => rfl
  | 26 => rfl
  | 27 => rfl
  | 28 => rfl
  | i + 29 => rfl
theorem fX9_26 {m : Nat} {g : Nat → Int} {w x : Int} {fl rd : Value} : up (fX9 m g w fl rd) 26 (jI x) = fX9 m (up g 26 x) w fl rd := by
  funext i
  match i with
  | 0 => rfl
  | 1 => rfl
  | 2 => rfl
  | 3 => rfl
  | 4 => rfl
  | 5 => rfl
  | 6 => rfl
  | 7 => rfl
  | 8 => rfl
  | 9 => rfl
  | 10 => rfl
  | 11 => rfl
  | 12 => rfl
  | 13 => rfl
  | 14 => rfl
  | 15 => rfl
  | 16 => rfl
  | 17 => rfl
  | 18 => rfl
  | 19 => rfl
  | 20 => rfl
  | 21 => rfl
  | 22 => rfl
  | 23 => rfl
  | 24 => rfl
  | 25 => rfl
  | 26 => rfl
  | 27 => rfl
  | 28 => rfl
  | i + 29 => rfl
theorem fX9_15 {m : Nat} {g : Nat → Int} {w x : Int} {fl rd : Value} : up (fX9 m g w fl rd) 15 (jL x) = fX9 m g x fl rd := by
  funext i
  match i with
  | 0 => rfl
  | 1 => rfl
  | 2 => rfl
  | 3 => rfl
  | 4 => rfl
  | 5 => rfl
  | 6 => rfl
  | 7 => rfl
  | 8 => rfl
  | 9 => rfl
  | 10 => rfl
  | 11 => rfl
  | 12 => rfl
  | 13 => rfl
  | 14 => rfl
  | 15 => rfl
  | 16 => rfl
  | 17 => rfl
  | 18 => rfl
  | 19 => rfl
  | 20 => rfl
  | 21 => rfl
  | 22 => rfl
  | 23 => rfl
  | 24 => rfl
  | 25 => rfl
  | 26 => rfl
  | 27 => rfl
  | 28 => rfl
  | i + 29 => rfl
theorem fX9_3 {m : Nat} {g : Nat → Int} {w : Int} {x fl rd : Value} : up (fX9 m g w fl rd) 3 x = fX9 m g w x rd := by
  funext i
  match i with
  | 0 => rfl
  | 1 => rfl
  | 2 => rfl
  | 3 => rfl
  | 4 => rfl
  | 5 => rfl
  | 6 => rfl
  | 7 => rfl
  | 8 => rfl
  | 9 => rfl
  | 10 => rfl
  | 11 => rfl
  | 12 => rfl
  | 13 => rfl
  | 14 => rfl
  | 15 => rfl
  | 16 => rfl
  | 17 => rfl
  | 18 => rfl
  | 19 => rfl
  | 20 => rfl
  | 21 => rfl
  | 22 => rfl
  | 23 => rfl
  | 24 => rfl
  | 25 => rfl
  | 26 => rfl
  | 27 => rfl
  | 28 => rfl
  | i + 29 => rfl
theorem fX9_4 {m : Nat} {g : Nat → Int} {w : Int} {x fl rd : Value} : up (fX9 m g w fl rd) 4 x = fX9 m g w fl x := by
  funext i
  match i with
  | 0 => rfl
  | 1 => rfl
  | 2 => rfl
  | 3 => rfl
  | 4 => rfl
  | 5 => rfl
  | 6 => rfl
  | 7 => rfl
  | 8 => rfl
  | 9 => rfl
  | 10 => rfl
  | 11 => rfl
  | 12 => rfl
  | 13 => rfl
  | 14 => rfl
  | 15 => rfl
  | 16 => rfl
  | 17 => rfl
  | 18 => rfl
  | 19 => rfl
  | 20 => rfl
  | 21 => rfl
  | 22 => rfl
  | 23 => rfl
  | 24 => rfl
  | 25 => rfl
  | 26 => rfl
  | 27 => rfl
  | 28 => rfl
  | i + 29 => rfl
def mxC : Nat → (Nat → Int) → jdE
  | 1, a => jdY 900 a
  | 2, a => jdA 14 a
  | 3, a => jdA 431 a
  | 4, a => jdA 1724 a
  | 5, a => jdL 11 a
  | 6, a => jdA 2401 a
  | 7, a => jdA 4 a
  | 8, a => jdA 6 a
  | 9, a => jdA 6 a
  | 10, a => jdA 6 a
  | 11, a => jdA 1200 a
  | 12, a => jdA 200 a
  | _, a => jdA 0 a
def MX (M : jdM) (n m : Nat) (g : Nat → Int) (w : Int) (fl rd : Value) (B : Nat → Nat → Int) : Prop := m + 13 ≤ n ∧ M m = jdO 9 (fX9 m g w fl rd) ∧ ∀ i, 1 ≤ i → i ≤ 12 → M (m + i) = mxC i (B i)
def MXf (m : Nat) : Nat → Prop := fun k => m ≤ k ∧ k ≤ m + 12
theorem MX_fr {M M1 : jdM} {n n1 m : Nat} {g : Nat → Int} {w : Int} {fl rd : Value} {B : Nat → Nat → Int} {S : Nat → Prop} (h : MX M n m g w fl rd B) (h1 : fr S M M1) (hn : n ≤ n1) (hs : ∀ k, m ≤ k → k ≤ m + 12 → ¬ S k) : MX M1 n1 m g w fl rd B := by
  obtain ⟨a1, a2, a3⟩ := h
  refine ⟨by omega, (h1 m (hs m (by omega) (by omega))).trans a2, fun i h2 h3 => (h1 _ (hs (m + i) (by omega) (by omega))).trans (a3 i h2 h3)⟩
theorem MX_B {M M1 : jdM} {n m i : Nat} {g v : Nat → Int} {w : Int} {fl rd : Value} {B : Nat → Nat → Int} (h : MX M n m g w fl rd B) (h1 : M1 = up M (m + i) (mxC i v)) (hi : 1 ≤ i ∧ i ≤ 12) : MX M1 n m g w fl rd (up B i v) := by
  obtain ⟨a1, a2, a3⟩ := h
  subst h1
  refine ⟨a1, (up_ne (by omega)).trans a2, fun j h2 h3 => ?_⟩
  by_cases q : j = i
  · subst q; rw [up_eq, up_eq]
  · rw [up_ne (by omega), up_ne q]; exact a3 j h2 h3
theorem MX_o {M M1 : jdM} {n m : Nat} {g g' : Nat → Int} {w w' : Int} {fl rd fl' rd' : Value} {B : Nat → Nat → Int} (h : MX M n m g w fl rd B) (h1 : M1 = up M m (jdO 9 (fX9 m g' w' fl' rd'))) : MX M1 n m g' w' fl' rd' B := by
  obtain ⟨a1, a2, a3⟩ := h
  subst h1
  exact ⟨a1, up_eq, fun j h2 h3 => (up_ne (by omega)).trans (a3 j h2 h3)⟩
def FX (M : jdM) (n m : Nat) (fl : Value) (ct td bk si ld : Nat → Int) : Prop := (fl = .null ∧ ∀ j, ct j = 0) ∨ ∃ (f : Nat) (gf : Nat → Int) (A : Nat → Nat → Int), fl = .ref f ∧ (f + 30 < m ∨ m + 12 < f) ∧ MF M n f gf A ∧ FM ct td bk si ld gf A
theorem FX_fr {M M1 : jdM} {n m : Nat} {fl : Value} {ct td bk si ld : Nat → Int} (h : FX M n m fl ct td bk si ld) (h1 : fr (MXf m) M M1) : FX M1 n m fl ct td bk si ld := by
  rcases h with h | ⟨f, gf, A, a1, a2, a3, a4⟩
  · exact Or.inl h
  · exact Or.inr ⟨f, gf, A, a1, a2, MF_fr a3 h1 (Nat.le_refl _) (fun k h1 h2 q => by have := q.1; have := q.2; omega), a4⟩
def rg (g : Nat → Int) (t : Int) : Nat → Int := up (up (up g 0 0) 1 t) 2 (-1)
theorem lfA9 {M M' : jdM} {n m : Nat} {g : Nat → Int} {w : Int} {fl rd : Value} {B : Nat → Nat → Int} {r : Int × Int} {v t : Int} (e : r = (v, t)) (hX : MX M' n m (up (up (up g 0 0) 1 t) 2 (-1)) w fl rd B) (f : fr (MXf m) M M') : (some (jI v) = some (jI r.1) ∧ n = n) ∧ MX M' n m (rg g r.2) w fl rd B ∧ fr (MXf m) M M' := by
  subst e
  exact ⟨⟨rfl, rfl⟩, hX, f⟩
theorem rows0 {ct td : Nat → Int} (h : ∀ j, ct j = 0) : c_rows ct td = 0 := by
  unfold c_rows
  rw [if_pos (h 0)]
set_option maxHeartbeats 1000000 in
set_option maxRecDepth 20000 in
theorem s_X9_refused {l : Launch} {n : Nat} {M : jdM} {m : Nat} {g : Nat → Int} {w : Int} {fl rd : Value} {B : Nat → Nat → Int} (hX : MX M n m g w fl rd B) {x : Int} : Ct l yX9_refused cX9_refused 2 (some .int) rX9_refused [.ref m, jI x] n M (fun vv n' M' => (vv = some (jI (-1)) ∧ n = n') ∧ MX M' n m (up (up g 1 x) 2 (-1)) w fl rd B ∧ fr (MXf m) M M') := by
  refine Ct_of [some (.ref m), some (jI x)] (by decide) (Nat.le_of_ble_eq_true rfl) rfl (fun κ hl h hR hRt hmn hn0 => ?_)
  have h : Ok κ RX9 cX9_refused 2 (some .int) := h
  obtain ⟨hnm, hOm, hBm⟩ := id hX
  have hOm : M m = jdO 9 (fX9 m _ _ fl rd) := hOm
  have f1 : fr (MXf m) M M := fr_rf
  refine jr_aload_n (pc := 0) h dX9_refused_0 rfl ?_
  refine jr_iload_n (pc := 1) h dX9_refused_1 rfl ?_
  refine pf_X9_55 (pc := 2) h dX9_refused_2 hOm (by omega) ?_
  refine jm_gen (fun M2 hM2 => ?_)
  rw [fX9_1] at hM2
  have hX := MX_o hX hM2
  have f9 : fr (MXf m) _ M2 := fr_up hM2 ⟨by omega, by omega⟩
  obtain ⟨hnm, hOm, hBm⟩ := id hX
  have f1 := fr_tr f1 f9
  refine jr_aload_n (pc := 5) h dX9_refused_5 rfl ?_
  refine jr_iconst (pc := 6) h dX9_refused_6 ?_
  refine pf_X9_9 (pc := 7) h dX9_refused_7 hOm (by omega) ?_
  refine jm_gen (fun M2 hM2 => ?_)
  rw [fX9_2] at hM2
  have hX := MX_o hX hM2
  have f9 : fr (MXf m) _ M2 := fr_up hM2 ⟨by omega, by omega⟩
  obtain ⟨hnm, hOm, hBm⟩ := id hX
  have f1 := fr_tr f1 f9
  refine jr_iconst (pc := 10) h dX9_refused_10 ?_
  refine jr_iret (pc := 11) h hRt dX9_refused_11 rfl (Nat.le_of_ble_eq_true rfl) (Nat.le_of_ble_eq_true rfl) ?_
  exact ⟨⟨rfl, rfl⟩, hX, f1⟩
set_option maxHeartbeats 1000000 in
set_option maxRecDepth 20000 in
theorem s_X9_done {l : Launch} {n : Nat} {M : jdM} {m : Nat} {g : Nat → Int} {w : Int} {fl rd : Value} {B : Nat → Nat → Int} (hX : MX M n m g w fl rd B) {x : Int} : Ct l yX9_done cX9_done 2 (some .int) rX9_done [.ref m, jI x] n M (fun vv n' M' => (vv = some (jI (x)) ∧ n = n') ∧ MX M' n m (up (up g 1 0) 2 (-1)) w fl rd B ∧ fr (MXf m) M M') := by
  refine Ct_of [some (.ref m), some (jI x)] (by decide) (Nat.le_of_ble_eq_true rfl) rfl (fun κ hl h hR hRt hmn hn0 => ?_)
  have h : Ok κ RX9 cX9_done 2 (some .int) := h
  obtain ⟨hnm, hOm, hBm⟩ := id hX
  have hOm : M m = jdO 9 (fX9 m _ _ fl rd) := hOm
  have f1 : fr (MXf m) M M := fr_rf
  refine jr_aload_n (pc := 0) h dX9_done_0 rfl ?_
  refine jr_iconst (pc := 1) h dX9_done_1 ?_
  refine pf_X9_55 (pc := 2) h dX9_done_2 hOm (by omega) ?_
  refine jm_gen (fun M2 hM2 => ?_)
  rw [fX9_1] at hM2
  have hX := MX_o hX hM2
  have f9 : fr (MXf m) _ M2 := fr_up hM2 ⟨by omega, by omega⟩
  obtain ⟨hnm, hOm, hBm⟩ := id hX
  have f1 := fr_tr f1 f9
  refine jr_aload_n (pc := 5) h dX9_done_5 rfl ?_
  refine jr_iconst (pc := 6) h dX9_done_6 ?_
  refine pf_X9_9 (pc := 7) h dX9_done_7 hOm (by omega) ?_
  refine jm_gen (fun M2 hM2 => ?_)
  rw [fX9_2] at hM2
  have hX := MX_o hX hM2
  have f9 : fr (MXf m) _ M2 := fr_up hM2 ⟨by omega, by omega⟩
  obtain ⟨hnm, hOm, hBm⟩ := id hX
  have f1 := fr_tr f1 f9
  refine jr_iload_n (pc := 10) h dX9_done_10 rfl ?_
  refine jr_iret (pc := 11) h hRt dX9_done_11 rfl (Nat.le_of_ble_eq_true rfl) (Nat.le_of_ble_eq_true rfl) ?_
  exact ⟨⟨rfl, rfl⟩, hX, f1⟩
set_option maxHeartbeats 1000000 in
set_option maxRecDepth 20000 in
theorem s_X9_lost {l : Launch} {n : Nat} {M : jdM} {m : Nat} {g : Nat → Int} {w : Int} {fl rd : Value} {B : Nat → Nat → Int} (hX : MX M n m g w fl rd B) {x : Int} : Ct l yX9_lost cX9_lost 2 (some .int) rX9_lost [.ref m, jI x] n M (fun vv n' M' => (vv = some (jI (-1000)) ∧ n = n') ∧ MX M' n m (up (up g 1 x) 2 (-1)) w fl rd B ∧ fr (MXf m) M M') := by
  refine Ct_of [some (.ref m), some (jI x)] (by decide) (Nat.le_of_ble_eq_true rfl) rfl (fun κ hl h hR hRt hmn hn0 => ?_)
  have h : Ok κ RX9 cX9_lost 2 (some .int) := h
  obtain ⟨hnm, hOm, hBm⟩ := id hX
  have hOm : M m = jdO 9 (fX9 m _ _ fl rd) := hOm
  have f1 : fr (MXf m) M M := fr_rf
  refine jr_aload_n (pc := 0) h dX9_lost_0 rfl ?_
  refine jr_iload_n (pc := 1) h dX9_lost_1 rfl ?_
  refine iv_X9_58 (pc := 2) h hl hR dX9_lost_2 ⟨(Nat.le_of_ble_eq_true rfl), (Nat.le_of_ble_eq_true rfl), (Nat.le_of_ble_eq_true rfl), (Nat.le_of_ble_eq_true rfl)⟩ (Nat.le_of_ble_eq_true rfl) (by assumption) (by omega) (s_X9_refused hX) (fun v_2 n_2 M_2 hn_2 hp => ?_)
  obtain ⟨⟨rfl, rfl⟩, hX, f9⟩ := hp
  have f1 := fr_tr f1 f9
  obtain ⟨hnm, hOm, hBm⟩ := id hX
  refine jr_pop (pc := 5) h dX9_lost_5 rfl ?_
  refine jr_sipush (pc := 6) h dX9_lost_6 sp_m1000 ?_
  refine jr_iret (pc := 9) h hRt dX9_lost_9 rfl (Nat.le_of_ble_eq_true rfl) (Nat.le_of_ble_eq_true rfl) ?_
  exact ⟨⟨rfl, rfl⟩, hX, f1⟩
set_option maxHeartbeats 1000000 in
set_option maxRecDepth 20000 in
theorem s_X9_denied {l : Launch} {n : Nat} {M : jdM} {m : Nat} {g : Nat → Int} {w : Int} {fl rd : Value} {B : Nat → Nat → Int} (hX : MX M n m g w fl rd B) {x : Int} : Ct l yX9_denied cX9_denied 2 (some .boolean) rX9_denied [.ref m, jI x] n M (fun vv n' M' => (vv = some (jI (0)) ∧ n = n') ∧ MX M' n m (up (up g 1 x) 2 (-1)) w fl rd B ∧ fr (MXf m) M M') := by
  refine Ct_of [some (.ref m), some (jI x)] (by decide) (Nat.le_of_ble_eq_true rfl) rfl (fun κ hl h hR hRt hmn hn0 => ?_)
  have h : Ok κ RX9 cX9_denied 2 (some .boolean) := h
  obtain ⟨hnm, hOm, hBm⟩ := id hX
  have hOm : M m = jdO 9 (fX9 m _ _ fl rd) := hOm
  have f1 : fr (MXf m) M M := fr_rf
  refine jr_aload_n (pc := 0) h dX9_denied_0 rfl ?_
  refine jr_iload_n (pc := 1) h dX9_denied_1 rfl ?_
  refine iv_X9_58 (pc := 2) h hl hR dX9_denied_2 ⟨(Nat.le_of_ble_eq_true rfl), (Nat.le_of_ble_eq_true rfl), (Nat.le_of_ble_eq_true rfl), (Nat.le_of_ble_eq_true rfl)⟩ (Nat.le_of_ble_eq_true rfl) (by assumption) (by omega) (s_X9_refused hX) (fun v_2 n_2 M_2 hn_2 hp => ?_)
  obtain ⟨⟨rfl, rfl⟩, hX, f9⟩ := hp
  have f1 := fr_tr f1 f9
  obtain ⟨hnm, hOm, hBm⟩ := id hX
  refine jr_pop (pc := 5) h dX9_denied_5 rfl ?_
  refine jr_iconst (pc := 6) h dX9_denied_6 ?_
  refine jr_iret (pc := 7) h hRt dX9_denied_7 rfl (Nat.le_of_ble_eq_true rfl) (Nat.le_of_ble_eq_true rfl) ?_
  exact ⟨⟨rfl, rfl⟩, hX, f1⟩
set_option maxHeartbeats 1000000 in
set_option maxRecDepth 20000 in
theorem s_X9_granted {l : Launch} {n : Nat} {M : jdM} {m : Nat} {g : Nat → Int} {w : Int} {fl rd : Value} {B : Nat → Nat → Int} (hX : MX M n m g w fl rd B) : Ct l yX9_granted cX9_granted 1 (some .boolean) rX9_granted [.ref m] n M (fun vv n' M' => (vv = some (jI 1) ∧ n = n') ∧ MX M' n m (up (up g 1 0) 2 (-1)) w fl rd B ∧ fr (MXf m) M M') := by
  refine Ct_of [some (.ref m)] (by decide) (Nat.le_of_ble_eq_true rfl) rfl (fun κ hl h hR hRt hmn hn0 => ?_)
  have h : Ok κ RX9 cX9_granted 1 (some .boolean) := h
  obtain ⟨hnm, hOm, hBm⟩ := id hX
  have hOm : M m = jdO 9 (fX9 m _ _ fl rd) := hOm
  have f1 : fr (MXf m) M M := fr_rf
  refine jr_aload_n (pc := 0) h dX9_granted_0 rfl ?_
  refine jr_iconst (pc := 1) h dX9_granted_1 ?_
  refine iv_X9_62 (pc := 2) h hl hR dX9_granted_2 ⟨(Nat.le_of_ble_eq_true rfl), (Nat.le_of_ble_eq_true rfl), (Nat.le_of_ble_eq_true rfl), (Nat.le_of_ble_eq_true rfl)⟩ (Nat.le_of_ble_eq_true rfl) (by assumption) (by omega) (s_X9_done hX) (fun v_2 n_2 M_2 hn_2 hp => ?_)
  obtain ⟨⟨rfl, rfl⟩, hX, f9⟩ := hp
  have f1 := fr_tr f1 f9
  obtain ⟨hnm, hOm, hBm⟩ := id hX
  refine jr_pop (pc := 5) h dX9_granted_5 rfl ?_
  refine jr_iconst (pc := 6) h dX9_granted_6 ?_
  refine jr_iret (pc := 7) h hRt dX9_granted_7 rfl (Nat.le_of_ble_eq_true rfl) (Nat.le_of_ble_eq_true rfl) ?_
  exact ⟨⟨rfl, rfl⟩, hX, f1⟩
set_option maxHeartbeats 1000000 in
set_option maxRecDepth 20000 in
theorem s_X9_in {l : Launch} {n : Nat} {M : jdM} {x y z : Int} (hx : -2147483648 ≤ x ∧ x < 2147483648) (hy : -2147483648 ≤ y ∧ y < 2147483648) (hz : -2147483648 ≤ z ∧ z < 2147483648) : Ct l yX9_in cX9_in 3 (some .boolean) rX9_in [jI x, jI y, jI z] n M (fun vv n' M' => (vv = some (jI (bz (y ≤ x ∧ x ≤ z))) ∧ n = n' ∧ M = M') ∧ (0) ≤ (bz (y ≤ x ∧ x ≤ z)) ∧ (bz (y ≤ x ∧ x ≤ z)) ≤ 1) := by
  refine Ct_of [some (jI x), some (jI y), some (jI z)] (by decide) (Nat.le_of_ble_eq_true rfl) rfl (fun κ hl h hR hRt hmn hn0 => ?_)
  have h : Ok κ RX9 cX9_in 3 (some .boolean) := h
  refine jr_iload_n (pc := 0) h dX9_in_0 rfl ?_
  refine jr_iload_n (pc := 1) h dX9_in_1 rfl ?_
  refine jr_icmp_lt (pc := 2) h 14 dX9_in_2 (by decide) (by omega) (by omega) (fun c_2 => ?_) (fun c_2 => ?_)
  · skip
    refine jr_iconst (pc := 14) h dX9_in_14 ?_
    refine jr_iret (pc := 15) h hRt dX9_in_15 rfl (Nat.le_of_ble_eq_true rfl) (Nat.le_of_ble_eq_true rfl) ?_
    refine ⟨⟨ji_c ?_, rfl, rfl⟩, bz_r _⟩
    first | rw [bz_t (by omega)] | rw [bz_f (by omega)]
  · skip
    refine jr_iload_n (pc := 5) h dX9_in_5 rfl ?_
    refine jr_iload_n (pc := 6) h dX9_in_6 rfl ?_
    refine jr_icmp_gt (pc := 7) h 14 dX9_in_7 (by decide) (by omega) (by omega) (fun c_7 => ?_) (fun c_7 => ?_)
    · skip
      refine jr_iconst (pc := 14) h dX9_in_14 ?_
      refine jr_iret (pc := 15) h hRt dX9_in_15 rfl (Nat.le_of_ble_eq_true rfl) (Nat.le_of_ble_eq_true rfl) ?_
      refine ⟨⟨ji_c ?_, rfl, rfl⟩, bz_r _⟩
      first | rw [bz_t (by omega)] | rw [bz_f (by omega)]
    · skip
      refine jr_iconst (pc := 10) h dX9_in_10 ?_
      refine jr_goto (pc := 11) h 15 dX9_in_11 (by decide) ?_
      refine jr_iret (pc := 15) h hRt dX9_in_15 rfl (Nat.le_of_ble_eq_true rfl) (Nat.le_of_ble_eq_true rfl) ?_
      refine ⟨⟨ji_c ?_, rfl, rfl⟩, bz_r _⟩
      first | rw [bz_t (by omega)] | rw [bz_f (by omega)]
set_option maxHeartbeats 2000000 in
set_option maxRecDepth 20000 in
theorem s_X9_isRow {l : Launch} {n : Nat} {M : jdM} {m : Nat} {g : Nat → Int} {w : Int} {fl rd : Value} {B : Nat → Nat → Int} (hX : MX M n m g w fl rd B) {ct td bk si ld : Nat → Int} (hFX : FX M n m fl ct td bk si ld) {x : Int} (hx : -2147483648 ≤ x ∧ x < 2147483648) : Ct l yX9_isRow cX9_isRow 2 (some .boolean) rX9_isRow [.ref m, jI x] n M (fun vv n' M' => (vv = some (jI (bz (1 ≤ x ∧ x ≤ c_rows ct td))) ∧ n = n' ∧ M = M') ∧ (0) ≤ (bz (1 ≤ x ∧ x ≤ c_rows ct td)) ∧ (bz (1 ≤ x ∧ x ≤ c_rows ct td)) ≤ 1) := by
  refine Ct_of [some (.ref m), some (jI x)] (by decide) (Nat.le_of_ble_eq_true rfl) rfl (fun κ hl h hR hRt hmn hn0 => ?_)
  have h : Ok κ RX9 cX9_isRow 2 (some .boolean) := h
  rcases hFX with ⟨rfl, hz⟩ | ⟨f, gf, A, rfl, hsep, hMF, hFM⟩
  · skip
    have hr0 := rows0 (td := td) hz
    have z2 := hz 2
    have z5 := hz 5
    obtain ⟨hnm, hOm, hBm⟩ := id hX
    have hOm : M m = jdO 9 (fX9 m _ _ .null rd) := hOm
    refine jr_aload_n (pc := 0) h dX9_isRow_0 rfl ?_
    refine gf_X9_425 (pc := 1) h dX9_isRow_1 (by assumption) (by omega) ?_
    refine jr_ifnullN (pc := 4) h 27 dX9_isRow_4 (by decide) ?_
    refine jr_iconst (pc := 27) h dX9_isRow_27 ?_
    refine jr_iret (pc := 28) h hRt dX9_isRow_28 rfl (Nat.le_of_ble_eq_true rfl) (Nat.le_of_ble_eq_true rfl) ?_
    refine ⟨⟨ji_c ?_, rfl, rfl⟩, bz_r _⟩
    first | rw [bz_t (by omega)] | rw [bz_f (by omega)]
  · skip
    obtain ⟨hnm, hOm, hBm⟩ := id hX
    have hOm : M m = jdO 9 (fX9 m _ _ (.ref f) rd) := hOm
    obtain ⟨hnf, hOf, hAf⟩ := id hMF
    obtain ⟨⟨e0, e1, e2, e3, e4⟩, ⟨k5, k6, k7, k8, k9, k10, k11, k12, k13, k14, k15⟩, ⟨a2, a3, a4, a5, a6, a7, a8, a9, a10, a11, a12⟩, ⟨hlim, hLI, hends, hrt⟩, ⟨hbk, hld⟩, hc0, hc1, hc2, hc5⟩ := id hFM
    have l2 := hlim 2 (by omega)
    have l3 := hlim 3 (by omega)
    have l4 := hlim 4 (by omega)
    have l5 := hlim 5 (by omega)
    have l6 := hlim 6 (by omega)
    have l7 := hlim 7 (by omega)
    have l8 := hlim 8 (by omega)
    have l9 := hlim 9 (by omega)
    have l10 := hlim 10 (by omega)
    have l11 := hlim 11 (by omega)
    have l12 := hlim 12 (by omega)
    rw [show (jtab 0).2.2 2 = 4 from rfl] at l2
    rw [show (jtab 0).2.2 3 = 6 from rfl] at l3
    rw [show (jtab 0).2.2 4 = 6 from rfl] at l4
    rw [show (jtab 0).2.2 5 = 2 from rfl] at l5
    rw [show (jtab 0).2.2 6 = 8 from rfl] at l6
    rw [show (jtab 0).2.2 7 = 5 from rfl] at l7
    rw [show (jtab 0).2.2 8 = 6 from rfl] at l8
    rw [show (jtab 0).2.2 9 = 3 from rfl] at l9
    rw [show (jtab 0).2.2 10 = 3 from rfl] at l10
    rw [show (jtab 0).2.2 11 = 4 from rfl] at l11
    rw [show (jtab 0).2.2 12 = 4 from rfl] at l12
    have hcr : 0 ≤ c_rows ct td ∧ c_rows ct td ≤ 40 := by
      have h9 := (hLI 0 0 (by omega) (by omega) (by omega)).1 rfl
      have e9 : c_rows ct td = c_get td 0 0 0 := by unfold c_rows; rw [if_neg (by omega)]
      omega
    refine jr_aload_n (pc := 0) h dX9_isRow_0 rfl ?_
    refine gf_X9_425 (pc := 1) h dX9_isRow_1 (by assumption) (by omega) ?_
    refine jr_ifnull (pc := 4) h dX9_isRow_4 ?_
    refine jr_iload_n (pc := 7) h dX9_isRow_7 rfl ?_
    refine jr_iconst (pc := 8) h dX9_isRow_8 ?_
    refine jr_icmp_lt (pc := 9) h 27 dX9_isRow_9 (by decide) (by omega) (by omega) (fun c_9 => ?_) (fun c_9 => ?_)
    · skip
      refine jr_iconst (pc := 27) h dX9_isRow_27 ?_
      refine jr_iret (pc := 28) h hRt dX9_isRow_28 rfl (Nat.le_of_ble_eq_true rfl) (Nat.le_of_ble_eq_true rfl) ?_
      refine ⟨⟨ji_c ?_, rfl, rfl⟩, bz_r _⟩
      first | rw [bz_t (by omega)] | rw [bz_f (by omega)]
    · skip
      refine jr_iload_n (pc := 12) h dX9_isRow_12 rfl ?_
      refine jr_aload_n (pc := 13) h dX9_isRow_13 rfl ?_
      refine gf_X9_425 (pc := 14) h dX9_isRow_14 (by assumption) (by omega) ?_
      refine gf_X9_205 (pc := 17) h dX9_isRow_17 (by assumption) (by omega) ?_
      refine jr_icmp_gt (pc := 20) h 27 dX9_isRow_20 (by decide) (by omega) (by omega) (fun c_20 => ?_) (fun c_20 => ?_)
      · skip
        refine jr_iconst (pc := 27) h dX9_isRow_27 ?_
        refine jr_iret (pc := 28) h hRt dX9_isRow_28 rfl (Nat.le_of_ble_eq_true rfl) (Nat.le_of_ble_eq_true rfl) ?_
        refine ⟨⟨ji_c ?_, rfl, rfl⟩, bz_r _⟩
        first | rw [bz_t (by omega)] | rw [bz_f (by omega)]
      · skip
        refine jr_iconst (pc := 23) h dX9_isRow_23 ?_
        refine jr_goto (pc := 24) h 28 dX9_isRow_24 (by decide) ?_
        refine jr_iret (pc := 28) h hRt dX9_isRow_28 rfl (Nat.le_of_ble_eq_true rfl) (Nat.le_of_ble_eq_true rfl) ?_
        refine ⟨⟨ji_c ?_, rfl, rfl⟩, bz_r _⟩
        first | rw [bz_t (by omega)] | rw [bz_f (by omega)]
set_option maxHeartbeats 2000000 in
set_option maxRecDepth 20000 in
theorem s_X9_isKind {l : Launch} {n : Nat} {M : jdM} {m : Nat} {g : Nat → Int} {w : Int} {fl rd : Value} {B : Nat → Nat → Int} (hX : MX M n m g w fl rd B) {ct td bk si ld : Nat → Int} (hFX : FX M n m fl ct td bk si ld) {x : Int} (hx : -2147483648 ≤ x ∧ x < 2147483648) : Ct l yX9_isKind cX9_isKind 2 (some .boolean) rX9_isKind [.ref m, jI x] n M (fun vv n' M' => (vv = some (jI (bz (0 ≤ x ∧ x < ct 2))) ∧ n = n' ∧ M = M') ∧ (0) ≤ (bz (0 ≤ x ∧ x < ct 2)) ∧ (bz (0 ≤ x ∧ x < ct 2)) ≤ 1) := by
  refine Ct_of [some (.ref m), some (jI x)] (by decide) (Nat.le_of_ble_eq_true rfl) rfl (fun κ hl h hR hRt hmn hn0 => ?_)
  have h : Ok κ RX9 cX9_isKind 2 (some .boolean) := h
  rcases hFX with ⟨rfl, hz⟩ | ⟨f, gf, A, rfl, hsep, hMF, hFM⟩
  · skip
    have hr0 := rows0 (td := td) hz
    have z2 := hz 2
    have z5 := hz 5
    obtain ⟨hnm, hOm, hBm⟩ := id hX
    have hOm : M m = jdO 9 (fX9 m _ _ .null rd) := hOm
    refine jr_aload_n (pc := 0) h dX9_isKind_0 rfl ?_
    refine gf_X9_425 (pc := 1) h dX9_isKind_1 (by assumption) (by omega) ?_
    refine jr_ifnullN (pc := 4) h 26 dX9_isKind_4 (by decide) ?_
    refine jr_iconst (pc := 26) h dX9_isKind_26 ?_
    refine jr_iret (pc := 27) h hRt dX9_isKind_27 rfl (Nat.le_of_ble_eq_true rfl) (Nat.le_of_ble_eq_true rfl) ?_
    refine ⟨⟨ji_c ?_, rfl, rfl⟩, bz_r _⟩
    first | rw [bz_t (by omega)] | rw [bz_f (by omega)]
  · skip
    obtain ⟨hnm, hOm, hBm⟩ := id hX
    have hOm : M m = jdO 9 (fX9 m _ _ (.ref f) rd) := hOm
    obtain ⟨hnf, hOf, hAf⟩ := id hMF
    obtain ⟨⟨e0, e1, e2, e3, e4⟩, ⟨k5, k6, k7, k8, k9, k10, k11, k12, k13, k14, k15⟩, ⟨a2, a3, a4, a5, a6, a7, a8, a9, a10, a11, a12⟩, ⟨hlim, hLI, hends, hrt⟩, ⟨hbk, hld⟩, hc0, hc1, hc2, hc5⟩ := id hFM
    have l2 := hlim 2 (by omega)
    have l3 := hlim 3 (by omega)
    have l4 := hlim 4 (by omega)
    have l5 := hlim 5 (by omega)
    have l6 := hlim 6 (by omega)
    have l7 := hlim 7 (by omega)
    have l8 := hlim 8 (by omega)
    have l9 := hlim 9 (by omega)
    have l10 := hlim 10 (by omega)
    have l11 := hlim 11 (by omega)
    have l12 := hlim 12 (by omega)
    rw [show (jtab 0).2.2 2 = 4 from rfl] at l2
    rw [show (jtab 0).2.2 3 = 6 from rfl] at l3
    rw [show (jtab 0).2.2 4 = 6 from rfl] at l4
    rw [show (jtab 0).2.2 5 = 2 from rfl] at l5
    rw [show (jtab 0).2.2 6 = 8 from rfl] at l6
    rw [show (jtab 0).2.2 7 = 5 from rfl] at l7
    rw [show (jtab 0).2.2 8 = 6 from rfl] at l8
    rw [show (jtab 0).2.2 9 = 3 from rfl] at l9
    rw [show (jtab 0).2.2 10 = 3 from rfl] at l10
    rw [show (jtab 0).2.2 11 = 4 from rfl] at l11
    rw [show (jtab 0).2.2 12 = 4 from rfl] at l12
    have hcr : 0 ≤ c_rows ct td ∧ c_rows ct td ≤ 40 := by
      have h9 := (hLI 0 0 (by omega) (by omega) (by omega)).1 rfl
      have e9 : c_rows ct td = c_get td 0 0 0 := by unfold c_rows; rw [if_neg (by omega)]
      omega
    refine jr_aload_n (pc := 0) h dX9_isKind_0 rfl ?_
    refine gf_X9_425 (pc := 1) h dX9_isKind_1 (by assumption) (by omega) ?_
    refine jr_ifnull (pc := 4) h dX9_isKind_4 ?_
    refine jr_iload_n (pc := 7) h dX9_isKind_7 rfl ?_
    refine jr_if_lt (pc := 8) h 26 dX9_isKind_8 (by decide) (by omega) (fun c_8 => ?_) (fun c_8 => ?_)
    · skip
      refine jr_iconst (pc := 26) h dX9_isKind_26 ?_
      refine jr_iret (pc := 27) h hRt dX9_isKind_27 rfl (Nat.le_of_ble_eq_true rfl) (Nat.le_of_ble_eq_true rfl) ?_
      refine ⟨⟨ji_c ?_, rfl, rfl⟩, bz_r _⟩
      first | rw [bz_t (by omega)] | rw [bz_f (by omega)]
    · skip
      refine jr_iload_n (pc := 11) h dX9_isKind_11 rfl ?_
      refine jr_aload_n (pc := 12) h dX9_isKind_12 rfl ?_
      refine gf_X9_425 (pc := 13) h dX9_isKind_13 (by assumption) (by omega) ?_
      refine gf_X9_211 (pc := 16) h dX9_isKind_16 (by assumption) (by omega) ?_
      refine jr_icmp_ge (pc := 19) h 26 dX9_isKind_19 (by decide) (by omega) (by omega) (fun c_19 => ?_) (fun c_19 => ?_)
      · skip
        refine jr_iconst (pc := 26) h dX9_isKind_26 ?_
        refine jr_iret (pc := 27) h hRt dX9_isKind_27 rfl (Nat.le_of_ble_eq_true rfl) (Nat.le_of_ble_eq_true rfl) ?_
        refine ⟨⟨ji_c ?_, rfl, rfl⟩, bz_r _⟩
        first | rw [bz_t (by omega)] | rw [bz_f (by omega)]
      · skip
        refine jr_iconst (pc := 22) h dX9_isKind_22 ?_
        refine jr_goto (pc := 23) h 27 dX9_isKind_23 (by decide) ?_
        refine jr_iret (pc := 27) h hRt dX9_isKind_27 rfl (Nat.le_of_ble_eq_true rfl) (Nat.le_of_ble_eq_true rfl) ?_
        refine ⟨⟨ji_c ?_, rfl, rfl⟩, bz_r _⟩
        first | rw [bz_t (by omega)] | rw [bz_f (by omega)]
set_option maxHeartbeats 2000000 in
set_option maxRecDepth 20000 in
theorem s_X9_isTrolley {l : Launch} {n : Nat} {M : jdM} {m : Nat} {g : Nat → Int} {w : Int} {fl rd : Value} {B : Nat → Nat → Int} (hX : MX M n m g w fl rd B) {ct td bk si ld : Nat → Int} (hFX : FX M n m fl ct td bk si ld) {x : Int} (hx : -2147483648 ≤ x ∧ x < 2147483648) : Ct l yX9_isTrolley cX9_isTrolley 2 (some .boolean) rX9_isTrolley [.ref m, jI x] n M (fun vv n' M' => (vv = some (jI (bz (0 ≤ x ∧ x < ct 5))) ∧ n = n' ∧ M = M') ∧ (0) ≤ (bz (0 ≤ x ∧ x < ct 5)) ∧ (bz (0 ≤ x ∧ x < ct 5)) ≤ 1) := by
  refine Ct_of [some (.ref m), some (jI x)] (by decide) (Nat.le_of_ble_eq_true rfl) rfl (fun κ hl h hR hRt hmn hn0 => ?_)
  have h : Ok κ RX9 cX9_isTrolley 2 (some .boolean) := h
  rcases hFX with ⟨rfl, hz⟩ | ⟨f, gf, A, rfl, hsep, hMF, hFM⟩
  · skip
    have hr0 := rows0 (td := td) hz
    have z2 := hz 2
    have z5 := hz 5
    obtain ⟨hnm, hOm, hBm⟩ := id hX
    have hOm : M m = jdO 9 (fX9 m _ _ .null rd) := hOm
    refine jr_aload_n (pc := 0) h dX9_isTrolley_0 rfl ?_
    refine gf_X9_425 (pc := 1) h dX9_isTrolley_1 (by assumption) (by omega) ?_
    refine jr_ifnullN (pc := 4) h 26 dX9_isTrolley_4 (by decide) ?_
    refine jr_iconst (pc := 26) h dX9_isTrolley_26 ?_
    refine jr_iret (pc := 27) h hRt dX9_isTrolley_27 rfl (Nat.le_of_ble_eq_true rfl) (Nat.le_of_ble_eq_true rfl) ?_
    refine ⟨⟨ji_c ?_, rfl, rfl⟩, bz_r _⟩
    first | rw [bz_t (by omega)] | rw [bz_f (by omega)]
  · skip
    obtain ⟨hnm, hOm, hBm⟩ := id hX
    have hOm : M m = jdO 9 (fX9 m _ _ (.ref f) rd) := hOm
    obtain ⟨hnf, hOf, hAf⟩ := id hMF
    obtain ⟨⟨e0, e1, e2, e3, e4⟩, ⟨k5, k6, k7, k8, k9, k10, k11, k12, k13, k14, k15⟩, ⟨a2, a3, a4, a5, a6, a7, a8, a9, a10, a11, a12⟩, ⟨hlim, hLI, hends, hrt⟩, ⟨hbk, hld⟩, hc0, hc1, hc2, hc5⟩ := id hFM
    have l2 := hlim 2 (by omega)
    have l3 := hlim 3 (by omega)
    have l4 := hlim 4 (by omega)
    have l5 := hlim 5 (by omega)
    have l6 := hlim 6 (by omega)
    have l7 := hlim 7 (by omega)
    have l8 := hlim 8 (by omega)
    have l9 := hlim 9 (by omega)
    have l10 := hlim 10 (by omega)
    have l11 := hlim 11 (by omega)
    have l12 := hlim 12 (by omega)
    rw [show (jtab 0).2.2 2 = 4 from rfl] at l2
    rw [show (jtab 0).2.2 3 = 6 from rfl] at l3
    rw [show (jtab 0).2.2 4 = 6 from rfl] at l4
    rw [show (jtab 0).2.2 5 = 2 from rfl] at l5
    rw [show (jtab 0).2.2 6 = 8 from rfl] at l6
    rw [show (jtab 0).2.2 7 = 5 from rfl] at l7
    rw [show (jtab 0).2.2 8 = 6 from rfl] at l8
    rw [show (jtab 0).2.2 9 = 3 from rfl] at l9
    rw [show (jtab 0).2.2 10 = 3 from rfl] at l10
    rw [show (jtab 0).2.2 11 = 4 from rfl] at l11
    rw [show (jtab 0).2.2 12 = 4 from rfl] at l12
    have hcr : 0 ≤ c_rows ct td ∧ c_rows ct td ≤ 40 := by
      have h9 := (hLI 0 0 (by omega) (by omega) (by omega)).1 rfl
      have e9 : c_rows ct td = c_get td 0 0 0 := by unfold c_rows; rw [if_neg (by omega)]
      omega
    refine jr_aload_n (pc := 0) h dX9_isTrolley_0 rfl ?_
    refine gf_X9_425 (pc := 1) h dX9_isTrolley_1 (by assumption) (by omega) ?_
    refine jr_ifnull (pc := 4) h dX9_isTrolley_4 ?_
    refine jr_iload_n (pc := 7) h dX9_isTrolley_7 rfl ?_
    refine jr_if_lt (pc := 8) h 26 dX9_isTrolley_8 (by decide) (by omega) (fun c_8 => ?_) (fun c_8 => ?_)
    · skip
      refine jr_iconst (pc := 26) h dX9_isTrolley_26 ?_
      refine jr_iret (pc := 27) h hRt dX9_isTrolley_27 rfl (Nat.le_of_ble_eq_true rfl) (Nat.le_of_ble_eq_true rfl) ?_
      refine ⟨⟨ji_c ?_, rfl, rfl⟩, bz_r _⟩
      first | rw [bz_t (by omega)] | rw [bz_f (by omega)]
    · skip
      refine jr_iload_n (pc := 11) h dX9_isTrolley_11 rfl ?_
      refine jr_aload_n (pc := 12) h dX9_isTrolley_12 rfl ?_
      refine gf_X9_425 (pc := 13) h dX9_isTrolley_13 (by assumption) (by omega) ?_
      refine gf_X9_214 (pc := 16) h dX9_isTrolley_16 (by assumption) (by omega) ?_
      refine jr_icmp_ge (pc := 19) h 26 dX9_isTrolley_19 (by decide) (by omega) (by omega) (fun c_19 => ?_) (fun c_19 => ?_)
      · skip
        refine jr_iconst (pc := 26) h dX9_isTrolley_26 ?_
        refine jr_iret (pc := 27) h hRt dX9_isTrolley_27 rfl (Nat.le_of_ble_eq_true rfl) (Nat.le_of_ble_eq_true rfl) ?_
        refine ⟨⟨ji_c ?_, rfl, rfl⟩, bz_r _⟩
        first | rw [bz_t (by omega)] | rw [bz_f (by omega)]
      · skip
        refine jr_iconst (pc := 22) h dX9_isTrolley_22 ?_
        refine jr_goto (pc := 23) h 27 dX9_isTrolley_23 (by decide) ?_
        refine jr_iret (pc := 27) h hRt dX9_isTrolley_27 rfl (Nat.le_of_ble_eq_true rfl) (Nat.le_of_ble_eq_true rfl) ?_
        refine ⟨⟨ji_c ?_, rfl, rfl⟩, bz_r _⟩
        first | rw [bz_t (by omega)] | rw [bz_f (by omega)]
set_option maxHeartbeats 1000000 in
set_option maxRecDepth 20000 in
theorem s_X9_sits {l : Launch} {n : Nat} {M : jdM} {m : Nat} {g : Nat → Int} {w : Int} {fl rd : Value} {B : Nat → Nat → Int} (hX : MX M n m g w fl rd B) {ct td bk si ld : Nat → Int} (hFX : FX M n m fl ct td bk si ld) {x : Int} (hx : -2147483648 ≤ x ∧ x < 2147483648)  : Ct l yX9_sits cX9_sits 2 (some .int) rX9_sits [.ref m, jI x] n M (fun vv n' M' => (vv = some (jI (x_sits ct td si x).1) ∧ n = n') ∧ MX M' n m (rg g (x_sits ct td si x).2) w fl rd B ∧ fr (MXf m) M M') := by
  refine Ct_of [some (.ref m), some (jI x)] (by decide) (Nat.le_of_ble_eq_true rfl) rfl (fun κ hl h hR hRt hmn hn0 => ?_)
  have h : Ok κ RX9 cX9_sits 2 (some .int) := h
  obtain ⟨hnm, hOm, hBm⟩ := id hX
  have hOm : M m = jdO 9 (fX9 m _ _ fl rd) := hOm
  refine jr_aload_n (pc := 0) h dX9_sits_0 rfl ?_
  refine jr_iconst (pc := 1) h dX9_sits_1 ?_
  refine pf_X9_52 (pc := 2) h dX9_sits_2 hOm (by omega) ?_
  refine jm_gen (fun M2 hM2 => ?_)
  rw [fX9_0] at hM2
  have hX := MX_o hX hM2
  have f9 : fr (MXf m) _ M2 := fr_up hM2 ⟨by omega, by omega⟩
  obtain ⟨hnm, hOm, hBm⟩ := id hX
  have f1 := f9
  have hFX := FX_fr hFX f9
  refine jr_aload_n (pc := 5) h dX9_sits_5 rfl ?_
  refine jr_iload_n (pc := 6) h dX9_sits_6 rfl ?_
  refine iv_X9_434 (pc := 7) h hl hR dX9_sits_7 ⟨(Nat.le_of_ble_eq_true rfl), (Nat.le_of_ble_eq_true rfl), (Nat.le_of_ble_eq_true rfl), (Nat.le_of_ble_eq_true rfl)⟩ (Nat.le_of_ble_eq_true rfl) (by assumption) (by omega) (s_X9_isRow hX hFX (by omega)) (fun v_7 n_7 M_7 hn_7 hp => ?_)
  obtain ⟨⟨rfl, rfl, rfl⟩, gr_7⟩ := hp
  refine jr_if_eq (pc := 10) h 28 dX9_sits_10 (by decide) (by omega) (fun c_10 => ?_) (fun c_10 => ?_)
  · first | have d_10 := bz_0.mp c_10 | have d_10 := bz_1.mp c_10 | skip
    refine jr_aload_n (pc := 28) h dX9_sits_28 rfl ?_
    refine jr_iconst (pc := 29) h dX9_sits_29 ?_
    refine iv_X9_58 (pc := 30) h hl hR dX9_sits_30 ⟨(Nat.le_of_ble_eq_true rfl), (Nat.le_of_ble_eq_true rfl), (Nat.le_of_ble_eq_true rfl), (Nat.le_of_ble_eq_true rfl)⟩ (Nat.le_of_ble_eq_true rfl) (by assumption) (by omega) (s_X9_refused hX) (fun v_30 n_30 M_30 hn_30 hp => ?_)
    obtain ⟨⟨rfl, rfl⟩, hX, f9⟩ := hp
    have f1 := fr_tr f1 f9
    obtain ⟨hnm, hOm, hBm⟩ := id hX
    refine jr_iret (pc := 33) h hRt dX9_sits_33 rfl (Nat.le_of_ble_eq_true rfl) (Nat.le_of_ble_eq_true rfl) ?_
    refine lfA9 ?_ hX f1
    unfold x_sits
    (repeat' split) <;> first | rfl | (exfalso; omega) | contradiction
  · first | have d_10 := bz_0.mp c_10 | have d_10 := bz_1.mp c_10 | skip
    have hr00 := fun (hz : ∀ j, ct j = 0) => rows0 (td := td) hz
    rcases hFX with ⟨rfl, hz⟩ | ⟨f, gf, A, rfl, hsep, hMF, hFM⟩
    · exfalso
      have z2 := hz 2
      have z5 := hz 5
      have zr := hr00 hz
      omega
    obtain ⟨hnf, hOf, hAf⟩ := id hMF
    obtain ⟨⟨e0, e1, e2, e3, e4⟩, ⟨k5, k6, k7, k8, k9, k10, k11, k12, k13, k14, k15⟩, ⟨a2, a3, a4, a5, a6, a7, a8, a9, a10, a11, a12⟩, ⟨hlim, hLI, hends, hrt⟩, ⟨hbk, hld⟩, hc0, hc1, hc2, hc5⟩ := id hFM
    have l2 := hlim 2 (by omega)
    have l3 := hlim 3 (by omega)
    have l4 := hlim 4 (by omega)
    have l5 := hlim 5 (by omega)
    have l6 := hlim 6 (by omega)
    have l7 := hlim 7 (by omega)
    have l8 := hlim 8 (by omega)
    have l9 := hlim 9 (by omega)
    have l10 := hlim 10 (by omega)
    have l11 := hlim 11 (by omega)
    have l12 := hlim 12 (by omega)
    rw [show (jtab 0).2.2 2 = 4 from rfl] at l2
    rw [show (jtab 0).2.2 3 = 6 from rfl] at l3
    rw [show (jtab 0).2.2 4 = 6 from rfl] at l4
    rw [show (jtab 0).2.2 5 = 2 from rfl] at l5
    rw [show (jtab 0).2.2 6 = 8 from rfl] at l6
    rw [show (jtab 0).2.2 7 = 5 from rfl] at l7
    rw [show (jtab 0).2.2 8 = 6 from rfl] at l8
    rw [show (jtab 0).2.2 9 = 3 from rfl] at l9
    rw [show (jtab 0).2.2 10 = 3 from rfl] at l10
    rw [show (jtab 0).2.2 11 = 4 from rfl] at l11
    rw [show (jtab 0).2.2 12 = 4 from rfl] at l12
    have hcr : 1 ≤ c_rows ct td ∧ c_rows ct td ≤ 40 := by
      have h9 := (hLI 0 0 (by omega) (by omega) (by omega)).1 rfl
      have e9 : c_rows ct td = c_get td 0 0 0 := by unfold c_rows; rw [if_neg (by omega)]
      omega
    refine jr_aload_n (pc := 13) h dX9_sits_13 rfl ?_
    refine jr_aload_n (pc := 14) h dX9_sits_14 rfl ?_
    refine gf_X9_425 (pc := 15) h dX9_sits_15 (by assumption) (by omega) ?_
    refine jr_iload_n (pc := 18) h dX9_sits_18 rfl ?_
    refine iv_X9_437 (pc := 19) h hl hR dX9_sits_19 ⟨(Nat.le_of_ble_eq_true rfl), (Nat.le_of_ble_eq_true rfl), (Nat.le_of_ble_eq_true rfl), (Nat.le_of_ble_eq_true rfl)⟩ (Nat.le_of_ble_eq_true rfl) (by assumption) (by omega) (s_X8_sitsIn hMF hFM (by omega)) (fun v_19 n_19 M_19 hn_19 hp => ?_)
    obtain ⟨⟨rfl, rfl, rfl⟩, gr_19⟩ := hp
    refine iv_X9_62 (pc := 22) h hl hR dX9_sits_22 ⟨(Nat.le_of_ble_eq_true rfl), (Nat.le_of_ble_eq_true rfl), (Nat.le_of_ble_eq_true rfl), (Nat.le_of_ble_eq_true rfl)⟩ (Nat.le_of_ble_eq_true rfl) (by assumption) (by omega) (s_X9_done hX) (fun v_22 n_22 M_22 hn_22 hp => ?_)
    obtain ⟨⟨rfl, rfl⟩, hX, f9⟩ := hp
    have f1 := fr_tr f1 f9
    obtain ⟨hnm, hOm, hBm⟩ := id hX
    refine jr_goto (pc := 25) h 33 dX9_sits_25 (by decide) ?_
    refine jr_iret (pc := 33) h hRt dX9_sits_33 rfl (Nat.le_of_ble_eq_true rfl) (Nat.le_of_ble_eq_true rfl) ?_
    refine lfA9 ?_ hX f1
    unfold x_sits
    (repeat' split) <;> first | rfl | (exfalso; omega) | contradiction
set_option maxHeartbeats 2000000 in
set_option maxRecDepth 20000 in
theorem s_X9_sitsAll {l : Launch} {n : Nat} {M : jdM} {m f : Nat} {g : Nat → Int} {w : Int} {rd : Value} {B : Nat → Nat → Int} (hX : MX M n m g w (.ref f) rd B) {ct td bk si ld gf : Nat → Int} {A : Nat → Nat → Int} (hMF : MF M n f gf A) (hFM : FM ct td bk si ld gf A) (hsep : f + 30 < m ∨ m + 12 < f) : Ct l yX9_sitsAll cX9_sitsAll 3 (some .int) rX9_sitsAll [.ref m] n M (fun vv n' M' => (vv = some (jI (c_sw si 1 (c_rows ct td))) ∧ n = n' ∧ M = M') ∧ (0) ≤ (c_sw si 1 (c_rows ct td)) ∧ (c_sw si 1 (c_rows ct td)) ≤ 600) := by
  refine Ct_of [some (.ref m), none, none] (by decide) (Nat.le_of_ble_eq_true rfl) rfl (fun κ hl h hR hRt hmn hn0 => ?_)
  have h : Ok κ RX9 cX9_sitsAll 3 (some .int) := h
  obtain ⟨hnm, hOm, hBm⟩ := id hX
  have hOm : M m = jdO 9 (fX9 m _ _ (.ref f) rd) := hOm
  obtain ⟨hnf, hOf, hAf⟩ := id hMF
  obtain ⟨⟨e0, e1, e2, e3, e4⟩, ⟨k5, k6, k7, k8, k9, k10, k11, k12, k13, k14, k15⟩, ⟨a2, a3, a4, a5, a6, a7, a8, a9, a10, a11, a12⟩, ⟨hlim, hLI, hends, hrt⟩, ⟨hbk, hld⟩, hc0, hc1, hc2, hc5⟩ := id hFM
  have l2 := hlim 2 (by omega)
  have l3 := hlim 3 (by omega)
  have l4 := hlim 4 (by omega)
  have l5 := hlim 5 (by omega)
  have l6 := hlim 6 (by omega)
  have l7 := hlim 7 (by omega)
  have l8 := hlim 8 (by omega)
  have l9 := hlim 9 (by omega)
  have l10 := hlim 10 (by omega)
  have l11 := hlim 11 (by omega)
  have l12 := hlim 12 (by omega)
  rw [show (jtab 0).2.2 2 = 4 from rfl] at l2
  rw [show (jtab 0).2.2 3 = 6 from rfl] at l3
  rw [show (jtab 0).2.2 4 = 6 from rfl] at l4
  rw [show (jtab 0).2.2 5 = 2 from rfl] at l5
  rw [show (jtab 0).2.2 6 = 8 from rfl] at l6
  rw [show (jtab 0).2.2 7 = 5 from rfl] at l7
  rw [show (jtab 0).2.2 8 = 6 from rfl] at l8
  rw [show (jtab 0).2.2 9 = 3 from rfl] at l9
  rw [show (jtab 0).2.2 10 = 3 from rfl] at l10
  rw [show (jtab 0).2.2 11 = 4 from rfl] at l11
  rw [show (jtab 0).2.2 12 = 4 from rfl] at l12
  have hcr : 1 ≤ c_rows ct td ∧ c_rows ct td ≤ 40 := by
    have h9 := (hLI 0 0 (by omega) (by omega) (by omega)).1 rfl
    have e9 : c_rows ct td = c_get td 0 0 0 := by unfold c_rows; rw [if_neg (by omega)]
    omega
  have loop : ∀ (dq : Nat) (v i : Int), (1 ≤ i ∧ i ≤ c_rows ct td + 1) → (0 ≤ v ∧ v ≤ 15 * (i - 1)) → (v = sumZ (fun i => c_sit si (1 + i)) (i - 1).toNat) → (50 - i).toNat < dq → J κ 3 0 0 n 4 [some (.ref m), some (jI v), some (jI i)] [] M := by
    intro dq
    induction dq with
    | zero => intro v i hi hvb hv hd; omega
    | succ dq ih =>
      intro v i hi hvb hv hd
      refine jr_iload_n (pc := 4) h dX9_sitsAll_4 rfl ?_
      refine jr_aload_n (pc := 5) h dX9_sitsAll_5 rfl ?_
      refine gf_X9_425 (pc := 6) h dX9_sitsAll_6 (by assumption) (by omega) ?_
      refine gf_X9_205 (pc := 9) h dX9_sitsAll_9 (by assumption) (by omega) ?_
      refine jr_icmp_gt (pc := 12) h 32 dX9_sitsAll_12 (by decide) (by omega) (by omega) (fun c_12 => ?_) (fun c_12 => ?_)
      · skip
        refine jr_iload_n (pc := 32) h dX9_sitsAll_32 rfl ?_
        refine jr_iret (pc := 33) h hRt dX9_sitsAll_33 rfl (Nat.le_of_ble_eq_true rfl) (Nat.le_of_ble_eq_true rfl) ?_
        have es : c_sw si 1 (c_rows ct td) = v := by
          unfold c_sw
          rw [show (min (c_rows ct td) 40 - 1 + 1).toNat = (i - 1).toNat by omega, ← hv]
        rw [es]
        exact ⟨⟨rfl, rfl, rfl⟩, by omega⟩
      · skip
        refine jr_iload_n (pc := 15) h dX9_sitsAll_15 rfl ?_
        refine jr_aload_n (pc := 16) h dX9_sitsAll_16 rfl ?_
        refine gf_X9_425 (pc := 17) h dX9_sitsAll_17 (by assumption) (by omega) ?_
        refine jr_iload_n (pc := 20) h dX9_sitsAll_20 rfl ?_
        refine iv_X9_437 (pc := 21) h hl hR dX9_sitsAll_21 ⟨(Nat.le_of_ble_eq_true rfl), (Nat.le_of_ble_eq_true rfl), (Nat.le_of_ble_eq_true rfl), (Nat.le_of_ble_eq_true rfl)⟩ (Nat.le_of_ble_eq_true rfl) (by assumption) (by omega) (s_X8_sitsIn hMF hFM (by omega)) (fun v_21 n_21 M_21 hn_21 hp => ?_)
        obtain ⟨⟨rfl, rfl, rfl⟩, gr_21⟩ := hp
        refine jr_iadd (pc := 24) h dX9_sitsAll_24 ?_
        refine jr_istore_n (pc := 25) h [_, _, _] dX9_sitsAll_25 (by decide) rfl ?_
        refine jr_iinc (pc := 26) h [_, _, _] dX9_sitsAll_26 (by decide) rfl rfl ?_
        refine jr_goto (pc := 29) h 4 dX9_sitsAll_29 (by decide) ?_
        refine ih _ _ (by omega) (by omega) ?_ (by omega)
        rw [show i + 1 - 1 = i - 1 + 1 by omega, sumZ_s (by omega), ← hv, show 1 + (i - 1) = i by omega]
  refine jr_iconst (pc := 0) h dX9_sitsAll_0 ?_
  refine jr_istore_n (pc := 1) h [_, _, _] dX9_sitsAll_1 (by decide) rfl ?_
  refine jr_iconst (pc := 2) h dX9_sitsAll_2 ?_
  refine jr_istore_n (pc := 3) h [_, _, _] dX9_sitsAll_3 (by decide) rfl ?_
  exact loop _ _ _ (by omega) (by omega) rfl (Nat.lt_succ_self _)
set_option maxHeartbeats 2000000 in
set_option maxRecDepth 20000 in
theorem s_X9_all {l : Launch} {n : Nat} {M : jdM} {m : Nat} {g : Nat → Int} {w : Int} {fl rd : Value} {B : Nat → Nat → Int} (hX : MX M n m g w fl rd B) {ct td bk si ld : Nat → Int} (hFX : FX M n m fl ct td bk si ld)  : Ct l yX9_all cX9_all 1 (some .int) rX9_all [.ref m] n M (fun vv n' M' => (vv = some (jI (x_all ct td si).1) ∧ n = n') ∧ MX M' n m (rg g (x_all ct td si).2) w fl rd B ∧ fr (MXf m) M M') := by
  refine Ct_of [some (.ref m)] (by decide) (Nat.le_of_ble_eq_true rfl) rfl (fun κ hl h hR hRt hmn hn0 => ?_)
  have h : Ok κ RX9 cX9_all 1 (some .int) := h
  rcases hFX with ⟨rfl, hz⟩ | ⟨f, gf, A, rfl, hsep, hMF, hFM⟩
  · skip
    have hr0 := rows0 (td := td) hz
    have z2 := hz 2
    have z5 := hz 5
    obtain ⟨hnm, hOm, hBm⟩ := id hX
    have hOm : M m = jdO 9 (fX9 m _ _ .null rd) := hOm
    refine jr_aload_n (pc := 0) h dX9_all_0 rfl ?_
    refine jr_iconst (pc := 1) h dX9_all_1 ?_
    refine pf_X9_52 (pc := 2) h dX9_all_2 hOm (by omega) ?_
    refine jm_gen (fun M2 hM2 => ?_)
    rw [fX9_0] at hM2
    have hX := MX_o hX hM2
    have f9 : fr (MXf m) _ M2 := fr_up hM2 ⟨by omega, by omega⟩
    obtain ⟨hnm, hOm, hBm⟩ := id hX
    have f1 := f9
    refine jr_aload_n (pc := 5) h dX9_all_5 rfl ?_
    refine gf_X9_425 (pc := 6) h dX9_all_6 (by assumption) (by omega) ?_
    refine jr_ifnonnullN (pc := 9) h dX9_all_9 ?_
    refine jr_aload_n (pc := 12) h dX9_all_12 rfl ?_
    refine jr_iconst (pc := 13) h dX9_all_13 ?_
    refine iv_X9_58 (pc := 14) h hl hR dX9_all_14 ⟨(Nat.le_of_ble_eq_true rfl), (Nat.le_of_ble_eq_true rfl), (Nat.le_of_ble_eq_true rfl), (Nat.le_of_ble_eq_true rfl)⟩ (Nat.le_of_ble_eq_true rfl) (by assumption) (by omega) (s_X9_refused hX) (fun v_14 n_14 M_14 hn_14 hp => ?_)
    obtain ⟨⟨rfl, rfl⟩, hX, f9⟩ := hp
    have f1 := fr_tr f1 f9
    obtain ⟨hnm, hOm, hBm⟩ := id hX
    refine jr_goto (pc := 17) h 28 dX9_all_17 (by decide) ?_
    refine jr_iret (pc := 28) h hRt dX9_all_28 rfl (Nat.le_of_ble_eq_true rfl) (Nat.le_of_ble_eq_true rfl) ?_
    refine lfA9 ?_ hX f1
    unfold x_all
    (repeat' split) <;> first | rfl | (exfalso; omega) | contradiction
  · skip
    obtain ⟨hnm, hOm, hBm⟩ := id hX
    have hOm : M m = jdO 9 (fX9 m _ _ (.ref f) rd) := hOm
    refine jr_aload_n (pc := 0) h dX9_all_0 rfl ?_
    refine jr_iconst (pc := 1) h dX9_all_1 ?_
    refine pf_X9_52 (pc := 2) h dX9_all_2 hOm (by omega) ?_
    refine jm_gen (fun M2 hM2 => ?_)
    rw [fX9_0] at hM2
    have hX := MX_o hX hM2
    have f9 : fr (MXf m) _ M2 := fr_up hM2 ⟨by omega, by omega⟩
    obtain ⟨hnm, hOm, hBm⟩ := id hX
    have f1 := f9
    have hMF := MF_fr hMF f9 (Nat.le_refl _) (fun k h1 h2 q => by have := q.1; have := q.2; omega)
    obtain ⟨hnf, hOf, hAf⟩ := id hMF
    obtain ⟨⟨e0, e1, e2, e3, e4⟩, ⟨k5, k6, k7, k8, k9, k10, k11, k12, k13, k14, k15⟩, ⟨a2, a3, a4, a5, a6, a7, a8, a9, a10, a11, a12⟩, ⟨hlim, hLI, hends, hrt⟩, ⟨hbk, hld⟩, hc0, hc1, hc2, hc5⟩ := id hFM
    have l2 := hlim 2 (by omega)
    have l3 := hlim 3 (by omega)
    have l4 := hlim 4 (by omega)
    have l5 := hlim 5 (by omega)
    have l6 := hlim 6 (by omega)
    have l7 := hlim 7 (by omega)
    have l8 := hlim 8 (by omega)
    have l9 := hlim 9 (by omega)
    have l10 := hlim 10 (by omega)
    have l11 := hlim 11 (by omega)
    have l12 := hlim 12 (by omega)
    rw [show (jtab 0).2.2 2 = 4 from rfl] at l2
    rw [show (jtab 0).2.2 3 = 6 from rfl] at l3
    rw [show (jtab 0).2.2 4 = 6 from rfl] at l4
    rw [show (jtab 0).2.2 5 = 2 from rfl] at l5
    rw [show (jtab 0).2.2 6 = 8 from rfl] at l6
    rw [show (jtab 0).2.2 7 = 5 from rfl] at l7
    rw [show (jtab 0).2.2 8 = 6 from rfl] at l8
    rw [show (jtab 0).2.2 9 = 3 from rfl] at l9
    rw [show (jtab 0).2.2 10 = 3 from rfl] at l10
    rw [show (jtab 0).2.2 11 = 4 from rfl] at l11
    rw [show (jtab 0).2.2 12 = 4 from rfl] at l12
    have hcr : 1 ≤ c_rows ct td ∧ c_rows ct td ≤ 40 := by
      have h9 := (hLI 0 0 (by omega) (by omega) (by omega)).1 rfl
      have e9 : c_rows ct td = c_get td 0 0 0 := by unfold c_rows; rw [if_neg (by omega)]
      omega
    refine jr_aload_n (pc := 5) h dX9_all_5 rfl ?_
    refine gf_X9_425 (pc := 6) h dX9_all_6 (by assumption) (by omega) ?_
    refine jr_ifnonnull (pc := 9) h 20 dX9_all_9 (by decide) ?_
    refine jr_aload_n (pc := 20) h dX9_all_20 rfl ?_
    refine jr_aload_n (pc := 21) h dX9_all_21 rfl ?_
    refine iv_X9_440 (pc := 22) h hl hR dX9_all_22 ⟨(Nat.le_of_ble_eq_true rfl), (Nat.le_of_ble_eq_true rfl), (Nat.le_of_ble_eq_true rfl), (Nat.le_of_ble_eq_true rfl)⟩ (Nat.le_of_ble_eq_true rfl) (by assumption) (by omega) (s_X9_sitsAll hX hMF hFM hsep) (fun v_22 n_22 M_22 hn_22 hp => ?_)
    obtain ⟨⟨rfl, rfl, rfl⟩, gr_22⟩ := hp
    refine iv_X9_62 (pc := 25) h hl hR dX9_all_25 ⟨(Nat.le_of_ble_eq_true rfl), (Nat.le_of_ble_eq_true rfl), (Nat.le_of_ble_eq_true rfl), (Nat.le_of_ble_eq_true rfl)⟩ (Nat.le_of_ble_eq_true rfl) (by assumption) (by omega) (s_X9_done hX) (fun v_25 n_25 M_25 hn_25 hp => ?_)
    obtain ⟨⟨rfl, rfl⟩, hX, f9⟩ := hp
    have f1 := fr_tr f1 f9
    obtain ⟨hnm, hOm, hBm⟩ := id hX
    refine jr_iret (pc := 28) h hRt dX9_all_28 rfl (Nat.le_of_ble_eq_true rfl) (Nat.le_of_ble_eq_true rfl) ?_
    refine lfA9 ?_ hX f1
    unfold x_all
    (repeat' split) <;> first | rfl | (exfalso; omega) | contradiction
set_option maxHeartbeats 1000000 in
set_option maxRecDepth 20000 in
theorem s_X9_weightOf {l : Launch} {n : Nat} {M : jdM} {m f : Nat} {g : Nat → Int} {w : Int} {rd : Value} {B : Nat → Nat → Int} (hX : MX M n m g w (.ref f) rd B) {ct td bk si ld gf : Nat → Int} {A : Nat → Nat → Int} (hMF : MF M n f gf A) (hFM : FM ct td bk si ld gf A) (hsep : f + 30 < m ∨ m + 12 < f) {x y : Int} (hx : 1 ≤ x ∧ x ≤ 40) (hy : -2147483648 ≤ y ∧ y < 2147483648) : Ct l yX9_weightOf cX9_weightOf 5 (some .int) rX9_weightOf [.ref m, jI x, jI y] n M (fun vv n' M' => (vv = some (jI (c_win td (c_blk bk x) y)) ∧ n = n' ∧ M = M') ∧ (0) ≤ (c_win td (c_blk bk x) y) ∧ (c_win td (c_blk bk x) y) ≤ 9) := by
  refine Ct_of [some (.ref m), some (jI x), some (jI y), none, none] (by decide) (Nat.le_of_ble_eq_true rfl) rfl (fun κ hl h hR hRt hmn hn0 => ?_)
  have h : Ok κ RX9 cX9_weightOf 5 (some .int) := h
  obtain ⟨hnm, hOm, hBm⟩ := id hX
  have hOm : M m = jdO 9 (fX9 m _ _ (.ref f) rd) := hOm
  obtain ⟨hnf, hOf, hAf⟩ := id hMF
  obtain ⟨⟨e0, e1, e2, e3, e4⟩, ⟨k5, k6, k7, k8, k9, k10, k11, k12, k13, k14, k15⟩, ⟨a2, a3, a4, a5, a6, a7, a8, a9, a10, a11, a12⟩, ⟨hlim, hLI, hends, hrt⟩, ⟨hbk, hld⟩, hc0, hc1, hc2, hc5⟩ := id hFM
  have l2 := hlim 2 (by omega)
  have l3 := hlim 3 (by omega)
  have l4 := hlim 4 (by omega)
  have l5 := hlim 5 (by omega)
  have l6 := hlim 6 (by omega)
  have l7 := hlim 7 (by omega)
  have l8 := hlim 8 (by omega)
  have l9 := hlim 9 (by omega)
  have l10 := hlim 10 (by omega)
  have l11 := hlim 11 (by omega)
  have l12 := hlim 12 (by omega)
  rw [show (jtab 0).2.2 2 = 4 from rfl] at l2
  rw [show (jtab 0).2.2 3 = 6 from rfl] at l3
  rw [show (jtab 0).2.2 4 = 6 from rfl] at l4
  rw [show (jtab 0).2.2 5 = 2 from rfl] at l5
  rw [show (jtab 0).2.2 6 = 8 from rfl] at l6
  rw [show (jtab 0).2.2 7 = 5 from rfl] at l7
  rw [show (jtab 0).2.2 8 = 6 from rfl] at l8
  rw [show (jtab 0).2.2 9 = 3 from rfl] at l9
  rw [show (jtab 0).2.2 10 = 3 from rfl] at l10
  rw [show (jtab 0).2.2 11 = 4 from rfl] at l11
  rw [show (jtab 0).2.2 12 = 4 from rfl] at l12
  have hblr : -1 ≤ c_blk bk x ∧ c_blk bk x < ct 7 := by
    rw [c_blk_l ⟨hbk, hld⟩ hx]
    have := lastZ_r (fun i => c_get td 7 i 0 ≤ x ∧ x ≤ c_get td 7 i 1) (ct 7).toNat
    omega
  have loop : ∀ (dq : Nat) (i : Int), (0 ≤ i ∧ i ≤ 5) → (0 ≤ c_blk bk x → c_win td (c_blk bk x) y = firstW (fun i => c_get td 7 (c_blk bk x) (4 + 2 * i)) (fun i => c_get td 7 (c_blk bk x) (4 + 2 * i + 1)) y i ((min (c_get td 7 (c_blk bk x) 3) 4) - i).toNat) → (6 - i).toNat < dq → J κ 5 0 0 n 12 [some (.ref m), some (jI x), some (jI y), some (jI (c_blk bk x)), some (jI i)] [] M := by
    intro dq
    induction dq with
    | zero => intro i hi hv hd; omega
    | succ dq ih =>
      intro i hi hv hd
      have hA15 : M (f + 15) = jdA 5 (A 15) := hAf 15 (by omega) (by omega)
      have hA16 : M (f + 16) = jdA 20 (A 16) := hAf 16 (by omega) (by omega)
      have hA17 : M (f + 17) = jdA 20 (A 17) := hAf 17 (by omega) (by omega)
      refine jr_iload_n (pc := 12) h dX9_weightOf_12 rfl ?_
      refine jr_iconst (pc := 13) h dX9_weightOf_13 ?_
      refine jr_icmp_eq (pc := 14) h 70 dX9_weightOf_14 (by decide) (by omega) (by omega) (fun c_14 => ?_) (fun c_14 => ?_)
      · skip
        refine jr_iconst (pc := 70) h dX9_weightOf_70 ?_
        refine jr_iret (pc := 71) h hRt dX9_weightOf_71 rfl (Nat.le_of_ble_eq_true rfl) (Nat.le_of_ble_eq_true rfl) ?_
        have e9 : c_win td (c_blk bk x) y = 0 := by
          by_cases q : c_blk bk x = -1
          · unfold c_win
            have e8 : c_get td 7 (c_blk bk x) 3 = 0 := by
              unfold c_get
              rw [if_neg (by omega)]
            rw [e8]
            rfl
          · have bl := hblr
            have g73 := (a7 (c_blk bk x).toNat (by omega)).2.2.2.1
            rw [show (((c_blk bk x).toNat : Nat) : Int) = c_blk bk x by omega] at g73
            have w2 := ((hLI 7 (c_blk bk x) (by omega) (by omega) (by omega)).2.2.2.2.2.2.2.1 rfl).2.2.2.2.2.2.1
            rw [hv (by omega), firstW_0 (by omega)]
        rw [e9]
        exact ⟨⟨rfl, rfl, rfl⟩, by omega⟩
      · skip
        have bl := hblr
        have g7 := a7 (c_blk bk x).toNat (by omega)
        rw [show (((c_blk bk x).toNat : Nat) : Int) = c_blk bk x by omega] at g7
        obtain ⟨-, -, -, g73, g7j⟩ := g7
        have hl9 := (hLI 7 (c_blk bk x) (by omega) (by omega) (by omega)).2.2.2.2.2.2.2.1 rfl
        obtain ⟨-, -, -, -, -, w1, w2, w3, -⟩ := hl9
        have w3i := w3 i
        refine jr_iload (pc := 17) h dX9_weightOf_17 rfl ?_
        refine jr_aload_n (pc := 19) h dX9_weightOf_19 rfl ?_
        refine gf_X9_425 (pc := 20) h dX9_weightOf_20 (by assumption) (by omega) ?_
        refine gf_X9_362 (pc := 23) h dX9_weightOf_23 (by assumption) (by omega) ?_
        refine jr_iload_n (pc := 26) h dX9_weightOf_26 rfl ?_
        refine jr_iald (pc := 27) h dX9_weightOf_27 (by assumption) (by omega) (by omega) ?_
        refine jr_icmp_ge (pc := 28) h 70 dX9_weightOf_28 (by decide) (by omega) (by omega) (fun c_28 => ?_) (fun c_28 => ?_)
        · skip
          refine jr_iconst (pc := 70) h dX9_weightOf_70 ?_
          refine jr_iret (pc := 71) h hRt dX9_weightOf_71 rfl (Nat.le_of_ble_eq_true rfl) (Nat.le_of_ble_eq_true rfl) ?_
          have e9 : c_win td (c_blk bk x) y = 0 := by
            by_cases q : c_blk bk x = -1
            · unfold c_win
              have e8 : c_get td 7 (c_blk bk x) 3 = 0 := by
                unfold c_get
                rw [if_neg (by omega)]
              rw [e8]
              rfl
            · have bl := hblr
              have g73 := (a7 (c_blk bk x).toNat (by omega)).2.2.2.1
              rw [show (((c_blk bk x).toNat : Nat) : Int) = c_blk bk x by omega] at g73
              have w2 := ((hLI 7 (c_blk bk x) (by omega) (by omega) (by omega)).2.2.2.2.2.2.2.1 rfl).2.2.2.2.2.2.1
              rw [hv (by omega), firstW_0 (by omega)]
          rw [e9]
          exact ⟨⟨rfl, rfl, rfl⟩, by omega⟩
        · skip
          have g7i := g7j i.toNat (by omega)
          rw [show ((i.toNat : Nat) : Int) = i by omega, show 4 * (c_blk bk x).toNat + i.toNat = (4 * c_blk bk x + i).toNat by omega] at g7i
          have rw0 := c_getr hrt 7 (c_blk bk x) (4 + 2 * i)
          have rw1 := c_getr hrt 7 (c_blk bk x) (4 + 2 * i + 1)
          refine jr_aload_n (pc := 31) h dX9_weightOf_31 rfl ?_
          refine gf_X9_425 (pc := 32) h dX9_weightOf_32 (by assumption) (by omega) ?_
          refine gf_X9_348 (pc := 35) h dX9_weightOf_35 (by assumption) (by omega) ?_
          refine jr_iconst (pc := 38) h dX9_weightOf_38 ?_
          refine jr_iload_n (pc := 39) h dX9_weightOf_39 rfl ?_
          refine jr_imul (pc := 40) h dX9_weightOf_40 ?_
          refine jr_iload (pc := 41) h dX9_weightOf_41 rfl ?_
          refine jr_iadd (pc := 43) h dX9_weightOf_43 ?_
          refine jr_iald (pc := 44) h dX9_weightOf_44 (by assumption) (by omega) (by omega) ?_
          refine jr_iload_n (pc := 45) h dX9_weightOf_45 rfl ?_
          refine jr_icmp_ne (pc := 46) h 64 dX9_weightOf_46 (by decide) (by omega) (by omega) (fun c_46 => ?_) (fun c_46 => ?_)
          · skip
            refine jr_iinc (pc := 64) h [_, _, _, _, _] dX9_weightOf_64 (by decide) rfl rfl ?_
            refine jr_goto (pc := 67) h 12 dX9_weightOf_67 (by decide) ?_
            refine ih _ (by omega) ?_ (by omega)
            intro hb
            rw [hv hb, firstW_f (by omega) (by show ¬ c_get td 7 (c_blk bk x) (4 + 2 * i) = y; omega)]
          · skip
            refine jr_aload_n (pc := 49) h dX9_weightOf_49 rfl ?_
            refine gf_X9_425 (pc := 50) h dX9_weightOf_50 (by assumption) (by omega) ?_
            refine gf_X9_351 (pc := 53) h dX9_weightOf_53 (by assumption) (by omega) ?_
            refine jr_iconst (pc := 56) h dX9_weightOf_56 ?_
            refine jr_iload_n (pc := 57) h dX9_weightOf_57 rfl ?_
            refine jr_imul (pc := 58) h dX9_weightOf_58 ?_
            refine jr_iload (pc := 59) h dX9_weightOf_59 rfl ?_
            refine jr_iadd (pc := 61) h dX9_weightOf_61 ?_
            refine jr_iald (pc := 62) h dX9_weightOf_62 (by assumption) (by omega) (by omega) ?_
            refine jr_iret (pc := 63) h hRt dX9_weightOf_63 rfl (Nat.le_of_ble_eq_true rfl) (Nat.le_of_ble_eq_true rfl) ?_
            have e9 : c_win td (c_blk bk x) y = c_get td 7 (c_blk bk x) (4 + 2 * i + 1) := by
              rw [hv (by omega), firstW_t (by omega) (by show c_get td 7 (c_blk bk x) (4 + 2 * i) = y; omega)]
            rw [e9]
            exact ⟨⟨ji_c (by omega), rfl, rfl⟩, by omega⟩
  refine jr_aload_n (pc := 0) h dX9_weightOf_0 rfl ?_
  refine gf_X9_425 (pc := 1) h dX9_weightOf_1 (by assumption) (by omega) ?_
  refine jr_iload_n (pc := 4) h dX9_weightOf_4 rfl ?_
  refine iv_X9_443 (pc := 5) h hl hR dX9_weightOf_5 ⟨(Nat.le_of_ble_eq_true rfl), (Nat.le_of_ble_eq_true rfl), (Nat.le_of_ble_eq_true rfl), (Nat.le_of_ble_eq_true rfl)⟩ (Nat.le_of_ble_eq_true rfl) (by assumption) (by omega) (s_X8_blockOf hMF hFM hx) (fun v_5 n_5 M_5 hn_5 hp => ?_)
  obtain ⟨⟨rfl, rfl, rfl⟩, gr_5⟩ := hp
  refine jr_istore_n (pc := 8) h [_, _, _, _, _] dX9_weightOf_8 (by decide) rfl ?_
  refine jr_iconst (pc := 9) h dX9_weightOf_9 ?_
  refine jr_istore (pc := 10) h [_, _, _, _, _] dX9_weightOf_10 (by decide) rfl ?_
  exact loop _ _ (by omega) (fun hb => by unfold c_win; rw [show (min (c_get td 7 (c_blk bk x) 3) 4 - 0).toNat = (min (c_get td 7 (c_blk bk x) 3) 4).toNat by omega]) (Nat.lt_succ_self _)
set_option maxHeartbeats 1000000 in
set_option maxRecDepth 20000 in
theorem s_X9_likes {l : Launch} {n : Nat} {M : jdM} {m : Nat} {g : Nat → Int} {w : Int} {fl rd : Value} {B : Nat → Nat → Int} (hX : MX M n m g w fl rd B) {ct td bk si ld : Nat → Int} (hFX : FX M n m fl ct td bk si ld) {x y : Int} (hx : -2147483648 ≤ x ∧ x < 2147483648) (hy : -2147483648 ≤ y ∧ y < 2147483648)  : Ct l yX9_likes cX9_likes 3 (some .int) rX9_likes [.ref m, jI x, jI y] n M (fun vv n' M' => (vv = some (jI (x_likes ct td bk x y).1) ∧ n = n') ∧ MX M' n m (rg g (x_likes ct td bk x y).2) w fl rd B ∧ fr (MXf m) M M') := by
  refine Ct_of [some (.ref m), some (jI x), some (jI y)] (by decide) (Nat.le_of_ble_eq_true rfl) rfl (fun κ hl h hR hRt hmn hn0 => ?_)
  have h : Ok κ RX9 cX9_likes 3 (some .int) := h
  obtain ⟨hnm, hOm, hBm⟩ := id hX
  have hOm : M m = jdO 9 (fX9 m _ _ fl rd) := hOm
  refine jr_aload_n (pc := 0) h dX9_likes_0 rfl ?_
  refine jr_iconst (pc := 1) h dX9_likes_1 ?_
  refine pf_X9_52 (pc := 2) h dX9_likes_2 hOm (by omega) ?_
  refine jm_gen (fun M2 hM2 => ?_)
  rw [fX9_0] at hM2
  have hX := MX_o hX hM2
  have f9 : fr (MXf m) _ M2 := fr_up hM2 ⟨by omega, by omega⟩
  obtain ⟨hnm, hOm, hBm⟩ := id hX
  have f1 := f9
  have hFX := FX_fr hFX f9
  refine jr_aload_n (pc := 5) h dX9_likes_5 rfl ?_
  refine jr_iload_n (pc := 6) h dX9_likes_6 rfl ?_
  refine iv_X9_434 (pc := 7) h hl hR dX9_likes_7 ⟨(Nat.le_of_ble_eq_true rfl), (Nat.le_of_ble_eq_true rfl), (Nat.le_of_ble_eq_true rfl), (Nat.le_of_ble_eq_true rfl)⟩ (Nat.le_of_ble_eq_true rfl) (by assumption) (by omega) (s_X9_isRow hX hFX (by omega)) (fun v_7 n_7 M_7 hn_7 hp => ?_)
  obtain ⟨⟨rfl, rfl, rfl⟩, gr_7⟩ := hp
  refine jr_if_eq (pc := 10) h 34 dX9_likes_10 (by decide) (by omega) (fun c_10 => ?_) (fun c_10 => ?_)
  · first | have d_10 := bz_0.mp c_10 | have d_10 := bz_1.mp c_10 | skip
    refine jr_aload_n (pc := 34) h dX9_likes_34 rfl ?_
    refine jr_iconst (pc := 35) h dX9_likes_35 ?_
    refine iv_X9_58 (pc := 36) h hl hR dX9_likes_36 ⟨(Nat.le_of_ble_eq_true rfl), (Nat.le_of_ble_eq_true rfl), (Nat.le_of_ble_eq_true rfl), (Nat.le_of_ble_eq_true rfl)⟩ (Nat.le_of_ble_eq_true rfl) (by assumption) (by omega) (s_X9_refused hX) (fun v_36 n_36 M_36 hn_36 hp => ?_)
    obtain ⟨⟨rfl, rfl⟩, hX, f9⟩ := hp
    have f1 := fr_tr f1 f9
    obtain ⟨hnm, hOm, hBm⟩ := id hX
    refine jr_iret (pc := 39) h hRt dX9_likes_39 rfl (Nat.le_of_ble_eq_true rfl) (Nat.le_of_ble_eq_true rfl) ?_
    refine lfA9 ?_ hX f1
    unfold x_likes
    (repeat' split) <;> first | rfl | (exfalso; omega) | contradiction
  · first | have d_10 := bz_0.mp c_10 | have d_10 := bz_1.mp c_10 | skip
    refine jr_aload_n (pc := 13) h dX9_likes_13 rfl ?_
    refine jr_iload_n (pc := 14) h dX9_likes_14 rfl ?_
    refine iv_X9_446 (pc := 15) h hl hR dX9_likes_15 ⟨(Nat.le_of_ble_eq_true rfl), (Nat.le_of_ble_eq_true rfl), (Nat.le_of_ble_eq_true rfl), (Nat.le_of_ble_eq_true rfl)⟩ (Nat.le_of_ble_eq_true rfl) (by assumption) (by omega) (s_X9_isKind hX hFX (by omega)) (fun v_15 n_15 M_15 hn_15 hp => ?_)
    obtain ⟨⟨rfl, rfl, rfl⟩, gr_15⟩ := hp
    refine jr_if_eq (pc := 18) h 34 dX9_likes_18 (by decide) (by omega) (fun c_18 => ?_) (fun c_18 => ?_)
    · first | have d_18 := bz_0.mp c_18 | have d_18 := bz_1.mp c_18 | skip
      refine jr_aload_n (pc := 34) h dX9_likes_34 rfl ?_
      refine jr_iconst (pc := 35) h dX9_likes_35 ?_
      refine iv_X9_58 (pc := 36) h hl hR dX9_likes_36 ⟨(Nat.le_of_ble_eq_true rfl), (Nat.le_of_ble_eq_true rfl), (Nat.le_of_ble_eq_true rfl), (Nat.le_of_ble_eq_true rfl)⟩ (Nat.le_of_ble_eq_true rfl) (by assumption) (by omega) (s_X9_refused hX) (fun v_36 n_36 M_36 hn_36 hp => ?_)
      obtain ⟨⟨rfl, rfl⟩, hX, f9⟩ := hp
      have f1 := fr_tr f1 f9
      obtain ⟨hnm, hOm, hBm⟩ := id hX
      refine jr_iret (pc := 39) h hRt dX9_likes_39 rfl (Nat.le_of_ble_eq_true rfl) (Nat.le_of_ble_eq_true rfl) ?_
      refine lfA9 ?_ hX f1
      unfold x_likes
      (repeat' split) <;> first | rfl | (exfalso; omega) | contradiction
    · first | have d_18 := bz_0.mp c_18 | have d_18 := bz_1.mp c_18 | skip
      have hr00 := fun (hz : ∀ j, ct j = 0) => rows0 (td := td) hz
      rcases hFX with ⟨rfl, hz⟩ | ⟨f, gf, A, rfl, hsep, hMF, hFM⟩
      · exfalso
        have z2 := hz 2
        have z5 := hz 5
        have zr := hr00 hz
        omega
      obtain ⟨hnf, hOf, hAf⟩ := id hMF
      obtain ⟨⟨e0, e1, e2, e3, e4⟩, ⟨k5, k6, k7, k8, k9, k10, k11, k12, k13, k14, k15⟩, ⟨a2, a3, a4, a5, a6, a7, a8, a9, a10, a11, a12⟩, ⟨hlim, hLI, hends, hrt⟩, ⟨hbk, hld⟩, hc0, hc1, hc2, hc5⟩ := id hFM
      have l2 := hlim 2 (by omega)
      have l3 := hlim 3 (by omega)
      have l4 := hlim 4 (by omega)
      have l5 := hlim 5 (by omega)
      have l6 := hlim 6 (by omega)
      have l7 := hlim 7 (by omega)
      have l8 := hlim 8 (by omega)
      have l9 := hlim 9 (by omega)
      have l10 := hlim 10 (by omega)
      have l11 := hlim 11 (by omega)
      have l12 := hlim 12 (by omega)
      rw [show (jtab 0).2.2 2 = 4 from rfl] at l2
      rw [show (jtab 0).2.2 3 = 6 from rfl] at l3
      rw [show (jtab 0).2.2 4 = 6 from rfl] at l4
      rw [show (jtab 0).2.2 5 = 2 from rfl] at l5
      rw [show (jtab 0).2.2 6 = 8 from rfl] at l6
      rw [show (jtab 0).2.2 7 = 5 from rfl] at l7
      rw [show (jtab 0).2.2 8 = 6 from rfl] at l8
      rw [show (jtab 0).2.2 9 = 3 from rfl] at l9
      rw [show (jtab 0).2.2 10 = 3 from rfl] at l10
      rw [show (jtab 0).2.2 11 = 4 from rfl] at l11
      rw [show (jtab 0).2.2 12 = 4 from rfl] at l12
      have hcr : 1 ≤ c_rows ct td ∧ c_rows ct td ≤ 40 := by
        have h9 := (hLI 0 0 (by omega) (by omega) (by omega)).1 rfl
        have e9 : c_rows ct td = c_get td 0 0 0 := by unfold c_rows; rw [if_neg (by omega)]
        omega
      refine jr_aload_n (pc := 21) h dX9_likes_21 rfl ?_
      refine jr_aload_n (pc := 22) h dX9_likes_22 rfl ?_
      refine jr_iload_n (pc := 23) h dX9_likes_23 rfl ?_
      refine jr_iload_n (pc := 24) h dX9_likes_24 rfl ?_
      refine iv_X9_449 (pc := 25) h hl hR dX9_likes_25 ⟨(Nat.le_of_ble_eq_true rfl), (Nat.le_of_ble_eq_true rfl), (Nat.le_of_ble_eq_true rfl), (Nat.le_of_ble_eq_true rfl)⟩ (Nat.le_of_ble_eq_true rfl) (by assumption) (by omega) (s_X9_weightOf hX hMF hFM hsep (by omega) (by omega)) (fun v_25 n_25 M_25 hn_25 hp => ?_)
      obtain ⟨⟨rfl, rfl, rfl⟩, gr_25⟩ := hp
      refine iv_X9_62 (pc := 28) h hl hR dX9_likes_28 ⟨(Nat.le_of_ble_eq_true rfl), (Nat.le_of_ble_eq_true rfl), (Nat.le_of_ble_eq_true rfl), (Nat.le_of_ble_eq_true rfl)⟩ (Nat.le_of_ble_eq_true rfl) (by assumption) (by omega) (s_X9_done hX) (fun v_28 n_28 M_28 hn_28 hp => ?_)
      obtain ⟨⟨rfl, rfl⟩, hX, f9⟩ := hp
      have f1 := fr_tr f1 f9
      obtain ⟨hnm, hOm, hBm⟩ := id hX
      refine jr_goto (pc := 31) h 39 dX9_likes_31 (by decide) ?_
      refine jr_iret (pc := 39) h hRt dX9_likes_39 rfl (Nat.le_of_ble_eq_true rfl) (Nat.le_of_ble_eq_true rfl) ?_
      refine lfA9 ?_ hX f1
      unfold x_likes
      (repeat' split) <;> first | rfl | (exfalso; omega) | contradiction
set_option maxHeartbeats 1000000 in
set_option maxRecDepth 20000 in
theorem s_X9_loaded {l : Launch} {n : Nat} {M : jdM} {m : Nat} {g : Nat → Int} {w : Int} {fl rd : Value} {B : Nat → Nat → Int} (hX : MX M n m g w fl rd B) {ct td bk si ld : Nat → Int} (hFX : FX M n m fl ct td bk si ld) {x y : Int} (hx : -2147483648 ≤ x ∧ x < 2147483648) (hy : -2147483648 ≤ y ∧ y < 2147483648)  : Ct l yX9_loaded cX9_loaded 3 (some .int) rX9_loaded [.ref m, jI x, jI y] n M (fun vv n' M' => (vv = some (jI (x_loaded ct ld x y).1) ∧ n = n') ∧ MX M' n m (rg g (x_loaded ct ld x y).2) w fl rd B ∧ fr (MXf m) M M') := by
  refine Ct_of [some (.ref m), some (jI x), some (jI y)] (by decide) (Nat.le_of_ble_eq_true rfl) rfl (fun κ hl h hR hRt hmn hn0 => ?_)
  have h : Ok κ RX9 cX9_loaded 3 (some .int) := h
  obtain ⟨hnm, hOm, hBm⟩ := id hX
  have hOm : M m = jdO 9 (fX9 m _ _ fl rd) := hOm
  refine jr_aload_n (pc := 0) h dX9_loaded_0 rfl ?_
  refine jr_iconst (pc := 1) h dX9_loaded_1 ?_
  refine pf_X9_52 (pc := 2) h dX9_loaded_2 hOm (by omega) ?_
  refine jm_gen (fun M2 hM2 => ?_)
  rw [fX9_0] at hM2
  have hX := MX_o hX hM2
  have f9 : fr (MXf m) _ M2 := fr_up hM2 ⟨by omega, by omega⟩
  obtain ⟨hnm, hOm, hBm⟩ := id hX
  have f1 := f9
  have hFX := FX_fr hFX f9
  refine jr_aload_n (pc := 5) h dX9_loaded_5 rfl ?_
  refine jr_iload_n (pc := 6) h dX9_loaded_6 rfl ?_
  refine iv_X9_452 (pc := 7) h hl hR dX9_loaded_7 ⟨(Nat.le_of_ble_eq_true rfl), (Nat.le_of_ble_eq_true rfl), (Nat.le_of_ble_eq_true rfl), (Nat.le_of_ble_eq_true rfl)⟩ (Nat.le_of_ble_eq_true rfl) (by assumption) (by omega) (s_X9_isTrolley hX hFX (by omega)) (fun v_7 n_7 M_7 hn_7 hp => ?_)
  obtain ⟨⟨rfl, rfl, rfl⟩, gr_7⟩ := hp
  refine jr_if_eq (pc := 10) h 41 dX9_loaded_10 (by decide) (by omega) (fun c_10 => ?_) (fun c_10 => ?_)
  · first | have d_10 := bz_0.mp c_10 | have d_10 := bz_1.mp c_10 | skip
    refine jr_aload_n (pc := 41) h dX9_loaded_41 rfl ?_
    refine jr_iconst (pc := 42) h dX9_loaded_42 ?_
    refine iv_X9_58 (pc := 43) h hl hR dX9_loaded_43 ⟨(Nat.le_of_ble_eq_true rfl), (Nat.le_of_ble_eq_true rfl), (Nat.le_of_ble_eq_true rfl), (Nat.le_of_ble_eq_true rfl)⟩ (Nat.le_of_ble_eq_true rfl) (by assumption) (by omega) (s_X9_refused hX) (fun v_43 n_43 M_43 hn_43 hp => ?_)
    obtain ⟨⟨rfl, rfl⟩, hX, f9⟩ := hp
    have f1 := fr_tr f1 f9
    obtain ⟨hnm, hOm, hBm⟩ := id hX
    refine jr_iret (pc := 46) h hRt dX9_loaded_46 rfl (Nat.le_of_ble_eq_true rfl) (Nat.le_of_ble_eq_true rfl) ?_
    refine lfA9 ?_ hX f1
    unfold x_loaded
    (repeat' split) <;> first | rfl | (exfalso; omega) | contradiction
  · first | have d_10 := bz_0.mp c_10 | have d_10 := bz_1.mp c_10 | skip
    refine jr_aload_n (pc := 13) h dX9_loaded_13 rfl ?_
    refine jr_iload_n (pc := 14) h dX9_loaded_14 rfl ?_
    refine iv_X9_446 (pc := 15) h hl hR dX9_loaded_15 ⟨(Nat.le_of_ble_eq_true rfl), (Nat.le_of_ble_eq_true rfl), (Nat.le_of_ble_eq_true rfl), (Nat.le_of_ble_eq_true rfl)⟩ (Nat.le_of_ble_eq_true rfl) (by assumption) (by omega) (s_X9_isKind hX hFX (by omega)) (fun v_15 n_15 M_15 hn_15 hp => ?_)
    obtain ⟨⟨rfl, rfl, rfl⟩, gr_15⟩ := hp
    refine jr_if_eq (pc := 18) h 41 dX9_loaded_18 (by decide) (by omega) (fun c_18 => ?_) (fun c_18 => ?_)
    · first | have d_18 := bz_0.mp c_18 | have d_18 := bz_1.mp c_18 | skip
      refine jr_aload_n (pc := 41) h dX9_loaded_41 rfl ?_
      refine jr_iconst (pc := 42) h dX9_loaded_42 ?_
      refine iv_X9_58 (pc := 43) h hl hR dX9_loaded_43 ⟨(Nat.le_of_ble_eq_true rfl), (Nat.le_of_ble_eq_true rfl), (Nat.le_of_ble_eq_true rfl), (Nat.le_of_ble_eq_true rfl)⟩ (Nat.le_of_ble_eq_true rfl) (by assumption) (by omega) (s_X9_refused hX) (fun v_43 n_43 M_43 hn_43 hp => ?_)
      obtain ⟨⟨rfl, rfl⟩, hX, f9⟩ := hp
      have f1 := fr_tr f1 f9
      obtain ⟨hnm, hOm, hBm⟩ := id hX
      refine jr_iret (pc := 46) h hRt dX9_loaded_46 rfl (Nat.le_of_ble_eq_true rfl) (Nat.le_of_ble_eq_true rfl) ?_
      refine lfA9 ?_ hX f1
      unfold x_loaded
      (repeat' split) <;> first | rfl | (exfalso; omega) | contradiction
    · first | have d_18 := bz_0.mp c_18 | have d_18 := bz_1.mp c_18 | skip
      have hr00 := fun (hz : ∀ j, ct j = 0) => rows0 (td := td) hz
      rcases hFX with ⟨rfl, hz⟩ | ⟨f, gf, A, rfl, hsep, hMF, hFM⟩
      · exfalso
        have z2 := hz 2
        have z5 := hz 5
        have zr := hr00 hz
        omega
      obtain ⟨hnf, hOf, hAf⟩ := id hMF
      obtain ⟨⟨e0, e1, e2, e3, e4⟩, ⟨k5, k6, k7, k8, k9, k10, k11, k12, k13, k14, k15⟩, ⟨a2, a3, a4, a5, a6, a7, a8, a9, a10, a11, a12⟩, ⟨hlim, hLI, hends, hrt⟩, ⟨hbk, hld⟩, hc0, hc1, hc2, hc5⟩ := id hFM
      have l2 := hlim 2 (by omega)
      have l3 := hlim 3 (by omega)
      have l4 := hlim 4 (by omega)
      have l5 := hlim 5 (by omega)
      have l6 := hlim 6 (by omega)
      have l7 := hlim 7 (by omega)
      have l8 := hlim 8 (by omega)
      have l9 := hlim 9 (by omega)
      have l10 := hlim 10 (by omega)
      have l11 := hlim 11 (by omega)
      have l12 := hlim 12 (by omega)
      rw [show (jtab 0).2.2 2 = 4 from rfl] at l2
      rw [show (jtab 0).2.2 3 = 6 from rfl] at l3
      rw [show (jtab 0).2.2 4 = 6 from rfl] at l4
      rw [show (jtab 0).2.2 5 = 2 from rfl] at l5
      rw [show (jtab 0).2.2 6 = 8 from rfl] at l6
      rw [show (jtab 0).2.2 7 = 5 from rfl] at l7
      rw [show (jtab 0).2.2 8 = 6 from rfl] at l8
      rw [show (jtab 0).2.2 9 = 3 from rfl] at l9
      rw [show (jtab 0).2.2 10 = 3 from rfl] at l10
      rw [show (jtab 0).2.2 11 = 4 from rfl] at l11
      rw [show (jtab 0).2.2 12 = 4 from rfl] at l12
      have hcr : 1 ≤ c_rows ct td ∧ c_rows ct td ≤ 40 := by
        have h9 := (hLI 0 0 (by omega) (by omega) (by omega)).1 rfl
        have e9 : c_rows ct td = c_get td 0 0 0 := by unfold c_rows; rw [if_neg (by omega)]
        omega
      have hA11 : M2 (f + 11) = jdA 8 (A 11) := hAf 11 (by omega) (by omega)
      have g6 := a6 (4 * x + y).toNat (by omega)
      have eld : A 11 (4 * x + y).toNat = c_load ld x y := by
        unfold c_load
        rw [if_pos (by omega), show (x * 4 + y).toNat = (4 * x + y).toNat by omega, hld _ (by omega)]
        exact g6
      refine jr_aload_n (pc := 21) h dX9_loaded_21 rfl ?_
      refine jr_aload_n (pc := 22) h dX9_loaded_22 rfl ?_
      refine gf_X9_425 (pc := 23) h dX9_loaded_23 (by assumption) (by omega) ?_
      refine gf_X9_337 (pc := 26) h dX9_loaded_26 (by assumption) (by omega) ?_
      refine jr_iconst (pc := 29) h dX9_loaded_29 ?_
      refine jr_iload_n (pc := 30) h dX9_loaded_30 rfl ?_
      refine jr_imul (pc := 31) h dX9_loaded_31 ?_
      refine jr_iload_n (pc := 32) h dX9_loaded_32 rfl ?_
      refine jr_iadd (pc := 33) h dX9_loaded_33 ?_
      refine jr_iald (pc := 34) h dX9_loaded_34 (by assumption) (by omega) (by omega) ?_
      rw [eld]
      refine iv_X9_62 (pc := 35) h hl hR dX9_loaded_35 ⟨(Nat.le_of_ble_eq_true rfl), (Nat.le_of_ble_eq_true rfl), (Nat.le_of_ble_eq_true rfl), (Nat.le_of_ble_eq_true rfl)⟩ (Nat.le_of_ble_eq_true rfl) (by assumption) (by omega) (s_X9_done hX) (fun v_35 n_35 M_35 hn_35 hp => ?_)
      obtain ⟨⟨rfl, rfl⟩, hX, f9⟩ := hp
      have f1 := fr_tr f1 f9
      obtain ⟨hnm, hOm, hBm⟩ := id hX
      refine jr_goto (pc := 38) h 46 dX9_loaded_38 (by decide) ?_
      refine jr_iret (pc := 46) h hRt dX9_loaded_46 rfl (Nat.le_of_ble_eq_true rfl) (Nat.le_of_ble_eq_true rfl) ?_
      refine lfA9 ?_ hX f1
      unfold x_loaded
      (repeat' split) <;> first | rfl | (exfalso; omega) | contradiction
