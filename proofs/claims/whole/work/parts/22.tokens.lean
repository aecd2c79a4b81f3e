/-! 22: Tokens: its cells, small methods, next -/
def fX6 (b : Nat) (g : Nat → Int) (w : Int) : Nat → Value
  | 0 => .ref (b + 1)
  | 1 => jI (g 1)
  | 2 => jI (g 2)
  | 3 => jI (g 3)
  | 4 => jI (g 4)
  | 5 => jI (g 5)
  | 6 => jL w
  | 7 => jI (g 7)
  | 8 => jI (g 8)
  | 9 => .ref (b + 2)
  | 10 => .ref (b + 3)
  | 11 => .ref (b + 4)
  | 12 => jI (g 12)
  | _ => .null
theorem fX6_1 {b : Nat} {g : Nat → Int} {w : Int} {x : Int} : up (fX6 b g w) 1 (jI x) = fX6 b (up g 1 x) w := by
  funext i
  match i with
  | 0 => rfl
  | 1 => rfl
  | 2 => rfl
  | 3 => rfl
  | 4 => rfl
  | 5 => rfl
  | 6 => rfl
  | 7 => rfl
  | 8 => rfl
  | 9 => rfl
  | 10 => rfl
  | 11 => rfl
  | 12 => rfl
  | i + 13 => rfl
theorem fX6_2 {b : Nat} {g : Nat → Int} {w : Int} {x : Int} : up (fX6 b g w) 2 (jI x) = fX6 b (up g 2 x) w := by
  funext i
  match i with
  | 0 => rfl
  | 1 => rfl
  | 2 => rfl
  | 3 => rfl
  | 4 => rfl
  | 5 => rfl
  | 6 => rfl
  | 7 => rfl
  | 8 => rfl
  | 9 => rfl
  | 10 => rfl
  | 11 => rfl
  | 12 => rfl
  | i + 13 => rfl
theorem fX6_3 {b : Nat} {g : Nat → Int} {w : Int} {x : Int} : up (fX6 b g w) 3 (jI x) = fX6 b (up g 3 x) w := by
  funext i
  match i with
  | 0 => rfl
  | 1 => rfl
  | 2 => rfl
  | 3 => rfl
  | 4 => rfl
  | 5 => rfl
  | 6 => rfl
  | 7 => rfl
  | 8 => rfl
  | 9 => rfl
  | 10 => rfl
  | 11 => rfl
  | 12 => rfl
  | i + 13 => rfl
theorem fX6_4 {b : Nat} {g : Nat → Int} {w : Int} {x : Int} : up (fX6 b g w) 4 (jI x) = fX6 b (up g 4 x) w := by
  funext i
  match i with
  | 0 => rfl
  | 1 => rfl
  | 2 => rfl
  | 3 => rfl
  | 4 => rfl
  | 5 => rfl
  | 6 => rfl
  | 7 => rfl
  | 8 => rfl
  | 9 => rfl
  | 10 => rfl
  | 11 => rfl
  | 12 => rfl
  | i + 13 => rfl
theorem fX6_5 {b : Nat} {g : Nat → Int} {w : Int} {x : Int} : up (fX6 b g w) 5 (jI x) = fX6 b (up g 5 x) w := by
  funext i
  match i with
  | 0 => rfl
  | 1 => rfl
  | 2 => rfl
  | 3 => rfl
  | 4 => rfl
  | 5 => rfl
  | 6 => rfl
  | 7 => rfl
  | 8 => rfl
  | 9 => rfl
  | 10 => rfl
  | 11 => rfl
  | 12 => rfl
  | i + 13 => rfl
theorem fX6_6 {b : Nat} {g : Nat → Int} {w x : Int} : up (fX6 b g w) 6 (jL x) = fX6 b g x := by
  funext i
  match i with
  | 0 => rfl
  | 1 => rfl
  | 2 => rfl
  | 3 => rfl
  | 4 => rfl
  | 5 => rfl
  | 6 => rfl
  | 7 => rfl
  | 8 => rfl
  | 9 => rfl
  | 10 => rfl
  | 11 => rfl
  | 12 => rfl
  | i + 13 => rfl
theorem fX6_7 {b : Nat} {g : Nat → Int} {w : Int} {x : Int} : up (fX6 b g w) 7 (jI x) = fX6 b (up g 7 x) w := by
  funext i
  match i with
  | 0 => rfl
  | 1 => rfl
  | 2 => rfl
  | 3 => rfl
  | 4 => rfl
  | 5 => rfl
  | 6 => rfl
  | 7 => rfl
  | 8 => rfl
  | 9 => rfl
  | 10 => rfl
  | 11 => rfl
  | 12 => rfl
  | i + 13 => rfl
theorem fX6_8 {b : Nat} {g : Nat → Int} {w : Int} {x : Int} : up (fX6 b g w) 8 (jI x) = fX6 b (up g 8 x) w := by
  funext i
  match i with
  | 0 => rfl
  | 1 => rfl
  | 2 => rfl
  | 3 => rfl
  | 4 => rfl
  | 5 => rfl
  | 6 => rfl
  | 7 => rfl
  | 8 => rfl
  | 9 => rfl
  | 10 => rfl
  | 11 => rfl
  | 12 => rfl
  | i + 13 => rfl
theorem fX6_12 {b : Nat} {g : Nat → Int} {w : Int} {x : Int} : up (fX6 b g w) 12 (jI x) = fX6 b (up g 12 x) w := by
  funext i
  match i with
  | 0 => rfl
  | 1 => rfl
  | 2 => rfl
  | 3 => rfl
  | 4 => rfl
  | 5 => rfl
  | 6 => rfl
  | 7 => rfl
  | 8 => rfl
  | 9 => rfl
  | 10 => rfl
  | 11 => rfl
  | 12 => rfl
  | i + 13 => rfl
def Tok (M : jdM) (n b : Nat) (g : Nat → Int) (w : Int) (bs nm ns nn : Nat → Int) : Prop :=
  b + 5 ≤ n ∧ M b = jdO 6 (fX6 b g w) ∧ M (b + 1) = jdY 900 bs ∧ M (b + 2) = jdL 16 nm ∧ M (b + 3) = jdA 16 ns ∧ M (b + 4) = jdA 16 nn
def TokS (b : Nat) : Nat → Prop := fun k => b ≤ k ∧ k ≤ b + 4
theorem Tok_fr {M M1 : jdM} {n n1 b : Nat} {g : Nat → Int} {w : Int} {bs nm ns nn : Nat → Int} {S : Nat → Prop} (h : Tok M n b g w bs nm ns nn) (h1 : fr S M M1) (hn : n ≤ n1) (hs : ∀ k, b ≤ k → k ≤ b + 4 → ¬ S k) : Tok M1 n1 b g w bs nm ns nn := by
  obtain ⟨a, q0, q1, q2, q3, q4⟩ := h
  refine ⟨by omega, ?_, ?_, ?_, ?_, ?_⟩ <;> (rw [h1 _ (hs _ (by omega) (by omega))]; assumption)
theorem Tok_bs {M M1 : jdM} {n b : Nat} {g : Nat → Int} {w : Int} {bs nm ns nn : Nat → Int} {bs' : Nat → Int} (h : Tok M n b g w bs nm ns nn) (h1 : M1 = up M (b + 1) (jdY 900 bs')) : Tok M1 n b g w bs' nm ns nn := by
  obtain ⟨a, q0, q1, q2, q3, q4⟩ := h
  subst h1
  refine ⟨a, ?_, up_eq, ?_, ?_, ?_⟩ <;> (rw [up_ne (by omega)]; assumption)
theorem Tok_nm {M M1 : jdM} {n b : Nat} {g : Nat → Int} {w : Int} {bs nm ns nn : Nat → Int} {nm' : Nat → Int} (h : Tok M n b g w bs nm ns nn) (h1 : M1 = up M (b + 2) (jdL 16 nm')) : Tok M1 n b g w bs nm' ns nn := by
  obtain ⟨a, q0, q1, q2, q3, q4⟩ := h
  subst h1
  refine ⟨a, ?_, ?_, up_eq, ?_, ?_⟩ <;> (rw [up_ne (by omega)]; assumption)
theorem Tok_ns {M M1 : jdM} {n b : Nat} {g : Nat → Int} {w : Int} {bs nm ns nn : Nat → Int} {ns' : Nat → Int} (h : Tok M n b g w bs nm ns nn) (h1 : M1 = up M (b + 3) (jdA 16 ns')) : Tok M1 n b g w bs nm ns' nn := by
  obtain ⟨a, q0, q1, q2, q3, q4⟩ := h
  subst h1
  refine ⟨a, ?_, ?_, ?_, up_eq, ?_⟩ <;> (rw [up_ne (by omega)]; assumption)
theorem Tok_nn {M M1 : jdM} {n b : Nat} {g : Nat → Int} {w : Int} {bs nm ns nn : Nat → Int} {nn' : Nat → Int} (h : Tok M n b g w bs nm ns nn) (h1 : M1 = up M (b + 4) (jdA 16 nn')) : Tok M1 n b g w bs nm ns nn' := by
  obtain ⟨a, q0, q1, q2, q3, q4⟩ := h
  subst h1
  refine ⟨a, ?_, ?_, ?_, ?_, up_eq⟩ <;> (rw [up_ne (by omega)]; assumption)
theorem Tok_f1 {M M1 : jdM} {n b : Nat} {g : Nat → Int} {w : Int} {bs nm ns nn : Nat → Int} {x : Int} (h : Tok M n b g w bs nm ns nn) (h1 : M1 = up M b (jdO 6 (up (fX6 b g w) 1 (jI x)))) : Tok M1 n b (up g 1 x) w bs nm ns nn := by
  obtain ⟨a, q0, q1, q2, q3, q4⟩ := h
  rw [fX6_1] at h1
  subst h1
  refine ⟨a, up_eq, ?_, ?_, ?_, ?_⟩ <;> (rw [up_ne (by omega)]; assumption)
theorem Tok_f2 {M M1 : jdM} {n b : Nat} {g : Nat → Int} {w : Int} {bs nm ns nn : Nat → Int} {x : Int} (h : Tok M n b g w bs nm ns nn) (h1 : M1 = up M b (jdO 6 (up (fX6 b g w) 2 (jI x)))) : Tok M1 n b (up g 2 x) w bs nm ns nn := by
  obtain ⟨a, q0, q1, q2, q3, q4⟩ := h
  rw [fX6_2] at h1
  subst h1
  refine ⟨a, up_eq, ?_, ?_, ?_, ?_⟩ <;> (rw [up_ne (by omega)]; assumption)
theorem Tok_f3 {M M1 : jdM} {n b : Nat} {g : Nat → Int} {w : Int} {bs nm ns nn : Nat → Int} {x : Int} (h : Tok M n b g w bs nm ns nn) (h1 : M1 = up M b (jdO 6 (up (fX6 b g w) 3 (jI x)))) : Tok M1 n b (up g 3 x) w bs nm ns nn := by
  obtain ⟨a, q0, q1, q2, q3, q4⟩ := h
  rw [fX6_3] at h1
  subst h1
  refine ⟨a, up_eq, ?_, ?_, ?_, ?_⟩ <;> (rw [up_ne (by omega)]; assumption)
theorem Tok_f4 {M M1 : jdM} {n b : Nat} {g : Nat → Int} {w : Int} {bs nm ns nn : Nat → Int} {x : Int} (h : Tok M n b g w bs nm ns nn) (h1 : M1 = up M b (jdO 6 (up (fX6 b g w) 4 (jI x)))) : Tok M1 n b (up g 4 x) w bs nm ns nn := by
  obtain ⟨a, q0, q1, q2, q3, q4⟩ := h
  rw [fX6_4] at h1
  subst h1
  refine ⟨a, up_eq, ?_, ?_, ?_, ?_⟩ <;> (rw [up_ne (by omega)]; assumption)
theorem Tok_f5 {M M1 : jdM} {n b : Nat} {g : Nat → Int} {w : Int} {bs nm ns nn : Nat → Int} {x : Int} (h : Tok M n b g w bs nm ns nn) (h1 : M1 = up M b (jdO 6 (up (fX6 b g w) 5 (jI x)))) : Tok M1 n b (up g 5 x) w bs nm ns nn := by
  obtain ⟨a, q0, q1, q2, q3, q4⟩ := h
  rw [fX6_5] at h1
  subst h1
  refine ⟨a, up_eq, ?_, ?_, ?_, ?_⟩ <;> (rw [up_ne (by omega)]; assumption)
theorem Tok_f6 {M M1 : jdM} {n b : Nat} {g : Nat → Int} {w : Int} {bs nm ns nn : Nat → Int} {x : Int} (h : Tok M n b g w bs nm ns nn) (h1 : M1 = up M b (jdO 6 (up (fX6 b g w) 6 (jL x)))) : Tok M1 n b g x bs nm ns nn := by
  obtain ⟨a, q0, q1, q2, q3, q4⟩ := h
  rw [fX6_6] at h1
  subst h1
  refine ⟨a, up_eq, ?_, ?_, ?_, ?_⟩ <;> (rw [up_ne (by omega)]; assumption)
theorem Tok_f7 {M M1 : jdM} {n b : Nat} {g : Nat → Int} {w : Int} {bs nm ns nn : Nat → Int} {x : Int} (h : Tok M n b g w bs nm ns nn) (h1 : M1 = up M b (jdO 6 (up (fX6 b g w) 7 (jI x)))) : Tok M1 n b (up g 7 x) w bs nm ns nn := by
  obtain ⟨a, q0, q1, q2, q3, q4⟩ := h
  rw [fX6_7] at h1
  subst h1
  refine ⟨a, up_eq, ?_, ?_, ?_, ?_⟩ <;> (rw [up_ne (by omega)]; assumption)
theorem Tok_f8 {M M1 : jdM} {n b : Nat} {g : Nat → Int} {w : Int} {bs nm ns nn : Nat → Int} {x : Int} (h : Tok M n b g w bs nm ns nn) (h1 : M1 = up M b (jdO 6 (up (fX6 b g w) 8 (jI x)))) : Tok M1 n b (up g 8 x) w bs nm ns nn := by
  obtain ⟨a, q0, q1, q2, q3, q4⟩ := h
  rw [fX6_8] at h1
  subst h1
  refine ⟨a, up_eq, ?_, ?_, ?_, ?_⟩ <;> (rw [up_ne (by omega)]; assumption)
theorem Tok_f12 {M M1 : jdM} {n b : Nat} {g : Nat → Int} {w : Int} {bs nm ns nn : Nat → Int} {x : Int} (h : Tok M n b g w bs nm ns nn) (h1 : M1 = up M b (jdO 6 (up (fX6 b g w) 12 (jI x)))) : Tok M1 n b (up g 12 x) w bs nm ns nn := by
  obtain ⟨a, q0, q1, q2, q3, q4⟩ := h
  rw [fX6_12] at h1
  subst h1
  refine ⟨a, up_eq, ?_, ?_, ?_, ?_⟩ <;> (rw [up_ne (by omega)]; assumption)
theorem Tok_s1 {M M1 : jdM} {n b : Nat} {g : Nat → Int} {w : Int} {bs nm ns nn : Nat → Int} {x : Int} (h : Tok M n b g w bs nm ns nn) (h1 : M1 = up M b (jdO 6 (up (fX6 b g w) 1 (jI x)))) : ∃ g', Tok M1 n b g' w bs nm ns nn ∧ g' 1 = x ∧ g' 2 = g 2 ∧ g' 3 = g 3 ∧ g' 4 = g 4 ∧ g' 5 = g 5 ∧ g' 7 = g 7 ∧ g' 8 = g 8 ∧ g' 12 = g 12 :=
  ⟨up g 1 x, Tok_f1 h h1, rfl, rfl, rfl, rfl, rfl, rfl, rfl, rfl⟩
theorem Tok_s2 {M M1 : jdM} {n b : Nat} {g : Nat → Int} {w : Int} {bs nm ns nn : Nat → Int} {x : Int} (h : Tok M n b g w bs nm ns nn) (h1 : M1 = up M b (jdO 6 (up (fX6 b g w) 2 (jI x)))) : ∃ g', Tok M1 n b g' w bs nm ns nn ∧ g' 1 = g 1 ∧ g' 2 = x ∧ g' 3 = g 3 ∧ g' 4 = g 4 ∧ g' 5 = g 5 ∧ g' 7 = g 7 ∧ g' 8 = g 8 ∧ g' 12 = g 12 :=
  ⟨up g 2 x, Tok_f2 h h1, rfl, rfl, rfl, rfl, rfl, rfl, rfl, rfl⟩
theorem Tok_s3 {M M1 : jdM} {n b : Nat} {g : Nat → Int} {w : Int} {bs nm ns nn : Nat → Int} {x : Int} (h : Tok M n b g w bs nm ns nn) (h1 : M1 = up M b (jdO 6 (up (fX6 b g w) 3 (jI x)))) : ∃ g', Tok M1 n b g' w bs nm ns nn ∧ g' 1 = g 1 ∧ g' 2 = g 2 ∧ g' 3 = x ∧ g' 4 = g 4 ∧ g' 5 = g 5 ∧ g' 7 = g 7 ∧ g' 8 = g 8 ∧ g' 12 = g 12 :=
  ⟨up g 3 x, Tok_f3 h h1, rfl, rfl, rfl, rfl, rfl, rfl, rfl, rfl⟩
theorem Tok_s4 {M M1 : jdM} {n b : Nat} {g : Nat → Int} {w : Int} {bs nm ns nn : Nat → Int} {x : Int} (h : Tok M n b g w bs nm ns nn) (h1 : M1 = up M b (jdO 6 (up (fX6 b g w) 4 (jI x)))) : ∃ g', Tok M1 n b g' w bs nm ns nn ∧ g' 1 = g 1 ∧ g' 2 = g 2 ∧ g' 3 = g 3 ∧ g' 4 = x ∧ g' 5 = g 5 ∧ g' 7 = g 7 ∧ g' 8 = g 8 ∧ g' 12 = g 12 :=
  ⟨up g 4 x, Tok_f4 h h1, rfl, rfl, rfl, rfl, rfl, rfl, rfl, rfl⟩
theorem Tok_s5 {M M1 : jdM} {n b : Nat} {g : Nat → Int} {w : Int} {bs nm ns nn : Nat → Int} {x : Int} (h : Tok M n b g w bs nm ns nn) (h1 : M1 = up M b (jdO 6 (up (fX6 b g w) 5 (jI x)))) : ∃ g', Tok M1 n b g' w bs nm ns nn ∧ g' 1 = g 1 ∧ g' 2 = g 2 ∧ g' 3 = g 3 ∧ g' 4 = g 4 ∧ g' 5 = x ∧ g' 7 = g 7 ∧ g' 8 = g 8 ∧ g' 12 = g 12 :=
  ⟨up g 5 x, Tok_f5 h h1, rfl, rfl, rfl, rfl, rfl, rfl, rfl, rfl⟩
theorem Tok_s7 {M M1 : jdM} {n b : Nat} {g : Nat → Int} {w : Int} {bs nm ns nn : Nat → Int} {x : Int} (h : Tok M n b g w bs nm ns nn) (h1 : M1 = up M b (jdO 6 (up (fX6 b g w) 7 (jI x)))) : ∃ g', Tok M1 n b g' w bs nm ns nn ∧ g' 1 = g 1 ∧ g' 2 = g 2 ∧ g' 3 = g 3 ∧ g' 4 = g 4 ∧ g' 5 = g 5 ∧ g' 7 = x ∧ g' 8 = g 8 ∧ g' 12 = g 12 :=
  ⟨up g 7 x, Tok_f7 h h1, rfl, rfl, rfl, rfl, rfl, rfl, rfl, rfl⟩
theorem Tok_s8 {M M1 : jdM} {n b : Nat} {g : Nat → Int} {w : Int} {bs nm ns nn : Nat → Int} {x : Int} (h : Tok M n b g w bs nm ns nn) (h1 : M1 = up M b (jdO 6 (up (fX6 b g w) 8 (jI x)))) : ∃ g', Tok M1 n b g' w bs nm ns nn ∧ g' 1 = g 1 ∧ g' 2 = g 2 ∧ g' 3 = g 3 ∧ g' 4 = g 4 ∧ g' 5 = g 5 ∧ g' 7 = g 7 ∧ g' 8 = x ∧ g' 12 = g 12 :=
  ⟨up g 8 x, Tok_f8 h h1, rfl, rfl, rfl, rfl, rfl, rfl, rfl, rfl⟩
theorem Tok_s12 {M M1 : jdM} {n b : Nat} {g : Nat → Int} {w : Int} {bs nm ns nn : Nat → Int} {x : Int} (h : Tok M n b g w bs nm ns nn) (h1 : M1 = up M b (jdO 6 (up (fX6 b g w) 12 (jI x)))) : ∃ g', Tok M1 n b g' w bs nm ns nn ∧ g' 1 = g 1 ∧ g' 2 = g 2 ∧ g' 3 = g 3 ∧ g' 4 = g 4 ∧ g' 5 = g 5 ∧ g' 7 = g 7 ∧ g' 8 = g 8 ∧ g' 12 = x :=
  ⟨up g 12 x, Tok_f12 h h1, rfl, rfl, rfl, rfl, rfl, rfl, rfl, rfl⟩
theorem Tok_s6 {M M1 : jdM} {n b : Nat} {g : Nat → Int} {w : Int} {bs nm ns nn : Nat → Int} {x : Int} (h : Tok M n b g w bs nm ns nn) (h1 : M1 = up M b (jdO 6 (up (fX6 b g w) 6 (jL x)))) : ∃ w', Tok M1 n b g w' bs nm ns nn ∧ w' = x :=
  ⟨x, Tok_f6 h h1, rfl⟩
theorem jl_shl {w c : Int} (hc : 0 ≤ c ∧ c < 256) : (Int64.ofInt w <<< ((Int32.ofInt 8).toInt64 &&& 63)) ||| Int64.ofInt c = Int64.ofInt (w * 256 + c) := by
  have e8 : (Int32.ofInt 8).toInt64 &&& 63 = 8 := by decide
  rw [e8]
  apply Int64.toBitVec_inj.mp
  rw [Int64.toBitVec_or, Int64.toBitVec_shiftLeft]
  have h1 : ∀ z : Int, (Int64.ofInt z).toBitVec = BitVec.ofInt 64 z := fun z => rfl
  rw [h1, h1, h1]
  have h2 : (BitVec.ofInt 64 w) <<< (BitVec.smod (Int64.toBitVec 8) 64) = BitVec.ofInt 64 (w * 256) := by
    have : BitVec.smod (Int64.toBitVec 8) 64 = 8#64 := by decide
    rw [this]
    rw [BitVec.ofInt_mul]
    have := BitVec.shiftLeft_eq_mul_twoPow (x := BitVec.ofInt 64 w) (n := 8)
    exact this
  rw [h2, BitVec.ofInt_add]
  refine (BitVec.add_eq_or_of_and_eq_zero _ _ ?_).symm
  have h3 : BitVec.ofInt 64 c = BitVec.ofNat 64 c.toNat := by
    have : c = (c.toNat : Int) := by omega
    rw [this]; rfl
  rw [← h2, h3]
  have h4 : BitVec.smod (Int64.toBitVec 8) 64 = 8#64 := by decide
  rw [h4]
  ext i hi
  simp
  intro a
  have h5 : c.toNat < 2 ^ i := Nat.lt_of_lt_of_le (show c.toNat < 2 ^ 8 by omega) (Nat.pow_le_pow_right (by omega) a)
  intro _
  exact Nat.testBit_lt_two_pow (Nat.lt_of_le_of_lt (Nat.mod_le _ _) h5)
/-- the first place from i on whose byte is not within lo .. hi, or the end -/
def runN (lo hi : Int) (bs : Nat → Int) (e : Int) : Int → Nat → Int
  | i, 0 => i
  | i, d + 1 => if i < e ∧ lo ≤ bs i.toNat ∧ bs i.toNat ≤ hi then runN lo hi bs e (i + 1) d else i
def runI (lo hi : Int) (bs : Nat → Int) (e i : Int) : Int := runN lo hi bs e i (e - i).toNat
theorem runI_s {lo hi e i : Int} {bs : Nat → Int} (h : i < e) (h2 : lo ≤ bs i.toNat ∧ bs i.toNat ≤ hi) : runI lo hi bs e i = runI lo hi bs e (i + 1) := by
  unfold runI
  rw [show (e - i).toNat = (e - (i + 1)).toNat + 1 by omega, runN, if_pos ⟨h, h2⟩]
theorem runI_e {lo hi e i : Int} {bs : Nat → Int} (h : ¬ (i < e ∧ lo ≤ bs i.toNat ∧ bs i.toNat ≤ hi)) : runI lo hi bs e i = i := by
  unfold runI
  cases (e - i).toNat with
  | zero => rfl
  | succ k => rw [runN, if_neg h]
theorem runN_b {lo hi e : Int} {bs : Nat → Int} : ∀ (k : Nat) (i : Int), i ≤ runN lo hi bs e i k ∧ runN lo hi bs e i k ≤ max i e
  | 0, i => by unfold runN; omega
  | k + 1, i => by
    have := runN_b (lo := lo) (hi := hi) (e := e) (bs := bs) k (i + 1)
    unfold runN
    split <;> omega
theorem runI_b {lo hi e i : Int} {bs : Nat → Int} : i ≤ runI lo hi bs e i ∧ runI lo hi bs e i ≤ max i e := runN_b _ _
/-- k figures from place f on -/
def acc (B c : Int) (bs : Nat → Int) (f : Int) : Nat → Int
  | 0 => 0
  | k + 1 => acc B c bs f k * B + bs (f.toNat + k) - c
theorem acc_s {B c f t : Int} {bs : Nat → Int} (h : 0 ≤ f ∧ f ≤ t) : acc B c bs f (t + 1 - f).toNat = acc B c bs f (t - f).toNat * B + bs t.toNat - c := by
  rw [show (t + 1 - f).toNat = (t - f).toNat + 1 by omega, acc, show f.toNat + (t - f).toNat = t.toNat by omega]
theorem acc_0 {B c f t : Int} {bs : Nat → Int} (h : t ≤ f) : acc B c bs f (t - f).toNat = 0 := by
  rw [show (t - f).toNat = 0 by omega, acc]
def tokT (e f a d : Int) : Int := if f < a then a else if f < d then d else if e ≤ f then f else f + 1
def tokS (bs : Nat → Int) (e f a d : Int) : Int := if f < a then (if a - f ≤ 8 then 1 else 4) else if f < d then (if d - f ≤ 3 then 2 else 4) else if e ≤ f then 0 else if bs f.toNat = 59 ∨ bs f.toNat = 44 then 3 else 4
def tokW (bs : Nat → Int) (f a : Int) : Int := acc 256 0 bs f (a - f).toNat
def tokV (bs : Nat → Int) (f a d : Int) : Int := if f < a then 0 else acc 10 48 bs f (d - f).toNat
set_option maxHeartbeats 1000000 in
set_option maxRecDepth 20000 in
theorem s_X6_isFine {l : Launch} {n : Nat} {M : jdM} {b : Nat} {g : Nat → Int} {w : Int} {bs nm ns nn : Nat → Int} (hTk : Tok M n b g w bs nm ns nn) (hr : -2147483648 ≤ (g 7) ∧ (g 7) < 2147483648) : Ct l yX6_isFine cX6_isFine 1 (some .boolean) rX6_isFine [.ref b] n M (fun vv n' M' => (vv = some (jI (bz (g 7 = 0))) ∧ n = n' ∧ M = M') ∧ (0) ≤ (bz (g 7 = 0)) ∧ (bz (g 7 = 0)) ≤ 1) := by
  refine Ct_of [some (.ref b)] (by decide) (Nat.le_of_ble_eq_true rfl) rfl (fun κ hl h hR hRt hmn hn0 => ?_)
  have h : Ok κ RX6 cX6_isFine 1 (some .boolean) := h
  obtain ⟨hnb, hOb, hYb, hNb, hSb, hKb⟩ := id hTk
  refine jr_aload_n (pc := 0) h dX6_isFine_0 rfl ?_
  refine gf_X6_39 (pc := 1) h dX6_isFine_1 (by assumption) (by omega) ?_
  refine jr_if_ne (pc := 4) h 11 dX6_isFine_4 (by decide) (by omega) (fun c_4 => ?_) (fun c_4 => ?_)
  · skip
    refine jr_iconst (pc := 11) h dX6_isFine_11 ?_
    refine jr_iret (pc := 12) h hRt dX6_isFine_12 rfl (Nat.le_of_ble_eq_true rfl) (Nat.le_of_ble_eq_true rfl) ?_
    refine ⟨⟨ji_c ?_, rfl, rfl⟩, ?_⟩ <;> (unfold bz; split <;> omega)
  · skip
    refine jr_iconst (pc := 7) h dX6_isFine_7 ?_
    refine jr_goto (pc := 8) h 12 dX6_isFine_8 (by decide) ?_
    refine jr_iret (pc := 12) h hRt dX6_isFine_12 rfl (Nat.le_of_ble_eq_true rfl) (Nat.le_of_ble_eq_true rfl) ?_
    refine ⟨⟨ji_c ?_, rfl, rfl⟩, ?_⟩ <;> (unfold bz; split <;> omega)
set_option maxHeartbeats 1000000 in
set_option maxRecDepth 20000 in
theorem s_X6_isAtEnd {l : Launch} {n : Nat} {M : jdM} {b : Nat} {g : Nat → Int} {w : Int} {bs nm ns nn : Nat → Int} (hTk : Tok M n b g w bs nm ns nn) (hr : -2147483648 ≤ (g 4) ∧ (g 4) < 2147483648) : Ct l yX6_isAtEnd cX6_isAtEnd 1 (some .boolean) rX6_isAtEnd [.ref b] n M (fun vv n' M' => (vv = some (jI (bz (g 4 = 0))) ∧ n = n' ∧ M = M') ∧ (0) ≤ (bz (g 4 = 0)) ∧ (bz (g 4 = 0)) ≤ 1) := by
  refine Ct_of [some (.ref b)] (by decide) (Nat.le_of_ble_eq_true rfl) rfl (fun κ hl h hR hRt hmn hn0 => ?_)
  have h : Ok κ RX6 cX6_isAtEnd 1 (some .boolean) := h
  obtain ⟨hnb, hOb, hYb, hNb, hSb, hKb⟩ := id hTk
  refine jr_aload_n (pc := 0) h dX6_isAtEnd_0 rfl ?_
  refine gf_X6_51 (pc := 1) h dX6_isAtEnd_1 (by assumption) (by omega) ?_
  refine jr_if_ne (pc := 4) h 11 dX6_isAtEnd_4 (by decide) (by omega) (fun c_4 => ?_) (fun c_4 => ?_)
  · skip
    refine jr_iconst (pc := 11) h dX6_isAtEnd_11 ?_
    refine jr_iret (pc := 12) h hRt dX6_isAtEnd_12 rfl (Nat.le_of_ble_eq_true rfl) (Nat.le_of_ble_eq_true rfl) ?_
    refine ⟨⟨ji_c ?_, rfl, rfl⟩, ?_⟩ <;> (unfold bz; split <;> omega)
  · skip
    refine jr_iconst (pc := 7) h dX6_isAtEnd_7 ?_
    refine jr_goto (pc := 8) h 12 dX6_isAtEnd_8 (by decide) ?_
    refine jr_iret (pc := 12) h hRt dX6_isAtEnd_12 rfl (Nat.le_of_ble_eq_true rfl) (Nat.le_of_ble_eq_true rfl) ?_
    refine ⟨⟨ji_c ?_, rfl, rfl⟩, ?_⟩ <;> (unfold bz; split <;> omega)
set_option maxHeartbeats 1000000 in
set_option maxRecDepth 20000 in
theorem s_X6_firstFault {l : Launch} {n : Nat} {M : jdM} {b : Nat} {g : Nat → Int} {w : Int} {bs nm ns nn : Nat → Int} (hTk : Tok M n b g w bs nm ns nn) : Ct l yX6_firstFault cX6_firstFault 1 (some .int) rX6_firstFault [.ref b] n M (fun vv n' M' => vv = some (jI (g 7)) ∧ n = n' ∧ M = M') := by
  refine Ct_of [some (.ref b)] (by decide) (Nat.le_of_ble_eq_true rfl) rfl (fun κ hl h hR hRt hmn hn0 => ?_)
  have h : Ok κ RX6 cX6_firstFault 1 (some .int) := h
  obtain ⟨hnb, hOb, hYb, hNb, hSb, hKb⟩ := id hTk
  refine jr_aload_n (pc := 0) h dX6_firstFault_0 rfl ?_
  refine gf_X6_39 (pc := 1) h dX6_firstFault_1 (by assumption) (by omega) ?_
  refine jr_iret (pc := 4) h hRt dX6_firstFault_4 rfl (Nat.le_of_ble_eq_true rfl) (Nat.le_of_ble_eq_true rfl) ?_
  exact ⟨rfl, rfl, rfl⟩
set_option maxHeartbeats 1000000 in
set_option maxRecDepth 20000 in
theorem s_X6_faultPlace {l : Launch} {n : Nat} {M : jdM} {b : Nat} {g : Nat → Int} {w : Int} {bs nm ns nn : Nat → Int} (hTk : Tok M n b g w bs nm ns nn) : Ct l yX6_faultPlace cX6_faultPlace 1 (some .int) rX6_faultPlace [.ref b] n M (fun vv n' M' => vv = some (jI (g 8)) ∧ n = n' ∧ M = M') := by
  refine Ct_of [some (.ref b)] (by decide) (Nat.le_of_ble_eq_true rfl) rfl (fun κ hl h hR hRt hmn hn0 => ?_)
  have h : Ok κ RX6 cX6_faultPlace 1 (some .int) := h
  obtain ⟨hnb, hOb, hYb, hNb, hSb, hKb⟩ := id hTk
  refine jr_aload_n (pc := 0) h dX6_faultPlace_0 rfl ?_
  refine gf_X6_42 (pc := 1) h dX6_faultPlace_1 (by assumption) (by omega) ?_
  refine jr_iret (pc := 4) h hRt dX6_faultPlace_4 rfl (Nat.le_of_ble_eq_true rfl) (Nat.le_of_ble_eq_true rfl) ?_
  exact ⟨rfl, rfl, rfl⟩
set_option maxHeartbeats 1000000 in
set_option maxRecDepth 20000 in
theorem s_X6_fail {l : Launch} {n : Nat} {M : jdM} {b : Nat} {g : Nat → Int} {w : Int} {bs nm ns nn : Nat → Int} (hTk : Tok M n b g w bs nm ns nn) {a : Int} (hr : -2147483648 ≤ (g 7) ∧ (g 7) < 2147483648) : Ct l yX6_fail cX6_fail 2 none rX6_fail [.ref b, jI a] n M (fun vv n' M' => (vv = none ∧ n = n') ∧ ∃ g', Tok M' n b g' (w) bs nm ns nn ∧ fr (TokS b) M M' ∧ g' 1 = (g 1) ∧ g' 2 = (g 2) ∧ g' 3 = (g 3) ∧ g' 4 = (g 4) ∧ g' 5 = (g 5) ∧ g' 7 = (if g 7 = 0 then a else g 7) ∧ g' 8 = (if g 7 = 0 then g 2 else g 8) ∧ g' 12 = (g 12)) := by
  refine Ct_of [some (.ref b), some (jI a)] (by decide) (Nat.le_of_ble_eq_true rfl) rfl (fun κ hl h hR hRt hmn hn0 => ?_)
  have h : Ok κ RX6 cX6_fail 2 none := h
  have T1 := hTk
  have f1 : fr (TokS b) M M := fr_rf
  obtain ⟨hnb, hOb, hYb, hNb, hSb, hKb⟩ := id T1
  refine jr_aload_n (pc := 0) h dX6_fail_0 rfl ?_
  refine gf_X6_39 (pc := 1) h dX6_fail_1 (by assumption) (by omega) ?_
  refine jr_if_ne (pc := 4) h 20 dX6_fail_4 (by decide) (by omega) (fun c_4 => ?_) (fun c_4 => ?_)
  · skip
    skip
    refine jr_vret (pc := 20) h hRt dX6_fail_20 (Nat.le_of_ble_eq_true rfl) (Nat.le_of_ble_eq_true rfl) ?_
    refine ⟨⟨rfl, rfl⟩, _, T1, f1, ?_, ?_, ?_, ?_, ?_, ?_, ?_, ?_⟩ <;> (try split) <;> omega
  · skip
    refine jr_aload_n (pc := 7) h dX6_fail_7 rfl ?_
    refine jr_iload_n (pc := 8) h dX6_fail_8 rfl ?_
    refine pf_X6_39 (pc := 9) h dX6_fail_9 (by assumption) (by omega) ?_
    refine jm_gen (fun M1 hM1 => ?_)
    obtain ⟨g1, T1, q1, q2, q3, q4, q5, q7, q8, q12⟩ := Tok_s7 T1 hM1
    have f1 := fr_tr f1 (fr_up hM1 ⟨by omega, by omega⟩)
    obtain ⟨hnb, hOb, hYb, hNb, hSb, hKb⟩ := id T1
    refine jr_aload_n (pc := 12) h dX6_fail_12 rfl ?_
    refine jr_aload_n (pc := 13) h dX6_fail_13 rfl ?_
    refine gf_X6_54 (pc := 14) h dX6_fail_14 (by assumption) (by omega) ?_
    refine pf_X6_42 (pc := 17) h dX6_fail_17 (by assumption) (by omega) ?_
    refine jm_gen (fun M1 hM1 => ?_)
    obtain ⟨g1, T1, q1, q2, q3, q4, q5, q7, q8, q12⟩ := Tok_s8 T1 hM1
    have f1 := fr_tr f1 (fr_up hM1 ⟨by omega, by omega⟩)
    obtain ⟨hnb, hOb, hYb, hNb, hSb, hKb⟩ := id T1
    refine jr_vret (pc := 20) h hRt dX6_fail_20 (Nat.le_of_ble_eq_true rfl) (Nat.le_of_ble_eq_true rfl) ?_
    refine ⟨⟨rfl, rfl⟩, _, T1, f1, ?_, ?_, ?_, ?_, ?_, ?_, ?_, ?_⟩ <;> (try split) <;> omega
set_option maxHeartbeats 1000000 in
set_option maxRecDepth 20000 in
theorem s_X6_next {l : Launch} {n : Nat} {M : jdM} {b : Nat} {g : Nat → Int} {w : Int} {bs nm ns nn : Nat → Int} (hTk : Tok M n b g w bs nm ns nn) (hby : ∀ i, -128 ≤ bs i ∧ bs i < 128) (hg : (-2147483648 ≤ g 1 ∧ g 1 ≤ 900) ∧ 0 ≤ g 3 ∧ g 3 ≤ 900) {F A D : Int} (hF : runI 32 32 bs (g 1) (g 3) = F) (hA : runI 97 122 bs (g 1) F = A) (hD : runI 48 57 bs (g 1) F = D) : Ct l yX6_next cX6_next 1 none rX6_next [.ref b] n M (fun vv n' M' => (vv = none ∧ n = n') ∧ ∃ g', Tok M' n b g' (tokW bs F A) bs nm ns nn ∧ fr (TokS b) M M' ∧ g' 1 = (g 1) ∧ g' 2 = (F) ∧ g' 3 = (tokT (g 1) F A D) ∧ g' 4 = (tokS bs (g 1) F A D) ∧ g' 5 = (tokV bs F A D) ∧ g' 7 = (g 7) ∧ g' 8 = (g 8) ∧ g' 12 = (g 12)) := by
  refine Ct_of [some (.ref b)] (by decide) (Nat.le_of_ble_eq_true rfl) rfl (fun κ hl h hR hRt hmn hn0 => ?_)
  have h : Ok κ RX6 cX6_next 1 none := h
  obtain ⟨hnb, hOb, hYb, hNb, hSb, hKb⟩ := id hTk
  have bF : g 3 ≤ F ∧ F ≤ max (g 3) (g 1) := hF ▸ runI_b
  have bA : F ≤ A ∧ A ≤ max F (g 1) := hA ▸ runI_b
  have bD : F ≤ D ∧ D ≤ max F (g 1) := hD ▸ runI_b
  have tE : ∀ (M1 : jdM) (g1 : Nat → Int) (w1 : Int), (Tok M1 n b g1 w1 bs nm ns nn) → (fr (TokS b) M M1) → (g1 1 = g 1) → (g1 7 = g 7) → (g1 8 = g 8) → (g1 12 = g 12) → (g1 2 = F) → (A = F) → (g1 3 = D) → (w1 = tokW bs F A) → (g1 5 = acc 10 48 bs F (D - F).toNat) → J κ 1 0 0 n 249 [some (.ref b)] [] M1 := by
    intro M1 g1 w1 T1 f1 k1 k7 k8 k12 e2 eA e3 ew0 e5
    obtain ⟨hnb, hOb, hYb, hNb, hSb, hKb⟩ := id T1
    refine jr_aload_n (pc := 249) h dX6_next_249 rfl ?_
    refine gf_X6_36 (pc := 250) h dX6_next_250 (by assumption) (by omega) ?_
    refine jr_aload_n (pc := 253) h dX6_next_253 rfl ?_
    refine gf_X6_54 (pc := 254) h dX6_next_254 (by assumption) (by omega) ?_
    refine jr_icmp_le (pc := 257) h 285 dX6_next_257 (by decide) (by omega) (by omega) (fun c_257 => ?_) (fun c_257 => ?_)
    · skip
      refine jr_aload_n (pc := 285) h dX6_next_285 rfl ?_
      refine gf_X6_54 (pc := 286) h dX6_next_286 (by assumption) (by omega) ?_
      refine jr_aload_n (pc := 289) h dX6_next_289 rfl ?_
      refine gf_X6_32 (pc := 290) h dX6_next_290 (by assumption) (by omega) ?_
      refine jr_icmp_lt (pc := 293) h 304 dX6_next_293 (by decide) (by omega) (by omega) (fun c_293 => ?_) (fun c_293 => ?_)
      · skip
        refine jr_aload_n (pc := 304) h dX6_next_304 rfl ?_
        refine jr_aload_n (pc := 305) h dX6_next_305 rfl ?_
        refine gf_X6_9 (pc := 306) h dX6_next_306 (by assumption) (by omega) ?_
        refine jr_aload_n (pc := 309) h dX6_next_309 rfl ?_
        refine gf_X6_54 (pc := 310) h dX6_next_310 (by assumption) (by omega) ?_
        have eb : bs (g1 2).toNat = bs F.toNat := by rw [show g1 2 = F by omega]
        have bbF := hby F.toNat
        refine jr_bald (pc := 313) h dX6_next_313 (by assumption) (by omega) (by omega) ?_
        refine jr_bipush (pc := 314) h dX6_next_314 bp_59 ?_
        refine jr_icmp_eq (pc := 316) h 333 dX6_next_316 (by decide) (by omega) (by omega) (fun c_316 => ?_) (fun c_316 => ?_)
        · skip
          refine jr_iconst (pc := 333) h dX6_next_333 ?_
          refine jr_goto (pc := 334) h 338 dX6_next_334 (by decide) ?_
          refine pf_X6_51 (pc := 338) h dX6_next_338 (by assumption) (by omega) ?_
          refine jm_gen (fun M1 hM1 => ?_)
          obtain ⟨g1, T1, q1, q2, q3, q4, q5, q7, q8, q12⟩ := Tok_s4 T1 hM1
          have f1 := fr_tr f1 (fr_up hM1 ⟨by omega, by omega⟩)
          obtain ⟨hnb, hOb, hYb, hNb, hSb, hKb⟩ := id T1
          refine jr_aload_n (pc := 341) h dX6_next_341 rfl ?_
          refine jr_aload_n (pc := 342) h dX6_next_342 rfl ?_
          refine gf_X6_54 (pc := 343) h dX6_next_343 (by assumption) (by omega) ?_
          refine jr_iconst (pc := 346) h dX6_next_346 ?_
          refine jr_iadd (pc := 347) h dX6_next_347 ?_
          refine pf_X6_36 (pc := 348) h dX6_next_348 (by assumption) (by omega) ?_
          refine jm_gen (fun M1 hM1 => ?_)
          obtain ⟨g1, T1, q1, q2, q3, q4, q5, q7, q8, q12⟩ := Tok_s3 T1 hM1
          have f1 := fr_tr f1 (fr_up hM1 ⟨by omega, by omega⟩)
          obtain ⟨hnb, hOb, hYb, hNb, hSb, hKb⟩ := id T1
          refine jr_vret (pc := 351) h hRt dX6_next_351 (Nat.le_of_ble_eq_true rfl) (Nat.le_of_ble_eq_true rfl) ?_
          refine ⟨⟨rfl, rfl⟩, _, (show Tok _ n b _ (tokW bs F A) bs nm ns nn from ew0 ▸ T1), f1, by omega, by omega, ?_, ?_, ?_, by omega, by omega, by omega⟩
          · unfold tokT; (repeat' split) <;> omega
          · unfold tokS; (repeat' split) <;> omega
          · unfold tokV; rw [if_neg (by omega)]; omega
        · skip
          refine jr_aload_n (pc := 319) h dX6_next_319 rfl ?_
          refine gf_X6_9 (pc := 320) h dX6_next_320 (by assumption) (by omega) ?_
          refine jr_aload_n (pc := 323) h dX6_next_323 rfl ?_
          refine gf_X6_54 (pc := 324) h dX6_next_324 (by assumption) (by omega) ?_
          have eb : bs (g1 2).toNat = bs F.toNat := by rw [show g1 2 = F by omega]
          have bbF := hby F.toNat
          refine jr_bald (pc := 327) h dX6_next_327 (by assumption) (by omega) (by omega) ?_
          refine jr_bipush (pc := 328) h dX6_next_328 bp_44 ?_
          refine jr_icmp_ne (pc := 330) h 337 dX6_next_330 (by decide) (by omega) (by omega) (fun c_330 => ?_) (fun c_330 => ?_)
          · skip
            refine jr_iconst (pc := 337) h dX6_next_337 ?_
            refine pf_X6_51 (pc := 338) h dX6_next_338 (by assumption) (by omega) ?_
            refine jm_gen (fun M1 hM1 => ?_)
            obtain ⟨g1, T1, q1, q2, q3, q4, q5, q7, q8, q12⟩ := Tok_s4 T1 hM1
            have f1 := fr_tr f1 (fr_up hM1 ⟨by omega, by omega⟩)
            obtain ⟨hnb, hOb, hYb, hNb, hSb, hKb⟩ := id T1
            refine jr_aload_n (pc := 341) h dX6_next_341 rfl ?_
            refine jr_aload_n (pc := 342) h dX6_next_342 rfl ?_
            refine gf_X6_54 (pc := 343) h dX6_next_343 (by assumption) (by omega) ?_
            refine jr_iconst (pc := 346) h dX6_next_346 ?_
            refine jr_iadd (pc := 347) h dX6_next_347 ?_
            refine pf_X6_36 (pc := 348) h dX6_next_348 (by assumption) (by omega) ?_
            refine jm_gen (fun M1 hM1 => ?_)
            obtain ⟨g1, T1, q1, q2, q3, q4, q5, q7, q8, q12⟩ := Tok_s3 T1 hM1
            have f1 := fr_tr f1 (fr_up hM1 ⟨by omega, by omega⟩)
            obtain ⟨hnb, hOb, hYb, hNb, hSb, hKb⟩ := id T1
            refine jr_vret (pc := 351) h hRt dX6_next_351 (Nat.le_of_ble_eq_true rfl) (Nat.le_of_ble_eq_true rfl) ?_
            refine ⟨⟨rfl, rfl⟩, _, (show Tok _ n b _ (tokW bs F A) bs nm ns nn from ew0 ▸ T1), f1, by omega, by omega, ?_, ?_, ?_, by omega, by omega, by omega⟩
            · unfold tokT; (repeat' split) <;> omega
            · unfold tokS; (repeat' split) <;> omega
            · unfold tokV; rw [if_neg (by omega)]; omega
          · skip
            refine jr_iconst (pc := 333) h dX6_next_333 ?_
            refine jr_goto (pc := 334) h 338 dX6_next_334 (by decide) ?_
            refine pf_X6_51 (pc := 338) h dX6_next_338 (by assumption) (by omega) ?_
            refine jm_gen (fun M1 hM1 => ?_)
            obtain ⟨g1, T1, q1, q2, q3, q4, q5, q7, q8, q12⟩ := Tok_s4 T1 hM1
            have f1 := fr_tr f1 (fr_up hM1 ⟨by omega, by omega⟩)
            obtain ⟨hnb, hOb, hYb, hNb, hSb, hKb⟩ := id T1
            refine jr_aload_n (pc := 341) h dX6_next_341 rfl ?_
            refine jr_aload_n (pc := 342) h dX6_next_342 rfl ?_
            refine gf_X6_54 (pc := 343) h dX6_next_343 (by assumption) (by omega) ?_
            refine jr_iconst (pc := 346) h dX6_next_346 ?_
            refine jr_iadd (pc := 347) h dX6_next_347 ?_
            refine pf_X6_36 (pc := 348) h dX6_next_348 (by assumption) (by omega) ?_
            refine jm_gen (fun M1 hM1 => ?_)
            obtain ⟨g1, T1, q1, q2, q3, q4, q5, q7, q8, q12⟩ := Tok_s3 T1 hM1
            have f1 := fr_tr f1 (fr_up hM1 ⟨by omega, by omega⟩)
            obtain ⟨hnb, hOb, hYb, hNb, hSb, hKb⟩ := id T1
            refine jr_vret (pc := 351) h hRt dX6_next_351 (Nat.le_of_ble_eq_true rfl) (Nat.le_of_ble_eq_true rfl) ?_
            refine ⟨⟨rfl, rfl⟩, _, (show Tok _ n b _ (tokW bs F A) bs nm ns nn from ew0 ▸ T1), f1, by omega, by omega, ?_, ?_, ?_, by omega, by omega, by omega⟩
            · unfold tokT; (repeat' split) <;> omega
            · unfold tokS; (repeat' split) <;> omega
            · unfold tokV; rw [if_neg (by omega)]; omega
      · skip
        refine jr_aload_n (pc := 296) h dX6_next_296 rfl ?_
        refine jr_iconst (pc := 297) h dX6_next_297 ?_
        refine pf_X6_51 (pc := 298) h dX6_next_298 (by assumption) (by omega) ?_
        refine jm_gen (fun M1 hM1 => ?_)
        obtain ⟨g1, T1, q1, q2, q3, q4, q5, q7, q8, q12⟩ := Tok_s4 T1 hM1
        have f1 := fr_tr f1 (fr_up hM1 ⟨by omega, by omega⟩)
        obtain ⟨hnb, hOb, hYb, hNb, hSb, hKb⟩ := id T1
        refine jr_goto (pc := 301) h 351 dX6_next_301 (by decide) ?_
        skip
        refine jr_vret (pc := 351) h hRt dX6_next_351 (Nat.le_of_ble_eq_true rfl) (Nat.le_of_ble_eq_true rfl) ?_
        refine ⟨⟨rfl, rfl⟩, _, (show Tok _ n b _ (tokW bs F A) bs nm ns nn from ew0 ▸ T1), f1, by omega, by omega, ?_, ?_, ?_, by omega, by omega, by omega⟩
        · unfold tokT; (repeat' split) <;> omega
        · unfold tokS; (repeat' split) <;> omega
        · unfold tokV; rw [if_neg (by omega)]; omega
    · skip
      refine jr_aload_n (pc := 260) h dX6_next_260 rfl ?_
      refine jr_aload_n (pc := 261) h dX6_next_261 rfl ?_
      refine gf_X6_36 (pc := 262) h dX6_next_262 (by assumption) (by omega) ?_
      refine jr_aload_n (pc := 265) h dX6_next_265 rfl ?_
      refine gf_X6_54 (pc := 266) h dX6_next_266 (by assumption) (by omega) ?_
      refine jr_isub (pc := 269) h dX6_next_269 ?_
      refine jr_iconst (pc := 270) h dX6_next_270 ?_
      refine jr_icmp_gt (pc := 271) h 278 dX6_next_271 (by decide) (by omega) (by omega) (fun c_271 => ?_) (fun c_271 => ?_)
      · skip
        refine jr_iconst (pc := 278) h dX6_next_278 ?_
        refine pf_X6_51 (pc := 279) h dX6_next_279 (by assumption) (by omega) ?_
        refine jm_gen (fun M1 hM1 => ?_)
        obtain ⟨g1, T1, q1, q2, q3, q4, q5, q7, q8, q12⟩ := Tok_s4 T1 hM1
        have f1 := fr_tr f1 (fr_up hM1 ⟨by omega, by omega⟩)
        obtain ⟨hnb, hOb, hYb, hNb, hSb, hKb⟩ := id T1
        refine jr_goto (pc := 282) h 351 dX6_next_282 (by decide) ?_
        skip
        refine jr_vret (pc := 351) h hRt dX6_next_351 (Nat.le_of_ble_eq_true rfl) (Nat.le_of_ble_eq_true rfl) ?_
        refine ⟨⟨rfl, rfl⟩, _, (show Tok _ n b _ (tokW bs F A) bs nm ns nn from ew0 ▸ T1), f1, by omega, by omega, ?_, ?_, ?_, by omega, by omega, by omega⟩
        · unfold tokT; (repeat' split) <;> omega
        · unfold tokS; (repeat' split) <;> omega
        · unfold tokV; rw [if_neg (by omega)]; omega
      · skip
        refine jr_iconst (pc := 274) h dX6_next_274 ?_
        refine jr_goto (pc := 275) h 279 dX6_next_275 (by decide) ?_
        refine pf_X6_51 (pc := 279) h dX6_next_279 (by assumption) (by omega) ?_
        refine jm_gen (fun M1 hM1 => ?_)
        obtain ⟨g1, T1, q1, q2, q3, q4, q5, q7, q8, q12⟩ := Tok_s4 T1 hM1
        have f1 := fr_tr f1 (fr_up hM1 ⟨by omega, by omega⟩)
        obtain ⟨hnb, hOb, hYb, hNb, hSb, hKb⟩ := id T1
        refine jr_goto (pc := 282) h 351 dX6_next_282 (by decide) ?_
        skip
        refine jr_vret (pc := 351) h hRt dX6_next_351 (Nat.le_of_ble_eq_true rfl) (Nat.le_of_ble_eq_true rfl) ?_
        refine ⟨⟨rfl, rfl⟩, _, (show Tok _ n b _ (tokW bs F A) bs nm ns nn from ew0 ▸ T1), f1, by omega, by omega, ?_, ?_, ?_, by omega, by omega, by omega⟩
        · unfold tokT; (repeat' split) <;> omega
        · unfold tokS; (repeat' split) <;> omega
        · unfold tokV; rw [if_neg (by omega)]; omega
  have tD : ∀ (dq : Nat) (M1 : jdM) (g1 : Nat → Int) (w1 : Int), (Tok M1 n b g1 w1 bs nm ns nn) → (fr (TokS b) M M1) → (g1 1 = g 1) → (g1 7 = g 7) → (g1 8 = g 8) → (g1 12 = g 12) → (g1 2 = F) → (A = F) → (F ≤ g1 3 ∧ g1 3 ≤ 900) → (w1 = tokW bs F A) → (runI 48 57 bs (g 1) (g1 3) = D) → (g1 5 = acc 10 48 bs F (g1 3 - F).toNat) → (901 - g1 3).toNat < dq → J κ 1 0 0 n 173 [some (.ref b)] [] M1 := by
    intro dq
    induction dq with
    | zero => intro M1 g1 w1 T1 f1 k1 k7 k8 k12 e2 eA r3 ew0 hr hv hd; omega
    | succ dq ih =>
      intro M1 g1 w1 T1 f1 k1 k7 k8 k12 e2 eA r3 ew0 hr hv hd
      obtain ⟨x0, hx0⟩ : ∃ x0, x0 = g1 3 := ⟨_, rfl⟩
      have hbe : bs (g1 3).toNat = bs x0.toNat := by rw [hx0]
      have hbt := hby x0.toNat
      rw [← hx0] at hr hv
      obtain ⟨hnb, hOb, hYb, hNb, hSb, hKb⟩ := id T1
      refine jr_aload_n (pc := 173) h dX6_next_173 rfl ?_
      refine gf_X6_36 (pc := 174) h dX6_next_174 (by assumption) (by omega) ?_
      refine jr_aload_n (pc := 177) h dX6_next_177 rfl ?_
      refine gf_X6_32 (pc := 178) h dX6_next_178 (by assumption) (by omega) ?_
      refine jr_icmp_ge (pc := 181) h 249 dX6_next_181 (by decide) (by omega) (by omega) (fun c_181 => ?_) (fun c_181 => ?_)
      · skip
        have e3 : x0 = D := by rw [← hr, runI_e (by omega)]
        rw [e3] at hv
        exact tE M1 g1 w1 T1 f1 (by omega) (by omega) (by omega) (by omega) (by omega) (by omega) (by omega) ew0 hv
      · skip
        refine jr_aload_n (pc := 184) h dX6_next_184 rfl ?_
        refine gf_X6_9 (pc := 185) h dX6_next_185 (by assumption) (by omega) ?_
        refine jr_aload_n (pc := 188) h dX6_next_188 rfl ?_
        refine gf_X6_36 (pc := 189) h dX6_next_189 (by assumption) (by omega) ?_
        refine jr_bald (pc := 192) h dX6_next_192 (by assumption) (by omega) (by omega) ?_
        refine jr_bipush (pc := 193) h dX6_next_193 bp_48 ?_
        refine jr_icmp_lt (pc := 195) h 249 dX6_next_195 (by decide) (by omega) (by omega) (fun c_195 => ?_) (fun c_195 => ?_)
        · skip
          have e3 : x0 = D := by rw [← hr, runI_e (by omega)]
          rw [e3] at hv
          exact tE M1 g1 w1 T1 f1 (by omega) (by omega) (by omega) (by omega) (by omega) (by omega) (by omega) ew0 hv
        · skip
          refine jr_aload_n (pc := 198) h dX6_next_198 rfl ?_
          refine gf_X6_9 (pc := 199) h dX6_next_199 (by assumption) (by omega) ?_
          refine jr_aload_n (pc := 202) h dX6_next_202 rfl ?_
          refine gf_X6_36 (pc := 203) h dX6_next_203 (by assumption) (by omega) ?_
          refine jr_bald (pc := 206) h dX6_next_206 (by assumption) (by omega) (by omega) ?_
          refine jr_bipush (pc := 207) h dX6_next_207 bp_57 ?_
          refine jr_icmp_gt (pc := 209) h 249 dX6_next_209 (by decide) (by omega) (by omega) (fun c_209 => ?_) (fun c_209 => ?_)
          · skip
            have e3 : x0 = D := by rw [← hr, runI_e (by omega)]
            rw [e3] at hv
            exact tE M1 g1 w1 T1 f1 (by omega) (by omega) (by omega) (by omega) (by omega) (by omega) (by omega) ew0 hv
          · skip
            refine jr_aload_n (pc := 212) h dX6_next_212 rfl ?_
            refine jr_aload_n (pc := 213) h dX6_next_213 rfl ?_
            refine gf_X6_61 (pc := 214) h dX6_next_214 (by assumption) (by omega) ?_
            refine jr_bipush (pc := 217) h dX6_next_217 bp_10 ?_
            refine jr_imul (pc := 219) h dX6_next_219 ?_
            refine jr_aload_n (pc := 220) h dX6_next_220 rfl ?_
            refine gf_X6_9 (pc := 221) h dX6_next_221 (by assumption) (by omega) ?_
            refine jr_aload_n (pc := 224) h dX6_next_224 rfl ?_
            refine gf_X6_36 (pc := 225) h dX6_next_225 (by assumption) (by omega) ?_
            refine jr_bald (pc := 228) h dX6_next_228 (by assumption) (by omega) (by omega) ?_
            refine jr_iadd (pc := 229) h dX6_next_229 ?_
            refine jr_bipush (pc := 230) h dX6_next_230 bp_48 ?_
            refine jr_isub (pc := 232) h dX6_next_232 ?_
            refine pf_X6_61 (pc := 233) h dX6_next_233 (by assumption) (by omega) ?_
            refine jm_gen (fun M1 hM1 => ?_)
            obtain ⟨g1, T1, q1, q2, q3, q4, q5, q7, q8, q12⟩ := Tok_s5 T1 hM1
            have f1 := fr_tr f1 (fr_up hM1 ⟨by omega, by omega⟩)
            obtain ⟨hnb, hOb, hYb, hNb, hSb, hKb⟩ := id T1
            refine jr_aload_n (pc := 236) h dX6_next_236 rfl ?_
            refine jr_dup (pc := 237) h dX6_next_237 rfl ?_
            refine gf_X6_36 (pc := 238) h dX6_next_238 (by assumption) (by omega) ?_
            refine jr_iconst (pc := 241) h dX6_next_241 ?_
            refine jr_iadd (pc := 242) h dX6_next_242 ?_
            refine pf_X6_36 (pc := 243) h dX6_next_243 (by assumption) (by omega) ?_
            refine jm_gen (fun M1 hM1 => ?_)
            obtain ⟨g1, T1, q1, q2, q3, q4, q5, q7, q8, q12⟩ := Tok_s3 T1 hM1
            have f1 := fr_tr f1 (fr_up hM1 ⟨by omega, by omega⟩)
            obtain ⟨hnb, hOb, hYb, hNb, hSb, hKb⟩ := id T1
            refine jr_goto (pc := 246) h 173 dX6_next_246 (by decide) ?_
            refine ih M1 g1 w1 T1 f1 (by omega) (by omega) (by omega) (by omega) (by omega) (by omega) (by omega) ew0 ?_ ?_ (by omega)
            · rw [show g1 3 = x0 + 1 by omega, ← runI_s (by omega) (by omega), hr]
            · rw [show g1 3 = x0 + 1 by omega, acc_s (by omega)]; omega
  have tX : ∀ (M1 : jdM) (g1 : Nat → Int) (w1 : Int), (Tok M1 n b g1 w1 bs nm ns nn) → (fr (TokS b) M M1) → (g1 1 = g 1) → (g1 7 = g 7) → (g1 8 = g 8) → (g1 12 = g 12) → (g1 2 = F) → (g1 5 = 0) → (g1 3 = A) → (w1 = tokW bs F A) → J κ 1 0 0 n 138 [some (.ref b)] [] M1 := by
    intro M1 g1 w1 T1 f1 k1 k7 k8 k12 e2 e5 e3 ew0
    obtain ⟨hnb, hOb, hYb, hNb, hSb, hKb⟩ := id T1
    refine jr_aload_n (pc := 138) h dX6_next_138 rfl ?_
    refine gf_X6_36 (pc := 139) h dX6_next_139 (by assumption) (by omega) ?_
    refine jr_aload_n (pc := 142) h dX6_next_142 rfl ?_
    refine gf_X6_54 (pc := 143) h dX6_next_143 (by assumption) (by omega) ?_
    refine jr_icmp_le (pc := 146) h 173 dX6_next_146 (by decide) (by omega) (by omega) (fun c_146 => ?_) (fun c_146 => ?_)
    · skip
      refine tD _ M1 g1 w1 T1 f1 (by omega) (by omega) (by omega) (by omega) (by omega) (by omega) (by omega) ew0 ?_ ?_ (Nat.lt_succ_self _)
      · rw [show g1 3 = F by omega, hD]
      · rw [show g1 3 = F by omega, acc_0 (Int.le_refl _)]; omega
    · skip
      refine jr_aload_n (pc := 149) h dX6_next_149 rfl ?_
      refine jr_aload_n (pc := 150) h dX6_next_150 rfl ?_
      refine gf_X6_36 (pc := 151) h dX6_next_151 (by assumption) (by omega) ?_
      refine jr_aload_n (pc := 154) h dX6_next_154 rfl ?_
      refine gf_X6_54 (pc := 155) h dX6_next_155 (by assumption) (by omega) ?_
      refine jr_isub (pc := 158) h dX6_next_158 ?_
      refine jr_bipush (pc := 159) h dX6_next_159 bp_8 ?_
      refine jr_icmp_gt (pc := 161) h 168 dX6_next_161 (by decide) (by omega) (by omega) (fun c_161 => ?_) (fun c_161 => ?_)
      · skip
        refine jr_iconst (pc := 168) h dX6_next_168 ?_
        refine pf_X6_51 (pc := 169) h dX6_next_169 (by assumption) (by omega) ?_
        refine jm_gen (fun M1 hM1 => ?_)
        obtain ⟨g1, T1, q1, q2, q3, q4, q5, q7, q8, q12⟩ := Tok_s4 T1 hM1
        have f1 := fr_tr f1 (fr_up hM1 ⟨by omega, by omega⟩)
        obtain ⟨hnb, hOb, hYb, hNb, hSb, hKb⟩ := id T1
        refine jr_vret (pc := 172) h hRt dX6_next_172 (Nat.le_of_ble_eq_true rfl) (Nat.le_of_ble_eq_true rfl) ?_
        refine ⟨⟨rfl, rfl⟩, _, (show Tok _ n b _ (tokW bs F A) bs nm ns nn from ew0 ▸ T1), f1, by omega, by omega, ?_, ?_, ?_, by omega, by omega, by omega⟩
        · unfold tokT; (repeat' split) <;> omega
        · unfold tokS; (repeat' split) <;> omega
        · unfold tokV; rw [if_pos (by omega)]; omega
      · skip
        refine jr_iconst (pc := 164) h dX6_next_164 ?_
        refine jr_goto (pc := 165) h 169 dX6_next_165 (by decide) ?_
        refine pf_X6_51 (pc := 169) h dX6_next_169 (by assumption) (by omega) ?_
        refine jm_gen (fun M1 hM1 => ?_)
        obtain ⟨g1, T1, q1, q2, q3, q4, q5, q7, q8, q12⟩ := Tok_s4 T1 hM1
        have f1 := fr_tr f1 (fr_up hM1 ⟨by omega, by omega⟩)
        obtain ⟨hnb, hOb, hYb, hNb, hSb, hKb⟩ := id T1
        refine jr_vret (pc := 172) h hRt dX6_next_172 (Nat.le_of_ble_eq_true rfl) (Nat.le_of_ble_eq_true rfl) ?_
        refine ⟨⟨rfl, rfl⟩, _, (show Tok _ n b _ (tokW bs F A) bs nm ns nn from ew0 ▸ T1), f1, by omega, by omega, ?_, ?_, ?_, by omega, by omega, by omega⟩
        · unfold tokT; (repeat' split) <;> omega
        · unfold tokS; (repeat' split) <;> omega
        · unfold tokV; rw [if_pos (by omega)]; omega
  have tL : ∀ (dq : Nat) (M1 : jdM) (g1 : Nat → Int) (w1 : Int), (Tok M1 n b g1 w1 bs nm ns nn) → (fr (TokS b) M M1) → (g1 1 = g 1) → (g1 7 = g 7) → (g1 8 = g 8) → (g1 12 = g 12) → (g1 2 = F) → (g1 5 = 0) → (F ≤ g1 3 ∧ g1 3 ≤ 900) → (runI 97 122 bs (g 1) (g1 3) = A) → (w1 = acc 256 0 bs F (g1 3 - F).toNat) → (901 - g1 3).toNat < dq → J κ 1 0 0 n 64 [some (.ref b)] [] M1 := by
    intro dq
    induction dq with
    | zero => intro M1 g1 w1 T1 f1 k1 k7 k8 k12 e2 e5 r3 hr hw hd; omega
    | succ dq ih =>
      intro M1 g1 w1 T1 f1 k1 k7 k8 k12 e2 e5 r3 hr hw hd
      obtain ⟨x0, hx0⟩ : ∃ x0, x0 = g1 3 := ⟨_, rfl⟩
      have hbe : bs (g1 3).toNat = bs x0.toNat := by rw [hx0]
      have hbt := hby x0.toNat
      rw [← hx0] at hr hw
      obtain ⟨hnb, hOb, hYb, hNb, hSb, hKb⟩ := id T1
      refine jr_aload_n (pc := 64) h dX6_next_64 rfl ?_
      refine gf_X6_36 (pc := 65) h dX6_next_65 (by assumption) (by omega) ?_
      refine jr_aload_n (pc := 68) h dX6_next_68 rfl ?_
      refine gf_X6_32 (pc := 69) h dX6_next_69 (by assumption) (by omega) ?_
      refine jr_icmp_ge (pc := 72) h 138 dX6_next_72 (by decide) (by omega) (by omega) (fun c_72 => ?_) (fun c_72 => ?_)
      · skip
        have e3 : x0 = A := by rw [← hr, runI_e (by omega)]
        rw [e3] at hw
        exact tX M1 g1 w1 T1 f1 (by omega) (by omega) (by omega) (by omega) (by omega) (by omega) (by omega) hw
      · skip
        refine jr_aload_n (pc := 75) h dX6_next_75 rfl ?_
        refine gf_X6_9 (pc := 76) h dX6_next_76 (by assumption) (by omega) ?_
        refine jr_aload_n (pc := 79) h dX6_next_79 rfl ?_
        refine gf_X6_36 (pc := 80) h dX6_next_80 (by assumption) (by omega) ?_
        refine jr_bald (pc := 83) h dX6_next_83 (by assumption) (by omega) (by omega) ?_
        refine jr_bipush (pc := 84) h dX6_next_84 bp_97 ?_
        refine jr_icmp_lt (pc := 86) h 138 dX6_next_86 (by decide) (by omega) (by omega) (fun c_86 => ?_) (fun c_86 => ?_)
        · skip
          have e3 : x0 = A := by rw [← hr, runI_e (by omega)]
          rw [e3] at hw
          exact tX M1 g1 w1 T1 f1 (by omega) (by omega) (by omega) (by omega) (by omega) (by omega) (by omega) hw
        · skip
          refine jr_aload_n (pc := 89) h dX6_next_89 rfl ?_
          refine gf_X6_9 (pc := 90) h dX6_next_90 (by assumption) (by omega) ?_
          refine jr_aload_n (pc := 93) h dX6_next_93 rfl ?_
          refine gf_X6_36 (pc := 94) h dX6_next_94 (by assumption) (by omega) ?_
          refine jr_bald (pc := 97) h dX6_next_97 (by assumption) (by omega) (by omega) ?_
          refine jr_bipush (pc := 98) h dX6_next_98 bp_122 ?_
          refine jr_icmp_gt (pc := 100) h 138 dX6_next_100 (by decide) (by omega) (by omega) (fun c_100 => ?_) (fun c_100 => ?_)
          · skip
            have e3 : x0 = A := by rw [← hr, runI_e (by omega)]
            rw [e3] at hw
            exact tX M1 g1 w1 T1 f1 (by omega) (by omega) (by omega) (by omega) (by omega) (by omega) (by omega) hw
          · skip
            refine jr_aload_n (pc := 103) h dX6_next_103 rfl ?_
            refine jr_aload_n (pc := 104) h dX6_next_104 rfl ?_
            refine gf_X6_57 (pc := 105) h dX6_next_105 (by assumption) (by omega) ?_
            refine jr_bipush (pc := 108) h dX6_next_108 bp_8 ?_
            refine jr_lshl (pc := 110) h dX6_next_110 ?_
            refine jr_aload_n (pc := 111) h dX6_next_111 rfl ?_
            refine gf_X6_9 (pc := 112) h dX6_next_112 (by assumption) (by omega) ?_
            refine jr_aload_n (pc := 115) h dX6_next_115 rfl ?_
            refine gf_X6_36 (pc := 116) h dX6_next_116 (by assumption) (by omega) ?_
            refine jr_bald (pc := 119) h dX6_next_119 (by assumption) (by omega) (by omega) ?_
            refine jr_i2l (pc := 120) h dX6_next_120 (by omega) ?_
            refine jr_lor (pc := 121) h dX6_next_121 ?_
            rw [jl_shl (by omega)]
            refine pf_X6_57 (pc := 122) h dX6_next_122 (by assumption) (by omega) ?_
            refine jm_gen (fun M1 hM1 => ?_)
            obtain ⟨w1, T1, ew⟩ := Tok_s6 T1 hM1
            have f1 := fr_tr f1 (fr_up hM1 ⟨by omega, by omega⟩)
            obtain ⟨hnb, hOb, hYb, hNb, hSb, hKb⟩ := id T1
            refine jr_aload_n (pc := 125) h dX6_next_125 rfl ?_
            refine jr_dup (pc := 126) h dX6_next_126 rfl ?_
            refine gf_X6_36 (pc := 127) h dX6_next_127 (by assumption) (by omega) ?_
            refine jr_iconst (pc := 130) h dX6_next_130 ?_
            refine jr_iadd (pc := 131) h dX6_next_131 ?_
            refine pf_X6_36 (pc := 132) h dX6_next_132 (by assumption) (by omega) ?_
            refine jm_gen (fun M1 hM1 => ?_)
            obtain ⟨g1, T1, q1, q2, q3, q4, q5, q7, q8, q12⟩ := Tok_s3 T1 hM1
            have f1 := fr_tr f1 (fr_up hM1 ⟨by omega, by omega⟩)
            obtain ⟨hnb, hOb, hYb, hNb, hSb, hKb⟩ := id T1
            refine jr_goto (pc := 135) h 64 dX6_next_135 (by decide) ?_
            refine ih M1 g1 w1 T1 f1 (by omega) (by omega) (by omega) (by omega) (by omega) (by omega) (by omega) ?_ ?_ (by omega)
            · rw [show g1 3 = x0 + 1 by omega, ← runI_s (by omega) (by omega), hr]
            · rw [show g1 3 = x0 + 1 by omega, acc_s (by omega)]; omega
  have t46 : ∀ (M1 : jdM) (g1 : Nat → Int) (w1 : Int), (Tok M1 n b g1 w1 bs nm ns nn) → (fr (TokS b) M M1) → (g1 1 = g 1) → (g1 7 = g 7) → (g1 8 = g 8) → (g1 12 = g 12) → (g1 2 = F) → J κ 1 0 0 n 46 [some (.ref b)] [] M1 := by
    intro M1 g1 w1 T1 f1 k1 k7 k8 k12 e2
    obtain ⟨hnb, hOb, hYb, hNb, hSb, hKb⟩ := id T1
    refine jr_aload_n (pc := 46) h dX6_next_46 rfl ?_
    refine jr_aload_n (pc := 47) h dX6_next_47 rfl ?_
    refine gf_X6_54 (pc := 48) h dX6_next_48 (by assumption) (by omega) ?_
    refine pf_X6_36 (pc := 51) h dX6_next_51 (by assumption) (by omega) ?_
    refine jm_gen (fun M1 hM1 => ?_)
    obtain ⟨g1, T1, q1, q2, q3, q4, q5, q7, q8, q12⟩ := Tok_s3 T1 hM1
    have f1 := fr_tr f1 (fr_up hM1 ⟨by omega, by omega⟩)
    obtain ⟨hnb, hOb, hYb, hNb, hSb, hKb⟩ := id T1
    refine jr_aload_n (pc := 54) h dX6_next_54 rfl ?_
    refine jr_lconst (pc := 55) h dX6_next_55 ?_
    refine pf_X6_57 (pc := 56) h dX6_next_56 (by assumption) (by omega) ?_
    refine jm_gen (fun M1 hM1 => ?_)
    obtain ⟨w1, T1, ew⟩ := Tok_s6 T1 hM1
    have f1 := fr_tr f1 (fr_up hM1 ⟨by omega, by omega⟩)
    obtain ⟨hnb, hOb, hYb, hNb, hSb, hKb⟩ := id T1
    refine jr_aload_n (pc := 59) h dX6_next_59 rfl ?_
    refine jr_iconst (pc := 60) h dX6_next_60 ?_
    refine pf_X6_61 (pc := 61) h dX6_next_61 (by assumption) (by omega) ?_
    refine jm_gen (fun M1 hM1 => ?_)
    obtain ⟨g1, T1, q1, q2, q3, q4, q5, q7, q8, q12⟩ := Tok_s5 T1 hM1
    have f1 := fr_tr f1 (fr_up hM1 ⟨by omega, by omega⟩)
    obtain ⟨hnb, hOb, hYb, hNb, hSb, hKb⟩ := id T1
    refine tL _ M1 g1 w1 T1 f1 (by omega) (by omega) (by omega) (by omega) (by omega) (by omega) (by omega) ?_ ?_ (Nat.lt_succ_self _)
    · rw [show g1 3 = F by omega, hA]
    · rw [show g1 3 = F by omega, acc_0 (Int.le_refl _)]; omega
  have tS : ∀ (dq : Nat) (M1 : jdM) (g1 : Nat → Int) (w1 : Int), (Tok M1 n b g1 w1 bs nm ns nn) → (fr (TokS b) M M1) → (g1 1 = g 1) → (g1 7 = g 7) → (g1 8 = g 8) → (g1 12 = g 12) → (0 ≤ g1 2 ∧ g1 2 ≤ 900) → (runI 32 32 bs (g 1) (g1 2) = F) → (901 - g1 2).toNat < dq → J κ 1 0 0 n 8 [some (.ref b)] [] M1 := by
    intro dq
    induction dq with
    | zero => intro M1 g1 w1 T1 f1 k1 k7 k8 k12 r2 hr hd; omega
    | succ dq ih =>
      intro M1 g1 w1 T1 f1 k1 k7 k8 k12 r2 hr hd
      obtain ⟨x0, hx0⟩ : ∃ x0, x0 = g1 2 := ⟨_, rfl⟩
      have hbe : bs (g1 2).toNat = bs x0.toNat := by rw [hx0]
      have hbt := hby x0.toNat
      rw [← hx0] at hr
      obtain ⟨hnb, hOb, hYb, hNb, hSb, hKb⟩ := id T1
      refine jr_aload_n (pc := 8) h dX6_next_8 rfl ?_
      refine gf_X6_54 (pc := 9) h dX6_next_9 (by assumption) (by omega) ?_
      refine jr_aload_n (pc := 12) h dX6_next_12 rfl ?_
      refine gf_X6_32 (pc := 13) h dX6_next_13 (by assumption) (by omega) ?_
      refine jr_icmp_ge (pc := 16) h 46 dX6_next_16 (by decide) (by omega) (by omega) (fun c_16 => ?_) (fun c_16 => ?_)
      · skip
        exact t46 M1 g1 w1 T1 f1 (by omega) (by omega) (by omega) (by omega) (by rw [← hr, runI_e (by omega)]; omega)
      · skip
        refine jr_aload_n (pc := 19) h dX6_next_19 rfl ?_
        refine gf_X6_9 (pc := 20) h dX6_next_20 (by assumption) (by omega) ?_
        refine jr_aload_n (pc := 23) h dX6_next_23 rfl ?_
        refine gf_X6_54 (pc := 24) h dX6_next_24 (by assumption) (by omega) ?_
        refine jr_bald (pc := 27) h dX6_next_27 (by assumption) (by omega) (by omega) ?_
        refine jr_bipush (pc := 28) h dX6_next_28 bp_32 ?_
        refine jr_icmp_ne (pc := 30) h 46 dX6_next_30 (by decide) (by omega) (by omega) (fun c_30 => ?_) (fun c_30 => ?_)
        · skip
          exact t46 M1 g1 w1 T1 f1 (by omega) (by omega) (by omega) (by omega) (by rw [← hr, runI_e (by omega)]; omega)
        · skip
          refine jr_aload_n (pc := 33) h dX6_next_33 rfl ?_
          refine jr_dup (pc := 34) h dX6_next_34 rfl ?_
          refine gf_X6_54 (pc := 35) h dX6_next_35 (by assumption) (by omega) ?_
          refine jr_iconst (pc := 38) h dX6_next_38 ?_
          refine jr_iadd (pc := 39) h dX6_next_39 ?_
          refine pf_X6_54 (pc := 40) h dX6_next_40 (by assumption) (by omega) ?_
          refine jm_gen (fun M1 hM1 => ?_)
          obtain ⟨g1, T1, q1, q2, q3, q4, q5, q7, q8, q12⟩ := Tok_s2 T1 hM1
          have f1 := fr_tr f1 (fr_up hM1 ⟨by omega, by omega⟩)
          obtain ⟨hnb, hOb, hYb, hNb, hSb, hKb⟩ := id T1
          refine jr_goto (pc := 43) h 8 dX6_next_43 (by decide) ?_
          refine ih M1 g1 w1 T1 f1 (by omega) (by omega) (by omega) (by omega) (by omega) ?_ (by omega)
          rw [show g1 2 = x0 + 1 by omega, ← runI_s (by omega) (by omega), hr]
  have T1 := hTk
  have f1 : fr (TokS b) M M := fr_rf
  refine jr_aload_n (pc := 0) h dX6_next_0 rfl ?_
  refine jr_aload_n (pc := 1) h dX6_next_1 rfl ?_
  refine gf_X6_36 (pc := 2) h dX6_next_2 (by assumption) (by omega) ?_
  refine pf_X6_54 (pc := 5) h dX6_next_5 (by assumption) (by omega) ?_
  refine jm_gen (fun M1 hM1 => ?_)
  obtain ⟨g1, T1, q1, q2, q3, q4, q5, q7, q8, q12⟩ := Tok_s2 T1 hM1
  have f1 := fr_tr f1 (fr_up hM1 ⟨by omega, by omega⟩)
  obtain ⟨hnb, hOb, hYb, hNb, hSb, hKb⟩ := id T1
  exact tS _ M1 g1 w T1 f1 (by omega) (by omega) (by omega) (by omega) (by omega) (by rw [show g1 2 = g 3 by omega, hF]) (Nat.lt_succ_self _)
