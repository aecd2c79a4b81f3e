/-! 35: Teller: names of kinds are kept -/
theorem nnP_N {bs : Nat → Int} {s x : Int} {p : TS} (h : NO p) (hx : s = 2 → x ≤ 3) : NO (nnP bs s x p) := by
  unfold nnP
  split
  · exact h
  · split
    · exact NO_of h flP_n
    · split
      · exact NO_of h flP_n
      · intro i hi
        have hi2 : up p.2.2.2.1 (p.1 12).toNat s i = 2 := hi
        show up p.2.2.2.2 (p.1 12).toNat x i ≤ 3
        by_cases q : i = (p.1 12).toNat
        · rw [q, up_eq] at hi2
          rw [q, up_eq]
          exact hx hi2
        · rw [up_ne q] at hi2
          rw [up_ne q]
          exact h i hi2
theorem esP_n {bs : Nat → Int} {c : Int} {p : TS} : (esP bs c p).2.2 = p.2.2 := by
  unfold esP
  (repeat' split) <;> first | rfl | exact flP_n
theorem enP_n {bs : Nat → Int} {s : Int} {p : TS} : (enP bs s p).2.2.2 = p.2.2 := by
  unfold enP
  split
  · show (snP bs s p).2.2.2 = _
    exact snP_n
  · exact snP_n
theorem trP_n {bs ct td : Nat → Int} {p : TS} : (trP bs ct td p).2.2.2 = p.2.2 := by
  unfold trP trA
  (repeat' split) <;> first | rfl | exact flP_n
theorem bgP_n {a : Int} {p : TS} : (bgP a p).2.2 = p.2.2 := rfl
