/-! 53: the reference: a flight, its cells, and what they say of the class's -/
def fX8 (f : Nat) (g : Nat → Int) : Nat → Value
  | 0 => jI (g 0)
  | 1 => jI (g 1)
  | 2 => jI (g 2)
  | 3 => jI (g 3)
  | 4 => jI (g 4)
  | 5 => jI (g 5)
  | 6 => jI (g 6)
  | 7 => jI (g 7)
  | 8 => jI (g 8)
  | 9 => jI (g 9)
  | 10 => jI (g 10)
  | 11 => jI (g 11)
  | 12 => jI (g 12)
  | 13 => jI (g 13)
  | 14 => jI (g 14)
  | 15 => jI (g 15)
  | 16 => jI (g 16)
  | 17 => .ref (f + 1)
  | 18 => .ref (f + 2)
  | 19 => .ref (f + 3)
  | 20 => .ref (f + 4)
  | 21 => .ref (f + 5)
  | 22 => .ref (f + 6)
  | 23 => .ref (f + 7)
  | 24 => .ref (f + 8)
  | 25 => .ref (f + 9)
  | 26 => .ref (f + 10)
  | 27 => .ref (f + 11)
  | 28 => .ref (f + 12)
  | 29 => .ref (f + 13)
  | 30 => .ref (f + 14)
  | 31 => .ref (f + 15)
  | 32 => .ref (f + 16)
  | 33 => .ref (f + 17)
  | 34 => .ref (f + 18)
  | 35 => .ref (f + 19)
  | 36 => .ref (f + 20)
  | 37 => .ref (f + 21)
  | 38 => .ref (f + 22)
  | 39 => .ref (f + 23)
  | 40 => .ref (f + 24)
  | 41 => .ref (f + 25)
  | 42 => .ref (f + 26)
  | 43 => .ref (f + 27)
  | 44 => .ref (f + 28)
  | 45 => .ref (f + 29)
  | 46 => .ref (f + 30)
  | _ => .null
theorem fX8_0 {f : Nat} {g : Nat → Int} {x : Int} : up (fX8 f g) 0 (jI x) = fX8 f (up g 0 x) := by
  funext i
  match i with
  | 0 => rfl
  | 1 => rfl
  | 2 => rfl
  | 3 => rfl
  | 4 => rfl
  | 5 => rfl
  | 6 => rfl
  | 7 => rfl
  | 8 => rfl
  | 9 => rfl
  | 10 => rfl
  | 11 => rfl
  | 12 => rfl
  | 13 => rfl
  | 14 => rfl
  | 15 => rfl
  | 16 => rfl
  | 17 => rfl
  | 18 => rfl
  | 19 => rfl
  | 20 => rfl
  | 21 => rfl
  | 22 => rfl
  | 23 => rfl
  | 24 => rfl
  | 25 => rfl
  | 26 => rfl
  | 27 => rfl
  | 28 => rfl
  | 29 => rfl
  | 30 => rfl
  | 31 => rfl
  | 32 => rfl
  | 33 => rfl
  | 34 => rfl
  | 35 => rfl
  | 36 => rfl
  | 37 => rfl
  | 38 => rfl
  | 39 => rfl
  | 40 => rfl
  | 41 => rfl
  | 42 => rfl
  | 43 => rfl
  | 44 => rfl
  | 45 => rfl
  | 46 => rfl
  | i + 47 => rfl
theorem fX8_1 {f : Nat} {g : Nat → Int} {x : Int} : up (fX8 f g) 1 (jI x) = fX8 f (up g 1 x) := by
  funext i
  match i with
  | 0 => rfl
  | 1 => rfl
  | 2 => rfl
  | 3 => rfl
  | 4 => rfl
  | 5 => rfl
  | 6 => rfl
  | 7 => rfl
  | 8 => rfl
  | 9 => rfl
  | 10 => rfl
  | 11 => rfl
  | 12 => rfl
  | 13 => rfl
  | 14 => rfl
  | 15 => rfl
  | 16 => rfl
  | 17 => rfl
  | 18 => rfl
  | 19 => rfl
  | 20 => rfl
  | 21 => rfl
  | 22 => rfl
  | 23 => rfl
  | 24 => rfl
  | 25 => rfl
  | 26 => rfl
  | 27 => rfl
  | 28 => rfl
  | 29 => rfl
  | 30 => rfl
  | 31 => rfl
  | 32 => rfl
  | 33 => rfl
  | 34 => rfl
  | 35 => rfl
  | 36 => rfl
  | 37 => rfl
  | 38 => rfl
  | 39 => rfl
  | 40 => rfl
  | 41 => rfl
  | 42 => rfl
  | 43 => rfl
  | 44 => rfl
  | 45 => rfl
  | 46 => rfl
  | i + 47 => rfl
theorem fX8_2 {f : Nat} {g : Nat → Int} {x : Int} : up (fX8 f g) 2 (jI x) = fX8 f (up g 2 x) := by
  funext i
  match i with
  | 0 => rfl
  | 1 => rfl
  | 2 => rfl
  | 3 => rfl
  | 4 => rfl
  | 5 => rfl
  | 6 => rfl
  | 7 => rfl
  | 8 => rfl
  | 9 => rfl
  | 10 => rfl
  | 11 => rfl
  | 12 => rfl
  | 13 => rfl
  | 14 => rfl
  | 15 => rfl
  | 16 => rfl
  | 17 => rfl
  | 18 => rfl
  | 19 => rfl
  | 20 => rfl
  | 21 => rfl
  | 22 => rfl
  | 23 => rfl
  | 24 => rfl
  | 25 => rfl
  | 26 => rfl
  | 27 => rfl
  | 28 => rfl
  | 29 => rfl
  | 30 => rfl
  | 31 => rfl
  | 32 => rfl
  | 33 => rfl
  | 34 => rfl
  | 35 => rfl
  | 36 => rfl
  | 37 => rfl
  | 38 => rfl
  | 39 => rfl
  | 40 => rfl
  | 41 => rfl
  | 42 => rfl
  | 43 => rfl
  | 44 => rfl
  | 45 => rfl
  | 46 => rfl
  | i + 47 => rfl
theorem fX8_3 {f : Nat} {g : Nat → Int} {x : Int} : up (fX8 f g) 3 (jI x) = fX8 f (up g 3 x) := by
  funext i
  match i with
  | 0 => rfl
  | 1 => rfl
  | 2 => rfl
  | 3 => rfl
  | 4 => rfl
  | 5 => rfl
  | 6 => rfl
  | 7 => rfl
  | 8 => rfl
  | 9 => rfl
  | 10 => rfl
  | 11 => rfl
  | 12 => rfl
  | 13 => rfl
  | 14 => rfl
  | 15 => rfl
  | 16 => rfl
  | 17 => rfl
  | 18 => rfl
  | 19 => rfl
  | 20 => rfl
  | 21 => rfl
  | 22 => rfl
  | 23 => rfl
  | 24 => rfl
  | 25 => rfl
  | 26 => rfl
  | 27 => rfl
  | 28 => rfl
  | 29 => rfl
  | 30 => rfl
  | 31 => rfl
  | 32 => rfl
  | 33 => rfl
  | 34 => rfl
  | 35 => rfl
  | 36 => rfl
  | 37 => rfl
  | 38 => rfl
  | 39 => rfl
  | 40 => rfl
  | 41 => rfl
  | 42 => rfl
  | 43 => rfl
  | 44 => rfl
  | 45 => rfl
  | 46 => rfl
  | i + 47 => rfl
theorem fX8_4 {f : Nat} {g : Nat → Int} {x : Int} : up (fX8 f g) 4 (jI x) = fX8 f (up g 4 x) := by
  funext i
  match i with
  | 0 => rfl
  | 1 => rfl
  | 2 => rfl
  | 3 => rfl
  | 4 => rfl
  | 5 => rfl
  | 6 => rfl
  | 7 => rfl
  | 8 => rfl
  | 9 => rfl
  | 10 => rfl
  | 11 => rfl
  | 12 => rfl
  | 13 => rfl
  | 14 => rfl
  | 15 => rfl
  | 16 => rfl
  | 17 => rfl
  | 18 => rfl
  | 19 => rfl
  | 20 => rfl
  | 21 => rfl
  | 22 => rfl
  | 23 => rfl
  | 24 => rfl
  | 25 => rfl
  | 26 => rfl
  | 27 => rfl
  | 28 => rfl
  | 29 => rfl
  | 30 => rfl
  | 31 => rfl
  | 32 => rfl
  | 33 => rfl
  | 34 => rfl
  | 35 => rfl
  | 36 => rfl
  | 37 => rfl
  | 38 => rfl
  | 39 => rfl
  | 40 => rfl
  | 41 => rfl
  | 42 => rfl
  | 43 => rfl
  | 44 => rfl
  | 45 => rfl
  | 46 => rfl
  | i + 47 => rfl
theorem fX8_5 {f : Nat} {g : Nat → Int} {x : Int} : up (fX8 f g) 5 (jI x) = fX8 f (up g 5 x) := by
  funext i
  match i with
  | 0 => rfl
  | 1 => rfl
  | 2 => rfl
  | 3 => rfl
  | 4 => rfl
  | 5 => rfl
  | 6 => rfl
  | 7 => rfl
  | 8 => rfl
  | 9 => rfl
  | 10 => rfl
  | 11 => rfl
  | 12 => rfl
  | 13 => rfl
  | 14 => rfl
  | 15 => rfl
  | 16 => rfl
  | 17 => rfl
  | 18 => rfl
  | 19 => rfl
  | 20 => rfl
  | 21 => rfl
  | 22 => rfl
  | 23 => rfl
  | 24 => rfl
  | 25 => rfl
  | 26 => rfl
  | 27 => rfl
  | 28 => rfl
  | 29 => rfl
  | 30 => rfl
  | 31 => rfl
  | 32 => rfl
  | 33 => rfl
  | 34 => rfl
  | 35 => rfl
  | 36 => rfl
  | 37 => rfl
  | 38 => rfl
  | 39 => rfl
  | 40 => rfl
  | 41 => rfl
  | 42 => rfl
  | 43 => rfl
  | 44 => rfl
  | 45 => rfl
  | 46 => rfl
  | i + 47 => rfl
theorem fX8_6 {f : Nat} {g : Nat → Int} {x : Int} : up (fX8 f g) 6 (jI x) = fX8 f (up g 6 x) := by
  funext i
  match i with
  | 0 => rfl
  | 1 => rfl
  | 2 => rfl
  | 3 => rfl
  | 4 => rfl
  | 5 => rfl
  | 6 => rfl
  | 7 => rfl
  | 8 => rfl
  | 9 => rfl
  | 10 => rfl
  | 11 => rfl
  | 12 => rfl
  | 13 => rfl
  | 14 => rfl
  | 15 => rfl
  | 16 => rfl
  | 17 => rfl
  | 18 => rfl
  | 19 => rfl
  | 20 => rfl
  | 21 => rfl
  | 22 => rfl
  | 23 => rfl
  | 24 => rfl
  | 25 => rfl
  | 26 => rfl
  | 27 => rfl
  | 28 => rfl
  | 29 => rfl
  | 30 => rfl
  | 31 => rfl
  | 32 => rfl
  | 33 => rfl
  | 34 => rfl
  | 35 => rfl
  | 36 => rfl
  | 37 => rfl
  | 38 => rfl
  | 39 => rfl
  | 40 => rfl
  | 41 => rfl
  | 42 => rfl
  | 43 => rfl
  | 44 => rfl
  | 45 => rfl
  | 46 => rfl
  | i + 47 => rfl
theorem fX8_7 {f : Nat} {g : Nat → Int} {x : Int} : up (fX8 f g) 7 (jI x) = fX8 f (up g 7 x) := by
  funext i
  match i with
  | 0 => rfl
  | 1 => rfl
  | 2 => rfl
  | 3 => rfl
  | 4 => rfl
  | 5 => rfl
  | 6 => rfl
  | 7 => rfl
  | 8 => rfl
  | 9 => rfl
  | 10 => rfl
  | 11 => rfl
  | 12 => rfl
  | 13 => rfl
  | 14 => rfl
  | 15 => rfl
  | 16 => rfl
  | 17 => rfl
  | 18 => rfl
  | 19 => rfl
  | 20 => rfl
  | 21 => rfl
  | 22 => rfl
  | 23 => rfl
  | 24 => rfl
  | 25 => rfl
  | 26 => rfl
  | 27 => rfl
  | 28 => rfl
  | 29 => rfl
  | 30 => rfl
  | 31 => rfl
  | 32 => rfl
  | 33 => rfl
  | 34 => rfl
  | 35 => rfl
  | 36 => rfl
  | 37 => rfl
  | 38 => rfl
  | 39 => rfl
  | 40 => rfl
  | 41 => rfl
  | 42 => rfl
  | 43 => rfl
  | 44 => rfl
  | 45 => rfl
  | 46 => rfl
  | i + 47 => rfl
theorem fX8_8 {f : Nat} {g : Nat → Int} {x : Int} : up (fX8 f g) 8 (jI x) = fX8 f (up g 8 x) := by
  funext i
  match i with
  | 0 => rfl
  | 1 => rfl
  | 2 => rfl
  | 3 => rfl
  | 4 => rfl
  | 5 => rfl
  | 6 => rfl
  | 7 => rfl
  | 8 => rfl
  | 9 => rfl
  | 10 => rfl
  | 11 => rfl
  | 12 => rfl
  | 13 => rfl
  | 14 => rfl
  | 15 => rfl
  | 16 => rfl
  | 17 => rfl
  | 18 => rfl
  | 19 => rfl
  | 20 => rfl
  | 21 => rfl
  | 22 => rfl
  | 23 => rfl
  | 24 => rfl
  | 25 => rfl
  | 26 => rfl
  | 27 => rfl
  | 28 => rfl
  | 29 => rfl
  | 30 => rfl
  | 31 => rfl
  | 32 => rfl
  | 33 => rfl
  | 34 => rfl
  | 35 => rfl
  | 36 => rfl
  | 37 => rfl
  | 38 => rfl
  | 39 => rfl
  | 40 => rfl
  | 41 => rfl
  | 42 => rfl
  | 43 => rfl
  | 44 => rfl
  | 45 => rfl
  | 46 => rfl
  | i + 47 => rfl
theorem fX8_9 {f : Nat} {g : Nat → Int} {x : Int} : up (fX8 f g) 9 (jI x) = fX8 f (up g 9 x) := by
  funext i
  match i with
  | 0 => rfl
  | 1 => rfl
  | 2 => rfl
  | 3 => rfl
  | 4 => rfl
  | 5 => rfl
  | 6 => rfl
  | 7 => rfl
  | 8 => rfl
  | 9 => rfl
  | 10 => rfl
  | 11 => rfl
  | 12 => rfl
  | 13 => rfl
  | 14 => rfl
  | 15 => rfl
  | 16 => rfl
  | 17 => rfl
  | 18 => rfl
  | 19 => rfl
  | 20 => rfl
  | 21 => rfl
  | 22 => rfl
  | 23 => rfl
  | 24 => rfl
  | 25 => rfl
  | 26 => rfl
  | 27 => rfl
  | 28 => rfl
  | 29 => rfl
  | 30 => rfl
  | 31 => rfl
  | 32 => rfl
  | 33 => rfl
  | 34 => rfl
  | 35 => rfl
  | 36 => rfl
  | 37 => rfl
  | 38 => rfl
  | 39 => rfl
  | 40 => rfl
  | 41 => rfl
  | 42 => rfl
  | 43 => rfl
  | 44 => rfl
  | 45 => rfl
  | 46 => rfl
  | i + 47 => rfl
theorem fX8_10 {f : Nat} {g : Nat → Int} {x : Int} : up (fX8 f g) 10 (jI x) = fX8 f (up g 10 x) := by
  funext i
  match i with
  | 0 => rfl
  | 1 => rfl
  | 2 => rfl
  | 3 => rfl
  | 4 => rfl
  | 5 => rfl
  | 6 => rfl
  | 7 => rfl
  | 8 => rfl
  | 9 => rfl
  | 10 => rfl
  | 11 => rfl
  | 12 => rfl
  | 13 => rfl
  | 14 => rfl
  | 15 => rfl
  | 16 => rfl
  | 17 => rfl
  | 18 => rfl
  | 19 => rfl
  | 20 => rfl
  | 21 => rfl
  | 22 => rfl
  | 23 => rfl
  | 24 => rfl
  | 25 => rfl
  | 26 => rfl
  | 27 => rfl
  | 28 => rfl
  | 29 => rfl
  | 30 => rfl
  | 31 => rfl
  | 32 => rfl
  | 33 => rfl
  | 34 => rfl
  | 35 => rfl
  | 36 => rfl
  | 37 => rfl
  | 38 => rfl
  | 39 => rfl
  | 40 => rfl
  | 41 => rfl
  | 42 => rfl
  | 43 => rfl
  | 44 => rfl
  | 45 => rfl
  | 46 => rfl
  | i + 47 => rfl
theorem fX8_11 {f : Nat} {g : Nat → Int} {x : Int} : up (fX8 f g) 11 (jI x) = fX8 f (up g 11 x) := by
  funext i
  match i with
  | 0 => rfl
  | 1 => rfl
  | 2 => rfl
  | 3 => rfl
  | 4 => rfl
  | 5 => rfl
  | 6 => rfl
  | 7 => rfl
  | 8 => rfl
  | 9 => rfl
  | 10 => rfl
  | 11 => rfl
  | 12 => rfl
  | 13 => rfl
  | 14 => rfl
  | 15 => rfl
  | 16 => rfl
  | 17 => rfl
  | 18 => rfl
  | 19 => rfl
  | 20 => rfl
  | 21 => rfl
  | 22 => rfl
  | 23 => rfl
  | 24 => rfl
  | 25 => rfl
  | 26 => rfl
  | 27 => rfl
  | 28 => rfl
  | 29 => rfl
  | 30 => rfl
  | 31 => rfl
  | 32 => rfl
  | 33 => rfl
  | 34 => rfl
  | 35 => rfl
  | 36 => rfl
  | 37 => rfl
  | 38 => rfl
  | 39 => rfl
  | 40 => rfl
  | 41 => rfl
  | 42 => rfl
  | 43 => rfl
  | 44 => rfl
  | 45 => rfl
  | 46 => rfl
  | i + 47 => rfl
theorem fX8_12 {f : Nat} {g : Nat → Int} {x : Int} : up (fX8 f g) 12 (jI x) = fX8 f (up g 12 x) := by
  funext i
  match i with
  | 0 => rfl
  | 1 => rfl
  | 2 => rfl
  | 3 => rfl
  | 4 => rfl
  | 5 => rfl
  | 6 => rfl
  | 7 => rfl
  | 8 => rfl
  | 9 => rfl
  | 10 => rfl
  | 11 => rfl
  | 12 => rfl
  | 13 => rfl
  | 14 => rfl
  | 15 => rfl
  | 16 => rfl
  | 17 => rfl
  | 18 => rfl
  | 19 => rfl
  | 20 => rfl
  | 21 => rfl
  | 22 => rfl
  | 23 => rfl
  | 24 => rfl
  | 25 => rfl
  | 26 => rfl
  | 27 => rfl
  | 28 => rfl
  | 29 => rfl
  | 30 => rfl
  | 31 => rfl
  | 32 => rfl
  | 33 => rfl
  | 34 => rfl
  | 35 => rfl
  | 36 => rfl
  | 37 => rfl
  | 38 => rfl
  | 39 => rfl
  | 40 => rfl
  | 41 => rfl
  | 42 => rfl
  | 43 => rfl
  | 44 => rfl
  | 45 => rfl
  | 46 => rfl
  | i + 47 => rfl
theorem fX8_13 {f : Nat} {g : Nat → Int} {x : Int} : up (fX8 f g) 13 (jI x) = fX8 f (up g 13 x) := by
  funext i
  match i with
  | 0 => rfl
  | 1 => rfl
  | 2 => rfl
  | 3 => rfl
  | 4 => rfl
  | 5 => rfl
  | 6 => rfl
  | 7 => rfl
  | 8 => rfl
  | 9 => rfl
  | 10 => rfl
  | 11 => rfl
  | 12 => rfl
  | 13 => rfl
  | 14 => rfl
  | 15 => rfl
  | 16 => rfl
  | 17 => rfl
  | 18 => rfl
  | 19 => rfl
  | 20 => rfl
  | 21 => rfl
  | 22 => rfl
  | 23 => rfl
  | 24 => rfl
  | 25 => rfl
  | 26 => rfl
  | 27 => rfl
  | 28 => rfl
  | 29 => rfl
  | 30 => rfl
  | 31 => rfl
  | 32 => rfl
  | 33 => rfl
  | 34 => rfl
  | 35 => rfl
  | 36 => rfl
  | 37 => rfl
  | 38 => rfl
  | 39 => rfl
  | 40 => rfl
  | 41 => rfl
  | 42 => rfl
  | 43 => rfl
  | 44 => rfl
  | 45 => rfl
  | 46 => rfl
  | i + 47 => rfl
theorem fX8_14 {f : Nat} {g : Nat → Int} {x : Int} : up (fX8 f g) 14 (jI x) = fX8 f (up g 14 x) := by
  funext i
  match i with
  | 0 => rfl
  | 1 => rfl
  | 2 => rfl
  | 3 => rfl
  | 4 => rfl
  | 5 => rfl
  | 6 => rfl
  | 7 => rfl
  | 8 => rfl
  | 9 => rfl
  | 10 => rfl
  | 11 => rfl
  | 12 => rfl
  | 13 => rfl
  | 14 => rfl
  | 15 => rfl
  | 16 => rfl
  | 17 => rfl
  | 18 => rfl
  | 19 => rfl
  | 20 => rfl
  | 21 => rfl
  | 22 => rfl
  | 23 => rfl
  | 24 => rfl
  | 25 => rfl
  | 26 => rfl
  | 27 => rfl
  | 28 => rfl
  | 29 => rfl
  | 30 => rfl
  | 31 => rfl
  | 32 => rfl
  | 33 => rfl
  | 34 => rfl
  | 35 => rfl
  | 36 => rfl
  | 37 => rfl
  | 38 => rfl
  | 39 => rfl
  | 40 => rfl
  | 41 => rfl
  | 42 => rfl
  | 43 => rfl
  | 44 => rfl
  | 45 => rfl
  | 46 => rfl
  | i + 47 => rfl
theorem fX8_15 {f : Nat} {g : Nat → Int} {x : Int} : up (fX8 f g) 15 (jI x) = fX8 f (up g 15 x) := by
  funext i
  match i with
  | 0 => rfl
  | 1 => rfl
  | 2 => rfl
  | 3 => rfl
  | 4 => rfl
  | 5 => rfl
  | 6 => rfl
  | 7 => rfl
  | 8 => rfl
  | 9 => rfl
  | 10 => rfl
  | 11 => rfl
  | 12 => rfl
  | 13 => rfl
  | 14 => rfl
  | 15 => rfl
  | 16 => rfl
  | 17 => rfl
  | 18 => rfl
  | 19 => rfl
  | 20 => rfl
  | 21 => rfl
  | 22 => rfl
  | 23 => rfl
  | 24 => rfl
  | 25 => rfl
  | 26 => rfl
  | 27 => rfl
  | 28 => rfl
  | 29 => rfl
  | 30 => rfl
  | 31 => rfl
  | 32 => rfl
  | 33 => rfl
  | 34 => rfl
  | 35 => rfl
  | 36 => rfl
  | 37 => rfl
  | 38 => rfl
  | 39 => rfl
  | 40 => rfl
  | 41 => rfl
  | 42 => rfl
  | 43 => rfl
  | 44 => rfl
  | 45 => rfl
  | 46 => rfl
  | i + 47 => rfl
theorem fX8_16 {f : Nat} {g : Nat → Int} {x : Int} : up (fX8 f g) 16 (jI x) = fX8 f (up g 16 x) := by
  funext i
  match i with
  | 0 => rfl
  | 1 => rfl
  | 2 => rfl
  | 3 => rfl
  | 4 => rfl
  | 5 => rfl
  | 6 => rfl
  | 7 => rfl
  | 8 => rfl
  | 9 => rfl
  | 10 => rfl
  | 11 => rfl
  | 12 => rfl
  | 13 => rfl
  | 14 => rfl
  | 15 => rfl
  | 16 => rfl
  | 17 => rfl
  | 18 => rfl
  | 19 => rfl
  | 20 => rfl
  | 21 => rfl
  | 22 => rfl
  | 23 => rfl
  | 24 => rfl
  | 25 => rfl
  | 26 => rfl
  | 27 => rfl
  | 28 => rfl
  | 29 => rfl
  | 30 => rfl
  | 31 => rfl
  | 32 => rfl
  | 33 => rfl
  | 34 => rfl
  | 35 => rfl
  | 36 => rfl
  | 37 => rfl
  | 38 => rfl
  | 39 => rfl
  | 40 => rfl
  | 41 => rfl
  | 42 => rfl
  | 43 => rfl
  | 44 => rfl
  | 45 => rfl
  | 46 => rfl
  | i + 47 => rfl
def mfC : Nat → (Nat → Int) → jdE
  | 1, a => jdA 4 a
  | 2, a => jdA 4 a
  | 3, a => jdA 6 a
  | 4, a => jdA 6 a
  | 5, a => jdA 6 a
  | 6, a => jdA 6 a
  | 7, a => jdA 6 a
  | 8, a => jdA 2 a
  | 9, a => jdA 2 a
  | 10, a => jdA 2 a
  | 11, a => jdA 8 a
  | 12, a => jdA 5 a
  | 13, a => jdA 5 a
  | 14, a => jdA 5 a
  | 15, a => jdA 5 a
  | 16, a => jdA 20 a
  | 17, a => jdA 20 a
  | 18, a => jdA 6 a
  | 19, a => jdA 6 a
  | 20, a => jdA 3 a
  | 21, a => jdA 3 a
  | 22, a => jdA 3 a
  | 23, a => jdA 4 a
  | 24, a => jdA 4 a
  | 25, a => jdA 4 a
  | 26, a => jdA 4 a
  | 27, a => jdZ 6 a
  | 28, a => jdL 16 a
  | 29, a => jdA 16 a
  | 30, a => jdA 16 a
  | _, a => jdA 0 a
def MF (M : jdM) (n f : Nat) (g : Nat → Int) (A : Nat → Nat → Int) : Prop := f + 31 ≤ n ∧ M f = jdO 8 (fX8 f g) ∧ ∀ i, 1 ≤ i → i ≤ 30 → M (f + i) = mfC i (A i)
def MFS (f : Nat) : Nat → Prop := fun k => f ≤ k ∧ k ≤ f + 30
theorem MF_fr {M M1 : jdM} {n n1 f : Nat} {g : Nat → Int} {A : Nat → Nat → Int} {S : Nat → Prop} (h : MF M n f g A) (h1 : fr S M M1) (hn : n ≤ n1) (hs : ∀ k, f ≤ k → k ≤ f + 30 → ¬ S k) : MF M1 n1 f g A := by
  obtain ⟨a1, a2, a3⟩ := h
  refine ⟨by omega, (h1 f (hs f (by omega) (by omega))).trans a2, fun i h2 h3 => (h1 _ (hs (f + i) (by omega) (by omega))).trans (a3 i h2 h3)⟩
theorem MF_A {M M1 : jdM} {n f i : Nat} {g v : Nat → Int} {A : Nat → Nat → Int} (h : MF M n f g A) (h1 : M1 = up M (f + i) (mfC i v)) (hi : 1 ≤ i ∧ i ≤ 30) : MF M1 n f g (up A i v) := by
  obtain ⟨a1, a2, a3⟩ := h
  subst h1
  refine ⟨a1, (up_ne (by omega)).trans a2, fun j h2 h3 => ?_⟩
  by_cases q : j = i
  · subst q; rw [up_eq, up_eq]
  · rw [up_ne (by omega), up_ne q]; exact a3 j h2 h3
theorem MF_g {M M1 : jdM} {n f : Nat} {g g' : Nat → Int} {A : Nat → Nat → Int} (h : MF M n f g A) (h1 : M1 = up M f (jdO 8 (fX8 f g'))) : MF M1 n f g' A := by
  obtain ⟨a1, a2, a3⟩ := h
  subst h1
  exact ⟨a1, up_eq, fun j h2 h3 => (up_ne (by omega)).trans (a3 j h2 h3)⟩
/-- what a line of a sort keeps to -/
def LI (k2 k5 : Int) (td : Nat → Int) (s i : Int) : Prop :=
  (s = 0 → 2 ≤ c_get td 0 i 0 ∧ c_get td 0 i 0 ≤ 40 ∧ c_get td 0 i 1 ≤ 60 ∧ 1 ≤ c_get td 0 i 2 ∧ c_get td 0 i 2 ≤ 60) ∧
  (s = 1 → c_get td 1 i 0 ≤ 90 ∧ c_get td 1 i 1 ≤ 50) ∧
  (s = 2 → 1 ≤ c_get td 2 i 0 ∧ c_get td 2 i 0 ≤ 8 ∧ c_get td 2 i 1 ≤ 99) ∧
  (s = 3 → c_get td 3 i 0 < k2 ∧ c_get td 3 i 1 ≤ 300) ∧
  (s = 4 → c_get td 4 i 0 < k2 ∧ c_get td 4 i 1 ≤ 999 ∧ 1 ≤ c_get td 4 i 2 ∧ c_get td 4 i 1 ≤ c_get td 4 i 2 ∧ c_get td 4 i 2 ≤ 999) ∧
  (s = 5 → c_get td 5 i 0 ≤ 1 ∧ 1 ≤ c_get td 5 i 1 ∧ c_get td 5 i 1 ≤ 14 ∧ 8 ≤ c_get td 5 i 2 ∧ c_get td 5 i 2 ≤ 40) ∧
  (s = 6 → c_get td 6 i 0 < k5 ∧ c_get td 6 i 1 < k2 ∧ 1 ≤ c_get td 6 i 2 ∧ c_get td 6 i 2 ≤ 99) ∧
  (s = 7 → 1 ≤ c_get td 7 i 0 ∧ c_get td 7 i 0 ≤ c_get td 7 i 1 ∧ c_get td 7 i 1 ≤ 40 ∧ 1 ≤ c_get td 7 i 2 ∧ c_get td 7 i 2 ≤ 9 ∧ 1 ≤ c_get td 7 i 3 ∧ c_get td 7 i 3 ≤ 4 ∧ (∀ j : Int, 0 ≤ j → j < c_get td 7 i 3 → c_get td 7 i (4 + 2 * j) < k2 ∧ 1 ≤ c_get td 7 i (4 + 2 * j + 1) ∧ c_get td 7 i (4 + 2 * j + 1) ≤ 9) ∧ (∀ j : Int, c_get td 7 i 3 ≤ j → j < 4 → c_get td 7 i (4 + 2 * j) = 0 ∧ c_get td 7 i (4 + 2 * j + 1) = 0) ∧ (∀ j j' : Int, 0 ≤ j → j < j' → j' < c_get td 7 i 3 → c_get td 7 i (4 + 2 * j) ≠ c_get td 7 i (4 + 2 * j'))) ∧
  (s = 8 → 1 ≤ c_get td 8 i 0 ∧ c_get td 8 i 0 ≤ 40 ∧ c_get td 8 i 1 < k2 ∧ c_get td 8 i 2 ≤ 1) ∧
  (s = 9 → c_get td 9 i 0 ≤ 300 ∧ c_get td 9 i 0 < c_get td 9 i 1 ∧ c_get td 9 i 1 ≤ 400) ∧
  (s = 10 → 1 ≤ c_get td 10 i 0 ∧ c_get td 10 i 0 ≤ 40) ∧
  (s = 11 → c_get td 11 i 0 ≤ 300 ∧ 1 ≤ c_get td 11 i 1 ∧ c_get td 11 i 1 ≤ 40 ∧ 1 ≤ c_get td 11 i 2 ∧ c_get td 11 i 2 ≤ 40) ∧
  (s = 12 → 1 ≤ c_get td 12 i 0 ∧ c_get td 12 i 0 ≤ 99)
def FI (ct td : Nat → Int) : Prop := (∀ s : Nat, s < 13 → 0 ≤ ct s ∧ ct s ≤ (jtab 0).2.2 s) ∧ (∀ (s : Nat) (i : Int), s < 13 → 0 ≤ i → i < ct s → LI (ct 2) (ct 5) td s i) ∧ (∀ i j : Int, 0 ≤ i → i < j → j < ct 5 → c_get td 5 i 0 ≠ c_get td 5 j 0) ∧ ∀ j, 0 ≤ td j ∧ td j ≤ 999
/-- lines told, as the reference's arrays have them -/
def FA (ct td : Nat → Int) (A : Nat → Nat → Int) : Prop :=
  (∀ i : Nat, (i : Int) < ct 2 → A 1 i = c_get td 2 i 0 ∧ A 2 i = c_get td 2 i 1) ∧
  (∀ i : Nat, (i : Int) < ct 3 → A 3 i = c_get td 3 i 0 ∧ A 4 i = c_get td 3 i 1) ∧
  (∀ i : Nat, (i : Int) < ct 4 → A 5 i = c_get td 4 i 0 ∧ A 6 i = c_get td 4 i 1 ∧ A 7 i = c_get td 4 i 2) ∧
  (∀ i : Nat, (i : Int) < ct 5 → A 8 i = c_get td 5 i 0 ∧ A 9 i = c_get td 5 i 1 ∧ A 10 i = c_get td 5 i 2) ∧
  (∀ j : Nat, j < 8 → A 11 j = sumZ (fun i => if c_get td 6 i 0 * 4 + c_get td 6 i 1 = j then c_get td 6 i 2 else 0) (ct 6).toNat) ∧
  (∀ i : Nat, (i : Int) < ct 7 → A 12 i = c_get td 7 i 0 ∧ A 13 i = c_get td 7 i 1 ∧ A 14 i = c_get td 7 i 2 ∧ A 15 i = c_get td 7 i 3 ∧ ∀ j : Nat, (j : Int) < c_get td 7 i 3 → A 16 (4 * i + j) = c_get td 7 i (4 + 2 * j) ∧ A 17 (4 * i + j) = c_get td 7 i (4 + 2 * j + 1)) ∧
  (∀ i : Nat, (i : Int) < ct 8 → A 18 i = c_get td 8 i 0 ∧ A 19 i = c_get td 8 i 1 ∧ A 27 i = c_get td 8 i 2) ∧
  (∀ i : Nat, (i : Int) < ct 9 → A 20 i = c_get td 9 i 0 ∧ A 21 i = c_get td 9 i 1) ∧
  (∀ i : Nat, (i : Int) < ct 10 → A 22 i = c_get td 10 i 0) ∧
  (∀ i : Nat, (i : Int) < ct 11 → A 23 i = c_get td 11 i 0 ∧ A 24 i = min (c_get td 11 i 1) (c_get td 11 i 2) ∧ A 25 i = max (c_get td 11 i 1) (c_get td 11 i 2)) ∧
  (∀ i : Nat, (i : Int) < ct 12 → A 26 i = c_get td 12 i 0)
def FG (ct : Nat → Int) (g : Nat → Int) : Prop := g 5 = ct 2 ∧ g 6 = ct 3 ∧ g 7 = ct 4 ∧ g 8 = ct 5 ∧ g 9 = ct 6 ∧ g 10 = ct 7 ∧ g 11 = ct 8 ∧ g 12 = ct 9 ∧ g 13 = ct 10 ∧ g 14 = ct 11 ∧ g 15 = ct 12
def SET (ct td bk si ld : Nat → Int) : Prop := (∀ r : Nat, 1 ≤ r → r ≤ 40 → bk r = lastZ (fun i => c_get td 7 i 0 ≤ r ∧ (r : Int) ≤ c_get td 7 i 1) (ct 7).toNat ∧ si r = max (c_get td 7 (bk r) 2) (c_named ct td r)) ∧ ∀ j : Nat, j < 8 → ld j = sumZ (fun i => if c_get td 6 i 0 * 4 + c_get td 6 i 1 = j then c_get td 6 i 2 else 0) (ct 6).toNat
/-- a flight that stands: told whole -/
def FM (ct td bk si ld g : Nat → Int) (A : Nat → Nat → Int) : Prop := (g 0 = c_rows ct td ∧ g 1 = c_get td 0 0 1 ∧ g 2 = c_get td 0 0 2 ∧ g 3 = c_get td 1 0 0 ∧ g 4 = c_get td 1 0 1) ∧ FG ct g ∧ FA ct td A ∧ FI ct td ∧ SET ct td bk si ld ∧ ct 0 = 1 ∧ ct 1 = 1 ∧ 1 ≤ ct 2 ∧ 1 ≤ ct 5
theorem c_blk_l {ct td bk si ld : Nat → Int} (h : SET ct td bk si ld) {r : Int} (hr : 1 ≤ r ∧ r ≤ 40) : c_blk bk r = lastZ (fun i => c_get td 7 i 0 ≤ r ∧ r ≤ c_get td 7 i 1) (ct 7).toNat := by
  unfold c_blk
  rw [if_pos hr, (h.1 r.toNat (by omega) (by omega)).1, show ((r.toNat : Nat) : Int) = r by omega]
set_option maxHeartbeats 2000000 in
set_option maxRecDepth 20000 in
theorem s_X8_blockOf {l : Launch} {n : Nat} {M : jdM} {f : Nat} {ct td bk si ld gf : Nat → Int} {A : Nat → Nat → Int} (hMF : MF M n f gf A) (hFM : FM ct td bk si ld gf A) {x : Int} (hx : 1 ≤ x ∧ x ≤ 40) : Ct l yX8_blockOf cX8_blockOf 4 (some .int) rX8_blockOf [.ref f, jI x] n M (fun vv n' M' => (vv = some (jI (c_blk bk x)) ∧ n = n' ∧ M = M') ∧ (-1) ≤ (c_blk bk x) ∧ (c_blk bk x) ≤ 4) := by
  refine Ct_of [some (.ref f), some (jI x), none, none] (by decide) (Nat.le_of_ble_eq_true rfl) rfl (fun κ hl h hR hRt hmn hn0 => ?_)
  have h : Ok κ RX8 cX8_blockOf 4 (some .int) := h
  obtain ⟨hnf, hOf, hAf⟩ := id hMF
  obtain ⟨⟨e0, e1, e2, e3, e4⟩, ⟨k5, k6, k7, k8, k9, k10, k11, k12, k13, k14, k15⟩, ⟨a2, a3, a4, a5, a6, a7, a8, a9, a10, a11, a12⟩, ⟨hlim, hLI, hends, hrt⟩, ⟨hbk, hld⟩, hc0, hc1, hc2, hc5⟩ := id hFM
  have l2 := hlim 2 (by omega)
  have l3 := hlim 3 (by omega)
  have l4 := hlim 4 (by omega)
  have l5 := hlim 5 (by omega)
  have l6 := hlim 6 (by omega)
  have l7 := hlim 7 (by omega)
  have l8 := hlim 8 (by omega)
  have l9 := hlim 9 (by omega)
  have l10 := hlim 10 (by omega)
  have l11 := hlim 11 (by omega)
  have l12 := hlim 12 (by omega)
  rw [show (jtab 0).2.2 2 = 4 from rfl] at l2
  rw [show (jtab 0).2.2 3 = 6 from rfl] at l3
  rw [show (jtab 0).2.2 4 = 6 from rfl] at l4
  rw [show (jtab 0).2.2 5 = 2 from rfl] at l5
  rw [show (jtab 0).2.2 6 = 8 from rfl] at l6
  rw [show (jtab 0).2.2 7 = 5 from rfl] at l7
  rw [show (jtab 0).2.2 8 = 6 from rfl] at l8
  rw [show (jtab 0).2.2 9 = 3 from rfl] at l9
  rw [show (jtab 0).2.2 10 = 3 from rfl] at l10
  rw [show (jtab 0).2.2 11 = 4 from rfl] at l11
  rw [show (jtab 0).2.2 12 = 4 from rfl] at l12
  have hA12 : M (f + 12) = jdA 5 (A 12) := hAf 12 (by omega) (by omega)
  have hA13 : M (f + 13) = jdA 5 (A 13) := hAf 13 (by omega) (by omega)
  have hb9 : c_blk bk x = lastZ (fun i => c_get td 7 i 0 ≤ x ∧ x ≤ c_get td 7 i 1) (ct 7).toNat := c_blk_l ⟨hbk, hld⟩ hx
  have loop : ∀ (dq : Nat) (v i : Int), (0 ≤ i ∧ i ≤ ct 7) → (v = lastZ (fun i => c_get td 7 i 0 ≤ x ∧ x ≤ c_get td 7 i 1) i.toNat) → (10 - i).toNat < dq → J κ 4 0 0 n 4 [some (.ref f), some (jI x), some (jI v), some (jI i)] [] M := by
    intro dq
    induction dq with
    | zero => intro v i hi hv hd; omega
    | succ dq ih =>
      intro v i hi hv hd
      refine jr_iload_n (pc := 4) h dX8_blockOf_4 rfl ?_
      refine jr_aload_n (pc := 5) h dX8_blockOf_5 rfl ?_
      refine gf_X8_111 (pc := 6) h dX8_blockOf_6 (by assumption) (by omega) ?_
      refine jr_icmp_ge (pc := 9) h 40 dX8_blockOf_9 (by decide) (by omega) (by omega) (fun c_9 => ?_) (fun c_9 => ?_)
      · skip
        refine jr_iload_n (pc := 40) h dX8_blockOf_40 rfl ?_
        refine jr_iret (pc := 41) h hRt dX8_blockOf_41 rfl (Nat.le_of_ble_eq_true rfl) (Nat.le_of_ble_eq_true rfl) ?_
        have ei : i = ct 7 := by omega
        subst ei
        have := lastZ_r (fun i => c_get td 7 i 0 ≤ x ∧ x ≤ c_get td 7 i 1) (ct 7).toNat
        rw [hb9, ← hv]
        exact ⟨⟨rfl, rfl, rfl⟩, by omega⟩
      · skip
        have g7 := a7 i.toNat (by omega)
        rw [show ((i.toNat : Nat) : Int) = i by omega] at g7
        have r70 := c_getr hrt 7 i 0
        have r71 := c_getr hrt 7 i 1
        refine jr_iload_n (pc := 12) h dX8_blockOf_12 rfl ?_
        refine jr_aload_n (pc := 13) h dX8_blockOf_13 rfl ?_
        refine gf_X8_49 (pc := 14) h dX8_blockOf_14 (by assumption) (by omega) ?_
        refine jr_iload_n (pc := 17) h dX8_blockOf_17 rfl ?_
        refine jr_iald (pc := 18) h dX8_blockOf_18 (by assumption) (by omega) (by omega) ?_
        refine jr_icmp_lt (pc := 19) h 34 dX8_blockOf_19 (by decide) (by omega) (by omega) (fun c_19 => ?_) (fun c_19 => ?_)
        · skip
          refine jr_iinc (pc := 34) h [_, _, _, _] dX8_blockOf_34 (by decide) rfl rfl ?_
          refine jr_goto (pc := 37) h 4 dX8_blockOf_37 (by decide) ?_
          refine ih _ _ (by omega) ?_ (by omega)
          first
          | (rw [lastZ_t (by omega) ⟨by omega, by omega⟩])
          | (rw [lastZ_f (by omega) (fun z => by omega)]; exact hv)
        · skip
          refine jr_iload_n (pc := 22) h dX8_blockOf_22 rfl ?_
          refine jr_aload_n (pc := 23) h dX8_blockOf_23 rfl ?_
          refine gf_X8_52 (pc := 24) h dX8_blockOf_24 (by assumption) (by omega) ?_
          refine jr_iload_n (pc := 27) h dX8_blockOf_27 rfl ?_
          refine jr_iald (pc := 28) h dX8_blockOf_28 (by assumption) (by omega) (by omega) ?_
          refine jr_icmp_gt (pc := 29) h 34 dX8_blockOf_29 (by decide) (by omega) (by omega) (fun c_29 => ?_) (fun c_29 => ?_)
          · skip
            refine jr_iinc (pc := 34) h [_, _, _, _] dX8_blockOf_34 (by decide) rfl rfl ?_
            refine jr_goto (pc := 37) h 4 dX8_blockOf_37 (by decide) ?_
            refine ih _ _ (by omega) ?_ (by omega)
            first
            | (rw [lastZ_t (by omega) ⟨by omega, by omega⟩])
            | (rw [lastZ_f (by omega) (fun z => by omega)]; exact hv)
          · skip
            refine jr_iload_n (pc := 32) h dX8_blockOf_32 rfl ?_
            refine jr_istore_n (pc := 33) h [_, _, _, _] dX8_blockOf_33 (by decide) rfl ?_
            refine jr_iinc (pc := 34) h [_, _, _, _] dX8_blockOf_34 (by decide) rfl rfl ?_
            refine jr_goto (pc := 37) h 4 dX8_blockOf_37 (by decide) ?_
            refine ih _ _ (by omega) ?_ (by omega)
            first
            | (rw [lastZ_t (by omega) ⟨by omega, by omega⟩])
            | (rw [lastZ_f (by omega) (fun z => by omega)]; exact hv)
  refine jr_iconst (pc := 0) h dX8_blockOf_0 ?_
  refine jr_istore_n (pc := 1) h [_, _, _, _] dX8_blockOf_1 (by decide) rfl ?_
  refine jr_iconst (pc := 2) h dX8_blockOf_2 ?_
  refine jr_istore_n (pc := 3) h [_, _, _, _] dX8_blockOf_3 (by decide) rfl ?_
  exact loop _ _ _ (by omega) rfl (Nat.lt_succ_self _)
set_option maxHeartbeats 1000000 in
set_option maxRecDepth 20000 in
theorem s_X8_seatsOf {l : Launch} {n : Nat} {M : jdM} {f : Nat} {ct td bk si ld gf : Nat → Int} {A : Nat → Nat → Int} (hMF : MF M n f gf A) (hFM : FM ct td bk si ld gf A) {x : Int} (hx : 1 ≤ x ∧ x ≤ 40) : Ct l yX8_seatsOf cX8_seatsOf 2 (some .int) rX8_seatsOf [.ref f, jI x] n M (fun vv n' M' => (vv = some (jI (c_get td 7 (c_blk bk x) 2)) ∧ n = n' ∧ M = M') ∧ (0) ≤ (c_get td 7 (c_blk bk x) 2) ∧ (c_get td 7 (c_blk bk x) 2) ≤ 9) := by
  refine Ct_of [some (.ref f), some (jI x)] (by decide) (Nat.le_of_ble_eq_true rfl) rfl (fun κ hl h hR hRt hmn hn0 => ?_)
  have h : Ok κ RX8 cX8_seatsOf 2 (some .int) := h
  obtain ⟨hnf, hOf, hAf⟩ := id hMF
  obtain ⟨⟨e0, e1, e2, e3, e4⟩, ⟨k5, k6, k7, k8, k9, k10, k11, k12, k13, k14, k15⟩, ⟨a2, a3, a4, a5, a6, a7, a8, a9, a10, a11, a12⟩, ⟨hlim, hLI, hends, hrt⟩, ⟨hbk, hld⟩, hc0, hc1, hc2, hc5⟩ := id hFM
  have l2 := hlim 2 (by omega)
  have l3 := hlim 3 (by omega)
  have l4 := hlim 4 (by omega)
  have l5 := hlim 5 (by omega)
  have l6 := hlim 6 (by omega)
  have l7 := hlim 7 (by omega)
  have l8 := hlim 8 (by omega)
  have l9 := hlim 9 (by omega)
  have l10 := hlim 10 (by omega)
  have l11 := hlim 11 (by omega)
  have l12 := hlim 12 (by omega)
  rw [show (jtab 0).2.2 2 = 4 from rfl] at l2
  rw [show (jtab 0).2.2 3 = 6 from rfl] at l3
  rw [show (jtab 0).2.2 4 = 6 from rfl] at l4
  rw [show (jtab 0).2.2 5 = 2 from rfl] at l5
  rw [show (jtab 0).2.2 6 = 8 from rfl] at l6
  rw [show (jtab 0).2.2 7 = 5 from rfl] at l7
  rw [show (jtab 0).2.2 8 = 6 from rfl] at l8
  rw [show (jtab 0).2.2 9 = 3 from rfl] at l9
  rw [show (jtab 0).2.2 10 = 3 from rfl] at l10
  rw [show (jtab 0).2.2 11 = 4 from rfl] at l11
  rw [show (jtab 0).2.2 12 = 4 from rfl] at l12
  have hA14 : M (f + 14) = jdA 5 (A 14) := hAf 14 (by omega) (by omega)
  have hb9 : c_blk bk x = lastZ (fun i => c_get td 7 i 0 ≤ x ∧ x ≤ c_get td 7 i 1) (ct 7).toNat := c_blk_l ⟨hbk, hld⟩ hx
  have hlr := lastZ_r (fun i => c_get td 7 i 0 ≤ x ∧ x ≤ c_get td 7 i 1) (ct 7).toNat
  rw [← hb9] at hlr
  have g0 := c_getr hrt 7 (c_blk bk x) 2
  refine jr_aload_n (pc := 0) h dX8_seatsOf_0 rfl ?_
  refine jr_iload_n (pc := 1) h dX8_seatsOf_1 rfl ?_
  refine iv_X8_114 (pc := 2) h hl hR dX8_seatsOf_2 ⟨(Nat.le_of_ble_eq_true rfl), (Nat.le_of_ble_eq_true rfl), (Nat.le_of_ble_eq_true rfl), (Nat.le_of_ble_eq_true rfl)⟩ (Nat.le_of_ble_eq_true rfl) (by assumption) (by omega) (s_X8_blockOf hMF hFM hx) (fun v_2 n_2 M_2 hn_2 hp => ?_)
  obtain ⟨⟨rfl, rfl, rfl⟩, gr_2⟩ := hp
  refine jr_iconst (pc := 5) h dX8_seatsOf_5 ?_
  refine jr_icmp_ne (pc := 6) h 13 dX8_seatsOf_6 (by decide) (by omega) (by omega) (fun c_6 => ?_) (fun c_6 => ?_)
  · skip
    refine jr_aload_n (pc := 13) h dX8_seatsOf_13 rfl ?_
    refine gf_X8_55 (pc := 14) h dX8_seatsOf_14 (by assumption) (by omega) ?_
    refine jr_aload_n (pc := 17) h dX8_seatsOf_17 rfl ?_
    refine jr_iload_n (pc := 18) h dX8_seatsOf_18 rfl ?_
    refine iv_X8_114 (pc := 19) h hl hR dX8_seatsOf_19 ⟨(Nat.le_of_ble_eq_true rfl), (Nat.le_of_ble_eq_true rfl), (Nat.le_of_ble_eq_true rfl), (Nat.le_of_ble_eq_true rfl)⟩ (Nat.le_of_ble_eq_true rfl) (by assumption) (by omega) (s_X8_blockOf hMF hFM hx) (fun v_19 n_19 M_19 hn_19 hp => ?_)
    obtain ⟨⟨rfl, rfl, rfl⟩, gr_19⟩ := hp
    refine jr_iald (pc := 22) h dX8_seatsOf_22 (by assumption) (by omega) (by omega) ?_
    refine jr_iret (pc := 23) h hRt dX8_seatsOf_23 rfl (Nat.le_of_ble_eq_true rfl) (Nat.le_of_ble_eq_true rfl) ?_
    first
    | (have eb : c_blk bk x = -1 := by omega
       have e9 : c_get td 7 (c_blk bk x) 2 = 0 := by
         unfold c_get
         rw [if_neg (by omega)]
       rw [e9]
       exact ⟨⟨rfl, rfl, rfl⟩, by omega⟩)
    | (have g7 := (a7 (c_blk bk x).toNat (by omega)).2.2.1
       rw [show (((c_blk bk x).toNat : Nat) : Int) = c_blk bk x by omega] at g7
       have hl9 := (hLI 7 (c_blk bk x) (by omega) (by omega) (by omega)).2.2.2.2.2.2.2.1 rfl
       rw [g7]
       exact ⟨⟨rfl, rfl, rfl⟩, by omega⟩)
  · skip
    refine jr_iconst (pc := 9) h dX8_seatsOf_9 ?_
    refine jr_goto (pc := 10) h 23 dX8_seatsOf_10 (by decide) ?_
    refine jr_iret (pc := 23) h hRt dX8_seatsOf_23 rfl (Nat.le_of_ble_eq_true rfl) (Nat.le_of_ble_eq_true rfl) ?_
    first
    | (have eb : c_blk bk x = -1 := by omega
       have e9 : c_get td 7 (c_blk bk x) 2 = 0 := by
         unfold c_get
         rw [if_neg (by omega)]
       rw [e9]
       exact ⟨⟨rfl, rfl, rfl⟩, by omega⟩)
    | (have g7 := (a7 (c_blk bk x).toNat (by omega)).2.2.1
       rw [show (((c_blk bk x).toNat : Nat) : Int) = c_blk bk x by omega] at g7
       have hl9 := (hLI 7 (c_blk bk x) (by omega) (by omega) (by omega)).2.2.2.2.2.2.2.1 rfl
       rw [g7]
       exact ⟨⟨rfl, rfl, rfl⟩, by omega⟩)
set_option maxHeartbeats 2000000 in
set_option maxRecDepth 20000 in
theorem s_X8_namedIn {l : Launch} {n : Nat} {M : jdM} {f : Nat} {ct td bk si ld gf : Nat → Int} {A : Nat → Nat → Int} (hMF : MF M n f gf A) (hFM : FM ct td bk si ld gf A) {x : Int} (hx : -2147483648 ≤ x ∧ x < 2147483648) : Ct l yX8_namedIn cX8_namedIn 4 (some .int) rX8_namedIn [.ref f, jI x] n M (fun vv n' M' => (vv = some (jI (c_named ct td x)) ∧ n = n' ∧ M = M') ∧ (0) ≤ (c_named ct td x) ∧ (c_named ct td x) ≤ 6) := by
  refine Ct_of [some (.ref f), some (jI x), none, none] (by decide) (Nat.le_of_ble_eq_true rfl) rfl (fun κ hl h hR hRt hmn hn0 => ?_)
  have h : Ok κ RX8 cX8_namedIn 4 (some .int) := h
  obtain ⟨hnf, hOf, hAf⟩ := id hMF
  obtain ⟨⟨e0, e1, e2, e3, e4⟩, ⟨k5, k6, k7, k8, k9, k10, k11, k12, k13, k14, k15⟩, ⟨a2, a3, a4, a5, a6, a7, a8, a9, a10, a11, a12⟩, ⟨hlim, hLI, hends, hrt⟩, ⟨hbk, hld⟩, hc0, hc1, hc2, hc5⟩ := id hFM
  have l2 := hlim 2 (by omega)
  have l3 := hlim 3 (by omega)
  have l4 := hlim 4 (by omega)
  have l5 := hlim 5 (by omega)
  have l6 := hlim 6 (by omega)
  have l7 := hlim 7 (by omega)
  have l8 := hlim 8 (by omega)
  have l9 := hlim 9 (by omega)
  have l10 := hlim 10 (by omega)
  have l11 := hlim 11 (by omega)
  have l12 := hlim 12 (by omega)
  rw [show (jtab 0).2.2 2 = 4 from rfl] at l2
  rw [show (jtab 0).2.2 3 = 6 from rfl] at l3
  rw [show (jtab 0).2.2 4 = 6 from rfl] at l4
  rw [show (jtab 0).2.2 5 = 2 from rfl] at l5
  rw [show (jtab 0).2.2 6 = 8 from rfl] at l6
  rw [show (jtab 0).2.2 7 = 5 from rfl] at l7
  rw [show (jtab 0).2.2 8 = 6 from rfl] at l8
  rw [show (jtab 0).2.2 9 = 3 from rfl] at l9
  rw [show (jtab 0).2.2 10 = 3 from rfl] at l10
  rw [show (jtab 0).2.2 11 = 4 from rfl] at l11
  rw [show (jtab 0).2.2 12 = 4 from rfl] at l12
  have hA18 : M (f + 18) = jdA 6 (A 18) := hAf 18 (by omega) (by omega)
  have loop : ∀ (dq : Nat) (v i : Int), (0 ≤ i ∧ i ≤ ct 8) → (v = sumZ (fun i => if c_get td 8 i 0 = x then 1 else 0) i.toNat) → (10 - i).toNat < dq → J κ 4 0 0 n 4 [some (.ref f), some (jI x), some (jI v), some (jI i)] [] M := by
    intro dq
    induction dq with
    | zero => intro v i hi hv hd; omega
    | succ dq ih =>
      intro v i hi hv hd
      refine jr_iload_n (pc := 4) h dX8_namedIn_4 rfl ?_
      refine jr_aload_n (pc := 5) h dX8_namedIn_5 rfl ?_
      refine gf_X8_118 (pc := 6) h dX8_namedIn_6 (by assumption) (by omega) ?_
      refine jr_icmp_ge (pc := 9) h 36 dX8_namedIn_9 (by decide) (by omega) (by omega) (fun c_9 => ?_) (fun c_9 => ?_)
      · skip
        refine jr_iload_n (pc := 36) h dX8_namedIn_36 rfl ?_
        refine jr_iret (pc := 37) h hRt dX8_namedIn_37 rfl (Nat.le_of_ble_eq_true rfl) (Nat.le_of_ble_eq_true rfl) ?_
        have ei : i = ct 8 := by omega
        subst ei
        have h9 := sumZ_b (f := fun i => if c_get td 8 i 0 = x then 1 else 0) (k := (ct 8).toNat) (lo := 0) (hi := 1) (fun i _ _ => by
          show 0 ≤ (if c_get td 8 i 0 = x then (1 : Int) else 0) ∧ (if c_get td 8 i 0 = x then (1 : Int) else 0) ≤ 1
          split <;> omega)
        have e9 : c_named ct td x = v := hv.symm
        rw [e9]
        exact ⟨⟨rfl, rfl, rfl⟩, by omega⟩
      · skip
        have g8 := (a8 i.toNat (by omega)).1
        rw [show ((i.toNat : Nat) : Int) = i by omega] at g8
        have r80 := c_getr hrt 8 i 0
        refine jr_iload_n (pc := 12) h dX8_namedIn_12 rfl ?_
        refine jr_aload_n (pc := 13) h dX8_namedIn_13 rfl ?_
        refine gf_X8_67 (pc := 14) h dX8_namedIn_14 (by assumption) (by omega) ?_
        refine jr_iload_n (pc := 17) h dX8_namedIn_17 rfl ?_
        refine jr_iald (pc := 18) h dX8_namedIn_18 (by assumption) (by omega) (by omega) ?_
        refine jr_iload_n (pc := 19) h dX8_namedIn_19 rfl ?_
        refine jr_icmp_ne (pc := 20) h 27 dX8_namedIn_20 (by decide) (by omega) (by omega) (fun c_20 => ?_) (fun c_20 => ?_)
        · skip
          refine jr_iconst (pc := 27) h dX8_namedIn_27 ?_
          refine jr_iadd (pc := 28) h dX8_namedIn_28 ?_
          refine jr_istore_n (pc := 29) h [_, _, _, _] dX8_namedIn_29 (by decide) rfl ?_
          refine jr_iinc (pc := 30) h [_, _, _, _] dX8_namedIn_30 (by decide) rfl rfl ?_
          refine jr_goto (pc := 33) h 4 dX8_namedIn_33 (by decide) ?_
          refine ih _ _ (by omega) ?_ (by omega)
          rw [sumZ_s (by omega), ← hv]
          first
          | rw [if_pos (show c_get td 8 i 0 = x by omega)]
          | rw [if_neg (show ¬ c_get td 8 i 0 = x by omega)]
        · skip
          refine jr_iconst (pc := 23) h dX8_namedIn_23 ?_
          refine jr_goto (pc := 24) h 28 dX8_namedIn_24 (by decide) ?_
          refine jr_iadd (pc := 28) h dX8_namedIn_28 ?_
          refine jr_istore_n (pc := 29) h [_, _, _, _] dX8_namedIn_29 (by decide) rfl ?_
          refine jr_iinc (pc := 30) h [_, _, _, _] dX8_namedIn_30 (by decide) rfl rfl ?_
          refine jr_goto (pc := 33) h 4 dX8_namedIn_33 (by decide) ?_
          refine ih _ _ (by omega) ?_ (by omega)
          rw [sumZ_s (by omega), ← hv]
          first
          | rw [if_pos (show c_get td 8 i 0 = x by omega)]
          | rw [if_neg (show ¬ c_get td 8 i 0 = x by omega)]
  refine jr_iconst (pc := 0) h dX8_namedIn_0 ?_
  refine jr_istore_n (pc := 1) h [_, _, _, _] dX8_namedIn_1 (by decide) rfl ?_
  refine jr_iconst (pc := 2) h dX8_namedIn_2 ?_
  refine jr_istore_n (pc := 3) h [_, _, _, _] dX8_namedIn_3 (by decide) rfl ?_
  exact loop _ _ _ (by omega) rfl (Nat.lt_succ_self _)
theorem c_unn_e {ct td bk si ld : Nat → Int} (h : SET ct td bk si ld) {r : Int} (hr : 1 ≤ r ∧ r ≤ 40) : c_unn ct td si r = max (c_get td 7 (c_blk bk r) 2 - c_named ct td r) 0 ∧ c_sit si r = max (c_get td 7 (c_blk bk r) 2) (c_named ct td r) := by
  have h1 := (h.1 r.toNat (by omega) (by omega)).2
  rw [show ((r.toNat : Nat) : Int) = r by omega] at h1
  have e1 : c_sit si r = max (c_get td 7 (c_blk bk r) 2) (c_named ct td r) := by
    unfold c_sit c_blk
    rw [if_pos hr, if_pos hr]
    exact h1
  unfold c_unn
  rw [e1]
  omega
set_option maxHeartbeats 1000000 in
set_option maxRecDepth 20000 in
theorem s_X8_othersIn {l : Launch} {n : Nat} {M : jdM} {f : Nat} {ct td bk si ld gf : Nat → Int} {A : Nat → Nat → Int} (hMF : MF M n f gf A) (hFM : FM ct td bk si ld gf A) {x : Int} (hx : 1 ≤ x ∧ x ≤ 40) : Ct l yX8_othersIn cX8_othersIn 3 (some .int) rX8_othersIn [.ref f, jI x] n M (fun vv n' M' => (vv = some (jI (c_unn ct td si x)) ∧ n = n' ∧ M = M') ∧ (0) ≤ (c_unn ct td si x) ∧ (c_unn ct td si x) ≤ 9) := by
  refine Ct_of [some (.ref f), some (jI x), none] (by decide) (Nat.le_of_ble_eq_true rfl) rfl (fun κ hl h hR hRt hmn hn0 => ?_)
  have h : Ok κ RX8 cX8_othersIn 3 (some .int) := h
  obtain ⟨hnf, hOf, hAf⟩ := id hMF
  obtain ⟨⟨e0, e1, e2, e3, e4⟩, ⟨k5, k6, k7, k8, k9, k10, k11, k12, k13, k14, k15⟩, ⟨a2, a3, a4, a5, a6, a7, a8, a9, a10, a11, a12⟩, ⟨hlim, hLI, hends, hrt⟩, ⟨hbk, hld⟩, hc0, hc1, hc2, hc5⟩ := id hFM
  have l2 := hlim 2 (by omega)
  have l3 := hlim 3 (by omega)
  have l4 := hlim 4 (by omega)
  have l5 := hlim 5 (by omega)
  have l6 := hlim 6 (by omega)
  have l7 := hlim 7 (by omega)
  have l8 := hlim 8 (by omega)
  have l9 := hlim 9 (by omega)
  have l10 := hlim 10 (by omega)
  have l11 := hlim 11 (by omega)
  have l12 := hlim 12 (by omega)
  rw [show (jtab 0).2.2 2 = 4 from rfl] at l2
  rw [show (jtab 0).2.2 3 = 6 from rfl] at l3
  rw [show (jtab 0).2.2 4 = 6 from rfl] at l4
  rw [show (jtab 0).2.2 5 = 2 from rfl] at l5
  rw [show (jtab 0).2.2 6 = 8 from rfl] at l6
  rw [show (jtab 0).2.2 7 = 5 from rfl] at l7
  rw [show (jtab 0).2.2 8 = 6 from rfl] at l8
  rw [show (jtab 0).2.2 9 = 3 from rfl] at l9
  rw [show (jtab 0).2.2 10 = 3 from rfl] at l10
  rw [show (jtab 0).2.2 11 = 4 from rfl] at l11
  rw [show (jtab 0).2.2 12 = 4 from rfl] at l12
  have hu := c_unn_e ⟨hbk, hld⟩ hx
  refine jr_aload_n (pc := 0) h dX8_othersIn_0 rfl ?_
  refine jr_iload_n (pc := 1) h dX8_othersIn_1 rfl ?_
  refine iv_X8_121 (pc := 2) h hl hR dX8_othersIn_2 ⟨(Nat.le_of_ble_eq_true rfl), (Nat.le_of_ble_eq_true rfl), (Nat.le_of_ble_eq_true rfl), (Nat.le_of_ble_eq_true rfl)⟩ (Nat.le_of_ble_eq_true rfl) (by assumption) (by omega) (s_X8_seatsOf hMF hFM hx) (fun v_2 n_2 M_2 hn_2 hp => ?_)
  obtain ⟨⟨rfl, rfl, rfl⟩, gr_2⟩ := hp
  refine jr_aload_n (pc := 5) h dX8_othersIn_5 rfl ?_
  refine jr_iload_n (pc := 6) h dX8_othersIn_6 rfl ?_
  refine iv_X8_124 (pc := 7) h hl hR dX8_othersIn_7 ⟨(Nat.le_of_ble_eq_true rfl), (Nat.le_of_ble_eq_true rfl), (Nat.le_of_ble_eq_true rfl), (Nat.le_of_ble_eq_true rfl)⟩ (Nat.le_of_ble_eq_true rfl) (by assumption) (by omega) (s_X8_namedIn hMF hFM (by omega)) (fun v_7 n_7 M_7 hn_7 hp => ?_)
  obtain ⟨⟨rfl, rfl, rfl⟩, gr_7⟩ := hp
  refine jr_isub (pc := 10) h dX8_othersIn_10 ?_
  refine jr_istore_n (pc := 11) h [_, _, _] dX8_othersIn_11 (by decide) rfl ?_
  refine jr_iload_n (pc := 12) h dX8_othersIn_12 rfl ?_
  refine jr_if_le (pc := 13) h 20 dX8_othersIn_13 (by decide) (by omega) (fun c_13 => ?_) (fun c_13 => ?_)
  · skip
    refine jr_iconst (pc := 20) h dX8_othersIn_20 ?_
    refine jr_iret (pc := 21) h hRt dX8_othersIn_21 rfl (Nat.le_of_ble_eq_true rfl) (Nat.le_of_ble_eq_true rfl) ?_
    refine ⟨⟨ji_c ?_, rfl, rfl⟩, ?_⟩ <;> omega
  · skip
    refine jr_iload_n (pc := 16) h dX8_othersIn_16 rfl ?_
    refine jr_goto (pc := 17) h 21 dX8_othersIn_17 (by decide) ?_
    refine jr_iret (pc := 21) h hRt dX8_othersIn_21 rfl (Nat.le_of_ble_eq_true rfl) (Nat.le_of_ble_eq_true rfl) ?_
    refine ⟨⟨ji_c ?_, rfl, rfl⟩, ?_⟩ <;> omega
set_option maxHeartbeats 1000000 in
set_option maxRecDepth 20000 in
theorem s_X8_sitsIn {l : Launch} {n : Nat} {M : jdM} {f : Nat} {ct td bk si ld gf : Nat → Int} {A : Nat → Nat → Int} (hMF : MF M n f gf A) (hFM : FM ct td bk si ld gf A) {x : Int} (hx : 1 ≤ x ∧ x ≤ 40) : Ct l yX8_sitsIn cX8_sitsIn 2 (some .int) rX8_sitsIn [.ref f, jI x] n M (fun vv n' M' => (vv = some (jI (c_sit si x)) ∧ n = n' ∧ M = M') ∧ (0) ≤ (c_sit si x) ∧ (c_sit si x) ≤ 15) := by
  refine Ct_of [some (.ref f), some (jI x)] (by decide) (Nat.le_of_ble_eq_true rfl) rfl (fun κ hl h hR hRt hmn hn0 => ?_)
  have h : Ok κ RX8 cX8_sitsIn 2 (some .int) := h
  obtain ⟨hnf, hOf, hAf⟩ := id hMF
  obtain ⟨⟨e0, e1, e2, e3, e4⟩, ⟨k5, k6, k7, k8, k9, k10, k11, k12, k13, k14, k15⟩, ⟨a2, a3, a4, a5, a6, a7, a8, a9, a10, a11, a12⟩, ⟨hlim, hLI, hends, hrt⟩, ⟨hbk, hld⟩, hc0, hc1, hc2, hc5⟩ := id hFM
  have l2 := hlim 2 (by omega)
  have l3 := hlim 3 (by omega)
  have l4 := hlim 4 (by omega)
  have l5 := hlim 5 (by omega)
  have l6 := hlim 6 (by omega)
  have l7 := hlim 7 (by omega)
  have l8 := hlim 8 (by omega)
  have l9 := hlim 9 (by omega)
  have l10 := hlim 10 (by omega)
  have l11 := hlim 11 (by omega)
  have l12 := hlim 12 (by omega)
  rw [show (jtab 0).2.2 2 = 4 from rfl] at l2
  rw [show (jtab 0).2.2 3 = 6 from rfl] at l3
  rw [show (jtab 0).2.2 4 = 6 from rfl] at l4
  rw [show (jtab 0).2.2 5 = 2 from rfl] at l5
  rw [show (jtab 0).2.2 6 = 8 from rfl] at l6
  rw [show (jtab 0).2.2 7 = 5 from rfl] at l7
  rw [show (jtab 0).2.2 8 = 6 from rfl] at l8
  rw [show (jtab 0).2.2 9 = 3 from rfl] at l9
  rw [show (jtab 0).2.2 10 = 3 from rfl] at l10
  rw [show (jtab 0).2.2 11 = 4 from rfl] at l11
  rw [show (jtab 0).2.2 12 = 4 from rfl] at l12
  have hu := c_unn_e ⟨hbk, hld⟩ hx
  have hun : c_unn ct td si x = c_sit si x - c_named ct td x := rfl
  refine jr_aload_n (pc := 0) h dX8_sitsIn_0 rfl ?_
  refine jr_iload_n (pc := 1) h dX8_sitsIn_1 rfl ?_
  refine iv_X8_124 (pc := 2) h hl hR dX8_sitsIn_2 ⟨(Nat.le_of_ble_eq_true rfl), (Nat.le_of_ble_eq_true rfl), (Nat.le_of_ble_eq_true rfl), (Nat.le_of_ble_eq_true rfl)⟩ (Nat.le_of_ble_eq_true rfl) (by assumption) (by omega) (s_X8_namedIn hMF hFM (by omega)) (fun v_2 n_2 M_2 hn_2 hp => ?_)
  obtain ⟨⟨rfl, rfl, rfl⟩, gr_2⟩ := hp
  refine jr_aload_n (pc := 5) h dX8_sitsIn_5 rfl ?_
  refine jr_iload_n (pc := 6) h dX8_sitsIn_6 rfl ?_
  refine iv_X8_127 (pc := 7) h hl hR dX8_sitsIn_7 ⟨(Nat.le_of_ble_eq_true rfl), (Nat.le_of_ble_eq_true rfl), (Nat.le_of_ble_eq_true rfl), (Nat.le_of_ble_eq_true rfl)⟩ (Nat.le_of_ble_eq_true rfl) (by assumption) (by omega) (s_X8_othersIn hMF hFM hx) (fun v_7 n_7 M_7 hn_7 hp => ?_)
  obtain ⟨⟨rfl, rfl, rfl⟩, gr_7⟩ := hp
  refine jr_iadd (pc := 10) h dX8_sitsIn_10 ?_
  refine jr_iret (pc := 11) h hRt dX8_sitsIn_11 rfl (Nat.le_of_ble_eq_true rfl) (Nat.le_of_ble_eq_true rfl) ?_
  refine ⟨⟨ji_c ?_, rfl, rfl⟩, ?_⟩ <;> omega
set_option maxHeartbeats 2000000 in
set_option maxRecDepth 20000 in
theorem s_X8_isGap {l : Launch} {n : Nat} {M : jdM} {f : Nat} {ct td bk si ld gf : Nat → Int} {A : Nat → Nat → Int} (hMF : MF M n f gf A) (hFM : FM ct td bk si ld gf A) {x : Int} (hx : -2147483648 ≤ x ∧ x < 2147483648) : Ct l yX8_isGap cX8_isGap 3 (some .boolean) rX8_isGap [.ref f, jI x] n M (fun vv n' M' => (vv = some (jI (bz (c_gap ct td x))) ∧ n = n' ∧ M = M') ∧ (0) ≤ (bz (c_gap ct td x)) ∧ (bz (c_gap ct td x)) ≤ 1) := by
  refine Ct_of [some (.ref f), some (jI x), none] (by decide) (Nat.le_of_ble_eq_true rfl) rfl (fun κ hl h hR hRt hmn hn0 => ?_)
  have h : Ok κ RX8 cX8_isGap 3 (some .boolean) := h
  obtain ⟨hnf, hOf, hAf⟩ := id hMF
  obtain ⟨⟨e0, e1, e2, e3, e4⟩, ⟨k5, k6, k7, k8, k9, k10, k11, k12, k13, k14, k15⟩, ⟨a2, a3, a4, a5, a6, a7, a8, a9, a10, a11, a12⟩, ⟨hlim, hLI, hends, hrt⟩, ⟨hbk, hld⟩, hc0, hc1, hc2, hc5⟩ := id hFM
  have l2 := hlim 2 (by omega)
  have l3 := hlim 3 (by omega)
  have l4 := hlim 4 (by omega)
  have l5 := hlim 5 (by omega)
  have l6 := hlim 6 (by omega)
  have l7 := hlim 7 (by omega)
  have l8 := hlim 8 (by omega)
  have l9 := hlim 9 (by omega)
  have l10 := hlim 10 (by omega)
  have l11 := hlim 11 (by omega)
  have l12 := hlim 12 (by omega)
  rw [show (jtab 0).2.2 2 = 4 from rfl] at l2
  rw [show (jtab 0).2.2 3 = 6 from rfl] at l3
  rw [show (jtab 0).2.2 4 = 6 from rfl] at l4
  rw [show (jtab 0).2.2 5 = 2 from rfl] at l5
  rw [show (jtab 0).2.2 6 = 8 from rfl] at l6
  rw [show (jtab 0).2.2 7 = 5 from rfl] at l7
  rw [show (jtab 0).2.2 8 = 6 from rfl] at l8
  rw [show (jtab 0).2.2 9 = 3 from rfl] at l9
  rw [show (jtab 0).2.2 10 = 3 from rfl] at l10
  rw [show (jtab 0).2.2 11 = 4 from rfl] at l11
  rw [show (jtab 0).2.2 12 = 4 from rfl] at l12
  have hA22 : M (f + 22) = jdA 3 (A 22) := hAf 22 (by omega) (by omega)
  have loop : ∀ (dq : Nat) (i : Int), (0 ≤ i ∧ i ≤ ct 10) → (∀ j : Int, 0 ≤ j → j < i → c_get td 10 j 0 ≠ x) → (10 - i).toNat < dq → J κ 3 0 0 n 2 [some (.ref f), some (jI x), some (jI i)] [] M := by
    intro dq
    induction dq with
    | zero => intro i hi hv hd; omega
    | succ dq ih =>
      intro i hi hv hd
      refine jr_iload_n (pc := 2) h dX8_isGap_2 rfl ?_
      refine jr_aload_n (pc := 3) h dX8_isGap_3 rfl ?_
      refine gf_X8_130 (pc := 4) h dX8_isGap_4 (by assumption) (by omega) ?_
      refine jr_icmp_ge (pc := 7) h 28 dX8_isGap_7 (by decide) (by omega) (by omega) (fun c_7 => ?_) (fun c_7 => ?_)
      · skip
        refine jr_iconst (pc := 28) h dX8_isGap_28 ?_
        refine jr_iret (pc := 29) h hRt dX8_isGap_29 rfl (Nat.le_of_ble_eq_true rfl) (Nat.le_of_ble_eq_true rfl) ?_
        rw [bz_f (show ¬ c_gap ct td x from fun ⟨j, h1, h2, h3⟩ => hv j h1 (by omega) h3)]
        exact ⟨⟨rfl, rfl, rfl⟩, by omega⟩
      · skip
        have g8 := a10 i.toNat (by omega)
        rw [show ((i.toNat : Nat) : Int) = i by omega] at g8
        have r80 := c_getr hrt 10 i 0
        refine jr_aload_n (pc := 10) h dX8_isGap_10 rfl ?_
        refine gf_X8_79 (pc := 11) h dX8_isGap_11 (by assumption) (by omega) ?_
        refine jr_iload_n (pc := 14) h dX8_isGap_14 rfl ?_
        refine jr_iald (pc := 15) h dX8_isGap_15 (by assumption) (by omega) (by omega) ?_
        refine jr_iload_n (pc := 16) h dX8_isGap_16 rfl ?_
        refine jr_icmp_ne (pc := 17) h 22 dX8_isGap_17 (by decide) (by omega) (by omega) (fun c_17 => ?_) (fun c_17 => ?_)
        · skip
          refine jr_iinc (pc := 22) h [_, _, _] dX8_isGap_22 (by decide) rfl rfl ?_
          refine jr_goto (pc := 25) h 2 dX8_isGap_25 (by decide) ?_
          refine ih _ (by omega) (fun j h1 h2 => ?_) (by omega)
          by_cases q : j = i
          · rw [q]; omega
          · exact hv j h1 (by omega)
        · skip
          refine jr_iconst (pc := 20) h dX8_isGap_20 ?_
          refine jr_iret (pc := 21) h hRt dX8_isGap_21 rfl (Nat.le_of_ble_eq_true rfl) (Nat.le_of_ble_eq_true rfl) ?_
          rw [bz_t (show c_gap ct td x from ⟨i, by omega, by omega, by omega⟩)]
          exact ⟨⟨rfl, rfl, rfl⟩, by omega⟩
  refine jr_iconst (pc := 0) h dX8_isGap_0 ?_
  refine jr_istore_n (pc := 1) h [_, _, _] dX8_isGap_1 (by decide) rfl ?_
  exact loop _ _ (by omega) (fun j h1 h2 => by omega) (Nat.lt_succ_self _)
set_option maxHeartbeats 2000000 in
set_option maxRecDepth 20000 in
theorem s_X8_trolleyAt {l : Launch} {n : Nat} {M : jdM} {f : Nat} {ct td bk si ld gf : Nat → Int} {A : Nat → Nat → Int} (hMF : MF M n f gf A) (hFM : FM ct td bk si ld gf A) {x : Int} (hx : -2147483648 ≤ x ∧ x < 2147483648) : Ct l yX8_trolleyAt cX8_trolleyAt 3 (some .int) rX8_trolleyAt [.ref f, jI x] n M (fun vv n' M' => (vv = some (jI (fstZ (fun i => c_get td 5 i 0 = x) 0 (ct 5 - 0).toNat)) ∧ n = n' ∧ M = M') ∧ (-1) ≤ (fstZ (fun i => c_get td 5 i 0 = x) 0 (ct 5 - 0).toNat) ∧ (fstZ (fun i => c_get td 5 i 0 = x) 0 (ct 5 - 0).toNat) ≤ 1) := by
  refine Ct_of [some (.ref f), some (jI x), none] (by decide) (Nat.le_of_ble_eq_true rfl) rfl (fun κ hl h hR hRt hmn hn0 => ?_)
  have h : Ok κ RX8 cX8_trolleyAt 3 (some .int) := h
  obtain ⟨hnf, hOf, hAf⟩ := id hMF
  obtain ⟨⟨e0, e1, e2, e3, e4⟩, ⟨k5, k6, k7, k8, k9, k10, k11, k12, k13, k14, k15⟩, ⟨a2, a3, a4, a5, a6, a7, a8, a9, a10, a11, a12⟩, ⟨hlim, hLI, hends, hrt⟩, ⟨hbk, hld⟩, hc0, hc1, hc2, hc5⟩ := id hFM
  have l2 := hlim 2 (by omega)
  have l3 := hlim 3 (by omega)
  have l4 := hlim 4 (by omega)
  have l5 := hlim 5 (by omega)
  have l6 := hlim 6 (by omega)
  have l7 := hlim 7 (by omega)
  have l8 := hlim 8 (by omega)
  have l9 := hlim 9 (by omega)
  have l10 := hlim 10 (by omega)
  have l11 := hlim 11 (by omega)
  have l12 := hlim 12 (by omega)
  rw [show (jtab 0).2.2 2 = 4 from rfl] at l2
  rw [show (jtab 0).2.2 3 = 6 from rfl] at l3
  rw [show (jtab 0).2.2 4 = 6 from rfl] at l4
  rw [show (jtab 0).2.2 5 = 2 from rfl] at l5
  rw [show (jtab 0).2.2 6 = 8 from rfl] at l6
  rw [show (jtab 0).2.2 7 = 5 from rfl] at l7
  rw [show (jtab 0).2.2 8 = 6 from rfl] at l8
  rw [show (jtab 0).2.2 9 = 3 from rfl] at l9
  rw [show (jtab 0).2.2 10 = 3 from rfl] at l10
  rw [show (jtab 0).2.2 11 = 4 from rfl] at l11
  rw [show (jtab 0).2.2 12 = 4 from rfl] at l12
  have hA8 : M (f + 8) = jdA 2 (A 8) := hAf 8 (by omega) (by omega)
  have loop : ∀ (dq : Nat) (i : Int), (0 ≤ i ∧ i ≤ ct 5) → (fstZ (fun i => c_get td 5 i 0 = x) 0 (ct 5 - 0).toNat = fstZ (fun i => c_get td 5 i 0 = x) i (ct 5 - i).toNat) → (10 - i).toNat < dq → J κ 3 0 0 n 2 [some (.ref f), some (jI x), some (jI i)] [] M := by
    intro dq
    induction dq with
    | zero => intro i hi hv hd; omega
    | succ dq ih =>
      intro i hi hv hd
      refine jr_iload_n (pc := 2) h dX8_trolleyAt_2 rfl ?_
      refine jr_aload_n (pc := 3) h dX8_trolleyAt_3 rfl ?_
      refine gf_X8_133 (pc := 4) h dX8_trolleyAt_4 (by assumption) (by omega) ?_
      refine jr_icmp_ge (pc := 7) h 28 dX8_trolleyAt_7 (by decide) (by omega) (by omega) (fun c_7 => ?_) (fun c_7 => ?_)
      · skip
        refine jr_iconst (pc := 28) h dX8_trolleyAt_28 ?_
        refine jr_iret (pc := 29) h hRt dX8_trolleyAt_29 rfl (Nat.le_of_ble_eq_true rfl) (Nat.le_of_ble_eq_true rfl) ?_
        rw [hv, fstZ_0 (by omega)]
        exact ⟨⟨rfl, rfl, rfl⟩, by omega⟩
      · skip
        have g8 := (a5 i.toNat (by omega)).1
        rw [show ((i.toNat : Nat) : Int) = i by omega] at g8
        have r80 := c_getr hrt 5 i 0
        refine jr_aload_n (pc := 10) h dX8_trolleyAt_10 rfl ?_
        refine gf_X8_37 (pc := 11) h dX8_trolleyAt_11 (by assumption) (by omega) ?_
        refine jr_iload_n (pc := 14) h dX8_trolleyAt_14 rfl ?_
        refine jr_iald (pc := 15) h dX8_trolleyAt_15 (by assumption) (by omega) (by omega) ?_
        refine jr_iload_n (pc := 16) h dX8_trolleyAt_16 rfl ?_
        refine jr_icmp_ne (pc := 17) h 22 dX8_trolleyAt_17 (by decide) (by omega) (by omega) (fun c_17 => ?_) (fun c_17 => ?_)
        · skip
          refine jr_iinc (pc := 22) h [_, _, _] dX8_trolleyAt_22 (by decide) rfl rfl ?_
          refine jr_goto (pc := 25) h 2 dX8_trolleyAt_25 (by decide) ?_
          refine ih _ (by omega) ?_ (by omega)
          rw [hv, fstZ_f (p := fun i => c_get td 5 i 0 = x) (by omega) (by omega)]
        · skip
          refine jr_iload_n (pc := 20) h dX8_trolleyAt_20 rfl ?_
          refine jr_iret (pc := 21) h hRt dX8_trolleyAt_21 rfl (Nat.le_of_ble_eq_true rfl) (Nat.le_of_ble_eq_true rfl) ?_
          rw [hv, fstZ_t (p := fun i => c_get td 5 i 0 = x) (by omega) (by omega)]
          exact ⟨⟨rfl, rfl, rfl⟩, by omega⟩
  refine jr_iconst (pc := 0) h dX8_trolleyAt_0 ?_
  refine jr_istore_n (pc := 1) h [_, _, _] dX8_trolleyAt_1 (by decide) rfl ?_
  exact loop _ _ (by omega) rfl (Nat.lt_succ_self _)
