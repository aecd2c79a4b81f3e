/-! 09: sums, searches, truth as a number -/
theorem ji_c {a b : Int} (h : a = b) : some (jI a) = some (jI b) := by rw [h]
theorem jl_c {a b : Int} (h : a = b) : some (jL a) = some (jL b) := by rw [h]
noncomputable def bz (P : Prop) : Int := @ite Int P (Classical.propDecidable P) 1 0
theorem bz_t {P : Prop} (h : P) : bz P = 1 := by unfold bz; rw [if_pos h]
theorem bz_f {P : Prop} (h : ¬ P) : bz P = 0 := by unfold bz; rw [if_neg h]
theorem bz_r (P : Prop) : 0 ≤ bz P ∧ bz P ≤ 1 := by
  by_cases h : P
  · rw [bz_t h]; omega
  · rw [bz_f h]; omega
theorem bz_0 {P : Prop} : bz P = 0 ↔ ¬ P := by
  by_cases h : P
  · rw [bz_t h]; simp [h]
  · rw [bz_f h]; simp [h]
theorem bz_1 {P : Prop} : bz P ≠ 0 ↔ P := by
  by_cases h : P
  · rw [bz_t h]; simp [h]
  · rw [bz_f h]; simp [h]
theorem bz_iff {P Q : Prop} (h : P ↔ Q) : bz P = bz Q := by rw [propext h]
theorem bz_01 (P : Prop) : bz P = 0 ∨ bz P = 1 := by have := bz_r P; omega
def sumZ (f : Int → Int) : Nat → Int
  | 0 => 0
  | k + 1 => sumZ f k + f k
theorem sumZ_s {f : Int → Int} {i : Int} (h : 0 ≤ i) : sumZ f (i + 1).toNat = sumZ f i.toNat + f i := by
  obtain ⟨k, rfl⟩ := Int.eq_ofNat_of_zero_le h
  rfl
theorem sumZ_b {f : Int → Int} {lo hi : Int} : ∀ {k : Nat}, (∀ i : Int, 0 ≤ i → i < k → lo ≤ f i ∧ f i ≤ hi) → lo * k ≤ sumZ f k ∧ sumZ f k ≤ hi * k
  | 0, _ => by simp [sumZ]
  | k + 1, h => by
    have h1 := sumZ_b (k := k) (fun i a b => h i a (by omega))
    have h2 := h k (by omega) (by omega)
    simp only [sumZ]
    have e1 : lo * ((k + 1 : Nat) : Int) = lo * k + lo := by rw [Int.natCast_succ, Int.mul_add, Int.mul_one]
    have e2 : hi * ((k + 1 : Nat) : Int) = hi * k + hi := by rw [Int.natCast_succ, Int.mul_add, Int.mul_one]
    omega
theorem sumZ_cong {f g : Int → Int} : ∀ {k : Nat}, (∀ i : Int, 0 ≤ i → i < k → f i = g i) → sumZ f k = sumZ g k
  | 0, _ => rfl
  | k + 1, h => by
    simp only [sumZ]
    rw [sumZ_cong (k := k) (fun i a b => h i a (by omega)), h k (by omega) (by omega)]
/-- the greatest place below k at which p holds; -1 if there is none -/
noncomputable def lastZ (p : Int → Prop) : Nat → Int
  | 0 => -1
  | k + 1 => @ite Int (p k) (Classical.propDecidable _) k (lastZ p k)
theorem lastZ_t {p : Int → Prop} {i : Int} (h : 0 ≤ i) (hp : p i) : lastZ p (i + 1).toNat = i := by
  obtain ⟨k, rfl⟩ := Int.eq_ofNat_of_zero_le h
  show lastZ p (k + 1) = _
  unfold lastZ
  rw [if_pos hp]
theorem lastZ_f {p : Int → Prop} {i : Int} (h : 0 ≤ i) (hp : ¬ p i) : lastZ p (i + 1).toNat = lastZ p i.toNat := by
  obtain ⟨k, rfl⟩ := Int.eq_ofNat_of_zero_le h
  show lastZ p (k + 1) = lastZ p k
  rw [lastZ, if_neg hp]
theorem lastZ_r (p : Int → Prop) : ∀ k : Nat, -1 ≤ lastZ p k ∧ lastZ p k < k
  | 0 => by simp [lastZ]
  | k + 1 => by
    have h := lastZ_r p k
    rw [lastZ]
    by_cases hp : p k
    · rw [if_pos hp]; omega
    · rw [if_neg hp]; omega
theorem lastZ_cong {p q : Int → Prop} : ∀ {k : Nat}, (∀ i : Int, 0 ≤ i → i < k → (p i ↔ q i)) → lastZ p k = lastZ q k
  | 0, _ => rfl
  | k + 1, h => by
    have h2 := h k (by omega) (by omega)
    rw [lastZ, lastZ, lastZ_cong (k := k) (fun i a b => h i a (by omega))]
    by_cases hp : p k
    · rw [if_pos hp, if_pos (h2.mp hp)]
    · rw [if_neg hp, if_neg (fun z => hp (h2.mpr z))]
theorem lastZ_no {p : Int → Prop} : ∀ {k : Nat}, lastZ p k = -1 → ∀ i : Int, 0 ≤ i → i < k → ¬ p i
  | 0, _, i, h1, h2 => by omega
  | k + 1, h, i, h1, h2 => by
    rw [lastZ] at h
    by_cases hp : p k
    · rw [if_pos hp] at h; omega
    · rw [if_neg hp] at h
      by_cases hi : i = k
      · rw [hi]; exact hp
      · exact lastZ_no h i h1 (by omega)
theorem lastZ_yes {p : Int → Prop} : ∀ {k : Nat}, 0 ≤ lastZ p k → p (lastZ p k)
  | 0, h => by simp [lastZ] at h
  | k + 1, h => by
    rw [lastZ] at h ⊢
    by_cases hp : p k
    · rw [if_pos hp]; exact hp
    · rw [if_neg hp] at h ⊢
      exact lastZ_yes h
/-- what the first place from i on says at which a key stands; 0 if none does within d -/
def firstW (f g : Int → Int) (key : Int) : Int → Nat → Int
  | _, 0 => 0
  | i, d + 1 => if f i = key then g i else firstW f g key (i + 1) d
theorem firstW_t {f g : Int → Int} {key i e : Int} (h : i < e) (hp : f i = key) : firstW f g key i (e - i).toNat = g i := by
  obtain ⟨d, hd⟩ : ∃ d, (e - i).toNat = d + 1 := ⟨(e - i).toNat - 1, by omega⟩
  rw [hd, firstW, if_pos hp]
theorem firstW_f {f g : Int → Int} {key i e : Int} (h : i < e) (hp : f i ≠ key) : firstW f g key i (e - i).toNat = firstW f g key (i + 1) (e - (i + 1)).toNat := by
  obtain ⟨d, hd⟩ : ∃ d, (e - i).toNat = d + 1 := ⟨(e - i).toNat - 1, by omega⟩
  rw [hd, firstW, if_neg hp, show (e - (i + 1)).toNat = d by omega]
theorem firstW_0 {f g : Int → Int} {key i e : Int} (h : e ≤ i) : firstW f g key i (e - i).toNat = 0 := by
  rw [show (e - i).toNat = 0 by omega, firstW]
/-- the greatest (least) of numbers, by an order of the loop -/
def foldZ (g : Int → Int → Int) (x : Int) : Nat → Int
  | 0 => x
  | k + 1 => g (foldZ g x k) k
theorem foldZ_s {g : Int → Int → Int} {x i : Int} (h : 0 ≤ i) : foldZ g x (i + 1).toNat = g (foldZ g x i.toNat) i := by
  obtain ⟨k, rfl⟩ := Int.eq_ofNat_of_zero_le h
  rfl
theorem foldZ_cong {g g' : Int → Int → Int} {x : Int} : ∀ {k : Nat}, (∀ (a i : Int), 0 ≤ i → i < k → g a i = g' a i) → foldZ g x k = foldZ g' x k
  | 0, _ => rfl
  | k + 1, h => by
    simp only [foldZ]
    rw [foldZ_cong (k := k) (fun a i p q => h a i p (by omega)), h _ k (by omega) (by omega)]
theorem foldZ_inv {g : Int → Int → Int} {x : Int} {P : Int → Prop} (h0 : P x) : ∀ {k : Nat}, (∀ (a i : Int), P a → 0 ≤ i → i < k → P (g a i)) → P (foldZ g x k)
  | 0, _ => h0
  | k + 1, h => h _ k (foldZ_inv h0 (k := k) (fun a i p q r => h a i p q (by omega))) (by omega) (by omega)
