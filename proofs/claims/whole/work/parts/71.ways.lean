/-! 71: ways, in numbers -/
theorem sumZ_add {f g : Int → Int} : ∀ {k : Nat}, sumZ (fun i => f i + g i) k = sumZ f k + sumZ g k
  | 0 => rfl
  | k + 1 => by rw [sumZ, sumZ, sumZ, sumZ_add]; omega
theorem sumZ_one {a c : Int} : ∀ {k : Nat}, sumZ (fun i => if a = i then c else 0) k = if 0 ≤ a ∧ a < k then c else 0
  | 0 => by rw [if_neg (by omega)]; rfl
  | k + 1 => by
    rw [sumZ, sumZ_one (k := k)]
    by_cases q : a = k
    · rw [if_pos q, if_neg (by omega), if_pos (by omega)]; omega
    · rw [if_neg q]
      by_cases q2 : 0 ≤ a ∧ a < k
      · rw [if_pos q2, if_pos (by omega)]; omega
      · rw [if_neg q2, if_neg (by omega)]; rfl
theorem sumZ_fr1 {g : Int → Int} {i : Int} : ∀ {d : Nat}, sumZ (fun t => g (i + t)) (d + 1) = g i + sumZ (fun t => g (i + 1 + t)) d
  | 0 => by
    show 0 + g (i + ((0 : Nat) : Int)) = g i + 0
    rw [show i + ((0 : Nat) : Int) = i by omega]
    omega
  | d + 1 => by
    rw [sumZ, sumZ_fr1 (d := d), sumZ]
    rw [show i + ((d + 1 : Nat) : Int) = i + 1 + (d : Int) by omega]
    omega
theorem firstW_no {f g : Int → Int} {key : Int} : ∀ {d : Nat} {i : Int}, (∀ j, i ≤ j → j < i + d → f j ≠ key) → firstW f g key i d = 0
  | 0, _, _ => rfl
  | d + 1, i, h => by
    rw [firstW, if_neg (h i (by omega) (by omega))]
    exact firstW_no (fun j a b => h j (by omega) (by omega))
theorem firstW_sum {f g : Int → Int} {K : Nat} : ∀ {d : Nat} {i : Int}, (∀ j, i ≤ j → j < i + d → 0 ≤ f j ∧ f j < K) → (∀ j j', i ≤ j → j < j' → j' < i + d → f j ≠ f j') → sumZ (fun k => firstW f g k i d) K = sumZ (fun t => g (i + t)) d
  | 0, i, _, _ => by
    show sumZ (fun k => firstW f g k i 0) K = 0
    have h : ∀ n : Nat, sumZ (fun k => firstW f g k i 0) n = 0 := by
      intro n
      induction n with
      | zero => rfl
      | succ n ih => rw [sumZ, ih]; rfl
    exact h K
  | d + 1, i, h1, h2 => by
    have e : sumZ (fun k => firstW f g k i (d + 1)) K = sumZ (fun k => (if f i = k then g i else 0) + firstW f g k (i + 1) d) K := by
      refine sumZ_cong (fun k a b => ?_)
      show firstW f g k i (d + 1) = _
      rw [firstW]
      by_cases q : f i = k
      · rw [if_pos q, if_pos q, firstW_no (fun j c e => by rw [← q]; exact (h2 i j (by omega) (by omega) (by omega)).symm)]
        omega
      · rw [if_neg q, if_neg q]
        omega
    rw [e, sumZ_add, sumZ_one, if_pos (h1 i (by omega) (by omega)), firstW_sum (fun j a b => h1 j (by omega) (by omega)) (fun j j' a b c => h2 j j' (by omega) b (by omega)), sumZ_fr1]
theorem win_sum {ct td : Nat → Int} (hF : FI ct td) {b : Int} (hb : -1 ≤ b ∧ b < ct 7) : sumZ (fun k => c_win td b k) (ct 2).toNat = sumZ (fun i => c_get td 7 b (4 + 2 * i + 1)) 4 := by
  have l2 := hF.1 2 (by omega)
  have l7 := hF.1 7 (by omega)
  by_cases q : b = -1
  · have z : ∀ c, c_get td 7 b c = 0 := fun c => by
      unfold c_get
      rw [if_neg (by omega)]
    have z1 : ∀ k, c_win td b k = 0 := fun k => by
      unfold c_win
      rw [z]
      rfl
    have key : ∀ n : Nat, sumZ (fun k => c_win td b k) n = 0 := by
      intro n
      induction n with
      | zero => rfl
      | succ n ih => rw [sumZ, ih, z1]; rfl
    rw [key]
    show 0 = 0 + c_get td 7 b _ + c_get td 7 b _ + c_get td 7 b _ + c_get td 7 b _
    rw [z, z, z, z]
    rfl
  · obtain ⟨-, -, -, -, -, n1, n2, w1, w2, w3⟩ := (hF.2.1 7 b (by omega) (by omega) hb.2).2.2.2.2.2.2.2.1 rfl
    have g0 := fun c => (c_getr hF.2.2.2 7 b c).1
    show sumZ (fun k => firstW (fun i => c_get td 7 b (4 + 2 * i)) (fun i => c_get td 7 b (4 + 2 * i + 1)) k 0 (min (c_get td 7 b 3) 4).toNat) (ct 2).toNat = _
    rw [firstW_sum (fun j a c => ⟨g0 _, by have := (w1 j a (by omega)).1; show c_get td 7 b (4 + 2 * j) < _; omega⟩) (fun j j' a c d => w3 j j' a c (by omega))]
    have e : sumZ (fun t => (fun i => c_get td 7 b (4 + 2 * i + 1)) (0 + t)) (min (c_get td 7 b 3) 4).toNat = sumZ (fun i => c_get td 7 b (4 + 2 * i + 1)) (min (c_get td 7 b 3) 4).toNat := sumZ_cong (fun i _ _ => by show c_get td 7 b (4 + 2 * (0 + i) + 1) = _; rw [Int.zero_add])
    rw [e]
    exact (sumZ_tail (by omega) (fun i a c => (w2 i (by omega) (by omega)).2)).symm
theorem win_z {ct td : Nat → Int} (hF : FI ct td) {b : Int} : c_win td b (-1) = 0 := by
  unfold c_win
  refine firstW_no (fun j a c => ?_)
  have := (c_getr hF.2.2.2 7 b (4 + 2 * j)).1
  show c_get td 7 b (4 + 2 * j) ≠ -1
  omega
theorem win_le {f g : Int → Int} {key : Int} : ∀ {d : Nat} {i : Int}, (∀ j, i ≤ j → j < i + d → 0 ≤ g j) → 0 ≤ firstW f g key i d ∧ firstW f g key i d ≤ sumZ (fun t => g (i + t)) d
  | 0, _, _ => ⟨Int.le_refl _, Int.le_refl _⟩
  | d + 1, i, h => by
    have ih := win_le (f := f) (g := g) (key := key) (d := d) (i := i + 1) (fun j a b => h j (by omega) (by omega))
    have h0 := h i (by omega) (by omega)
    rw [sumZ_fr1, firstW]
    split <;> omega
theorem wab_all {W : Nat → Int} : c_wab W (-1) = W 0 + W 1 + W 2 + W 3 + W 4 + W 5 + W 6 + W 7 + W 8 + W 9 + W 10 := by
  show 0 + W 0 + W 1 + W 2 + W 3 + W 4 + W 5 + W 6 + W 7 + W 8 + W 9 + W 10 = _
  omega
theorem wab_le {W : Nat → Int} (h : ∀ m, m ≤ 10 → 0 ≤ W m) (m : Int) : 0 ≤ c_wab W m ∧ c_wab W m ≤ c_wab W (-1) := by
  have key : ∀ n : Nat, n ≤ 11 → 0 ≤ sumZ (fun i => if m < i then W i.toNat else 0) n ∧ sumZ (fun i => if m < i then W i.toNat else 0) n ≤ sumZ (fun i => if -1 < i then W i.toNat else 0) n := by
    intro n
    induction n with
    | zero => intro _; exact ⟨Int.le_refl _, Int.le_refl _⟩
    | succ n ih =>
      intro hn
      have ih := ih (by omega)
      have h0 := h n (by omega)
      rw [sumZ, sumZ, Int.toNat_natCast, if_pos (show (-1 : Int) < (n : Int) by omega)]
      split <;> omega
  exact key 11 (by omega)
theorem ad1_all {W : Nat → Int} {w o : Int} (h : W 10 = 0) : c_wab (ad1 W w o) (-1) = c_wab W (-1) * (w + o) := by
  rw [wab_all, wab_all]
  show W 0 * o + (W 1 * o + W 0 * w) + (W 2 * o + W 1 * w) + (W 3 * o + W 2 * w) + (W 4 * o + W 3 * w) + (W 5 * o + W 4 * w) + (W 6 * o + W 5 * w) + (W 7 * o + W 6 * w) + (W 8 * o + W 7 * w) + (W 9 * o + W 8 * w) + (W 10 * o + W 9 * w) = _
  simp only [Int.mul_add, Int.add_mul, h, Int.zero_mul]
  omega
/-- what the ways keep to: for a kind, and all told -/
def WGI (W Z : Nat → Int) (n : Nat) : Prop := (∀ m, m ≤ 10 → 0 ≤ W m) ∧ (∀ m, n < m → m ≤ 10 → W m = 0) ∧ c_wab W (-1) = Z 0 ∧ Z 0 ≤ (36 : Int) ^ n
theorem WGI_ad {W Z : Nat → Int} {n : Nat} {w o : Int} (h : WGI W Z n) (hn : n < 10) (hw : 0 ≤ w) (ho : 0 ≤ o) (ht : w + o ≤ 36) : WGI (ad1 W w o) (ad1 Z 0 (w + o)) (n + 1) := by
  obtain ⟨h1, h2, h3, h4⟩ := h
  refine ⟨fun m hm => ?_, fun m a b => ?_, ?_, ?_⟩
  · unfold ad1
    by_cases q : m = 0
    · rw [if_pos q]
      exact Int.mul_nonneg (h1 0 (by omega)) ho
    · rw [if_neg q, if_pos hm]
      have := Int.mul_nonneg (h1 m hm) ho
      have := Int.mul_nonneg (h1 (m - 1) (by omega)) hw
      omega
  · unfold ad1
    rw [if_neg (by omega), if_pos b, h2 m (by omega) b, h2 (m - 1) (by omega) (by omega), Int.zero_mul, Int.zero_mul]
    rfl
  · rw [ad1_all (h2 10 (by omega) (by omega)), h3]
    rfl
  · show Z 0 * (w + o) ≤ _
    have z0 : 0 ≤ Z 0 := by
      rw [← h3]
      exact (wab_le h1 (-1)).1
    rw [Int.pow_succ]
    exact Int.mul_le_mul h4 ht (by omega) (by exact Int.le_trans z0 h4)
theorem WGI_wgh {ct td bk si : Nat → Int} {k : Int} (hk : ∀ r : Int, 0 ≤ c_win td (c_blk bk r) k ∧ 0 ≤ c_oth ct td bk k r ∧ c_weights td bk r ≤ 36) (hz : ∀ r : Int, c_win td (c_blk bk r) (-1) = 0) (hu : ∀ r : Int, 0 ≤ c_unn ct td si r) : ∀ {e : Nat}, c_ahead ct td si e ≤ 10 → WGI (c_wgh ct td bk si k e) (c_wgh ct td bk si (-1) e) (c_ahead ct td si e).toNat ∧ 0 ≤ c_ahead ct td si e
  | 0, _ => by
    refine ⟨⟨fun m hm => ?_, fun m a b => ?_, ?_, ?_⟩, Int.le_refl _⟩
    · show 0 ≤ (if m = 0 then (1 : Int) else 0)
      split <;> omega
    · have : m ≠ 0 := by
        have a : (0 : Int).toNat < m := a
        omega
      exact if_neg this
    · rfl
    · show (1 : Int) ≤ 36 ^ 0
      exact Int.le_refl _
  | e + 1, h => by
    have ea : c_ahead ct td si (e + 1) = c_ahead ct td si e + c_unn ct td si (1 + e) := rfl
    have hu9 := hu (1 + e)
    obtain ⟨ih, ih0⟩ := WGI_wgh hk hz hu (e := e) (by omega)
    have key : ∀ j : Nat, (j : Int) ≤ c_unn ct td si (1 + e) → WGI (foldS (fun W _ => ad1 W (c_win td (c_blk bk (1 + e)) k) (c_oth ct td bk k (1 + e))) (c_wgh ct td bk si k e) j) (foldS (fun W _ => ad1 W (c_win td (c_blk bk (1 + e)) (-1)) (c_oth ct td bk (-1) (1 + e))) (c_wgh ct td bk si (-1) e) j) ((c_ahead ct td si e).toNat + j) := by
      intro j
      induction j with
      | zero => intro _; exact ih
      | succ j ihj =>
        intro hj
        obtain ⟨q1, q2, q3⟩ := hk (1 + e)
        have qo : c_oth ct td bk k (1 + e) = c_weights td bk (1 + e) - c_win td (c_blk bk (1 + e)) k := rfl
        have qz : c_oth ct td bk (-1) (1 + e) = c_weights td bk (1 + e) := by
          unfold c_oth
          rw [hz]
          omega
        have h9 := WGI_ad (ihj (by omega)) (by omega) q1 q2 (by omega)
        rw [show c_win td (c_blk bk (1 + e)) k + c_oth ct td bk k (1 + e) = c_weights td bk (1 + e) by omega] at h9
        rw [foldS, foldS, hz, qz]
        rw [hz, qz] at h9
        exact h9
    have h9 := key (c_unn ct td si (1 + e)).toNat (by omega)
    refine ⟨?_, by omega⟩
    rw [ea, show (c_ahead ct td si e + c_unn ct td si (1 + e)).toNat = (c_ahead ct td si e).toNat + (c_unn ct td si (1 + e)).toNat by omega]
    exact h9
