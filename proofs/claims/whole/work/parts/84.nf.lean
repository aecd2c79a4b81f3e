/-! 84: drawers: next fit over states gives the least number -/
/-- trays q of shapes s -/
def sz (s q : Nat → Int) : Int := q 0 * s 0 + q 1 * s 1 + q 2 * s 2 + q 3 * s 3
/-- v goes into n drawers of depth ho -/
def Fits (s : Nat → Int) (ho : Int) : Nat → (Nat → Int) → Prop
  | 0, v => ∀ j, j < 4 → v j = 0
  | n + 1, v => ∃ q : Nat → Int, (∀ j, j < 4 → 0 ≤ q j ∧ q j ≤ v j) ∧ sz s q ≤ ho ∧ Fits s ho n (fun j => v j - q j)
theorem sz_c {s q q' : Nat → Int} (h : ∀ j, j < 4 → q j = q' j) : sz s q = sz s q' := by
  unfold sz
  rw [h 0 (by omega), h 1 (by omega), h 2 (by omega), h 3 (by omega)]
theorem Fits_c {s : Nat → Int} {ho : Int} : ∀ {n : Nat} {v w : Nat → Int}, (∀ j, j < 4 → v j = w j) → Fits s ho n v → Fits s ho n w
  | 0, v, w, h, hf => fun j hj => by rw [← h j hj]; exact hf j hj
  | n + 1, v, w, h, ⟨q, h1, h2, h3⟩ => ⟨q, fun j hj => by rw [← h j hj]; exact h1 j hj, h2, Fits_c (fun j hj => by rw [h j hj]) h3⟩
theorem sz_m {s q q' : Nat → Int} (hs : ∀ j, j < 4 → 0 ≤ s j) (h : ∀ j, j < 4 → q j ≤ q' j) : sz s q ≤ sz s q' := by
  have m := fun j hj => Int.mul_le_mul_of_nonneg_right (h j hj) (hs j hj)
  have m0 := m 0 (by omega); have m1 := m 1 (by omega); have m2 := m 2 (by omega); have m3 := m 3 (by omega)
  unfold sz
  omega
theorem sz_0 {s q : Nat → Int} (hs : ∀ j, j < 4 → 0 ≤ s j) (h : ∀ j, j < 4 → 0 ≤ q j) : 0 ≤ sz s q := by
  have m := fun j hj => Int.mul_nonneg (h j hj) (hs j hj)
  have m0 := m 0 (by omega); have m1 := m 1 (by omega); have m2 := m 2 (by omega); have m3 := m 3 (by omega)
  unfold sz
  omega
theorem Fits_n {s : Nat → Int} {ho : Int} : ∀ {n : Nat} {v : Nat → Int}, Fits s ho n v → ∀ j, j < 4 → 0 ≤ v j
  | 0, v, hf, j, hj => by have := hf j hj; omega
  | n + 1, v, ⟨q, h1, h2, h3⟩, j, hj => by have := h1 j hj; omega
theorem Fits_d {s : Nat → Int} {ho : Int} (hs : ∀ j, j < 4 → 0 ≤ s j) : ∀ {n : Nat} {v w : Nat → Int}, (∀ j, j < 4 → 0 ≤ w j ∧ w j ≤ v j) → Fits s ho n v → Fits s ho n w
  | 0, v, w, h, hf => fun j hj => by have := h j hj; have := hf j hj; omega
  | n + 1, v, w, h, ⟨q, h1, h2, h3⟩ => by
    refine ⟨fun j => min (q j) (w j), fun j hj => ?_, ?_, ?_⟩
    · have := h j hj; have := h1 j hj; show 0 ≤ min (q j) (w j) ∧ min (q j) (w j) ≤ w j; omega
    · exact Int.le_trans (sz_m hs (fun j hj => by show min (q j) (w j) ≤ q j; omega)) h2
    · refine Fits_d hs (fun j hj => ?_) h3
      have := h j hj; have := h1 j hj
      show 0 ≤ w j - min (q j) (w j) ∧ w j - min (q j) (w j) ≤ v j - q j
      omega
theorem Fits_s {s : Nat → Int} {ho : Int} (hho : 0 ≤ ho) {n : Nat} {v : Nat → Int} (h : Fits s ho n v) : Fits s ho (n + 1) v := by
  refine ⟨fun _ => 0, fun j hj => ⟨Int.le_refl _, Fits_n h j hj⟩, ?_, Fits_c (fun j _ => by show v j = v j - 0; omega) h⟩
  unfold sz
  simp only [Int.zero_mul]
  omega
theorem Fits_m {s : Nat → Int} {ho : Int} (hho : 0 ≤ ho) {v : Nat → Int} {n m : Nat} (h : Fits s ho n v) (hm : n ≤ m) : Fits s ho m v := by
  obtain ⟨k, rfl⟩ : ∃ k, m = n + k := ⟨m - n, by omega⟩
  induction k with
  | zero => exact h
  | succ k ih => exact Fits_s hho (ih (by omega))
/-- one kind more -/
def ek (k : Nat) : Nat → Int := fun j => if j = k then 1 else 0
theorem sz_up {s q : Nat → Int} {k : Nat} (hk : k < 4) {x : Int} : sz s (up q k x) = sz s q + (x - q k) * s k := by
  have hk' : k = 0 ∨ k = 1 ∨ k = 2 ∨ k = 3 := by omega
  unfold sz
  rcases hk' with rfl | rfl | rfl | rfl <;> simp only [up, Int.sub_mul] <;> simp <;> omega
/-- p is the least -/
def isMin (s : Nat → Int) (ho : Int) (p : Int) (v : Nat → Int) : Prop := 0 ≤ p ∧ Fits s ho p.toNat v ∧ ∀ n : Nat, Fits s ho n v → p ≤ n
theorem isMin_u {s : Nat → Int} {ho p p' : Int} {v : Nat → Int} (h : isMin s ho p v) (h' : isMin s ho p' v) : p = p' := by
  have h1 := h.2.2 _ h'.2.1
  have h2 := h'.2.2 _ h.2.1
  have := h.1
  have := h'.1
  omega
theorem isMin_c {s : Nat → Int} {ho p : Int} {v w : Nat → Int} (hv : ∀ j, j < 4 → v j = w j) (h : isMin s ho p v) : isMin s ho p w := ⟨h.1, Fits_c hv h.2.1, fun n hn => h.2.2 n (Fits_c (fun j hj => (hv j hj).symm) hn)⟩
theorem sz_ek {s : Nat → Int} {k : Nat} (hk : k < 4) : sz s (ek k) = s k := by
  have h := sz_up (s := s) (q := fun _ => 0) hk (x := 1)
  have e : sz s (ek k) = sz s (up (fun _ => 0) k 1) := sz_c (fun j _ => rfl)
  have e0 : sz s (fun _ => 0) = 0 := by unfold sz; simp only [Int.zero_mul]; rfl
  rw [e, h, e0, Int.zero_add, Int.sub_zero, Int.one_mul]
/-- the state of next fit: drawers and what the last one holds -/
def enc (s : Nat → Int) (ho D : Int) (v : Nat → Int) : Prop := (∀ j, j < 4 → v j = 0) ∧ D = ho ∨ ∃ (p u : Int) (q : Nat → Int), D = 64 * p + u ∧ 1 ≤ p ∧ 0 ≤ u ∧ u ≤ ho ∧ p ≤ v 0 + v 1 + v 2 + v 3 ∧ (∀ j, j < 4 → 0 ≤ q j ∧ q j ≤ v j) ∧ sz s q = u ∧ Fits s ho (p - 1).toNat (fun j => v j - q j)
theorem fil_v {p u x ho : Int} (hu : 0 ≤ u ∧ u ≤ ho) (hho : ho ≤ 63) : c_fil (64 * p + u) x ho = if u + x ≤ ho then 64 * p + (u + x) else 64 * (p + 1) + x := by
  unfold c_fil
  rw [show (64 * p + u) % 64 = u by omega, show (64 * p + u) / 64 = p by omega]
  split <;> omega
theorem sm_up {v : Nat → Int} {k : Nat} (hk : k < 4) {x : Int} : up v k x 0 + up v k x 1 + up v k x 2 + up v k x 3 = v 0 + v 1 + v 2 + v 3 + x - v k := by
  have hk' : k = 0 ∨ k = 1 ∨ k = 2 ∨ k = 3 := by omega
  rcases hk' with rfl | rfl | rfl | rfl <;> simp only [up] <;> simp <;> omega
theorem enc_s {s : Nat → Int} {ho D : Int} {v : Nat → Int} {k : Nat} (hk : k < 4) (hsk : 1 ≤ s k ∧ s k ≤ ho) (hho : ho ≤ 63) (hv : 1 ≤ v k) (hn : ∀ j, j < 4 → 0 ≤ v j) (h : enc s ho D (up v k (v k - 1))) : enc s ho (c_fil D (s k) ho) v := by
  have hsm := sm_up (v := v) hk (x := v k - 1)
  have hek : ∀ j, j < 4 → 0 ≤ ek k j ∧ ek k j ≤ v j := fun j hj => by
    have := hn j hj
    unfold ek
    split
    · rename_i q; subst q; omega
    · omega
  have eup : ∀ j, up v k (v k - 1) j = v j - ek k j := fun j => by
    unfold up ek
    split
    · rename_i q; subst q; rfl
    · omega
  rcases h with ⟨h0, rfl⟩ | ⟨p, u, q, rfl, hp, hu0, hu1, hps, hq1, hq2, hq3⟩
  · have e := fil_v (p := 0) (u := D) (x := s k) (ho := D) (by omega) hho
    rw [show 64 * (0 : Int) + D = D by omega, if_neg (by omega)] at e
    rw [e]
    refine Or.inr ⟨0 + 1, s k, ek k, rfl, by omega, by omega, by omega, ?_, hek, sz_ek hk, ?_⟩
    · have := h0 0 (by omega); have := h0 1 (by omega); have := h0 2 (by omega); have := h0 3 (by omega)
      omega
    · show ∀ j, j < 4 → v j - ek k j = 0
      intro j hj
      rw [← eup]
      exact h0 j hj
  · rw [fil_v ⟨hu0, hu1⟩ hho]
    split
    · rename_i q0
      refine Or.inr ⟨p, u + s k, up q k (q k + 1), rfl, hp, by omega, q0, by omega, fun j hj => ?_, ?_, ?_⟩
      · have h1 := hq1 j hj
        by_cases qq : j = k
        · subst qq
          rw [up_eq] at h1 ⊢
          omega
        · rw [up_ne qq] at h1 ⊢
          exact h1
      · rw [sz_up hk, hq2, show q k + 1 - q k = 1 by omega, Int.one_mul]
      · refine Fits_c (fun j hj => ?_) hq3
        by_cases qq : j = k
        · subst qq
          rw [up_eq, up_eq]
          omega
        · rw [up_ne qq, up_ne qq]
    · refine Or.inr ⟨p + 1, s k, ek k, rfl, by omega, by omega, by omega, by omega, hek, sz_ek hk, ?_⟩
      rw [show (p + 1 - 1).toNat = (p - 1).toNat + 1 by omega]
      refine Fits_c (fun j hj => eup j) ⟨q, hq1, by omega, hq3⟩
/-- a table of next fit's states -/
def nfT (s M : Nat → Int) (ho : Int) (D : (Nat → Int) → Int) : Prop :=
  (∀ v : Nat → Int, (∀ j, j < 4 → v j = 0) → D v = ho) ∧
  (∀ (v : Nat → Int) (k : Nat), k < 4 → 1 ≤ v k → (∀ j, j < 4 → 0 ≤ v j ∧ v j ≤ M j) → D v ≤ c_fil (D (up v k (v k - 1))) (s k) ho) ∧
  (∀ v : Nat → Int, (∀ j, j < 4 → 0 ≤ v j ∧ v j ≤ M j) → (∃ j, j < 4 ∧ v j ≠ 0) → (∃ k, k < 4 ∧ 1 ≤ v k ∧ D v = c_fil (D (up v k (v k - 1))) (s k) ho) ∨ D v = 1000000)
theorem rng_up {v M : Nat → Int} {k : Nat} (hv : ∀ j, j < 4 → 0 ≤ v j ∧ v j ≤ M j) (h1 : 1 ≤ v k) : ∀ j, j < 4 → 0 ≤ up v k (v k - 1) j ∧ up v k (v k - 1) j ≤ M j := fun j hj => by
  have := hv j hj
  by_cases q : j = k
  · subst q; rw [up_eq]; omega
  · rw [up_ne q]; exact this
theorem nf_enc {s M : Nat → Int} {ho : Int} {D : (Nat → Int) → Int} (hT : nfT s M ho D) (hs : ∀ k, k < 4 → 1 ≤ M k → 1 ≤ s k ∧ s k ≤ ho) (hho : ho ≤ 63) (hM : M 0 + M 1 + M 2 + M 3 ≤ 1000) : ∀ (N : Nat) (v : Nat → Int), (∀ j, j < 4 → 0 ≤ v j ∧ v j ≤ M j) → v 0 + v 1 + v 2 + v 3 = N → enc s ho (D v) v
  | 0, v, hv, hN => by
    have h0 : ∀ j, j < 4 → v j = 0 := fun j hj => by
      have := hv 0 (by omega); have := hv 1 (by omega); have := hv 2 (by omega); have := hv 3 (by omega)
      have hj' : j = 0 ∨ j = 1 ∨ j = 2 ∨ j = 3 := by omega
      rcases hj' with rfl | rfl | rfl | rfl <;> omega
    exact Or.inl ⟨h0, hT.1 v h0⟩
  | N + 1, v, hv, hN => by
    have v0 := hv 0 (by omega)
    have v1 := hv 1 (by omega)
    have v2 := hv 2 (by omega)
    have v3 := hv 3 (by omega)
    have hne : ∃ j, j < 4 ∧ v j ≠ 0 := by
      by_cases q0 : v 0 = 0
      · by_cases q1 : v 1 = 0
        · by_cases q2 : v 2 = 0
          · exact ⟨3, by omega, by omega⟩
          · exact ⟨2, by omega, q2⟩
        · exact ⟨1, by omega, q1⟩
      · exact ⟨0, by omega, q0⟩
    have key : ∀ k, k < 4 → 1 ≤ v k → enc s ho (c_fil (D (up v k (v k - 1))) (s k) ho) v := fun k hk h1 => by
      have hk1 := hv k hk
      exact enc_s hk (hs k hk (by omega)) hho h1 (fun j hj => (hv j hj).1) (nf_enc hT hs hho hM N _ (rng_up hv h1) (by rw [sm_up hk]; omega))
    rcases hT.2.2 v hv hne with ⟨k, hk, h1, e⟩ | e
    · rw [e]; exact key k hk h1
    · exfalso
      obtain ⟨j, hj, hj0⟩ := hne
      have hj1 := hv j hj
      have h1 : 1 ≤ v j := by omega
      have h2 := key j hj h1
      have h3 := hT.2.1 v j hj h1 hv
      rw [e] at h3
      rcases h2 with ⟨z, -⟩ | ⟨p, u, q, e2, h5, h6, h7, h8, -⟩
      · exact hj0 (z j hj)
      · omega
theorem nf_low {s M : Nat → Int} {ho : Int} {D : (Nat → Int) → Int} (hT : nfT s M ho D) (hs : ∀ k, k < 4 → 1 ≤ M k → 1 ≤ s k ∧ s k ≤ ho) (hs0 : ∀ k, k < 4 → 0 ≤ s k) (hho : 0 ≤ ho ∧ ho ≤ 63) (hM : M 0 + M 1 + M 2 + M 3 ≤ 1000) : ∀ (N : Nat) (v : Nat → Int), (∀ j, j < 4 → 0 ≤ v j ∧ v j ≤ M j) → v 0 + v 1 + v 2 + v 3 = N → (∀ (n : Nat) (q : Nat → Int), (∀ j, j < 4 → 0 ≤ q j ∧ q j ≤ v j) → (∃ j, j < 4 ∧ q j ≠ 0) → sz s q ≤ ho → Fits s ho n (fun j => v j - q j) → D v ≤ 64 * (n + 1) + sz s q) ∧ ∀ n : Nat, Fits s ho n v → D v ≤ 64 * n + ho := by
  intro N
  induction N with
  | zero =>
    intro v hv hN
    have h0 : ∀ j, j < 4 → v j = 0 := fun j hj => by
      have := hv 0 (by omega); have := hv 1 (by omega); have := hv 2 (by omega); have := hv 3 (by omega)
      have hj' : j = 0 ∨ j = 1 ∨ j = 2 ∨ j = 3 := by omega
      rcases hj' with rfl | rfl | rfl | rfl <;> omega
    refine ⟨fun n q hq ⟨j, hj, hj0⟩ _ _ => ?_, fun n _ => ?_⟩
    · exfalso; have := hq j hj; have := h0 j hj; omega
    · rw [hT.1 v h0]; omega
  | succ N ih =>
    intro v hv hN
    have hA : ∀ (n : Nat) (q : Nat → Int), (∀ j, j < 4 → 0 ≤ q j ∧ q j ≤ v j) → (∃ j, j < 4 ∧ q j ≠ 0) → sz s q ≤ ho → Fits s ho n (fun j => v j - q j) → D v ≤ 64 * (n + 1) + sz s q := by
      intro n q hq hq0 hz hf
      obtain ⟨k, hk, hk0⟩ := hq0
      have hqk := hq k hk
      have hvk := hv k hk
      have hsk := hs k hk (by omega)
      have h1 := hT.2.1 v k hk (by omega) hv
      have hvr := rng_up hv (show 1 ≤ v k by omega)
      have hsm : up v k (v k - 1) 0 + up v k (v k - 1) 1 + up v k (v k - 1) 2 + up v k (v k - 1) 3 = N := by rw [sm_up hk]; omega
      obtain ⟨ihA, ihB⟩ := ih _ hvr hsm
      have hE := nf_enc hT hs hho.2 hM N _ hvr hsm
      have hzu := sz_up (s := s) (q := q) hk (x := q k - 1)
      rw [show q k - 1 - q k = -1 by omega, Int.neg_mul, Int.one_mul] at hzu
      have hfu : Fits s ho n (fun j => up v k (v k - 1) j - up q k (q k - 1) j) := by
        refine Fits_c (fun j hj => ?_) hf
        show v j - q j = up v k (v k - 1) j - up q k (q k - 1) j
        by_cases qq : j = k
        · subst qq; rw [up_eq, up_eq]; omega
        · rw [up_ne qq, up_ne qq]
      have hqu : ∀ j, j < 4 → 0 ≤ up q k (q k - 1) j ∧ up q k (q k - 1) j ≤ up v k (v k - 1) j := fun j hj => by
        have := hq j hj
        by_cases qq : j = k
        · subst qq; rw [up_eq, up_eq]; omega
        · rw [up_ne qq, up_ne qq]; exact this
      have hz0 := sz_0 (q := up q k (q k - 1)) hs0 (fun j hj => (hqu j hj).1)
      -- the state before
      have hB : ∃ p' u' : Int, D (up v k (v k - 1)) ≤ 64 * p' + u' ∧ 0 ≤ u' ∧ u' ≤ ho ∧ (if u' + s k ≤ ho then 64 * p' + (u' + s k) else 64 * (p' + 1) + s k) ≤ 64 * (n + 1) + sz s q := by
        by_cases qz : ∀ j, j < 4 → up q k (q k - 1) j = 0
        · refine ⟨n, ho, ihB n (Fits_c (fun j hj => ?_) hfu), hho.1, Int.le_refl _, ?_⟩
          · show up v k (v k - 1) j - up q k (q k - 1) j = up v k (v k - 1) j
            rw [qz j hj]; omega
          · rw [if_neg (by omega)]
            omega
        · have hne : ∃ j, j < 4 ∧ up q k (q k - 1) j ≠ 0 := by
            refine Classical.byContradiction (fun hh => qz (fun j hj => Classical.byContradiction (fun h => hh ⟨j, hj, h⟩)))
          refine ⟨n + 1, sz s (up q k (q k - 1)), ihA n _ hqu hne (by omega) hfu, hz0, by omega, ?_⟩
          rw [if_pos (by omega)]
          omega
      obtain ⟨p', u', b1, b2, b3, b4⟩ := hB
      have hF : c_fil (D (up v k (v k - 1))) (s k) ho ≤ if u' + s k ≤ ho then 64 * p' + (u' + s k) else 64 * (p' + 1) + s k := by
        rcases hE with ⟨-, e⟩ | ⟨p, u, -, e, -, e2, e3, -⟩
        · have e9 := fil_v (p := 0) (u := ho) (x := s k) (ho := ho) (by omega) hho.2
          rw [e] at b1 ⊢
          rw [show 64 * (0 : Int) + ho = ho by omega] at e9
          rw [e9]
          split <;> split <;> omega
        · rw [e] at b1 ⊢
          rw [fil_v ⟨e2, e3⟩ hho.2]
          split <;> split <;> omega
      omega
    refine ⟨hA, fun n => ?_⟩
    induction n with
    | zero =>
      intro hf
      exfalso
      have := hf 0 (by omega); have := hf 1 (by omega); have := hf 2 (by omega); have := hf 3 (by omega)
      omega
    | succ n ihn =>
      intro hf
      obtain ⟨q, hq1, hq2, hq3⟩ := id hf
      by_cases qz : ∀ j, j < 4 → q j = 0
      · have := ihn (Fits_c (fun j hj => by rw [qz j hj]; omega) hq3)
        omega
      · have hne : ∃ j, j < 4 ∧ q j ≠ 0 := Classical.byContradiction (fun hh => qz (fun j hj => Classical.byContradiction (fun h => hh ⟨j, hj, h⟩)))
        have := hA n q hq1 hne hq2 hq3
        omega
theorem nf_min {s M : Nat → Int} {ho : Int} {D : (Nat → Int) → Int} (hT : nfT s M ho D) (hs : ∀ k, k < 4 → 1 ≤ M k → 1 ≤ s k ∧ s k ≤ ho) (hs0 : ∀ k, k < 4 → 0 ≤ s k) (hho : 0 ≤ ho ∧ ho ≤ 63) (hM : M 0 + M 1 + M 2 + M 3 ≤ 1000) {v : Nat → Int} (hv : ∀ j, j < 4 → 0 ≤ v j ∧ v j ≤ M j) : isMin s ho (D v / 64) v := by
  have v0 := hv 0 (by omega)
  have v1 := hv 1 (by omega)
  have v2 := hv 2 (by omega)
  have v3 := hv 3 (by omega)
  have hN : v 0 + v 1 + v 2 + v 3 = ((v 0 + v 1 + v 2 + v 3).toNat : Int) := by omega
  have hE := nf_enc hT hs hho.2 hM _ v hv hN
  have hL := (nf_low hT hs hs0 hho hM _ v hv hN).2
  rcases hE with ⟨hz, e⟩ | ⟨p, u, q, e, e1, e2, e3, e4, e5, e6, e7⟩
  · rw [e, show ho / 64 = 0 by omega]
    exact ⟨Int.le_refl _, hz, fun n _ => by omega⟩
  · rw [show D v / 64 = p by omega]
    refine ⟨by omega, ?_, fun n hn => ?_⟩
    · rw [show p.toNat = (p - 1).toNat + 1 by omega]
      exact ⟨q, e5, by omega, e7⟩
    · have := hL n hn
      omega
def tk (wn : Nat → Int) : Nat → Int
  | 0 => 1
  | k + 1 => tk wn k * (wn k + 1)
/-- the number of a state -/
def cod (wn v : Nat → Int) : Int := v 0 + (wn 0 + 1) * (v 1 + (wn 1 + 1) * (v 2 + (wn 2 + 1) * v 3))
theorem bf_r {td wn be : Nat → Int} {st ho : Int} : ∀ m : Nat, (foldS (bf1 td wn be st ho) (1000000, 1) m).2 = tk wn m ∧ (∀ k : Nat, k < m → 0 < st / tk wn k % (wn k + 1) → (foldS (bf1 td wn be st ho) (1000000, 1) m).1 ≤ c_fil (be (st - tk wn k).toNat) (c_get td 2 k 0) ho) ∧ ((foldS (bf1 td wn be st ho) (1000000, 1) m).1 = 1000000 ∨ ∃ k : Nat, k < m ∧ 0 < st / tk wn k % (wn k + 1) ∧ (foldS (bf1 td wn be st ho) (1000000, 1) m).1 = c_fil (be (st - tk wn k).toNat) (c_get td 2 k 0) ho)
  | 0 => ⟨rfl, fun k hk => by omega, Or.inl rfl⟩
  | m + 1 => by
    obtain ⟨h1, h2, h3⟩ := bf_r (td := td) (wn := wn) (be := be) (st := st) (ho := ho) m
    rw [foldS]
    generalize foldS (bf1 td wn be st ho) (1000000, 1) m = s at h1 h2 h3
    obtain ⟨a, b⟩ := s
    simp only at h1 h2 h3
    subst h1
    unfold bf1
    simp only [Int.toNat_natCast]
    refine ⟨rfl, fun k hk hd => ?_, ?_⟩
    · by_cases q : k = m
      · subst q
        rw [if_pos hd]
        omega
      · have := h2 k (by omega) hd
        split <;> omega
    · by_cases hd : 0 < st / tk wn m % (wn m + 1)
      · rw [if_pos hd]
        by_cases q : a ≤ c_fil (be (st - tk wn m).toNat) (c_get td 2 m 0) ho
        · rw [show min a (c_fil (be (st - tk wn m).toNat) (c_get td 2 m 0) ho) = a by omega]
          rcases h3 with h3 | ⟨k, hk, h4, h5⟩
          · exact Or.inl h3
          · exact Or.inr ⟨k, by omega, h4, h5⟩
        · exact Or.inr ⟨m, by omega, hd, by omega⟩
      · rw [if_neg hd]
        rcases h3 with h3 | ⟨k, hk, h4, h5⟩
        · exact Or.inl h3
        · exact Or.inr ⟨k, by omega, h4, h5⟩
theorem tab_j {td wn be : Nat → Int} {ho : Int} {j : Nat} : ∀ {k : Nat}, j ≤ k → c_tab td wn be ho k j = c_tab td wn be ho j j
  | 0, h => by rw [show j = 0 by omega]
  | k + 1, h => by
    by_cases q : j = k + 1
    · rw [q]
    · rw [← tab_j (k := k) (by omega)]
      unfold c_tab
      rw [foldS, up_ne (by omega)]
theorem tab_0 {td wn be : Nat → Int} {ho : Int} : c_tab td wn be ho 0 0 = ho := by
  unfold c_tab
  rw [foldS, up_eq]
theorem tab_s {td wn be : Nat → Int} {ho : Int} {j : Nat} : c_tab td wn be ho (j + 1) (j + 1) = c_bf td wn (c_tab td wn be ho j) (j + 1 : Nat) ho := by
  unfold c_tab
  rw [foldS, show (1 + (j : Int)).toNat = j + 1 by omega, up_eq, show 1 + (j : Int) = ((j + 1 : Nat) : Int) by omega]
/-- digits -/
theorem dg {a b W : Int} (ha : 0 ≤ a ∧ a < W) : (a + W * b) % W = a ∧ (a + W * b) / W = b := by
  refine ⟨?_, ?_⟩
  · rw [Int.add_mul_emod_self_left, Int.emod_eq_of_lt ha.1 ha.2]
  · rw [Int.add_mul_ediv_left _ _ (by omega), Int.ediv_eq_zero_of_lt ha.1 ha.2, Int.zero_add]
theorem cod_d {wn v : Nat → Int} (hv : ∀ j, j < 4 → 0 ≤ v j ∧ v j ≤ wn j) {k : Nat} (hk : k < 4) : cod wn v / tk wn k % (wn k + 1) = v k := by
  have v0 := hv 0 (by omega)
  have v1 := hv 1 (by omega)
  have v2 := hv 2 (by omega)
  have v3 := hv 3 (by omega)
  have d0 := dg (a := v 0) (b := v 1 + (wn 1 + 1) * (v 2 + (wn 2 + 1) * v 3)) (W := wn 0 + 1) (by omega)
  have d1 := dg (a := v 1) (b := v 2 + (wn 2 + 1) * v 3) (W := wn 1 + 1) (by omega)
  have d2 := dg (a := v 2) (b := v 3) (W := wn 2 + 1) (by omega)
  have e1 : cod wn v / tk wn 1 = v 1 + (wn 1 + 1) * (v 2 + (wn 2 + 1) * v 3) := by
    unfold cod tk tk
    rw [Int.one_mul, d0.2]
  have e2 : cod wn v / tk wn 2 = v 2 + (wn 2 + 1) * v 3 := by
    rw [show tk wn 2 = tk wn 1 * (wn 1 + 1) from rfl, ← Int.ediv_ediv_of_nonneg (by unfold tk tk; omega), e1, d1.2]
  have e3 : cod wn v / tk wn 3 = v 3 := by
    have h2 : 0 ≤ tk wn 2 := by
      unfold tk tk tk
      exact Int.mul_nonneg (by omega) (by omega)
    rw [show tk wn 3 = tk wn 2 * (wn 2 + 1) from rfl, ← Int.ediv_ediv_of_nonneg h2, e2, d2.2]
  have hk' : k = 0 ∨ k = 1 ∨ k = 2 ∨ k = 3 := by omega
  rcases hk' with rfl | rfl | rfl | rfl
  · rw [show tk wn 0 = 1 from rfl, Int.ediv_one]
    exact d0.1
  · rw [e1]; exact d1.1
  · rw [e2]; exact d2.1
  · rw [e3]; exact Int.emod_eq_of_lt v3.1 (by omega)
theorem cod_u {wn v : Nat → Int} {k : Nat} (hk : k < 4) : cod wn (up v k (v k - 1)) = cod wn v - tk wn k := by
  have hk' : k = 0 ∨ k = 1 ∨ k = 2 ∨ k = 3 := by omega
  unfold cod
  rcases hk' with rfl | rfl | rfl | rfl <;> simp only [up, tk] <;> simp
  · omega
  · rw [show v 1 - 1 + (wn 1 + 1) * (v 2 + (wn 2 + 1) * v 3) = v 1 + (wn 1 + 1) * (v 2 + (wn 2 + 1) * v 3) - 1 by omega, Int.mul_sub, Int.mul_one]
    omega
  · rw [show v 2 - 1 + (wn 2 + 1) * v 3 = v 2 + (wn 2 + 1) * v 3 - 1 by omega, Int.mul_sub (wn 1 + 1), Int.mul_one, ← Int.add_sub_assoc, Int.mul_sub (wn 0 + 1)]
    omega
  · rw [Int.mul_sub (wn 2 + 1), Int.mul_one, ← Int.add_sub_assoc, Int.mul_sub (wn 1 + 1), ← Int.add_sub_assoc, Int.mul_sub (wn 0 + 1), Int.mul_assoc]
    omega
theorem tk_1 {wn : Nat → Int} (hw : ∀ j, j < 4 → 0 ≤ wn j) : ∀ k : Nat, k ≤ 4 → 1 ≤ tk wn k
  | 0, _ => Int.le_refl _
  | k + 1, h => by
    have h1 := tk_1 hw k (by omega)
    have h2 := hw k (by omega)
    have := Int.mul_le_mul (a := 1) (b := 1) h1 (show 1 ≤ wn k + 1 by omega) (by omega) (by omega)
    rw [tk]
    omega
theorem cod_0 {wn v : Nat → Int} (hw : ∀ j, j < 4 → 0 ≤ wn j) (hv : ∀ j, j < 4 → 0 ≤ v j) : 0 ≤ cod wn v := by
  have w0 := hw 0 (by omega)
  have w1 := hw 1 (by omega)
  have w2 := hw 2 (by omega)
  have v0 := hv 0 (by omega)
  have v1 := hv 1 (by omega)
  have v2 := hv 2 (by omega)
  have v3 := hv 3 (by omega)
  have a := Int.mul_nonneg (show 0 ≤ wn 2 + 1 by omega) v3
  have b := Int.mul_nonneg (show 0 ≤ wn 1 + 1 by omega) (show 0 ≤ v 2 + (wn 2 + 1) * v 3 by omega)
  have c := Int.mul_nonneg (show 0 ≤ wn 0 + 1 by omega) (show 0 ≤ v 1 + (wn 1 + 1) * (v 2 + (wn 2 + 1) * v 3) by omega)
  unfold cod
  omega
theorem cod_ne {wn v : Nat → Int} (hv : ∀ j, j < 4 → 0 ≤ v j ∧ v j ≤ wn j) (hn : ∃ j, j < 4 ∧ v j ≠ 0) : 1 ≤ cod wn v := by
  have h0 := cod_0 (wn := wn) (v := v) (fun j hj => by have := hv j hj; omega) (fun j hj => (hv j hj).1)
  obtain ⟨j, hj, hj0⟩ := hn
  have hd := cod_d hv hj
  rcases Int.lt_or_le 0 (cod wn v) with q | q
  · omega
  · exfalso
    rw [show cod wn v = 0 by omega, Int.zero_ediv, Int.zero_emod] at hd
    exact hj0 hd.symm
theorem cod_sts {wn : Nat → Int} : cod wn wn = c_sts wn - 1 := by
  unfold cod c_sts
  have e2 : wn 2 + (wn 2 + 1) * wn 3 = (wn 2 + 1) * (wn 3 + 1) - 1 := by rw [Int.mul_add, Int.mul_one]; omega
  have e1 : wn 1 + (wn 1 + 1) * ((wn 2 + 1) * (wn 3 + 1) - 1) = (wn 1 + 1) * ((wn 2 + 1) * (wn 3 + 1)) - 1 := by rw [Int.mul_sub, Int.mul_one]; omega
  rw [e2, e1, Int.mul_sub, Int.mul_one, Int.one_mul, Int.mul_assoc, Int.mul_assoc]
  omega
theorem few_nf {td wn be : Nat → Int} {ho : Int} (hw : ∀ j, j < 4 → 0 ≤ wn j) : nfT (fun k => c_get td 2 k 0) wn ho (fun v => c_tab td wn be ho (cod wn v).toNat (cod wn v).toNat) := by
  have key : ∀ v : Nat → Int, (∀ j, j < 4 → 0 ≤ v j ∧ v j ≤ wn j) → (∃ j, j < 4 ∧ v j ≠ 0) → ∃ be', (∀ k, k < 4 → 1 ≤ v k → be' (cod wn v - tk wn k).toNat = c_tab td wn be ho (cod wn (up v k (v k - 1))).toNat (cod wn (up v k (v k - 1))).toNat) ∧ c_tab td wn be ho (cod wn v).toNat (cod wn v).toNat = c_bf td wn be' (cod wn v) ho := by
    intro v hv hn
    have h1 := cod_ne hv hn
    obtain ⟨j, hj⟩ : ∃ j : Nat, cod wn v = (j + 1 : Nat) := ⟨(cod wn v).toNat - 1, by omega⟩
    refine ⟨c_tab td wn be ho j, fun k hk hk1 => ?_, ?_⟩
    · have ht := tk_1 hw k (by omega)
      rw [cod_u hk]
      exact tab_j (by omega)
    · rw [hj, Int.toNat_natCast]
      exact tab_s
  refine ⟨fun v h0 => ?_, fun v k hk h1 hv => ?_, fun v hv hn => ?_⟩
  · have e : cod wn v = 0 := by
      unfold cod
      rw [h0 0 (by omega), h0 1 (by omega), h0 2 (by omega), h0 3 (by omega)]
      simp
    show c_tab td wn be ho (cod wn v).toNat (cod wn v).toNat = ho
    rw [e]
    exact tab_0
  · obtain ⟨be', e1, e2⟩ := key v hv ⟨k, hk, by omega⟩
    show c_tab td wn be ho (cod wn v).toNat (cod wn v).toNat ≤ _
    rw [e2]
    have h := (bf_r (td := td) (wn := wn) (be := be') (st := cod wn v) (ho := ho) 4).2.1 k hk (by rw [cod_d hv hk]; omega)
    rw [e1 k hk h1] at h
    exact h
  · obtain ⟨be', e1, e2⟩ := key v hv hn
    show (∃ k, k < 4 ∧ 1 ≤ v k ∧ c_tab td wn be ho (cod wn v).toNat (cod wn v).toNat = _) ∨ c_tab td wn be ho (cod wn v).toNat (cod wn v).toNat = 1000000
    rw [e2]
    rcases (bf_r (td := td) (wn := wn) (be := be') (st := cod wn v) (ho := ho) 4).2.2 with h | ⟨k, hk, h1, h2⟩
    · exact Or.inr h
    · rw [cod_d hv hk] at h1
      rw [e1 k hk (by omega)] at h2
      exact Or.inl ⟨k, hk, by omega, h2⟩
/-- the class's answer is the least -/
theorem few_min {td wn be : Nat → Int} {ho : Int} {s : Nat → Int} (hw : ∀ j, j < 4 → 0 ≤ wn j) (hss : ∀ k, k < 4 → 1 ≤ wn k → s k = c_get td 2 k 0 ∧ 1 ≤ s k ∧ s k ≤ ho) (hs0 : ∀ k, k < 4 → 0 ≤ s k ∧ 0 ≤ c_get td 2 k 0) (hho : 0 ≤ ho ∧ ho ≤ 63) (hM : wn 0 + wn 1 + wn 2 + wn 3 ≤ 1000) : isMin s ho (c_few td wn be ho) wn := by
  have h := nf_min (few_nf (td := td) (be := be) (ho := ho) hw) (fun k hk h1 => by have := hss k hk h1; show 1 ≤ c_get td 2 k 0 ∧ c_get td 2 k 0 ≤ ho; omega) (fun k hk => (hs0 k hk).2) hho hM (v := wn) (fun j hj => ⟨hw j hj, Int.le_refl _⟩)
  have e : c_few td wn be ho = c_tab td wn be ho (cod wn wn).toNat (cod wn wn).toNat / 64 := by
    unfold c_few
    rw [cod_sts]
  rw [e]
  have hz : ∀ v q : Nat → Int, (∀ j, j < 4 → 0 ≤ q j ∧ q j ≤ wn j) → sz (fun k => c_get td 2 k 0) q = sz s q := fun v q hq => by
    have m : ∀ j, j < 4 → q j * c_get td 2 j 0 = q j * s j := fun j hj => by
      have := hq j hj
      by_cases z : q j = 0
      · rw [z, Int.zero_mul, Int.zero_mul]
      · rw [(hss j hj (by omega)).1]
    have m0 := m 0 (by omega); have m1 := m 1 (by omega); have m2 := m 2 (by omega); have m3 := m 3 (by omega)
    show q 0 * c_get td 2 (0 : Nat) 0 + q 1 * c_get td 2 (1 : Nat) 0 + q 2 * c_get td 2 (2 : Nat) 0 + q 3 * c_get td 2 (3 : Nat) 0 = q 0 * s 0 + q 1 * s 1 + q 2 * s 2 + q 3 * s 3
    rw [m0, m1, m2, m3]
  have hF : ∀ (n : Nat) (v : Nat → Int), (∀ j, j < 4 → v j ≤ wn j) → (Fits (fun k => c_get td 2 k 0) ho n v ↔ Fits s ho n v) := by
    intro n
    induction n with
    | zero => intro v hv; exact Iff.rfl
    | succ n ih =>
      intro v hv
      refine ⟨fun ⟨q, h1, h2, h3⟩ => ⟨q, h1, ?_, ?_⟩, fun ⟨q, h1, h2, h3⟩ => ⟨q, h1, ?_, ?_⟩⟩
      · rw [← hz v q (fun j hj => by have := h1 j hj; have := hv j hj; omega)]; exact h2
      · exact (ih _ (fun j hj => by have := h1 j hj; have := hv j hj; show v j - q j ≤ wn j; omega)).1 h3
      · rw [hz v q (fun j hj => by have := h1 j hj; have := hv j hj; omega)]; exact h2
      · exact (ih _ (fun j hj => by have := h1 j hj; have := hv j hj; show v j - q j ≤ wn j; omega)).2 h3
  exact ⟨h.1, (hF _ _ (fun j _ => Int.le_refl _)).1 h.2.1, fun n hn => h.2.2 n ((hF _ _ (fun j _ => Int.le_refl _)).2 hn)⟩
theorem lt4 {P : Nat → Prop} (h0 : P 0) (h1 : P 1) (h2 : P 2) (h3 : P 3) : ∀ j, j < 4 → P j := fun j hj => by
  have hj' : j = 0 ∨ j = 1 ∨ j = 2 ∨ j = 3 := by omega
  rcases hj' with rfl | rfl | rfl | rfl
  · exact h0
  · exact h1
  · exact h2
  · exact h3
theorem Fits_all {s : Nat → Int} {ho : Int} : ∀ (N : Nat) {v : Nat → Int}, (∀ j, j < 4 → 0 ≤ v j) → (∀ k, k < 4 → 1 ≤ v k → s k ≤ ho) → v 0 + v 1 + v 2 + v 3 = N → Fits s ho N v
  | 0, v, h0, _, hN => by
    have a0 := h0 0 (by omega); have a1 := h0 1 (by omega); have a2 := h0 2 (by omega); have a3 := h0 3 (by omega)
    exact lt4 (by omega) (by omega) (by omega) (by omega)
  | N + 1, v, h0, hs, hN => by
    have a0 := h0 0 (by omega); have a1 := h0 1 (by omega); have a2 := h0 2 (by omega); have a3 := h0 3 (by omega)
    have hne : ∃ k, k < 4 ∧ 1 ≤ v k := by
      by_cases q0 : v 0 = 0
      · by_cases q1 : v 1 = 0
        · by_cases q2 : v 2 = 0
          · exact ⟨3, by omega, by omega⟩
          · exact ⟨2, by omega, by omega⟩
        · exact ⟨1, by omega, by omega⟩
      · exact ⟨0, by omega, by omega⟩
    obtain ⟨k, hk, hk1⟩ := hne
    have eup : ∀ j, up v k (v k - 1) j = v j - ek k j := fun j => by
      unfold up ek
      split
      · rename_i q; subst q; rfl
      · omega
    refine ⟨ek k, fun j hj => ?_, by rw [sz_ek hk]; exact hs k hk hk1, Fits_c (fun j _ => eup j) (Fits_all N (fun j hj => ?_) (fun j hj h1 => ?_) (by rw [sm_up hk]; omega))⟩
    · have := h0 j hj
      unfold ek
      split
      · rename_i q; subst q; omega
      · omega
    · have := h0 j hj
      by_cases q : j = k
      · subst q; rw [up_eq]; omega
      · rw [up_ne q]; exact this
    · by_cases q : j = k
      · subst q; exact hs j hj hk1
      · rw [up_ne q] at h1; exact hs j hj h1
theorem isMin_b {s : Nat → Int} {ho p : Int} {v : Nat → Int} (h : isMin s ho p v) (h0 : ∀ j, j < 4 → 0 ≤ v j) (hs : ∀ k, k < 4 → 1 ≤ v k → s k ≤ ho) : p ≤ v 0 + v 1 + v 2 + v 3 := by
  have a0 := h0 0 (by omega); have a1 := h0 1 (by omega); have a2 := h0 2 (by omega); have a3 := h0 3 (by omega)
  have := h.2.2 _ (Fits_all (v 0 + v 1 + v 2 + v 3).toNat h0 hs (by omega))
  omega
/-- what went into the last drawer, tried so far -/
def ldW (s : Nat → Int) (ho : Int) (v : Nat → Int) (best i j k : Int) : Prop := ∀ (n : Nat) (q : Nat → Int), (∀ t, t < 4 → 0 ≤ q t ∧ q t ≤ v t) → (q 0 < i ∨ (q 0 = i ∧ (q 1 < j ∨ (q 1 = j ∧ q 2 < k)))) → (∃ t, t < 4 ∧ q t ≠ 0) → sz s q ≤ ho → Fits s ho n (fun t => v t - q t) → best ≠ -1 ∧ best ≤ n + 1
def ldB (s : Nat → Int) (ho : Int) (v : Nat → Int) (best : Int) : Prop := best = -1 ∨ (1 ≤ best ∧ Fits s ho best.toNat v)
theorem sz_p {s q : Nat → Int} (hs : ∀ k, k < 4 → 0 ≤ s k) (hq : ∀ t, t < 4 → 0 ≤ q t) : 0 ≤ q 0 * s 0 ∧ 0 ≤ q 1 * s 1 ∧ 0 ≤ q 2 * s 2 ∧ 0 ≤ q 3 * s 3 :=
  ⟨Int.mul_nonneg (hq 0 (by omega)) (hs 0 (by omega)), Int.mul_nonneg (hq 1 (by omega)) (hs 1 (by omega)), Int.mul_nonneg (hq 2 (by omega)) (hs 2 (by omega)), Int.mul_nonneg (hq 3 (by omega)) (hs 3 (by omega))⟩
theorem ldW_i {s : Nat → Int} {ho : Int} {v : Nat → Int} {best i : Int} (hs : ∀ k, k < 4 → 0 ≤ s k) (he : v 0 < i ∨ ho < i * s 0) (h : ldW s ho v best i 0 0) : ∀ (n : Nat) (q : Nat → Int), (∀ t, t < 4 → 0 ≤ q t ∧ q t ≤ v t) → (∃ t, t < 4 ∧ q t ≠ 0) → sz s q ≤ ho → Fits s ho n (fun t => v t - q t) → best ≠ -1 ∧ best ≤ n + 1 := by
  intro n q hq hn hz hf
  have hp := sz_p hs (fun t ht => (hq t ht).1)
  have h0 := hq 0 (by omega)
  rcases Int.lt_or_le (q 0) i with c | c
  · exact h n q hq (Or.inl c) hn hz hf
  · exfalso
    have := Int.mul_le_mul_of_nonneg_right c (hs 0 (by omega))
    unfold sz at hz
    omega
theorem ldW_j {s : Nat → Int} {ho : Int} {v : Nat → Int} {best i j : Int} (hs : ∀ k, k < 4 → 0 ≤ s k) (he : v 1 < j ∨ ho < i * s 0 + j * s 1) (h : ldW s ho v best i j 0) : ldW s ho v best (i + 1) 0 0 := by
  intro n q hq hc hn hz hf
  have hp := sz_p hs (fun t ht => (hq t ht).1)
  have h0 := hq 0 (by omega)
  have h1 := hq 1 (by omega)
  have h2 := hq 2 (by omega)
  rcases Int.lt_or_le (q 0) i with c | c
  · exact h n q hq (Or.inl c) hn hz hf
  · have e0 : q 0 = i := by omega
    rcases Int.lt_or_le (q 1) j with c1 | c1
    · exact h n q hq (Or.inr ⟨e0, Or.inl c1⟩) hn hz hf
    · exfalso
      have := Int.mul_le_mul_of_nonneg_right c1 (hs 1 (by omega))
      unfold sz at hz
      rw [e0] at hz hp
      omega
theorem ldW_k {s : Nat → Int} {ho : Int} {v : Nat → Int} {best i j k : Int} (hs : ∀ k, k < 4 → 0 ≤ s k) (he : v 2 < k ∨ ho < i * s 0 + j * s 1 + k * s 2) (h : ldW s ho v best i j k) : ldW s ho v best i (j + 1) 0 := by
  intro n q hq hc hn hz hf
  have hp := sz_p hs (fun t ht => (hq t ht).1)
  have h2 := hq 2 (by omega)
  rcases hc with c | ⟨e0, c⟩
  · exact h n q hq (Or.inl c) hn hz hf
  · rcases Int.lt_or_le (q 1) j with c1 | c1
    · exact h n q hq (Or.inr ⟨e0, Or.inl c1⟩) hn hz hf
    · have e1 : q 1 = j := by omega
      rcases Int.lt_or_le (q 2) k with c2 | c2
      · exact h n q hq (Or.inr ⟨e0, Or.inr ⟨e1, c2⟩⟩) hn hz hf
      · exfalso
        have := Int.mul_le_mul_of_nonneg_right c2 (hs 2 (by omega))
        unfold sz at hz
        rw [e0, e1] at hz hp
        omega
theorem ldW_c {s : Nat → Int} {ho : Int} {v : Nat → Int} {best i j k l : Int} (hs : ∀ k, k < 4 → 0 ≤ s k) (hl : 0 ≤ l ∧ l ≤ v 3) (hmx : ∀ x, 0 ≤ x → x ≤ v 3 → i * s 0 + j * s 1 + k * s 2 + x * s 3 ≤ ho → x ≤ l) (h0 : i + j + k + l = 0) (hi : 0 ≤ i ∧ 0 ≤ j ∧ 0 ≤ k) (h : ldW s ho v best i j k) : ldW s ho v best i j (k + 1) := by
  intro n q hq hc hn hz hf
  by_cases c : q 0 < i ∨ (q 0 = i ∧ (q 1 < j ∨ (q 1 = j ∧ q 2 < k)))
  · exact h n q hq c hn hz hf
  · exfalso
    have e0 : q 0 = i := by omega
    have e1 : q 1 = j := by omega
    have e2 : q 2 = k := by omega
    have h3 := hq 3 (by omega)
    have hm := hmx (q 3) h3.1 h3.2 (by unfold sz at hz; rw [e0, e1, e2] at hz; exact hz)
    obtain ⟨t, ht, ht0⟩ := hn
    exact ht0 (lt4 (P := fun t => q t = 0) (by omega) (by omega) (by omega) (by omega) t ht)
theorem ldW_r {s : Nat → Int} {ho : Int} {a b c d best i j k l P : Int} (hs : ∀ k, k < 4 → 0 ≤ s k) (hl : 0 ≤ l ∧ l ≤ d) (hi : (0 ≤ i ∧ i ≤ a) ∧ (0 ≤ j ∧ j ≤ b) ∧ 0 ≤ k ∧ k ≤ c) (hmx : ∀ x, 0 ≤ x → x ≤ d → i * s 0 + j * s 1 + k * s 2 + x * s 3 ≤ ho → x ≤ l) (hz : i * s 0 + j * s 1 + k * s 2 + l * s 3 ≤ ho) (hP : isMin s ho P (wnF (a - i) (b - j) (c - k) (d - l))) (h : ldW s ho (wnF a b c d) best i j k) (hb : ldB s ho (wnF a b c d) best) {best' : Int} (he : (best = -1 ∨ P + 1 < best) ∧ best' = P + 1 ∨ (best ≠ -1 ∧ best ≤ P + 1) ∧ best' = best) : ldW s ho (wnF a b c d) best' i j (k + 1) ∧ ldB s ho (wnF a b c d) best' := by
  have hP0 := hP.1
  refine ⟨fun n q hq hc hn hzq hf => ?_, ?_⟩
  · by_cases cc : q 0 < i ∨ (q 0 = i ∧ (q 1 < j ∨ (q 1 = j ∧ q 2 < k)))
    · have := h n q hq cc hn hzq hf
      rcases hb with hb | hb <;> omega
    · have e0 : q 0 = i := by omega
      have e1 : q 1 = j := by omega
      have e2 : q 2 = k := by omega
      have h3 : 0 ≤ q 3 ∧ q 3 ≤ d := hq 3 (by omega)
      have hm := hmx (q 3) h3.1 h3.2 (by unfold sz at hzq; rw [e0, e1, e2] at hzq; exact hzq)
      have hd := hP.2.2 n (Fits_d hs (lt4 (by show 0 ≤ a - i ∧ a - i ≤ a - q 0; omega) (by show 0 ≤ b - j ∧ b - j ≤ b - q 1; omega) (by show 0 ≤ c - k ∧ c - k ≤ c - q 2; omega) (by show 0 ≤ d - l ∧ d - l ≤ d - q 3; omega)) hf)
      rcases hb with hb | hb <;> omega
  · rcases he with ⟨-, e⟩ | ⟨-, e⟩
    · rw [e]
      refine Or.inr ⟨by omega, ?_⟩
      rw [show (P + 1).toNat = P.toNat + 1 by omega]
      exact ⟨wnF i j k l, lt4 hi.1 hi.2.1 hi.2.2 hl, hz, Fits_c (lt4 rfl rfl rfl rfl) hP.2.1⟩
    · rw [e]; exact hb
theorem ldW_0 {s : Nat → Int} {ho : Int} {v : Nat → Int} {best : Int} : ldW s ho v best 0 0 0 := by
  intro n q hq hc hn hzq hf
  have := hq 0 (by omega); have := hq 1 (by omega); have := hq 2 (by omega)
  omega
theorem ld_min {s : Nat → Int} {ho : Int} {v : Nat → Int} {best i : Int} (hs : ∀ k, k < 4 → 0 ≤ s k) (hv : ∀ j, j < 4 → 0 ≤ v j) (hn0 : ∃ t, t < 4 ∧ v t ≠ 0) (hsv : ∀ k, k < 4 → 1 ≤ v k → s k ≤ ho) (he : v 0 < i ∨ ho < i * s 0) (h : ldW s ho v best i 0 0) (hb : ldB s ho v best) : isMin s ho best v := by
  have hA := ldW_i hs he h
  have hL : ∀ n : Nat, Fits s ho n v → best ≠ -1 ∧ best ≤ n := by
    intro n
    induction n with
    | zero =>
      intro hf
      exfalso
      obtain ⟨t, ht, ht0⟩ := hn0
      exact ht0 (hf t ht)
    | succ n ih =>
      intro hf
      obtain ⟨q, h1, h2, h3⟩ := id hf
      by_cases qz : ∃ t, t < 4 ∧ q t ≠ 0
      · have := hA n q h1 qz h2 h3
        omega
      · have := ih (Fits_c (fun j hj => by
          have : q j = 0 := Classical.byContradiction (fun h => qz ⟨j, hj, h⟩)
          omega) h3)
        omega
  have a0 := hv 0 (by omega); have a1 := hv 1 (by omega); have a2 := hv 2 (by omega); have a3 := hv 3 (by omega)
  have hX := hL _ (Fits_all (v 0 + v 1 + v 2 + v 3).toNat hv hsv (by omega))
  rcases hb with hb | hb
  · exact absurd hb hX.1
  · exact ⟨by omega, hb.2, fun n hn => (hL n hn).2⟩
/-- the number of a state, as the reference counts -/
def pk (M : Nat → Int) (x y z w : Int) : Int := ((x * (M 1 + 1) + y) * (M 2 + 1) + z) * (M 3 + 1) + w
theorem rad {x x' y y' W : Int} (hy : 0 ≤ y ∧ y < W) (hy' : 0 ≤ y' ∧ y' < W) (h : x * W + y = x' * W + y') : x = x' ∧ y = y' := by
  have h1 := (dg (b := x) hy).1
  have h2 := (dg (b := x') hy').1
  have e : y + W * x = y' + W * x' := by rw [Int.mul_comm W, Int.mul_comm W]; omega
  rw [e] at h1
  have ey : y = y' := by omega
  have h3 := (dg (b := x) hy).2
  have h4 := (dg (b := x') hy').2
  rw [e] at h3
  exact ⟨by omega, ey⟩
theorem pk_inj {M : Nat → Int} {x y z w x' y' z' w' : Int} (h1 : 0 ≤ y ∧ y ≤ M 1) (h2 : 0 ≤ z ∧ z ≤ M 2) (h3 : 0 ≤ w ∧ w ≤ M 3) (h1' : 0 ≤ y' ∧ y' ≤ M 1) (h2' : 0 ≤ z' ∧ z' ≤ M 2) (h3' : 0 ≤ w' ∧ w' ≤ M 3) (h : pk M x y z w = pk M x' y' z' w') : x = x' ∧ y = y' ∧ z = z' ∧ w = w' := by
  unfold pk at h
  have a := rad (by omega) (by omega) h
  have b := rad (by omega) (by omega) a.1
  have c := rad (by omega) (by omega) b.1
  exact ⟨c.1, c.2, b.2, a.2⟩
theorem pk_r {M : Nat → Int} {x y z w : Int} (h0 : 0 ≤ x ∧ x ≤ M 0) (h1 : 0 ≤ y ∧ y ≤ M 1) (h2 : 0 ≤ z ∧ z ≤ M 2) (h3 : 0 ≤ w ∧ w ≤ M 3) (hM : c_sts M ≤ 2401) : 0 ≤ pk M x y z w ∧ pk M x y z w < 2401 := by
  have st : ∀ x y W m : Int, 0 ≤ x ∧ x ≤ m - 1 → 0 ≤ y ∧ y < W → 0 ≤ x * W + y ∧ x * W + y ≤ m * W - 1 := fun x y W m hx hy => by
    have a := Int.mul_nonneg hx.1 (show 0 ≤ W by omega)
    have b := Int.mul_le_mul_of_nonneg_right hx.2 (show 0 ≤ W by omega)
    rw [Int.sub_mul, Int.one_mul] at b
    omega
  have a1 := st x y (M 1 + 1) (M 0 + 1) (by omega) (by omega)
  have a2 := st _ z (M 2 + 1) ((M 0 + 1) * (M 1 + 1)) a1 (by omega)
  have a3 := st _ w (M 3 + 1) ((M 0 + 1) * (M 1 + 1) * (M 2 + 1)) a2 (by omega)
  unfold pk
  unfold c_sts at hM
  rw [Int.one_mul] at hM
  omega
