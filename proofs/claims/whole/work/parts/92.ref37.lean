/-! 92: the reference: what a line read adds -/
/-- all but the cells of the open line -/
def OUT (ct : Nat → Int) (s : Int) (td td' : Nat → Int) : Prop := ∀ j, ¬ (c_ix ct s 0 ≤ j ∧ j < c_ix ct s 0 + 12) → td' j = td j
theorem OUT_op {ct td : Nat → Int} {s : Int} : OUT ct s td (opT ct td s) := fun j hj => by unfold opT; rw [if_neg hj]
theorem OUT_up {ct td f : Nat → Int} {s a v : Int} (h : OUT ct s td f) (hs : 0 ≤ s) (hc : 0 ≤ ct s.toNat) (ha : 0 ≤ a ∧ a < 12) : OUT ct s td (up f (c_ix ct s a) v) := fun j hj => by
  have : j ≠ c_ix ct s a := by
    unfold c_ix at hj ⊢
    omega
  rw [up_ne this]
  exact h j hj
theorem get_keep {ct td td' : Nat → Int} {s : Int} (hs : 0 ≤ s ∧ s < 13) (hc : 0 ≤ ct s.toNat ∧ ct s.toNat < 8) (h : OUT ct s td td') {s' i x : Int} (hn : ¬ (s' = s ∧ i = ct s.toNat)) : c_get td' s' i x = c_get td s' i x := by
  unfold c_get
  by_cases q : 0 ≤ s' ∧ s' < 13 ∧ 0 ≤ i ∧ i < 8 ∧ 0 ≤ x ∧ x < 12
  · rw [if_pos q, if_pos q]
    refine h _ ?_
    unfold c_ix
    omega
  · rw [if_neg q, if_neg q]
theorem get_new {ct td' : Nat → Int} {s x : Int} (hs : 0 ≤ s ∧ s < 13) (hc : 0 ≤ ct s.toNat ∧ ct s.toNat < 8) (hx : 0 ≤ x ∧ x < 12) : c_get td' s (ct s.toNat) x = td' (c_ix ct s x) := by
  unfold c_get c_ix
  rw [if_pos (by omega)]
theorem ix_ne {ct : Nat → Int} {s a b : Int} (hs : 0 ≤ s) (hc : 0 ≤ ct s.toNat) (ha : 0 ≤ a) (hb : 0 ≤ b) (h : a ≠ b) : c_ix ct s a ≠ c_ix ct s b := by
  unfold c_ix
  omega
theorem LI_mono {k2 k5 k2' k5' : Int} {td td' : Nat → Int} {s : Nat} {i : Int} (hs : s < 13) (h2 : k2 ≤ k2') (h5 : k5 ≤ k5') (hg : ∀ x, c_get td' s i x = c_get td s i x) (h : LI k2 k5 td s i) : LI k2' k5' td' s i := by
  obtain ⟨a0, a1, a2, a3, a4, a5, a6, a7, a8, a9, a10, a11, a12⟩ := h
  refine ⟨fun q => ?_, fun q => ?_, fun q => ?_, fun q => ?_, fun q => ?_, fun q => ?_, fun q => ?_, fun q => ?_, fun q => ?_, fun q => ?_, fun q => ?_, fun q => ?_, fun q => ?_⟩ <;> rw [q] at hg <;> simp only [hg]
  · exact a0 q
  · exact a1 q
  · exact a2 q
  · have := a3 q; omega
  · have := a4 q; omega
  · exact a5 q
  · have := a6 q; omega
  · obtain ⟨b1, b2, b3, b4, b5, b6, b7, b8, b9⟩ := a7 q
    refine ⟨b1, b2, b3, b4, b5, b6, b7, fun j h1 h2 => ?_, b9⟩
    have := b8 j h1 h2
    omega
  · have := a8 q; omega
  · exact a9 q
  · exact a10 q
  · exact a11 q
  · exact a12 q
theorem lim_8 : ∀ s : Nat, s < 13 → (jtab 0).2.2 s ≤ 8 := by decide
theorem FI_upd {ct td td' : Nat → Int} {s : Nat} (hF : FI ct td) (hs : s < 13) (hlim : ct s < (jtab 0).2.2 s) (hO : OUT ct s td td') (hr : ∀ j, 0 ≤ td' j ∧ td' j ≤ 999) (hnew : LI (ct 2) (ct 5) td' s (ct s)) (hend : s = 5 → ∀ i, 0 ≤ i → i < ct 5 → c_get td 5 i 0 ≠ c_get td' 5 (ct 5) 0) : FI (up ct s (ct s + 1)) td' := by
  obtain ⟨f1, f2, f3, f4⟩ := hF
  have hl8 := lim_8 s hs
  have hk := fun {s' i x : Int} (hn : ¬ (s' = (s : Int) ∧ i = ct s)) => get_keep (x := x) (s' := s') (i := i) (ct := ct) (td := td) (td' := td') (s := (s : Int)) (by omega) (by rw [Int.toNat_natCast]; have := f1 s hs; omega) hO (by rw [Int.toNat_natCast]; exact hn)
  have hup : ∀ j, ct j ≤ up ct s (ct s + 1) j := fun j => by
    by_cases q : j = s
    · rw [q, up_eq]; omega
    · rw [up_ne q]; omega
  refine ⟨fun j hj => ?_, fun j i hj h1 h2 => ?_, fun i j h1 h2 h3 => ?_, hr⟩
  · have := f1 j hj
    by_cases q : j = s
    · subst q; rw [up_eq]; omega
    · rw [up_ne q]; exact this
  · by_cases q : j = s ∧ i = ct s
    · obtain ⟨rfl, rfl⟩ := q
      exact LI_mono hj (hup 2) (hup 5) (fun x => rfl) hnew
    · have h3 : i < ct j := by
        by_cases q2 : j = s
        · subst q2; rw [up_eq] at h2; omega
        · rw [up_ne q2] at h2; exact h2
      exact LI_mono hj (hup 2) (hup 5) (fun x => hk (by omega)) (f2 j i hj h1 h3)
  · by_cases q : s = 5
    · subst q
      rw [up_eq] at h3
      rw [hk (s' := 5) (i := i) (by omega)]
      by_cases q2 : j = ct 5
      · rw [q2]; exact hend rfl i h1 (by omega)
      · rw [hk (s' := 5) (i := j) (by omega)]; exact f3 i j h1 h2 (by omega)
    · rw [up_ne (by omega)] at h3
      rw [hk (s' := 5) (i := i) (by omega), hk (s' := 5) (i := j) (by omega)]
      exact f3 i j h1 h2 h3
/-- whose lines an array holds -/
def own (j : Nat) : Nat := [0, 2, 2, 3, 3, 4, 4, 4, 5, 5, 5, 6, 7, 7, 7, 7, 7, 7, 8, 8, 9, 9, 10, 11, 11, 11, 12, 8].getD j 0
/-- what the new line's cells are -/
def FN (ct td' : Nat → Int) (A A' : Nat → Nat → Int) (s : Nat) : Prop :=
  (s = 2 → A' 1 = up (A 1) (ct 2).toNat (c_get td' 2 (ct 2) 0) ∧ A' 2 = up (A 2) (ct 2).toNat (c_get td' 2 (ct 2) 1)) ∧
  (s = 3 → A' 3 = up (A 3) (ct 3).toNat (c_get td' 3 (ct 3) 0) ∧ A' 4 = up (A 4) (ct 3).toNat (c_get td' 3 (ct 3) 1)) ∧
  (s = 4 → A' 5 = up (A 5) (ct 4).toNat (c_get td' 4 (ct 4) 0) ∧ A' 6 = up (A 6) (ct 4).toNat (c_get td' 4 (ct 4) 1) ∧ A' 7 = up (A 7) (ct 4).toNat (c_get td' 4 (ct 4) 2)) ∧
  (s = 5 → A' 8 = up (A 8) (ct 5).toNat (c_get td' 5 (ct 5) 0) ∧ A' 9 = up (A 9) (ct 5).toNat (c_get td' 5 (ct 5) 1) ∧ A' 10 = up (A 10) (ct 5).toNat (c_get td' 5 (ct 5) 2)) ∧
  (s = 6 → A' 11 = up (A 11) (c_get td' 6 (ct 6) 0 * 4 + c_get td' 6 (ct 6) 1).toNat (A 11 (c_get td' 6 (ct 6) 0 * 4 + c_get td' 6 (ct 6) 1).toNat + c_get td' 6 (ct 6) 2)) ∧
  (s = 7 → A' 12 = up (A 12) (ct 7).toNat (c_get td' 7 (ct 7) 0) ∧ A' 13 = up (A 13) (ct 7).toNat (c_get td' 7 (ct 7) 1) ∧ A' 14 = up (A 14) (ct 7).toNat (c_get td' 7 (ct 7) 2) ∧ A' 15 = up (A 15) (ct 7).toNat (c_get td' 7 (ct 7) 3) ∧ (∀ j : Nat, j < 4 * (ct 7).toNat → A' 16 j = A 16 j ∧ A' 17 j = A 17 j) ∧ ∀ j : Nat, (j : Int) < c_get td' 7 (ct 7) 3 → A' 16 (4 * (ct 7).toNat + j) = c_get td' 7 (ct 7) (4 + 2 * j) ∧ A' 17 (4 * (ct 7).toNat + j) = c_get td' 7 (ct 7) (4 + 2 * j + 1)) ∧
  (s = 8 → A' 18 = up (A 18) (ct 8).toNat (c_get td' 8 (ct 8) 0) ∧ A' 19 = up (A 19) (ct 8).toNat (c_get td' 8 (ct 8) 1) ∧ A' 27 = up (A 27) (ct 8).toNat (c_get td' 8 (ct 8) 2)) ∧
  (s = 9 → A' 20 = up (A 20) (ct 9).toNat (c_get td' 9 (ct 9) 0) ∧ A' 21 = up (A 21) (ct 9).toNat (c_get td' 9 (ct 9) 1)) ∧
  (s = 10 → A' 22 = up (A 22) (ct 10).toNat (c_get td' 10 (ct 10) 0)) ∧
  (s = 11 → A' 23 = up (A 23) (ct 11).toNat (c_get td' 11 (ct 11) 0) ∧ A' 24 = up (A 24) (ct 11).toNat (min (c_get td' 11 (ct 11) 1) (c_get td' 11 (ct 11) 2)) ∧ A' 25 = up (A 25) (ct 11).toNat (max (c_get td' 11 (ct 11) 1) (c_get td' 11 (ct 11) 2))) ∧
  (s = 12 → A' 26 = up (A 26) (ct 12).toNat (c_get td' 12 (ct 12) 0))
theorem FA_upd {ct td td' : Nat → Int} {A A' : Nat → Nat → Int} {s : Nat} (hF : FI ct td) (hA : FA ct td A) (hs : s < 13) (hlim : ct s < (jtab 0).2.2 s) (hO : OUT ct s td td') (hB : ∀ j, 1 ≤ j → j < 28 → own j ≠ s → A' j = A j) (hN : FN ct td' A A' s) (h6 : s = 6 → 0 ≤ c_get td' 6 (ct 6) 0 * 4 + c_get td' 6 (ct 6) 1) : FA (up ct s (ct s + 1)) td' A' := by
  obtain ⟨f1, f2, f3, f4⟩ := hF
  have hl8 := lim_8 s hs
  have hk := fun {s' i x : Int} (hn : ¬ (s' = (s : Int) ∧ i = ct s)) => get_keep (x := x) (s' := s') (i := i) (ct := ct) (td := td) (td' := td') (s := (s : Int)) (by omega) (by rw [Int.toNat_natCast]; have := f1 s hs; omega) hO (by rw [Int.toNat_natCast]; exact hn)
  obtain ⟨a2, a3, a4, a5, a6, a7, a8, a9, a10, a11, a12⟩ := hA
  obtain ⟨n2, n3, n4, n5, n6, n7, n8, n9, n10, n11, n12⟩ := hN
  refine ⟨?_, ?_, ?_, ?_, ?_, ?_, ?_, ?_, ?_, ?_, ?_⟩
  · intro i hi
    by_cases q : s = 2
    · subst q
      have c0 := f1 2 (by omega)
      rw [up_eq] at hi
      obtain ⟨m1, m2⟩ := n2 rfl
      by_cases q2 : (i : Int) = ct 2
      · rw [m1, m2, ← q2, Int.toNat_natCast, up_eq, up_eq]
        exact ⟨rfl, rfl⟩
      · rw [m1, m2, up_ne (by omega), up_ne (by omega), hk (s' := 2) (i := (i : Int)) (x := 0) (by omega), hk (s' := 2) (i := (i : Int)) (x := 1) (by omega)]
        exact a2 i (by omega)
    · rw [up_ne (by omega)] at hi
      rw [hB 1 (by omega) (by omega) (fun e => q e.symm), hB 2 (by omega) (by omega) (fun e => q e.symm), hk (s' := 2) (i := (i : Int)) (x := 0) (by omega), hk (s' := 2) (i := (i : Int)) (x := 1) (by omega)]
      exact a2 i hi
  · intro i hi
    by_cases q : s = 3
    · subst q
      have c0 := f1 3 (by omega)
      rw [up_eq] at hi
      obtain ⟨m3, m4⟩ := n3 rfl
      by_cases q2 : (i : Int) = ct 3
      · rw [m3, m4, ← q2, Int.toNat_natCast, up_eq, up_eq]
        exact ⟨rfl, rfl⟩
      · rw [m3, m4, up_ne (by omega), up_ne (by omega), hk (s' := 3) (i := (i : Int)) (x := 0) (by omega), hk (s' := 3) (i := (i : Int)) (x := 1) (by omega)]
        exact a3 i (by omega)
    · rw [up_ne (by omega)] at hi
      rw [hB 3 (by omega) (by omega) (fun e => q e.symm), hB 4 (by omega) (by omega) (fun e => q e.symm), hk (s' := 3) (i := (i : Int)) (x := 0) (by omega), hk (s' := 3) (i := (i : Int)) (x := 1) (by omega)]
      exact a3 i hi
  · intro i hi
    by_cases q : s = 4
    · subst q
      have c0 := f1 4 (by omega)
      rw [up_eq] at hi
      obtain ⟨m5, m6, m7⟩ := n4 rfl
      by_cases q2 : (i : Int) = ct 4
      · rw [m5, m6, m7, ← q2, Int.toNat_natCast, up_eq, up_eq, up_eq]
        exact ⟨rfl, rfl, rfl⟩
      · rw [m5, m6, m7, up_ne (by omega), up_ne (by omega), up_ne (by omega), hk (s' := 4) (i := (i : Int)) (x := 0) (by omega), hk (s' := 4) (i := (i : Int)) (x := 1) (by omega), hk (s' := 4) (i := (i : Int)) (x := 2) (by omega)]
        exact a4 i (by omega)
    · rw [up_ne (by omega)] at hi
      rw [hB 5 (by omega) (by omega) (fun e => q e.symm), hB 6 (by omega) (by omega) (fun e => q e.symm), hB 7 (by omega) (by omega) (fun e => q e.symm), hk (s' := 4) (i := (i : Int)) (x := 0) (by omega), hk (s' := 4) (i := (i : Int)) (x := 1) (by omega), hk (s' := 4) (i := (i : Int)) (x := 2) (by omega)]
      exact a4 i hi
  · intro i hi
    by_cases q : s = 5
    · subst q
      have c0 := f1 5 (by omega)
      rw [up_eq] at hi
      obtain ⟨m8, m9, m10⟩ := n5 rfl
      by_cases q2 : (i : Int) = ct 5
      · rw [m8, m9, m10, ← q2, Int.toNat_natCast, up_eq, up_eq, up_eq]
        exact ⟨rfl, rfl, rfl⟩
      · rw [m8, m9, m10, up_ne (by omega), up_ne (by omega), up_ne (by omega), hk (s' := 5) (i := (i : Int)) (x := 0) (by omega), hk (s' := 5) (i := (i : Int)) (x := 1) (by omega), hk (s' := 5) (i := (i : Int)) (x := 2) (by omega)]
        exact a5 i (by omega)
    · rw [up_ne (by omega)] at hi
      rw [hB 8 (by omega) (by omega) (fun e => q e.symm), hB 9 (by omega) (by omega) (fun e => q e.symm), hB 10 (by omega) (by omega) (fun e => q e.symm), hk (s' := 5) (i := (i : Int)) (x := 0) (by omega), hk (s' := 5) (i := (i : Int)) (x := 1) (by omega), hk (s' := 5) (i := (i : Int)) (x := 2) (by omega)]
      exact a5 i hi
  · intro j hj
    by_cases q : s = 6
    · subst q
      have c0 := f1 6 (by omega)
      rw [up_eq, sumZ_s c0.1, n6 rfl]
      have eo : sumZ (fun i => if c_get td' 6 i 0 * 4 + c_get td' 6 i 1 = (j : Int) then c_get td' 6 i 2 else 0) (ct 6).toNat = sumZ (fun i => if c_get td 6 i 0 * 4 + c_get td 6 i 1 = (j : Int) then c_get td 6 i 2 else 0) (ct 6).toNat := by
        refine sumZ_cong (fun i h1 h2 => ?_)
        show (if c_get td' 6 i 0 * 4 + c_get td' 6 i 1 = (j : Int) then c_get td' 6 i 2 else 0) = (if c_get td 6 i 0 * 4 + c_get td 6 i 1 = (j : Int) then c_get td 6 i 2 else 0)
        rw [hk (s' := 6) (i := i) (x := 0) (by omega), hk (s' := 6) (i := i) (x := 1) (by omega), hk (s' := 6) (i := i) (x := 2) (by omega)]
      rw [eo, ← a6 j hj]
      have h6' := h6 rfl
      by_cases q2 : c_get td' 6 (ct 6) 0 * 4 + c_get td' 6 (ct 6) 1 = (j : Int)
      · rw [q2, Int.toNat_natCast, up_eq, if_pos rfl]
      · rw [up_ne (by omega), if_neg q2]
        omega
    · rw [up_ne (by omega), hB 11 (by omega) (by omega) (fun e => q e.symm), a6 j hj]
      refine sumZ_cong (fun i h1 h2 => ?_)
      show (if c_get td 6 i 0 * 4 + c_get td 6 i 1 = (j : Int) then c_get td 6 i 2 else 0) = (if c_get td' 6 i 0 * 4 + c_get td' 6 i 1 = (j : Int) then c_get td' 6 i 2 else 0)
      rw [hk (s' := 6) (i := i) (x := 0) (by omega), hk (s' := 6) (i := i) (x := 1) (by omega), hk (s' := 6) (i := i) (x := 2) (by omega)]
  · intro i hi
    have hkn : ∀ x, ¬ ((7 : Int) = (s : Int) ∧ (i : Int) = ct s) → c_get td' 7 i x = c_get td 7 i x := fun x hn => hk hn
    by_cases q : s = 7
    · subst q
      have c0 := f1 7 (by omega)
      rw [up_eq] at hi
      obtain ⟨m1, m2, m3, m4, m5, m6⟩ := n7 rfl
      by_cases q2 : (i : Int) = ct 7
      · rw [m1, m2, m3, m4, ← q2, Int.toNat_natCast, up_eq, up_eq, up_eq, up_eq]
        refine ⟨rfl, rfl, rfl, rfl, fun j hj => ?_⟩
        rw [q2] at hj
        have := m6 j hj
        rw [← q2, Int.toNat_natCast] at this
        exact this
      · have hi' : i < (ct 7).toNat := by omega
        have b := a7 i (by omega)
        rw [m1, m2, m3, m4, up_ne (by omega), up_ne (by omega), up_ne (by omega), up_ne (by omega), hkn 0 (by omega), hkn 1 (by omega), hkn 2 (by omega), hkn 3 (by omega)]
        refine ⟨b.1, b.2.1, b.2.2.1, b.2.2.2.1, fun j hj => ?_⟩
        have l7 := (f2 7 i (by omega) (by omega) (by omega)).2.2.2.2.2.2.2.1 rfl
        have e := m5 (4 * i + j) (by omega)
        rw [e.1, e.2, hkn (4 + 2 * j) (by omega), hkn (4 + 2 * j + 1) (by omega)]
        exact b.2.2.2.2 j hj
    · rw [up_ne (by omega)] at hi
      have hq := fun e => q (Eq.symm e)
      rw [hB 12 (by omega) (by omega) hq, hB 13 (by omega) (by omega) hq, hB 14 (by omega) (by omega) hq, hB 15 (by omega) (by omega) hq, hB 16 (by omega) (by omega) hq, hB 17 (by omega) (by omega) hq, hkn 0 (by omega), hkn 1 (by omega), hkn 2 (by omega), hkn 3 (by omega)]
      have b := a7 i hi
      refine ⟨b.1, b.2.1, b.2.2.1, b.2.2.2.1, fun j hj => ?_⟩
      rw [hkn (4 + 2 * j) (by omega), hkn (4 + 2 * j + 1) (by omega)]
      exact b.2.2.2.2 j hj
  · intro i hi
    by_cases q : s = 8
    · subst q
      have c0 := f1 8 (by omega)
      rw [up_eq] at hi
      obtain ⟨m18, m19, m27⟩ := n8 rfl
      by_cases q2 : (i : Int) = ct 8
      · rw [m18, m19, m27, ← q2, Int.toNat_natCast, up_eq, up_eq, up_eq]
        exact ⟨rfl, rfl, rfl⟩
      · rw [m18, m19, m27, up_ne (by omega), up_ne (by omega), up_ne (by omega), hk (s' := 8) (i := (i : Int)) (x := 0) (by omega), hk (s' := 8) (i := (i : Int)) (x := 1) (by omega), hk (s' := 8) (i := (i : Int)) (x := 2) (by omega)]
        exact a8 i (by omega)
    · rw [up_ne (by omega)] at hi
      rw [hB 18 (by omega) (by omega) (fun e => q e.symm), hB 19 (by omega) (by omega) (fun e => q e.symm), hB 27 (by omega) (by omega) (fun e => q e.symm), hk (s' := 8) (i := (i : Int)) (x := 0) (by omega), hk (s' := 8) (i := (i : Int)) (x := 1) (by omega), hk (s' := 8) (i := (i : Int)) (x := 2) (by omega)]
      exact a8 i hi
  · intro i hi
    by_cases q : s = 9
    · subst q
      have c0 := f1 9 (by omega)
      rw [up_eq] at hi
      obtain ⟨m20, m21⟩ := n9 rfl
      by_cases q2 : (i : Int) = ct 9
      · rw [m20, m21, ← q2, Int.toNat_natCast, up_eq, up_eq]
        exact ⟨rfl, rfl⟩
      · rw [m20, m21, up_ne (by omega), up_ne (by omega), hk (s' := 9) (i := (i : Int)) (x := 0) (by omega), hk (s' := 9) (i := (i : Int)) (x := 1) (by omega)]
        exact a9 i (by omega)
    · rw [up_ne (by omega)] at hi
      rw [hB 20 (by omega) (by omega) (fun e => q e.symm), hB 21 (by omega) (by omega) (fun e => q e.symm), hk (s' := 9) (i := (i : Int)) (x := 0) (by omega), hk (s' := 9) (i := (i : Int)) (x := 1) (by omega)]
      exact a9 i hi
  · intro i hi
    by_cases q : s = 10
    · subst q
      have c0 := f1 10 (by omega)
      rw [up_eq] at hi
      have m22 := n10 rfl
      by_cases q2 : (i : Int) = ct 10
      · rw [m22, ← q2, Int.toNat_natCast, up_eq]
      · rw [m22, up_ne (by omega), hk (s' := 10) (i := (i : Int)) (x := 0) (by omega)]
        exact a10 i (by omega)
    · rw [up_ne (by omega)] at hi
      rw [hB 22 (by omega) (by omega) (fun e => q e.symm), hk (s' := 10) (i := (i : Int)) (x := 0) (by omega)]
      exact a10 i hi
  · intro i hi
    by_cases q : s = 11
    · subst q
      have c0 := f1 11 (by omega)
      rw [up_eq] at hi
      obtain ⟨m23, m24, m25⟩ := n11 rfl
      by_cases q2 : (i : Int) = ct 11
      · rw [m23, m24, m25, ← q2, Int.toNat_natCast, up_eq, up_eq, up_eq]
        exact ⟨rfl, rfl, rfl⟩
      · rw [m23, m24, m25, up_ne (by omega), up_ne (by omega), up_ne (by omega), hk (s' := 11) (i := (i : Int)) (x := 0) (by omega), hk (s' := 11) (i := (i : Int)) (x := 1) (by omega), hk (s' := 11) (i := (i : Int)) (x := 2) (by omega)]
        exact a11 i (by omega)
    · rw [up_ne (by omega)] at hi
      rw [hB 23 (by omega) (by omega) (fun e => q e.symm), hB 24 (by omega) (by omega) (fun e => q e.symm), hB 25 (by omega) (by omega) (fun e => q e.symm), hk (s' := 11) (i := (i : Int)) (x := 0) (by omega), hk (s' := 11) (i := (i : Int)) (x := 1) (by omega), hk (s' := 11) (i := (i : Int)) (x := 2) (by omega)]
      exact a11 i hi
  · intro i hi
    by_cases q : s = 12
    · subst q
      have c0 := f1 12 (by omega)
      rw [up_eq] at hi
      have m26 := n12 rfl
      by_cases q2 : (i : Int) = ct 12
      · rw [m26, ← q2, Int.toNat_natCast, up_eq]
      · rw [m26, up_ne (by omega), hk (s' := 12) (i := (i : Int)) (x := 0) (by omega)]
        exact a12 i (by omega)
    · rw [up_ne (by omega)] at hi
      rw [hB 26 (by omega) (by omega) (fun e => q e.symm), hk (s' := 12) (i := (i : Int)) (x := 0) (by omega)]
      exact a12 i hi
theorem FG_upd {ct gF gF' : Nat → Int} {s : Nat} (hG : FG ct gF) (hs : 2 ≤ s ∧ s < 13) (hg : gF' (s + 3) = gF (s + 3) + 1) (ho : ∀ j, 5 ≤ j → j ≤ 15 → j ≠ s + 3 → gF' j = gF j) : FG (up ct s (ct s + 1)) gF' := by
  obtain ⟨k5, k6, k7, k8, k9, k10, k11, k12, k13, k14, k15⟩ := hG
  refine ⟨?_, ?_, ?_, ?_, ?_, ?_, ?_, ?_, ?_, ?_, ?_⟩
  · by_cases q : s = 2
    · subst q
      rw [up_eq, ← k5]
      exact hg
    · rw [up_ne (by omega), ho 5 (by omega) (by omega) (by omega)]
      exact k5
  · by_cases q : s = 3
    · subst q
      rw [up_eq, ← k6]
      exact hg
    · rw [up_ne (by omega), ho 6 (by omega) (by omega) (by omega)]
      exact k6
  · by_cases q : s = 4
    · subst q
      rw [up_eq, ← k7]
      exact hg
    · rw [up_ne (by omega), ho 7 (by omega) (by omega) (by omega)]
      exact k7
  · by_cases q : s = 5
    · subst q
      rw [up_eq, ← k8]
      exact hg
    · rw [up_ne (by omega), ho 8 (by omega) (by omega) (by omega)]
      exact k8
  · by_cases q : s = 6
    · subst q
      rw [up_eq, ← k9]
      exact hg
    · rw [up_ne (by omega), ho 9 (by omega) (by omega) (by omega)]
      exact k9
  · by_cases q : s = 7
    · subst q
      rw [up_eq, ← k10]
      exact hg
    · rw [up_ne (by omega), ho 10 (by omega) (by omega) (by omega)]
      exact k10
  · by_cases q : s = 8
    · subst q
      rw [up_eq, ← k11]
      exact hg
    · rw [up_ne (by omega), ho 11 (by omega) (by omega) (by omega)]
      exact k11
  · by_cases q : s = 9
    · subst q
      rw [up_eq, ← k12]
      exact hg
    · rw [up_ne (by omega), ho 12 (by omega) (by omega) (by omega)]
      exact k12
  · by_cases q : s = 10
    · subst q
      rw [up_eq, ← k13]
      exact hg
    · rw [up_ne (by omega), ho 13 (by omega) (by omega) (by omega)]
      exact k13
  · by_cases q : s = 11
    · subst q
      rw [up_eq, ← k14]
      exact hg
    · rw [up_ne (by omega), ho 14 (by omega) (by omega) (by omega)]
      exact k14
  · by_cases q : s = 12
    · subst q
      rw [up_eq, ← k15]
      exact hg
    · rw [up_ne (by omega), ho 15 (by omega) (by omega) (by omega)]
      exact k15
theorem xP_f_eh {bs : Nat → Int} {lo hi : Int} {p : TS} (h : p.1 7 ≠ 0) : (ehP bs lo hi p).2 = p := by unfold ehP; rw [if_pos h]
theorem xP_f_ew {bs : Nat → Int} {k : Nat} {p : TS} (h : p.1 7 ≠ 0) : ewP bs k p = p := by unfold ewP; rw [if_pos h]
theorem xP_f_lb {bs : Nat → Int} {k : Nat} {lo hi : Int} {p : TS} (h : p.1 7 ≠ 0) : (lbP bs k lo hi p).2 = p := by unfold lbP; rw [xP_f_ew h, xP_f_eh h]
theorem xP_f_sn {bs : Nat → Int} {s : Int} {p : TS} (h : p.1 7 ≠ 0) : (snP bs s p).2 = p := by unfold snP; rw [if_pos h]
theorem xP_f_en {bs : Nat → Int} {s : Int} {p : TS} (h : p.1 7 ≠ 0) : (enP bs s p).2 = p := by rw [enP_g, xP_f_sn h]; exact goP_1 h
theorem xP_f_nn {bs : Nat → Int} {s x : Int} {p : TS} (h : p.1 7 ≠ 0) : nnP bs s x p = p := by unfold nnP; rw [if_pos h]
/-- the names stay -/
def K12 (p p' : TS) : Prop := p'.2.2 = p.2.2 ∧ p'.1 12 = p.1 12
theorem K12_r {p : TS} : K12 p p := ⟨rfl, rfl⟩
theorem K12_t {p p' p'' : TS} (h : K12 p p') (h' : K12 p' p'') : K12 p p'' := ⟨h'.1.trans h.1, h'.2.trans h.2⟩
theorem nxP_7 {bs : Nat → Int} {p : TS} : (nxP bs p).1 7 = p.1 7 := by
  show nxG bs p.1 7 = p.1 7
  unfold nxG
  rw [if_neg (by omega), if_neg (by omega), if_neg (by omega), if_neg (by omega)]
theorem K12_nx {bs : Nat → Int} {p : TS} : K12 p (nxP bs p) := by
  refine ⟨rfl, ?_⟩
  show nxG bs p.1 12 = p.1 12
  unfold nxG
  rw [if_neg (by omega), if_neg (by omega), if_neg (by omega), if_neg (by omega)]
theorem ok_eh {bs : Nat → Int} {lo hi : Int} {p : TS} (h : (ehP bs lo hi p).2.1 7 = 0) : p.1 7 = 0 ∧ (lo ≤ (ehP bs lo hi p).1 ∧ (ehP bs lo hi p).1 ≤ hi) ∧ K12 p (ehP bs lo hi p).2 := by
  by_cases q : p.1 7 = 0 ∧ p.1 4 = 2
  · by_cases q2 : lo ≤ p.1 5 ∧ p.1 5 ≤ hi
    · rw [ehP_2 q q2]
      exact ⟨q.1, q2, K12_nx⟩
    · rw [ehP_4 q q2] at h
      exact absurd h (flP_x (by omega))
  · rw [ehP_1 q] at h
    exact absurd h (flP_x (by omega))
theorem ok_ew {bs : Nat → Int} {k : Nat} {p : TS} (h : (ewP bs k p).1 7 = 0) : p.1 7 = 0 ∧ K12 p (ewP bs k p) := by
  by_cases q : p.1 7 = 0 ∧ wordIs bs p.1 k
  · rw [ewP_ye q]
    exact ⟨q.1, K12_nx⟩
  · rw [ewP_no q] at h
    exact absurd h (flP_x (by omega))
theorem ok_lb {bs : Nat → Int} {k : Nat} {lo hi : Int} {p : TS} (h : (lbP bs k lo hi p).2.1 7 = 0) : p.1 7 = 0 ∧ (lo ≤ (lbP bs k lo hi p).1 ∧ (lbP bs k lo hi p).1 ≤ hi) ∧ K12 p (lbP bs k lo hi p).2 := by
  unfold lbP at h ⊢
  have h1 := ok_eh h
  have h2 := ok_ew h1.1
  exact ⟨h2.1, h1.2.1, K12_t h2.2 h1.2.2⟩
theorem ok_sn {bs : Nat → Int} {s : Int} {p : TS} (h : (snP bs s p).2.1 7 = 0) : p.1 7 = 0 ∧ K12 p (snP bs s p).2 ∧ (snP bs s p).2 = p ∧ ∃ i : Nat, (i : Int) < p.1 12 ∧ p.2.2.2.1 i = s ∧ (snP bs s p).1 = p.2.2.2.2 i := by
  have h1 := snP_ok h
  by_cases q2 : fnI p.2.2.1 p.2.1 (p.1 12) = -1 ∨ p.2.2.2.1 (fnI p.2.2.1 p.2.1 (p.1 12)).toNat ≠ s
  · rw [snP_2 h1.2 q2] at h
    exact absurd h (flP_x (by omega))
  · refine ⟨h1.2.1, by rw [h1.1]; exact K12_r, h1.1, (fnI p.2.2.1 p.2.1 (p.1 12)).toNat, ?_, Classical.byContradiction (fun q3 => q2 (Or.inr q3)), by rw [snP_3 h1.2 q2]⟩
    have hb := fnR_b (nm := p.2.2.1) (w := p.2.1) (p.1 12).toNat 0
    have : ¬ fnI p.2.2.1 p.2.1 (p.1 12) = -1 := fun q3 => q2 (Or.inl q3)
    unfold fnI at this ⊢
    omega
theorem ok_en {bs : Nat → Int} {s : Int} {p : TS} (h : (enP bs s p).2.1 7 = 0) : p.1 7 = 0 ∧ K12 p (enP bs s p).2 ∧ ∃ i : Nat, (i : Int) < p.1 12 ∧ p.2.2.2.1 i = s ∧ (enP bs s p).1 = p.2.2.2.2 i := by
  rw [enP_g] at h ⊢
  by_cases q : (snP bs s p).2.1 7 = 0
  · have h1 := ok_sn q
    refine ⟨h1.1, ?_, h1.2.2.2⟩
    show K12 p (goP bs (snP bs s p).2)
    rw [goP_0 q]
    exact K12_t h1.2.1 K12_nx
  · replace h : (goP bs (snP bs s p).2).1 7 = 0 := h
    rw [goP_1 q] at h
    exact absurd h q
theorem ok_nn {bs : Nat → Int} {s x : Int} {p : TS} (h : (nnP bs s x p).1 7 = 0) : p.1 7 = 0 ∧ p.1 12 < 16 ∧ nnP bs s x p = nxP bs (nmP s x p) := by
  by_cases q : p.1 7 = 0 ∧ p.1 4 = 1 ∧ resI bs p.1 = -1
  · by_cases q2 : fnI p.2.2.1 p.2.1 (p.1 12) ≠ -1 ∨ 16 ≤ p.1 12
    · rw [nnP_2 q q2] at h
      exact absurd h (flP_x (by omega))
    · exact ⟨q.1, by omega, nnP_3 q q2⟩
  · rw [nnP_1 q] at h
    exact absurd h (flP_x (by omega))
/-- bounds of the flight that is read, fault or not -/
def RB (gF : Nat → Int) (A : Nat → Nat → Int) : Prop := NB gF A ∧ ((0 ≤ gF 5 ∧ gF 5 ≤ 4) ∧ (0 ≤ gF 6 ∧ gF 6 ≤ 6) ∧ (0 ≤ gF 7 ∧ gF 7 ≤ 6) ∧ (0 ≤ gF 8 ∧ gF 8 ≤ 2) ∧ (0 ≤ gF 9 ∧ gF 9 ≤ 8) ∧ (0 ≤ gF 10 ∧ gF 10 ≤ 5) ∧ (0 ≤ gF 11 ∧ gF 11 ≤ 6) ∧ (0 ≤ gF 12 ∧ gF 12 ≤ 3) ∧ (0 ≤ gF 13 ∧ gF 13 ≤ 3) ∧ (0 ≤ gF 14 ∧ gF 14 ≤ 4) ∧ (0 ≤ gF 15 ∧ gF 15 ≤ 4)) ∧ (0 ≤ gF 0 ∧ gF 0 ≤ 999) ∧ (-1 ≤ gF 3 ∧ gF 3 ≤ 999) ∧ ∀ i : Nat, i < 2 → 0 ≤ A 8 i ∧ A 8 i ≤ 1
def NI (p : TS) (ct : Nat → Int) : Prop := ∀ i : Nat, (i : Int) < p.1 12 → (p.2.2.2.1 i = 2 → 0 ≤ p.2.2.2.2 i ∧ p.2.2.2.2 i < ct 2) ∧ (p.2.2.2.1 i = 5 → 0 ≤ p.2.2.2.2 i ∧ p.2.2.2.2 i < ct 5)
def HG (ct td gF : Nat → Int) : Prop := (ct 0 = 0 → gF 0 = 0) ∧ (ct 0 = 1 → gF 0 = c_get td 0 0 0 ∧ gF 1 = c_get td 0 0 1 ∧ gF 2 = c_get td 0 0 2) ∧ (ct 1 = 0 → gF 3 = -1) ∧ (ct 1 = 1 → gF 3 = c_get td 1 0 0 ∧ gF 4 = c_get td 1 0 1)
/-- lines read so far, against the class's -/
def FR (p : TS) (ct td gF : Nat → Int) (A : Nat → Nat → Int) : Prop := FA ct td A ∧ FG ct gF ∧ FI ct td ∧ NR p gF A ∧ NI p ct ∧ HG ct td gF ∧ p.1 12 = ct 2 + ct 5 + ct 8 + ct 12
theorem NR_K {p p' : TS} {gF gF' : Nat → Int} {A A' : Nat → Nat → Int} (h : NR p gF A) (hk : K12 p p') (h16 : gF' 16 = gF 16) (hA : ∀ j, 28 ≤ j → A' j = A j) : NR p' gF' A' := by
  obtain ⟨k1, k2⟩ := hk
  unfold NR
  rw [k1, k2, h16, hA 28 (by omega), hA 29 (by omega), hA 30 (by omega)]
  exact h
theorem NI_K {p p' : TS} {ct ct' : Nat → Int} (h : NI p ct) (hk : K12 p p') (h2 : ct 2 ≤ ct' 2) (h5 : ct 5 ≤ ct' 5) : NI p' ct' := by
  obtain ⟨k1, k2⟩ := hk
  unfold NI
  rw [k1, k2]
  intro i hi
  have := h i hi
  refine ⟨fun q => ?_, fun q => ?_⟩
  · have := this.1 q; omega
  · have := this.2 q; omega
theorem gn_eq {ct f : Nat → Int} {s i x v : Int} (hs : 0 ≤ s ∧ s < 13) (hc : 0 ≤ ct s.toNat ∧ ct s.toNat < 8) (hi : i = ct s.toNat) (hx : 0 ≤ x ∧ x < 12) : c_get (up f (c_ix ct s x) v) s i x = v := by
  rw [hi, get_new hs hc hx, up_eq]
theorem gn_ne {ct f : Nat → Int} {s i x y v : Int} (hs : 0 ≤ s ∧ s < 13) (hc : 0 ≤ ct s.toNat ∧ ct s.toNat < 8) (hi : i = ct s.toNat) (hx : 0 ≤ x ∧ x < 12) (hy : 0 ≤ y) (h : x ≠ y) : c_get (up f (c_ix ct s y) v) s i x = c_get f s i x := by
  rw [hi, get_new hs hc hx, get_new hs hc hx, up_ne (ix_ne hs.1 hc.1 hx.1 hy h)]
theorem gn_op {ct td : Nat → Int} {s i x : Int} (hs : 0 ≤ s ∧ s < 13) (hc : 0 ≤ ct s.toNat ∧ ct s.toNat < 8) (hi : i = ct s.toNat) (hx : 0 ≤ x ∧ x < 12) : c_get (opT ct td s) s i x = 0 := by
  rw [hi, get_new hs hc hx]
  unfold opT
  rw [if_pos (by unfold c_ix; omega)]
theorem rn_op {ct td : Nat → Int} {s : Int} (h : ∀ j, 0 ≤ td j ∧ td j ≤ 999) : ∀ j, 0 ≤ opT ct td s j ∧ opT ct td s j ≤ 999 := fun j => by
  have := h j
  unfold opT
  split <;> omega
theorem rn_up {f : Nat → Int} {k : Nat} {v : Int} (h : ∀ j, 0 ≤ f j ∧ f j ≤ 999) (hv : 0 ≤ v ∧ v ≤ 999) : ∀ j, 0 ≤ up f k v j ∧ up f k v j ≤ 999 := fun j => by
  by_cases q : j = k
  · rw [q, up_eq]; exact hv
  · rw [up_ne q]; exact h j
theorem HG_k {ct td td' gF gF' : Nat → Int} {s : Nat} (hF : FI ct td) (h : HG ct td gF) (hs : 2 ≤ s ∧ s < 13) (hlim : ct s < (jtab 0).2.2 s) (hO : OUT ct s td td') (hg : ∀ j, j < 5 → gF' j = gF j) : HG (up ct s (ct s + 1)) td' gF' := by
  have hl8 := lim_8 s hs.2
  have hk := fun {s' i x : Int} (hn : ¬ (s' = (s : Int) ∧ i = ct s)) => get_keep (x := x) (s' := s') (i := i) (ct := ct) (td := td) (td' := td') (s := (s : Int)) (by omega) (by rw [Int.toNat_natCast]; have := hF.1 s hs.2; omega) hO (by rw [Int.toNat_natCast]; exact hn)
  unfold HG
  rw [up_ne (by omega), up_ne (by omega), hk (s' := 0) (by omega), hk (s' := 0) (by omega), hk (s' := 0) (by omega), hk (s' := 1) (by omega), hk (s' := 1) (by omega), hg 0 (by omega), hg 1 (by omega), hg 2 (by omega), hg 3 (by omega), hg 4 (by omega)]
  exact h
theorem FR_upd {p p' : TS} {ct td td' gF gF' : Nat → Int} {A A' : Nat → Nat → Int} {s : Nat} (hFR : FR p ct td gF A) (hs : 2 ≤ s ∧ s < 13) (hlim : ct s < (jtab 0).2.2 s) (hO : OUT ct s td td') (hr : ∀ j, 0 ≤ td' j ∧ td' j ≤ 999) (hnew : LI (ct 2) (ct 5) td' s (ct s)) (hend : s = 5 → ∀ i, 0 ≤ i → i < ct 5 → c_get td 5 i 0 ≠ c_get td' 5 (ct 5) 0) (hB : ∀ j, 1 ≤ j → j < 28 → own j ≠ s → A' j = A j) (hN : FN ct td' A A' s) (hg1 : gF' (s + 3) = gF (s + 3) + 1) (hg2 : ∀ j, j ≤ 15 → j ≠ s + 3 → gF' j = gF j) (hNR : NR p' gF' A') (hNI : NI p' (up ct s (ct s + 1))) (hcn : p'.1 12 = p.1 12 + (if s = 2 ∨ s = 5 ∨ s = 8 ∨ s = 12 then 1 else 0)) : FR p' (up ct s (ct s + 1)) td' gF' A' := by
  obtain ⟨h1, h2, h3, h4, h5, h6, h7⟩ := hFR
  have h6' : s = 6 → 0 ≤ c_get td' 6 (ct 6) 0 * 4 + c_get td' 6 (ct 6) 1 := fun q => by
    have a := c_getr hr 6 (ct 6) 0
    have b := c_getr hr 6 (ct 6) 1
    omega
  refine ⟨FA_upd h3 h1 hs.2 hlim hO hB hN h6', FG_upd h2 hs hg1 (fun j _ a b => hg2 j a b), FI_upd h3 hs.2 hlim hO hr hnew hend, hNR, hNI, HG_k h3 h6 hs hlim hO (fun j hj => hg2 j (by omega) (by omega)), ?_⟩
  rw [hcn, h7]
  by_cases q2 : s = 2
  · subst q2; rw [if_pos (by omega), up_eq, up_ne (by omega), up_ne (by omega), up_ne (by omega)]; omega
  · by_cases q5 : s = 5
    · subst q5; rw [if_pos (by omega), up_eq, up_ne (by omega), up_ne (by omega), up_ne (by omega)]; omega
    · by_cases q8 : s = 8
      · subst q8; rw [if_pos (by omega), up_eq, up_ne (by omega), up_ne (by omega), up_ne (by omega)]; omega
      · by_cases q12 : s = 12
        · subst q12; rw [if_pos (by omega), up_eq, up_ne (by omega), up_ne (by omega), up_ne (by omega)]; omega
        · rw [if_neg (by omega), up_ne (by omega), up_ne (by omega), up_ne (by omega), up_ne (by omega)]; omega
theorem tln_0 {bs ct td : Nat → Int} {s : Int} {p : TS} (hs : ¬ (s < 0 ∨ 13 ≤ s)) (h : (jtab 0).2.2 s.toNat ≤ ct s.toNat) : tlnP bs ct td s p = (flP (if s = 0 ∨ s = 1 then 3 else 5) p, ct, td) := by
  unfold tlnP
  rw [if_neg hs, if_pos h]
theorem tln_1 {bs ct td : Nat → Int} {s : Int} {p : TS} (hs : ¬ (s < 0 ∨ 13 ≤ s)) (h : ¬ (jtab 0).2.2 s.toNat ≤ ct s.toNat) : tlnP bs ct td s p = tlnC ct s (lnP bs ct (nxP bs p) (opT ct td s) s) := by
  unfold tlnP
  rw [if_neg hs, if_neg h]
theorem wi_c {k k' : Nat} (h : jtxt k = jtxt k') {bs g : Nat → Int} : wordIs bs g k = wordIs bs g k' := by
  unfold wordIs
  rw [h]
theorem ew_c {k k' : Nat} (h : jtxt k = jtxt k') {bs : Nat → Int} {p : TS} : ewP bs k p = ewP bs k' p := by
  by_cases q : p.1 7 = 0 ∧ wordIs bs p.1 k
  · rw [ewP_ye q, ewP_ye ⟨q.1, by rw [← wi_c h]; exact q.2⟩]
  · rw [ewP_no q, ewP_no (fun q' => q ⟨q'.1, by rw [wi_c h]; exact q'.2⟩)]
theorem lb_c {k k' : Nat} (h : jtxt k = jtxt k') {bs : Nat → Int} {lo hi : Int} {p : TS} : lbP bs k lo hi p = lbP bs k' lo hi p := by
  unfold lbP
  rw [ew_c h]
