/-! 33: Teller: likings of a block are of different kinds -/
theorem firstW_p {f g : Int → Int} {key : Int} : ∀ (d : Nat) (i : Int), (∀ j, i ≤ j → j < i + d → 1 ≤ g j) → (∃ j, i ≤ j ∧ j < i + d ∧ f j = key) → 0 < firstW f g key i d
  | 0, i, _, h => by obtain ⟨j, h1, h2, -⟩ := h; omega
  | d + 1, i, hg, h => by
    unfold firstW
    split
    · have := hg i (by omega) (by omega); omega
    · rename_i q
      obtain ⟨j, h1, h2, h3⟩ := h
      have : j ≠ i := fun e => q (e ▸ h3)
      exact firstW_p d (i + 1) (fun j h1 h2 => hg j (by omega) (by omega)) ⟨j, by omega, by omega, h3⟩
def LKI (ct td : Nat → Int) : Prop := (0 ≤ c_get td 7 (ct 7) 3 ∧ c_get td 7 (ct 7) 3 ≤ 4) ∧ (∀ i : Int, 0 ≤ i → i < c_get td 7 (ct 7) 3 → 0 ≤ c_get td 7 (ct 7) (4 + 2 * i) ∧ c_get td 7 (ct 7) (4 + 2 * i) ≤ 3 ∧ 1 ≤ c_get td 7 (ct 7) (4 + 2 * i + 1)) ∧ (∀ i j : Int, 0 ≤ i → i < j → j < c_get td 7 (ct 7) 3 → c_get td 7 (ct 7) (4 + 2 * i) ≠ c_get td 7 (ct 7) (4 + 2 * j))
theorem LKI_w {ct td : Nat → Int} {a : Int} (h : LKI ct td) (hi : ∃ i : Int, 0 ≤ i ∧ i < c_get td 7 (ct 7) 3 ∧ c_get td 7 (ct 7) (4 + 2 * i) = a) : 0 < c_win td (ct 7) a := by
  obtain ⟨i, h1, h2, h3⟩ := hi
  have hm := h.1
  refine firstW_p _ 0 (fun j q1 q2 => ?_) ⟨i, h1, by omega, h3⟩
  exact (h.2.1 j q1 (by omega)).2.2
theorem LKI_4 {ct td : Nat → Int} {a : Int} (h : LKI ct td) (ha : 0 ≤ a ∧ a ≤ 3) : c_get td 7 (ct 7) 3 ≤ 3 ∨ 0 < c_win td (ct 7) a := by
  by_cases q : c_get td 7 (ct 7) 3 ≤ 3
  · exact Or.inl q
  · refine Or.inr (LKI_w h ?_)
    obtain ⟨hm, hk, hd⟩ := h
    have k0 := hk 0 (by omega) (by omega)
    have k1 := hk 1 (by omega) (by omega)
    have k2 := hk 2 (by omega) (by omega)
    have k3 := hk 3 (by omega) (by omega)
    have d01 := hd 0 1 (by omega) (by omega) (by omega)
    have d02 := hd 0 2 (by omega) (by omega) (by omega)
    have d03 := hd 0 3 (by omega) (by omega) (by omega)
    have d12 := hd 1 2 (by omega) (by omega) (by omega)
    have d13 := hd 1 3 (by omega) (by omega) (by omega)
    have d23 := hd 2 3 (by omega) (by omega) (by omega)
    rcases (show c_get td 7 (ct 7) (4 + 2 * 0) = a ∨ c_get td 7 (ct 7) (4 + 2 * 1) = a ∨ c_get td 7 (ct 7) (4 + 2 * 2) = a ∨ c_get td 7 (ct 7) (4 + 2 * 3) = a by omega) with e | e | e | e
    · exact ⟨0, by omega, by omega, e⟩
    · exact ⟨1, by omega, by omega, e⟩
    · exact ⟨2, by omega, by omega, e⟩
    · exact ⟨3, by omega, by omega, e⟩
theorem cg_up {ct td : Nat → Int} {y z v : Int} (hc : 0 ≤ ct 7 ∧ ct 7 < 8) (hy : 0 ≤ y ∧ y < 12) (hz : 0 ≤ z ∧ z < 12) : c_get (up td (c_ix ct 7 y) v) 7 (ct 7) z = if z = y then v else c_get td 7 (ct 7) z := by
  have e : c_ix ct 7 y = ((7 * 8 + ct 7) * 12 + y).toNat := rfl
  unfold c_get
  rw [if_pos (show (0 : Int) ≤ 7 ∧ (7 : Int) < 13 ∧ 0 ≤ ct 7 ∧ ct 7 < 8 ∧ 0 ≤ z ∧ z < 12 by omega), e]
  by_cases q : z = y
  · rw [if_pos q, q, up_eq]
  · rw [if_neg q, up_ne (by omega), if_pos (by omega)]
theorem LKI_al {ct td : Nat → Int} {a x : Int} (h : LKI ct td) (hc : 0 ≤ ct 7 ∧ ct 7 < 8) (hm3 : c_get td 7 (ct 7) 3 ≤ 3) (ha : 0 ≤ a ∧ a ≤ 3) (hx : 1 ≤ x) (hne : ∀ i : Int, 0 ≤ i → i < c_get td 7 (ct 7) 3 → c_get td 7 (ct 7) (4 + 2 * i) ≠ a) : LKI ct (alT ct td a x) := by
  obtain ⟨hm, hk, hd⟩ := h
  obtain ⟨m, em⟩ : ∃ m, m = c_get td 7 (ct 7) 3 := ⟨_, rfl⟩
  have G : ∀ z : Int, 0 ≤ z ∧ z < 12 → c_get (alT ct td a x) 7 (ct 7) z = if z = 3 then m + 1 else if z = 4 + 2 * m + 1 then x else if z = 4 + 2 * m then a else c_get td 7 (ct 7) z := by
    intro z hz
    unfold alT
    rw [← em, cg_up hc (by omega) hz, cg_up hc (by omega) hz, cg_up hc (by omega) hz]
  rw [← em] at hm hm3 hk hd hne
  have G3 : c_get (alT ct td a x) 7 (ct 7) 3 = m + 1 := by rw [G 3 (by omega), if_pos rfl]
  refine ⟨by rw [G3]; omega, fun i h1 h2 => ?_, fun i j h1 h2 h3 => ?_⟩
  · rw [G3] at h2
    rw [G _ (by omega), G _ (by omega)]
    by_cases q : i = m
    · rw [if_neg (by omega), if_neg (by omega), if_pos (by omega), if_neg (by omega), if_pos (by omega)]
      exact ⟨ha.1, ha.2, hx⟩
    · rw [if_neg (by omega), if_neg (by omega), if_neg (by omega), if_neg (by omega), if_neg (by omega), if_neg (by omega)]
      exact hk i h1 (by omega)
  · rw [G3] at h3
    rw [G _ (by omega), G _ (by omega)]
    rw [if_neg (by omega), if_neg (by omega), if_neg (show ¬ (4 + 2 * i = 4 + 2 * m) by omega), if_neg (by omega), if_neg (by omega)]
    by_cases q : j = m
    · rw [if_pos (by omega)]
      exact hne i h1 (by omega)
    · rw [if_neg (by omega)]
      exact hd i j h1 h2 (by omega)
/-- names of kinds have numbers up to 3 -/
def NO (p : TS) : Prop := ∀ i, p.2.2.2.1 i = 2 → p.2.2.2.2 i ≤ 3
theorem snP_k {bs : Nat → Int} {p : TS} (h : PO p) (hn : NO p) : 0 ≤ (snP bs 2 p).1 ∧ (snP bs 2 p).1 ≤ 3 := by
  refine ⟨(snP_b h).1, ?_⟩
  unfold snP
  split
  · exact (by decide : (0 : Int) ≤ 3)
  · split
    · exact (by decide : (0 : Int) ≤ 3)
    · split
      · exact (by decide : (0 : Int) ≤ 3)
      · rename_i q; exact hn _ (by omega)
theorem flP_n {k : Int} {p : TS} : (flP k p).2.2 = p.2.2 := by
  unfold flP; split <;> rfl
theorem snP_n {bs : Nat → Int} {s : Int} {p : TS} : (snP bs s p).2.2.2 = p.2.2 := by
  unfold snP
  (repeat' split) <;> first | rfl | exact flP_n
theorem ehP_n {bs : Nat → Int} {a c : Int} {p : TS} : (ehP bs a c p).2.2.2 = p.2.2 := by
  unfold ehP
  (repeat' split) <;> first | rfl | exact flP_n
theorem ewP_n {bs : Nat → Int} {k : Nat} {p : TS} : (ewP bs k p).2.2 = p.2.2 := by
  unfold ewP
  (repeat' split) <;> first | rfl | exact flP_n
theorem tlQ_n {bs ct td : Nat → Int} {p : TS} : (tlQ bs ct td p).2.2 = p.2.2 := by
  unfold tlQ
  split
  · rw [flP_n, snP_n]
  · exact snP_n
theorem tlP_n {bs ct td : Nat → Int} {p : TS} : (tlP bs ct td p).1.2.2 = p.2.2 := by
  unfold tlP
  split
  · show (ehP bs 1 9 (nxP bs (tlQ bs ct td p))).2.2.2 = _
    rw [ehP_n]; exact tlQ_n
  · exact tlQ_n
theorem tlP_L {bs ct td : Nat → Int} {p : TS} (h : LKI ct td) (hP : PO p) (hN : NO p) (hc : 0 ≤ ct 7 ∧ ct 7 < 8) : LKI ct (tlP bs ct td p).2 := by
  have sk := snP_k (bs := bs) hP hN
  unfold tlP
  split
  · rename_i q
    have q0 : ¬ (0 < c_win td (ct 7) (snP bs 2 p).1) := fun w => by
      unfold tlQ at q
      by_cases q2 : (snP bs 2 p).2.1 7 = 0
      · rw [if_pos ⟨q2, w⟩] at q
        exact flP_7 q2 (by omega) q
      · rw [if_neg (fun z => q2 z.1)] at q
        exact q2 q
    have hb := ehP_b (bs := bs) (a := 1) (c := 9) (p := nxP bs (tlQ bs ct td p)) (by omega)
    rcases LKI_4 h sk with m3 | w
    · exact LKI_al h hc m3 sk hb.1 (fun i h1 h2 e => q0 (LKI_w h ⟨i, h1, h2, e⟩))
    · exact absurd w q0
  · exact h
