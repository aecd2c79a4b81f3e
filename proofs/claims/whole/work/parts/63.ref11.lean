/-! 63: the reference: a step -/
def st4 (b : Nat → Int) (ρ τ : Nat) (beg : Int) : Nat → Int := up (up (up (up (up b (410 + τ) beg) (10 * ρ) τ) (10 * ρ + 1) beg) (412 + τ) (b (412 + τ) + 1)) 430 (b 430 + 1)
def bE (b : Nat → Int) (ρ τ : Nat) (beg : Int) (w : Nat → Int) (s : Int) : Nat → Int := up (up (rbX (st4 b ρ τ beg) ρ τ w) (10 * ρ + 2) (w 0)) 422 s
theorem rbX_ne {b0 w : Nat → Int} {ρ τ j : Nat} (h1 : ¬ (10 * ρ + 3 ≤ j ∧ j < 10 * ρ + 10)) (h2 : j ≠ 410 + τ) (h3 : ¬ (414 + 4 * τ ≤ j ∧ j < 414 + 4 * τ + 4)) (h4 : j ≠ 429) (h5 : ¬ (423 ≤ j ∧ j < 429)) : rbX b0 ρ τ w j = b0 j := by
  unfold rbX
  rw [if_neg (by omega), if_neg (by omega), if_neg h2, if_neg h3, if_neg h4, if_neg h5]
theorem rbX_gt {b0 w : Nat → Int} {ρ τ i : Nat} (hρ : ρ ≤ 40) (hτ : τ ≤ 1) (hi : i < 6) : rbX b0 ρ τ w (423 + i) = w (14 + i) := by
  unfold rbX
  rw [if_neg (by omega), if_neg (by omega), if_neg (by omega), if_neg (by omega), if_neg (by omega), if_pos (by omega), show 14 + (423 + i - 423) = 14 + i by omega]
theorem rbX_self {b w : Nat → Int} {ρ τ : Nat} (h1 : ∀ i, i < 3 → b (10 * ρ + 3 + i) = w (1 + i)) (h2 : ∀ k, k < 4 → b (10 * ρ + 6 + k) = w (5 + k)) (h3 : b (410 + τ) = w 0) (h4 : ∀ k, k < 4 → b (414 + 4 * τ + k) = w (9 + k)) (h5 : b 429 = w 13) (h6 : ∀ i, i < 6 → b (423 + i) = w (14 + i)) : rbX b ρ τ w = b := by
  funext j
  unfold rbX
  split
  · rename_i q
    rw [← h1 (j - (10 * ρ + 3)) (by omega)]
    congr 1; omega
  · split
    · rename_i q
      rw [← h2 (j - (10 * ρ + 6)) (by omega)]
      congr 1; omega
    · split
      · rename_i q; rw [q, h3]
      · split
        · rename_i q
          have e9 := h4 (j - (414 + 4 * τ)) (by omega)
          rw [show 414 + 4 * τ + (j - (414 + 4 * τ)) = j by omega] at e9
          exact e9.symm
        · split
          · rename_i q; rw [q, h5]
          · split
            · rename_i q
              have e9 := h6 (j - 423) (by omega)
              rw [show 423 + (j - 423) = j by omega] at e9
              exact e9.symm
            · rfl
theorem st4_ne {b : Nat → Int} {ρ τ j : Nat} {beg : Int} (h1 : j ≠ 410 + τ) (h2 : j ≠ 10 * ρ) (h3 : j ≠ 10 * ρ + 1) (h4 : j ≠ 412 + τ) (h5 : j ≠ 430) : st4 b ρ τ beg j = b j := by
  unfold st4
  rw [up_ne h5, up_ne h4, up_ne h3, up_ne h2, up_ne h1]
theorem RRel_av {ct td bk si : Nat → Int} {R : FS} {b : Nat → Int} (h : RRel ct td R b) (hRI : RI ct td R) (hF : FI ct td) (hno : R.1 4 ≤ R.1 5) (hr : c_rows ct td ≤ 40) (h5 : 1 ≤ ct 5) : RRel ct td (avR ct td bk si R) (bE b (av_row ct td R.1 R.2.1).toNat (c_nxt ct td R.2.1).toNat (av_beg ct td R.1 R.2.1) (av_w ct td bk si R.1 R.2.1 R.2.2.1 R.2.2.2.2) (R.1 6 + c_begun ct td (av_beg ct td R.1 R.2.1) (av_w ct td bk si R.1 R.2.1 R.2.2.1 R.2.2.2.2 0))) := by
  obtain ⟨g, sp, sk, fa, go⟩ := R
  obtain ⟨h1, h2, h3, h4, h422, h6, h429, h430⟩ := h
  obtain ⟨i1, -, -, -, i0, -⟩ := hRI
  replace hno : g 4 ≤ g 5 := hno
  replace i1 : 1 ≤ g 4 ∧ g 4 ≤ g 5 + 1 ∧ g 5 ≤ c_rows ct td := i1
  replace i0 : ∀ ρ : Nat, g 4 ≤ ρ → (ρ : Int) ≤ g 5 → ∀ o, o < 11 → fa (11 * ρ + o) = 0 := i0
  replace h2 : ∀ t, t < 2 → b (410 + t) = sp t := h2
  replace h3 : ∀ t : Nat, (t : Int) < ct 5 → b (412 + t) = if c_get td 5 t 0 = 0 then g 4 - 1 else c_rows ct td - g 5 := h3
  replace h4 : ∀ j, j < 8 → b (414 + j) = sk j := h4
  replace h430 : b 430 = c_rows ct td - (g 5 - g 4 + 1) := h430
  have hx := c_nxt_r (ct := ct) (td := td) (sp := sp)
  have l5 := (hF.1 5 (by omega)).2
  rw [show (jtab 0).2.2 5 = 2 from rfl] at l5
  have hx5 : c_nxt ct td sp < ct 5 := by
    unfold c_nxt
    (repeat' split) <;> omega
  have hrow : (c_get td 5 (c_nxt ct td sp) 0 = 0 ∧ av_row ct td g sp = g 4) ∨ (c_get td 5 (c_nxt ct td sp) 0 ≠ 0 ∧ av_row ct td g sp = g 5) := by
    unfold av_row
    split
    · rename_i q; exact Or.inl ⟨q, rfl⟩
    · rename_i q; exact Or.inr ⟨q, rfl⟩
  have hag : ∀ {a1 a2 : Int}, av_g ct td bk si g sp sk go = (if c_get td 5 (c_nxt ct td sp) 0 = 0 then up (up (up g 7 (av_w ct td bk si g sp sk go 13)) 6 (g 6 + c_begun ct td (av_beg ct td g sp) (av_w ct td bk si g sp sk go 0))) 4 (g 4 + 1) else up (up (up g 7 (av_w ct td bk si g sp sk go 13)) 6 (g 6 + c_begun ct td (av_beg ct td g sp) (av_w ct td bk si g sp sk go 0))) 5 (g 5 - 1)) := fun {_ _} => rfl
  unfold avR
  dsimp only
  generalize hw : av_w ct td bk si g sp sk go = w at hag
  generalize hb : av_beg ct td g sp = beg at hag
  have efa : av_fa ct td bk si g sp sk fa go = rwX (up (up fa (11 * (av_row ct td g sp).toNat) (c_nxt ct td sp)) (11 * (av_row ct td g sp).toNat + 1) beg) (av_row ct td g sp).toNat w := by
    unfold av_fa
    rw [hw, hb]
  rw [efa]
  obtain ⟨τ, eτ⟩ : ∃ τ : Nat, c_nxt ct td sp = (τ : Int) := ⟨(c_nxt ct td sp).toNat, by omega⟩
  obtain ⟨ρ, eρ⟩ : ∃ ρ : Nat, av_row ct td g sp = (ρ : Int) := ⟨(av_row ct td g sp).toNat, by omega⟩
  have hag := hag (a1 := 0) (a2 := 0)
  generalize hG : av_g ct td bk si g sp sk go = G at hag
  rw [eτ] at hrow hag hx hx5 ⊢
  rw [eρ] at hrow ⊢
  rw [Int.toNat_natCast, Int.toNat_natCast]
  have hG4 : (c_get td 5 τ 0 = 0 ∧ G 4 = g 4 + 1 ∧ G 5 = g 5 ∧ (ρ : Int) = g 4) ∨ (c_get td 5 τ 0 ≠ 0 ∧ G 4 = g 4 ∧ G 5 = g 5 - 1 ∧ (ρ : Int) = g 5) := by
    rcases hrow with ⟨q, e⟩ | ⟨q, e⟩
    · rw [hag, if_pos q]
      exact Or.inl ⟨q, up_eq, by rw [up_ne (by omega), up_ne (by omega), up_ne (by omega)], e⟩
    · rw [hag, if_neg q]
      exact Or.inr ⟨q, by rw [up_ne (by omega), up_ne (by omega), up_ne (by omega)], up_eq, e⟩
  have hG6 : G 6 = g 6 + c_begun ct td beg (w 0) := by
    rw [hag]
    split
    · rw [up_ne (by omega), up_eq]
    · rw [up_ne (by omega), up_eq]
  have hG7 : G 7 = w 13 := by
    rw [hag]
    split
    · rw [up_ne (by omega), up_ne (by omega), up_eq]
    · rw [up_ne (by omega), up_ne (by omega), up_eq]
  have hρ : 1 ≤ ρ ∧ ρ ≤ 40 ∧ g 4 ≤ ρ ∧ (ρ : Int) ≤ g 5 := by omega
  have eb : ∀ j, j ≠ 422 → j ≠ 10 * ρ + 2 → bE b ρ τ beg w (g 6 + c_begun ct td beg (w 0)) j = rbX (st4 b ρ τ beg) ρ τ w j := fun j q1 q2 => by
    unfold bE
    rw [up_ne q1, up_ne q2]
  refine ⟨fun r hr1 hr2 => ?_, fun t ht => ?_, fun t ht => ?_, fun j hj => ?_, ?_, fun i hi => ?_, ?_, ?_⟩
  · obtain ⟨a1, a2, a3, a4, a5, a6⟩ := h1 r hr1 hr2
    by_cases q : r = ρ
    · subst q
      refine ⟨fun _ => ⟨?_, ?_, ?_⟩, fun hq => ?_, ?_, ?_, ?_, fun k hk => ?_⟩
      · show bE _ _ _ _ _ _ (10 * r) = rwX _ _ _ (11 * r)
        rw [eb _ (by omega) (by omega), rbX_ne (by omega) (by omega) (by omega) (by omega) (by omega)]
        unfold st4 rwX
        rw [up_ne (by omega), up_ne (by omega), up_ne (by omega), up_eq, if_neg (by omega), up_ne (by omega), up_eq]
      · show bE _ _ _ _ _ _ (10 * r + 1) = rwX _ _ _ (11 * r + 1)
        rw [eb _ (by omega) (by omega), rbX_ne (by omega) (by omega) (by omega) (by omega) (by omega)]
        unfold st4 rwX
        rw [up_ne (by omega), up_ne (by omega), up_eq, if_neg (by omega), up_eq]
      · show bE _ _ _ _ _ _ (10 * r + 2) = rwX _ _ _ (11 * r + 2)
        have e9 := rwX_at (fa := up (up fa (11 * r) (τ : Int)) (11 * r + 1) beg) (w := w) (ρ := r) (o := 0) (by omega)
        rw [Nat.add_zero] at e9
        rw [e9]
        unfold bE
        rw [up_ne (by omega), up_eq]
      · exfalso
        have hq1 : G 4 ≤ r ∧ (r : Int) ≤ G 5 := hq
        omega
      · show bE _ _ _ _ _ _ (10 * r + 3) = rwX _ _ _ (11 * r + 3)
        rw [eb _ (by omega) (by omega)]
        exact ((rbX_f (x := 0) ⟨hr1, by omega⟩ (by omega) (o := 1) (by omega)).2).trans (rwX_at (o := 1) (by omega)).symm
      · show bE _ _ _ _ _ _ (10 * r + 4) = rwX _ _ _ (11 * r + 4)
        rw [eb _ (by omega) (by omega)]
        exact ((rbX_f (x := 0) ⟨hr1, by omega⟩ (by omega) (o := 2) (by omega)).2).trans (rwX_at (o := 2) (by omega)).symm
      · show bE _ _ _ _ _ _ (10 * r + 5) = rwX _ _ _ (11 * r + 5)
        rw [eb _ (by omega) (by omega)]
        exact ((rbX_f (x := 0) ⟨hr1, by omega⟩ (by omega) (o := 3) (by omega)).2).trans (rwX_at (o := 3) (by omega)).symm
      · show bE _ _ _ _ _ _ (10 * r + 6 + k) = rwX _ _ _ (11 * r + 7 + k)
        rw [eb _ (by omega) (by omega), (rbX_t (x := 0) ⟨hr1, by omega⟩ (by omega) hk).2]
        have e9 := rwX_at (fa := up (up fa (11 * r) (τ : Int)) (11 * r + 1) beg) (w := w) (ρ := r) (o := 5 + k) (by omega)
        rw [show 11 * r + 2 + (5 + k) = 11 * r + 7 + k by omega] at e9
        exact e9.symm
    · have eB : ∀ o, o < 10 → bE b ρ τ beg w (g 6 + c_begun ct td beg (w 0)) (10 * r + o) = b (10 * r + o) := fun o ho => by
        rw [eb _ (by omega) (by omega), rbX_ne (by omega) (by omega) (by omega) (by omega) (by omega), st4_ne (by omega) (by omega) (by omega) (by omega) (by omega)]
      have eF : ∀ o, o < 11 → rwX (up (up fa (11 * ρ) (τ : Int)) (11 * ρ + 1) beg) ρ w (11 * r + o) = fa (11 * r + o) := fun o ho => by
        unfold rwX
        rw [if_neg (by omega), up_ne (by omega), up_ne (by omega)]
      have e0 := eB 0 (by omega)
      have f0 := eF 0 (by omega)
      rw [Nat.add_zero] at e0 f0
      refine ⟨fun hq => ?_, fun hq => ?_, ?_, ?_, ?_, fun k hk => ?_⟩
      · have hq1 : (r : Int) < G 4 ∨ G 5 < r := hq
        obtain ⟨b1, b2, b3⟩ := a1 (show (r : Int) < g 4 ∨ g 5 < r by omega)
        exact ⟨e0.trans (b1.trans f0.symm), (eB 1 (by omega)).trans (b2.trans (eF 1 (by omega)).symm), (eB 2 (by omega)).trans (b3.trans (eF 2 (by omega)).symm)⟩
      · have hq1 : G 4 ≤ r ∧ (r : Int) ≤ G 5 := hq
        exact e0.trans (a2 (show g 4 ≤ r ∧ (r : Int) ≤ g 5 by omega))
      · exact (eB 3 (by omega)).trans (a3.trans (eF 3 (by omega)).symm)
      · exact (eB 4 (by omega)).trans (a4.trans (eF 4 (by omega)).symm)
      · exact (eB 5 (by omega)).trans (a5.trans (eF 5 (by omega)).symm)
      · have e1 := eB (6 + k) (by omega)
        have f1 := eF (7 + k) (by omega)
        rw [← Nat.add_assoc] at e1 f1
        exact e1.trans ((a6 k hk).trans f1.symm)
  · show bE _ _ _ _ _ _ (410 + t) = up sp τ (w 0) t
    rw [eb _ (by omega) (by omega)]
    by_cases q : t = τ
    · rw [q, up_eq, (rbX_s (x := 0) ⟨hρ.1, hρ.2.1⟩ (by omega)).2]
    · rw [up_ne q, rbX_ne (by omega) (by omega) (by omega) (by omega) (by omega), st4_ne (by omega) (by omega) (by omega) (by omega) (by omega)]
      exact h2 t ht
  · show bE _ _ _ _ _ _ (412 + t) = if c_get td 5 t 0 = 0 then G 4 - 1 else c_rows ct td - G 5
    rw [eb _ (by omega) (by omega), rbX_ne (by omega) (by omega) (by omega) (by omega) (by omega)]
    have h3t := h3 t ht
    by_cases q : t = τ
    · subst q
      unfold st4
      rw [up_ne (by omega), up_eq, h3t]
      rcases hG4 with ⟨z, e1, e2, -⟩ | ⟨z, e1, e2, -⟩
      · rw [if_pos z, if_pos z]; omega
      · rw [if_neg z, if_neg z]; omega
    · rw [st4_ne (by omega) (by omega) (by omega) (by omega) (by omega), h3t]
      have hd : c_get td 5 t 0 ≠ c_get td 5 τ 0 := by
        rcases Nat.lt_or_gt_of_ne q with q1 | q1
        · exact hF.2.2.1 t τ (by omega) (by omega) (by omega)
        · exact fun z => hF.2.2.1 τ t (by omega) (by omega) (by omega) z.symm
      have ht0 := (c_getr hF.2.2.2 5 t 0).1
      have ht1 := (c_getr hF.2.2.2 5 τ 0).1
      have b0 := ((hF.2.1 5 t (by omega) (by omega) ht).2.2.2.2.2.1 rfl).1
      have b1 := ((hF.2.1 5 τ (by omega) (by omega) (by omega)).2.2.2.2.2.1 rfl).1
      rcases hG4 with ⟨z, e1, e2, -⟩ | ⟨z, e1, e2, -⟩
      · rw [if_neg (by omega), if_neg (by omega), e2]
      · rw [if_pos (by omega), if_pos (by omega), e1]
  · show bE _ _ _ _ _ _ (414 + j) = rwS sk τ w j
    rw [eb _ (by omega) (by omega)]
    unfold rwS
    split
    · rename_i q
      have e9 := (rbX_l (b0 := st4 b ρ τ beg) (w := w) (x := 0) ⟨hρ.1, hρ.2.1⟩ (show τ ≤ 1 by omega) (k := j - 4 * τ) (by omega)).2
      rw [show 414 + 4 * τ + (j - 4 * τ) = 414 + j by omega] at e9
      exact e9
    · rw [rbX_ne (by omega) (by omega) (by omega) (by omega) (by omega), st4_ne (by omega) (by omega) (by omega) (by omega) (by omega)]
      exact h4 j hj
  · show bE _ _ _ _ _ _ 422 = G 6
    unfold bE
    rw [up_eq, hG6]
  · show bE _ _ _ _ _ _ (423 + i) = gtX w i
    rw [eb _ (by omega) (by omega), rbX_gt (by omega) (by omega) hi]
    rfl
  · show bE _ _ _ _ _ _ 429 = G 7
    rw [eb _ (by omega) (by omega), (rbX_z (x := 0) ⟨hρ.1, hρ.2.1⟩ (by omega)).2, hG7]
  · show bE _ _ _ _ _ _ 430 = c_rows ct td - (G 5 - G 4 + 1)
    rw [eb _ (by omega) (by omega), rbX_ne (by omega) (by omega) (by omega) (by omega) (by omega)]
    unfold st4
    rw [up_eq, h430]
    omega
