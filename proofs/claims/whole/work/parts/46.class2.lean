/-! 46: the class: the run keeps what its methods need -/
def WC (w : Nat → Int) (C : Int) : Prop := ∀ j, 1 ≤ j → j < 9 → 0 ≤ w j ∧ w j ≤ C
theorem WC_mo {w : Nat → Int} {B C : Int} (h : WC w B) (hc : B ≤ C) : WC w C := fun j a b => ⟨(h j a b).1, by have := (h j a b).2; omega⟩
theorem WC_hi {w : Nat → Int} {C x : Int} {o : Nat} (h : WC w C) (ho : o = 0 ∨ 9 ≤ o) : WC (up w o x) C := fun j a b => by rw [up_ne (by omega)]; exact h j a b
theorem WC_hd {ct td w : Nat → Int} {k : Nat} {C : Int} (h : WC w C) (hk : k < 4) (h1 : w 3 ≤ C) : WC (hdW ct td k w) (C + 1) := by
  have e4 : ∀ j, 1 ≤ j → j < 9 → hd4 k (c_get td 0 0 2) w j = if j = 5 + k then w j + 1 else if j = 4 then w j + 1 else w j := by
    intro j a b
    unfold hd4
    by_cases q : j = 5 + k
    · rw [if_pos q, q, up_eq]
      unfold hd3
      rw [up_ne (by omega)]
      unfold hd2
      rw [up_ne (by omega)]
      unfold hd1
      rw [up_ne (by omega)]
    · rw [if_neg q, up_ne q]
      unfold hd3
      by_cases q2 : j = 4
      · rw [if_pos q2, q2, up_eq]
        unfold hd2
        rw [up_ne (by omega)]
        unfold hd1
        rw [up_ne (by omega)]
      · rw [if_neg q2, up_ne q2]
        unfold hd2
        rw [up_ne (by omega)]
        unfold hd1
        rw [up_ne (by omega)]
  intro j a b
  have hj := h j a b
  unfold hdW
  split
  · by_cases q : j = 3
    · rw [q, up_eq, e4 3 (by omega) (by omega), if_neg (by omega), if_neg (by omega)]
      rw [q] at hj
      omega
    · rw [up_ne q, e4 j a b]
      split
      · omega
      · split <;> omega
  · rw [e4 j a b]
    split
    · omega
    · split <;> omega
theorem WC_up1 {w : Nat → Int} {C x : Int} {o : Nat} (h : WC w C) (hx : 0 ≤ x ∧ x ≤ C) : WC (up w o x) C := fun j a b => by
  by_cases q : j = o
  · rw [q, up_eq]; exact hx
  · rw [up_ne q]; exact h j a b
theorem WC_nm {ct td w : Nat → Int} {ρ : Nat} {c i C : Int} (h : WC w C) (hk : 0 ≤ c_get td 8 i 1 ∧ c_get td 8 i 1 ≤ 3) : WC (nm1 ct td ρ c w i) (C + 1) := by
  have h2 := h 2 (by omega) (by omega)
  unfold nm1
  split
  · split
    · exact WC_hi (WC_hd h (by omega) (h 3 (by omega) (by omega)).2) (Or.inr (by omega))
    · exact WC_up1 (WC_mo h (by omega)) (by omega)
  · exact WC_mo h (by omega)
theorem WC_nmF {ct td w : Nat → Int} {ρ : Nat} {c C : Int} (h : WC w C) : ∀ {k : Nat}, (∀ i : Int, 0 ≤ i → i < k → 0 ≤ c_get td 8 i 1 ∧ c_get td 8 i 1 ≤ 3) → WC (foldS (nm1 ct td ρ c) w k) (C + k)
  | 0, _ => WC_mo h (by omega)
  | k + 1, hk => WC_mo (WC_nm (WC_nmF h (k := k) (fun i a b => hk i a (by omega))) (hk k (by omega) (by omega))) (by omega)
theorem WC_ot {ct td bk w : Nat → Int} {ρ : Nat} {i C : Int} (h : WC w C) (hk : ∀ v, 0 ≤ c_liked td bk ρ v ∧ c_liked td bk ρ v ≤ 3) : WC (ot1 ct td bk ρ w i) (C + 1) := by
  unfold ot1
  have h1 : WC (up w 13 ((75 * w 13 + 74) % 65537)) C := WC_hi h (Or.inr (by omega))
  have hl := hk ((75 * w 13 + 74) % 65537 % max 1 (c_weights td bk ρ))
  generalize c_liked td bk ρ ((75 * w 13 + 74) % 65537 % max 1 (c_weights td bk ρ)) = lk at hl
  generalize up w 13 ((75 * w 13 + 74) % 65537) = w1 at h1
  have q1 := h1 1 (by omega) (by omega)
  have q2 := h1 2 (by omega) (by omega)
  have q3 := h1 3 (by omega) (by omega)
  have hm := mostF_b (L := fun k : Int => w1 (9 + k.toNat))
  dsimp only
  have key : ∀ kd : Int, kd < 4 → WC (if kd = -1 then up w1 2 (w1 2 + 1) else hdW ct td kd.toNat (up w1 1 (w1 1 + if kd = lk then 0 else 1))) (C + 1) := by
    intro kd hkd
    split
    · exact WC_up1 (WC_mo h1 (by omega)) (by omega)
    · intro j a b
      have hc : ∀ x, WC (up w1 1 x) (C + 1) → True := fun _ _ => trivial
      by_cases qj : j = 1
      · have e : ∀ w : Nat → Int, hdW ct td kd.toNat w 1 = w 1 := fun w => by
          have e4 : hd4 kd.toNat (c_get td 0 0 2) w 1 = w 1 := by
            unfold hd4
            rw [up_ne (by omega)]
            unfold hd3
            rw [up_ne (by omega)]
            unfold hd2
            rw [up_ne (by omega)]
            unfold hd1
            rw [up_ne (by omega)]
          unfold hdW
          split
          · rw [up_ne (by omega), e4]
          · exact e4
        rw [qj, e, up_eq]
        split <;> omega
      · have hx : WC (hdW ct td kd.toNat (up w1 1 0)) (C + 1) := WC_hd (WC_up1 h1 ⟨Int.le_refl _, by omega⟩) (by omega) (by rw [up_ne (by omega)]; exact q3.2)
        have e : ∀ x y : Int, hdW ct td kd.toNat (up w1 1 x) j = hdW ct td kd.toNat (up w1 1 y) j := fun x y => by
          have e4 : ∀ x y : Int, hd4 kd.toNat (c_get td 0 0 2) (up w1 1 x) j = hd4 kd.toNat (c_get td 0 0 2) (up w1 1 y) j := fun x y => by
            have f0 : ∀ (m : Nat), m ≠ 1 → up w1 1 x m = up w1 1 y m := fun m hm => by rw [up_ne hm, up_ne hm]
            have f1 : ∀ (m : Nat), m ≠ 1 → hd1 kd.toNat (up w1 1 x) m = hd1 kd.toNat (up w1 1 y) m := fun m hm => by
              unfold hd1
              by_cases q : m = 9 + kd.toNat
              · rw [q, up_eq, up_eq, f0 _ (by omega)]
              · rw [up_ne q, up_ne q, f0 _ hm]
            have f2 : ∀ (m : Nat), m ≠ 1 → hd2 kd.toNat (c_get td 0 0 2) (up w1 1 x) m = hd2 kd.toNat (c_get td 0 0 2) (up w1 1 y) m := fun m hm => by
              unfold hd2
              by_cases q : m = 0
              · rw [q, up_eq, up_eq, f1 _ (by omega)]
              · rw [up_ne q, up_ne q, f1 _ hm]
            have f3 : ∀ (m : Nat), m ≠ 1 → hd3 kd.toNat (c_get td 0 0 2) (up w1 1 x) m = hd3 kd.toNat (c_get td 0 0 2) (up w1 1 y) m := fun m hm => by
              unfold hd3
              by_cases q : m = 4
              · rw [q, up_eq, up_eq, f2 _ (by omega)]
              · rw [up_ne q, up_ne q, f2 _ hm]
            unfold hd4
            by_cases q : j = 5 + kd.toNat
            · rw [q, up_eq, up_eq, f3 _ (by omega)]
            · rw [up_ne q, up_ne q, f3 _ qj]
          have e3 : hd4 kd.toNat (c_get td 0 0 2) (up w1 1 x) 3 = hd4 kd.toNat (c_get td 0 0 2) (up w1 1 y) 3 := by
            unfold hd4
            rw [up_ne (by omega), up_ne (by omega)]
            unfold hd3
            rw [up_ne (by omega), up_ne (by omega)]
            unfold hd2
            rw [up_ne (by omega), up_ne (by omega)]
            unfold hd1
            rw [up_ne (by omega), up_ne (by omega), up_ne (by omega), up_ne (by omega)]
          unfold hdW
          rw [up_ne (by omega), up_ne (by omega)]
          split
          · by_cases q : j = 3
            · rw [q, up_eq, up_eq, e3]
            · rw [up_ne q, up_ne q, e4 x y]
          · exact e4 x y
        rw [e _ 0]
        exact hx j a b
  exact key _ (by split <;> omega)
theorem WC_otF {ct td bk w : Nat → Int} {ρ : Nat} {C : Int} (h : WC w C) (hk : ∀ v, 0 ≤ c_liked td bk ρ v ∧ c_liked td bk ρ v ≤ 3) : ∀ {k : Nat}, WC (foldS (ot1 ct td bk ρ) w k) (C + k)
  | 0 => WC_mo h (by omega)
  | k + 1 => WC_mo (WC_ot (WC_otF h hk (k := k)) hk) (by omega)
theorem av_wC {ct td bk si g sp sk go : Nat → Int} (hK : KI ct td bk si) (hc : 0 ≤ ct 8) : WC (av_w ct td bk si g sp sk go) 21 := by
  obtain ⟨k1, k2, k3, k4⟩ := hK
  have h1 : WC (w_ini (av_beg ct td g sp) sk (c_nxt ct td sp).toNat (g 7) go) 0 := fun j a b => by
    unfold w_ini
    rw [if_neg (by omega), if_pos (by omega)]
    omega
  have kk : ∀ i : Int, 0 ≤ i → i < ((ct 8).toNat : Int) → 0 ≤ c_get td 8 i 1 ∧ c_get td 8 i 1 ≤ 3 := fun i a b => k1 i a (by omega)
  have h2 := WC_nmF (ct := ct) (ρ := (av_row ct td g sp).toNat) (c := 1) h1 kk
  have h3 := WC_nmF (ct := ct) (ρ := (av_row ct td g sp).toNat) (c := 0) h2 kk
  have h4 := WC_otF (ct := ct) (bk := bk) (ρ := (av_row ct td g sp).toNat) h3 (k3 _) (k := (c_unn ct td si (av_row ct td g sp).toNat).toNat)
  have := k4 (av_row ct td g sp).toNat
  exact WC_mo h4 (by omega)
def avR (ct td bk si : Nat → Int) (R : FS) : FS := (av_g ct td bk si R.1 R.2.1 R.2.2.1 R.2.2.2.2, up R.2.1 (c_nxt ct td R.2.1).toNat (av_w ct td bk si R.1 R.2.1 R.2.2.1 R.2.2.2.2 0), rwS R.2.2.1 (c_nxt ct td R.2.1).toNat (av_w ct td bk si R.1 R.2.1 R.2.2.1 R.2.2.2.2), av_fa ct td bk si R.1 R.2.1 R.2.2.1 R.2.2.2.1 R.2.2.2.2, gtX (av_w ct td bk si R.1 R.2.1 R.2.2.1 R.2.2.2.2))
def rsR (ct td ld : Nat → Int) (z : Int) (R : FS) : FS := (up (up (up (up R.1 4 1) 5 (c_rows ct td)) 6 0) 7 z, (fun j => if j < 2 then 0 else R.2.1 j), (fun j => if j < 8 then ld j else R.2.2.1 j), (fun j => if j < 451 then 0 else R.2.2.2.1 j), fun j => if j < 6 then 0 else R.2.2.2.2 j)
def cpR (R Q : FS) : FS := (up (up (up (up R.1 4 (Q.1 4)) 5 (Q.1 5)) 6 (Q.1 6)) 7 (Q.1 7), (fun j => if j < 2 then Q.2.1 j else R.2.1 j), (fun j => if j < 8 then Q.2.2.1 j else R.2.2.1 j), (fun j => if j < 451 then Q.2.2.2.1 j else R.2.2.2.1 j), fun j => if j < 6 then Q.2.2.2.2 j else R.2.2.2.2 j)
def RI (ct td : Nat → Int) (R : FS) : Prop :=
  (1 ≤ R.1 4 ∧ R.1 4 ≤ R.1 5 + 1 ∧ R.1 5 ≤ c_rows ct td) ∧ (∀ j, 0 ≤ R.2.1 j ∧ R.2.1 j ≤ 60000 + 22000 * (c_rows ct td - (R.1 5 - R.1 4 + 1))) ∧ (∀ j, 0 ≤ R.2.2.1 j ∧ R.2.2.1 j ≤ 9999) ∧ (0 ≤ R.1 7 ∧ R.1 7 ≤ 65536) ∧ (∀ ρ : Nat, R.1 4 ≤ ρ → (ρ : Int) ≤ R.1 5 → ∀ o, o < 11 → R.2.2.2.1 (11 * ρ + o) = 0) ∧ (∀ j, 0 ≤ R.2.2.2.1 j ∧ R.2.2.2.1 j ≤ 5000000) ∧ (∀ ρ o : Nat, 3 ≤ o → o < 11 → R.2.2.2.1 (11 * ρ + o) ≤ 21) ∧ (∀ j, 2 ≤ j → R.2.1 j = 0) ∧ ∀ j, 451 ≤ j → R.2.2.2.1 j = 0
theorem RI_av {ct td bk si : Nat → Int} {R : FS} (h : RI ct td R) (rB : ∀ j, 0 ≤ td j ∧ td j ≤ 999) (hK : KI ct td bk si) (hc : 0 ≤ ct 8) (hr : c_rows ct td ≤ 40) (hg : R.1 4 ≤ R.1 5) : RI ct td (avR ct td bk si R) := by
  obtain ⟨g, sp, sk, fa, go⟩ := R
  obtain ⟨h4, hs, hk, hz, h0, hf, ht, h2x, hfx⟩ := h
  replace h4 : 1 ≤ g 4 ∧ g 4 ≤ g 5 + 1 ∧ g 5 ≤ c_rows ct td := h4
  replace hs : ∀ j, 0 ≤ sp j ∧ sp j ≤ 60000 + 22000 * (c_rows ct td - (g 5 - g 4 + 1)) := hs
  replace hk : ∀ j, 0 ≤ sk j ∧ sk j ≤ 9999 := hk
  replace hz : 0 ≤ g 7 ∧ g 7 ≤ 65536 := hz
  replace h0 : ∀ ρ : Nat, g 4 ≤ ρ → (ρ : Int) ≤ g 5 → ∀ o, o < 11 → fa (11 * ρ + o) = 0 := h0
  replace hf : ∀ j, 0 ≤ fa j ∧ fa j ≤ 5000000 := hf
  replace ht : ∀ ρ o : Nat, 3 ≤ o → o < 11 → fa (11 * ρ + o) ≤ 21 := ht
  replace hg : g 4 ≤ g 5 := hg
  replace h2x : ∀ j, 2 ≤ j → sp j = 0 := h2x
  replace hfx : ∀ j, 451 ≤ j → fa j = 0 := hfx
  have hs5 : ∀ j, 0 ≤ sp j ∧ sp j ≤ 5000000 := fun j => by have := hs j; omega
  have hB := av_wB (bk := bk) (si := si) (g := g) (go := go) rB hK hc hs5 hk hz
  have hC := av_wC (bk := bk) (g := g) (sp := sp) (sk := sk) (go := go) hK hc
  have hb := av_begr (ct := ct) (g := g) rB hs5
  have hsp := hs (c_nxt ct td sp).toNat
  have hrow : av_row ct td g sp = g 4 ∨ av_row ct td g sp = g 5 := by unfold av_row; split <;> omega
  have hx := c_nxt_r (ct := ct) (td := td) (sp := sp)
  unfold avR
  dsimp only
  generalize hw : av_w ct td bk si g sp sk go = w at hB hC
  obtain ⟨b1, b2, b3⟩ := hB
  have hag : (av_g ct td bk si g sp sk go 4 = g 4 + 1 ∧ av_g ct td bk si g sp sk go 5 = g 5 ∧ av_row ct td g sp = g 4) ∨ (av_g ct td bk si g sp sk go 4 = g 4 ∧ av_g ct td bk si g sp sk go 5 = g 5 - 1 ∧ av_row ct td g sp = g 5) := by
    unfold av_g av_row
    dsimp only
    split
    · left
      exact ⟨up_eq, by rw [up_ne (by omega), up_ne (by omega), up_ne (by omega)], rfl⟩
    · right
      exact ⟨by rw [up_ne (by omega), up_ne (by omega), up_ne (by omega)], up_eq, rfl⟩
  have hag7 : av_g ct td bk si g sp sk go 7 = w 13 := by
    unfold av_g
    dsimp only
    rw [hw]
    split
    · rw [up_ne (by omega), up_ne (by omega), up_eq]
    · rw [up_ne (by omega), up_ne (by omega), up_eq]
  have hw8 : ∀ j, j < 9 → 0 ≤ w j ∧ w j ≤ 5000000 ∧ (1 ≤ j → w j ≤ 21) := fun j hj => by
    by_cases q : j = 0
    · rw [q]; omega
    · have := hC j (by omega) hj
      omega
  refine ⟨?_, ?_, ?_, ?_, ?_, ?_, ?_, ?_, ?_⟩
  · show 1 ≤ av_g ct td bk si g sp sk go 4 ∧ av_g ct td bk si g sp sk go 4 ≤ av_g ct td bk si g sp sk go 5 + 1 ∧ av_g ct td bk si g sp sk go 5 ≤ c_rows ct td
    omega
  · intro j
    show 0 ≤ up sp _ (w 0) j ∧ up sp _ (w 0) j ≤ 60000 + 22000 * (c_rows ct td - (av_g ct td bk si g sp sk go 5 - av_g ct td bk si g sp sk go 4 + 1))
    by_cases q : j = (c_nxt ct td sp).toNat
    · rw [q, up_eq]; omega
    · rw [up_ne q]
      have := hs j
      omega
  · intro j
    show 0 ≤ rwS sk _ w j ∧ rwS sk _ w j ≤ 9999
    unfold rwS
    split
    · exact b2 _ (by omega)
    · exact hk j
  · show 0 ≤ av_g ct td bk si g sp sk go 7 ∧ av_g ct td bk si g sp sk go 7 ≤ 65536
    rw [hag7]
    exact b3
  · intro ρ h1 h2 o ho
    show av_fa ct td bk si g sp sk fa go (11 * ρ + o) = 0
    replace h1 : av_g ct td bk si g sp sk go 4 ≤ ρ := h1
    replace h2 : (ρ : Int) ≤ av_g ct td bk si g sp sk go 5 := h2
    unfold av_fa rwX
    rw [if_neg (by omega), up_ne (by omega), up_ne (by omega)]
    exact h0 ρ (by omega) (by omega) o ho
  · intro j
    show 0 ≤ av_fa ct td bk si g sp sk fa go j ∧ av_fa ct td bk si g sp sk fa go j ≤ 5000000
    unfold av_fa
    rw [hw]
    unfold rwX
    split
    · have := hw8 (j - (11 * (av_row ct td g sp).toNat + 2)) (by omega)
      omega
    · unfold up
      split
      · omega
      · split
        · omega
        · exact hf j
  · intro ρ o h1 h2
    show av_fa ct td bk si g sp sk fa go (11 * ρ + o) ≤ 21
    unfold av_fa
    rw [hw]
    unfold rwX
    split
    · have := hw8 (11 * ρ + o - (11 * (av_row ct td g sp).toNat + 2)) (by omega)
      omega
    · rw [up_ne (by omega), up_ne (by omega)]
      exact ht ρ o h1 h2
  · intro j hj
    show up sp _ (w 0) j = 0
    rw [up_ne (by omega)]
    exact h2x j hj
  · intro j hj
    show av_fa ct td bk si g sp sk fa go j = 0
    unfold av_fa rwX
    rw [if_neg (by omega), up_ne (by omega), up_ne (by omega)]
    exact hfx j hj
theorem RI_rs {ct td ld ct' td' : Nat → Int} {z : Int} {R : FS} (h : RI ct' td' R) (rE : ∀ j, 0 ≤ ld j ∧ ld j ≤ 9999) (hr : 0 ≤ c_rows ct td) (hrr : c_rows ct td ≤ 40) (hr' : 0 ≤ c_rows ct' td' ∧ c_rows ct' td' ≤ 40) (hz : 0 ≤ z ∧ z ≤ 65536) : RI ct td (rsR ct td ld z R) := by
  obtain ⟨g, sp, sk, fa, go⟩ := R
  obtain ⟨-, -, hk, -, -, hf, ht, hs, h451⟩ := h
  replace hs : ∀ j, 2 ≤ j → sp j = 0 := hs
  replace h451 : ∀ j, 451 ≤ j → fa j = 0 := h451
  refine ⟨?_, ?_, ?_, ?_, ?_, ?_, ?_, ?_, ?_⟩
  · show 1 ≤ (up (up (up (up g 4 1) 5 (c_rows ct td)) 6 0) 7 z) 4 ∧ (up (up (up (up g 4 1) 5 (c_rows ct td)) 6 0) 7 z) 4 ≤ (up (up (up (up g 4 1) 5 (c_rows ct td)) 6 0) 7 z) 5 + 1 ∧ (up (up (up (up g 4 1) 5 (c_rows ct td)) 6 0) 7 z) 5 ≤ c_rows ct td
    rw [up_ne (by omega), up_ne (by omega), up_ne (by omega), up_eq, up_ne (by omega), up_ne (by omega), up_eq]
    omega
  · intro j
    show 0 ≤ (if j < 2 then 0 else sp j) ∧ (if j < 2 then 0 else sp j) ≤ 60000 + 22000 * (c_rows ct td - ((up (up (up (up g 4 1) 5 (c_rows ct td)) 6 0) 7 z) 5 - (up (up (up (up g 4 1) 5 (c_rows ct td)) 6 0) 7 z) 4 + 1))
    rw [up_ne (show (4 : Nat) ≠ 7 by omega), up_ne (show (4 : Nat) ≠ 6 by omega), up_ne (show (4 : Nat) ≠ 5 by omega), up_eq, up_ne (show (5 : Nat) ≠ 7 by omega), up_ne (show (5 : Nat) ≠ 6 by omega), up_eq]
    split
    · omega
    · have : sp j = 0 := hs j (by omega)
      omega
  · intro j
    show 0 ≤ (if j < 8 then ld j else sk j) ∧ (if j < 8 then ld j else sk j) ≤ 9999
    split
    · exact rE j
    · exact hk j
  · show 0 ≤ (up (up (up (up g 4 1) 5 (c_rows ct td)) 6 0) 7 z) 7 ∧ (up (up (up (up g 4 1) 5 (c_rows ct td)) 6 0) 7 z) 7 ≤ 65536
    rw [up_eq]
    exact hz
  · intro ρ _ _ o ho
    show (if 11 * ρ + o < 451 then 0 else fa (11 * ρ + o)) = 0
    split
    · rfl
    · exact h451 _ (by omega)
  · intro j
    show 0 ≤ (if j < 451 then 0 else fa j) ∧ (if j < 451 then 0 else fa j) ≤ 5000000
    split
    · omega
    · exact hf j
  · intro ρ o h1 h2
    show (if 11 * ρ + o < 451 then 0 else fa (11 * ρ + o)) ≤ 21
    split
    · omega
    · exact ht ρ o h1 h2
  · intro j hj
    show (if j < 2 then 0 else sp j) = 0
    rw [if_neg (by omega)]
    exact hs j hj
  · intro j hj
    show (if j < 451 then 0 else fa j) = 0
    rw [if_neg (by omega)]
    exact h451 j hj
theorem RI_cp {ct td : Nat → Int} {R Q : FS} (h : RI ct td R) (q : RI ct td Q) : RI ct td (cpR R Q) := by
  obtain ⟨g, sp, sk, fa, go⟩ := R
  obtain ⟨g2, sp2, sk2, fa2, go2⟩ := Q
  obtain ⟨-, -, hk, -, -, hf, ht, h2, h451⟩ := h
  obtain ⟨q4, qs, qk, qz, q0, qf, qt, q2, q451⟩ := q
  have e4 : (up (up (up (up g 4 (g2 4)) 5 (g2 5)) 6 (g2 6)) 7 (g2 7)) 4 = g2 4 := by rw [up_ne (by omega), up_ne (by omega), up_ne (by omega), up_eq]
  have e5 : (up (up (up (up g 4 (g2 4)) 5 (g2 5)) 6 (g2 6)) 7 (g2 7)) 5 = g2 5 := by rw [up_ne (by omega), up_ne (by omega), up_eq]
  have e7 : (up (up (up (up g 4 (g2 4)) 5 (g2 5)) 6 (g2 6)) 7 (g2 7)) 7 = g2 7 := up_eq
  unfold RI cpR
  dsimp only
  rw [e4, e5, e7]
  refine ⟨q4, fun j => ?_, fun j => ?_, qz, fun ρ h1 h2 o ho => ?_, fun j => ?_, fun ρ o h1 h2 => ?_, fun j hj => ?_, fun j hj => ?_⟩
  · split
    · exact qs j
    · have a := h2 j (by omega)
      have b := q2 j (by omega)
      have c := qs j
      replace a : sp j = 0 := a
      replace b : sp2 j = 0 := b
      replace c : 0 ≤ sp2 j ∧ sp2 j ≤ 60000 + 22000 * (c_rows ct td - (g2 5 - g2 4 + 1)) := c
      omega
  · split
    · exact qk j
    · exact hk j
  · split
    · exact q0 ρ h1 h2 o ho
    · exact h451 _ (by omega)
  · split
    · exact qf j
    · exact hf j
  · split
    · exact qt ρ o h1 h2
    · exact ht ρ o h1 h2
  · rw [if_neg (by omega)]; exact h2 j hj
  · rw [if_neg (by omega)]; exact h451 j hj
