/-! 61: the reference: the run, whose turn it is, belts -/
def RRel (ct td : Nat → Int) (R : FS) (b : Nat → Int) : Prop :=
  (∀ r : Nat, 1 ≤ r → (r : Int) ≤ c_rows ct td →
    (((r : Int) < R.1 4 ∨ R.1 5 < r) → b (10 * r) = R.2.2.2.1 (11 * r) ∧ b (10 * r + 1) = R.2.2.2.1 (11 * r + 1) ∧ b (10 * r + 2) = R.2.2.2.1 (11 * r + 2)) ∧
    ((R.1 4 ≤ r ∧ (r : Int) ≤ R.1 5) → b (10 * r) = -1) ∧
    b (10 * r + 3) = R.2.2.2.1 (11 * r + 3) ∧ b (10 * r + 4) = R.2.2.2.1 (11 * r + 4) ∧ b (10 * r + 5) = R.2.2.2.1 (11 * r + 5) ∧ ∀ k, k < 4 → b (10 * r + 6 + k) = R.2.2.2.1 (11 * r + 7 + k)) ∧
  (∀ t, t < 2 → b (410 + t) = R.2.1 t) ∧ (∀ t : Nat, (t : Int) < ct 5 → b (412 + t) = if c_get td 5 t 0 = 0 then R.1 4 - 1 else c_rows ct td - R.1 5) ∧
  (∀ j, j < 8 → b (414 + j) = R.2.2.1 j) ∧ b 422 = R.1 6 ∧ (∀ i, i < 6 → b (423 + i) = R.2.2.2.2 i) ∧ b 429 = R.1 7 ∧ b 430 = c_rows ct td - (R.1 5 - R.1 4 + 1)
/-- what the class's run keeps to besides -/
def RI2 (ct td : Nat → Int) (R : FS) : Prop :=
  (∀ t k : Nat, t < 2 → k < 4 → ct 2 ≤ k → R.2.2.1 (4 * t + k) = 0) ∧
  (∀ r : Nat, 1 ≤ r → (r : Int) < R.1 4 → c_get td 5 (R.2.2.2.1 (11 * r)) 0 = 0 ∧ R.2.2.2.1 (11 * r) < ct 5) ∧
  (∀ r : Nat, R.1 5 < r → (r : Int) ≤ c_rows ct td → c_get td 5 (R.2.2.2.1 (11 * r)) 0 ≠ 0 ∧ R.2.2.2.1 (11 * r) < ct 5) ∧
  (∀ r : Nat, R.2.2.2.1 (11 * r + 6) = R.2.2.2.1 (11 * r + 7) + R.2.2.2.1 (11 * r + 8) + R.2.2.2.1 (11 * r + 9) + R.2.2.2.1 (11 * r + 10)) ∧
  (∀ r o : Nat, c_rows ct td < r → o < 11 → R.2.2.2.1 (11 * r + o) = 0) ∧
  (∀ r k : Nat, k < 4 → ct 2 ≤ k → R.2.2.2.1 (11 * r + 7 + k) = 0) ∧
  (∀ r : Nat, 1 ≤ r → ((r : Int) < R.1 4 ∨ (R.1 5 < r ∧ (r : Int) ≤ c_rows ct td)) → R.2.2.2.1 (11 * r + 1) ≤ R.2.2.2.1 (11 * r + 2)) ∧
  (∀ r : Nat, 1 ≤ r → (r : Int) + 1 < R.1 4 → R.2.2.2.1 (11 * r + 2) ≤ R.2.2.2.1 (11 * (r + 1) + 1)) ∧
  (∀ r : Nat, R.1 5 < r → (r : Int) + 1 ≤ c_rows ct td → R.2.2.2.1 (11 * (r + 1) + 2) ≤ R.2.2.2.1 (11 * r + 1)) ∧
  (∀ t : Nat, (t : Int) < ct 5 → (c_get td 5 t 0 = 0 → 1 < R.1 4 → R.2.1 t = R.2.2.2.1 (11 * (R.1 4 - 1).toNat + 2)) ∧ (c_get td 5 t 0 ≠ 0 → R.1 5 < c_rows ct td → R.2.1 t = R.2.2.2.1 (11 * (R.1 5 + 1).toNat + 2)) ∧ (c_get td 5 t 0 = 0 → R.1 4 ≤ 1 → R.2.1 t = 0) ∧ (c_get td 5 t 0 ≠ 0 → c_rows ct td ≤ R.1 5 → R.2.1 t = 0))
set_option maxHeartbeats 1000000 in
set_option maxRecDepth 20000 in
theorem s_X9_isOver {l : Launch} {n : Nat} {M : jdM} {m f : Nat} {g : Nat → Int} {wd : Int} {rd : Value} {B : Nat → Nat → Int} (hX : MX M n m g wd (.ref f) rd B) {ct td bk si ld gf : Nat → Int} {A : Nat → Nat → Int} (hMF : MF M n f gf A) (hFM : FM ct td bk si ld gf A) (hsep : f + 30 < m ∨ m + 12 < f) {g3 sp sk fa go : Nat → Int} (hRR : RRel ct td (g3, sp, sk, fa, go) (B 3)) (hRI : RI ct td (g3, sp, sk, fa, go)) : Ct l yX9_isOver cX9_isOver 1 (some .boolean) rX9_isOver [.ref m] n M (fun vv n' M' => (vv = some (jI (bz (g3 5 < g3 4))) ∧ n = n' ∧ M = M') ∧ (0) ≤ (bz (g3 5 < g3 4)) ∧ (bz (g3 5 < g3 4)) ≤ 1) := by
  refine Ct_of [some (.ref m)] (by decide) (Nat.le_of_ble_eq_true rfl) rfl (fun κ hl h hR hRt hmn hn0 => ?_)
  have h : Ok κ RX9 cX9_isOver 1 (some .boolean) := h
  obtain ⟨hnm, hOm, hBm⟩ := id hX
  have hOm : M m = jdO 9 (fX9 m _ _ (.ref f) rd) := hOm
  obtain ⟨hnf, hOf, hAf⟩ := id hMF
  obtain ⟨⟨e0, e1, e2, e3, e4⟩, ⟨k5, k6, k7, k8, k9, k10, k11, k12, k13, k14, k15⟩, ⟨a2, a3, a4, a5, a6, a7, a8, a9, a10, a11, a12⟩, ⟨hlim, hLI, hends, hrt⟩, ⟨hbk, hld⟩, hc0, hc1, hc2, hc5⟩ := id hFM
  have l2 := hlim 2 (by omega)
  have l3 := hlim 3 (by omega)
  have l4 := hlim 4 (by omega)
  have l5 := hlim 5 (by omega)
  have l6 := hlim 6 (by omega)
  have l7 := hlim 7 (by omega)
  have l8 := hlim 8 (by omega)
  have l9 := hlim 9 (by omega)
  have l10 := hlim 10 (by omega)
  have l11 := hlim 11 (by omega)
  have l12 := hlim 12 (by omega)
  rw [show (jtab 0).2.2 2 = 4 from rfl] at l2
  rw [show (jtab 0).2.2 3 = 6 from rfl] at l3
  rw [show (jtab 0).2.2 4 = 6 from rfl] at l4
  rw [show (jtab 0).2.2 5 = 2 from rfl] at l5
  rw [show (jtab 0).2.2 6 = 8 from rfl] at l6
  rw [show (jtab 0).2.2 7 = 5 from rfl] at l7
  rw [show (jtab 0).2.2 8 = 6 from rfl] at l8
  rw [show (jtab 0).2.2 9 = 3 from rfl] at l9
  rw [show (jtab 0).2.2 10 = 3 from rfl] at l10
  rw [show (jtab 0).2.2 11 = 4 from rfl] at l11
  rw [show (jtab 0).2.2 12 = 4 from rfl] at l12
  have hcr : 1 ≤ c_rows ct td ∧ c_rows ct td ≤ 40 := by
    have h9 := (hLI 0 0 (by omega) (by omega) (by omega)).1 rfl
    have e9 : c_rows ct td = c_get td 0 0 0 := by unfold c_rows; rw [if_neg (by omega)]
    omega
  have hB3 : M (m + 3) = jdA 431 (B 3) := hBm 3 (by omega) (by omega)
  obtain ⟨hrw, hsc, hwk, hsk9, h422, hgt, h429, h430⟩ := id hRR
  replace hsc : ∀ t, t < 2 → B 3 (410 + t) = sp t := hsc
  replace hwk : ∀ t : Nat, (t : Int) < ct 5 → B 3 (412 + t) = if c_get td 5 t 0 = 0 then g3 4 - 1 else c_rows ct td - g3 5 := hwk
  replace hsk9 : ∀ j, j < 8 → B 3 (414 + j) = sk j := hsk9
  replace h422 : B 3 422 = g3 6 := h422
  replace h429 : B 3 429 = g3 7 := h429
  replace hgt : ∀ i, i < 6 → B 3 (423 + i) = go i := hgt
  replace h430 : B 3 430 = c_rows ct td - (g3 5 - g3 4 + 1) := h430
  obtain ⟨h4r, hsr, hkr, hzr, h0r, hfr, htr, h2r, h451r⟩ := id hRI
  replace h4r : 1 ≤ g3 4 ∧ g3 4 ≤ g3 5 + 1 ∧ g3 5 ≤ c_rows ct td := h4r
  replace hsr : ∀ j, 0 ≤ sp j ∧ sp j ≤ 60000 + 22000 * (c_rows ct td - (g3 5 - g3 4 + 1)) := hsr
  replace hkr : ∀ j, 0 ≤ sk j ∧ sk j ≤ 9999 := hkr
  replace hzr : 0 ≤ g3 7 ∧ g3 7 ≤ 65536 := hzr
  replace h0r : ∀ ρ : Nat, g3 4 ≤ ρ → (ρ : Int) ≤ g3 5 → ∀ o, o < 11 → fa (11 * ρ + o) = 0 := h0r
  replace hfr : ∀ j, 0 ≤ fa j ∧ fa j ≤ 5000000 := hfr
  refine jr_aload_n (pc := 0) h dX9_isOver_0 rfl ?_
  refine gf_X9_21 (pc := 1) h dX9_isOver_1 (by assumption) (by omega) ?_
  refine jr_sipush (pc := 4) h dX9_isOver_4 sp_430 ?_
  refine jr_iald (pc := 7) h (i := ((430 : Nat) : Int)) dX9_isOver_7 hB3 (by omega) (by omega) ?_
  rw [show (((430 : Nat) : Int)).toNat = 430 from rfl, h430]
  refine jr_aload_n (pc := 8) h dX9_isOver_8 rfl ?_
  refine gf_X9_425 (pc := 9) h dX9_isOver_9 (by assumption) (by omega) ?_
  refine gf_X9_205 (pc := 12) h dX9_isOver_12 (by assumption) (by omega) ?_
  refine jr_icmp_ne (pc := 15) h 22 dX9_isOver_15 (by decide) (by omega) (by omega) (fun c_15 => ?_) (fun c_15 => ?_)
  · skip
    refine jr_iconst (pc := 22) h dX9_isOver_22 ?_
    refine jr_iret (pc := 23) h hRt dX9_isOver_23 rfl (Nat.le_of_ble_eq_true rfl) (Nat.le_of_ble_eq_true rfl) ?_
    refine ⟨⟨ji_c ?_, rfl, rfl⟩, bz_r _⟩
    first | rw [bz_t (by omega)] | rw [bz_f (by omega)]
  · skip
    refine jr_iconst (pc := 18) h dX9_isOver_18 ?_
    refine jr_goto (pc := 19) h 23 dX9_isOver_19 (by decide) ?_
    refine jr_iret (pc := 23) h hRt dX9_isOver_23 rfl (Nat.le_of_ble_eq_true rfl) (Nat.le_of_ble_eq_true rfl) ?_
    refine ⟨⟨ji_c ?_, rfl, rfl⟩, bz_r _⟩
    first | rw [bz_t (by omega)] | rw [bz_f (by omega)]
set_option maxHeartbeats 1000000 in
set_option maxRecDepth 20000 in
theorem s_X9_isServed {l : Launch} {n : Nat} {M : jdM} {m f : Nat} {g : Nat → Int} {wd : Int} {rd : Value} {B : Nat → Nat → Int} (hX : MX M n m g wd (.ref f) rd B) {ct td bk si ld gf : Nat → Int} {A : Nat → Nat → Int} (hMF : MF M n f gf A) (hFM : FM ct td bk si ld gf A) (hsep : f + 30 < m ∨ m + 12 < f) {g3 sp sk fa go : Nat → Int} (hRR : RRel ct td (g3, sp, sk, fa, go) (B 3)) (hRI : RI ct td (g3, sp, sk, fa, go)) {x : Int} (hx : 1 ≤ x ∧ x ≤ c_rows ct td) : Ct l yX9_isServed cX9_isServed 2 (some .boolean) rX9_isServed [.ref m, jI x] n M (fun vv n' M' => (vv = some (jI (bz (x < g3 4 ∨ g3 5 < x))) ∧ n = n' ∧ M = M') ∧ (0) ≤ (bz (x < g3 4 ∨ g3 5 < x)) ∧ (bz (x < g3 4 ∨ g3 5 < x)) ≤ 1) := by
  refine Ct_of [some (.ref m), some (jI x)] (by decide) (Nat.le_of_ble_eq_true rfl) rfl (fun κ hl h hR hRt hmn hn0 => ?_)
  have h : Ok κ RX9 cX9_isServed 2 (some .boolean) := h
  obtain ⟨hnm, hOm, hBm⟩ := id hX
  have hOm : M m = jdO 9 (fX9 m _ _ (.ref f) rd) := hOm
  obtain ⟨hnf, hOf, hAf⟩ := id hMF
  obtain ⟨⟨e0, e1, e2, e3, e4⟩, ⟨k5, k6, k7, k8, k9, k10, k11, k12, k13, k14, k15⟩, ⟨a2, a3, a4, a5, a6, a7, a8, a9, a10, a11, a12⟩, ⟨hlim, hLI, hends, hrt⟩, ⟨hbk, hld⟩, hc0, hc1, hc2, hc5⟩ := id hFM
  have l2 := hlim 2 (by omega)
  have l3 := hlim 3 (by omega)
  have l4 := hlim 4 (by omega)
  have l5 := hlim 5 (by omega)
  have l6 := hlim 6 (by omega)
  have l7 := hlim 7 (by omega)
  have l8 := hlim 8 (by omega)
  have l9 := hlim 9 (by omega)
  have l10 := hlim 10 (by omega)
  have l11 := hlim 11 (by omega)
  have l12 := hlim 12 (by omega)
  rw [show (jtab 0).2.2 2 = 4 from rfl] at l2
  rw [show (jtab 0).2.2 3 = 6 from rfl] at l3
  rw [show (jtab 0).2.2 4 = 6 from rfl] at l4
  rw [show (jtab 0).2.2 5 = 2 from rfl] at l5
  rw [show (jtab 0).2.2 6 = 8 from rfl] at l6
  rw [show (jtab 0).2.2 7 = 5 from rfl] at l7
  rw [show (jtab 0).2.2 8 = 6 from rfl] at l8
  rw [show (jtab 0).2.2 9 = 3 from rfl] at l9
  rw [show (jtab 0).2.2 10 = 3 from rfl] at l10
  rw [show (jtab 0).2.2 11 = 4 from rfl] at l11
  rw [show (jtab 0).2.2 12 = 4 from rfl] at l12
  have hcr : 1 ≤ c_rows ct td ∧ c_rows ct td ≤ 40 := by
    have h9 := (hLI 0 0 (by omega) (by omega) (by omega)).1 rfl
    have e9 : c_rows ct td = c_get td 0 0 0 := by unfold c_rows; rw [if_neg (by omega)]
    omega
  have hB3 : M (m + 3) = jdA 431 (B 3) := hBm 3 (by omega) (by omega)
  obtain ⟨hrw, hsc, hwk, hsk9, h422, hgt, h429, h430⟩ := id hRR
  replace hsc : ∀ t, t < 2 → B 3 (410 + t) = sp t := hsc
  replace hwk : ∀ t : Nat, (t : Int) < ct 5 → B 3 (412 + t) = if c_get td 5 t 0 = 0 then g3 4 - 1 else c_rows ct td - g3 5 := hwk
  replace hsk9 : ∀ j, j < 8 → B 3 (414 + j) = sk j := hsk9
  replace h422 : B 3 422 = g3 6 := h422
  replace h429 : B 3 429 = g3 7 := h429
  replace hgt : ∀ i, i < 6 → B 3 (423 + i) = go i := hgt
  replace h430 : B 3 430 = c_rows ct td - (g3 5 - g3 4 + 1) := h430
  obtain ⟨h4r, hsr, hkr, hzr, h0r, hfr, htr, h2r, h451r⟩ := id hRI
  replace h4r : 1 ≤ g3 4 ∧ g3 4 ≤ g3 5 + 1 ∧ g3 5 ≤ c_rows ct td := h4r
  replace hsr : ∀ j, 0 ≤ sp j ∧ sp j ≤ 60000 + 22000 * (c_rows ct td - (g3 5 - g3 4 + 1)) := hsr
  replace hkr : ∀ j, 0 ≤ sk j ∧ sk j ≤ 9999 := hkr
  replace hzr : 0 ≤ g3 7 ∧ g3 7 ≤ 65536 := hzr
  replace h0r : ∀ ρ : Nat, g3 4 ≤ ρ → (ρ : Int) ≤ g3 5 → ∀ o, o < 11 → fa (11 * ρ + o) = 0 := h0r
  replace hfr : ∀ j, 0 ≤ fa j ∧ fa j ≤ 5000000 := hfr
  have hrx := hrw x.toNat (by omega) (by omega)
  rw [show ((x.toNat : Nat) : Int) = x by omega] at hrx
  obtain ⟨hr1, hr2, -⟩ := hrx
  replace hr1 : (x < g3 4 ∨ g3 5 < x) → B 3 (10 * x.toNat) = fa (11 * x.toNat) ∧ B 3 (10 * x.toNat + 1) = fa (11 * x.toNat + 1) ∧ B 3 (10 * x.toNat + 2) = fa (11 * x.toNat + 2) := hr1
  replace hr2 : (g3 4 ≤ x ∧ x ≤ g3 5) → B 3 (10 * x.toNat) = -1 := hr2
  have hfx := hfr (11 * x.toNat)
  have hb9 : (x < g3 4 ∨ g3 5 < x) ∧ B 3 (10 * x.toNat) = fa (11 * x.toNat) ∨ ¬ (x < g3 4 ∨ g3 5 < x) ∧ B 3 (10 * x.toNat) = -1 := by
    by_cases q : x < g3 4 ∨ g3 5 < x
    · exact Or.inl ⟨q, (hr1 q).1⟩
    · exact Or.inr ⟨q, hr2 (by omega)⟩
  refine jr_aload_n (pc := 0) h dX9_isServed_0 rfl ?_
  refine gf_X9_21 (pc := 1) h dX9_isServed_1 (by assumption) (by omega) ?_
  refine jr_bipush (pc := 4) h dX9_isServed_4 bp_10 ?_
  refine jr_iload_n (pc := 6) h dX9_isServed_6 rfl ?_
  refine jr_imul (pc := 7) h dX9_isServed_7 ?_
  refine jr_iconst (pc := 8) h dX9_isServed_8 ?_
  refine jr_iadd (pc := 9) h dX9_isServed_9 ?_
  refine jr_iald (pc := 10) h dX9_isServed_10 hB3 (by omega) (by omega) ?_
  rw [show (10 * x + 0).toNat = 10 * x.toNat by omega]
  refine jr_iconst (pc := 11) h dX9_isServed_11 ?_
  refine jr_icmp_eq (pc := 12) h 19 dX9_isServed_12 (by decide) (by omega) (by omega) (fun c_12 => ?_) (fun c_12 => ?_)
  · skip
    refine jr_iconst (pc := 19) h dX9_isServed_19 ?_
    refine jr_iret (pc := 20) h hRt dX9_isServed_20 rfl (Nat.le_of_ble_eq_true rfl) (Nat.le_of_ble_eq_true rfl) ?_
    refine ⟨⟨ji_c ?_, rfl, rfl⟩, bz_r _⟩
    first | rw [bz_t (by omega)] | rw [bz_f (by omega)]
  · skip
    refine jr_iconst (pc := 15) h dX9_isServed_15 ?_
    refine jr_goto (pc := 16) h 20 dX9_isServed_16 (by decide) ?_
    refine jr_iret (pc := 20) h hRt dX9_isServed_20 rfl (Nat.le_of_ble_eq_true rfl) (Nat.le_of_ble_eq_true rfl) ?_
    refine ⟨⟨ji_c ?_, rfl, rfl⟩, bz_r _⟩
    first | rw [bz_t (by omega)] | rw [bz_f (by omega)]
set_option maxHeartbeats 1000000 in
set_option maxRecDepth 20000 in
theorem s_X9_leftG {l : Launch} {n : Nat} {M : jdM} {m f : Nat} {g : Nat → Int} {wd : Int} {rd : Value} {B : Nat → Nat → Int} (hX : MX M n m g wd (.ref f) rd B) {ct td bk si ld gf : Nat → Int} {A : Nat → Nat → Int} (hMF : MF M n f gf A) (hFM : FM ct td bk si ld gf A) (hsep : f + 30 < m ∨ m + 12 < f) {g3 sp sk fa go : Nat → Int} (hRR : RRel ct td (g3, sp, sk, fa, go) (B 3)) (hRI : RI ct td (g3, sp, sk, fa, go)) {x y : Int} (hx : 0 ≤ x ∧ x < 2) (hy : 0 ≤ y ∧ y < 4) : Ct l yX9_leftOf cX9_leftOf 3 (some .int) rX9_leftOf [.ref m, jI x, jI y] n M (fun vv n' M' => vv = some (jI (c_left sk x y)) ∧ n = n' ∧ M = M') := by
  refine Ct_of [some (.ref m), some (jI x), some (jI y)] (by decide) (Nat.le_of_ble_eq_true rfl) rfl (fun κ hl h hR hRt hmn hn0 => ?_)
  have h : Ok κ RX9 cX9_leftOf 3 (some .int) := h
  obtain ⟨hnm, hOm, hBm⟩ := id hX
  have hOm : M m = jdO 9 (fX9 m _ _ (.ref f) rd) := hOm
  obtain ⟨hnf, hOf, hAf⟩ := id hMF
  obtain ⟨⟨e0, e1, e2, e3, e4⟩, ⟨k5, k6, k7, k8, k9, k10, k11, k12, k13, k14, k15⟩, ⟨a2, a3, a4, a5, a6, a7, a8, a9, a10, a11, a12⟩, ⟨hlim, hLI, hends, hrt⟩, ⟨hbk, hld⟩, hc0, hc1, hc2, hc5⟩ := id hFM
  have l2 := hlim 2 (by omega)
  have l3 := hlim 3 (by omega)
  have l4 := hlim 4 (by omega)
  have l5 := hlim 5 (by omega)
  have l6 := hlim 6 (by omega)
  have l7 := hlim 7 (by omega)
  have l8 := hlim 8 (by omega)
  have l9 := hlim 9 (by omega)
  have l10 := hlim 10 (by omega)
  have l11 := hlim 11 (by omega)
  have l12 := hlim 12 (by omega)
  rw [show (jtab 0).2.2 2 = 4 from rfl] at l2
  rw [show (jtab 0).2.2 3 = 6 from rfl] at l3
  rw [show (jtab 0).2.2 4 = 6 from rfl] at l4
  rw [show (jtab 0).2.2 5 = 2 from rfl] at l5
  rw [show (jtab 0).2.2 6 = 8 from rfl] at l6
  rw [show (jtab 0).2.2 7 = 5 from rfl] at l7
  rw [show (jtab 0).2.2 8 = 6 from rfl] at l8
  rw [show (jtab 0).2.2 9 = 3 from rfl] at l9
  rw [show (jtab 0).2.2 10 = 3 from rfl] at l10
  rw [show (jtab 0).2.2 11 = 4 from rfl] at l11
  rw [show (jtab 0).2.2 12 = 4 from rfl] at l12
  have hcr : 1 ≤ c_rows ct td ∧ c_rows ct td ≤ 40 := by
    have h9 := (hLI 0 0 (by omega) (by omega) (by omega)).1 rfl
    have e9 : c_rows ct td = c_get td 0 0 0 := by unfold c_rows; rw [if_neg (by omega)]
    omega
  have hB3 : M (m + 3) = jdA 431 (B 3) := hBm 3 (by omega) (by omega)
  obtain ⟨hrw, hsc, hwk, hsk9, h422, hgt, h429, h430⟩ := id hRR
  replace hsc : ∀ t, t < 2 → B 3 (410 + t) = sp t := hsc
  replace hwk : ∀ t : Nat, (t : Int) < ct 5 → B 3 (412 + t) = if c_get td 5 t 0 = 0 then g3 4 - 1 else c_rows ct td - g3 5 := hwk
  replace hsk9 : ∀ j, j < 8 → B 3 (414 + j) = sk j := hsk9
  replace h422 : B 3 422 = g3 6 := h422
  replace h429 : B 3 429 = g3 7 := h429
  replace hgt : ∀ i, i < 6 → B 3 (423 + i) = go i := hgt
  replace h430 : B 3 430 = c_rows ct td - (g3 5 - g3 4 + 1) := h430
  obtain ⟨h4r, hsr, hkr, hzr, h0r, hfr, htr, h2r, h451r⟩ := id hRI
  replace h4r : 1 ≤ g3 4 ∧ g3 4 ≤ g3 5 + 1 ∧ g3 5 ≤ c_rows ct td := h4r
  replace hsr : ∀ j, 0 ≤ sp j ∧ sp j ≤ 60000 + 22000 * (c_rows ct td - (g3 5 - g3 4 + 1)) := hsr
  replace hkr : ∀ j, 0 ≤ sk j ∧ sk j ≤ 9999 := hkr
  replace hzr : 0 ≤ g3 7 ∧ g3 7 ≤ 65536 := hzr
  replace h0r : ∀ ρ : Nat, g3 4 ≤ ρ → (ρ : Int) ≤ g3 5 → ∀ o, o < 11 → fa (11 * ρ + o) = 0 := h0r
  replace hfr : ∀ j, 0 ≤ fa j ∧ fa j ≤ 5000000 := hfr
  have h9 := hsk9 (4 * x + y).toNat (by omega)
  have e9 : B 3 (414 + 4 * x + y).toNat = c_left sk x y := by
    unfold c_left
    rw [if_pos (by omega), show (414 + 4 * x + y).toNat = 414 + (4 * x + y).toNat by omega, h9]
    congr 1
    omega
  refine jr_aload_n (pc := 0) h dX9_leftOf_0 rfl ?_
  refine gf_X9_21 (pc := 1) h dX9_leftOf_1 (by assumption) (by omega) ?_
  refine jr_sipush (pc := 4) h dX9_leftOf_4 sp_414 ?_
  refine jr_iconst (pc := 7) h dX9_leftOf_7 ?_
  refine jr_iload_n (pc := 8) h dX9_leftOf_8 rfl ?_
  refine jr_imul (pc := 9) h dX9_leftOf_9 ?_
  refine jr_iadd (pc := 10) h dX9_leftOf_10 ?_
  refine jr_iload_n (pc := 11) h dX9_leftOf_11 rfl ?_
  refine jr_iadd (pc := 12) h dX9_leftOf_12 ?_
  refine jr_iald (pc := 13) h dX9_leftOf_13 (by assumption) (by omega) (by omega) ?_
  rw [e9]
  refine jr_iret (pc := 14) h hRt dX9_leftOf_14 rfl (Nat.le_of_ble_eq_true rfl) (Nat.le_of_ble_eq_true rfl) ?_
  exact ⟨rfl, rfl, rfl⟩
set_option maxHeartbeats 1000000 in
set_option maxRecDepth 20000 in
theorem s_X9_nextTrolley {l : Launch} {n : Nat} {M : jdM} {m f : Nat} {g : Nat → Int} {wd : Int} {rd : Value} {B : Nat → Nat → Int} (hX : MX M n m g wd (.ref f) rd B) {ct td bk si ld gf : Nat → Int} {A : Nat → Nat → Int} (hMF : MF M n f gf A) (hFM : FM ct td bk si ld gf A) (hsep : f + 30 < m ∨ m + 12 < f) {g3 sp sk fa go : Nat → Int} (hRR : RRel ct td (g3, sp, sk, fa, go) (B 3)) (hRI : RI ct td (g3, sp, sk, fa, go)) : Ct l yX9_nextTrolley cX9_nextTrolley 4 (some .int) rX9_nextTrolley [.ref m] n M (fun vv n' M' => (vv = some (jI (c_nxt ct td sp)) ∧ n = n' ∧ M = M') ∧ (0) ≤ (c_nxt ct td sp) ∧ (c_nxt ct td sp) ≤ 1) := by
  refine Ct_of [some (.ref m), none, none, none] (by decide) (Nat.le_of_ble_eq_true rfl) rfl (fun κ hl h hR hRt hmn hn0 => ?_)
  have h : Ok κ RX9 cX9_nextTrolley 4 (some .int) := h
  obtain ⟨hnm, hOm, hBm⟩ := id hX
  have hOm : M m = jdO 9 (fX9 m _ _ (.ref f) rd) := hOm
  obtain ⟨hnf, hOf, hAf⟩ := id hMF
  obtain ⟨⟨e0, e1, e2, e3, e4⟩, ⟨k5, k6, k7, k8, k9, k10, k11, k12, k13, k14, k15⟩, ⟨a2, a3, a4, a5, a6, a7, a8, a9, a10, a11, a12⟩, ⟨hlim, hLI, hends, hrt⟩, ⟨hbk, hld⟩, hc0, hc1, hc2, hc5⟩ := id hFM
  have l2 := hlim 2 (by omega)
  have l3 := hlim 3 (by omega)
  have l4 := hlim 4 (by omega)
  have l5 := hlim 5 (by omega)
  have l6 := hlim 6 (by omega)
  have l7 := hlim 7 (by omega)
  have l8 := hlim 8 (by omega)
  have l9 := hlim 9 (by omega)
  have l10 := hlim 10 (by omega)
  have l11 := hlim 11 (by omega)
  have l12 := hlim 12 (by omega)
  rw [show (jtab 0).2.2 2 = 4 from rfl] at l2
  rw [show (jtab 0).2.2 3 = 6 from rfl] at l3
  rw [show (jtab 0).2.2 4 = 6 from rfl] at l4
  rw [show (jtab 0).2.2 5 = 2 from rfl] at l5
  rw [show (jtab 0).2.2 6 = 8 from rfl] at l6
  rw [show (jtab 0).2.2 7 = 5 from rfl] at l7
  rw [show (jtab 0).2.2 8 = 6 from rfl] at l8
  rw [show (jtab 0).2.2 9 = 3 from rfl] at l9
  rw [show (jtab 0).2.2 10 = 3 from rfl] at l10
  rw [show (jtab 0).2.2 11 = 4 from rfl] at l11
  rw [show (jtab 0).2.2 12 = 4 from rfl] at l12
  have hcr : 1 ≤ c_rows ct td ∧ c_rows ct td ≤ 40 := by
    have h9 := (hLI 0 0 (by omega) (by omega) (by omega)).1 rfl
    have e9 : c_rows ct td = c_get td 0 0 0 := by unfold c_rows; rw [if_neg (by omega)]
    omega
  have hB3 : M (m + 3) = jdA 431 (B 3) := hBm 3 (by omega) (by omega)
  obtain ⟨hrw, hsc, hwk, hsk9, h422, hgt, h429, h430⟩ := id hRR
  replace hsc : ∀ t, t < 2 → B 3 (410 + t) = sp t := hsc
  replace hwk : ∀ t : Nat, (t : Int) < ct 5 → B 3 (412 + t) = if c_get td 5 t 0 = 0 then g3 4 - 1 else c_rows ct td - g3 5 := hwk
  replace hsk9 : ∀ j, j < 8 → B 3 (414 + j) = sk j := hsk9
  replace h422 : B 3 422 = g3 6 := h422
  replace h429 : B 3 429 = g3 7 := h429
  replace hgt : ∀ i, i < 6 → B 3 (423 + i) = go i := hgt
  replace h430 : B 3 430 = c_rows ct td - (g3 5 - g3 4 + 1) := h430
  obtain ⟨h4r, hsr, hkr, hzr, h0r, hfr, htr, h2r, h451r⟩ := id hRI
  replace h4r : 1 ≤ g3 4 ∧ g3 4 ≤ g3 5 + 1 ∧ g3 5 ≤ c_rows ct td := h4r
  replace hsr : ∀ j, 0 ≤ sp j ∧ sp j ≤ 60000 + 22000 * (c_rows ct td - (g3 5 - g3 4 + 1)) := hsr
  replace hkr : ∀ j, 0 ≤ sk j ∧ sk j ≤ 9999 := hkr
  replace hzr : 0 ≤ g3 7 ∧ g3 7 ≤ 65536 := hzr
  replace h0r : ∀ ρ : Nat, g3 4 ≤ ρ → (ρ : Int) ≤ g3 5 → ∀ o, o < 11 → fa (11 * ρ + o) = 0 := h0r
  replace hfr : ∀ j, 0 ≤ fa j ∧ fa j ≤ 5000000 := hfr
  have hd01 : ct 5 < 2 ∨ c_get td 5 0 0 ≠ c_get td 5 1 0 := by
    by_cases q : ct 5 < 2
    · exact Or.inl q
    · exact Or.inr (hends 0 1 (by omega) (by omega) (by omega))
  have g50 := a5 0 (by omega)
  have h50 := ((hLI 5 0 (by omega) (by omega) (by omega)).2.2.2.2.2.1 rfl).1
  have r50 := c_getr hrt 5 0 0
  have r51 := c_getr hrt 5 1 0
  have s0 := hsc 0 (by omega)
  have s1 := hsc 1 (by omega)
  have sr0 := hsr 0
  have sr1 := hsr 1
  have hA8 : M (f + 8) = jdA 2 (A 8) := hAf 8 (by omega) (by omega)
  refine jr_iconst (pc := 0) h dX9_nextTrolley_0 ?_
  refine jr_istore_n (pc := 1) h [_, _, _, _] dX9_nextTrolley_1 (by decide) rfl ?_
  refine jr_iconst (pc := 2) h dX9_nextTrolley_2 ?_
  refine jr_istore_n (pc := 3) h [_, _, _, _] dX9_nextTrolley_3 (by decide) rfl ?_
  refine jr_iload_n (pc := 4) h dX9_nextTrolley_4 rfl ?_
  refine jr_aload_n (pc := 5) h dX9_nextTrolley_5 rfl ?_
  refine gf_X9_425 (pc := 6) h dX9_nextTrolley_6 (by assumption) (by omega) ?_
  refine gf_X9_214 (pc := 9) h dX9_nextTrolley_9 (by assumption) (by omega) ?_
  skip
  refine jr_icmp_ge (pc := 12) h 65 dX9_nextTrolley_12 (by decide) (by omega) (by omega) (fun c_12 => ?_) (fun c_12 => ?_)
  · skip
    refine jr_iload_n (pc := 65) h dX9_nextTrolley_65 rfl ?_
    refine jr_iret (pc := 66) h hRt dX9_nextTrolley_66 rfl (Nat.le_of_ble_eq_true rfl) (Nat.le_of_ble_eq_true rfl) ?_
    have ev := c_nxt_r (ct := ct) (td := td) (sp := sp)
    refine ⟨⟨ji_c ?_, rfl, rfl⟩, ev⟩
    unfold c_nxt
    first
    | (rw [if_pos (by omega)])
    | (rw [if_neg (by omega), if_pos (by omega), if_pos (by omega)])
    | (rw [if_neg (by omega), if_pos (by omega), if_neg (by omega)])
    | (rw [if_neg (by omega), if_neg (by omega), if_pos (by omega)])
    | (rw [if_neg (by omega), if_neg (by omega), if_neg (by omega)])
  · skip
    have g51 := (a5 1 (by omega)).1
    have h51 := ((hLI 5 1 (by omega) (by omega) (by omega)).2.2.2.2.2.1 rfl).1
    have g51b : A 8 1 = c_get td 5 1 0 := g51
    refine jr_aload_n (pc := 15) h dX9_nextTrolley_15 rfl ?_
    refine gf_X9_21 (pc := 16) h dX9_nextTrolley_16 (by assumption) (by omega) ?_
    refine jr_sipush (pc := 19) h dX9_nextTrolley_19 sp_410 ?_
    refine jr_iload_n (pc := 22) h dX9_nextTrolley_22 rfl ?_
    refine jr_iadd (pc := 23) h dX9_nextTrolley_23 ?_
    refine jr_iald (pc := 24) h (i := ((411 : Nat) : Int)) dX9_nextTrolley_24 hB3 (by omega) (by omega) ?_
    rw [show (((411 : Nat) : Int)).toNat = 410 + 1 from rfl, s1]
    refine jr_aload_n (pc := 25) h dX9_nextTrolley_25 rfl ?_
    refine gf_X9_21 (pc := 26) h dX9_nextTrolley_26 (by assumption) (by omega) ?_
    refine jr_sipush (pc := 29) h dX9_nextTrolley_29 sp_410 ?_
    refine jr_iload_n (pc := 32) h dX9_nextTrolley_32 rfl ?_
    refine jr_iadd (pc := 33) h dX9_nextTrolley_33 ?_
    refine jr_iald (pc := 34) h (i := ((410 : Nat) : Int)) dX9_nextTrolley_34 hB3 (by omega) (by omega) ?_
    rw [show (((410 : Nat) : Int)).toNat = 410 + 0 from rfl, s0]
    refine jr_isub (pc := 35) h dX9_nextTrolley_35 ?_
    refine jr_istore_n (pc := 36) h [_, _, _, _] dX9_nextTrolley_36 (by decide) rfl ?_
    refine jr_iload_n (pc := 37) h dX9_nextTrolley_37 rfl ?_
    refine jr_if_lt (pc := 38) h 57 dX9_nextTrolley_38 (by decide) (by omega) (fun c_38 => ?_) (fun c_38 => ?_)
    · skip
      refine jr_iload_n (pc := 57) h dX9_nextTrolley_57 rfl ?_
      refine jr_istore_n (pc := 58) h [_, _, _, _] dX9_nextTrolley_58 (by decide) rfl ?_
      refine jr_iinc (pc := 59) h [_, _, _, _] dX9_nextTrolley_59 (by decide) rfl rfl ?_
      rw [show ((1 : Int) + 1) = 2 from rfl]
      refine jr_goto (pc := 62) h 4 dX9_nextTrolley_62 (by decide) ?_
      refine jr_iload_n (pc := 4) h dX9_nextTrolley_4 rfl ?_
      refine jr_aload_n (pc := 5) h dX9_nextTrolley_5 rfl ?_
      refine gf_X9_425 (pc := 6) h dX9_nextTrolley_6 (by assumption) (by omega) ?_
      refine gf_X9_214 (pc := 9) h dX9_nextTrolley_9 (by assumption) (by omega) ?_
      refine jr_icmp_ge (pc := 12) h 65 dX9_nextTrolley_12 (by decide) (by omega) (by omega) (fun _ => ?_) (fun c => absurd c (by omega))
      refine jr_iload_n (pc := 65) h dX9_nextTrolley_65 rfl ?_
      refine jr_iret (pc := 66) h hRt dX9_nextTrolley_66 rfl (Nat.le_of_ble_eq_true rfl) (Nat.le_of_ble_eq_true rfl) ?_
      have ev := c_nxt_r (ct := ct) (td := td) (sp := sp)
      refine ⟨⟨ji_c ?_, rfl, rfl⟩, ev⟩
      unfold c_nxt
      first
      | (rw [if_pos (by omega)])
      | (rw [if_neg (by omega), if_pos (by omega), if_pos (by omega)])
      | (rw [if_neg (by omega), if_pos (by omega), if_neg (by omega)])
      | (rw [if_neg (by omega), if_neg (by omega), if_pos (by omega)])
      | (rw [if_neg (by omega), if_neg (by omega), if_neg (by omega)])
    · skip
      refine jr_iload_n (pc := 41) h dX9_nextTrolley_41 rfl ?_
      refine jr_if_ne (pc := 42) h 59 dX9_nextTrolley_42 (by decide) (by omega) (fun c_42 => ?_) (fun c_42 => ?_)
      · skip
        refine jr_iinc (pc := 59) h [_, _, _, _] dX9_nextTrolley_59 (by decide) rfl rfl ?_
        rw [show ((1 : Int) + 1) = 2 from rfl]
        refine jr_goto (pc := 62) h 4 dX9_nextTrolley_62 (by decide) ?_
        refine jr_iload_n (pc := 4) h dX9_nextTrolley_4 rfl ?_
        refine jr_aload_n (pc := 5) h dX9_nextTrolley_5 rfl ?_
        refine gf_X9_425 (pc := 6) h dX9_nextTrolley_6 (by assumption) (by omega) ?_
        refine gf_X9_214 (pc := 9) h dX9_nextTrolley_9 (by assumption) (by omega) ?_
        refine jr_icmp_ge (pc := 12) h 65 dX9_nextTrolley_12 (by decide) (by omega) (by omega) (fun _ => ?_) (fun c => absurd c (by omega))
        refine jr_iload_n (pc := 65) h dX9_nextTrolley_65 rfl ?_
        refine jr_iret (pc := 66) h hRt dX9_nextTrolley_66 rfl (Nat.le_of_ble_eq_true rfl) (Nat.le_of_ble_eq_true rfl) ?_
        have ev := c_nxt_r (ct := ct) (td := td) (sp := sp)
        refine ⟨⟨ji_c ?_, rfl, rfl⟩, ev⟩
        unfold c_nxt
        first
        | (rw [if_pos (by omega)])
        | (rw [if_neg (by omega), if_pos (by omega), if_pos (by omega)])
        | (rw [if_neg (by omega), if_pos (by omega), if_neg (by omega)])
        | (rw [if_neg (by omega), if_neg (by omega), if_pos (by omega)])
        | (rw [if_neg (by omega), if_neg (by omega), if_neg (by omega)])
      · skip
        refine jr_aload_n (pc := 45) h dX9_nextTrolley_45 rfl ?_
        refine gf_X9_425 (pc := 46) h dX9_nextTrolley_46 (by assumption) (by omega) ?_
        refine gf_X9_326 (pc := 49) h dX9_nextTrolley_49 (by assumption) (by omega) ?_
        refine jr_iload_n (pc := 52) h dX9_nextTrolley_52 rfl ?_
        skip
        refine jr_iald (pc := 53) h dX9_nextTrolley_53 (by assumption) (by omega) (by omega) ?_
        rw [show A 8 (Int.toNat 1) = c_get td 5 1 0 from g51b]
        refine jr_if_ne (pc := 54) h 59 dX9_nextTrolley_54 (by decide) (by omega) (fun c_54 => ?_) (fun c_54 => ?_)
        · skip
          refine jr_iinc (pc := 59) h [_, _, _, _] dX9_nextTrolley_59 (by decide) rfl rfl ?_
          rw [show ((1 : Int) + 1) = 2 from rfl]
          refine jr_goto (pc := 62) h 4 dX9_nextTrolley_62 (by decide) ?_
          refine jr_iload_n (pc := 4) h dX9_nextTrolley_4 rfl ?_
          refine jr_aload_n (pc := 5) h dX9_nextTrolley_5 rfl ?_
          refine gf_X9_425 (pc := 6) h dX9_nextTrolley_6 (by assumption) (by omega) ?_
          refine gf_X9_214 (pc := 9) h dX9_nextTrolley_9 (by assumption) (by omega) ?_
          refine jr_icmp_ge (pc := 12) h 65 dX9_nextTrolley_12 (by decide) (by omega) (by omega) (fun _ => ?_) (fun c => absurd c (by omega))
          refine jr_iload_n (pc := 65) h dX9_nextTrolley_65 rfl ?_
          refine jr_iret (pc := 66) h hRt dX9_nextTrolley_66 rfl (Nat.le_of_ble_eq_true rfl) (Nat.le_of_ble_eq_true rfl) ?_
          have ev := c_nxt_r (ct := ct) (td := td) (sp := sp)
          refine ⟨⟨ji_c ?_, rfl, rfl⟩, ev⟩
          unfold c_nxt
          first
          | (rw [if_pos (by omega)])
          | (rw [if_neg (by omega), if_pos (by omega), if_pos (by omega)])
          | (rw [if_neg (by omega), if_pos (by omega), if_neg (by omega)])
          | (rw [if_neg (by omega), if_neg (by omega), if_pos (by omega)])
          | (rw [if_neg (by omega), if_neg (by omega), if_neg (by omega)])
        · skip
          refine jr_iload_n (pc := 57) h dX9_nextTrolley_57 rfl ?_
          refine jr_istore_n (pc := 58) h [_, _, _, _] dX9_nextTrolley_58 (by decide) rfl ?_
          refine jr_iinc (pc := 59) h [_, _, _, _] dX9_nextTrolley_59 (by decide) rfl rfl ?_
          rw [show ((1 : Int) + 1) = 2 from rfl]
          refine jr_goto (pc := 62) h 4 dX9_nextTrolley_62 (by decide) ?_
          refine jr_iload_n (pc := 4) h dX9_nextTrolley_4 rfl ?_
          refine jr_aload_n (pc := 5) h dX9_nextTrolley_5 rfl ?_
          refine gf_X9_425 (pc := 6) h dX9_nextTrolley_6 (by assumption) (by omega) ?_
          refine gf_X9_214 (pc := 9) h dX9_nextTrolley_9 (by assumption) (by omega) ?_
          refine jr_icmp_ge (pc := 12) h 65 dX9_nextTrolley_12 (by decide) (by omega) (by omega) (fun _ => ?_) (fun c => absurd c (by omega))
          refine jr_iload_n (pc := 65) h dX9_nextTrolley_65 rfl ?_
          refine jr_iret (pc := 66) h hRt dX9_nextTrolley_66 rfl (Nat.le_of_ble_eq_true rfl) (Nat.le_of_ble_eq_true rfl) ?_
          have ev := c_nxt_r (ct := ct) (td := td) (sp := sp)
          refine ⟨⟨ji_c ?_, rfl, rfl⟩, ev⟩
          unfold c_nxt
          first
          | (rw [if_pos (by omega)])
          | (rw [if_neg (by omega), if_pos (by omega), if_pos (by omega)])
          | (rw [if_neg (by omega), if_pos (by omega), if_neg (by omega)])
          | (rw [if_neg (by omega), if_neg (by omega), if_pos (by omega)])
          | (rw [if_neg (by omega), if_neg (by omega), if_neg (by omega)])
set_option maxHeartbeats 1000000 in
set_option maxRecDepth 20000 in
theorem s_X9_nextRow {l : Launch} {n : Nat} {M : jdM} {m f : Nat} {g : Nat → Int} {wd : Int} {rd : Value} {B : Nat → Nat → Int} (hX : MX M n m g wd (.ref f) rd B) {ct td bk si ld gf : Nat → Int} {A : Nat → Nat → Int} (hMF : MF M n f gf A) (hFM : FM ct td bk si ld gf A) (hsep : f + 30 < m ∨ m + 12 < f) {g3 sp sk fa go : Nat → Int} (hRR : RRel ct td (g3, sp, sk, fa, go) (B 3)) (hRI : RI ct td (g3, sp, sk, fa, go)) {x : Int} (hx : 0 ≤ x ∧ x < ct 5) (hno : g3 4 ≤ g3 5) : Ct l yX9_nextRow cX9_nextRow 4 (some .int) rX9_nextRow [.ref m, jI x] n M (fun vv n' M' => vv = some (jI (if c_get td 5 x 0 = 0 then g3 4 else g3 5)) ∧ n = n' ∧ M = M') := by
  refine Ct_of [some (.ref m), some (jI x), none, none] (by decide) (Nat.le_of_ble_eq_true rfl) rfl (fun κ hl h hR hRt hmn hn0 => ?_)
  have h : Ok κ RX9 cX9_nextRow 4 (some .int) := h
  obtain ⟨hnm, hOm, hBm⟩ := id hX
  have hOm : M m = jdO 9 (fX9 m _ _ (.ref f) rd) := hOm
  obtain ⟨hnf, hOf, hAf⟩ := id hMF
  obtain ⟨⟨e0, e1, e2, e3, e4⟩, ⟨k5, k6, k7, k8, k9, k10, k11, k12, k13, k14, k15⟩, ⟨a2, a3, a4, a5, a6, a7, a8, a9, a10, a11, a12⟩, ⟨hlim, hLI, hends, hrt⟩, ⟨hbk, hld⟩, hc0, hc1, hc2, hc5⟩ := id hFM
  have l2 := hlim 2 (by omega)
  have l3 := hlim 3 (by omega)
  have l4 := hlim 4 (by omega)
  have l5 := hlim 5 (by omega)
  have l6 := hlim 6 (by omega)
  have l7 := hlim 7 (by omega)
  have l8 := hlim 8 (by omega)
  have l9 := hlim 9 (by omega)
  have l10 := hlim 10 (by omega)
  have l11 := hlim 11 (by omega)
  have l12 := hlim 12 (by omega)
  rw [show (jtab 0).2.2 2 = 4 from rfl] at l2
  rw [show (jtab 0).2.2 3 = 6 from rfl] at l3
  rw [show (jtab 0).2.2 4 = 6 from rfl] at l4
  rw [show (jtab 0).2.2 5 = 2 from rfl] at l5
  rw [show (jtab 0).2.2 6 = 8 from rfl] at l6
  rw [show (jtab 0).2.2 7 = 5 from rfl] at l7
  rw [show (jtab 0).2.2 8 = 6 from rfl] at l8
  rw [show (jtab 0).2.2 9 = 3 from rfl] at l9
  rw [show (jtab 0).2.2 10 = 3 from rfl] at l10
  rw [show (jtab 0).2.2 11 = 4 from rfl] at l11
  rw [show (jtab 0).2.2 12 = 4 from rfl] at l12
  have hcr : 1 ≤ c_rows ct td ∧ c_rows ct td ≤ 40 := by
    have h9 := (hLI 0 0 (by omega) (by omega) (by omega)).1 rfl
    have e9 : c_rows ct td = c_get td 0 0 0 := by unfold c_rows; rw [if_neg (by omega)]
    omega
  have hB3 : M (m + 3) = jdA 431 (B 3) := hBm 3 (by omega) (by omega)
  obtain ⟨hrw, hsc, hwk, hsk9, h422, hgt, h429, h430⟩ := id hRR
  replace hsc : ∀ t, t < 2 → B 3 (410 + t) = sp t := hsc
  replace hwk : ∀ t : Nat, (t : Int) < ct 5 → B 3 (412 + t) = if c_get td 5 t 0 = 0 then g3 4 - 1 else c_rows ct td - g3 5 := hwk
  replace hsk9 : ∀ j, j < 8 → B 3 (414 + j) = sk j := hsk9
  replace h422 : B 3 422 = g3 6 := h422
  replace h429 : B 3 429 = g3 7 := h429
  replace hgt : ∀ i, i < 6 → B 3 (423 + i) = go i := hgt
  replace h430 : B 3 430 = c_rows ct td - (g3 5 - g3 4 + 1) := h430
  obtain ⟨h4r, hsr, hkr, hzr, h0r, hfr, htr, h2r, h451r⟩ := id hRI
  replace h4r : 1 ≤ g3 4 ∧ g3 4 ≤ g3 5 + 1 ∧ g3 5 ≤ c_rows ct td := h4r
  replace hsr : ∀ j, 0 ≤ sp j ∧ sp j ≤ 60000 + 22000 * (c_rows ct td - (g3 5 - g3 4 + 1)) := hsr
  replace hkr : ∀ j, 0 ≤ sk j ∧ sk j ≤ 9999 := hkr
  replace hzr : 0 ≤ g3 7 ∧ g3 7 ≤ 65536 := hzr
  replace h0r : ∀ ρ : Nat, g3 4 ≤ ρ → (ρ : Int) ≤ g3 5 → ∀ o, o < 11 → fa (11 * ρ + o) = 0 := h0r
  replace hfr : ∀ j, 0 ≤ fa j ∧ fa j ≤ 5000000 := hfr
  have g5 := (a5 x.toNat (by omega)).1
  rw [show ((x.toNat : Nat) : Int) = x by omega] at g5
  have r50 := c_getr hrt 5 x 0
  have hA8 : M (f + 8) = jdA 2 (A 8) := hAf 8 (by omega) (by omega)
  refine jr_aload_n (pc := 0) h dX9_nextRow_0 rfl ?_
  refine gf_X9_425 (pc := 1) h dX9_nextRow_1 (by assumption) (by omega) ?_
  refine gf_X9_326 (pc := 4) h dX9_nextRow_4 (by assumption) (by omega) ?_
  refine jr_iload_n (pc := 7) h dX9_nextRow_7 rfl ?_
  refine jr_iald (pc := 8) h dX9_nextRow_8 (by assumption) (by omega) (by omega) ?_
  refine jr_if_ne (pc := 9) h 16 dX9_nextRow_9 (by decide) (by omega) (fun c_9 => ?_) (fun c_9 => ?_)
  · skip
    have hfr : ¬ c_get td 5 x 0 = 0 := by omega
    refine jr_iconst (pc := 16) h dX9_nextRow_16 ?_
    refine jr_istore_n (pc := 17) h [_, _, _, _] dX9_nextRow_17 (by decide) rfl ?_
    refine jr_iload_n (pc := 18) h dX9_nextRow_18 rfl ?_
    refine jr_if_eq (pc := 19) h 26 dX9_nextRow_19 (by decide) (by omega) (fun _ => ?_) (fun c => absurd rfl c)
    refine jr_aload_n (pc := 26) h dX9_nextRow_26 rfl ?_
    refine gf_X9_425 (pc := 27) h dX9_nextRow_27 (by assumption) (by omega) ?_
    refine gf_X9_205 (pc := 30) h dX9_nextRow_30 (by assumption) (by omega) ?_
    rw [show fX8 f gf 0 = jI (c_rows ct td) from congrArg (fun z => jI z) e0]
    refine jr_istore_n (pc := 33) h [_, _, _, _] dX9_nextRow_33 (by decide) rfl ?_
    have loop : ∀ (dq : Nat) (i : Int), (g3 5 ≤ i ∧ i ≤ c_rows ct td) → (i).toNat < dq → J κ 4 0 0 n 34 [some (.ref m), some (jI x), some (jI 0), some (jI i)] [] M := by
      intro dq
      induction dq with
      | zero => intro i hi hd; omega
      | succ dq ih =>
        intro i hi hd
        refine jr_aload_n (pc := 34) h dX9_nextRow_34 rfl ?_
        refine jr_iload_n (pc := 35) h dX9_nextRow_35 rfl ?_
        refine iv_X9_469 (pc := 36) h hl hR dX9_nextRow_36 ⟨(Nat.le_of_ble_eq_true rfl), (Nat.le_of_ble_eq_true rfl), (Nat.le_of_ble_eq_true rfl), (Nat.le_of_ble_eq_true rfl)⟩ (Nat.le_of_ble_eq_true rfl) (by assumption) (by omega) (s_X9_isServed hX hMF hFM hsep hRR hRI (by omega)) (fun v_36 n_36 M_36 hn_36 hp => ?_)
        obtain ⟨⟨rfl, rfl, rfl⟩, gr_36⟩ := hp
        refine jr_if_eq (pc := 39) h 57 dX9_nextRow_39 (by decide) (by omega) (fun c_39 => ?_) (fun c_39 => ?_)
        · first | have d_39 := bz_0.mp c_39 | have d_39 := bz_1.mp c_39 | skip
          refine jr_iload_n (pc := 57) h dX9_nextRow_57 rfl ?_
          refine jr_iret (pc := 58) h hRt dX9_nextRow_58 rfl (Nat.le_of_ble_eq_true rfl) (Nat.le_of_ble_eq_true rfl) ?_
          refine ⟨ji_c ?_, rfl, rfl⟩
          rw [if_neg hfr]
          omega
        · first | have d_39 := bz_0.mp c_39 | have d_39 := bz_1.mp c_39 | skip
          refine jr_iload_n (pc := 42) h dX9_nextRow_42 rfl ?_
          refine jr_iload_n (pc := 43) h dX9_nextRow_43 rfl ?_
          refine jr_if_eq (pc := 44) h 51 dX9_nextRow_44 (by decide) (by omega) (fun _ => ?_) (fun c => absurd rfl c)
          refine jr_iconst (pc := 51) h dX9_nextRow_51 ?_
          refine jr_iadd (pc := 52) h dX9_nextRow_52 ?_
          refine jr_istore_n (pc := 53) h [_, _, _, _] dX9_nextRow_53 (by decide) rfl ?_
          refine jr_goto (pc := 54) h 34 dX9_nextRow_54 (by decide) ?_
          refine ih _ (by omega) (by omega)
    exact loop _ _ (by omega) (Nat.lt_succ_self _)
  · skip
    have hfr : c_get td 5 x 0 = 0 := by omega
    refine jr_iconst (pc := 12) h dX9_nextRow_12 ?_
    refine jr_goto (pc := 13) h 17 dX9_nextRow_13 (by decide) ?_
    refine jr_istore_n (pc := 17) h [_, _, _, _] dX9_nextRow_17 (by decide) rfl ?_
    refine jr_iload_n (pc := 18) h dX9_nextRow_18 rfl ?_
    refine jr_if_eq (pc := 19) h 26 dX9_nextRow_19 (by decide) (by omega) (fun c => absurd c (by decide)) (fun _ => ?_)
    refine jr_iconst (pc := 22) h dX9_nextRow_22 ?_
    refine jr_goto (pc := 23) h 33 dX9_nextRow_23 (by decide) ?_
    skip
    refine jr_istore_n (pc := 33) h [_, _, _, _] dX9_nextRow_33 (by decide) rfl ?_
    have loop : ∀ (dq : Nat) (i : Int), (1 ≤ i ∧ i ≤ g3 4) → (50 - i).toNat < dq → J κ 4 0 0 n 34 [some (.ref m), some (jI x), some (jI 1), some (jI i)] [] M := by
      intro dq
      induction dq with
      | zero => intro i hi hd; omega
      | succ dq ih =>
        intro i hi hd
        refine jr_aload_n (pc := 34) h dX9_nextRow_34 rfl ?_
        refine jr_iload_n (pc := 35) h dX9_nextRow_35 rfl ?_
        refine iv_X9_469 (pc := 36) h hl hR dX9_nextRow_36 ⟨(Nat.le_of_ble_eq_true rfl), (Nat.le_of_ble_eq_true rfl), (Nat.le_of_ble_eq_true rfl), (Nat.le_of_ble_eq_true rfl)⟩ (Nat.le_of_ble_eq_true rfl) (by assumption) (by omega) (s_X9_isServed hX hMF hFM hsep hRR hRI (by omega)) (fun v_36 n_36 M_36 hn_36 hp => ?_)
        obtain ⟨⟨rfl, rfl, rfl⟩, gr_36⟩ := hp
        refine jr_if_eq (pc := 39) h 57 dX9_nextRow_39 (by decide) (by omega) (fun c_39 => ?_) (fun c_39 => ?_)
        · first | have d_39 := bz_0.mp c_39 | have d_39 := bz_1.mp c_39 | skip
          refine jr_iload_n (pc := 57) h dX9_nextRow_57 rfl ?_
          refine jr_iret (pc := 58) h hRt dX9_nextRow_58 rfl (Nat.le_of_ble_eq_true rfl) (Nat.le_of_ble_eq_true rfl) ?_
          refine ⟨ji_c ?_, rfl, rfl⟩
          rw [if_pos hfr]
          omega
        · first | have d_39 := bz_0.mp c_39 | have d_39 := bz_1.mp c_39 | skip
          refine jr_iload_n (pc := 42) h dX9_nextRow_42 rfl ?_
          refine jr_iload_n (pc := 43) h dX9_nextRow_43 rfl ?_
          refine jr_if_eq (pc := 44) h 51 dX9_nextRow_44 (by decide) (by omega) (fun c => absurd c (by decide)) (fun _ => ?_)
          refine jr_iconst (pc := 47) h dX9_nextRow_47 ?_
          refine jr_goto (pc := 48) h 52 dX9_nextRow_48 (by decide) ?_
          refine jr_iadd (pc := 52) h dX9_nextRow_52 ?_
          refine jr_istore_n (pc := 53) h [_, _, _, _] dX9_nextRow_53 (by decide) rfl ?_
          refine jr_goto (pc := 54) h 34 dX9_nextRow_54 (by decide) ?_
          refine ih _ (by omega) (by omega)
    exact loop _ _ (by omega) (Nat.lt_succ_self _)
