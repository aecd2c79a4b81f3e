/-! 68: the reference: what a run says -/
theorem RR_f {ct td b : Nat → Int} {R : FS} {x y : Int} (h : RRel ct td R b) (hr : c_rows ct td ≤ 40) (hx : 1 ≤ x ∧ x ≤ c_rows ct td) (hy : 0 ≤ y ∧ y < 6) (hs : (x < R.1 4 ∨ R.1 5 < x) ∨ 3 ≤ y) : b (10 * x + y).toNat = c_fact R.2.2.2.1 x y := by
  obtain ⟨r, rfl⟩ : ∃ r : Nat, x = (r : Int) := ⟨x.toNat, by omega⟩
  obtain ⟨k, rfl⟩ : ∃ k : Nat, y = (k : Int) := ⟨y.toNat, by omega⟩
  obtain ⟨p1, p2, p3, p4, p5, p6⟩ := h.1 r (by omega) hx.2
  unfold c_fact
  rw [if_pos (by omega), show (10 * (r : Int) + k).toNat = 10 * r + k by omega, show ((r : Int) * 11 + k).toNat = 11 * r + k by omega]
  match k, hy, hs with
  | 0, _, hs => exact (p1 (by omega)).1
  | 1, _, hs => exact (p1 (by omega)).2.1
  | 2, _, hs => exact (p1 (by omega)).2.2
  | 3, _, _ => exact p3
  | 4, _, _ => exact p4
  | 5, _, _ => exact p5
  | k + 6, hy, _ => omega
theorem RR_t {ct td b : Nat → Int} {R : FS} {x y : Int} (h : RRel ct td R b) (hr : c_rows ct td ≤ 40) (hx : 1 ≤ x ∧ x ≤ c_rows ct td) (hy : 0 ≤ y ∧ y < 4) : b (10 * x + 6 + y).toNat = c_fact R.2.2.2.1 x (7 + y) := by
  obtain ⟨p1, p2, p3, p4, p5, p6⟩ := h.1 x.toNat (by omega) (by omega)
  unfold c_fact
  rw [if_pos (by omega), show (10 * x + 6 + y).toNat = 10 * x.toNat + 6 + y.toNat by omega, show (x * 11 + (7 + y)).toNat = 11 * x.toNat + 7 + y.toNat by omega]
  exact p6 _ (by omega)
theorem cf_b {ct td : Nat → Int} {R : FS} {x y : Int} (h : RI ct td R) (hy : 3 ≤ y ∧ y < 11) : 0 ≤ c_fact R.2.2.2.1 x y ∧ c_fact R.2.2.2.1 x y ≤ 21 := by
  unfold c_fact
  obtain ⟨-, -, -, -, -, hf, ht, -⟩ := h
  split
  · refine ⟨(hf _).1, ?_⟩
    by_cases q : 0 ≤ x
    · rw [show (x * 11 + y).toNat = 11 * x.toNat + y.toNat by omega]
      exact ht _ _ (by omega) (by omega)
    · omega
  · omega
theorem cf_t {ct td : Nat → Int} {R : FS} (h2 : RI2 ct td R) (hc : 1 ≤ ct 2 ∧ ct 2 ≤ 4) {x : Int} (hx : 0 ≤ x ∧ x ≤ 40) : sumZ (fun k => c_fact R.2.2.2.1 x (7 + k)) (ct 2).toNat = c_fact R.2.2.2.1 x 6 := by
  obtain ⟨-, -, -, j4, -, j6, -⟩ := h2
  have e : ∀ y : Nat, y < 11 → c_fact R.2.2.2.1 x y = R.2.2.2.1 (11 * x.toNat + y) := fun y hy => by
    unfold c_fact
    rw [if_pos (by omega), show (x * 11 + y).toNat = 11 * x.toNat + y by omega]
  have q6 : c_fact R.2.2.2.1 x 6 = R.2.2.2.1 (11 * x.toNat + 6) := e 6 (by omega)
  have q7 : c_fact R.2.2.2.1 x 7 = R.2.2.2.1 (11 * x.toNat + 7) := e 7 (by omega)
  have q8 : c_fact R.2.2.2.1 x 8 = R.2.2.2.1 (11 * x.toNat + 8) := e 8 (by omega)
  have q9 : c_fact R.2.2.2.1 x 9 = R.2.2.2.1 (11 * x.toNat + 9) := e 9 (by omega)
  have q10 : c_fact R.2.2.2.1 x 10 = R.2.2.2.1 (11 * x.toNat + 10) := e 10 (by omega)
  have h4 := j4 x.toNat
  have z : ∀ k : Nat, k < 4 → ct 2 ≤ k → R.2.2.2.1 (11 * x.toNat + (7 + k)) = 0 := fun k a b => by
    rw [← Nat.add_assoc]; exact j6 _ k a b
  have hcs : ct 2 = 1 ∨ ct 2 = 2 ∨ ct 2 = 3 ∨ ct 2 = 4 := by omega
  rcases hcs with c | c | c | c
  · have z1 : R.2.2.2.1 (11 * x.toNat + 8) = 0 := z 1 (by omega) (by omega)
    have z2 : R.2.2.2.1 (11 * x.toNat + 9) = 0 := z 2 (by omega) (by omega)
    have z3 : R.2.2.2.1 (11 * x.toNat + 10) = 0 := z 3 (by omega) (by omega)
    rw [c]
    show 0 + c_fact R.2.2.2.1 x 7 = _
    omega
  · have z2 : R.2.2.2.1 (11 * x.toNat + 9) = 0 := z 2 (by omega) (by omega)
    have z3 : R.2.2.2.1 (11 * x.toNat + 10) = 0 := z 3 (by omega) (by omega)
    rw [c]
    show 0 + c_fact R.2.2.2.1 x 7 + c_fact R.2.2.2.1 x 8 = _
    omega
  · have z3 : R.2.2.2.1 (11 * x.toNat + 10) = 0 := z 3 (by omega) (by omega)
    rw [c]
    show 0 + c_fact R.2.2.2.1 x 7 + c_fact R.2.2.2.1 x 8 + c_fact R.2.2.2.1 x 9 = _
    omega
  · rw [c]
    show 0 + c_fact R.2.2.2.1 x 7 + c_fact R.2.2.2.1 x 8 + c_fact R.2.2.2.1 x 9 + c_fact R.2.2.2.1 x 10 = _
    omega
theorem sumZ_tail {f : Int → Int} {k : Nat} : ∀ {n : Nat}, k ≤ n → (∀ i : Int, k ≤ i → i < n → f i = 0) → sumZ f n = sumZ f k
  | 0, h, _ => by rw [show k = 0 by omega]
  | n + 1, h, hz => by
    by_cases q : k = n + 1
    · rw [q]
    · rw [sumZ, hz n (by omega) (by omega), sumZ_tail (n := n) (by omega) (fun i a b => hz i a (by omega))]
      omega
theorem cf_sum {ct td : Nat → Int} {R : FS} (h2 : RI2 ct td R) (hr : 0 ≤ c_rows ct td ∧ c_rows ct td ≤ 40) {y : Int} (hy : 0 ≤ y ∧ y < 11) : c_sumf R.2.2.2.1 y = sumZ (fun i => c_fact R.2.2.2.1 (1 + i) y) (c_rows ct td).toNat := by
  unfold c_sumf
  refine sumZ_tail (by omega) (fun i a b => ?_)
  obtain ⟨-, -, -, -, j5, -⟩ := h2
  unfold c_fact
  rw [if_pos (by omega), show ((1 + i) * 11 + y).toNat = 11 * (1 + i).toNat + y.toNat by omega]
  exact j5 _ _ (by omega) (by omega)
set_option maxHeartbeats 1000000 in
set_option maxRecDepth 20000 in
theorem s_X9_traysIn {l : Launch} {n : Nat} {M : jdM} {m f : Nat} {g : Nat → Int} {wd : Int} {rd : Value} {B : Nat → Nat → Int} (hX : MX M n m g wd (.ref f) rd B) {ct td bk si ld gf : Nat → Int} {A : Nat → Nat → Int} (hMF : MF M n f gf A) (hFM : FM ct td bk si ld gf A) (hsep : f + 30 < m ∨ m + 12 < f) {g3 sp sk fa go : Nat → Int} (hRR : RRel ct td (g3, sp, sk, fa, go) (B 3)) (hRI : RI ct td (g3, sp, sk, fa, go)) (hR2 : RI2 ct td (g3, sp, sk, fa, go)) {x : Int} (hx : 1 ≤ x ∧ x ≤ c_rows ct td) : Ct l yX9_traysIn cX9_traysIn 4 (some .int) rX9_traysIn [.ref m, jI x] n M (fun vv n' M' => (vv = some (jI (c_fact fa x 6)) ∧ n = n' ∧ M = M') ∧ (0) ≤ (c_fact fa x 6) ∧ (c_fact fa x 6) ≤ 84) := by
  refine Ct_of [some (.ref m), some (jI x), none, none] (by decide) (Nat.le_of_ble_eq_true rfl) rfl (fun κ hl h hR hRt hmn hn0 => ?_)
  have h : Ok κ RX9 cX9_traysIn 4 (some .int) := h
  obtain ⟨hnm, hOm, hBm⟩ := id hX
  have hOm : M m = jdO 9 (fX9 m _ _ (.ref f) rd) := hOm
  obtain ⟨hnf, hOf, hAf⟩ := id hMF
  obtain ⟨⟨e0, e1, e2, e3, e4⟩, ⟨k5, k6, k7, k8, k9, k10, k11, k12, k13, k14, k15⟩, ⟨a2, a3, a4, a5, a6, a7, a8, a9, a10, a11, a12⟩, ⟨hlim, hLI, hends, hrt⟩, ⟨hbk, hld⟩, hc0, hc1, hc2, hc5⟩ := id hFM
  have l2 := hlim 2 (by omega)
  have l3 := hlim 3 (by omega)
  have l4 := hlim 4 (by omega)
  have l5 := hlim 5 (by omega)
  have l6 := hlim 6 (by omega)
  have l7 := hlim 7 (by omega)
  have l8 := hlim 8 (by omega)
  have l9 := hlim 9 (by omega)
  have l10 := hlim 10 (by omega)
  have l11 := hlim 11 (by omega)
  have l12 := hlim 12 (by omega)
  rw [show (jtab 0).2.2 2 = 4 from rfl] at l2
  rw [show (jtab 0).2.2 3 = 6 from rfl] at l3
  rw [show (jtab 0).2.2 4 = 6 from rfl] at l4
  rw [show (jtab 0).2.2 5 = 2 from rfl] at l5
  rw [show (jtab 0).2.2 6 = 8 from rfl] at l6
  rw [show (jtab 0).2.2 7 = 5 from rfl] at l7
  rw [show (jtab 0).2.2 8 = 6 from rfl] at l8
  rw [show (jtab 0).2.2 9 = 3 from rfl] at l9
  rw [show (jtab 0).2.2 10 = 3 from rfl] at l10
  rw [show (jtab 0).2.2 11 = 4 from rfl] at l11
  rw [show (jtab 0).2.2 12 = 4 from rfl] at l12
  have hcr : 1 ≤ c_rows ct td ∧ c_rows ct td ≤ 40 := by
    have h9 := (hLI 0 0 (by omega) (by omega) (by omega)).1 rfl
    have e9 : c_rows ct td = c_get td 0 0 0 := by unfold c_rows; rw [if_neg (by omega)]
    omega
  have hB3 : M (m + 3) = jdA 431 (B 3) := hBm 3 (by omega) (by omega)
  obtain ⟨hrw, hsc, hwk, hsk9, h422, hgt, h429, h430⟩ := id hRR
  replace hsc : ∀ t, t < 2 → B 3 (410 + t) = sp t := hsc
  replace hwk : ∀ t : Nat, (t : Int) < ct 5 → B 3 (412 + t) = if c_get td 5 t 0 = 0 then g3 4 - 1 else c_rows ct td - g3 5 := hwk
  replace hsk9 : ∀ j, j < 8 → B 3 (414 + j) = sk j := hsk9
  replace h422 : B 3 422 = g3 6 := h422
  replace h429 : B 3 429 = g3 7 := h429
  replace hgt : ∀ i, i < 6 → B 3 (423 + i) = go i := hgt
  replace h430 : B 3 430 = c_rows ct td - (g3 5 - g3 4 + 1) := h430
  obtain ⟨h4r, hsr, hkr, hzr, h0r, hfr, htr, h2r, h451r⟩ := id hRI
  replace h4r : 1 ≤ g3 4 ∧ g3 4 ≤ g3 5 + 1 ∧ g3 5 ≤ c_rows ct td := h4r
  replace hsr : ∀ j, 0 ≤ sp j ∧ sp j ≤ 60000 + 22000 * (c_rows ct td - (g3 5 - g3 4 + 1)) := hsr
  replace hkr : ∀ j, 0 ≤ sk j ∧ sk j ≤ 9999 := hkr
  replace hzr : 0 ≤ g3 7 ∧ g3 7 ≤ 65536 := hzr
  replace h0r : ∀ ρ : Nat, g3 4 ≤ ρ → (ρ : Int) ≤ g3 5 → ∀ o, o < 11 → fa (11 * ρ + o) = 0 := h0r
  replace hfr : ∀ j, 0 ≤ fa j ∧ fa j ≤ 5000000 := hfr
  refine jr_iconst (pc := 0) h dX9_traysIn_0 ?_
  refine jr_istore_n (pc := 1) h [_, _, _, _] dX9_traysIn_1 (by decide) rfl ?_
  refine jr_iconst (pc := 2) h dX9_traysIn_2 ?_
  refine jr_istore_n (pc := 3) h [_, _, _, _] dX9_traysIn_3 (by decide) rfl ?_
  have loop : ∀ (dq : Nat) (v i : Int), (0 ≤ i ∧ i ≤ ct 2) → (0 ≤ v ∧ v ≤ 21 * i) → (v = sumZ (fun k => c_fact fa x (7 + k)) i.toNat) → (6 - i).toNat < dq → J κ 4 0 0 n 4 [some (.ref m), some (jI x), some (jI v), some (jI i)] [] M := by
    intro dq
    induction dq with
    | zero => intro v i hi hvb hv hd; omega
    | succ dq ih =>
      intro v i hi hvb hv hd
      refine jr_iload_n (pc := 4) h dX9_traysIn_4 rfl ?_
      refine jr_aload_n (pc := 5) h dX9_traysIn_5 rfl ?_
      refine gf_X9_425 (pc := 6) h dX9_traysIn_6 (by assumption) (by omega) ?_
      refine gf_X9_211 (pc := 9) h dX9_traysIn_9 (by assumption) (by omega) ?_
      refine jr_icmp_ge (pc := 12) h 38 dX9_traysIn_12 (by decide) (by omega) (by omega) (fun c_12 => ?_) (fun c_12 => ?_)
      · skip
        refine jr_iload_n (pc := 38) h dX9_traysIn_38 rfl ?_
        refine jr_iret (pc := 39) h hRt dX9_traysIn_39 rfl (Nat.le_of_ble_eq_true rfl) (Nat.le_of_ble_eq_true rfl) ?_
        have e9 : c_fact fa x 6 = v := by
          rw [hv, show i.toNat = (ct 2).toNat by omega]
          exact (cf_t (R := (g3, sp, sk, fa, go)) hR2 (by omega) (by omega)).symm
        rw [e9]
        exact ⟨⟨rfl, rfl, rfl⟩, by omega⟩
      · skip
        refine jr_iload_n (pc := 15) h dX9_traysIn_15 rfl ?_
        refine jr_aload_n (pc := 16) h dX9_traysIn_16 rfl ?_
        refine gf_X9_21 (pc := 17) h dX9_traysIn_17 (by assumption) (by omega) ?_
        refine jr_bipush (pc := 20) h dX9_traysIn_20 bp_10 ?_
        refine jr_iload_n (pc := 22) h dX9_traysIn_22 rfl ?_
        refine jr_imul (pc := 23) h dX9_traysIn_23 ?_
        refine jr_bipush (pc := 24) h dX9_traysIn_24 bp_6 ?_
        refine jr_iadd (pc := 26) h dX9_traysIn_26 ?_
        refine jr_iload_n (pc := 27) h dX9_traysIn_27 rfl ?_
        refine jr_iadd (pc := 28) h dX9_traysIn_28 ?_
        refine jr_iald (pc := 29) h dX9_traysIn_29 hB3 (by omega) (by omega) ?_
        have q8 := cf_b (x := x) (y := 7 + i) hRI (by omega)
        rw [RR_t hRR (by omega) hx (by omega)]
        replace q8 : 0 ≤ c_fact fa x (7 + i) ∧ c_fact fa x (7 + i) ≤ 21 := q8
        show J _ _ _ _ _ _ _ (jI (c_fact fa x (7 + i)) :: _) _
        refine jr_iadd (pc := 30) h dX9_traysIn_30 ?_
        refine jr_istore_n (pc := 31) h [_, _, _, _] dX9_traysIn_31 (by decide) rfl ?_
        refine jr_iinc (pc := 32) h [_, _, _, _] dX9_traysIn_32 (by decide) rfl rfl ?_
        refine jr_goto (pc := 35) h 4 dX9_traysIn_35 (by decide) ?_
        refine ih _ _ (by omega) (by omega) ?_ (by omega)
        rw [sumZ_s (by omega), ← hv]
  exact loop _ _ _ (by omega) (by omega) rfl (Nat.lt_succ_self _)
set_option maxHeartbeats 1000000 in
set_option maxRecDepth 20000 in
theorem s_X9_served {l : Launch} {n : Nat} {M : jdM} {m : Nat} {g : Nat → Int} {w : Int} {fl rd : Value} {B : Nat → Nat → Int} (hX : MX M n m g w fl rd B) {ct td bk si ld : Nat → Int} (hFX : FX M n m fl ct td bk si ld) {x y : Int} (hx : -2147483648 ≤ x ∧ x < 2147483648) (hy : -2147483648 ≤ y ∧ y < 2147483648)  {g3 sp sk fa go : Nat → Int} (hRR : RRel ct td (g3, sp, sk, fa, go) (B 3)) (hRI : RI ct td (g3, sp, sk, fa, go)) (hR2 : RI2 ct td (g3, sp, sk, fa, go)) : Ct l yX9_served cX9_served 3 (some .int) rX9_served [.ref m, jI x, jI y] n M (fun vv n' M' => (vv = some (jI (x_served ct td g3 fa x y).1) ∧ n = n') ∧ MX M' n m (rg g (x_served ct td g3 fa x y).2) w fl rd B ∧ fr (MXf m) M M') := by
  refine Ct_of [some (.ref m), some (jI x), some (jI y)] (by decide) (Nat.le_of_ble_eq_true rfl) rfl (fun κ hl h hR hRt hmn hn0 => ?_)
  have h : Ok κ RX9 cX9_served 3 (some .int) := h
  obtain ⟨hnm, hOm, hBm⟩ := id hX
  have hOm : M m = jdO 9 (fX9 m _ _ fl rd) := hOm
  refine jr_aload_n (pc := 0) h dX9_served_0 rfl ?_
  refine jr_iconst (pc := 1) h dX9_served_1 ?_
  refine pf_X9_52 (pc := 2) h dX9_served_2 hOm (by omega) ?_
  refine jm_gen (fun M2 hM2 => ?_)
  rw [fX9_0] at hM2
  have hX := MX_o hX hM2
  have f9 : fr (MXf m) _ M2 := fr_up hM2 ⟨by omega, by omega⟩
  obtain ⟨hnm, hOm, hBm⟩ := id hX
  have f1 := f9
  have hFX := FX_fr hFX f9
  refine jr_aload_n (pc := 5) h dX9_served_5 rfl ?_
  refine jr_iload_n (pc := 6) h dX9_served_6 rfl ?_
  refine iv_X9_434 (pc := 7) h hl hR dX9_served_7 ⟨(Nat.le_of_ble_eq_true rfl), (Nat.le_of_ble_eq_true rfl), (Nat.le_of_ble_eq_true rfl), (Nat.le_of_ble_eq_true rfl)⟩ (Nat.le_of_ble_eq_true rfl) (by assumption) (by omega) (s_X9_isRow hX hFX (by omega)) (fun v_7 n_7 M_7 hn_7 hp => ?_)
  obtain ⟨⟨rfl, rfl, rfl⟩, gr_7⟩ := hp
  refine jr_if_eq (pc := 10) h 23 dX9_served_10 (by decide) (by omega) (fun c_10 => ?_) (fun c_10 => ?_)
  · first | have d_10 := bz_0.mp c_10 | have d_10 := bz_1.mp c_10 | skip
    refine jr_aload_n (pc := 23) h dX9_served_23 rfl ?_
    refine jr_iconst (pc := 24) h dX9_served_24 ?_
    refine iv_X9_58 (pc := 25) h hl hR dX9_served_25 ⟨(Nat.le_of_ble_eq_true rfl), (Nat.le_of_ble_eq_true rfl), (Nat.le_of_ble_eq_true rfl), (Nat.le_of_ble_eq_true rfl)⟩ (Nat.le_of_ble_eq_true rfl) (by assumption) (by omega) (s_X9_refused hX) (fun v_25 n_25 M_25 hn_25 hp => ?_)
    obtain ⟨⟨rfl, rfl⟩, hX, f9⟩ := hp
    have f1 := fr_tr f1 f9
    obtain ⟨hnm, hOm, hBm⟩ := id hX
    refine jr_iret (pc := 28) h hRt dX9_served_28 rfl (Nat.le_of_ble_eq_true rfl) (Nat.le_of_ble_eq_true rfl) ?_
    refine lfA9 ?_ hX f1
    unfold x_served
    (repeat' split) <;> first | rfl | (exfalso; omega) | contradiction
  · first | have d_10 := bz_0.mp c_10 | have d_10 := bz_1.mp c_10 | skip
    refine jr_iload_n (pc := 13) h dX9_served_13 rfl ?_
    refine jr_iconst (pc := 14) h dX9_served_14 ?_
    refine jr_bipush (pc := 15) h dX9_served_15 bp_6 ?_
    refine iv_X9_130 (pc := 17) h hl hR dX9_served_17 ⟨(Nat.le_of_ble_eq_true rfl), (Nat.le_of_ble_eq_true rfl), (Nat.le_of_ble_eq_true rfl), (Nat.le_of_ble_eq_true rfl)⟩ (Nat.le_of_ble_eq_true rfl) (s_X9_in (by omega) (by omega) (by omega)) (fun v_17 n_17 M_17 hn_17 hp => ?_)
    obtain ⟨⟨rfl, rfl, rfl⟩, gr_17⟩ := hp
    refine jr_if_ne (pc := 20) h 29 dX9_served_20 (by decide) (by omega) (fun c_20 => ?_) (fun c_20 => ?_)
    · first | have d_20 := bz_0.mp c_20 | have d_20 := bz_1.mp c_20 | skip
      have hr00 := fun (hz : ∀ j, ct j = 0) => rows0 (td := td) hz
      rcases hFX with ⟨rfl, hz⟩ | ⟨f, gf, A, rfl, hsep, hMF, hFM⟩
      · exfalso
        have z2 := hz 2
        have z5 := hz 5
        have zr := hr00 hz
        omega
      obtain ⟨hnf, hOf, hAf⟩ := id hMF
      obtain ⟨⟨e0, e1, e2, e3, e4⟩, ⟨k5, k6, k7, k8, k9, k10, k11, k12, k13, k14, k15⟩, ⟨a2, a3, a4, a5, a6, a7, a8, a9, a10, a11, a12⟩, ⟨hlim, hLI, hends, hrt⟩, ⟨hbk, hld⟩, hc0, hc1, hc2, hc5⟩ := id hFM
      have l2 := hlim 2 (by omega)
      have l3 := hlim 3 (by omega)
      have l4 := hlim 4 (by omega)
      have l5 := hlim 5 (by omega)
      have l6 := hlim 6 (by omega)
      have l7 := hlim 7 (by omega)
      have l8 := hlim 8 (by omega)
      have l9 := hlim 9 (by omega)
      have l10 := hlim 10 (by omega)
      have l11 := hlim 11 (by omega)
      have l12 := hlim 12 (by omega)
      rw [show (jtab 0).2.2 2 = 4 from rfl] at l2
      rw [show (jtab 0).2.2 3 = 6 from rfl] at l3
      rw [show (jtab 0).2.2 4 = 6 from rfl] at l4
      rw [show (jtab 0).2.2 5 = 2 from rfl] at l5
      rw [show (jtab 0).2.2 6 = 8 from rfl] at l6
      rw [show (jtab 0).2.2 7 = 5 from rfl] at l7
      rw [show (jtab 0).2.2 8 = 6 from rfl] at l8
      rw [show (jtab 0).2.2 9 = 3 from rfl] at l9
      rw [show (jtab 0).2.2 10 = 3 from rfl] at l10
      rw [show (jtab 0).2.2 11 = 4 from rfl] at l11
      rw [show (jtab 0).2.2 12 = 4 from rfl] at l12
      have hcr : 1 ≤ c_rows ct td ∧ c_rows ct td ≤ 40 := by
        have h9 := (hLI 0 0 (by omega) (by omega) (by omega)).1 rfl
        have e9 : c_rows ct td = c_get td 0 0 0 := by unfold c_rows; rw [if_neg (by omega)]
        omega
      have hB3 : M2 (m + 3) = jdA 431 (B 3) := hBm 3 (by omega) (by omega)
      refine jr_aload_n (pc := 29) h dX9_served_29 rfl ?_
      refine jr_iload_n (pc := 30) h dX9_served_30 rfl ?_
      refine iv_X9_469 (pc := 31) h hl hR dX9_served_31 ⟨(Nat.le_of_ble_eq_true rfl), (Nat.le_of_ble_eq_true rfl), (Nat.le_of_ble_eq_true rfl), (Nat.le_of_ble_eq_true rfl)⟩ (Nat.le_of_ble_eq_true rfl) (by assumption) (by omega) (s_X9_isServed hX hMF hFM hsep hRR hRI (by omega)) (fun v_31 n_31 M_31 hn_31 hp => ?_)
      obtain ⟨⟨rfl, rfl, rfl⟩, gr_31⟩ := hp
      refine jr_if_ne (pc := 34) h 44 dX9_served_34 (by decide) (by omega) (fun c_34 => ?_) (fun c_34 => ?_)
      · first | have d_34 := bz_0.mp c_34 | have d_34 := bz_1.mp c_34 | skip
        refine jr_aload_n (pc := 44) h dX9_served_44 rfl ?_
        refine jr_iload_n (pc := 45) h dX9_served_45 rfl ?_
        refine jr_bipush (pc := 46) h dX9_served_46 bp_6 ?_
        refine jr_icmp_ge (pc := 48) h 65 dX9_served_48 (by decide) (by omega) (by omega) (fun c_48 => ?_) (fun c_48 => ?_)
        · first | have d_48 := bz_0.mp c_48 | have d_48 := bz_1.mp c_48 | skip
          have hy6 : y = 6 := by omega
          subst hy6
          refine jr_aload_n (pc := 65) h dX9_served_65 rfl ?_
          refine jr_iload_n (pc := 66) h dX9_served_66 rfl ?_
          refine iv_X9_519 (pc := 67) h hl hR dX9_served_67 ⟨(Nat.le_of_ble_eq_true rfl), (Nat.le_of_ble_eq_true rfl), (Nat.le_of_ble_eq_true rfl), (Nat.le_of_ble_eq_true rfl)⟩ (Nat.le_of_ble_eq_true rfl) (by assumption) (by omega) (s_X9_traysIn hX hMF hFM hsep hRR hRI hR2 (by omega)) (fun v_67 n_67 M_67 hn_67 hp => ?_)
          obtain ⟨⟨rfl, rfl, rfl⟩, gr_67⟩ := hp
          refine iv_X9_62 (pc := 70) h hl hR dX9_served_70 ⟨(Nat.le_of_ble_eq_true rfl), (Nat.le_of_ble_eq_true rfl), (Nat.le_of_ble_eq_true rfl), (Nat.le_of_ble_eq_true rfl)⟩ (Nat.le_of_ble_eq_true rfl) (by assumption) (by omega) (s_X9_done hX) (fun v_70 n_70 M_70 hn_70 hp => ?_)
          obtain ⟨⟨rfl, rfl⟩, hX, f9⟩ := hp
          have f1 := fr_tr f1 f9
          obtain ⟨hnm, hOm, hBm⟩ := id hX
          refine jr_iret (pc := 73) h hRt dX9_served_73 rfl (Nat.le_of_ble_eq_true rfl) (Nat.le_of_ble_eq_true rfl) ?_
          refine lfA9 ?_ hX f1
          unfold x_served
          (repeat' split) <;> first | rfl | (exfalso; omega) | contradiction
        · first | have d_48 := bz_0.mp c_48 | have d_48 := bz_1.mp c_48 | skip
          refine jr_aload_n (pc := 51) h dX9_served_51 rfl ?_
          refine gf_X9_21 (pc := 52) h dX9_served_52 (by assumption) (by omega) ?_
          refine jr_bipush (pc := 55) h dX9_served_55 bp_10 ?_
          refine jr_iload_n (pc := 57) h dX9_served_57 rfl ?_
          refine jr_imul (pc := 58) h dX9_served_58 ?_
          refine jr_iload_n (pc := 59) h dX9_served_59 rfl ?_
          refine jr_iadd (pc := 60) h dX9_served_60 ?_
          refine jr_iald (pc := 61) h dX9_served_61 hB3 (by omega) (by omega) ?_
          rw [RR_f hRR (by omega) (by omega) (by omega) (Or.inl (by show x < g3 4 ∨ g3 5 < x; omega))]
          refine jr_goto (pc := 62) h 70 dX9_served_62 (by decide) ?_
          refine iv_X9_62 (pc := 70) h hl hR dX9_served_70 ⟨(Nat.le_of_ble_eq_true rfl), (Nat.le_of_ble_eq_true rfl), (Nat.le_of_ble_eq_true rfl), (Nat.le_of_ble_eq_true rfl)⟩ (Nat.le_of_ble_eq_true rfl) (by assumption) (by omega) (s_X9_done hX) (fun v_70 n_70 M_70 hn_70 hp => ?_)
          obtain ⟨⟨rfl, rfl⟩, hX, f9⟩ := hp
          have f1 := fr_tr f1 f9
          obtain ⟨hnm, hOm, hBm⟩ := id hX
          refine jr_iret (pc := 73) h hRt dX9_served_73 rfl (Nat.le_of_ble_eq_true rfl) (Nat.le_of_ble_eq_true rfl) ?_
          refine lfA9 ?_ hX f1
          unfold x_served
          (repeat' split) <;> first | rfl | (exfalso; omega) | contradiction
      · first | have d_34 := bz_0.mp c_34 | have d_34 := bz_1.mp c_34 | skip
        refine jr_aload_n (pc := 37) h dX9_served_37 rfl ?_
        refine jr_bipush (pc := 38) h dX9_served_38 bp_6 ?_
        refine iv_X9_58 (pc := 40) h hl hR dX9_served_40 ⟨(Nat.le_of_ble_eq_true rfl), (Nat.le_of_ble_eq_true rfl), (Nat.le_of_ble_eq_true rfl), (Nat.le_of_ble_eq_true rfl)⟩ (Nat.le_of_ble_eq_true rfl) (by assumption) (by omega) (s_X9_refused hX) (fun v_40 n_40 M_40 hn_40 hp => ?_)
        obtain ⟨⟨rfl, rfl⟩, hX, f9⟩ := hp
        have f1 := fr_tr f1 f9
        obtain ⟨hnm, hOm, hBm⟩ := id hX
        refine jr_iret (pc := 43) h hRt dX9_served_43 rfl (Nat.le_of_ble_eq_true rfl) (Nat.le_of_ble_eq_true rfl) ?_
        refine lfA9 ?_ hX f1
        unfold x_served
        (repeat' split) <;> first | rfl | (exfalso; omega) | contradiction
    · first | have d_20 := bz_0.mp c_20 | have d_20 := bz_1.mp c_20 | skip
      refine jr_aload_n (pc := 23) h dX9_served_23 rfl ?_
      refine jr_iconst (pc := 24) h dX9_served_24 ?_
      refine iv_X9_58 (pc := 25) h hl hR dX9_served_25 ⟨(Nat.le_of_ble_eq_true rfl), (Nat.le_of_ble_eq_true rfl), (Nat.le_of_ble_eq_true rfl), (Nat.le_of_ble_eq_true rfl)⟩ (Nat.le_of_ble_eq_true rfl) (by assumption) (by omega) (s_X9_refused hX) (fun v_25 n_25 M_25 hn_25 hp => ?_)
      obtain ⟨⟨rfl, rfl⟩, hX, f9⟩ := hp
      have f1 := fr_tr f1 f9
      obtain ⟨hnm, hOm, hBm⟩ := id hX
      refine jr_iret (pc := 28) h hRt dX9_served_28 rfl (Nat.le_of_ble_eq_true rfl) (Nat.le_of_ble_eq_true rfl) ?_
      refine lfA9 ?_ hX f1
      unfold x_served
      (repeat' split) <;> first | rfl | (exfalso; omega) | contradiction
set_option maxHeartbeats 1000000 in
set_option maxRecDepth 20000 in
theorem s_X9_trays {l : Launch} {n : Nat} {M : jdM} {m : Nat} {g : Nat → Int} {w : Int} {fl rd : Value} {B : Nat → Nat → Int} (hX : MX M n m g w fl rd B) {ct td bk si ld : Nat → Int} (hFX : FX M n m fl ct td bk si ld) {x y : Int} (hx : -2147483648 ≤ x ∧ x < 2147483648) (hy : -2147483648 ≤ y ∧ y < 2147483648)  {g3 sp sk fa go : Nat → Int} (hRR : RRel ct td (g3, sp, sk, fa, go) (B 3)) (hRI : RI ct td (g3, sp, sk, fa, go)) (hR2 : RI2 ct td (g3, sp, sk, fa, go)) : Ct l yX9_trays cX9_trays 3 (some .int) rX9_trays [.ref m, jI x, jI y] n M (fun vv n' M' => (vv = some (jI (x_trays ct td g3 fa x y).1) ∧ n = n') ∧ MX M' n m (rg g (x_trays ct td g3 fa x y).2) w fl rd B ∧ fr (MXf m) M M') := by
  refine Ct_of [some (.ref m), some (jI x), some (jI y)] (by decide) (Nat.le_of_ble_eq_true rfl) rfl (fun κ hl h hR hRt hmn hn0 => ?_)
  have h : Ok κ RX9 cX9_trays 3 (some .int) := h
  obtain ⟨hnm, hOm, hBm⟩ := id hX
  have hOm : M m = jdO 9 (fX9 m _ _ fl rd) := hOm
  refine jr_aload_n (pc := 0) h dX9_trays_0 rfl ?_
  refine jr_iconst (pc := 1) h dX9_trays_1 ?_
  refine pf_X9_52 (pc := 2) h dX9_trays_2 hOm (by omega) ?_
  refine jm_gen (fun M2 hM2 => ?_)
  rw [fX9_0] at hM2
  have hX := MX_o hX hM2
  have f9 : fr (MXf m) _ M2 := fr_up hM2 ⟨by omega, by omega⟩
  obtain ⟨hnm, hOm, hBm⟩ := id hX
  have f1 := f9
  have hFX := FX_fr hFX f9
  refine jr_aload_n (pc := 5) h dX9_trays_5 rfl ?_
  refine jr_iload_n (pc := 6) h dX9_trays_6 rfl ?_
  refine iv_X9_434 (pc := 7) h hl hR dX9_trays_7 ⟨(Nat.le_of_ble_eq_true rfl), (Nat.le_of_ble_eq_true rfl), (Nat.le_of_ble_eq_true rfl), (Nat.le_of_ble_eq_true rfl)⟩ (Nat.le_of_ble_eq_true rfl) (by assumption) (by omega) (s_X9_isRow hX hFX (by omega)) (fun v_7 n_7 M_7 hn_7 hp => ?_)
  obtain ⟨⟨rfl, rfl, rfl⟩, gr_7⟩ := hp
  refine jr_if_eq (pc := 10) h 21 dX9_trays_10 (by decide) (by omega) (fun c_10 => ?_) (fun c_10 => ?_)
  · first | have d_10 := bz_0.mp c_10 | have d_10 := bz_1.mp c_10 | skip
    refine jr_aload_n (pc := 21) h dX9_trays_21 rfl ?_
    refine jr_iconst (pc := 22) h dX9_trays_22 ?_
    refine iv_X9_58 (pc := 23) h hl hR dX9_trays_23 ⟨(Nat.le_of_ble_eq_true rfl), (Nat.le_of_ble_eq_true rfl), (Nat.le_of_ble_eq_true rfl), (Nat.le_of_ble_eq_true rfl)⟩ (Nat.le_of_ble_eq_true rfl) (by assumption) (by omega) (s_X9_refused hX) (fun v_23 n_23 M_23 hn_23 hp => ?_)
    obtain ⟨⟨rfl, rfl⟩, hX, f9⟩ := hp
    have f1 := fr_tr f1 f9
    obtain ⟨hnm, hOm, hBm⟩ := id hX
    refine jr_iret (pc := 26) h hRt dX9_trays_26 rfl (Nat.le_of_ble_eq_true rfl) (Nat.le_of_ble_eq_true rfl) ?_
    refine lfA9 ?_ hX f1
    unfold x_trays
    (repeat' split) <;> first | rfl | (exfalso; omega) | contradiction
  · first | have d_10 := bz_0.mp c_10 | have d_10 := bz_1.mp c_10 | skip
    refine jr_aload_n (pc := 13) h dX9_trays_13 rfl ?_
    refine jr_iload_n (pc := 14) h dX9_trays_14 rfl ?_
    refine iv_X9_446 (pc := 15) h hl hR dX9_trays_15 ⟨(Nat.le_of_ble_eq_true rfl), (Nat.le_of_ble_eq_true rfl), (Nat.le_of_ble_eq_true rfl), (Nat.le_of_ble_eq_true rfl)⟩ (Nat.le_of_ble_eq_true rfl) (by assumption) (by omega) (s_X9_isKind hX hFX (by omega)) (fun v_15 n_15 M_15 hn_15 hp => ?_)
    obtain ⟨⟨rfl, rfl, rfl⟩, gr_15⟩ := hp
    refine jr_if_ne (pc := 18) h 27 dX9_trays_18 (by decide) (by omega) (fun c_18 => ?_) (fun c_18 => ?_)
    · first | have d_18 := bz_0.mp c_18 | have d_18 := bz_1.mp c_18 | skip
      have hr00 := fun (hz : ∀ j, ct j = 0) => rows0 (td := td) hz
      rcases hFX with ⟨rfl, hz⟩ | ⟨f, gf, A, rfl, hsep, hMF, hFM⟩
      · exfalso
        have z2 := hz 2
        have z5 := hz 5
        have zr := hr00 hz
        omega
      obtain ⟨hnf, hOf, hAf⟩ := id hMF
      obtain ⟨⟨e0, e1, e2, e3, e4⟩, ⟨k5, k6, k7, k8, k9, k10, k11, k12, k13, k14, k15⟩, ⟨a2, a3, a4, a5, a6, a7, a8, a9, a10, a11, a12⟩, ⟨hlim, hLI, hends, hrt⟩, ⟨hbk, hld⟩, hc0, hc1, hc2, hc5⟩ := id hFM
      have l2 := hlim 2 (by omega)
      have l3 := hlim 3 (by omega)
      have l4 := hlim 4 (by omega)
      have l5 := hlim 5 (by omega)
      have l6 := hlim 6 (by omega)
      have l7 := hlim 7 (by omega)
      have l8 := hlim 8 (by omega)
      have l9 := hlim 9 (by omega)
      have l10 := hlim 10 (by omega)
      have l11 := hlim 11 (by omega)
      have l12 := hlim 12 (by omega)
      rw [show (jtab 0).2.2 2 = 4 from rfl] at l2
      rw [show (jtab 0).2.2 3 = 6 from rfl] at l3
      rw [show (jtab 0).2.2 4 = 6 from rfl] at l4
      rw [show (jtab 0).2.2 5 = 2 from rfl] at l5
      rw [show (jtab 0).2.2 6 = 8 from rfl] at l6
      rw [show (jtab 0).2.2 7 = 5 from rfl] at l7
      rw [show (jtab 0).2.2 8 = 6 from rfl] at l8
      rw [show (jtab 0).2.2 9 = 3 from rfl] at l9
      rw [show (jtab 0).2.2 10 = 3 from rfl] at l10
      rw [show (jtab 0).2.2 11 = 4 from rfl] at l11
      rw [show (jtab 0).2.2 12 = 4 from rfl] at l12
      have hcr : 1 ≤ c_rows ct td ∧ c_rows ct td ≤ 40 := by
        have h9 := (hLI 0 0 (by omega) (by omega) (by omega)).1 rfl
        have e9 : c_rows ct td = c_get td 0 0 0 := by unfold c_rows; rw [if_neg (by omega)]
        omega
      have hB3 : M2 (m + 3) = jdA 431 (B 3) := hBm 3 (by omega) (by omega)
      refine jr_aload_n (pc := 27) h dX9_trays_27 rfl ?_
      refine jr_iload_n (pc := 28) h dX9_trays_28 rfl ?_
      refine iv_X9_469 (pc := 29) h hl hR dX9_trays_29 ⟨(Nat.le_of_ble_eq_true rfl), (Nat.le_of_ble_eq_true rfl), (Nat.le_of_ble_eq_true rfl), (Nat.le_of_ble_eq_true rfl)⟩ (Nat.le_of_ble_eq_true rfl) (by assumption) (by omega) (s_X9_isServed hX hMF hFM hsep hRR hRI (by omega)) (fun v_29 n_29 M_29 hn_29 hp => ?_)
      obtain ⟨⟨rfl, rfl, rfl⟩, gr_29⟩ := hp
      refine jr_if_eq (pc := 32) h 56 dX9_trays_32 (by decide) (by omega) (fun c_32 => ?_) (fun c_32 => ?_)
      · first | have d_32 := bz_0.mp c_32 | have d_32 := bz_1.mp c_32 | skip
        refine jr_aload_n (pc := 56) h dX9_trays_56 rfl ?_
        refine jr_bipush (pc := 57) h dX9_trays_57 bp_6 ?_
        refine iv_X9_58 (pc := 59) h hl hR dX9_trays_59 ⟨(Nat.le_of_ble_eq_true rfl), (Nat.le_of_ble_eq_true rfl), (Nat.le_of_ble_eq_true rfl), (Nat.le_of_ble_eq_true rfl)⟩ (Nat.le_of_ble_eq_true rfl) (by assumption) (by omega) (s_X9_refused hX) (fun v_59 n_59 M_59 hn_59 hp => ?_)
        obtain ⟨⟨rfl, rfl⟩, hX, f9⟩ := hp
        have f1 := fr_tr f1 f9
        obtain ⟨hnm, hOm, hBm⟩ := id hX
        refine jr_iret (pc := 62) h hRt dX9_trays_62 rfl (Nat.le_of_ble_eq_true rfl) (Nat.le_of_ble_eq_true rfl) ?_
        refine lfA9 ?_ hX f1
        unfold x_trays
        (repeat' split) <;> first | rfl | (exfalso; omega) | contradiction
      · first | have d_32 := bz_0.mp c_32 | have d_32 := bz_1.mp c_32 | skip
        refine jr_aload_n (pc := 35) h dX9_trays_35 rfl ?_
        refine jr_aload_n (pc := 36) h dX9_trays_36 rfl ?_
        refine gf_X9_21 (pc := 37) h dX9_trays_37 (by assumption) (by omega) ?_
        refine jr_bipush (pc := 40) h dX9_trays_40 bp_10 ?_
        refine jr_iload_n (pc := 42) h dX9_trays_42 rfl ?_
        refine jr_imul (pc := 43) h dX9_trays_43 ?_
        refine jr_bipush (pc := 44) h dX9_trays_44 bp_6 ?_
        refine jr_iadd (pc := 46) h dX9_trays_46 ?_
        refine jr_iload_n (pc := 47) h dX9_trays_47 rfl ?_
        refine jr_iadd (pc := 48) h dX9_trays_48 ?_
        refine jr_iald (pc := 49) h dX9_trays_49 hB3 (by omega) (by omega) ?_
        rw [RR_t hRR (by omega) (by omega) (by omega)]
        refine iv_X9_62 (pc := 50) h hl hR dX9_trays_50 ⟨(Nat.le_of_ble_eq_true rfl), (Nat.le_of_ble_eq_true rfl), (Nat.le_of_ble_eq_true rfl), (Nat.le_of_ble_eq_true rfl)⟩ (Nat.le_of_ble_eq_true rfl) (by assumption) (by omega) (s_X9_done hX) (fun v_50 n_50 M_50 hn_50 hp => ?_)
        obtain ⟨⟨rfl, rfl⟩, hX, f9⟩ := hp
        have f1 := fr_tr f1 f9
        obtain ⟨hnm, hOm, hBm⟩ := id hX
        refine jr_goto (pc := 53) h 62 dX9_trays_53 (by decide) ?_
        refine jr_iret (pc := 62) h hRt dX9_trays_62 rfl (Nat.le_of_ble_eq_true rfl) (Nat.le_of_ble_eq_true rfl) ?_
        refine lfA9 ?_ hX f1
        unfold x_trays
        (repeat' split) <;> first | rfl | (exfalso; omega) | contradiction
    · first | have d_18 := bz_0.mp c_18 | have d_18 := bz_1.mp c_18 | skip
      refine jr_aload_n (pc := 21) h dX9_trays_21 rfl ?_
      refine jr_iconst (pc := 22) h dX9_trays_22 ?_
      refine iv_X9_58 (pc := 23) h hl hR dX9_trays_23 ⟨(Nat.le_of_ble_eq_true rfl), (Nat.le_of_ble_eq_true rfl), (Nat.le_of_ble_eq_true rfl), (Nat.le_of_ble_eq_true rfl)⟩ (Nat.le_of_ble_eq_true rfl) (by assumption) (by omega) (s_X9_refused hX) (fun v_23 n_23 M_23 hn_23 hp => ?_)
      obtain ⟨⟨rfl, rfl⟩, hX, f9⟩ := hp
      have f1 := fr_tr f1 f9
      obtain ⟨hnm, hOm, hBm⟩ := id hX
      refine jr_iret (pc := 26) h hRt dX9_trays_26 rfl (Nat.le_of_ble_eq_true rfl) (Nat.le_of_ble_eq_true rfl) ?_
      refine lfA9 ?_ hX f1
      unfold x_trays
      (repeat' split) <;> first | rfl | (exfalso; omega) | contradiction
set_option maxHeartbeats 2000000 in
set_option maxRecDepth 20000 in
theorem s_X9_got {l : Launch} {n : Nat} {M : jdM} {m : Nat} {g : Nat → Int} {w : Int} {fl rd : Value} {B : Nat → Nat → Int} (hX : MX M n m g w fl rd B) {ct td bk si ld : Nat → Int} (hFX : FX M n m fl ct td bk si ld) {x : Int} (hx : -2147483648 ≤ x ∧ x < 2147483648)  {g3 sp sk fa go : Nat → Int} (hRR : RRel ct td (g3, sp, sk, fa, go) (B 3)) (hRI : RI ct td (g3, sp, sk, fa, go)) (hR2 : RI2 ct td (g3, sp, sk, fa, go)) : Ct l yX9_got cX9_got 2 (some .int) rX9_got [.ref m, jI x] n M (fun vv n' M' => (vv = some (jI (x_got ct td g3 go x).1) ∧ n = n') ∧ MX M' n m (rg g (x_got ct td g3 go x).2) w fl rd B ∧ fr (MXf m) M M') := by
  refine Ct_of [some (.ref m), some (jI x)] (by decide) (Nat.le_of_ble_eq_true rfl) rfl (fun κ hl h hR hRt hmn hn0 => ?_)
  have h : Ok κ RX9 cX9_got 2 (some .int) := h
  rcases hFX with ⟨rfl, hz⟩ | ⟨f, gf, A, rfl, hsep, hMF, hFM⟩
  · skip
    have hr0 := rows0 (td := td) hz
    have z2 := hz 2
    have z5 := hz 5
    obtain ⟨hnm, hOm, hBm⟩ := id hX
    have hOm : M m = jdO 9 (fX9 m _ _ .null rd) := hOm
    have z8 := hz 8
    refine jr_aload_n (pc := 0) h dX9_got_0 rfl ?_
    refine jr_iconst (pc := 1) h dX9_got_1 ?_
    refine pf_X9_52 (pc := 2) h dX9_got_2 hOm (by omega) ?_
    refine jm_gen (fun M2 hM2 => ?_)
    rw [fX9_0] at hM2
    have hX := MX_o hX hM2
    have f9 : fr (MXf m) _ M2 := fr_up hM2 ⟨by omega, by omega⟩
    obtain ⟨hnm, hOm, hBm⟩ := id hX
    have f1 := f9
    refine jr_aload_n (pc := 5) h dX9_got_5 rfl ?_
    refine gf_X9_425 (pc := 6) h dX9_got_6 (by assumption) (by omega) ?_
    refine jr_ifnullN (pc := 9) h 46 dX9_got_9 (by decide) ?_
    refine jr_aload_n (pc := 46) h dX9_got_46 rfl ?_
    refine jr_iconst (pc := 47) h dX9_got_47 ?_
    refine iv_X9_58 (pc := 48) h hl hR dX9_got_48 ⟨(Nat.le_of_ble_eq_true rfl), (Nat.le_of_ble_eq_true rfl), (Nat.le_of_ble_eq_true rfl), (Nat.le_of_ble_eq_true rfl)⟩ (Nat.le_of_ble_eq_true rfl) (by assumption) (by omega) (s_X9_refused hX) (fun v_48 n_48 M_48 hn_48 hp => ?_)
    obtain ⟨⟨rfl, rfl⟩, hX, f9⟩ := hp
    have f1 := fr_tr f1 f9
    obtain ⟨hnm, hOm, hBm⟩ := id hX
    refine jr_iret (pc := 51) h hRt dX9_got_51 rfl (Nat.le_of_ble_eq_true rfl) (Nat.le_of_ble_eq_true rfl) ?_
    refine lfA9 ?_ hX f1
    unfold x_got
    (repeat' split) <;> first | rfl | (exfalso; omega) | contradiction
  · skip
    obtain ⟨hnm, hOm, hBm⟩ := id hX
    have hOm : M m = jdO 9 (fX9 m _ _ (.ref f) rd) := hOm
    refine jr_aload_n (pc := 0) h dX9_got_0 rfl ?_
    refine jr_iconst (pc := 1) h dX9_got_1 ?_
    refine pf_X9_52 (pc := 2) h dX9_got_2 hOm (by omega) ?_
    refine jm_gen (fun M2 hM2 => ?_)
    rw [fX9_0] at hM2
    have hX := MX_o hX hM2
    have f9 : fr (MXf m) _ M2 := fr_up hM2 ⟨by omega, by omega⟩
    obtain ⟨hnm, hOm, hBm⟩ := id hX
    have f1 := f9
    have hMF := MF_fr hMF f9 (Nat.le_refl _) (fun k h1 h2 q => by have := q.1; have := q.2; omega)
    obtain ⟨hnf, hOf, hAf⟩ := id hMF
    obtain ⟨⟨e0, e1, e2, e3, e4⟩, ⟨k5, k6, k7, k8, k9, k10, k11, k12, k13, k14, k15⟩, ⟨a2, a3, a4, a5, a6, a7, a8, a9, a10, a11, a12⟩, ⟨hlim, hLI, hends, hrt⟩, ⟨hbk, hld⟩, hc0, hc1, hc2, hc5⟩ := id hFM
    have l2 := hlim 2 (by omega)
    have l3 := hlim 3 (by omega)
    have l4 := hlim 4 (by omega)
    have l5 := hlim 5 (by omega)
    have l6 := hlim 6 (by omega)
    have l7 := hlim 7 (by omega)
    have l8 := hlim 8 (by omega)
    have l9 := hlim 9 (by omega)
    have l10 := hlim 10 (by omega)
    have l11 := hlim 11 (by omega)
    have l12 := hlim 12 (by omega)
    rw [show (jtab 0).2.2 2 = 4 from rfl] at l2
    rw [show (jtab 0).2.2 3 = 6 from rfl] at l3
    rw [show (jtab 0).2.2 4 = 6 from rfl] at l4
    rw [show (jtab 0).2.2 5 = 2 from rfl] at l5
    rw [show (jtab 0).2.2 6 = 8 from rfl] at l6
    rw [show (jtab 0).2.2 7 = 5 from rfl] at l7
    rw [show (jtab 0).2.2 8 = 6 from rfl] at l8
    rw [show (jtab 0).2.2 9 = 3 from rfl] at l9
    rw [show (jtab 0).2.2 10 = 3 from rfl] at l10
    rw [show (jtab 0).2.2 11 = 4 from rfl] at l11
    rw [show (jtab 0).2.2 12 = 4 from rfl] at l12
    have hcr : 1 ≤ c_rows ct td ∧ c_rows ct td ≤ 40 := by
      have h9 := (hLI 0 0 (by omega) (by omega) (by omega)).1 rfl
      have e9 : c_rows ct td = c_get td 0 0 0 := by unfold c_rows; rw [if_neg (by omega)]
      omega
    have hA18 : M2 (f + 18) = jdA 6 (A 18) := hAf 18 (by omega) (by omega)
    have hB3 : M2 (m + 3) = jdA 431 (B 3) := hBm 3 (by omega) (by omega)
    obtain ⟨hrw, hsc, hwk, hsk9, h422, hgt, h429, h430⟩ := id hRR
    replace hsc : ∀ t, t < 2 → B 3 (410 + t) = sp t := hsc
    replace hwk : ∀ t : Nat, (t : Int) < ct 5 → B 3 (412 + t) = if c_get td 5 t 0 = 0 then g3 4 - 1 else c_rows ct td - g3 5 := hwk
    replace hsk9 : ∀ j, j < 8 → B 3 (414 + j) = sk j := hsk9
    replace h422 : B 3 422 = g3 6 := h422
    replace h429 : B 3 429 = g3 7 := h429
    replace hgt : ∀ i, i < 6 → B 3 (423 + i) = go i := hgt
    replace h430 : B 3 430 = c_rows ct td - (g3 5 - g3 4 + 1) := h430
    obtain ⟨h4r, hsr, hkr, hzr, h0r, hfr, htr, h2r, h451r⟩ := id hRI
    replace h4r : 1 ≤ g3 4 ∧ g3 4 ≤ g3 5 + 1 ∧ g3 5 ≤ c_rows ct td := h4r
    replace hsr : ∀ j, 0 ≤ sp j ∧ sp j ≤ 60000 + 22000 * (c_rows ct td - (g3 5 - g3 4 + 1)) := hsr
    replace hkr : ∀ j, 0 ≤ sk j ∧ sk j ≤ 9999 := hkr
    replace hzr : 0 ≤ g3 7 ∧ g3 7 ≤ 65536 := hzr
    replace h0r : ∀ ρ : Nat, g3 4 ≤ ρ → (ρ : Int) ≤ g3 5 → ∀ o, o < 11 → fa (11 * ρ + o) = 0 := h0r
    replace hfr : ∀ j, 0 ≤ fa j ∧ fa j ≤ 5000000 := hfr
    refine jr_aload_n (pc := 5) h dX9_got_5 rfl ?_
    refine gf_X9_425 (pc := 6) h dX9_got_6 (by assumption) (by omega) ?_
    refine jr_ifnull (pc := 9) h dX9_got_9 ?_
    refine jr_iload_n (pc := 12) h dX9_got_12 rfl ?_
    refine jr_if_lt (pc := 13) h 46 dX9_got_13 (by decide) (by omega) (fun c_13 => ?_) (fun c_13 => ?_)
    · first | have d_13 := bz_0.mp c_13 | have d_13 := bz_1.mp c_13 | skip
      refine jr_aload_n (pc := 46) h dX9_got_46 rfl ?_
      refine jr_iconst (pc := 47) h dX9_got_47 ?_
      refine iv_X9_58 (pc := 48) h hl hR dX9_got_48 ⟨(Nat.le_of_ble_eq_true rfl), (Nat.le_of_ble_eq_true rfl), (Nat.le_of_ble_eq_true rfl), (Nat.le_of_ble_eq_true rfl)⟩ (Nat.le_of_ble_eq_true rfl) (by assumption) (by omega) (s_X9_refused hX) (fun v_48 n_48 M_48 hn_48 hp => ?_)
      obtain ⟨⟨rfl, rfl⟩, hX, f9⟩ := hp
      have f1 := fr_tr f1 f9
      obtain ⟨hnm, hOm, hBm⟩ := id hX
      refine jr_iret (pc := 51) h hRt dX9_got_51 rfl (Nat.le_of_ble_eq_true rfl) (Nat.le_of_ble_eq_true rfl) ?_
      refine lfA9 ?_ hX f1
      unfold x_got
      (repeat' split) <;> first | rfl | (exfalso; omega) | contradiction
    · first | have d_13 := bz_0.mp c_13 | have d_13 := bz_1.mp c_13 | skip
      refine jr_iload_n (pc := 16) h dX9_got_16 rfl ?_
      refine jr_aload_n (pc := 17) h dX9_got_17 rfl ?_
      refine gf_X9_425 (pc := 18) h dX9_got_18 (by assumption) (by omega) ?_
      refine gf_X9_365 (pc := 21) h dX9_got_21 (by assumption) (by omega) ?_
      refine jr_icmp_ge (pc := 24) h 46 dX9_got_24 (by decide) (by omega) (by omega) (fun c_24 => ?_) (fun c_24 => ?_)
      · first | have d_24 := bz_0.mp c_24 | have d_24 := bz_1.mp c_24 | skip
        refine jr_aload_n (pc := 46) h dX9_got_46 rfl ?_
        refine jr_iconst (pc := 47) h dX9_got_47 ?_
        refine iv_X9_58 (pc := 48) h hl hR dX9_got_48 ⟨(Nat.le_of_ble_eq_true rfl), (Nat.le_of_ble_eq_true rfl), (Nat.le_of_ble_eq_true rfl), (Nat.le_of_ble_eq_true rfl)⟩ (Nat.le_of_ble_eq_true rfl) (by assumption) (by omega) (s_X9_refused hX) (fun v_48 n_48 M_48 hn_48 hp => ?_)
        obtain ⟨⟨rfl, rfl⟩, hX, f9⟩ := hp
        have f1 := fr_tr f1 f9
        obtain ⟨hnm, hOm, hBm⟩ := id hX
        refine jr_iret (pc := 51) h hRt dX9_got_51 rfl (Nat.le_of_ble_eq_true rfl) (Nat.le_of_ble_eq_true rfl) ?_
        refine lfA9 ?_ hX f1
        unfold x_got
        (repeat' split) <;> first | rfl | (exfalso; omega) | contradiction
      · first | have d_24 := bz_0.mp c_24 | have d_24 := bz_1.mp c_24 | skip
        have g8 := (a8 x.toNat (by omega)).1
        have h8 := (hLI 8 x (by omega) (by omega) (by omega)).2.2.2.2.2.2.2.2.1 rfl
        rw [show ((x.toNat : Nat) : Int) = x by omega] at g8
        refine jr_aload_n (pc := 27) h dX9_got_27 rfl ?_
        refine gf_X9_425 (pc := 28) h dX9_got_28 (by assumption) (by omega) ?_
        refine gf_X9_375 (pc := 31) h dX9_got_31 (by assumption) (by omega) ?_
        refine jr_iload_n (pc := 34) h dX9_got_34 rfl ?_
        refine jr_iald (pc := 35) h dX9_got_35 (by assumption) (by omega) (by omega) ?_
        rw [g8]
        refine jr_aload_n (pc := 36) h dX9_got_36 rfl ?_
        refine gf_X9_425 (pc := 37) h dX9_got_37 (by assumption) (by omega) ?_
        refine gf_X9_205 (pc := 40) h dX9_got_40 (by assumption) (by omega) ?_
        refine jr_icmp_le (pc := 43) h 52 dX9_got_43 (by decide) (by omega) (by omega) (fun c_43 => ?_) (fun c_43 => ?_)
        · first | have d_43 := bz_0.mp c_43 | have d_43 := bz_1.mp c_43 | skip
          refine jr_aload_n (pc := 52) h dX9_got_52 rfl ?_
          refine jr_aload_n (pc := 53) h dX9_got_53 rfl ?_
          refine gf_X9_425 (pc := 54) h dX9_got_54 (by assumption) (by omega) ?_
          refine gf_X9_375 (pc := 57) h dX9_got_57 (by assumption) (by omega) ?_
          refine jr_iload_n (pc := 60) h dX9_got_60 rfl ?_
          refine jr_iald (pc := 61) h dX9_got_61 (by assumption) (by omega) (by omega) ?_
          rw [g8]
          refine iv_X9_469 (pc := 62) h hl hR dX9_got_62 ⟨(Nat.le_of_ble_eq_true rfl), (Nat.le_of_ble_eq_true rfl), (Nat.le_of_ble_eq_true rfl), (Nat.le_of_ble_eq_true rfl)⟩ (Nat.le_of_ble_eq_true rfl) (by assumption) (by omega) (s_X9_isServed hX hMF hFM hsep hRR hRI (by omega)) (fun v_62 n_62 M_62 hn_62 hp => ?_)
          obtain ⟨⟨rfl, rfl, rfl⟩, gr_62⟩ := hp
          refine jr_if_eq (pc := 65) h 85 dX9_got_65 (by decide) (by omega) (fun c_65 => ?_) (fun c_65 => ?_)
          · first | have d_65 := bz_0.mp c_65 | have d_65 := bz_1.mp c_65 | skip
            refine jr_aload_n (pc := 85) h dX9_got_85 rfl ?_
            refine jr_bipush (pc := 86) h dX9_got_86 bp_6 ?_
            refine iv_X9_58 (pc := 88) h hl hR dX9_got_88 ⟨(Nat.le_of_ble_eq_true rfl), (Nat.le_of_ble_eq_true rfl), (Nat.le_of_ble_eq_true rfl), (Nat.le_of_ble_eq_true rfl)⟩ (Nat.le_of_ble_eq_true rfl) (by assumption) (by omega) (s_X9_refused hX) (fun v_88 n_88 M_88 hn_88 hp => ?_)
            obtain ⟨⟨rfl, rfl⟩, hX, f9⟩ := hp
            have f1 := fr_tr f1 f9
            obtain ⟨hnm, hOm, hBm⟩ := id hX
            refine jr_iret (pc := 91) h hRt dX9_got_91 rfl (Nat.le_of_ble_eq_true rfl) (Nat.le_of_ble_eq_true rfl) ?_
            refine lfA9 ?_ hX f1
            unfold x_got
            (repeat' split) <;> first | rfl | (exfalso; omega) | contradiction
          · first | have d_65 := bz_0.mp c_65 | have d_65 := bz_1.mp c_65 | skip
            refine jr_aload_n (pc := 68) h dX9_got_68 rfl ?_
            refine jr_aload_n (pc := 69) h dX9_got_69 rfl ?_
            refine gf_X9_21 (pc := 70) h dX9_got_70 (by assumption) (by omega) ?_
            refine jr_sipush (pc := 73) h dX9_got_73 sp_423 ?_
            refine jr_iload_n (pc := 76) h dX9_got_76 rfl ?_
            refine jr_iadd (pc := 77) h dX9_got_77 ?_
            refine jr_iald (pc := 78) h dX9_got_78 hB3 (by omega) (by omega) ?_
            have e9 : c_six go x = go x.toNat := by
              unfold c_six
              rw [if_pos (by omega)]
            rw [show ((423 : Int) + x).toNat = 423 + x.toNat by omega, hgt _ (by omega), ← e9]
            refine iv_X9_62 (pc := 79) h hl hR dX9_got_79 ⟨(Nat.le_of_ble_eq_true rfl), (Nat.le_of_ble_eq_true rfl), (Nat.le_of_ble_eq_true rfl), (Nat.le_of_ble_eq_true rfl)⟩ (Nat.le_of_ble_eq_true rfl) (by assumption) (by omega) (s_X9_done hX) (fun v_79 n_79 M_79 hn_79 hp => ?_)
            obtain ⟨⟨rfl, rfl⟩, hX, f9⟩ := hp
            have f1 := fr_tr f1 f9
            obtain ⟨hnm, hOm, hBm⟩ := id hX
            refine jr_goto (pc := 82) h 91 dX9_got_82 (by decide) ?_
            refine jr_iret (pc := 91) h hRt dX9_got_91 rfl (Nat.le_of_ble_eq_true rfl) (Nat.le_of_ble_eq_true rfl) ?_
            refine lfA9 ?_ hX f1
            unfold x_got
            (repeat' split) <;> first | rfl | (exfalso; omega) | contradiction
        · first | have d_43 := bz_0.mp c_43 | have d_43 := bz_1.mp c_43 | skip
          refine jr_aload_n (pc := 46) h dX9_got_46 rfl ?_
          refine jr_iconst (pc := 47) h dX9_got_47 ?_
          refine iv_X9_58 (pc := 48) h hl hR dX9_got_48 ⟨(Nat.le_of_ble_eq_true rfl), (Nat.le_of_ble_eq_true rfl), (Nat.le_of_ble_eq_true rfl), (Nat.le_of_ble_eq_true rfl)⟩ (Nat.le_of_ble_eq_true rfl) (by assumption) (by omega) (s_X9_refused hX) (fun v_48 n_48 M_48 hn_48 hp => ?_)
          obtain ⟨⟨rfl, rfl⟩, hX, f9⟩ := hp
          have f1 := fr_tr f1 f9
          obtain ⟨hnm, hOm, hBm⟩ := id hX
          refine jr_iret (pc := 51) h hRt dX9_got_51 rfl (Nat.le_of_ble_eq_true rfl) (Nat.le_of_ble_eq_true rfl) ?_
          refine lfA9 ?_ hX f1
          unfold x_got
          (repeat' split) <;> first | rfl | (exfalso; omega) | contradiction
set_option maxHeartbeats 2000000 in
set_option maxRecDepth 20000 in
theorem s_X9_sum {l : Launch} {n : Nat} {M : jdM} {m : Nat} {g : Nat → Int} {w : Int} {fl rd : Value} {B : Nat → Nat → Int} (hX : MX M n m g w fl rd B) {ct td bk si ld : Nat → Int} (hFX : FX M n m fl ct td bk si ld) {x : Int} (hx : -2147483648 ≤ x ∧ x < 2147483648)  {g3 sp sk fa go : Nat → Int} (hRR : RRel ct td (g3, sp, sk, fa, go) (B 3)) (hRI : RI ct td (g3, sp, sk, fa, go)) (hR2 : RI2 ct td (g3, sp, sk, fa, go)) : Ct l yX9_sum cX9_sum 4 (some .int) rX9_sum [.ref m, jI x] n M (fun vv n' M' => (vv = some (jI (x_sum ct td g3 fa x).1) ∧ n = n') ∧ MX M' n m (rg g (x_sum ct td g3 fa x).2) w fl rd B ∧ fr (MXf m) M M') := by
  refine Ct_of [some (.ref m), some (jI x), none, none] (by decide) (Nat.le_of_ble_eq_true rfl) rfl (fun κ hl h hR hRt hmn hn0 => ?_)
  have h : Ok κ RX9 cX9_sum 4 (some .int) := h
  rcases hFX with ⟨rfl, hz⟩ | ⟨f, gf, A, rfl, hsep, hMF, hFM⟩
  · skip
    have hr0 := rows0 (td := td) hz
    have z2 := hz 2
    have z5 := hz 5
    obtain ⟨hnm, hOm, hBm⟩ := id hX
    have hOm : M m = jdO 9 (fX9 m _ _ .null rd) := hOm
    refine jr_aload_n (pc := 0) h dX9_sum_0 rfl ?_
    refine jr_iconst (pc := 1) h dX9_sum_1 ?_
    refine pf_X9_52 (pc := 2) h dX9_sum_2 hOm (by omega) ?_
    refine jm_gen (fun M2 hM2 => ?_)
    rw [fX9_0] at hM2
    have hX := MX_o hX hM2
    have f9 : fr (MXf m) _ M2 := fr_up hM2 ⟨by omega, by omega⟩
    obtain ⟨hnm, hOm, hBm⟩ := id hX
    have f1 := f9
    refine jr_aload_n (pc := 5) h dX9_sum_5 rfl ?_
    refine gf_X9_425 (pc := 6) h dX9_sum_6 (by assumption) (by omega) ?_
    refine jr_ifnullN (pc := 9) h 21 dX9_sum_9 (by decide) ?_
    refine jr_aload_n (pc := 21) h dX9_sum_21 rfl ?_
    refine jr_iconst (pc := 22) h dX9_sum_22 ?_
    refine iv_X9_58 (pc := 23) h hl hR dX9_sum_23 ⟨(Nat.le_of_ble_eq_true rfl), (Nat.le_of_ble_eq_true rfl), (Nat.le_of_ble_eq_true rfl), (Nat.le_of_ble_eq_true rfl)⟩ (Nat.le_of_ble_eq_true rfl) (by assumption) (by omega) (s_X9_refused hX) (fun v_23 n_23 M_23 hn_23 hp => ?_)
    obtain ⟨⟨rfl, rfl⟩, hX, f9⟩ := hp
    have f1 := fr_tr f1 f9
    obtain ⟨hnm, hOm, hBm⟩ := id hX
    refine jr_iret (pc := 26) h hRt dX9_sum_26 rfl (Nat.le_of_ble_eq_true rfl) (Nat.le_of_ble_eq_true rfl) ?_
    refine lfA9 ?_ hX f1
    unfold x_sum
    (repeat' split) <;> first | rfl | (exfalso; omega) | contradiction
  · skip
    obtain ⟨hnm, hOm, hBm⟩ := id hX
    have hOm : M m = jdO 9 (fX9 m _ _ (.ref f) rd) := hOm
    refine jr_aload_n (pc := 0) h dX9_sum_0 rfl ?_
    refine jr_iconst (pc := 1) h dX9_sum_1 ?_
    refine pf_X9_52 (pc := 2) h dX9_sum_2 hOm (by omega) ?_
    refine jm_gen (fun M2 hM2 => ?_)
    rw [fX9_0] at hM2
    have hX := MX_o hX hM2
    have f9 : fr (MXf m) _ M2 := fr_up hM2 ⟨by omega, by omega⟩
    obtain ⟨hnm, hOm, hBm⟩ := id hX
    have f1 := f9
    have hMF := MF_fr hMF f9 (Nat.le_refl _) (fun k h1 h2 q => by have := q.1; have := q.2; omega)
    obtain ⟨hnf, hOf, hAf⟩ := id hMF
    obtain ⟨⟨e0, e1, e2, e3, e4⟩, ⟨k5, k6, k7, k8, k9, k10, k11, k12, k13, k14, k15⟩, ⟨a2, a3, a4, a5, a6, a7, a8, a9, a10, a11, a12⟩, ⟨hlim, hLI, hends, hrt⟩, ⟨hbk, hld⟩, hc0, hc1, hc2, hc5⟩ := id hFM
    have l2 := hlim 2 (by omega)
    have l3 := hlim 3 (by omega)
    have l4 := hlim 4 (by omega)
    have l5 := hlim 5 (by omega)
    have l6 := hlim 6 (by omega)
    have l7 := hlim 7 (by omega)
    have l8 := hlim 8 (by omega)
    have l9 := hlim 9 (by omega)
    have l10 := hlim 10 (by omega)
    have l11 := hlim 11 (by omega)
    have l12 := hlim 12 (by omega)
    rw [show (jtab 0).2.2 2 = 4 from rfl] at l2
    rw [show (jtab 0).2.2 3 = 6 from rfl] at l3
    rw [show (jtab 0).2.2 4 = 6 from rfl] at l4
    rw [show (jtab 0).2.2 5 = 2 from rfl] at l5
    rw [show (jtab 0).2.2 6 = 8 from rfl] at l6
    rw [show (jtab 0).2.2 7 = 5 from rfl] at l7
    rw [show (jtab 0).2.2 8 = 6 from rfl] at l8
    rw [show (jtab 0).2.2 9 = 3 from rfl] at l9
    rw [show (jtab 0).2.2 10 = 3 from rfl] at l10
    rw [show (jtab 0).2.2 11 = 4 from rfl] at l11
    rw [show (jtab 0).2.2 12 = 4 from rfl] at l12
    have hcr : 1 ≤ c_rows ct td ∧ c_rows ct td ≤ 40 := by
      have h9 := (hLI 0 0 (by omega) (by omega) (by omega)).1 rfl
      have e9 : c_rows ct td = c_get td 0 0 0 := by unfold c_rows; rw [if_neg (by omega)]
      omega
    have hB3 : M2 (m + 3) = jdA 431 (B 3) := hBm 3 (by omega) (by omega)
    obtain ⟨hrw, hsc, hwk, hsk9, h422, hgt, h429, h430⟩ := id hRR
    replace hsc : ∀ t, t < 2 → B 3 (410 + t) = sp t := hsc
    replace hwk : ∀ t : Nat, (t : Int) < ct 5 → B 3 (412 + t) = if c_get td 5 t 0 = 0 then g3 4 - 1 else c_rows ct td - g3 5 := hwk
    replace hsk9 : ∀ j, j < 8 → B 3 (414 + j) = sk j := hsk9
    replace h422 : B 3 422 = g3 6 := h422
    replace h429 : B 3 429 = g3 7 := h429
    replace hgt : ∀ i, i < 6 → B 3 (423 + i) = go i := hgt
    replace h430 : B 3 430 = c_rows ct td - (g3 5 - g3 4 + 1) := h430
    obtain ⟨h4r, hsr, hkr, hzr, h0r, hfr, htr, h2r, h451r⟩ := id hRI
    replace h4r : 1 ≤ g3 4 ∧ g3 4 ≤ g3 5 + 1 ∧ g3 5 ≤ c_rows ct td := h4r
    replace hsr : ∀ j, 0 ≤ sp j ∧ sp j ≤ 60000 + 22000 * (c_rows ct td - (g3 5 - g3 4 + 1)) := hsr
    replace hkr : ∀ j, 0 ≤ sk j ∧ sk j ≤ 9999 := hkr
    replace hzr : 0 ≤ g3 7 ∧ g3 7 ≤ 65536 := hzr
    replace h0r : ∀ ρ : Nat, g3 4 ≤ ρ → (ρ : Int) ≤ g3 5 → ∀ o, o < 11 → fa (11 * ρ + o) = 0 := h0r
    replace hfr : ∀ j, 0 ≤ fa j ∧ fa j ≤ 5000000 := hfr
    refine jr_aload_n (pc := 5) h dX9_sum_5 rfl ?_
    refine gf_X9_425 (pc := 6) h dX9_sum_6 (by assumption) (by omega) ?_
    refine jr_ifnull (pc := 9) h dX9_sum_9 ?_
    refine jr_iload_n (pc := 12) h dX9_sum_12 rfl ?_
    refine jr_iconst (pc := 13) h dX9_sum_13 ?_
    refine jr_iconst (pc := 14) h dX9_sum_14 ?_
    refine iv_X9_130 (pc := 15) h hl hR dX9_sum_15 ⟨(Nat.le_of_ble_eq_true rfl), (Nat.le_of_ble_eq_true rfl), (Nat.le_of_ble_eq_true rfl), (Nat.le_of_ble_eq_true rfl)⟩ (Nat.le_of_ble_eq_true rfl) (s_X9_in (by omega) (by omega) (by omega)) (fun v_15 n_15 M_15 hn_15 hp => ?_)
    obtain ⟨⟨rfl, rfl, rfl⟩, gr_15⟩ := hp
    refine jr_if_ne (pc := 18) h 27 dX9_sum_18 (by decide) (by omega) (fun c_18 => ?_) (fun c_18 => ?_)
    · first | have d_18 := bz_0.mp c_18 | have d_18 := bz_1.mp c_18 | skip
      refine jr_iload_n (pc := 27) h dX9_sum_27 rfl ?_
      refine jr_iconst (pc := 28) h dX9_sum_28 ?_
      refine jr_icmp_ne (pc := 29) h 45 dX9_sum_29 (by decide) (by omega) (by omega) (fun c_29 => ?_) (fun c_29 => ?_)
      · first | have d_29 := bz_0.mp c_29 | have d_29 := bz_1.mp c_29 | skip
        refine jr_iload_n (pc := 45) h dX9_sum_45 rfl ?_
        refine jr_iconst (pc := 46) h dX9_sum_46 ?_
        refine jr_icmp_ne (pc := 47) h 63 dX9_sum_47 (by decide) (by omega) (by omega) (fun c_47 => ?_) (fun c_47 => ?_)
        · first | have d_47 := bz_0.mp c_47 | have d_47 := bz_1.mp c_47 | skip
          refine jr_iconst (pc := 63) h dX9_sum_63 ?_
          refine jr_istore_n (pc := 64) h [_, _, _, _] dX9_sum_64 (by decide) rfl ?_
          refine jr_iconst (pc := 65) h dX9_sum_65 ?_
          refine jr_istore_n (pc := 66) h [_, _, _, _] dX9_sum_66 (by decide) rfl ?_
          obtain ⟨W, hW⟩ : ∃ W : Int, (x = 0 ∧ W = 6 ∨ 1 ≤ x ∧ x ≤ 3 ∧ W = 2 + x) := ⟨if x = 0 then 6 else 2 + x, by split <;> omega⟩
          have loop : ∀ (dq : Nat) (v i : Int), (1 ≤ i ∧ i ≤ c_rows ct td + 1) → (0 ≤ v ∧ v ≤ 21 * (i - 1)) → (v = sumZ (fun i => c_fact fa (1 + i) W) (i - 1).toNat) → (50 - i).toNat < dq → J κ 4 0 0 n 67 [some (.ref m), some (jI x), some (jI v), some (jI i)] [] M2 := by
            intro dq
            induction dq with
            | zero => intro v i hi hvb hv hd; omega
            | succ dq ih =>
              intro v i hi hvb hv hd
              refine jr_iload_n (pc := 67) h dX9_sum_67 rfl ?_
              refine jr_aload_n (pc := 68) h dX9_sum_68 rfl ?_
              refine gf_X9_425 (pc := 69) h dX9_sum_69 (by assumption) (by omega) ?_
              refine gf_X9_205 (pc := 72) h dX9_sum_72 (by assumption) (by omega) ?_
              refine jr_icmp_gt (pc := 75) h 114 dX9_sum_75 (by decide) (by omega) (by omega) (fun c_75 => ?_) (fun c_75 => ?_)
              · first | have d_75 := bz_0.mp c_75 | have d_75 := bz_1.mp c_75 | skip
                refine jr_aload_n (pc := 114) h dX9_sum_114 rfl ?_
                refine jr_iload_n (pc := 115) h dX9_sum_115 rfl ?_
                refine iv_X9_62 (pc := 116) h hl hR dX9_sum_116 ⟨(Nat.le_of_ble_eq_true rfl), (Nat.le_of_ble_eq_true rfl), (Nat.le_of_ble_eq_true rfl), (Nat.le_of_ble_eq_true rfl)⟩ (Nat.le_of_ble_eq_true rfl) (by assumption) (by omega) (s_X9_done hX) (fun v_116 n_116 M_116 hn_116 hp => ?_)
                obtain ⟨⟨rfl, rfl⟩, hX, f9⟩ := hp
                have f1 := fr_tr f1 f9
                obtain ⟨hnm, hOm, hBm⟩ := id hX
                refine jr_iret (pc := 119) h hRt dX9_sum_119 rfl (Nat.le_of_ble_eq_true rfl) (Nat.le_of_ble_eq_true rfl) ?_
                have ev : c_sumf fa W = v := by
                  rw [hv, show (i - 1).toNat = (c_rows ct td).toNat by omega]
                  exact cf_sum (R := (g3, sp, sk, fa, go)) hR2 (by omega) (by omega)
                refine lfA9 ?_ hX f1
                unfold x_sum
                rw [if_pos (by omega)]
                have hx9 : x = 0 ∨ x = 1 ∨ x = 2 ∨ x = 3 := by omega
                rcases hx9 with e | e | e | e
                · rw [if_pos e, show (6 : Int) = W by omega, ev]
                · rw [if_neg (by omega), if_pos e, show (3 : Int) = W by omega, ev]
                · rw [if_neg (by omega), if_neg (by omega), if_pos e, show (4 : Int) = W by omega, ev]
                · rw [if_neg (by omega), if_neg (by omega), if_neg (by omega), if_pos e, show (5 : Int) = W by omega, ev]
              · first | have d_75 := bz_0.mp c_75 | have d_75 := bz_1.mp c_75 | skip
                have cfb := cf_b (x := i) (y := W) hRI (by omega)
                replace cfb : 0 ≤ c_fact fa i W ∧ c_fact fa i W ≤ 21 := cfb
                refine jr_iload_n (pc := 78) h dX9_sum_78 rfl ?_
                refine jr_iload_n (pc := 79) h dX9_sum_79 rfl ?_
                refine jr_if_ne (pc := 80) h 91 dX9_sum_80 (by decide) (by omega) (fun c_80 => ?_) (fun c_80 => ?_)
                · first | have d_80 := bz_0.mp c_80 | have d_80 := bz_1.mp c_80 | skip
                  refine jr_aload_n (pc := 91) h dX9_sum_91 rfl ?_
                  refine gf_X9_21 (pc := 92) h dX9_sum_92 (by assumption) (by omega) ?_
                  refine jr_bipush (pc := 95) h dX9_sum_95 bp_10 ?_
                  refine jr_iload_n (pc := 97) h dX9_sum_97 rfl ?_
                  refine jr_imul (pc := 98) h dX9_sum_98 ?_
                  refine jr_iconst (pc := 99) h dX9_sum_99 ?_
                  refine jr_iadd (pc := 100) h dX9_sum_100 ?_
                  refine jr_iload_n (pc := 101) h dX9_sum_101 rfl ?_
                  refine jr_iadd (pc := 102) h dX9_sum_102 ?_
                  refine jr_iconst (pc := 103) h dX9_sum_103 ?_
                  refine jr_isub (pc := 104) h dX9_sum_104 ?_
                  refine jr_iald (pc := 105) h dX9_sum_105 hB3 (by omega) (by omega) ?_
                  have e9 : B 3 (10 * i + 3 + x - 1).toNat = c_fact fa i W := by
                    rw [show 10 * i + 3 + x - 1 = 10 * i + W by omega]
                    exact RR_f hRR (by omega) (by omega) (by omega) (Or.inr (by omega))
                  rw [e9]
                  refine jr_iadd (pc := 106) h dX9_sum_106 ?_
                  refine jr_istore_n (pc := 107) h [_, _, _, _] dX9_sum_107 (by decide) rfl ?_
                  refine jr_iinc (pc := 108) h [_, _, _, _] dX9_sum_108 (by decide) rfl rfl ?_
                  refine jr_goto (pc := 111) h 67 dX9_sum_111 (by decide) ?_
                  refine ih _ _ (by omega) (by omega) ?_ (by omega)
                  rw [show i + 1 - 1 = i - 1 + 1 by omega, sumZ_s (by omega), ← hv, show 1 + (i - 1) = i by omega]
                · first | have d_80 := bz_0.mp c_80 | have d_80 := bz_1.mp c_80 | skip
                  refine jr_aload_n (pc := 83) h dX9_sum_83 rfl ?_
                  refine jr_iload_n (pc := 84) h dX9_sum_84 rfl ?_
                  refine iv_X9_519 (pc := 85) h hl hR dX9_sum_85 ⟨(Nat.le_of_ble_eq_true rfl), (Nat.le_of_ble_eq_true rfl), (Nat.le_of_ble_eq_true rfl), (Nat.le_of_ble_eq_true rfl)⟩ (Nat.le_of_ble_eq_true rfl) (by assumption) (by omega) (s_X9_traysIn hX hMF hFM hsep hRR hRI hR2 (x := i) (by omega)) (fun v_85 n_85 M_85 hn_85 hp => ?_)
                  obtain ⟨⟨rfl, rfl, rfl⟩, gr_85⟩ := hp
                  have eW : c_fact fa i 6 = c_fact fa i W := by rw [show W = 6 by omega]
                  rw [eW]
                  refine jr_goto (pc := 88) h 106 dX9_sum_88 (by decide) ?_
                  refine jr_iadd (pc := 106) h dX9_sum_106 ?_
                  refine jr_istore_n (pc := 107) h [_, _, _, _] dX9_sum_107 (by decide) rfl ?_
                  refine jr_iinc (pc := 108) h [_, _, _, _] dX9_sum_108 (by decide) rfl rfl ?_
                  refine jr_goto (pc := 111) h 67 dX9_sum_111 (by decide) ?_
                  refine ih _ _ (by omega) (by omega) ?_ (by omega)
                  rw [show i + 1 - 1 = i - 1 + 1 by omega, sumZ_s (by omega), ← hv, show 1 + (i - 1) = i by omega]
          exact loop _ _ _ (by omega) (by omega) rfl (Nat.lt_succ_self _)
        · first | have d_47 := bz_0.mp c_47 | have d_47 := bz_1.mp c_47 | skip
          refine jr_aload_n (pc := 50) h dX9_sum_50 rfl ?_
          refine jr_aload_n (pc := 51) h dX9_sum_51 rfl ?_
          refine gf_X9_21 (pc := 52) h dX9_sum_52 (by assumption) (by omega) ?_
          refine jr_sipush (pc := 55) h dX9_sum_55 sp_430 ?_
          refine jr_iald (pc := 58) h (i := ((430 : Nat) : Int)) dX9_sum_58 hB3 (by omega) (by omega) ?_
          rw [show (((430 : Nat) : Int)).toNat = 430 from rfl, h430]
          refine iv_X9_62 (pc := 59) h hl hR dX9_sum_59 ⟨(Nat.le_of_ble_eq_true rfl), (Nat.le_of_ble_eq_true rfl), (Nat.le_of_ble_eq_true rfl), (Nat.le_of_ble_eq_true rfl)⟩ (Nat.le_of_ble_eq_true rfl) (by assumption) (by omega) (s_X9_done hX) (fun v_59 n_59 M_59 hn_59 hp => ?_)
          obtain ⟨⟨rfl, rfl⟩, hX, f9⟩ := hp
          have f1 := fr_tr f1 f9
          obtain ⟨hnm, hOm, hBm⟩ := id hX
          refine jr_iret (pc := 62) h hRt dX9_sum_62 rfl (Nat.le_of_ble_eq_true rfl) (Nat.le_of_ble_eq_true rfl) ?_
          refine lfA9 ?_ hX f1
          unfold x_sum
          (repeat' split) <;> first | rfl | (exfalso; omega) | contradiction
      · first | have d_29 := bz_0.mp c_29 | have d_29 := bz_1.mp c_29 | skip
        refine jr_aload_n (pc := 32) h dX9_sum_32 rfl ?_
        refine jr_aload_n (pc := 33) h dX9_sum_33 rfl ?_
        refine gf_X9_21 (pc := 34) h dX9_sum_34 (by assumption) (by omega) ?_
        refine jr_sipush (pc := 37) h dX9_sum_37 sp_422 ?_
        refine jr_iald (pc := 40) h (i := ((422 : Nat) : Int)) dX9_sum_40 hB3 (by omega) (by omega) ?_
        rw [show (((422 : Nat) : Int)).toNat = 422 from rfl, h422]
        refine iv_X9_62 (pc := 41) h hl hR dX9_sum_41 ⟨(Nat.le_of_ble_eq_true rfl), (Nat.le_of_ble_eq_true rfl), (Nat.le_of_ble_eq_true rfl), (Nat.le_of_ble_eq_true rfl)⟩ (Nat.le_of_ble_eq_true rfl) (by assumption) (by omega) (s_X9_done hX) (fun v_41 n_41 M_41 hn_41 hp => ?_)
        obtain ⟨⟨rfl, rfl⟩, hX, f9⟩ := hp
        have f1 := fr_tr f1 f9
        obtain ⟨hnm, hOm, hBm⟩ := id hX
        refine jr_iret (pc := 44) h hRt dX9_sum_44 rfl (Nat.le_of_ble_eq_true rfl) (Nat.le_of_ble_eq_true rfl) ?_
        refine lfA9 ?_ hX f1
        unfold x_sum
        (repeat' split) <;> first | rfl | (exfalso; omega) | contradiction
    · first | have d_18 := bz_0.mp c_18 | have d_18 := bz_1.mp c_18 | skip
      refine jr_aload_n (pc := 21) h dX9_sum_21 rfl ?_
      refine jr_iconst (pc := 22) h dX9_sum_22 ?_
      refine iv_X9_58 (pc := 23) h hl hR dX9_sum_23 ⟨(Nat.le_of_ble_eq_true rfl), (Nat.le_of_ble_eq_true rfl), (Nat.le_of_ble_eq_true rfl), (Nat.le_of_ble_eq_true rfl)⟩ (Nat.le_of_ble_eq_true rfl) (by assumption) (by omega) (s_X9_refused hX) (fun v_23 n_23 M_23 hn_23 hp => ?_)
      obtain ⟨⟨rfl, rfl⟩, hX, f9⟩ := hp
      have f1 := fr_tr f1 f9
      obtain ⟨hnm, hOm, hBm⟩ := id hX
      refine jr_iret (pc := 26) h hRt dX9_sum_26 rfl (Nat.le_of_ble_eq_true rfl) (Nat.le_of_ble_eq_true rfl) ?_
      refine lfA9 ?_ hX f1
      unfold x_sum
      (repeat' split) <;> first | rfl | (exfalso; omega) | contradiction
