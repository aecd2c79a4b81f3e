/-! 80: the reference: till, size -/
set_option maxHeartbeats 1000000 in
set_option maxRecDepth 20000 in
theorem s_X9_till {l : Launch} {n : Nat} {M : jdM} {m : Nat} {g : Nat → Int} {w : Int} {fl rd : Value} {B : Nat → Nat → Int} (hX : MX M n m g w fl rd B) {x y : Int} (hx : -2147483648 ≤ x ∧ x < 2147483648) (hy : -2147483648 ≤ y ∧ y < 2147483648) : Ct l yX9_till cX9_till 3 (some .boolean) rX9_till [.ref m, jI x, jI y] n M (fun vv n' M' => (vv = some (jI (if (coinI x ≠ -1 ∧ 0 ≤ y ∧ y ≤ 99) then 1 else 0)) ∧ n = n') ∧ MX M' n m (rg g (if (coinI x ≠ -1 ∧ 0 ≤ y ∧ y ≤ 99) then 0 else 2)) w fl rd (if (coinI x ≠ -1 ∧ 0 ≤ y ∧ y ≤ 99) then up B 8 (up (B 8) (coinI x).toNat y) else B) ∧ fr (MXf m) M M') := by
  refine Ct_of [some (.ref m), some (jI x), some (jI y)] (by decide) (Nat.le_of_ble_eq_true rfl) rfl (fun κ hl h hR hRt hmn hn0 => ?_)
  have h : Ok κ RX9 cX9_till 3 (some .boolean) := h
  obtain ⟨hnm, hOm, hBm⟩ := id hX
  have hOm : M m = jdO 9 (fX9 m _ _ fl rd) := hOm
  refine jr_aload_n (pc := 0) h dX9_till_0 rfl ?_
  refine jr_iconst (pc := 1) h dX9_till_1 ?_
  refine pf_X9_52 (pc := 2) h dX9_till_2 hOm (by omega) ?_
  refine jm_gen (fun M2 hM2 => ?_)
  rw [fX9_0] at hM2
  have hX := MX_o hX hM2
  have f9 : fr (MXf m) _ M2 := fr_up hM2 ⟨by omega, by omega⟩
  obtain ⟨hnm, hOm, hBm⟩ := id hX
  have f1 := f9
  have hB8 : M2 (m + 8) = jdA 6 (B 8) := hBm 8 (by omega) (by omega)
  refine jr_iload_n (pc := 5) h dX9_till_5 rfl ?_
  refine iv_X9_591 (pc := 6) h hl hR dX9_till_6 ⟨(Nat.le_of_ble_eq_true rfl), (Nat.le_of_ble_eq_true rfl), (Nat.le_of_ble_eq_true rfl), (Nat.le_of_ble_eq_true rfl)⟩ (Nat.le_of_ble_eq_true rfl) (s_X9_coinOf (by omega)) (fun v_6 n_6 M_6 hn_6 hp => ?_)
  obtain ⟨⟨rfl, rfl, rfl⟩, gr_6⟩ := hp
  refine jr_iconst (pc := 9) h dX9_till_9 ?_
  refine jr_icmp_eq (pc := 10) h 23 dX9_till_10 (by decide) (by omega) (by omega) (fun c_10 => ?_) (fun c_10 => ?_)
  · first | have d_10 := bz_0.mp c_10 | have d_10 := bz_1.mp c_10 | skip
    refine jr_aload_n (pc := 23) h dX9_till_23 rfl ?_
    refine jr_iconst (pc := 24) h dX9_till_24 ?_
    refine iv_X9_462 (pc := 25) h hl hR dX9_till_25 ⟨(Nat.le_of_ble_eq_true rfl), (Nat.le_of_ble_eq_true rfl), (Nat.le_of_ble_eq_true rfl), (Nat.le_of_ble_eq_true rfl)⟩ (Nat.le_of_ble_eq_true rfl) (by assumption) (by omega) (s_X9_denied hX) (fun v_25 n_25 M_25 hn_25 hp => ?_)
    obtain ⟨⟨rfl, rfl⟩, hX, f9⟩ := hp
    have f1 := fr_tr f1 f9
    obtain ⟨hnm, hOm, hBm⟩ := id hX
    refine jr_iret (pc := 28) h hRt dX9_till_28 rfl (Nat.le_of_ble_eq_true rfl) (Nat.le_of_ble_eq_true rfl) ?_
    rw [if_neg (by omega), if_neg (by omega), if_neg (by omega)]
    exact ⟨⟨rfl, rfl⟩, hX, f1⟩
  · first | have d_10 := bz_0.mp c_10 | have d_10 := bz_1.mp c_10 | skip
    refine jr_iload_n (pc := 13) h dX9_till_13 rfl ?_
    refine jr_iconst (pc := 14) h dX9_till_14 ?_
    refine jr_bipush (pc := 15) h dX9_till_15 bp_99 ?_
    refine iv_X9_130 (pc := 17) h hl hR dX9_till_17 ⟨(Nat.le_of_ble_eq_true rfl), (Nat.le_of_ble_eq_true rfl), (Nat.le_of_ble_eq_true rfl), (Nat.le_of_ble_eq_true rfl)⟩ (Nat.le_of_ble_eq_true rfl) (s_X9_in (by omega) (by omega) (by omega)) (fun v_17 n_17 M_17 hn_17 hp => ?_)
    obtain ⟨⟨rfl, rfl, rfl⟩, gr_17⟩ := hp
    refine jr_if_ne (pc := 20) h 29 dX9_till_20 (by decide) (by omega) (fun c_20 => ?_) (fun c_20 => ?_)
    · first | have d_20 := bz_0.mp c_20 | have d_20 := bz_1.mp c_20 | skip
      refine jr_aload_n (pc := 29) h dX9_till_29 rfl ?_
      refine gf_X9_37 (pc := 30) h dX9_till_30 (by assumption) (by omega) ?_
      refine jr_iload_n (pc := 33) h dX9_till_33 rfl ?_
      refine iv_X9_591 (pc := 34) h hl hR dX9_till_34 ⟨(Nat.le_of_ble_eq_true rfl), (Nat.le_of_ble_eq_true rfl), (Nat.le_of_ble_eq_true rfl), (Nat.le_of_ble_eq_true rfl)⟩ (Nat.le_of_ble_eq_true rfl) (s_X9_coinOf (by omega)) (fun v_34 n_34 M_34 hn_34 hp => ?_)
      obtain ⟨⟨rfl, rfl, rfl⟩, gr_34⟩ := hp
      refine jr_iload_n (pc := 37) h dX9_till_37 rfl ?_
      refine jr_iast (pc := 38) h dX9_till_38 hB8 (by omega) (by omega) ?_
      refine jm_gen (fun M3 hM3 => ?_)
      have hX := MX_B (i := 8) hX hM3 (by omega)
      have f9 : fr (MXf m) _ M3 := fr_up (S := MXf m) hM3 ⟨by omega, by omega⟩
      have f1 := fr_tr f1 f9
      obtain ⟨hnm, hOm, hBm⟩ := id hX
      refine jr_aload_n (pc := 39) h dX9_till_39 rfl ?_
      refine iv_X9_466 (pc := 40) h hl hR dX9_till_40 ⟨(Nat.le_of_ble_eq_true rfl), (Nat.le_of_ble_eq_true rfl), (Nat.le_of_ble_eq_true rfl), (Nat.le_of_ble_eq_true rfl)⟩ (Nat.le_of_ble_eq_true rfl) (by assumption) (by omega) (s_X9_granted hX) (fun v_40 n_40 M_40 hn_40 hp => ?_)
      obtain ⟨⟨rfl, rfl⟩, hX, f9⟩ := hp
      have f1 := fr_tr f1 f9
      obtain ⟨hnm, hOm, hBm⟩ := id hX
      refine jr_pop (pc := 43) h dX9_till_43 rfl ?_
      refine jr_iconst (pc := 44) h dX9_till_44 ?_
      refine jr_iret (pc := 45) h hRt dX9_till_45 rfl (Nat.le_of_ble_eq_true rfl) (Nat.le_of_ble_eq_true rfl) ?_
      rw [if_pos (by omega), if_pos (by omega), if_pos (by omega)]
      exact ⟨⟨rfl, rfl⟩, hX, f1⟩
    · first | have d_20 := bz_0.mp c_20 | have d_20 := bz_1.mp c_20 | skip
      refine jr_aload_n (pc := 23) h dX9_till_23 rfl ?_
      refine jr_iconst (pc := 24) h dX9_till_24 ?_
      refine iv_X9_462 (pc := 25) h hl hR dX9_till_25 ⟨(Nat.le_of_ble_eq_true rfl), (Nat.le_of_ble_eq_true rfl), (Nat.le_of_ble_eq_true rfl), (Nat.le_of_ble_eq_true rfl)⟩ (Nat.le_of_ble_eq_true rfl) (by assumption) (by omega) (s_X9_denied hX) (fun v_25 n_25 M_25 hn_25 hp => ?_)
      obtain ⟨⟨rfl, rfl⟩, hX, f9⟩ := hp
      have f1 := fr_tr f1 f9
      obtain ⟨hnm, hOm, hBm⟩ := id hX
      refine jr_iret (pc := 28) h hRt dX9_till_28 rfl (Nat.le_of_ble_eq_true rfl) (Nat.le_of_ble_eq_true rfl) ?_
      rw [if_neg (by omega), if_neg (by omega), if_neg (by omega)]
      exact ⟨⟨rfl, rfl⟩, hX, f1⟩
set_option maxHeartbeats 2000000 in
set_option maxRecDepth 20000 in
theorem s_X9_size_0 {l : Launch} {n : Nat} {M : jdM} {m : Nat} {g : Nat → Int} {w : Int} {fl rd : Value} {B : Nat → Nat → Int} (hX : MX M n m g w fl rd B) {ct td bk si ld : Nat → Int} (hFX : FX M n m fl ct td bk si ld) {gc tg g3 : Nat → Int} (hm : g 19 = gc 6) (htp : g 6 = gc 1) (hnt : g 26 = tg 2) (h7 : B 3 429 = g3 7) (hc0 : (∀ j, ct j = 0) → gc 6 = 0 ∧ g3 7 = 0) : Ct l yX9_size cX9_size 2 (some .int) rX9_size [.ref m, jI 0] n M (fun vv n' M' => (vv = some (jI (x_size ct td gc g3 tg 0)) ∧ n = n') ∧ MX M' n m (up g 0 0) w fl rd B ∧ fr (MXf m) M M') := by
  refine Ct_of [some (.ref m), some (jI 0)] (by decide) (Nat.le_of_ble_eq_true rfl) rfl (fun κ hl h hR hRt hmn hn0 => ?_)
  have h : Ok κ RX9 cX9_size 2 (some .int) := h
  rcases hFX with ⟨rfl, hz⟩ | ⟨f, gf, A, rfl, hsep, hMF, hFM⟩
  · skip
    obtain ⟨hnm, hOm, hBm⟩ := id hX
    have hOm : M m = jdO 9 (fX9 m _ _ .null rd) := hOm
    refine jr_aload_n (pc := 0) h dX9_size_0 rfl ?_
    refine jr_iconst (pc := 1) h dX9_size_1 ?_
    refine pf_X9_52 (pc := 2) h dX9_size_2 hOm (by omega) ?_
    refine jm_gen (fun M2 hM2 => ?_)
    rw [fX9_0] at hM2
    have hX := MX_o hX hM2
    have f9 : fr (MXf m) _ M2 := fr_up hM2 ⟨by omega, by omega⟩
    obtain ⟨hnm, hOm, hBm⟩ := id hX
    have f1 := f9
    refine jr_iload_n (pc := 5) h dX9_size_5 rfl ?_
    refine jr_bipush (pc := 6) h dX9_size_6 bp_14 ?_
    refine jr_icmp_ne (pc := 8) h 16 dX9_size_8 (by decide) (by omega) (by omega) (fun c_8 => ?_) (fun c_8 => ?_)
    · first | have d_8 := bz_0.mp c_8 | have d_8 := bz_1.mp c_8 | skip
      refine jr_iload_n (pc := 16) h dX9_size_16 rfl ?_
      refine jr_bipush (pc := 17) h dX9_size_17 bp_15 ?_
      refine jr_icmp_ne (pc := 19) h 27 dX9_size_19 (by decide) (by omega) (by omega) (fun c_19 => ?_) (fun c_19 => ?_)
      · first | have d_19 := bz_0.mp c_19 | have d_19 := bz_1.mp c_19 | skip
        refine jr_iload_n (pc := 27) h dX9_size_27 rfl ?_
        refine jr_iconst (pc := 28) h dX9_size_28 ?_
        refine jr_bipush (pc := 29) h dX9_size_29 bp_13 ?_
        refine iv_X9_130 (pc := 31) h hl hR dX9_size_31 ⟨(Nat.le_of_ble_eq_true rfl), (Nat.le_of_ble_eq_true rfl), (Nat.le_of_ble_eq_true rfl), (Nat.le_of_ble_eq_true rfl)⟩ (Nat.le_of_ble_eq_true rfl) (s_X9_in (by omega) (by omega) (by omega)) (fun v_31 n_31 M_31 hn_31 hp => ?_)
        obtain ⟨⟨rfl, rfl, rfl⟩, gr_31⟩ := hp
        refine jr_if_ne (pc := 34) h 39 dX9_size_34 (by decide) (by omega) (fun c_34 => ?_) (fun c_34 => ?_)
        · first | have d_34 := bz_0.mp c_34 | have d_34 := bz_1.mp c_34 | skip
          refine jr_aload_n (pc := 39) h dX9_size_39 rfl ?_
          refine gf_X9_425 (pc := 40) h dX9_size_40 (by assumption) (by omega) ?_
          refine jr_ifnonnullN (pc := 43) h dX9_size_43 ?_
          refine jr_iconst (pc := 46) h dX9_size_46 ?_
          refine jr_iret (pc := 47) h hRt dX9_size_47 rfl (Nat.le_of_ble_eq_true rfl) (Nat.le_of_ble_eq_true rfl) ?_
          first
          | (exfalso; omega)
          | (refine ⟨⟨?_, rfl⟩, hX, f1⟩; refine congrArg (fun z => some (jI z)) ?_; first | exact (rows0 hz).symm | exact (hz _).symm | exact (hc0 hz).1.symm | exact (hc0 hz).2.symm)
        · first | have d_34 := bz_0.mp c_34 | have d_34 := bz_1.mp c_34 | skip
          refine jr_iconst (pc := 37) h dX9_size_37 ?_
          refine jr_iret (pc := 38) h hRt dX9_size_38 rfl (Nat.le_of_ble_eq_true rfl) (Nat.le_of_ble_eq_true rfl) ?_
          first
          | (exfalso; omega)
          | (refine ⟨⟨?_, rfl⟩, hX, f1⟩; refine congrArg (fun z => some (jI z)) ?_; first | exact (rows0 hz).symm | exact (hz _).symm | exact (hc0 hz).1.symm | exact (hc0 hz).2.symm)
      · first | have d_19 := bz_0.mp c_19 | have d_19 := bz_1.mp c_19 | skip
        refine jr_aload_n (pc := 22) h dX9_size_22 rfl ?_
        refine gf_X9_603 (pc := 23) h dX9_size_23 (by assumption) (by omega) ?_
        refine jr_iret (pc := 26) h hRt dX9_size_26 rfl (Nat.le_of_ble_eq_true rfl) (Nat.le_of_ble_eq_true rfl) ?_
        first
        | (exfalso; omega)
        | (refine ⟨⟨?_, rfl⟩, hX, f1⟩; refine congrArg (fun z => some (jI z)) ?_; first | exact (rows0 hz).symm | exact (hz _).symm | exact (hc0 hz).1.symm | exact (hc0 hz).2.symm)
    · first | have d_8 := bz_0.mp c_8 | have d_8 := bz_1.mp c_8 | skip
      refine jr_aload_n (pc := 11) h dX9_size_11 rfl ?_
      refine gf_X9_418 (pc := 12) h dX9_size_12 (by assumption) (by omega) ?_
      refine jr_iret (pc := 15) h hRt dX9_size_15 rfl (Nat.le_of_ble_eq_true rfl) (Nat.le_of_ble_eq_true rfl) ?_
      first
      | (exfalso; omega)
      | (refine ⟨⟨?_, rfl⟩, hX, f1⟩; refine congrArg (fun z => some (jI z)) ?_; first | exact (rows0 hz).symm | exact (hz _).symm | exact (hc0 hz).1.symm | exact (hc0 hz).2.symm)
  · skip
    obtain ⟨hnm, hOm, hBm⟩ := id hX
    have hOm : M m = jdO 9 (fX9 m _ _ (.ref f) rd) := hOm
    refine jr_aload_n (pc := 0) h dX9_size_0 rfl ?_
    refine jr_iconst (pc := 1) h dX9_size_1 ?_
    refine pf_X9_52 (pc := 2) h dX9_size_2 hOm (by omega) ?_
    refine jm_gen (fun M2 hM2 => ?_)
    rw [fX9_0] at hM2
    have hX := MX_o hX hM2
    have f9 : fr (MXf m) _ M2 := fr_up hM2 ⟨by omega, by omega⟩
    obtain ⟨hnm, hOm, hBm⟩ := id hX
    have f1 := f9
    have hMF := MF_fr hMF f9 (Nat.le_refl _) (fun k h1 h2 q => by have := q.1; have := q.2; omega)
    obtain ⟨hnf, hOf, hAf⟩ := id hMF
    obtain ⟨⟨e0, e1, e2, e3, e4⟩, ⟨k5, k6, k7, k8, k9, k10, k11, k12, k13, k14, k15⟩, ⟨a2, a3, a4, a5, a6, a7, a8, a9, a10, a11, a12⟩, ⟨hlim, hLI, hends, hrt⟩, ⟨hbk, hld⟩, hc0, hc1, hc2, hc5⟩ := id hFM
    have l2 := hlim 2 (by omega)
    have l3 := hlim 3 (by omega)
    have l4 := hlim 4 (by omega)
    have l5 := hlim 5 (by omega)
    have l6 := hlim 6 (by omega)
    have l7 := hlim 7 (by omega)
    have l8 := hlim 8 (by omega)
    have l9 := hlim 9 (by omega)
    have l10 := hlim 10 (by omega)
    have l11 := hlim 11 (by omega)
    have l12 := hlim 12 (by omega)
    rw [show (jtab 0).2.2 2 = 4 from rfl] at l2
    rw [show (jtab 0).2.2 3 = 6 from rfl] at l3
    rw [show (jtab 0).2.2 4 = 6 from rfl] at l4
    rw [show (jtab 0).2.2 5 = 2 from rfl] at l5
    rw [show (jtab 0).2.2 6 = 8 from rfl] at l6
    rw [show (jtab 0).2.2 7 = 5 from rfl] at l7
    rw [show (jtab 0).2.2 8 = 6 from rfl] at l8
    rw [show (jtab 0).2.2 9 = 3 from rfl] at l9
    rw [show (jtab 0).2.2 10 = 3 from rfl] at l10
    rw [show (jtab 0).2.2 11 = 4 from rfl] at l11
    rw [show (jtab 0).2.2 12 = 4 from rfl] at l12
    have hcr : 1 ≤ c_rows ct td ∧ c_rows ct td ≤ 40 := by
      have h9 := (hLI 0 0 (by omega) (by omega) (by omega)).1 rfl
      have e9 : c_rows ct td = c_get td 0 0 0 := by unfold c_rows; rw [if_neg (by omega)]
      omega
    have hB3 : M2 (m + 3) = jdA 431 (B 3) := hBm 3 (by omega) (by omega)
    refine jr_iload_n (pc := 5) h dX9_size_5 rfl ?_
    refine jr_bipush (pc := 6) h dX9_size_6 bp_14 ?_
    refine jr_icmp_ne (pc := 8) h 16 dX9_size_8 (by decide) (by omega) (by omega) (fun c_8 => ?_) (fun c_8 => ?_)
    · first | have d_8 := bz_0.mp c_8 | have d_8 := bz_1.mp c_8 | skip
      refine jr_iload_n (pc := 16) h dX9_size_16 rfl ?_
      refine jr_bipush (pc := 17) h dX9_size_17 bp_15 ?_
      refine jr_icmp_ne (pc := 19) h 27 dX9_size_19 (by decide) (by omega) (by omega) (fun c_19 => ?_) (fun c_19 => ?_)
      · first | have d_19 := bz_0.mp c_19 | have d_19 := bz_1.mp c_19 | skip
        refine jr_iload_n (pc := 27) h dX9_size_27 rfl ?_
        refine jr_iconst (pc := 28) h dX9_size_28 ?_
        refine jr_bipush (pc := 29) h dX9_size_29 bp_13 ?_
        refine iv_X9_130 (pc := 31) h hl hR dX9_size_31 ⟨(Nat.le_of_ble_eq_true rfl), (Nat.le_of_ble_eq_true rfl), (Nat.le_of_ble_eq_true rfl), (Nat.le_of_ble_eq_true rfl)⟩ (Nat.le_of_ble_eq_true rfl) (s_X9_in (by omega) (by omega) (by omega)) (fun v_31 n_31 M_31 hn_31 hp => ?_)
        obtain ⟨⟨rfl, rfl, rfl⟩, gr_31⟩ := hp
        refine jr_if_ne (pc := 34) h 39 dX9_size_34 (by decide) (by omega) (fun c_34 => ?_) (fun c_34 => ?_)
        · first | have d_34 := bz_0.mp c_34 | have d_34 := bz_1.mp c_34 | skip
          refine jr_aload_n (pc := 39) h dX9_size_39 rfl ?_
          refine gf_X9_425 (pc := 40) h dX9_size_40 (by assumption) (by omega) ?_
          refine jr_ifnonnull (pc := 43) h 48 dX9_size_43 (by decide) ?_
          refine jr_iload_n (pc := 48) h dX9_size_48 rfl ?_
          refine jr_tableIn (pc := 49) h (x := 0) (off := 67) 116 dX9_size_49 (by omega) (by omega) (by omega) rfl (by decide) ?_
          refine jr_aload_n (pc := 116) h dX9_size_116 rfl ?_
          refine gf_X9_425 (pc := 117) h dX9_size_117 (by assumption) (by omega) ?_
          refine gf_X9_205 (pc := 120) h dX9_size_120 (by assumption) (by omega) ?_
          refine jr_iret (pc := 123) h hRt dX9_size_123 rfl (Nat.le_of_ble_eq_true rfl) (Nat.le_of_ble_eq_true rfl) ?_
          first
          | (exfalso; omega)
          | (refine ⟨⟨?_, rfl⟩, hX, f1⟩; refine congrArg (fun z => some (jI z)) ?_; first | exact e0 | assumption | exact (up_ne (by omega)).trans hm | rfl)
        · first | have d_34 := bz_0.mp c_34 | have d_34 := bz_1.mp c_34 | skip
          refine jr_iconst (pc := 37) h dX9_size_37 ?_
          refine jr_iret (pc := 38) h hRt dX9_size_38 rfl (Nat.le_of_ble_eq_true rfl) (Nat.le_of_ble_eq_true rfl) ?_
          first
          | (exfalso; omega)
          | (refine ⟨⟨?_, rfl⟩, hX, f1⟩; refine congrArg (fun z => some (jI z)) ?_; first | exact e0 | assumption | exact (up_ne (by omega)).trans hm | rfl)
      · first | have d_19 := bz_0.mp c_19 | have d_19 := bz_1.mp c_19 | skip
        refine jr_aload_n (pc := 22) h dX9_size_22 rfl ?_
        refine gf_X9_603 (pc := 23) h dX9_size_23 (by assumption) (by omega) ?_
        refine jr_iret (pc := 26) h hRt dX9_size_26 rfl (Nat.le_of_ble_eq_true rfl) (Nat.le_of_ble_eq_true rfl) ?_
        first
        | (exfalso; omega)
        | (refine ⟨⟨?_, rfl⟩, hX, f1⟩; refine congrArg (fun z => some (jI z)) ?_; first | exact e0 | assumption | exact (up_ne (by omega)).trans hm | rfl)
    · first | have d_8 := bz_0.mp c_8 | have d_8 := bz_1.mp c_8 | skip
      refine jr_aload_n (pc := 11) h dX9_size_11 rfl ?_
      refine gf_X9_418 (pc := 12) h dX9_size_12 (by assumption) (by omega) ?_
      refine jr_iret (pc := 15) h hRt dX9_size_15 rfl (Nat.le_of_ble_eq_true rfl) (Nat.le_of_ble_eq_true rfl) ?_
      first
      | (exfalso; omega)
      | (refine ⟨⟨?_, rfl⟩, hX, f1⟩; refine congrArg (fun z => some (jI z)) ?_; first | exact e0 | assumption | exact (up_ne (by omega)).trans hm | rfl)
set_option maxHeartbeats 2000000 in
set_option maxRecDepth 20000 in
theorem s_X9_size_1 {l : Launch} {n : Nat} {M : jdM} {m : Nat} {g : Nat → Int} {w : Int} {fl rd : Value} {B : Nat → Nat → Int} (hX : MX M n m g w fl rd B) {ct td bk si ld : Nat → Int} (hFX : FX M n m fl ct td bk si ld) {gc tg g3 : Nat → Int} (hm : g 19 = gc 6) (htp : g 6 = gc 1) (hnt : g 26 = tg 2) (h7 : B 3 429 = g3 7) (hc0 : (∀ j, ct j = 0) → gc 6 = 0 ∧ g3 7 = 0) : Ct l yX9_size cX9_size 2 (some .int) rX9_size [.ref m, jI 1] n M (fun vv n' M' => (vv = some (jI (x_size ct td gc g3 tg 1)) ∧ n = n') ∧ MX M' n m (up g 0 0) w fl rd B ∧ fr (MXf m) M M') := by
  refine Ct_of [some (.ref m), some (jI 1)] (by decide) (Nat.le_of_ble_eq_true rfl) rfl (fun κ hl h hR hRt hmn hn0 => ?_)
  have h : Ok κ RX9 cX9_size 2 (some .int) := h
  rcases hFX with ⟨rfl, hz⟩ | ⟨f, gf, A, rfl, hsep, hMF, hFM⟩
  · skip
    obtain ⟨hnm, hOm, hBm⟩ := id hX
    have hOm : M m = jdO 9 (fX9 m _ _ .null rd) := hOm
    refine jr_aload_n (pc := 0) h dX9_size_0 rfl ?_
    refine jr_iconst (pc := 1) h dX9_size_1 ?_
    refine pf_X9_52 (pc := 2) h dX9_size_2 hOm (by omega) ?_
    refine jm_gen (fun M2 hM2 => ?_)
    rw [fX9_0] at hM2
    have hX := MX_o hX hM2
    have f9 : fr (MXf m) _ M2 := fr_up hM2 ⟨by omega, by omega⟩
    obtain ⟨hnm, hOm, hBm⟩ := id hX
    have f1 := f9
    refine jr_iload_n (pc := 5) h dX9_size_5 rfl ?_
    refine jr_bipush (pc := 6) h dX9_size_6 bp_14 ?_
    refine jr_icmp_ne (pc := 8) h 16 dX9_size_8 (by decide) (by omega) (by omega) (fun c_8 => ?_) (fun c_8 => ?_)
    · first | have d_8 := bz_0.mp c_8 | have d_8 := bz_1.mp c_8 | skip
      refine jr_iload_n (pc := 16) h dX9_size_16 rfl ?_
      refine jr_bipush (pc := 17) h dX9_size_17 bp_15 ?_
      refine jr_icmp_ne (pc := 19) h 27 dX9_size_19 (by decide) (by omega) (by omega) (fun c_19 => ?_) (fun c_19 => ?_)
      · first | have d_19 := bz_0.mp c_19 | have d_19 := bz_1.mp c_19 | skip
        refine jr_iload_n (pc := 27) h dX9_size_27 rfl ?_
        refine jr_iconst (pc := 28) h dX9_size_28 ?_
        refine jr_bipush (pc := 29) h dX9_size_29 bp_13 ?_
        refine iv_X9_130 (pc := 31) h hl hR dX9_size_31 ⟨(Nat.le_of_ble_eq_true rfl), (Nat.le_of_ble_eq_true rfl), (Nat.le_of_ble_eq_true rfl), (Nat.le_of_ble_eq_true rfl)⟩ (Nat.le_of_ble_eq_true rfl) (s_X9_in (by omega) (by omega) (by omega)) (fun v_31 n_31 M_31 hn_31 hp => ?_)
        obtain ⟨⟨rfl, rfl, rfl⟩, gr_31⟩ := hp
        refine jr_if_ne (pc := 34) h 39 dX9_size_34 (by decide) (by omega) (fun c_34 => ?_) (fun c_34 => ?_)
        · first | have d_34 := bz_0.mp c_34 | have d_34 := bz_1.mp c_34 | skip
          refine jr_aload_n (pc := 39) h dX9_size_39 rfl ?_
          refine gf_X9_425 (pc := 40) h dX9_size_40 (by assumption) (by omega) ?_
          refine jr_ifnonnullN (pc := 43) h dX9_size_43 ?_
          refine jr_iconst (pc := 46) h dX9_size_46 ?_
          refine jr_iret (pc := 47) h hRt dX9_size_47 rfl (Nat.le_of_ble_eq_true rfl) (Nat.le_of_ble_eq_true rfl) ?_
          first
          | (exfalso; omega)
          | (refine ⟨⟨?_, rfl⟩, hX, f1⟩; refine congrArg (fun z => some (jI z)) ?_; first | exact (rows0 hz).symm | exact (hz _).symm | exact (hc0 hz).1.symm | exact (hc0 hz).2.symm)
        · first | have d_34 := bz_0.mp c_34 | have d_34 := bz_1.mp c_34 | skip
          refine jr_iconst (pc := 37) h dX9_size_37 ?_
          refine jr_iret (pc := 38) h hRt dX9_size_38 rfl (Nat.le_of_ble_eq_true rfl) (Nat.le_of_ble_eq_true rfl) ?_
          first
          | (exfalso; omega)
          | (refine ⟨⟨?_, rfl⟩, hX, f1⟩; refine congrArg (fun z => some (jI z)) ?_; first | exact (rows0 hz).symm | exact (hz _).symm | exact (hc0 hz).1.symm | exact (hc0 hz).2.symm)
      · first | have d_19 := bz_0.mp c_19 | have d_19 := bz_1.mp c_19 | skip
        refine jr_aload_n (pc := 22) h dX9_size_22 rfl ?_
        refine gf_X9_603 (pc := 23) h dX9_size_23 (by assumption) (by omega) ?_
        refine jr_iret (pc := 26) h hRt dX9_size_26 rfl (Nat.le_of_ble_eq_true rfl) (Nat.le_of_ble_eq_true rfl) ?_
        first
        | (exfalso; omega)
        | (refine ⟨⟨?_, rfl⟩, hX, f1⟩; refine congrArg (fun z => some (jI z)) ?_; first | exact (rows0 hz).symm | exact (hz _).symm | exact (hc0 hz).1.symm | exact (hc0 hz).2.symm)
    · first | have d_8 := bz_0.mp c_8 | have d_8 := bz_1.mp c_8 | skip
      refine jr_aload_n (pc := 11) h dX9_size_11 rfl ?_
      refine gf_X9_418 (pc := 12) h dX9_size_12 (by assumption) (by omega) ?_
      refine jr_iret (pc := 15) h hRt dX9_size_15 rfl (Nat.le_of_ble_eq_true rfl) (Nat.le_of_ble_eq_true rfl) ?_
      first
      | (exfalso; omega)
      | (refine ⟨⟨?_, rfl⟩, hX, f1⟩; refine congrArg (fun z => some (jI z)) ?_; first | exact (rows0 hz).symm | exact (hz _).symm | exact (hc0 hz).1.symm | exact (hc0 hz).2.symm)
  · skip
    obtain ⟨hnm, hOm, hBm⟩ := id hX
    have hOm : M m = jdO 9 (fX9 m _ _ (.ref f) rd) := hOm
    refine jr_aload_n (pc := 0) h dX9_size_0 rfl ?_
    refine jr_iconst (pc := 1) h dX9_size_1 ?_
    refine pf_X9_52 (pc := 2) h dX9_size_2 hOm (by omega) ?_
    refine jm_gen (fun M2 hM2 => ?_)
    rw [fX9_0] at hM2
    have hX := MX_o hX hM2
    have f9 : fr (MXf m) _ M2 := fr_up hM2 ⟨by omega, by omega⟩
    obtain ⟨hnm, hOm, hBm⟩ := id hX
    have f1 := f9
    have hMF := MF_fr hMF f9 (Nat.le_refl _) (fun k h1 h2 q => by have := q.1; have := q.2; omega)
    obtain ⟨hnf, hOf, hAf⟩ := id hMF
    obtain ⟨⟨e0, e1, e2, e3, e4⟩, ⟨k5, k6, k7, k8, k9, k10, k11, k12, k13, k14, k15⟩, ⟨a2, a3, a4, a5, a6, a7, a8, a9, a10, a11, a12⟩, ⟨hlim, hLI, hends, hrt⟩, ⟨hbk, hld⟩, hc0, hc1, hc2, hc5⟩ := id hFM
    have l2 := hlim 2 (by omega)
    have l3 := hlim 3 (by omega)
    have l4 := hlim 4 (by omega)
    have l5 := hlim 5 (by omega)
    have l6 := hlim 6 (by omega)
    have l7 := hlim 7 (by omega)
    have l8 := hlim 8 (by omega)
    have l9 := hlim 9 (by omega)
    have l10 := hlim 10 (by omega)
    have l11 := hlim 11 (by omega)
    have l12 := hlim 12 (by omega)
    rw [show (jtab 0).2.2 2 = 4 from rfl] at l2
    rw [show (jtab 0).2.2 3 = 6 from rfl] at l3
    rw [show (jtab 0).2.2 4 = 6 from rfl] at l4
    rw [show (jtab 0).2.2 5 = 2 from rfl] at l5
    rw [show (jtab 0).2.2 6 = 8 from rfl] at l6
    rw [show (jtab 0).2.2 7 = 5 from rfl] at l7
    rw [show (jtab 0).2.2 8 = 6 from rfl] at l8
    rw [show (jtab 0).2.2 9 = 3 from rfl] at l9
    rw [show (jtab 0).2.2 10 = 3 from rfl] at l10
    rw [show (jtab 0).2.2 11 = 4 from rfl] at l11
    rw [show (jtab 0).2.2 12 = 4 from rfl] at l12
    have hcr : 1 ≤ c_rows ct td ∧ c_rows ct td ≤ 40 := by
      have h9 := (hLI 0 0 (by omega) (by omega) (by omega)).1 rfl
      have e9 : c_rows ct td = c_get td 0 0 0 := by unfold c_rows; rw [if_neg (by omega)]
      omega
    have hB3 : M2 (m + 3) = jdA 431 (B 3) := hBm 3 (by omega) (by omega)
    refine jr_iload_n (pc := 5) h dX9_size_5 rfl ?_
    refine jr_bipush (pc := 6) h dX9_size_6 bp_14 ?_
    refine jr_icmp_ne (pc := 8) h 16 dX9_size_8 (by decide) (by omega) (by omega) (fun c_8 => ?_) (fun c_8 => ?_)
    · first | have d_8 := bz_0.mp c_8 | have d_8 := bz_1.mp c_8 | skip
      refine jr_iload_n (pc := 16) h dX9_size_16 rfl ?_
      refine jr_bipush (pc := 17) h dX9_size_17 bp_15 ?_
      refine jr_icmp_ne (pc := 19) h 27 dX9_size_19 (by decide) (by omega) (by omega) (fun c_19 => ?_) (fun c_19 => ?_)
      · first | have d_19 := bz_0.mp c_19 | have d_19 := bz_1.mp c_19 | skip
        refine jr_iload_n (pc := 27) h dX9_size_27 rfl ?_
        refine jr_iconst (pc := 28) h dX9_size_28 ?_
        refine jr_bipush (pc := 29) h dX9_size_29 bp_13 ?_
        refine iv_X9_130 (pc := 31) h hl hR dX9_size_31 ⟨(Nat.le_of_ble_eq_true rfl), (Nat.le_of_ble_eq_true rfl), (Nat.le_of_ble_eq_true rfl), (Nat.le_of_ble_eq_true rfl)⟩ (Nat.le_of_ble_eq_true rfl) (s_X9_in (by omega) (by omega) (by omega)) (fun v_31 n_31 M_31 hn_31 hp => ?_)
        obtain ⟨⟨rfl, rfl, rfl⟩, gr_31⟩ := hp
        refine jr_if_ne (pc := 34) h 39 dX9_size_34 (by decide) (by omega) (fun c_34 => ?_) (fun c_34 => ?_)
        · first | have d_34 := bz_0.mp c_34 | have d_34 := bz_1.mp c_34 | skip
          refine jr_aload_n (pc := 39) h dX9_size_39 rfl ?_
          refine gf_X9_425 (pc := 40) h dX9_size_40 (by assumption) (by omega) ?_
          refine jr_ifnonnull (pc := 43) h 48 dX9_size_43 (by decide) ?_
          refine jr_iload_n (pc := 48) h dX9_size_48 rfl ?_
          refine jr_tableIn (pc := 49) h (x := 1) (off := 75) 124 dX9_size_49 (by omega) (by omega) (by omega) rfl (by decide) ?_
          refine jr_aload_n (pc := 124) h dX9_size_124 rfl ?_
          refine gf_X9_425 (pc := 125) h dX9_size_125 (by assumption) (by omega) ?_
          refine gf_X9_211 (pc := 128) h dX9_size_128 (by assumption) (by omega) ?_
          refine jr_iret (pc := 131) h hRt dX9_size_131 rfl (Nat.le_of_ble_eq_true rfl) (Nat.le_of_ble_eq_true rfl) ?_
          first
          | (exfalso; omega)
          | (refine ⟨⟨?_, rfl⟩, hX, f1⟩; refine congrArg (fun z => some (jI z)) ?_; first | exact e0 | assumption | exact (up_ne (by omega)).trans hm | rfl)
        · first | have d_34 := bz_0.mp c_34 | have d_34 := bz_1.mp c_34 | skip
          refine jr_iconst (pc := 37) h dX9_size_37 ?_
          refine jr_iret (pc := 38) h hRt dX9_size_38 rfl (Nat.le_of_ble_eq_true rfl) (Nat.le_of_ble_eq_true rfl) ?_
          first
          | (exfalso; omega)
          | (refine ⟨⟨?_, rfl⟩, hX, f1⟩; refine congrArg (fun z => some (jI z)) ?_; first | exact e0 | assumption | exact (up_ne (by omega)).trans hm | rfl)
      · first | have d_19 := bz_0.mp c_19 | have d_19 := bz_1.mp c_19 | skip
        refine jr_aload_n (pc := 22) h dX9_size_22 rfl ?_
        refine gf_X9_603 (pc := 23) h dX9_size_23 (by assumption) (by omega) ?_
        refine jr_iret (pc := 26) h hRt dX9_size_26 rfl (Nat.le_of_ble_eq_true rfl) (Nat.le_of_ble_eq_true rfl) ?_
        first
        | (exfalso; omega)
        | (refine ⟨⟨?_, rfl⟩, hX, f1⟩; refine congrArg (fun z => some (jI z)) ?_; first | exact e0 | assumption | exact (up_ne (by omega)).trans hm | rfl)
    · first | have d_8 := bz_0.mp c_8 | have d_8 := bz_1.mp c_8 | skip
      refine jr_aload_n (pc := 11) h dX9_size_11 rfl ?_
      refine gf_X9_418 (pc := 12) h dX9_size_12 (by assumption) (by omega) ?_
      refine jr_iret (pc := 15) h hRt dX9_size_15 rfl (Nat.le_of_ble_eq_true rfl) (Nat.le_of_ble_eq_true rfl) ?_
      first
      | (exfalso; omega)
      | (refine ⟨⟨?_, rfl⟩, hX, f1⟩; refine congrArg (fun z => some (jI z)) ?_; first | exact e0 | assumption | exact (up_ne (by omega)).trans hm | rfl)
set_option maxHeartbeats 2000000 in
set_option maxRecDepth 20000 in
theorem s_X9_size_2 {l : Launch} {n : Nat} {M : jdM} {m : Nat} {g : Nat → Int} {w : Int} {fl rd : Value} {B : Nat → Nat → Int} (hX : MX M n m g w fl rd B) {ct td bk si ld : Nat → Int} (hFX : FX M n m fl ct td bk si ld) {gc tg g3 : Nat → Int} (hm : g 19 = gc 6) (htp : g 6 = gc 1) (hnt : g 26 = tg 2) (h7 : B 3 429 = g3 7) (hc0 : (∀ j, ct j = 0) → gc 6 = 0 ∧ g3 7 = 0) : Ct l yX9_size cX9_size 2 (some .int) rX9_size [.ref m, jI 2] n M (fun vv n' M' => (vv = some (jI (x_size ct td gc g3 tg 2)) ∧ n = n') ∧ MX M' n m (up g 0 0) w fl rd B ∧ fr (MXf m) M M') := by
  refine Ct_of [some (.ref m), some (jI 2)] (by decide) (Nat.le_of_ble_eq_true rfl) rfl (fun κ hl h hR hRt hmn hn0 => ?_)
  have h : Ok κ RX9 cX9_size 2 (some .int) := h
  rcases hFX with ⟨rfl, hz⟩ | ⟨f, gf, A, rfl, hsep, hMF, hFM⟩
  · skip
    obtain ⟨hnm, hOm, hBm⟩ := id hX
    have hOm : M m = jdO 9 (fX9 m _ _ .null rd) := hOm
    refine jr_aload_n (pc := 0) h dX9_size_0 rfl ?_
    refine jr_iconst (pc := 1) h dX9_size_1 ?_
    refine pf_X9_52 (pc := 2) h dX9_size_2 hOm (by omega) ?_
    refine jm_gen (fun M2 hM2 => ?_)
    rw [fX9_0] at hM2
    have hX := MX_o hX hM2
    have f9 : fr (MXf m) _ M2 := fr_up hM2 ⟨by omega, by omega⟩
    obtain ⟨hnm, hOm, hBm⟩ := id hX
    have f1 := f9
    refine jr_iload_n (pc := 5) h dX9_size_5 rfl ?_
    refine jr_bipush (pc := 6) h dX9_size_6 bp_14 ?_
    refine jr_icmp_ne (pc := 8) h 16 dX9_size_8 (by decide) (by omega) (by omega) (fun c_8 => ?_) (fun c_8 => ?_)
    · first | have d_8 := bz_0.mp c_8 | have d_8 := bz_1.mp c_8 | skip
      refine jr_iload_n (pc := 16) h dX9_size_16 rfl ?_
      refine jr_bipush (pc := 17) h dX9_size_17 bp_15 ?_
      refine jr_icmp_ne (pc := 19) h 27 dX9_size_19 (by decide) (by omega) (by omega) (fun c_19 => ?_) (fun c_19 => ?_)
      · first | have d_19 := bz_0.mp c_19 | have d_19 := bz_1.mp c_19 | skip
        refine jr_iload_n (pc := 27) h dX9_size_27 rfl ?_
        refine jr_iconst (pc := 28) h dX9_size_28 ?_
        refine jr_bipush (pc := 29) h dX9_size_29 bp_13 ?_
        refine iv_X9_130 (pc := 31) h hl hR dX9_size_31 ⟨(Nat.le_of_ble_eq_true rfl), (Nat.le_of_ble_eq_true rfl), (Nat.le_of_ble_eq_true rfl), (Nat.le_of_ble_eq_true rfl)⟩ (Nat.le_of_ble_eq_true rfl) (s_X9_in (by omega) (by omega) (by omega)) (fun v_31 n_31 M_31 hn_31 hp => ?_)
        obtain ⟨⟨rfl, rfl, rfl⟩, gr_31⟩ := hp
        refine jr_if_ne (pc := 34) h 39 dX9_size_34 (by decide) (by omega) (fun c_34 => ?_) (fun c_34 => ?_)
        · first | have d_34 := bz_0.mp c_34 | have d_34 := bz_1.mp c_34 | skip
          refine jr_aload_n (pc := 39) h dX9_size_39 rfl ?_
          refine gf_X9_425 (pc := 40) h dX9_size_40 (by assumption) (by omega) ?_
          refine jr_ifnonnullN (pc := 43) h dX9_size_43 ?_
          refine jr_iconst (pc := 46) h dX9_size_46 ?_
          refine jr_iret (pc := 47) h hRt dX9_size_47 rfl (Nat.le_of_ble_eq_true rfl) (Nat.le_of_ble_eq_true rfl) ?_
          first
          | (exfalso; omega)
          | (refine ⟨⟨?_, rfl⟩, hX, f1⟩; refine congrArg (fun z => some (jI z)) ?_; first | exact (rows0 hz).symm | exact (hz _).symm | exact (hc0 hz).1.symm | exact (hc0 hz).2.symm)
        · first | have d_34 := bz_0.mp c_34 | have d_34 := bz_1.mp c_34 | skip
          refine jr_iconst (pc := 37) h dX9_size_37 ?_
          refine jr_iret (pc := 38) h hRt dX9_size_38 rfl (Nat.le_of_ble_eq_true rfl) (Nat.le_of_ble_eq_true rfl) ?_
          first
          | (exfalso; omega)
          | (refine ⟨⟨?_, rfl⟩, hX, f1⟩; refine congrArg (fun z => some (jI z)) ?_; first | exact (rows0 hz).symm | exact (hz _).symm | exact (hc0 hz).1.symm | exact (hc0 hz).2.symm)
      · first | have d_19 := bz_0.mp c_19 | have d_19 := bz_1.mp c_19 | skip
        refine jr_aload_n (pc := 22) h dX9_size_22 rfl ?_
        refine gf_X9_603 (pc := 23) h dX9_size_23 (by assumption) (by omega) ?_
        refine jr_iret (pc := 26) h hRt dX9_size_26 rfl (Nat.le_of_ble_eq_true rfl) (Nat.le_of_ble_eq_true rfl) ?_
        first
        | (exfalso; omega)
        | (refine ⟨⟨?_, rfl⟩, hX, f1⟩; refine congrArg (fun z => some (jI z)) ?_; first | exact (rows0 hz).symm | exact (hz _).symm | exact (hc0 hz).1.symm | exact (hc0 hz).2.symm)
    · first | have d_8 := bz_0.mp c_8 | have d_8 := bz_1.mp c_8 | skip
      refine jr_aload_n (pc := 11) h dX9_size_11 rfl ?_
      refine gf_X9_418 (pc := 12) h dX9_size_12 (by assumption) (by omega) ?_
      refine jr_iret (pc := 15) h hRt dX9_size_15 rfl (Nat.le_of_ble_eq_true rfl) (Nat.le_of_ble_eq_true rfl) ?_
      first
      | (exfalso; omega)
      | (refine ⟨⟨?_, rfl⟩, hX, f1⟩; refine congrArg (fun z => some (jI z)) ?_; first | exact (rows0 hz).symm | exact (hz _).symm | exact (hc0 hz).1.symm | exact (hc0 hz).2.symm)
  · skip
    obtain ⟨hnm, hOm, hBm⟩ := id hX
    have hOm : M m = jdO 9 (fX9 m _ _ (.ref f) rd) := hOm
    refine jr_aload_n (pc := 0) h dX9_size_0 rfl ?_
    refine jr_iconst (pc := 1) h dX9_size_1 ?_
    refine pf_X9_52 (pc := 2) h dX9_size_2 hOm (by omega) ?_
    refine jm_gen (fun M2 hM2 => ?_)
    rw [fX9_0] at hM2
    have hX := MX_o hX hM2
    have f9 : fr (MXf m) _ M2 := fr_up hM2 ⟨by omega, by omega⟩
    obtain ⟨hnm, hOm, hBm⟩ := id hX
    have f1 := f9
    have hMF := MF_fr hMF f9 (Nat.le_refl _) (fun k h1 h2 q => by have := q.1; have := q.2; omega)
    obtain ⟨hnf, hOf, hAf⟩ := id hMF
    obtain ⟨⟨e0, e1, e2, e3, e4⟩, ⟨k5, k6, k7, k8, k9, k10, k11, k12, k13, k14, k15⟩, ⟨a2, a3, a4, a5, a6, a7, a8, a9, a10, a11, a12⟩, ⟨hlim, hLI, hends, hrt⟩, ⟨hbk, hld⟩, hc0, hc1, hc2, hc5⟩ := id hFM
    have l2 := hlim 2 (by omega)
    have l3 := hlim 3 (by omega)
    have l4 := hlim 4 (by omega)
    have l5 := hlim 5 (by omega)
    have l6 := hlim 6 (by omega)
    have l7 := hlim 7 (by omega)
    have l8 := hlim 8 (by omega)
    have l9 := hlim 9 (by omega)
    have l10 := hlim 10 (by omega)
    have l11 := hlim 11 (by omega)
    have l12 := hlim 12 (by omega)
    rw [show (jtab 0).2.2 2 = 4 from rfl] at l2
    rw [show (jtab 0).2.2 3 = 6 from rfl] at l3
    rw [show (jtab 0).2.2 4 = 6 from rfl] at l4
    rw [show (jtab 0).2.2 5 = 2 from rfl] at l5
    rw [show (jtab 0).2.2 6 = 8 from rfl] at l6
    rw [show (jtab 0).2.2 7 = 5 from rfl] at l7
    rw [show (jtab 0).2.2 8 = 6 from rfl] at l8
    rw [show (jtab 0).2.2 9 = 3 from rfl] at l9
    rw [show (jtab 0).2.2 10 = 3 from rfl] at l10
    rw [show (jtab 0).2.2 11 = 4 from rfl] at l11
    rw [show (jtab 0).2.2 12 = 4 from rfl] at l12
    have hcr : 1 ≤ c_rows ct td ∧ c_rows ct td ≤ 40 := by
      have h9 := (hLI 0 0 (by omega) (by omega) (by omega)).1 rfl
      have e9 : c_rows ct td = c_get td 0 0 0 := by unfold c_rows; rw [if_neg (by omega)]
      omega
    have hB3 : M2 (m + 3) = jdA 431 (B 3) := hBm 3 (by omega) (by omega)
    refine jr_iload_n (pc := 5) h dX9_size_5 rfl ?_
    refine jr_bipush (pc := 6) h dX9_size_6 bp_14 ?_
    refine jr_icmp_ne (pc := 8) h 16 dX9_size_8 (by decide) (by omega) (by omega) (fun c_8 => ?_) (fun c_8 => ?_)
    · first | have d_8 := bz_0.mp c_8 | have d_8 := bz_1.mp c_8 | skip
      refine jr_iload_n (pc := 16) h dX9_size_16 rfl ?_
      refine jr_bipush (pc := 17) h dX9_size_17 bp_15 ?_
      refine jr_icmp_ne (pc := 19) h 27 dX9_size_19 (by decide) (by omega) (by omega) (fun c_19 => ?_) (fun c_19 => ?_)
      · first | have d_19 := bz_0.mp c_19 | have d_19 := bz_1.mp c_19 | skip
        refine jr_iload_n (pc := 27) h dX9_size_27 rfl ?_
        refine jr_iconst (pc := 28) h dX9_size_28 ?_
        refine jr_bipush (pc := 29) h dX9_size_29 bp_13 ?_
        refine iv_X9_130 (pc := 31) h hl hR dX9_size_31 ⟨(Nat.le_of_ble_eq_true rfl), (Nat.le_of_ble_eq_true rfl), (Nat.le_of_ble_eq_true rfl), (Nat.le_of_ble_eq_true rfl)⟩ (Nat.le_of_ble_eq_true rfl) (s_X9_in (by omega) (by omega) (by omega)) (fun v_31 n_31 M_31 hn_31 hp => ?_)
        obtain ⟨⟨rfl, rfl, rfl⟩, gr_31⟩ := hp
        refine jr_if_ne (pc := 34) h 39 dX9_size_34 (by decide) (by omega) (fun c_34 => ?_) (fun c_34 => ?_)
        · first | have d_34 := bz_0.mp c_34 | have d_34 := bz_1.mp c_34 | skip
          refine jr_aload_n (pc := 39) h dX9_size_39 rfl ?_
          refine gf_X9_425 (pc := 40) h dX9_size_40 (by assumption) (by omega) ?_
          refine jr_ifnonnull (pc := 43) h 48 dX9_size_43 (by decide) ?_
          refine jr_iload_n (pc := 48) h dX9_size_48 rfl ?_
          refine jr_tableIn (pc := 49) h (x := 2) (off := 83) 132 dX9_size_49 (by omega) (by omega) (by omega) rfl (by decide) ?_
          refine jr_aload_n (pc := 132) h dX9_size_132 rfl ?_
          refine gf_X9_425 (pc := 133) h dX9_size_133 (by assumption) (by omega) ?_
          refine gf_X9_214 (pc := 136) h dX9_size_136 (by assumption) (by omega) ?_
          refine jr_iret (pc := 139) h hRt dX9_size_139 rfl (Nat.le_of_ble_eq_true rfl) (Nat.le_of_ble_eq_true rfl) ?_
          first
          | (exfalso; omega)
          | (refine ⟨⟨?_, rfl⟩, hX, f1⟩; refine congrArg (fun z => some (jI z)) ?_; first | exact e0 | assumption | exact (up_ne (by omega)).trans hm | rfl)
        · first | have d_34 := bz_0.mp c_34 | have d_34 := bz_1.mp c_34 | skip
          refine jr_iconst (pc := 37) h dX9_size_37 ?_
          refine jr_iret (pc := 38) h hRt dX9_size_38 rfl (Nat.le_of_ble_eq_true rfl) (Nat.le_of_ble_eq_true rfl) ?_
          first
          | (exfalso; omega)
          | (refine ⟨⟨?_, rfl⟩, hX, f1⟩; refine congrArg (fun z => some (jI z)) ?_; first | exact e0 | assumption | exact (up_ne (by omega)).trans hm | rfl)
      · first | have d_19 := bz_0.mp c_19 | have d_19 := bz_1.mp c_19 | skip
        refine jr_aload_n (pc := 22) h dX9_size_22 rfl ?_
        refine gf_X9_603 (pc := 23) h dX9_size_23 (by assumption) (by omega) ?_
        refine jr_iret (pc := 26) h hRt dX9_size_26 rfl (Nat.le_of_ble_eq_true rfl) (Nat.le_of_ble_eq_true rfl) ?_
        first
        | (exfalso; omega)
        | (refine ⟨⟨?_, rfl⟩, hX, f1⟩; refine congrArg (fun z => some (jI z)) ?_; first | exact e0 | assumption | exact (up_ne (by omega)).trans hm | rfl)
    · first | have d_8 := bz_0.mp c_8 | have d_8 := bz_1.mp c_8 | skip
      refine jr_aload_n (pc := 11) h dX9_size_11 rfl ?_
      refine gf_X9_418 (pc := 12) h dX9_size_12 (by assumption) (by omega) ?_
      refine jr_iret (pc := 15) h hRt dX9_size_15 rfl (Nat.le_of_ble_eq_true rfl) (Nat.le_of_ble_eq_true rfl) ?_
      first
      | (exfalso; omega)
      | (refine ⟨⟨?_, rfl⟩, hX, f1⟩; refine congrArg (fun z => some (jI z)) ?_; first | exact e0 | assumption | exact (up_ne (by omega)).trans hm | rfl)
set_option maxHeartbeats 2000000 in
set_option maxRecDepth 20000 in
theorem s_X9_size_3 {l : Launch} {n : Nat} {M : jdM} {m : Nat} {g : Nat → Int} {w : Int} {fl rd : Value} {B : Nat → Nat → Int} (hX : MX M n m g w fl rd B) {ct td bk si ld : Nat → Int} (hFX : FX M n m fl ct td bk si ld) {gc tg g3 : Nat → Int} (hm : g 19 = gc 6) (htp : g 6 = gc 1) (hnt : g 26 = tg 2) (h7 : B 3 429 = g3 7) (hc0 : (∀ j, ct j = 0) → gc 6 = 0 ∧ g3 7 = 0) : Ct l yX9_size cX9_size 2 (some .int) rX9_size [.ref m, jI 3] n M (fun vv n' M' => (vv = some (jI (x_size ct td gc g3 tg 3)) ∧ n = n') ∧ MX M' n m (up g 0 0) w fl rd B ∧ fr (MXf m) M M') := by
  refine Ct_of [some (.ref m), some (jI 3)] (by decide) (Nat.le_of_ble_eq_true rfl) rfl (fun κ hl h hR hRt hmn hn0 => ?_)
  have h : Ok κ RX9 cX9_size 2 (some .int) := h
  rcases hFX with ⟨rfl, hz⟩ | ⟨f, gf, A, rfl, hsep, hMF, hFM⟩
  · skip
    obtain ⟨hnm, hOm, hBm⟩ := id hX
    have hOm : M m = jdO 9 (fX9 m _ _ .null rd) := hOm
    refine jr_aload_n (pc := 0) h dX9_size_0 rfl ?_
    refine jr_iconst (pc := 1) h dX9_size_1 ?_
    refine pf_X9_52 (pc := 2) h dX9_size_2 hOm (by omega) ?_
    refine jm_gen (fun M2 hM2 => ?_)
    rw [fX9_0] at hM2
    have hX := MX_o hX hM2
    have f9 : fr (MXf m) _ M2 := fr_up hM2 ⟨by omega, by omega⟩
    obtain ⟨hnm, hOm, hBm⟩ := id hX
    have f1 := f9
    refine jr_iload_n (pc := 5) h dX9_size_5 rfl ?_
    refine jr_bipush (pc := 6) h dX9_size_6 bp_14 ?_
    refine jr_icmp_ne (pc := 8) h 16 dX9_size_8 (by decide) (by omega) (by omega) (fun c_8 => ?_) (fun c_8 => ?_)
    · first | have d_8 := bz_0.mp c_8 | have d_8 := bz_1.mp c_8 | skip
      refine jr_iload_n (pc := 16) h dX9_size_16 rfl ?_
      refine jr_bipush (pc := 17) h dX9_size_17 bp_15 ?_
      refine jr_icmp_ne (pc := 19) h 27 dX9_size_19 (by decide) (by omega) (by omega) (fun c_19 => ?_) (fun c_19 => ?_)
      · first | have d_19 := bz_0.mp c_19 | have d_19 := bz_1.mp c_19 | skip
        refine jr_iload_n (pc := 27) h dX9_size_27 rfl ?_
        refine jr_iconst (pc := 28) h dX9_size_28 ?_
        refine jr_bipush (pc := 29) h dX9_size_29 bp_13 ?_
        refine iv_X9_130 (pc := 31) h hl hR dX9_size_31 ⟨(Nat.le_of_ble_eq_true rfl), (Nat.le_of_ble_eq_true rfl), (Nat.le_of_ble_eq_true rfl), (Nat.le_of_ble_eq_true rfl)⟩ (Nat.le_of_ble_eq_true rfl) (s_X9_in (by omega) (by omega) (by omega)) (fun v_31 n_31 M_31 hn_31 hp => ?_)
        obtain ⟨⟨rfl, rfl, rfl⟩, gr_31⟩ := hp
        refine jr_if_ne (pc := 34) h 39 dX9_size_34 (by decide) (by omega) (fun c_34 => ?_) (fun c_34 => ?_)
        · first | have d_34 := bz_0.mp c_34 | have d_34 := bz_1.mp c_34 | skip
          refine jr_aload_n (pc := 39) h dX9_size_39 rfl ?_
          refine gf_X9_425 (pc := 40) h dX9_size_40 (by assumption) (by omega) ?_
          refine jr_ifnonnullN (pc := 43) h dX9_size_43 ?_
          refine jr_iconst (pc := 46) h dX9_size_46 ?_
          refine jr_iret (pc := 47) h hRt dX9_size_47 rfl (Nat.le_of_ble_eq_true rfl) (Nat.le_of_ble_eq_true rfl) ?_
          first
          | (exfalso; omega)
          | (refine ⟨⟨?_, rfl⟩, hX, f1⟩; refine congrArg (fun z => some (jI z)) ?_; first | exact (rows0 hz).symm | exact (hz _).symm | exact (hc0 hz).1.symm | exact (hc0 hz).2.symm)
        · first | have d_34 := bz_0.mp c_34 | have d_34 := bz_1.mp c_34 | skip
          refine jr_iconst (pc := 37) h dX9_size_37 ?_
          refine jr_iret (pc := 38) h hRt dX9_size_38 rfl (Nat.le_of_ble_eq_true rfl) (Nat.le_of_ble_eq_true rfl) ?_
          first
          | (exfalso; omega)
          | (refine ⟨⟨?_, rfl⟩, hX, f1⟩; refine congrArg (fun z => some (jI z)) ?_; first | exact (rows0 hz).symm | exact (hz _).symm | exact (hc0 hz).1.symm | exact (hc0 hz).2.symm)
      · first | have d_19 := bz_0.mp c_19 | have d_19 := bz_1.mp c_19 | skip
        refine jr_aload_n (pc := 22) h dX9_size_22 rfl ?_
        refine gf_X9_603 (pc := 23) h dX9_size_23 (by assumption) (by omega) ?_
        refine jr_iret (pc := 26) h hRt dX9_size_26 rfl (Nat.le_of_ble_eq_true rfl) (Nat.le_of_ble_eq_true rfl) ?_
        first
        | (exfalso; omega)
        | (refine ⟨⟨?_, rfl⟩, hX, f1⟩; refine congrArg (fun z => some (jI z)) ?_; first | exact (rows0 hz).symm | exact (hz _).symm | exact (hc0 hz).1.symm | exact (hc0 hz).2.symm)
    · first | have d_8 := bz_0.mp c_8 | have d_8 := bz_1.mp c_8 | skip
      refine jr_aload_n (pc := 11) h dX9_size_11 rfl ?_
      refine gf_X9_418 (pc := 12) h dX9_size_12 (by assumption) (by omega) ?_
      refine jr_iret (pc := 15) h hRt dX9_size_15 rfl (Nat.le_of_ble_eq_true rfl) (Nat.le_of_ble_eq_true rfl) ?_
      first
      | (exfalso; omega)
      | (refine ⟨⟨?_, rfl⟩, hX, f1⟩; refine congrArg (fun z => some (jI z)) ?_; first | exact (rows0 hz).symm | exact (hz _).symm | exact (hc0 hz).1.symm | exact (hc0 hz).2.symm)
  · skip
    obtain ⟨hnm, hOm, hBm⟩ := id hX
    have hOm : M m = jdO 9 (fX9 m _ _ (.ref f) rd) := hOm
    refine jr_aload_n (pc := 0) h dX9_size_0 rfl ?_
    refine jr_iconst (pc := 1) h dX9_size_1 ?_
    refine pf_X9_52 (pc := 2) h dX9_size_2 hOm (by omega) ?_
    refine jm_gen (fun M2 hM2 => ?_)
    rw [fX9_0] at hM2
    have hX := MX_o hX hM2
    have f9 : fr (MXf m) _ M2 := fr_up hM2 ⟨by omega, by omega⟩
    obtain ⟨hnm, hOm, hBm⟩ := id hX
    have f1 := f9
    have hMF := MF_fr hMF f9 (Nat.le_refl _) (fun k h1 h2 q => by have := q.1; have := q.2; omega)
    obtain ⟨hnf, hOf, hAf⟩ := id hMF
    obtain ⟨⟨e0, e1, e2, e3, e4⟩, ⟨k5, k6, k7, k8, k9, k10, k11, k12, k13, k14, k15⟩, ⟨a2, a3, a4, a5, a6, a7, a8, a9, a10, a11, a12⟩, ⟨hlim, hLI, hends, hrt⟩, ⟨hbk, hld⟩, hc0, hc1, hc2, hc5⟩ := id hFM
    have l2 := hlim 2 (by omega)
    have l3 := hlim 3 (by omega)
    have l4 := hlim 4 (by omega)
    have l5 := hlim 5 (by omega)
    have l6 := hlim 6 (by omega)
    have l7 := hlim 7 (by omega)
    have l8 := hlim 8 (by omega)
    have l9 := hlim 9 (by omega)
    have l10 := hlim 10 (by omega)
    have l11 := hlim 11 (by omega)
    have l12 := hlim 12 (by omega)
    rw [show (jtab 0).2.2 2 = 4 from rfl] at l2
    rw [show (jtab 0).2.2 3 = 6 from rfl] at l3
    rw [show (jtab 0).2.2 4 = 6 from rfl] at l4
    rw [show (jtab 0).2.2 5 = 2 from rfl] at l5
    rw [show (jtab 0).2.2 6 = 8 from rfl] at l6
    rw [show (jtab 0).2.2 7 = 5 from rfl] at l7
    rw [show (jtab 0).2.2 8 = 6 from rfl] at l8
    rw [show (jtab 0).2.2 9 = 3 from rfl] at l9
    rw [show (jtab 0).2.2 10 = 3 from rfl] at l10
    rw [show (jtab 0).2.2 11 = 4 from rfl] at l11
    rw [show (jtab 0).2.2 12 = 4 from rfl] at l12
    have hcr : 1 ≤ c_rows ct td ∧ c_rows ct td ≤ 40 := by
      have h9 := (hLI 0 0 (by omega) (by omega) (by omega)).1 rfl
      have e9 : c_rows ct td = c_get td 0 0 0 := by unfold c_rows; rw [if_neg (by omega)]
      omega
    have hB3 : M2 (m + 3) = jdA 431 (B 3) := hBm 3 (by omega) (by omega)
    refine jr_iload_n (pc := 5) h dX9_size_5 rfl ?_
    refine jr_bipush (pc := 6) h dX9_size_6 bp_14 ?_
    refine jr_icmp_ne (pc := 8) h 16 dX9_size_8 (by decide) (by omega) (by omega) (fun c_8 => ?_) (fun c_8 => ?_)
    · first | have d_8 := bz_0.mp c_8 | have d_8 := bz_1.mp c_8 | skip
      refine jr_iload_n (pc := 16) h dX9_size_16 rfl ?_
      refine jr_bipush (pc := 17) h dX9_size_17 bp_15 ?_
      refine jr_icmp_ne (pc := 19) h 27 dX9_size_19 (by decide) (by omega) (by omega) (fun c_19 => ?_) (fun c_19 => ?_)
      · first | have d_19 := bz_0.mp c_19 | have d_19 := bz_1.mp c_19 | skip
        refine jr_iload_n (pc := 27) h dX9_size_27 rfl ?_
        refine jr_iconst (pc := 28) h dX9_size_28 ?_
        refine jr_bipush (pc := 29) h dX9_size_29 bp_13 ?_
        refine iv_X9_130 (pc := 31) h hl hR dX9_size_31 ⟨(Nat.le_of_ble_eq_true rfl), (Nat.le_of_ble_eq_true rfl), (Nat.le_of_ble_eq_true rfl), (Nat.le_of_ble_eq_true rfl)⟩ (Nat.le_of_ble_eq_true rfl) (s_X9_in (by omega) (by omega) (by omega)) (fun v_31 n_31 M_31 hn_31 hp => ?_)
        obtain ⟨⟨rfl, rfl, rfl⟩, gr_31⟩ := hp
        refine jr_if_ne (pc := 34) h 39 dX9_size_34 (by decide) (by omega) (fun c_34 => ?_) (fun c_34 => ?_)
        · first | have d_34 := bz_0.mp c_34 | have d_34 := bz_1.mp c_34 | skip
          refine jr_aload_n (pc := 39) h dX9_size_39 rfl ?_
          refine gf_X9_425 (pc := 40) h dX9_size_40 (by assumption) (by omega) ?_
          refine jr_ifnonnull (pc := 43) h 48 dX9_size_43 (by decide) ?_
          refine jr_iload_n (pc := 48) h dX9_size_48 rfl ?_
          refine jr_tableIn (pc := 49) h (x := 3) (off := 91) 140 dX9_size_49 (by omega) (by omega) (by omega) rfl (by decide) ?_
          refine jr_aload_n (pc := 140) h dX9_size_140 rfl ?_
          refine gf_X9_425 (pc := 141) h dX9_size_141 (by assumption) (by omega) ?_
          refine gf_X9_333 (pc := 144) h dX9_size_144 (by assumption) (by omega) ?_
          refine jr_iret (pc := 147) h hRt dX9_size_147 rfl (Nat.le_of_ble_eq_true rfl) (Nat.le_of_ble_eq_true rfl) ?_
          first
          | (exfalso; omega)
          | (refine ⟨⟨?_, rfl⟩, hX, f1⟩; refine congrArg (fun z => some (jI z)) ?_; first | exact e0 | assumption | exact (up_ne (by omega)).trans hm | rfl)
        · first | have d_34 := bz_0.mp c_34 | have d_34 := bz_1.mp c_34 | skip
          refine jr_iconst (pc := 37) h dX9_size_37 ?_
          refine jr_iret (pc := 38) h hRt dX9_size_38 rfl (Nat.le_of_ble_eq_true rfl) (Nat.le_of_ble_eq_true rfl) ?_
          first
          | (exfalso; omega)
          | (refine ⟨⟨?_, rfl⟩, hX, f1⟩; refine congrArg (fun z => some (jI z)) ?_; first | exact e0 | assumption | exact (up_ne (by omega)).trans hm | rfl)
      · first | have d_19 := bz_0.mp c_19 | have d_19 := bz_1.mp c_19 | skip
        refine jr_aload_n (pc := 22) h dX9_size_22 rfl ?_
        refine gf_X9_603 (pc := 23) h dX9_size_23 (by assumption) (by omega) ?_
        refine jr_iret (pc := 26) h hRt dX9_size_26 rfl (Nat.le_of_ble_eq_true rfl) (Nat.le_of_ble_eq_true rfl) ?_
        first
        | (exfalso; omega)
        | (refine ⟨⟨?_, rfl⟩, hX, f1⟩; refine congrArg (fun z => some (jI z)) ?_; first | exact e0 | assumption | exact (up_ne (by omega)).trans hm | rfl)
    · first | have d_8 := bz_0.mp c_8 | have d_8 := bz_1.mp c_8 | skip
      refine jr_aload_n (pc := 11) h dX9_size_11 rfl ?_
      refine gf_X9_418 (pc := 12) h dX9_size_12 (by assumption) (by omega) ?_
      refine jr_iret (pc := 15) h hRt dX9_size_15 rfl (Nat.le_of_ble_eq_true rfl) (Nat.le_of_ble_eq_true rfl) ?_
      first
      | (exfalso; omega)
      | (refine ⟨⟨?_, rfl⟩, hX, f1⟩; refine congrArg (fun z => some (jI z)) ?_; first | exact e0 | assumption | exact (up_ne (by omega)).trans hm | rfl)
set_option maxHeartbeats 2000000 in
set_option maxRecDepth 20000 in
theorem s_X9_size_4 {l : Launch} {n : Nat} {M : jdM} {m : Nat} {g : Nat → Int} {w : Int} {fl rd : Value} {B : Nat → Nat → Int} (hX : MX M n m g w fl rd B) {ct td bk si ld : Nat → Int} (hFX : FX M n m fl ct td bk si ld) {gc tg g3 : Nat → Int} (hm : g 19 = gc 6) (htp : g 6 = gc 1) (hnt : g 26 = tg 2) (h7 : B 3 429 = g3 7) (hc0 : (∀ j, ct j = 0) → gc 6 = 0 ∧ g3 7 = 0) : Ct l yX9_size cX9_size 2 (some .int) rX9_size [.ref m, jI 4] n M (fun vv n' M' => (vv = some (jI (x_size ct td gc g3 tg 4)) ∧ n = n') ∧ MX M' n m (up g 0 0) w fl rd B ∧ fr (MXf m) M M') := by
  refine Ct_of [some (.ref m), some (jI 4)] (by decide) (Nat.le_of_ble_eq_true rfl) rfl (fun κ hl h hR hRt hmn hn0 => ?_)
  have h : Ok κ RX9 cX9_size 2 (some .int) := h
  rcases hFX with ⟨rfl, hz⟩ | ⟨f, gf, A, rfl, hsep, hMF, hFM⟩
  · skip
    obtain ⟨hnm, hOm, hBm⟩ := id hX
    have hOm : M m = jdO 9 (fX9 m _ _ .null rd) := hOm
    refine jr_aload_n (pc := 0) h dX9_size_0 rfl ?_
    refine jr_iconst (pc := 1) h dX9_size_1 ?_
    refine pf_X9_52 (pc := 2) h dX9_size_2 hOm (by omega) ?_
    refine jm_gen (fun M2 hM2 => ?_)
    rw [fX9_0] at hM2
    have hX := MX_o hX hM2
    have f9 : fr (MXf m) _ M2 := fr_up hM2 ⟨by omega, by omega⟩
    obtain ⟨hnm, hOm, hBm⟩ := id hX
    have f1 := f9
    refine jr_iload_n (pc := 5) h dX9_size_5 rfl ?_
    refine jr_bipush (pc := 6) h dX9_size_6 bp_14 ?_
    refine jr_icmp_ne (pc := 8) h 16 dX9_size_8 (by decide) (by omega) (by omega) (fun c_8 => ?_) (fun c_8 => ?_)
    · first | have d_8 := bz_0.mp c_8 | have d_8 := bz_1.mp c_8 | skip
      refine jr_iload_n (pc := 16) h dX9_size_16 rfl ?_
      refine jr_bipush (pc := 17) h dX9_size_17 bp_15 ?_
      refine jr_icmp_ne (pc := 19) h 27 dX9_size_19 (by decide) (by omega) (by omega) (fun c_19 => ?_) (fun c_19 => ?_)
      · first | have d_19 := bz_0.mp c_19 | have d_19 := bz_1.mp c_19 | skip
        refine jr_iload_n (pc := 27) h dX9_size_27 rfl ?_
        refine jr_iconst (pc := 28) h dX9_size_28 ?_
        refine jr_bipush (pc := 29) h dX9_size_29 bp_13 ?_
        refine iv_X9_130 (pc := 31) h hl hR dX9_size_31 ⟨(Nat.le_of_ble_eq_true rfl), (Nat.le_of_ble_eq_true rfl), (Nat.le_of_ble_eq_true rfl), (Nat.le_of_ble_eq_true rfl)⟩ (Nat.le_of_ble_eq_true rfl) (s_X9_in (by omega) (by omega) (by omega)) (fun v_31 n_31 M_31 hn_31 hp => ?_)
        obtain ⟨⟨rfl, rfl, rfl⟩, gr_31⟩ := hp
        refine jr_if_ne (pc := 34) h 39 dX9_size_34 (by decide) (by omega) (fun c_34 => ?_) (fun c_34 => ?_)
        · first | have d_34 := bz_0.mp c_34 | have d_34 := bz_1.mp c_34 | skip
          refine jr_aload_n (pc := 39) h dX9_size_39 rfl ?_
          refine gf_X9_425 (pc := 40) h dX9_size_40 (by assumption) (by omega) ?_
          refine jr_ifnonnullN (pc := 43) h dX9_size_43 ?_
          refine jr_iconst (pc := 46) h dX9_size_46 ?_
          refine jr_iret (pc := 47) h hRt dX9_size_47 rfl (Nat.le_of_ble_eq_true rfl) (Nat.le_of_ble_eq_true rfl) ?_
          first
          | (exfalso; omega)
          | (refine ⟨⟨?_, rfl⟩, hX, f1⟩; refine congrArg (fun z => some (jI z)) ?_; first | exact (rows0 hz).symm | exact (hz _).symm | exact (hc0 hz).1.symm | exact (hc0 hz).2.symm)
        · first | have d_34 := bz_0.mp c_34 | have d_34 := bz_1.mp c_34 | skip
          refine jr_iconst (pc := 37) h dX9_size_37 ?_
          refine jr_iret (pc := 38) h hRt dX9_size_38 rfl (Nat.le_of_ble_eq_true rfl) (Nat.le_of_ble_eq_true rfl) ?_
          first
          | (exfalso; omega)
          | (refine ⟨⟨?_, rfl⟩, hX, f1⟩; refine congrArg (fun z => some (jI z)) ?_; first | exact (rows0 hz).symm | exact (hz _).symm | exact (hc0 hz).1.symm | exact (hc0 hz).2.symm)
      · first | have d_19 := bz_0.mp c_19 | have d_19 := bz_1.mp c_19 | skip
        refine jr_aload_n (pc := 22) h dX9_size_22 rfl ?_
        refine gf_X9_603 (pc := 23) h dX9_size_23 (by assumption) (by omega) ?_
        refine jr_iret (pc := 26) h hRt dX9_size_26 rfl (Nat.le_of_ble_eq_true rfl) (Nat.le_of_ble_eq_true rfl) ?_
        first
        | (exfalso; omega)
        | (refine ⟨⟨?_, rfl⟩, hX, f1⟩; refine congrArg (fun z => some (jI z)) ?_; first | exact (rows0 hz).symm | exact (hz _).symm | exact (hc0 hz).1.symm | exact (hc0 hz).2.symm)
    · first | have d_8 := bz_0.mp c_8 | have d_8 := bz_1.mp c_8 | skip
      refine jr_aload_n (pc := 11) h dX9_size_11 rfl ?_
      refine gf_X9_418 (pc := 12) h dX9_size_12 (by assumption) (by omega) ?_
      refine jr_iret (pc := 15) h hRt dX9_size_15 rfl (Nat.le_of_ble_eq_true rfl) (Nat.le_of_ble_eq_true rfl) ?_
      first
      | (exfalso; omega)
      | (refine ⟨⟨?_, rfl⟩, hX, f1⟩; refine congrArg (fun z => some (jI z)) ?_; first | exact (rows0 hz).symm | exact (hz _).symm | exact (hc0 hz).1.symm | exact (hc0 hz).2.symm)
  · skip
    obtain ⟨hnm, hOm, hBm⟩ := id hX
    have hOm : M m = jdO 9 (fX9 m _ _ (.ref f) rd) := hOm
    refine jr_aload_n (pc := 0) h dX9_size_0 rfl ?_
    refine jr_iconst (pc := 1) h dX9_size_1 ?_
    refine pf_X9_52 (pc := 2) h dX9_size_2 hOm (by omega) ?_
    refine jm_gen (fun M2 hM2 => ?_)
    rw [fX9_0] at hM2
    have hX := MX_o hX hM2
    have f9 : fr (MXf m) _ M2 := fr_up hM2 ⟨by omega, by omega⟩
    obtain ⟨hnm, hOm, hBm⟩ := id hX
    have f1 := f9
    have hMF := MF_fr hMF f9 (Nat.le_refl _) (fun k h1 h2 q => by have := q.1; have := q.2; omega)
    obtain ⟨hnf, hOf, hAf⟩ := id hMF
    obtain ⟨⟨e0, e1, e2, e3, e4⟩, ⟨k5, k6, k7, k8, k9, k10, k11, k12, k13, k14, k15⟩, ⟨a2, a3, a4, a5, a6, a7, a8, a9, a10, a11, a12⟩, ⟨hlim, hLI, hends, hrt⟩, ⟨hbk, hld⟩, hc0, hc1, hc2, hc5⟩ := id hFM
    have l2 := hlim 2 (by omega)
    have l3 := hlim 3 (by omega)
    have l4 := hlim 4 (by omega)
    have l5 := hlim 5 (by omega)
    have l6 := hlim 6 (by omega)
    have l7 := hlim 7 (by omega)
    have l8 := hlim 8 (by omega)
    have l9 := hlim 9 (by omega)
    have l10 := hlim 10 (by omega)
    have l11 := hlim 11 (by omega)
    have l12 := hlim 12 (by omega)
    rw [show (jtab 0).2.2 2 = 4 from rfl] at l2
    rw [show (jtab 0).2.2 3 = 6 from rfl] at l3
    rw [show (jtab 0).2.2 4 = 6 from rfl] at l4
    rw [show (jtab 0).2.2 5 = 2 from rfl] at l5
    rw [show (jtab 0).2.2 6 = 8 from rfl] at l6
    rw [show (jtab 0).2.2 7 = 5 from rfl] at l7
    rw [show (jtab 0).2.2 8 = 6 from rfl] at l8
    rw [show (jtab 0).2.2 9 = 3 from rfl] at l9
    rw [show (jtab 0).2.2 10 = 3 from rfl] at l10
    rw [show (jtab 0).2.2 11 = 4 from rfl] at l11
    rw [show (jtab 0).2.2 12 = 4 from rfl] at l12
    have hcr : 1 ≤ c_rows ct td ∧ c_rows ct td ≤ 40 := by
      have h9 := (hLI 0 0 (by omega) (by omega) (by omega)).1 rfl
      have e9 : c_rows ct td = c_get td 0 0 0 := by unfold c_rows; rw [if_neg (by omega)]
      omega
    have hB3 : M2 (m + 3) = jdA 431 (B 3) := hBm 3 (by omega) (by omega)
    refine jr_iload_n (pc := 5) h dX9_size_5 rfl ?_
    refine jr_bipush (pc := 6) h dX9_size_6 bp_14 ?_
    refine jr_icmp_ne (pc := 8) h 16 dX9_size_8 (by decide) (by omega) (by omega) (fun c_8 => ?_) (fun c_8 => ?_)
    · first | have d_8 := bz_0.mp c_8 | have d_8 := bz_1.mp c_8 | skip
      refine jr_iload_n (pc := 16) h dX9_size_16 rfl ?_
      refine jr_bipush (pc := 17) h dX9_size_17 bp_15 ?_
      refine jr_icmp_ne (pc := 19) h 27 dX9_size_19 (by decide) (by omega) (by omega) (fun c_19 => ?_) (fun c_19 => ?_)
      · first | have d_19 := bz_0.mp c_19 | have d_19 := bz_1.mp c_19 | skip
        refine jr_iload_n (pc := 27) h dX9_size_27 rfl ?_
        refine jr_iconst (pc := 28) h dX9_size_28 ?_
        refine jr_bipush (pc := 29) h dX9_size_29 bp_13 ?_
        refine iv_X9_130 (pc := 31) h hl hR dX9_size_31 ⟨(Nat.le_of_ble_eq_true rfl), (Nat.le_of_ble_eq_true rfl), (Nat.le_of_ble_eq_true rfl), (Nat.le_of_ble_eq_true rfl)⟩ (Nat.le_of_ble_eq_true rfl) (s_X9_in (by omega) (by omega) (by omega)) (fun v_31 n_31 M_31 hn_31 hp => ?_)
        obtain ⟨⟨rfl, rfl, rfl⟩, gr_31⟩ := hp
        refine jr_if_ne (pc := 34) h 39 dX9_size_34 (by decide) (by omega) (fun c_34 => ?_) (fun c_34 => ?_)
        · first | have d_34 := bz_0.mp c_34 | have d_34 := bz_1.mp c_34 | skip
          refine jr_aload_n (pc := 39) h dX9_size_39 rfl ?_
          refine gf_X9_425 (pc := 40) h dX9_size_40 (by assumption) (by omega) ?_
          refine jr_ifnonnull (pc := 43) h 48 dX9_size_43 (by decide) ?_
          refine jr_iload_n (pc := 48) h dX9_size_48 rfl ?_
          refine jr_tableIn (pc := 49) h (x := 4) (off := 99) 148 dX9_size_49 (by omega) (by omega) (by omega) rfl (by decide) ?_
          refine jr_aload_n (pc := 148) h dX9_size_148 rfl ?_
          refine gf_X9_425 (pc := 149) h dX9_size_149 (by assumption) (by omega) ?_
          refine gf_X9_339 (pc := 152) h dX9_size_152 (by assumption) (by omega) ?_
          refine jr_iret (pc := 155) h hRt dX9_size_155 rfl (Nat.le_of_ble_eq_true rfl) (Nat.le_of_ble_eq_true rfl) ?_
          first
          | (exfalso; omega)
          | (refine ⟨⟨?_, rfl⟩, hX, f1⟩; refine congrArg (fun z => some (jI z)) ?_; first | exact e0 | assumption | exact (up_ne (by omega)).trans hm | rfl)
        · first | have d_34 := bz_0.mp c_34 | have d_34 := bz_1.mp c_34 | skip
          refine jr_iconst (pc := 37) h dX9_size_37 ?_
          refine jr_iret (pc := 38) h hRt dX9_size_38 rfl (Nat.le_of_ble_eq_true rfl) (Nat.le_of_ble_eq_true rfl) ?_
          first
          | (exfalso; omega)
          | (refine ⟨⟨?_, rfl⟩, hX, f1⟩; refine congrArg (fun z => some (jI z)) ?_; first | exact e0 | assumption | exact (up_ne (by omega)).trans hm | rfl)
      · first | have d_19 := bz_0.mp c_19 | have d_19 := bz_1.mp c_19 | skip
        refine jr_aload_n (pc := 22) h dX9_size_22 rfl ?_
        refine gf_X9_603 (pc := 23) h dX9_size_23 (by assumption) (by omega) ?_
        refine jr_iret (pc := 26) h hRt dX9_size_26 rfl (Nat.le_of_ble_eq_true rfl) (Nat.le_of_ble_eq_true rfl) ?_
        first
        | (exfalso; omega)
        | (refine ⟨⟨?_, rfl⟩, hX, f1⟩; refine congrArg (fun z => some (jI z)) ?_; first | exact e0 | assumption | exact (up_ne (by omega)).trans hm | rfl)
    · first | have d_8 := bz_0.mp c_8 | have d_8 := bz_1.mp c_8 | skip
      refine jr_aload_n (pc := 11) h dX9_size_11 rfl ?_
      refine gf_X9_418 (pc := 12) h dX9_size_12 (by assumption) (by omega) ?_
      refine jr_iret (pc := 15) h hRt dX9_size_15 rfl (Nat.le_of_ble_eq_true rfl) (Nat.le_of_ble_eq_true rfl) ?_
      first
      | (exfalso; omega)
      | (refine ⟨⟨?_, rfl⟩, hX, f1⟩; refine congrArg (fun z => some (jI z)) ?_; first | exact e0 | assumption | exact (up_ne (by omega)).trans hm | rfl)
set_option maxHeartbeats 2000000 in
set_option maxRecDepth 20000 in
theorem s_X9_size_5 {l : Launch} {n : Nat} {M : jdM} {m : Nat} {g : Nat → Int} {w : Int} {fl rd : Value} {B : Nat → Nat → Int} (hX : MX M n m g w fl rd B) {ct td bk si ld : Nat → Int} (hFX : FX M n m fl ct td bk si ld) {gc tg g3 : Nat → Int} (hm : g 19 = gc 6) (htp : g 6 = gc 1) (hnt : g 26 = tg 2) (h7 : B 3 429 = g3 7) (hc0 : (∀ j, ct j = 0) → gc 6 = 0 ∧ g3 7 = 0) : Ct l yX9_size cX9_size 2 (some .int) rX9_size [.ref m, jI 5] n M (fun vv n' M' => (vv = some (jI (x_size ct td gc g3 tg 5)) ∧ n = n') ∧ MX M' n m (up g 0 0) w fl rd B ∧ fr (MXf m) M M') := by
  refine Ct_of [some (.ref m), some (jI 5)] (by decide) (Nat.le_of_ble_eq_true rfl) rfl (fun κ hl h hR hRt hmn hn0 => ?_)
  have h : Ok κ RX9 cX9_size 2 (some .int) := h
  rcases hFX with ⟨rfl, hz⟩ | ⟨f, gf, A, rfl, hsep, hMF, hFM⟩
  · skip
    obtain ⟨hnm, hOm, hBm⟩ := id hX
    have hOm : M m = jdO 9 (fX9 m _ _ .null rd) := hOm
    refine jr_aload_n (pc := 0) h dX9_size_0 rfl ?_
    refine jr_iconst (pc := 1) h dX9_size_1 ?_
    refine pf_X9_52 (pc := 2) h dX9_size_2 hOm (by omega) ?_
    refine jm_gen (fun M2 hM2 => ?_)
    rw [fX9_0] at hM2
    have hX := MX_o hX hM2
    have f9 : fr (MXf m) _ M2 := fr_up hM2 ⟨by omega, by omega⟩
    obtain ⟨hnm, hOm, hBm⟩ := id hX
    have f1 := f9
    refine jr_iload_n (pc := 5) h dX9_size_5 rfl ?_
    refine jr_bipush (pc := 6) h dX9_size_6 bp_14 ?_
    refine jr_icmp_ne (pc := 8) h 16 dX9_size_8 (by decide) (by omega) (by omega) (fun c_8 => ?_) (fun c_8 => ?_)
    · first | have d_8 := bz_0.mp c_8 | have d_8 := bz_1.mp c_8 | skip
      refine jr_iload_n (pc := 16) h dX9_size_16 rfl ?_
      refine jr_bipush (pc := 17) h dX9_size_17 bp_15 ?_
      refine jr_icmp_ne (pc := 19) h 27 dX9_size_19 (by decide) (by omega) (by omega) (fun c_19 => ?_) (fun c_19 => ?_)
      · first | have d_19 := bz_0.mp c_19 | have d_19 := bz_1.mp c_19 | skip
        refine jr_iload_n (pc := 27) h dX9_size_27 rfl ?_
        refine jr_iconst (pc := 28) h dX9_size_28 ?_
        refine jr_bipush (pc := 29) h dX9_size_29 bp_13 ?_
        refine iv_X9_130 (pc := 31) h hl hR dX9_size_31 ⟨(Nat.le_of_ble_eq_true rfl), (Nat.le_of_ble_eq_true rfl), (Nat.le_of_ble_eq_true rfl), (Nat.le_of_ble_eq_true rfl)⟩ (Nat.le_of_ble_eq_true rfl) (s_X9_in (by omega) (by omega) (by omega)) (fun v_31 n_31 M_31 hn_31 hp => ?_)
        obtain ⟨⟨rfl, rfl, rfl⟩, gr_31⟩ := hp
        refine jr_if_ne (pc := 34) h 39 dX9_size_34 (by decide) (by omega) (fun c_34 => ?_) (fun c_34 => ?_)
        · first | have d_34 := bz_0.mp c_34 | have d_34 := bz_1.mp c_34 | skip
          refine jr_aload_n (pc := 39) h dX9_size_39 rfl ?_
          refine gf_X9_425 (pc := 40) h dX9_size_40 (by assumption) (by omega) ?_
          refine jr_ifnonnullN (pc := 43) h dX9_size_43 ?_
          refine jr_iconst (pc := 46) h dX9_size_46 ?_
          refine jr_iret (pc := 47) h hRt dX9_size_47 rfl (Nat.le_of_ble_eq_true rfl) (Nat.le_of_ble_eq_true rfl) ?_
          first
          | (exfalso; omega)
          | (refine ⟨⟨?_, rfl⟩, hX, f1⟩; refine congrArg (fun z => some (jI z)) ?_; first | exact (rows0 hz).symm | exact (hz _).symm | exact (hc0 hz).1.symm | exact (hc0 hz).2.symm)
        · first | have d_34 := bz_0.mp c_34 | have d_34 := bz_1.mp c_34 | skip
          refine jr_iconst (pc := 37) h dX9_size_37 ?_
          refine jr_iret (pc := 38) h hRt dX9_size_38 rfl (Nat.le_of_ble_eq_true rfl) (Nat.le_of_ble_eq_true rfl) ?_
          first
          | (exfalso; omega)
          | (refine ⟨⟨?_, rfl⟩, hX, f1⟩; refine congrArg (fun z => some (jI z)) ?_; first | exact (rows0 hz).symm | exact (hz _).symm | exact (hc0 hz).1.symm | exact (hc0 hz).2.symm)
      · first | have d_19 := bz_0.mp c_19 | have d_19 := bz_1.mp c_19 | skip
        refine jr_aload_n (pc := 22) h dX9_size_22 rfl ?_
        refine gf_X9_603 (pc := 23) h dX9_size_23 (by assumption) (by omega) ?_
        refine jr_iret (pc := 26) h hRt dX9_size_26 rfl (Nat.le_of_ble_eq_true rfl) (Nat.le_of_ble_eq_true rfl) ?_
        first
        | (exfalso; omega)
        | (refine ⟨⟨?_, rfl⟩, hX, f1⟩; refine congrArg (fun z => some (jI z)) ?_; first | exact (rows0 hz).symm | exact (hz _).symm | exact (hc0 hz).1.symm | exact (hc0 hz).2.symm)
    · first | have d_8 := bz_0.mp c_8 | have d_8 := bz_1.mp c_8 | skip
      refine jr_aload_n (pc := 11) h dX9_size_11 rfl ?_
      refine gf_X9_418 (pc := 12) h dX9_size_12 (by assumption) (by omega) ?_
      refine jr_iret (pc := 15) h hRt dX9_size_15 rfl (Nat.le_of_ble_eq_true rfl) (Nat.le_of_ble_eq_true rfl) ?_
      first
      | (exfalso; omega)
      | (refine ⟨⟨?_, rfl⟩, hX, f1⟩; refine congrArg (fun z => some (jI z)) ?_; first | exact (rows0 hz).symm | exact (hz _).symm | exact (hc0 hz).1.symm | exact (hc0 hz).2.symm)
  · skip
    obtain ⟨hnm, hOm, hBm⟩ := id hX
    have hOm : M m = jdO 9 (fX9 m _ _ (.ref f) rd) := hOm
    refine jr_aload_n (pc := 0) h dX9_size_0 rfl ?_
    refine jr_iconst (pc := 1) h dX9_size_1 ?_
    refine pf_X9_52 (pc := 2) h dX9_size_2 hOm (by omega) ?_
    refine jm_gen (fun M2 hM2 => ?_)
    rw [fX9_0] at hM2
    have hX := MX_o hX hM2
    have f9 : fr (MXf m) _ M2 := fr_up hM2 ⟨by omega, by omega⟩
    obtain ⟨hnm, hOm, hBm⟩ := id hX
    have f1 := f9
    have hMF := MF_fr hMF f9 (Nat.le_refl _) (fun k h1 h2 q => by have := q.1; have := q.2; omega)
    obtain ⟨hnf, hOf, hAf⟩ := id hMF
    obtain ⟨⟨e0, e1, e2, e3, e4⟩, ⟨k5, k6, k7, k8, k9, k10, k11, k12, k13, k14, k15⟩, ⟨a2, a3, a4, a5, a6, a7, a8, a9, a10, a11, a12⟩, ⟨hlim, hLI, hends, hrt⟩, ⟨hbk, hld⟩, hc0, hc1, hc2, hc5⟩ := id hFM
    have l2 := hlim 2 (by omega)
    have l3 := hlim 3 (by omega)
    have l4 := hlim 4 (by omega)
    have l5 := hlim 5 (by omega)
    have l6 := hlim 6 (by omega)
    have l7 := hlim 7 (by omega)
    have l8 := hlim 8 (by omega)
    have l9 := hlim 9 (by omega)
    have l10 := hlim 10 (by omega)
    have l11 := hlim 11 (by omega)
    have l12 := hlim 12 (by omega)
    rw [show (jtab 0).2.2 2 = 4 from rfl] at l2
    rw [show (jtab 0).2.2 3 = 6 from rfl] at l3
    rw [show (jtab 0).2.2 4 = 6 from rfl] at l4
    rw [show (jtab 0).2.2 5 = 2 from rfl] at l5
    rw [show (jtab 0).2.2 6 = 8 from rfl] at l6
    rw [show (jtab 0).2.2 7 = 5 from rfl] at l7
    rw [show (jtab 0).2.2 8 = 6 from rfl] at l8
    rw [show (jtab 0).2.2 9 = 3 from rfl] at l9
    rw [show (jtab 0).2.2 10 = 3 from rfl] at l10
    rw [show (jtab 0).2.2 11 = 4 from rfl] at l11
    rw [show (jtab 0).2.2 12 = 4 from rfl] at l12
    have hcr : 1 ≤ c_rows ct td ∧ c_rows ct td ≤ 40 := by
      have h9 := (hLI 0 0 (by omega) (by omega) (by omega)).1 rfl
      have e9 : c_rows ct td = c_get td 0 0 0 := by unfold c_rows; rw [if_neg (by omega)]
      omega
    have hB3 : M2 (m + 3) = jdA 431 (B 3) := hBm 3 (by omega) (by omega)
    refine jr_iload_n (pc := 5) h dX9_size_5 rfl ?_
    refine jr_bipush (pc := 6) h dX9_size_6 bp_14 ?_
    refine jr_icmp_ne (pc := 8) h 16 dX9_size_8 (by decide) (by omega) (by omega) (fun c_8 => ?_) (fun c_8 => ?_)
    · first | have d_8 := bz_0.mp c_8 | have d_8 := bz_1.mp c_8 | skip
      refine jr_iload_n (pc := 16) h dX9_size_16 rfl ?_
      refine jr_bipush (pc := 17) h dX9_size_17 bp_15 ?_
      refine jr_icmp_ne (pc := 19) h 27 dX9_size_19 (by decide) (by omega) (by omega) (fun c_19 => ?_) (fun c_19 => ?_)
      · first | have d_19 := bz_0.mp c_19 | have d_19 := bz_1.mp c_19 | skip
        refine jr_iload_n (pc := 27) h dX9_size_27 rfl ?_
        refine jr_iconst (pc := 28) h dX9_size_28 ?_
        refine jr_bipush (pc := 29) h dX9_size_29 bp_13 ?_
        refine iv_X9_130 (pc := 31) h hl hR dX9_size_31 ⟨(Nat.le_of_ble_eq_true rfl), (Nat.le_of_ble_eq_true rfl), (Nat.le_of_ble_eq_true rfl), (Nat.le_of_ble_eq_true rfl)⟩ (Nat.le_of_ble_eq_true rfl) (s_X9_in (by omega) (by omega) (by omega)) (fun v_31 n_31 M_31 hn_31 hp => ?_)
        obtain ⟨⟨rfl, rfl, rfl⟩, gr_31⟩ := hp
        refine jr_if_ne (pc := 34) h 39 dX9_size_34 (by decide) (by omega) (fun c_34 => ?_) (fun c_34 => ?_)
        · first | have d_34 := bz_0.mp c_34 | have d_34 := bz_1.mp c_34 | skip
          refine jr_aload_n (pc := 39) h dX9_size_39 rfl ?_
          refine gf_X9_425 (pc := 40) h dX9_size_40 (by assumption) (by omega) ?_
          refine jr_ifnonnull (pc := 43) h 48 dX9_size_43 (by decide) ?_
          refine jr_iload_n (pc := 48) h dX9_size_48 rfl ?_
          refine jr_tableIn (pc := 49) h (x := 5) (off := 107) 156 dX9_size_49 (by omega) (by omega) (by omega) rfl (by decide) ?_
          refine jr_aload_n (pc := 156) h dX9_size_156 rfl ?_
          refine gf_X9_425 (pc := 157) h dX9_size_157 (by assumption) (by omega) ?_
          refine gf_X9_365 (pc := 160) h dX9_size_160 (by assumption) (by omega) ?_
          refine jr_iret (pc := 163) h hRt dX9_size_163 rfl (Nat.le_of_ble_eq_true rfl) (Nat.le_of_ble_eq_true rfl) ?_
          first
          | (exfalso; omega)
          | (refine ⟨⟨?_, rfl⟩, hX, f1⟩; refine congrArg (fun z => some (jI z)) ?_; first | exact e0 | assumption | exact (up_ne (by omega)).trans hm | rfl)
        · first | have d_34 := bz_0.mp c_34 | have d_34 := bz_1.mp c_34 | skip
          refine jr_iconst (pc := 37) h dX9_size_37 ?_
          refine jr_iret (pc := 38) h hRt dX9_size_38 rfl (Nat.le_of_ble_eq_true rfl) (Nat.le_of_ble_eq_true rfl) ?_
          first
          | (exfalso; omega)
          | (refine ⟨⟨?_, rfl⟩, hX, f1⟩; refine congrArg (fun z => some (jI z)) ?_; first | exact e0 | assumption | exact (up_ne (by omega)).trans hm | rfl)
      · first | have d_19 := bz_0.mp c_19 | have d_19 := bz_1.mp c_19 | skip
        refine jr_aload_n (pc := 22) h dX9_size_22 rfl ?_
        refine gf_X9_603 (pc := 23) h dX9_size_23 (by assumption) (by omega) ?_
        refine jr_iret (pc := 26) h hRt dX9_size_26 rfl (Nat.le_of_ble_eq_true rfl) (Nat.le_of_ble_eq_true rfl) ?_
        first
        | (exfalso; omega)
        | (refine ⟨⟨?_, rfl⟩, hX, f1⟩; refine congrArg (fun z => some (jI z)) ?_; first | exact e0 | assumption | exact (up_ne (by omega)).trans hm | rfl)
    · first | have d_8 := bz_0.mp c_8 | have d_8 := bz_1.mp c_8 | skip
      refine jr_aload_n (pc := 11) h dX9_size_11 rfl ?_
      refine gf_X9_418 (pc := 12) h dX9_size_12 (by assumption) (by omega) ?_
      refine jr_iret (pc := 15) h hRt dX9_size_15 rfl (Nat.le_of_ble_eq_true rfl) (Nat.le_of_ble_eq_true rfl) ?_
      first
      | (exfalso; omega)
      | (refine ⟨⟨?_, rfl⟩, hX, f1⟩; refine congrArg (fun z => some (jI z)) ?_; first | exact e0 | assumption | exact (up_ne (by omega)).trans hm | rfl)
set_option maxHeartbeats 2000000 in
set_option maxRecDepth 20000 in
theorem s_X9_size_6 {l : Launch} {n : Nat} {M : jdM} {m : Nat} {g : Nat → Int} {w : Int} {fl rd : Value} {B : Nat → Nat → Int} (hX : MX M n m g w fl rd B) {ct td bk si ld : Nat → Int} (hFX : FX M n m fl ct td bk si ld) {gc tg g3 : Nat → Int} (hm : g 19 = gc 6) (htp : g 6 = gc 1) (hnt : g 26 = tg 2) (h7 : B 3 429 = g3 7) (hc0 : (∀ j, ct j = 0) → gc 6 = 0 ∧ g3 7 = 0) : Ct l yX9_size cX9_size 2 (some .int) rX9_size [.ref m, jI 6] n M (fun vv n' M' => (vv = some (jI (x_size ct td gc g3 tg 6)) ∧ n = n') ∧ MX M' n m (up g 0 0) w fl rd B ∧ fr (MXf m) M M') := by
  refine Ct_of [some (.ref m), some (jI 6)] (by decide) (Nat.le_of_ble_eq_true rfl) rfl (fun κ hl h hR hRt hmn hn0 => ?_)
  have h : Ok κ RX9 cX9_size 2 (some .int) := h
  rcases hFX with ⟨rfl, hz⟩ | ⟨f, gf, A, rfl, hsep, hMF, hFM⟩
  · skip
    obtain ⟨hnm, hOm, hBm⟩ := id hX
    have hOm : M m = jdO 9 (fX9 m _ _ .null rd) := hOm
    refine jr_aload_n (pc := 0) h dX9_size_0 rfl ?_
    refine jr_iconst (pc := 1) h dX9_size_1 ?_
    refine pf_X9_52 (pc := 2) h dX9_size_2 hOm (by omega) ?_
    refine jm_gen (fun M2 hM2 => ?_)
    rw [fX9_0] at hM2
    have hX := MX_o hX hM2
    have f9 : fr (MXf m) _ M2 := fr_up hM2 ⟨by omega, by omega⟩
    obtain ⟨hnm, hOm, hBm⟩ := id hX
    have f1 := f9
    refine jr_iload_n (pc := 5) h dX9_size_5 rfl ?_
    refine jr_bipush (pc := 6) h dX9_size_6 bp_14 ?_
    refine jr_icmp_ne (pc := 8) h 16 dX9_size_8 (by decide) (by omega) (by omega) (fun c_8 => ?_) (fun c_8 => ?_)
    · first | have d_8 := bz_0.mp c_8 | have d_8 := bz_1.mp c_8 | skip
      refine jr_iload_n (pc := 16) h dX9_size_16 rfl ?_
      refine jr_bipush (pc := 17) h dX9_size_17 bp_15 ?_
      refine jr_icmp_ne (pc := 19) h 27 dX9_size_19 (by decide) (by omega) (by omega) (fun c_19 => ?_) (fun c_19 => ?_)
      · first | have d_19 := bz_0.mp c_19 | have d_19 := bz_1.mp c_19 | skip
        refine jr_iload_n (pc := 27) h dX9_size_27 rfl ?_
        refine jr_iconst (pc := 28) h dX9_size_28 ?_
        refine jr_bipush (pc := 29) h dX9_size_29 bp_13 ?_
        refine iv_X9_130 (pc := 31) h hl hR dX9_size_31 ⟨(Nat.le_of_ble_eq_true rfl), (Nat.le_of_ble_eq_true rfl), (Nat.le_of_ble_eq_true rfl), (Nat.le_of_ble_eq_true rfl)⟩ (Nat.le_of_ble_eq_true rfl) (s_X9_in (by omega) (by omega) (by omega)) (fun v_31 n_31 M_31 hn_31 hp => ?_)
        obtain ⟨⟨rfl, rfl, rfl⟩, gr_31⟩ := hp
        refine jr_if_ne (pc := 34) h 39 dX9_size_34 (by decide) (by omega) (fun c_34 => ?_) (fun c_34 => ?_)
        · first | have d_34 := bz_0.mp c_34 | have d_34 := bz_1.mp c_34 | skip
          refine jr_aload_n (pc := 39) h dX9_size_39 rfl ?_
          refine gf_X9_425 (pc := 40) h dX9_size_40 (by assumption) (by omega) ?_
          refine jr_ifnonnullN (pc := 43) h dX9_size_43 ?_
          refine jr_iconst (pc := 46) h dX9_size_46 ?_
          refine jr_iret (pc := 47) h hRt dX9_size_47 rfl (Nat.le_of_ble_eq_true rfl) (Nat.le_of_ble_eq_true rfl) ?_
          first
          | (exfalso; omega)
          | (refine ⟨⟨?_, rfl⟩, hX, f1⟩; refine congrArg (fun z => some (jI z)) ?_; first | exact (rows0 hz).symm | exact (hz _).symm | exact (hc0 hz).1.symm | exact (hc0 hz).2.symm)
        · first | have d_34 := bz_0.mp c_34 | have d_34 := bz_1.mp c_34 | skip
          refine jr_iconst (pc := 37) h dX9_size_37 ?_
          refine jr_iret (pc := 38) h hRt dX9_size_38 rfl (Nat.le_of_ble_eq_true rfl) (Nat.le_of_ble_eq_true rfl) ?_
          first
          | (exfalso; omega)
          | (refine ⟨⟨?_, rfl⟩, hX, f1⟩; refine congrArg (fun z => some (jI z)) ?_; first | exact (rows0 hz).symm | exact (hz _).symm | exact (hc0 hz).1.symm | exact (hc0 hz).2.symm)
      · first | have d_19 := bz_0.mp c_19 | have d_19 := bz_1.mp c_19 | skip
        refine jr_aload_n (pc := 22) h dX9_size_22 rfl ?_
        refine gf_X9_603 (pc := 23) h dX9_size_23 (by assumption) (by omega) ?_
        refine jr_iret (pc := 26) h hRt dX9_size_26 rfl (Nat.le_of_ble_eq_true rfl) (Nat.le_of_ble_eq_true rfl) ?_
        first
        | (exfalso; omega)
        | (refine ⟨⟨?_, rfl⟩, hX, f1⟩; refine congrArg (fun z => some (jI z)) ?_; first | exact (rows0 hz).symm | exact (hz _).symm | exact (hc0 hz).1.symm | exact (hc0 hz).2.symm)
    · first | have d_8 := bz_0.mp c_8 | have d_8 := bz_1.mp c_8 | skip
      refine jr_aload_n (pc := 11) h dX9_size_11 rfl ?_
      refine gf_X9_418 (pc := 12) h dX9_size_12 (by assumption) (by omega) ?_
      refine jr_iret (pc := 15) h hRt dX9_size_15 rfl (Nat.le_of_ble_eq_true rfl) (Nat.le_of_ble_eq_true rfl) ?_
      first
      | (exfalso; omega)
      | (refine ⟨⟨?_, rfl⟩, hX, f1⟩; refine congrArg (fun z => some (jI z)) ?_; first | exact (rows0 hz).symm | exact (hz _).symm | exact (hc0 hz).1.symm | exact (hc0 hz).2.symm)
  · skip
    obtain ⟨hnm, hOm, hBm⟩ := id hX
    have hOm : M m = jdO 9 (fX9 m _ _ (.ref f) rd) := hOm
    refine jr_aload_n (pc := 0) h dX9_size_0 rfl ?_
    refine jr_iconst (pc := 1) h dX9_size_1 ?_
    refine pf_X9_52 (pc := 2) h dX9_size_2 hOm (by omega) ?_
    refine jm_gen (fun M2 hM2 => ?_)
    rw [fX9_0] at hM2
    have hX := MX_o hX hM2
    have f9 : fr (MXf m) _ M2 := fr_up hM2 ⟨by omega, by omega⟩
    obtain ⟨hnm, hOm, hBm⟩ := id hX
    have f1 := f9
    have hMF := MF_fr hMF f9 (Nat.le_refl _) (fun k h1 h2 q => by have := q.1; have := q.2; omega)
    obtain ⟨hnf, hOf, hAf⟩ := id hMF
    obtain ⟨⟨e0, e1, e2, e3, e4⟩, ⟨k5, k6, k7, k8, k9, k10, k11, k12, k13, k14, k15⟩, ⟨a2, a3, a4, a5, a6, a7, a8, a9, a10, a11, a12⟩, ⟨hlim, hLI, hends, hrt⟩, ⟨hbk, hld⟩, hc0, hc1, hc2, hc5⟩ := id hFM
    have l2 := hlim 2 (by omega)
    have l3 := hlim 3 (by omega)
    have l4 := hlim 4 (by omega)
    have l5 := hlim 5 (by omega)
    have l6 := hlim 6 (by omega)
    have l7 := hlim 7 (by omega)
    have l8 := hlim 8 (by omega)
    have l9 := hlim 9 (by omega)
    have l10 := hlim 10 (by omega)
    have l11 := hlim 11 (by omega)
    have l12 := hlim 12 (by omega)
    rw [show (jtab 0).2.2 2 = 4 from rfl] at l2
    rw [show (jtab 0).2.2 3 = 6 from rfl] at l3
    rw [show (jtab 0).2.2 4 = 6 from rfl] at l4
    rw [show (jtab 0).2.2 5 = 2 from rfl] at l5
    rw [show (jtab 0).2.2 6 = 8 from rfl] at l6
    rw [show (jtab 0).2.2 7 = 5 from rfl] at l7
    rw [show (jtab 0).2.2 8 = 6 from rfl] at l8
    rw [show (jtab 0).2.2 9 = 3 from rfl] at l9
    rw [show (jtab 0).2.2 10 = 3 from rfl] at l10
    rw [show (jtab 0).2.2 11 = 4 from rfl] at l11
    rw [show (jtab 0).2.2 12 = 4 from rfl] at l12
    have hcr : 1 ≤ c_rows ct td ∧ c_rows ct td ≤ 40 := by
      have h9 := (hLI 0 0 (by omega) (by omega) (by omega)).1 rfl
      have e9 : c_rows ct td = c_get td 0 0 0 := by unfold c_rows; rw [if_neg (by omega)]
      omega
    have hB3 : M2 (m + 3) = jdA 431 (B 3) := hBm 3 (by omega) (by omega)
    refine jr_iload_n (pc := 5) h dX9_size_5 rfl ?_
    refine jr_bipush (pc := 6) h dX9_size_6 bp_14 ?_
    refine jr_icmp_ne (pc := 8) h 16 dX9_size_8 (by decide) (by omega) (by omega) (fun c_8 => ?_) (fun c_8 => ?_)
    · first | have d_8 := bz_0.mp c_8 | have d_8 := bz_1.mp c_8 | skip
      refine jr_iload_n (pc := 16) h dX9_size_16 rfl ?_
      refine jr_bipush (pc := 17) h dX9_size_17 bp_15 ?_
      refine jr_icmp_ne (pc := 19) h 27 dX9_size_19 (by decide) (by omega) (by omega) (fun c_19 => ?_) (fun c_19 => ?_)
      · first | have d_19 := bz_0.mp c_19 | have d_19 := bz_1.mp c_19 | skip
        refine jr_iload_n (pc := 27) h dX9_size_27 rfl ?_
        refine jr_iconst (pc := 28) h dX9_size_28 ?_
        refine jr_bipush (pc := 29) h dX9_size_29 bp_13 ?_
        refine iv_X9_130 (pc := 31) h hl hR dX9_size_31 ⟨(Nat.le_of_ble_eq_true rfl), (Nat.le_of_ble_eq_true rfl), (Nat.le_of_ble_eq_true rfl), (Nat.le_of_ble_eq_true rfl)⟩ (Nat.le_of_ble_eq_true rfl) (s_X9_in (by omega) (by omega) (by omega)) (fun v_31 n_31 M_31 hn_31 hp => ?_)
        obtain ⟨⟨rfl, rfl, rfl⟩, gr_31⟩ := hp
        refine jr_if_ne (pc := 34) h 39 dX9_size_34 (by decide) (by omega) (fun c_34 => ?_) (fun c_34 => ?_)
        · first | have d_34 := bz_0.mp c_34 | have d_34 := bz_1.mp c_34 | skip
          refine jr_aload_n (pc := 39) h dX9_size_39 rfl ?_
          refine gf_X9_425 (pc := 40) h dX9_size_40 (by assumption) (by omega) ?_
          refine jr_ifnonnull (pc := 43) h 48 dX9_size_43 (by decide) ?_
          refine jr_iload_n (pc := 48) h dX9_size_48 rfl ?_
          refine jr_tableIn (pc := 49) h (x := 6) (off := 115) 164 dX9_size_49 (by omega) (by omega) (by omega) rfl (by decide) ?_
          refine jr_aload_n (pc := 164) h dX9_size_164 rfl ?_
          refine gf_X9_425 (pc := 165) h dX9_size_165 (by assumption) (by omega) ?_
          refine gf_X9_289 (pc := 168) h dX9_size_168 (by assumption) (by omega) ?_
          refine jr_iret (pc := 171) h hRt dX9_size_171 rfl (Nat.le_of_ble_eq_true rfl) (Nat.le_of_ble_eq_true rfl) ?_
          first
          | (exfalso; omega)
          | (refine ⟨⟨?_, rfl⟩, hX, f1⟩; refine congrArg (fun z => some (jI z)) ?_; first | exact e0 | assumption | exact (up_ne (by omega)).trans hm | rfl)
        · first | have d_34 := bz_0.mp c_34 | have d_34 := bz_1.mp c_34 | skip
          refine jr_iconst (pc := 37) h dX9_size_37 ?_
          refine jr_iret (pc := 38) h hRt dX9_size_38 rfl (Nat.le_of_ble_eq_true rfl) (Nat.le_of_ble_eq_true rfl) ?_
          first
          | (exfalso; omega)
          | (refine ⟨⟨?_, rfl⟩, hX, f1⟩; refine congrArg (fun z => some (jI z)) ?_; first | exact e0 | assumption | exact (up_ne (by omega)).trans hm | rfl)
      · first | have d_19 := bz_0.mp c_19 | have d_19 := bz_1.mp c_19 | skip
        refine jr_aload_n (pc := 22) h dX9_size_22 rfl ?_
        refine gf_X9_603 (pc := 23) h dX9_size_23 (by assumption) (by omega) ?_
        refine jr_iret (pc := 26) h hRt dX9_size_26 rfl (Nat.le_of_ble_eq_true rfl) (Nat.le_of_ble_eq_true rfl) ?_
        first
        | (exfalso; omega)
        | (refine ⟨⟨?_, rfl⟩, hX, f1⟩; refine congrArg (fun z => some (jI z)) ?_; first | exact e0 | assumption | exact (up_ne (by omega)).trans hm | rfl)
    · first | have d_8 := bz_0.mp c_8 | have d_8 := bz_1.mp c_8 | skip
      refine jr_aload_n (pc := 11) h dX9_size_11 rfl ?_
      refine gf_X9_418 (pc := 12) h dX9_size_12 (by assumption) (by omega) ?_
      refine jr_iret (pc := 15) h hRt dX9_size_15 rfl (Nat.le_of_ble_eq_true rfl) (Nat.le_of_ble_eq_true rfl) ?_
      first
      | (exfalso; omega)
      | (refine ⟨⟨?_, rfl⟩, hX, f1⟩; refine congrArg (fun z => some (jI z)) ?_; first | exact e0 | assumption | exact (up_ne (by omega)).trans hm | rfl)
set_option maxHeartbeats 2000000 in
set_option maxRecDepth 20000 in
theorem s_X9_size_7 {l : Launch} {n : Nat} {M : jdM} {m : Nat} {g : Nat → Int} {w : Int} {fl rd : Value} {B : Nat → Nat → Int} (hX : MX M n m g w fl rd B) {ct td bk si ld : Nat → Int} (hFX : FX M n m fl ct td bk si ld) {gc tg g3 : Nat → Int} (hm : g 19 = gc 6) (htp : g 6 = gc 1) (hnt : g 26 = tg 2) (h7 : B 3 429 = g3 7) (hc0 : (∀ j, ct j = 0) → gc 6 = 0 ∧ g3 7 = 0) : Ct l yX9_size cX9_size 2 (some .int) rX9_size [.ref m, jI 7] n M (fun vv n' M' => (vv = some (jI (x_size ct td gc g3 tg 7)) ∧ n = n') ∧ MX M' n m (up g 0 0) w fl rd B ∧ fr (MXf m) M M') := by
  refine Ct_of [some (.ref m), some (jI 7)] (by decide) (Nat.le_of_ble_eq_true rfl) rfl (fun κ hl h hR hRt hmn hn0 => ?_)
  have h : Ok κ RX9 cX9_size 2 (some .int) := h
  rcases hFX with ⟨rfl, hz⟩ | ⟨f, gf, A, rfl, hsep, hMF, hFM⟩
  · skip
    obtain ⟨hnm, hOm, hBm⟩ := id hX
    have hOm : M m = jdO 9 (fX9 m _ _ .null rd) := hOm
    refine jr_aload_n (pc := 0) h dX9_size_0 rfl ?_
    refine jr_iconst (pc := 1) h dX9_size_1 ?_
    refine pf_X9_52 (pc := 2) h dX9_size_2 hOm (by omega) ?_
    refine jm_gen (fun M2 hM2 => ?_)
    rw [fX9_0] at hM2
    have hX := MX_o hX hM2
    have f9 : fr (MXf m) _ M2 := fr_up hM2 ⟨by omega, by omega⟩
    obtain ⟨hnm, hOm, hBm⟩ := id hX
    have f1 := f9
    refine jr_iload_n (pc := 5) h dX9_size_5 rfl ?_
    refine jr_bipush (pc := 6) h dX9_size_6 bp_14 ?_
    refine jr_icmp_ne (pc := 8) h 16 dX9_size_8 (by decide) (by omega) (by omega) (fun c_8 => ?_) (fun c_8 => ?_)
    · first | have d_8 := bz_0.mp c_8 | have d_8 := bz_1.mp c_8 | skip
      refine jr_iload_n (pc := 16) h dX9_size_16 rfl ?_
      refine jr_bipush (pc := 17) h dX9_size_17 bp_15 ?_
      refine jr_icmp_ne (pc := 19) h 27 dX9_size_19 (by decide) (by omega) (by omega) (fun c_19 => ?_) (fun c_19 => ?_)
      · first | have d_19 := bz_0.mp c_19 | have d_19 := bz_1.mp c_19 | skip
        refine jr_iload_n (pc := 27) h dX9_size_27 rfl ?_
        refine jr_iconst (pc := 28) h dX9_size_28 ?_
        refine jr_bipush (pc := 29) h dX9_size_29 bp_13 ?_
        refine iv_X9_130 (pc := 31) h hl hR dX9_size_31 ⟨(Nat.le_of_ble_eq_true rfl), (Nat.le_of_ble_eq_true rfl), (Nat.le_of_ble_eq_true rfl), (Nat.le_of_ble_eq_true rfl)⟩ (Nat.le_of_ble_eq_true rfl) (s_X9_in (by omega) (by omega) (by omega)) (fun v_31 n_31 M_31 hn_31 hp => ?_)
        obtain ⟨⟨rfl, rfl, rfl⟩, gr_31⟩ := hp
        refine jr_if_ne (pc := 34) h 39 dX9_size_34 (by decide) (by omega) (fun c_34 => ?_) (fun c_34 => ?_)
        · first | have d_34 := bz_0.mp c_34 | have d_34 := bz_1.mp c_34 | skip
          refine jr_aload_n (pc := 39) h dX9_size_39 rfl ?_
          refine gf_X9_425 (pc := 40) h dX9_size_40 (by assumption) (by omega) ?_
          refine jr_ifnonnullN (pc := 43) h dX9_size_43 ?_
          refine jr_iconst (pc := 46) h dX9_size_46 ?_
          refine jr_iret (pc := 47) h hRt dX9_size_47 rfl (Nat.le_of_ble_eq_true rfl) (Nat.le_of_ble_eq_true rfl) ?_
          first
          | (exfalso; omega)
          | (refine ⟨⟨?_, rfl⟩, hX, f1⟩; refine congrArg (fun z => some (jI z)) ?_; first | exact (rows0 hz).symm | exact (hz _).symm | exact (hc0 hz).1.symm | exact (hc0 hz).2.symm)
        · first | have d_34 := bz_0.mp c_34 | have d_34 := bz_1.mp c_34 | skip
          refine jr_iconst (pc := 37) h dX9_size_37 ?_
          refine jr_iret (pc := 38) h hRt dX9_size_38 rfl (Nat.le_of_ble_eq_true rfl) (Nat.le_of_ble_eq_true rfl) ?_
          first
          | (exfalso; omega)
          | (refine ⟨⟨?_, rfl⟩, hX, f1⟩; refine congrArg (fun z => some (jI z)) ?_; first | exact (rows0 hz).symm | exact (hz _).symm | exact (hc0 hz).1.symm | exact (hc0 hz).2.symm)
      · first | have d_19 := bz_0.mp c_19 | have d_19 := bz_1.mp c_19 | skip
        refine jr_aload_n (pc := 22) h dX9_size_22 rfl ?_
        refine gf_X9_603 (pc := 23) h dX9_size_23 (by assumption) (by omega) ?_
        refine jr_iret (pc := 26) h hRt dX9_size_26 rfl (Nat.le_of_ble_eq_true rfl) (Nat.le_of_ble_eq_true rfl) ?_
        first
        | (exfalso; omega)
        | (refine ⟨⟨?_, rfl⟩, hX, f1⟩; refine congrArg (fun z => some (jI z)) ?_; first | exact (rows0 hz).symm | exact (hz _).symm | exact (hc0 hz).1.symm | exact (hc0 hz).2.symm)
    · first | have d_8 := bz_0.mp c_8 | have d_8 := bz_1.mp c_8 | skip
      refine jr_aload_n (pc := 11) h dX9_size_11 rfl ?_
      refine gf_X9_418 (pc := 12) h dX9_size_12 (by assumption) (by omega) ?_
      refine jr_iret (pc := 15) h hRt dX9_size_15 rfl (Nat.le_of_ble_eq_true rfl) (Nat.le_of_ble_eq_true rfl) ?_
      first
      | (exfalso; omega)
      | (refine ⟨⟨?_, rfl⟩, hX, f1⟩; refine congrArg (fun z => some (jI z)) ?_; first | exact (rows0 hz).symm | exact (hz _).symm | exact (hc0 hz).1.symm | exact (hc0 hz).2.symm)
  · skip
    obtain ⟨hnm, hOm, hBm⟩ := id hX
    have hOm : M m = jdO 9 (fX9 m _ _ (.ref f) rd) := hOm
    refine jr_aload_n (pc := 0) h dX9_size_0 rfl ?_
    refine jr_iconst (pc := 1) h dX9_size_1 ?_
    refine pf_X9_52 (pc := 2) h dX9_size_2 hOm (by omega) ?_
    refine jm_gen (fun M2 hM2 => ?_)
    rw [fX9_0] at hM2
    have hX := MX_o hX hM2
    have f9 : fr (MXf m) _ M2 := fr_up hM2 ⟨by omega, by omega⟩
    obtain ⟨hnm, hOm, hBm⟩ := id hX
    have f1 := f9
    have hMF := MF_fr hMF f9 (Nat.le_refl _) (fun k h1 h2 q => by have := q.1; have := q.2; omega)
    obtain ⟨hnf, hOf, hAf⟩ := id hMF
    obtain ⟨⟨e0, e1, e2, e3, e4⟩, ⟨k5, k6, k7, k8, k9, k10, k11, k12, k13, k14, k15⟩, ⟨a2, a3, a4, a5, a6, a7, a8, a9, a10, a11, a12⟩, ⟨hlim, hLI, hends, hrt⟩, ⟨hbk, hld⟩, hc0, hc1, hc2, hc5⟩ := id hFM
    have l2 := hlim 2 (by omega)
    have l3 := hlim 3 (by omega)
    have l4 := hlim 4 (by omega)
    have l5 := hlim 5 (by omega)
    have l6 := hlim 6 (by omega)
    have l7 := hlim 7 (by omega)
    have l8 := hlim 8 (by omega)
    have l9 := hlim 9 (by omega)
    have l10 := hlim 10 (by omega)
    have l11 := hlim 11 (by omega)
    have l12 := hlim 12 (by omega)
    rw [show (jtab 0).2.2 2 = 4 from rfl] at l2
    rw [show (jtab 0).2.2 3 = 6 from rfl] at l3
    rw [show (jtab 0).2.2 4 = 6 from rfl] at l4
    rw [show (jtab 0).2.2 5 = 2 from rfl] at l5
    rw [show (jtab 0).2.2 6 = 8 from rfl] at l6
    rw [show (jtab 0).2.2 7 = 5 from rfl] at l7
    rw [show (jtab 0).2.2 8 = 6 from rfl] at l8
    rw [show (jtab 0).2.2 9 = 3 from rfl] at l9
    rw [show (jtab 0).2.2 10 = 3 from rfl] at l10
    rw [show (jtab 0).2.2 11 = 4 from rfl] at l11
    rw [show (jtab 0).2.2 12 = 4 from rfl] at l12
    have hcr : 1 ≤ c_rows ct td ∧ c_rows ct td ≤ 40 := by
      have h9 := (hLI 0 0 (by omega) (by omega) (by omega)).1 rfl
      have e9 : c_rows ct td = c_get td 0 0 0 := by unfold c_rows; rw [if_neg (by omega)]
      omega
    have hB3 : M2 (m + 3) = jdA 431 (B 3) := hBm 3 (by omega) (by omega)
    refine jr_iload_n (pc := 5) h dX9_size_5 rfl ?_
    refine jr_bipush (pc := 6) h dX9_size_6 bp_14 ?_
    refine jr_icmp_ne (pc := 8) h 16 dX9_size_8 (by decide) (by omega) (by omega) (fun c_8 => ?_) (fun c_8 => ?_)
    · first | have d_8 := bz_0.mp c_8 | have d_8 := bz_1.mp c_8 | skip
      refine jr_iload_n (pc := 16) h dX9_size_16 rfl ?_
      refine jr_bipush (pc := 17) h dX9_size_17 bp_15 ?_
      refine jr_icmp_ne (pc := 19) h 27 dX9_size_19 (by decide) (by omega) (by omega) (fun c_19 => ?_) (fun c_19 => ?_)
      · first | have d_19 := bz_0.mp c_19 | have d_19 := bz_1.mp c_19 | skip
        refine jr_iload_n (pc := 27) h dX9_size_27 rfl ?_
        refine jr_iconst (pc := 28) h dX9_size_28 ?_
        refine jr_bipush (pc := 29) h dX9_size_29 bp_13 ?_
        refine iv_X9_130 (pc := 31) h hl hR dX9_size_31 ⟨(Nat.le_of_ble_eq_true rfl), (Nat.le_of_ble_eq_true rfl), (Nat.le_of_ble_eq_true rfl), (Nat.le_of_ble_eq_true rfl)⟩ (Nat.le_of_ble_eq_true rfl) (s_X9_in (by omega) (by omega) (by omega)) (fun v_31 n_31 M_31 hn_31 hp => ?_)
        obtain ⟨⟨rfl, rfl, rfl⟩, gr_31⟩ := hp
        refine jr_if_ne (pc := 34) h 39 dX9_size_34 (by decide) (by omega) (fun c_34 => ?_) (fun c_34 => ?_)
        · first | have d_34 := bz_0.mp c_34 | have d_34 := bz_1.mp c_34 | skip
          refine jr_aload_n (pc := 39) h dX9_size_39 rfl ?_
          refine gf_X9_425 (pc := 40) h dX9_size_40 (by assumption) (by omega) ?_
          refine jr_ifnonnull (pc := 43) h 48 dX9_size_43 (by decide) ?_
          refine jr_iload_n (pc := 48) h dX9_size_48 rfl ?_
          refine jr_tableIn (pc := 49) h (x := 7) (off := 123) 172 dX9_size_49 (by omega) (by omega) (by omega) rfl (by decide) ?_
          refine jr_aload_n (pc := 172) h dX9_size_172 rfl ?_
          refine gf_X9_425 (pc := 173) h dX9_size_173 (by assumption) (by omega) ?_
          refine gf_X9_384 (pc := 176) h dX9_size_176 (by assumption) (by omega) ?_
          refine jr_iret (pc := 179) h hRt dX9_size_179 rfl (Nat.le_of_ble_eq_true rfl) (Nat.le_of_ble_eq_true rfl) ?_
          first
          | (exfalso; omega)
          | (refine ⟨⟨?_, rfl⟩, hX, f1⟩; refine congrArg (fun z => some (jI z)) ?_; first | exact e0 | assumption | exact (up_ne (by omega)).trans hm | rfl)
        · first | have d_34 := bz_0.mp c_34 | have d_34 := bz_1.mp c_34 | skip
          refine jr_iconst (pc := 37) h dX9_size_37 ?_
          refine jr_iret (pc := 38) h hRt dX9_size_38 rfl (Nat.le_of_ble_eq_true rfl) (Nat.le_of_ble_eq_true rfl) ?_
          first
          | (exfalso; omega)
          | (refine ⟨⟨?_, rfl⟩, hX, f1⟩; refine congrArg (fun z => some (jI z)) ?_; first | exact e0 | assumption | exact (up_ne (by omega)).trans hm | rfl)
      · first | have d_19 := bz_0.mp c_19 | have d_19 := bz_1.mp c_19 | skip
        refine jr_aload_n (pc := 22) h dX9_size_22 rfl ?_
        refine gf_X9_603 (pc := 23) h dX9_size_23 (by assumption) (by omega) ?_
        refine jr_iret (pc := 26) h hRt dX9_size_26 rfl (Nat.le_of_ble_eq_true rfl) (Nat.le_of_ble_eq_true rfl) ?_
        first
        | (exfalso; omega)
        | (refine ⟨⟨?_, rfl⟩, hX, f1⟩; refine congrArg (fun z => some (jI z)) ?_; first | exact e0 | assumption | exact (up_ne (by omega)).trans hm | rfl)
    · first | have d_8 := bz_0.mp c_8 | have d_8 := bz_1.mp c_8 | skip
      refine jr_aload_n (pc := 11) h dX9_size_11 rfl ?_
      refine gf_X9_418 (pc := 12) h dX9_size_12 (by assumption) (by omega) ?_
      refine jr_iret (pc := 15) h hRt dX9_size_15 rfl (Nat.le_of_ble_eq_true rfl) (Nat.le_of_ble_eq_true rfl) ?_
      first
      | (exfalso; omega)
      | (refine ⟨⟨?_, rfl⟩, hX, f1⟩; refine congrArg (fun z => some (jI z)) ?_; first | exact e0 | assumption | exact (up_ne (by omega)).trans hm | rfl)
set_option maxHeartbeats 2000000 in
set_option maxRecDepth 20000 in
theorem s_X9_size_8 {l : Launch} {n : Nat} {M : jdM} {m : Nat} {g : Nat → Int} {w : Int} {fl rd : Value} {B : Nat → Nat → Int} (hX : MX M n m g w fl rd B) {ct td bk si ld : Nat → Int} (hFX : FX M n m fl ct td bk si ld) {gc tg g3 : Nat → Int} (hm : g 19 = gc 6) (htp : g 6 = gc 1) (hnt : g 26 = tg 2) (h7 : B 3 429 = g3 7) (hc0 : (∀ j, ct j = 0) → gc 6 = 0 ∧ g3 7 = 0) : Ct l yX9_size cX9_size 2 (some .int) rX9_size [.ref m, jI 8] n M (fun vv n' M' => (vv = some (jI (x_size ct td gc g3 tg 8)) ∧ n = n') ∧ MX M' n m (up g 0 0) w fl rd B ∧ fr (MXf m) M M') := by
  refine Ct_of [some (.ref m), some (jI 8)] (by decide) (Nat.le_of_ble_eq_true rfl) rfl (fun κ hl h hR hRt hmn hn0 => ?_)
  have h : Ok κ RX9 cX9_size 2 (some .int) := h
  rcases hFX with ⟨rfl, hz⟩ | ⟨f, gf, A, rfl, hsep, hMF, hFM⟩
  · skip
    obtain ⟨hnm, hOm, hBm⟩ := id hX
    have hOm : M m = jdO 9 (fX9 m _ _ .null rd) := hOm
    refine jr_aload_n (pc := 0) h dX9_size_0 rfl ?_
    refine jr_iconst (pc := 1) h dX9_size_1 ?_
    refine pf_X9_52 (pc := 2) h dX9_size_2 hOm (by omega) ?_
    refine jm_gen (fun M2 hM2 => ?_)
    rw [fX9_0] at hM2
    have hX := MX_o hX hM2
    have f9 : fr (MXf m) _ M2 := fr_up hM2 ⟨by omega, by omega⟩
    obtain ⟨hnm, hOm, hBm⟩ := id hX
    have f1 := f9
    refine jr_iload_n (pc := 5) h dX9_size_5 rfl ?_
    refine jr_bipush (pc := 6) h dX9_size_6 bp_14 ?_
    refine jr_icmp_ne (pc := 8) h 16 dX9_size_8 (by decide) (by omega) (by omega) (fun c_8 => ?_) (fun c_8 => ?_)
    · first | have d_8 := bz_0.mp c_8 | have d_8 := bz_1.mp c_8 | skip
      refine jr_iload_n (pc := 16) h dX9_size_16 rfl ?_
      refine jr_bipush (pc := 17) h dX9_size_17 bp_15 ?_
      refine jr_icmp_ne (pc := 19) h 27 dX9_size_19 (by decide) (by omega) (by omega) (fun c_19 => ?_) (fun c_19 => ?_)
      · first | have d_19 := bz_0.mp c_19 | have d_19 := bz_1.mp c_19 | skip
        refine jr_iload_n (pc := 27) h dX9_size_27 rfl ?_
        refine jr_iconst (pc := 28) h dX9_size_28 ?_
        refine jr_bipush (pc := 29) h dX9_size_29 bp_13 ?_
        refine iv_X9_130 (pc := 31) h hl hR dX9_size_31 ⟨(Nat.le_of_ble_eq_true rfl), (Nat.le_of_ble_eq_true rfl), (Nat.le_of_ble_eq_true rfl), (Nat.le_of_ble_eq_true rfl)⟩ (Nat.le_of_ble_eq_true rfl) (s_X9_in (by omega) (by omega) (by omega)) (fun v_31 n_31 M_31 hn_31 hp => ?_)
        obtain ⟨⟨rfl, rfl, rfl⟩, gr_31⟩ := hp
        refine jr_if_ne (pc := 34) h 39 dX9_size_34 (by decide) (by omega) (fun c_34 => ?_) (fun c_34 => ?_)
        · first | have d_34 := bz_0.mp c_34 | have d_34 := bz_1.mp c_34 | skip
          refine jr_aload_n (pc := 39) h dX9_size_39 rfl ?_
          refine gf_X9_425 (pc := 40) h dX9_size_40 (by assumption) (by omega) ?_
          refine jr_ifnonnullN (pc := 43) h dX9_size_43 ?_
          refine jr_iconst (pc := 46) h dX9_size_46 ?_
          refine jr_iret (pc := 47) h hRt dX9_size_47 rfl (Nat.le_of_ble_eq_true rfl) (Nat.le_of_ble_eq_true rfl) ?_
          first
          | (exfalso; omega)
          | (refine ⟨⟨?_, rfl⟩, hX, f1⟩; refine congrArg (fun z => some (jI z)) ?_; first | exact (rows0 hz).symm | exact (hz _).symm | exact (hc0 hz).1.symm | exact (hc0 hz).2.symm)
        · first | have d_34 := bz_0.mp c_34 | have d_34 := bz_1.mp c_34 | skip
          refine jr_iconst (pc := 37) h dX9_size_37 ?_
          refine jr_iret (pc := 38) h hRt dX9_size_38 rfl (Nat.le_of_ble_eq_true rfl) (Nat.le_of_ble_eq_true rfl) ?_
          first
          | (exfalso; omega)
          | (refine ⟨⟨?_, rfl⟩, hX, f1⟩; refine congrArg (fun z => some (jI z)) ?_; first | exact (rows0 hz).symm | exact (hz _).symm | exact (hc0 hz).1.symm | exact (hc0 hz).2.symm)
      · first | have d_19 := bz_0.mp c_19 | have d_19 := bz_1.mp c_19 | skip
        refine jr_aload_n (pc := 22) h dX9_size_22 rfl ?_
        refine gf_X9_603 (pc := 23) h dX9_size_23 (by assumption) (by omega) ?_
        refine jr_iret (pc := 26) h hRt dX9_size_26 rfl (Nat.le_of_ble_eq_true rfl) (Nat.le_of_ble_eq_true rfl) ?_
        first
        | (exfalso; omega)
        | (refine ⟨⟨?_, rfl⟩, hX, f1⟩; refine congrArg (fun z => some (jI z)) ?_; first | exact (rows0 hz).symm | exact (hz _).symm | exact (hc0 hz).1.symm | exact (hc0 hz).2.symm)
    · first | have d_8 := bz_0.mp c_8 | have d_8 := bz_1.mp c_8 | skip
      refine jr_aload_n (pc := 11) h dX9_size_11 rfl ?_
      refine gf_X9_418 (pc := 12) h dX9_size_12 (by assumption) (by omega) ?_
      refine jr_iret (pc := 15) h hRt dX9_size_15 rfl (Nat.le_of_ble_eq_true rfl) (Nat.le_of_ble_eq_true rfl) ?_
      first
      | (exfalso; omega)
      | (refine ⟨⟨?_, rfl⟩, hX, f1⟩; refine congrArg (fun z => some (jI z)) ?_; first | exact (rows0 hz).symm | exact (hz _).symm | exact (hc0 hz).1.symm | exact (hc0 hz).2.symm)
  · skip
    obtain ⟨hnm, hOm, hBm⟩ := id hX
    have hOm : M m = jdO 9 (fX9 m _ _ (.ref f) rd) := hOm
    refine jr_aload_n (pc := 0) h dX9_size_0 rfl ?_
    refine jr_iconst (pc := 1) h dX9_size_1 ?_
    refine pf_X9_52 (pc := 2) h dX9_size_2 hOm (by omega) ?_
    refine jm_gen (fun M2 hM2 => ?_)
    rw [fX9_0] at hM2
    have hX := MX_o hX hM2
    have f9 : fr (MXf m) _ M2 := fr_up hM2 ⟨by omega, by omega⟩
    obtain ⟨hnm, hOm, hBm⟩ := id hX
    have f1 := f9
    have hMF := MF_fr hMF f9 (Nat.le_refl _) (fun k h1 h2 q => by have := q.1; have := q.2; omega)
    obtain ⟨hnf, hOf, hAf⟩ := id hMF
    obtain ⟨⟨e0, e1, e2, e3, e4⟩, ⟨k5, k6, k7, k8, k9, k10, k11, k12, k13, k14, k15⟩, ⟨a2, a3, a4, a5, a6, a7, a8, a9, a10, a11, a12⟩, ⟨hlim, hLI, hends, hrt⟩, ⟨hbk, hld⟩, hc0, hc1, hc2, hc5⟩ := id hFM
    have l2 := hlim 2 (by omega)
    have l3 := hlim 3 (by omega)
    have l4 := hlim 4 (by omega)
    have l5 := hlim 5 (by omega)
    have l6 := hlim 6 (by omega)
    have l7 := hlim 7 (by omega)
    have l8 := hlim 8 (by omega)
    have l9 := hlim 9 (by omega)
    have l10 := hlim 10 (by omega)
    have l11 := hlim 11 (by omega)
    have l12 := hlim 12 (by omega)
    rw [show (jtab 0).2.2 2 = 4 from rfl] at l2
    rw [show (jtab 0).2.2 3 = 6 from rfl] at l3
    rw [show (jtab 0).2.2 4 = 6 from rfl] at l4
    rw [show (jtab 0).2.2 5 = 2 from rfl] at l5
    rw [show (jtab 0).2.2 6 = 8 from rfl] at l6
    rw [show (jtab 0).2.2 7 = 5 from rfl] at l7
    rw [show (jtab 0).2.2 8 = 6 from rfl] at l8
    rw [show (jtab 0).2.2 9 = 3 from rfl] at l9
    rw [show (jtab 0).2.2 10 = 3 from rfl] at l10
    rw [show (jtab 0).2.2 11 = 4 from rfl] at l11
    rw [show (jtab 0).2.2 12 = 4 from rfl] at l12
    have hcr : 1 ≤ c_rows ct td ∧ c_rows ct td ≤ 40 := by
      have h9 := (hLI 0 0 (by omega) (by omega) (by omega)).1 rfl
      have e9 : c_rows ct td = c_get td 0 0 0 := by unfold c_rows; rw [if_neg (by omega)]
      omega
    have hB3 : M2 (m + 3) = jdA 431 (B 3) := hBm 3 (by omega) (by omega)
    refine jr_iload_n (pc := 5) h dX9_size_5 rfl ?_
    refine jr_bipush (pc := 6) h dX9_size_6 bp_14 ?_
    refine jr_icmp_ne (pc := 8) h 16 dX9_size_8 (by decide) (by omega) (by omega) (fun c_8 => ?_) (fun c_8 => ?_)
    · first | have d_8 := bz_0.mp c_8 | have d_8 := bz_1.mp c_8 | skip
      refine jr_iload_n (pc := 16) h dX9_size_16 rfl ?_
      refine jr_bipush (pc := 17) h dX9_size_17 bp_15 ?_
      refine jr_icmp_ne (pc := 19) h 27 dX9_size_19 (by decide) (by omega) (by omega) (fun c_19 => ?_) (fun c_19 => ?_)
      · first | have d_19 := bz_0.mp c_19 | have d_19 := bz_1.mp c_19 | skip
        refine jr_iload_n (pc := 27) h dX9_size_27 rfl ?_
        refine jr_iconst (pc := 28) h dX9_size_28 ?_
        refine jr_bipush (pc := 29) h dX9_size_29 bp_13 ?_
        refine iv_X9_130 (pc := 31) h hl hR dX9_size_31 ⟨(Nat.le_of_ble_eq_true rfl), (Nat.le_of_ble_eq_true rfl), (Nat.le_of_ble_eq_true rfl), (Nat.le_of_ble_eq_true rfl)⟩ (Nat.le_of_ble_eq_true rfl) (s_X9_in (by omega) (by omega) (by omega)) (fun v_31 n_31 M_31 hn_31 hp => ?_)
        obtain ⟨⟨rfl, rfl, rfl⟩, gr_31⟩ := hp
        refine jr_if_ne (pc := 34) h 39 dX9_size_34 (by decide) (by omega) (fun c_34 => ?_) (fun c_34 => ?_)
        · first | have d_34 := bz_0.mp c_34 | have d_34 := bz_1.mp c_34 | skip
          refine jr_aload_n (pc := 39) h dX9_size_39 rfl ?_
          refine gf_X9_425 (pc := 40) h dX9_size_40 (by assumption) (by omega) ?_
          refine jr_ifnonnull (pc := 43) h 48 dX9_size_43 (by decide) ?_
          refine jr_iload_n (pc := 48) h dX9_size_48 rfl ?_
          refine jr_tableIn (pc := 49) h (x := 8) (off := 131) 180 dX9_size_49 (by omega) (by omega) (by omega) rfl (by decide) ?_
          refine jr_aload_n (pc := 180) h dX9_size_180 rfl ?_
          refine gf_X9_425 (pc := 181) h dX9_size_181 (by assumption) (by omega) ?_
          refine gf_X9_392 (pc := 184) h dX9_size_184 (by assumption) (by omega) ?_
          refine jr_iret (pc := 187) h hRt dX9_size_187 rfl (Nat.le_of_ble_eq_true rfl) (Nat.le_of_ble_eq_true rfl) ?_
          first
          | (exfalso; omega)
          | (refine ⟨⟨?_, rfl⟩, hX, f1⟩; refine congrArg (fun z => some (jI z)) ?_; first | exact e0 | assumption | exact (up_ne (by omega)).trans hm | rfl)
        · first | have d_34 := bz_0.mp c_34 | have d_34 := bz_1.mp c_34 | skip
          refine jr_iconst (pc := 37) h dX9_size_37 ?_
          refine jr_iret (pc := 38) h hRt dX9_size_38 rfl (Nat.le_of_ble_eq_true rfl) (Nat.le_of_ble_eq_true rfl) ?_
          first
          | (exfalso; omega)
          | (refine ⟨⟨?_, rfl⟩, hX, f1⟩; refine congrArg (fun z => some (jI z)) ?_; first | exact e0 | assumption | exact (up_ne (by omega)).trans hm | rfl)
      · first | have d_19 := bz_0.mp c_19 | have d_19 := bz_1.mp c_19 | skip
        refine jr_aload_n (pc := 22) h dX9_size_22 rfl ?_
        refine gf_X9_603 (pc := 23) h dX9_size_23 (by assumption) (by omega) ?_
        refine jr_iret (pc := 26) h hRt dX9_size_26 rfl (Nat.le_of_ble_eq_true rfl) (Nat.le_of_ble_eq_true rfl) ?_
        first
        | (exfalso; omega)
        | (refine ⟨⟨?_, rfl⟩, hX, f1⟩; refine congrArg (fun z => some (jI z)) ?_; first | exact e0 | assumption | exact (up_ne (by omega)).trans hm | rfl)
    · first | have d_8 := bz_0.mp c_8 | have d_8 := bz_1.mp c_8 | skip
      refine jr_aload_n (pc := 11) h dX9_size_11 rfl ?_
      refine gf_X9_418 (pc := 12) h dX9_size_12 (by assumption) (by omega) ?_
      refine jr_iret (pc := 15) h hRt dX9_size_15 rfl (Nat.le_of_ble_eq_true rfl) (Nat.le_of_ble_eq_true rfl) ?_
      first
      | (exfalso; omega)
      | (refine ⟨⟨?_, rfl⟩, hX, f1⟩; refine congrArg (fun z => some (jI z)) ?_; first | exact e0 | assumption | exact (up_ne (by omega)).trans hm | rfl)
set_option maxHeartbeats 2000000 in
set_option maxRecDepth 20000 in
theorem s_X9_size_9 {l : Launch} {n : Nat} {M : jdM} {m : Nat} {g : Nat → Int} {w : Int} {fl rd : Value} {B : Nat → Nat → Int} (hX : MX M n m g w fl rd B) {ct td bk si ld : Nat → Int} (hFX : FX M n m fl ct td bk si ld) {gc tg g3 : Nat → Int} (hm : g 19 = gc 6) (htp : g 6 = gc 1) (hnt : g 26 = tg 2) (h7 : B 3 429 = g3 7) (hc0 : (∀ j, ct j = 0) → gc 6 = 0 ∧ g3 7 = 0) : Ct l yX9_size cX9_size 2 (some .int) rX9_size [.ref m, jI 9] n M (fun vv n' M' => (vv = some (jI (x_size ct td gc g3 tg 9)) ∧ n = n') ∧ MX M' n m (up g 0 0) w fl rd B ∧ fr (MXf m) M M') := by
  refine Ct_of [some (.ref m), some (jI 9)] (by decide) (Nat.le_of_ble_eq_true rfl) rfl (fun κ hl h hR hRt hmn hn0 => ?_)
  have h : Ok κ RX9 cX9_size 2 (some .int) := h
  rcases hFX with ⟨rfl, hz⟩ | ⟨f, gf, A, rfl, hsep, hMF, hFM⟩
  · skip
    obtain ⟨hnm, hOm, hBm⟩ := id hX
    have hOm : M m = jdO 9 (fX9 m _ _ .null rd) := hOm
    refine jr_aload_n (pc := 0) h dX9_size_0 rfl ?_
    refine jr_iconst (pc := 1) h dX9_size_1 ?_
    refine pf_X9_52 (pc := 2) h dX9_size_2 hOm (by omega) ?_
    refine jm_gen (fun M2 hM2 => ?_)
    rw [fX9_0] at hM2
    have hX := MX_o hX hM2
    have f9 : fr (MXf m) _ M2 := fr_up hM2 ⟨by omega, by omega⟩
    obtain ⟨hnm, hOm, hBm⟩ := id hX
    have f1 := f9
    refine jr_iload_n (pc := 5) h dX9_size_5 rfl ?_
    refine jr_bipush (pc := 6) h dX9_size_6 bp_14 ?_
    refine jr_icmp_ne (pc := 8) h 16 dX9_size_8 (by decide) (by omega) (by omega) (fun c_8 => ?_) (fun c_8 => ?_)
    · first | have d_8 := bz_0.mp c_8 | have d_8 := bz_1.mp c_8 | skip
      refine jr_iload_n (pc := 16) h dX9_size_16 rfl ?_
      refine jr_bipush (pc := 17) h dX9_size_17 bp_15 ?_
      refine jr_icmp_ne (pc := 19) h 27 dX9_size_19 (by decide) (by omega) (by omega) (fun c_19 => ?_) (fun c_19 => ?_)
      · first | have d_19 := bz_0.mp c_19 | have d_19 := bz_1.mp c_19 | skip
        refine jr_iload_n (pc := 27) h dX9_size_27 rfl ?_
        refine jr_iconst (pc := 28) h dX9_size_28 ?_
        refine jr_bipush (pc := 29) h dX9_size_29 bp_13 ?_
        refine iv_X9_130 (pc := 31) h hl hR dX9_size_31 ⟨(Nat.le_of_ble_eq_true rfl), (Nat.le_of_ble_eq_true rfl), (Nat.le_of_ble_eq_true rfl), (Nat.le_of_ble_eq_true rfl)⟩ (Nat.le_of_ble_eq_true rfl) (s_X9_in (by omega) (by omega) (by omega)) (fun v_31 n_31 M_31 hn_31 hp => ?_)
        obtain ⟨⟨rfl, rfl, rfl⟩, gr_31⟩ := hp
        refine jr_if_ne (pc := 34) h 39 dX9_size_34 (by decide) (by omega) (fun c_34 => ?_) (fun c_34 => ?_)
        · first | have d_34 := bz_0.mp c_34 | have d_34 := bz_1.mp c_34 | skip
          refine jr_aload_n (pc := 39) h dX9_size_39 rfl ?_
          refine gf_X9_425 (pc := 40) h dX9_size_40 (by assumption) (by omega) ?_
          refine jr_ifnonnullN (pc := 43) h dX9_size_43 ?_
          refine jr_iconst (pc := 46) h dX9_size_46 ?_
          refine jr_iret (pc := 47) h hRt dX9_size_47 rfl (Nat.le_of_ble_eq_true rfl) (Nat.le_of_ble_eq_true rfl) ?_
          first
          | (exfalso; omega)
          | (refine ⟨⟨?_, rfl⟩, hX, f1⟩; refine congrArg (fun z => some (jI z)) ?_; first | exact (rows0 hz).symm | exact (hz _).symm | exact (hc0 hz).1.symm | exact (hc0 hz).2.symm)
        · first | have d_34 := bz_0.mp c_34 | have d_34 := bz_1.mp c_34 | skip
          refine jr_iconst (pc := 37) h dX9_size_37 ?_
          refine jr_iret (pc := 38) h hRt dX9_size_38 rfl (Nat.le_of_ble_eq_true rfl) (Nat.le_of_ble_eq_true rfl) ?_
          first
          | (exfalso; omega)
          | (refine ⟨⟨?_, rfl⟩, hX, f1⟩; refine congrArg (fun z => some (jI z)) ?_; first | exact (rows0 hz).symm | exact (hz _).symm | exact (hc0 hz).1.symm | exact (hc0 hz).2.symm)
      · first | have d_19 := bz_0.mp c_19 | have d_19 := bz_1.mp c_19 | skip
        refine jr_aload_n (pc := 22) h dX9_size_22 rfl ?_
        refine gf_X9_603 (pc := 23) h dX9_size_23 (by assumption) (by omega) ?_
        refine jr_iret (pc := 26) h hRt dX9_size_26 rfl (Nat.le_of_ble_eq_true rfl) (Nat.le_of_ble_eq_true rfl) ?_
        first
        | (exfalso; omega)
        | (refine ⟨⟨?_, rfl⟩, hX, f1⟩; refine congrArg (fun z => some (jI z)) ?_; first | exact (rows0 hz).symm | exact (hz _).symm | exact (hc0 hz).1.symm | exact (hc0 hz).2.symm)
    · first | have d_8 := bz_0.mp c_8 | have d_8 := bz_1.mp c_8 | skip
      refine jr_aload_n (pc := 11) h dX9_size_11 rfl ?_
      refine gf_X9_418 (pc := 12) h dX9_size_12 (by assumption) (by omega) ?_
      refine jr_iret (pc := 15) h hRt dX9_size_15 rfl (Nat.le_of_ble_eq_true rfl) (Nat.le_of_ble_eq_true rfl) ?_
      first
      | (exfalso; omega)
      | (refine ⟨⟨?_, rfl⟩, hX, f1⟩; refine congrArg (fun z => some (jI z)) ?_; first | exact (rows0 hz).symm | exact (hz _).symm | exact (hc0 hz).1.symm | exact (hc0 hz).2.symm)
  · skip
    obtain ⟨hnm, hOm, hBm⟩ := id hX
    have hOm : M m = jdO 9 (fX9 m _ _ (.ref f) rd) := hOm
    refine jr_aload_n (pc := 0) h dX9_size_0 rfl ?_
    refine jr_iconst (pc := 1) h dX9_size_1 ?_
    refine pf_X9_52 (pc := 2) h dX9_size_2 hOm (by omega) ?_
    refine jm_gen (fun M2 hM2 => ?_)
    rw [fX9_0] at hM2
    have hX := MX_o hX hM2
    have f9 : fr (MXf m) _ M2 := fr_up hM2 ⟨by omega, by omega⟩
    obtain ⟨hnm, hOm, hBm⟩ := id hX
    have f1 := f9
    have hMF := MF_fr hMF f9 (Nat.le_refl _) (fun k h1 h2 q => by have := q.1; have := q.2; omega)
    obtain ⟨hnf, hOf, hAf⟩ := id hMF
    obtain ⟨⟨e0, e1, e2, e3, e4⟩, ⟨k5, k6, k7, k8, k9, k10, k11, k12, k13, k14, k15⟩, ⟨a2, a3, a4, a5, a6, a7, a8, a9, a10, a11, a12⟩, ⟨hlim, hLI, hends, hrt⟩, ⟨hbk, hld⟩, hc0, hc1, hc2, hc5⟩ := id hFM
    have l2 := hlim 2 (by omega)
    have l3 := hlim 3 (by omega)
    have l4 := hlim 4 (by omega)
    have l5 := hlim 5 (by omega)
    have l6 := hlim 6 (by omega)
    have l7 := hlim 7 (by omega)
    have l8 := hlim 8 (by omega)
    have l9 := hlim 9 (by omega)
    have l10 := hlim 10 (by omega)
    have l11 := hlim 11 (by omega)
    have l12 := hlim 12 (by omega)
    rw [show (jtab 0).2.2 2 = 4 from rfl] at l2
    rw [show (jtab 0).2.2 3 = 6 from rfl] at l3
    rw [show (jtab 0).2.2 4 = 6 from rfl] at l4
    rw [show (jtab 0).2.2 5 = 2 from rfl] at l5
    rw [show (jtab 0).2.2 6 = 8 from rfl] at l6
    rw [show (jtab 0).2.2 7 = 5 from rfl] at l7
    rw [show (jtab 0).2.2 8 = 6 from rfl] at l8
    rw [show (jtab 0).2.2 9 = 3 from rfl] at l9
    rw [show (jtab 0).2.2 10 = 3 from rfl] at l10
    rw [show (jtab 0).2.2 11 = 4 from rfl] at l11
    rw [show (jtab 0).2.2 12 = 4 from rfl] at l12
    have hcr : 1 ≤ c_rows ct td ∧ c_rows ct td ≤ 40 := by
      have h9 := (hLI 0 0 (by omega) (by omega) (by omega)).1 rfl
      have e9 : c_rows ct td = c_get td 0 0 0 := by unfold c_rows; rw [if_neg (by omega)]
      omega
    have hB3 : M2 (m + 3) = jdA 431 (B 3) := hBm 3 (by omega) (by omega)
    refine jr_iload_n (pc := 5) h dX9_size_5 rfl ?_
    refine jr_bipush (pc := 6) h dX9_size_6 bp_14 ?_
    refine jr_icmp_ne (pc := 8) h 16 dX9_size_8 (by decide) (by omega) (by omega) (fun c_8 => ?_) (fun c_8 => ?_)
    · first | have d_8 := bz_0.mp c_8 | have d_8 := bz_1.mp c_8 | skip
      refine jr_iload_n (pc := 16) h dX9_size_16 rfl ?_
      refine jr_bipush (pc := 17) h dX9_size_17 bp_15 ?_
      refine jr_icmp_ne (pc := 19) h 27 dX9_size_19 (by decide) (by omega) (by omega) (fun c_19 => ?_) (fun c_19 => ?_)
      · first | have d_19 := bz_0.mp c_19 | have d_19 := bz_1.mp c_19 | skip
        refine jr_iload_n (pc := 27) h dX9_size_27 rfl ?_
        refine jr_iconst (pc := 28) h dX9_size_28 ?_
        refine jr_bipush (pc := 29) h dX9_size_29 bp_13 ?_
        refine iv_X9_130 (pc := 31) h hl hR dX9_size_31 ⟨(Nat.le_of_ble_eq_true rfl), (Nat.le_of_ble_eq_true rfl), (Nat.le_of_ble_eq_true rfl), (Nat.le_of_ble_eq_true rfl)⟩ (Nat.le_of_ble_eq_true rfl) (s_X9_in (by omega) (by omega) (by omega)) (fun v_31 n_31 M_31 hn_31 hp => ?_)
        obtain ⟨⟨rfl, rfl, rfl⟩, gr_31⟩ := hp
        refine jr_if_ne (pc := 34) h 39 dX9_size_34 (by decide) (by omega) (fun c_34 => ?_) (fun c_34 => ?_)
        · first | have d_34 := bz_0.mp c_34 | have d_34 := bz_1.mp c_34 | skip
          refine jr_aload_n (pc := 39) h dX9_size_39 rfl ?_
          refine gf_X9_425 (pc := 40) h dX9_size_40 (by assumption) (by omega) ?_
          refine jr_ifnonnull (pc := 43) h 48 dX9_size_43 (by decide) ?_
          refine jr_iload_n (pc := 48) h dX9_size_48 rfl ?_
          refine jr_tableIn (pc := 49) h (x := 9) (off := 139) 188 dX9_size_49 (by omega) (by omega) (by omega) rfl (by decide) ?_
          refine jr_aload_n (pc := 188) h dX9_size_188 rfl ?_
          refine gf_X9_425 (pc := 189) h dX9_size_189 (by assumption) (by omega) ?_
          refine gf_X9_397 (pc := 192) h dX9_size_192 (by assumption) (by omega) ?_
          refine jr_iret (pc := 195) h hRt dX9_size_195 rfl (Nat.le_of_ble_eq_true rfl) (Nat.le_of_ble_eq_true rfl) ?_
          first
          | (exfalso; omega)
          | (refine ⟨⟨?_, rfl⟩, hX, f1⟩; refine congrArg (fun z => some (jI z)) ?_; first | exact e0 | assumption | exact (up_ne (by omega)).trans hm | rfl)
        · first | have d_34 := bz_0.mp c_34 | have d_34 := bz_1.mp c_34 | skip
          refine jr_iconst (pc := 37) h dX9_size_37 ?_
          refine jr_iret (pc := 38) h hRt dX9_size_38 rfl (Nat.le_of_ble_eq_true rfl) (Nat.le_of_ble_eq_true rfl) ?_
          first
          | (exfalso; omega)
          | (refine ⟨⟨?_, rfl⟩, hX, f1⟩; refine congrArg (fun z => some (jI z)) ?_; first | exact e0 | assumption | exact (up_ne (by omega)).trans hm | rfl)
      · first | have d_19 := bz_0.mp c_19 | have d_19 := bz_1.mp c_19 | skip
        refine jr_aload_n (pc := 22) h dX9_size_22 rfl ?_
        refine gf_X9_603 (pc := 23) h dX9_size_23 (by assumption) (by omega) ?_
        refine jr_iret (pc := 26) h hRt dX9_size_26 rfl (Nat.le_of_ble_eq_true rfl) (Nat.le_of_ble_eq_true rfl) ?_
        first
        | (exfalso; omega)
        | (refine ⟨⟨?_, rfl⟩, hX, f1⟩; refine congrArg (fun z => some (jI z)) ?_; first | exact e0 | assumption | exact (up_ne (by omega)).trans hm | rfl)
    · first | have d_8 := bz_0.mp c_8 | have d_8 := bz_1.mp c_8 | skip
      refine jr_aload_n (pc := 11) h dX9_size_11 rfl ?_
      refine gf_X9_418 (pc := 12) h dX9_size_12 (by assumption) (by omega) ?_
      refine jr_iret (pc := 15) h hRt dX9_size_15 rfl (Nat.le_of_ble_eq_true rfl) (Nat.le_of_ble_eq_true rfl) ?_
      first
      | (exfalso; omega)
      | (refine ⟨⟨?_, rfl⟩, hX, f1⟩; refine congrArg (fun z => some (jI z)) ?_; first | exact e0 | assumption | exact (up_ne (by omega)).trans hm | rfl)
set_option maxHeartbeats 2000000 in
set_option maxRecDepth 20000 in
theorem s_X9_size_10 {l : Launch} {n : Nat} {M : jdM} {m : Nat} {g : Nat → Int} {w : Int} {fl rd : Value} {B : Nat → Nat → Int} (hX : MX M n m g w fl rd B) {ct td bk si ld : Nat → Int} (hFX : FX M n m fl ct td bk si ld) {gc tg g3 : Nat → Int} (hm : g 19 = gc 6) (htp : g 6 = gc 1) (hnt : g 26 = tg 2) (h7 : B 3 429 = g3 7) (hc0 : (∀ j, ct j = 0) → gc 6 = 0 ∧ g3 7 = 0) : Ct l yX9_size cX9_size 2 (some .int) rX9_size [.ref m, jI 10] n M (fun vv n' M' => (vv = some (jI (x_size ct td gc g3 tg 10)) ∧ n = n') ∧ MX M' n m (up g 0 0) w fl rd B ∧ fr (MXf m) M M') := by
  refine Ct_of [some (.ref m), some (jI 10)] (by decide) (Nat.le_of_ble_eq_true rfl) rfl (fun κ hl h hR hRt hmn hn0 => ?_)
  have h : Ok κ RX9 cX9_size 2 (some .int) := h
  rcases hFX with ⟨rfl, hz⟩ | ⟨f, gf, A, rfl, hsep, hMF, hFM⟩
  · skip
    obtain ⟨hnm, hOm, hBm⟩ := id hX
    have hOm : M m = jdO 9 (fX9 m _ _ .null rd) := hOm
    refine jr_aload_n (pc := 0) h dX9_size_0 rfl ?_
    refine jr_iconst (pc := 1) h dX9_size_1 ?_
    refine pf_X9_52 (pc := 2) h dX9_size_2 hOm (by omega) ?_
    refine jm_gen (fun M2 hM2 => ?_)
    rw [fX9_0] at hM2
    have hX := MX_o hX hM2
    have f9 : fr (MXf m) _ M2 := fr_up hM2 ⟨by omega, by omega⟩
    obtain ⟨hnm, hOm, hBm⟩ := id hX
    have f1 := f9
    refine jr_iload_n (pc := 5) h dX9_size_5 rfl ?_
    refine jr_bipush (pc := 6) h dX9_size_6 bp_14 ?_
    refine jr_icmp_ne (pc := 8) h 16 dX9_size_8 (by decide) (by omega) (by omega) (fun c_8 => ?_) (fun c_8 => ?_)
    · first | have d_8 := bz_0.mp c_8 | have d_8 := bz_1.mp c_8 | skip
      refine jr_iload_n (pc := 16) h dX9_size_16 rfl ?_
      refine jr_bipush (pc := 17) h dX9_size_17 bp_15 ?_
      refine jr_icmp_ne (pc := 19) h 27 dX9_size_19 (by decide) (by omega) (by omega) (fun c_19 => ?_) (fun c_19 => ?_)
      · first | have d_19 := bz_0.mp c_19 | have d_19 := bz_1.mp c_19 | skip
        refine jr_iload_n (pc := 27) h dX9_size_27 rfl ?_
        refine jr_iconst (pc := 28) h dX9_size_28 ?_
        refine jr_bipush (pc := 29) h dX9_size_29 bp_13 ?_
        refine iv_X9_130 (pc := 31) h hl hR dX9_size_31 ⟨(Nat.le_of_ble_eq_true rfl), (Nat.le_of_ble_eq_true rfl), (Nat.le_of_ble_eq_true rfl), (Nat.le_of_ble_eq_true rfl)⟩ (Nat.le_of_ble_eq_true rfl) (s_X9_in (by omega) (by omega) (by omega)) (fun v_31 n_31 M_31 hn_31 hp => ?_)
        obtain ⟨⟨rfl, rfl, rfl⟩, gr_31⟩ := hp
        refine jr_if_ne (pc := 34) h 39 dX9_size_34 (by decide) (by omega) (fun c_34 => ?_) (fun c_34 => ?_)
        · first | have d_34 := bz_0.mp c_34 | have d_34 := bz_1.mp c_34 | skip
          refine jr_aload_n (pc := 39) h dX9_size_39 rfl ?_
          refine gf_X9_425 (pc := 40) h dX9_size_40 (by assumption) (by omega) ?_
          refine jr_ifnonnullN (pc := 43) h dX9_size_43 ?_
          refine jr_iconst (pc := 46) h dX9_size_46 ?_
          refine jr_iret (pc := 47) h hRt dX9_size_47 rfl (Nat.le_of_ble_eq_true rfl) (Nat.le_of_ble_eq_true rfl) ?_
          first
          | (exfalso; omega)
          | (refine ⟨⟨?_, rfl⟩, hX, f1⟩; refine congrArg (fun z => some (jI z)) ?_; first | exact (rows0 hz).symm | exact (hz _).symm | exact (hc0 hz).1.symm | exact (hc0 hz).2.symm)
        · first | have d_34 := bz_0.mp c_34 | have d_34 := bz_1.mp c_34 | skip
          refine jr_iconst (pc := 37) h dX9_size_37 ?_
          refine jr_iret (pc := 38) h hRt dX9_size_38 rfl (Nat.le_of_ble_eq_true rfl) (Nat.le_of_ble_eq_true rfl) ?_
          first
          | (exfalso; omega)
          | (refine ⟨⟨?_, rfl⟩, hX, f1⟩; refine congrArg (fun z => some (jI z)) ?_; first | exact (rows0 hz).symm | exact (hz _).symm | exact (hc0 hz).1.symm | exact (hc0 hz).2.symm)
      · first | have d_19 := bz_0.mp c_19 | have d_19 := bz_1.mp c_19 | skip
        refine jr_aload_n (pc := 22) h dX9_size_22 rfl ?_
        refine gf_X9_603 (pc := 23) h dX9_size_23 (by assumption) (by omega) ?_
        refine jr_iret (pc := 26) h hRt dX9_size_26 rfl (Nat.le_of_ble_eq_true rfl) (Nat.le_of_ble_eq_true rfl) ?_
        first
        | (exfalso; omega)
        | (refine ⟨⟨?_, rfl⟩, hX, f1⟩; refine congrArg (fun z => some (jI z)) ?_; first | exact (rows0 hz).symm | exact (hz _).symm | exact (hc0 hz).1.symm | exact (hc0 hz).2.symm)
    · first | have d_8 := bz_0.mp c_8 | have d_8 := bz_1.mp c_8 | skip
      refine jr_aload_n (pc := 11) h dX9_size_11 rfl ?_
      refine gf_X9_418 (pc := 12) h dX9_size_12 (by assumption) (by omega) ?_
      refine jr_iret (pc := 15) h hRt dX9_size_15 rfl (Nat.le_of_ble_eq_true rfl) (Nat.le_of_ble_eq_true rfl) ?_
      first
      | (exfalso; omega)
      | (refine ⟨⟨?_, rfl⟩, hX, f1⟩; refine congrArg (fun z => some (jI z)) ?_; first | exact (rows0 hz).symm | exact (hz _).symm | exact (hc0 hz).1.symm | exact (hc0 hz).2.symm)
  · skip
    obtain ⟨hnm, hOm, hBm⟩ := id hX
    have hOm : M m = jdO 9 (fX9 m _ _ (.ref f) rd) := hOm
    refine jr_aload_n (pc := 0) h dX9_size_0 rfl ?_
    refine jr_iconst (pc := 1) h dX9_size_1 ?_
    refine pf_X9_52 (pc := 2) h dX9_size_2 hOm (by omega) ?_
    refine jm_gen (fun M2 hM2 => ?_)
    rw [fX9_0] at hM2
    have hX := MX_o hX hM2
    have f9 : fr (MXf m) _ M2 := fr_up hM2 ⟨by omega, by omega⟩
    obtain ⟨hnm, hOm, hBm⟩ := id hX
    have f1 := f9
    have hMF := MF_fr hMF f9 (Nat.le_refl _) (fun k h1 h2 q => by have := q.1; have := q.2; omega)
    obtain ⟨hnf, hOf, hAf⟩ := id hMF
    obtain ⟨⟨e0, e1, e2, e3, e4⟩, ⟨k5, k6, k7, k8, k9, k10, k11, k12, k13, k14, k15⟩, ⟨a2, a3, a4, a5, a6, a7, a8, a9, a10, a11, a12⟩, ⟨hlim, hLI, hends, hrt⟩, ⟨hbk, hld⟩, hc0, hc1, hc2, hc5⟩ := id hFM
    have l2 := hlim 2 (by omega)
    have l3 := hlim 3 (by omega)
    have l4 := hlim 4 (by omega)
    have l5 := hlim 5 (by omega)
    have l6 := hlim 6 (by omega)
    have l7 := hlim 7 (by omega)
    have l8 := hlim 8 (by omega)
    have l9 := hlim 9 (by omega)
    have l10 := hlim 10 (by omega)
    have l11 := hlim 11 (by omega)
    have l12 := hlim 12 (by omega)
    rw [show (jtab 0).2.2 2 = 4 from rfl] at l2
    rw [show (jtab 0).2.2 3 = 6 from rfl] at l3
    rw [show (jtab 0).2.2 4 = 6 from rfl] at l4
    rw [show (jtab 0).2.2 5 = 2 from rfl] at l5
    rw [show (jtab 0).2.2 6 = 8 from rfl] at l6
    rw [show (jtab 0).2.2 7 = 5 from rfl] at l7
    rw [show (jtab 0).2.2 8 = 6 from rfl] at l8
    rw [show (jtab 0).2.2 9 = 3 from rfl] at l9
    rw [show (jtab 0).2.2 10 = 3 from rfl] at l10
    rw [show (jtab 0).2.2 11 = 4 from rfl] at l11
    rw [show (jtab 0).2.2 12 = 4 from rfl] at l12
    have hcr : 1 ≤ c_rows ct td ∧ c_rows ct td ≤ 40 := by
      have h9 := (hLI 0 0 (by omega) (by omega) (by omega)).1 rfl
      have e9 : c_rows ct td = c_get td 0 0 0 := by unfold c_rows; rw [if_neg (by omega)]
      omega
    have hB3 : M2 (m + 3) = jdA 431 (B 3) := hBm 3 (by omega) (by omega)
    refine jr_iload_n (pc := 5) h dX9_size_5 rfl ?_
    refine jr_bipush (pc := 6) h dX9_size_6 bp_14 ?_
    refine jr_icmp_ne (pc := 8) h 16 dX9_size_8 (by decide) (by omega) (by omega) (fun c_8 => ?_) (fun c_8 => ?_)
    · first | have d_8 := bz_0.mp c_8 | have d_8 := bz_1.mp c_8 | skip
      refine jr_iload_n (pc := 16) h dX9_size_16 rfl ?_
      refine jr_bipush (pc := 17) h dX9_size_17 bp_15 ?_
      refine jr_icmp_ne (pc := 19) h 27 dX9_size_19 (by decide) (by omega) (by omega) (fun c_19 => ?_) (fun c_19 => ?_)
      · first | have d_19 := bz_0.mp c_19 | have d_19 := bz_1.mp c_19 | skip
        refine jr_iload_n (pc := 27) h dX9_size_27 rfl ?_
        refine jr_iconst (pc := 28) h dX9_size_28 ?_
        refine jr_bipush (pc := 29) h dX9_size_29 bp_13 ?_
        refine iv_X9_130 (pc := 31) h hl hR dX9_size_31 ⟨(Nat.le_of_ble_eq_true rfl), (Nat.le_of_ble_eq_true rfl), (Nat.le_of_ble_eq_true rfl), (Nat.le_of_ble_eq_true rfl)⟩ (Nat.le_of_ble_eq_true rfl) (s_X9_in (by omega) (by omega) (by omega)) (fun v_31 n_31 M_31 hn_31 hp => ?_)
        obtain ⟨⟨rfl, rfl, rfl⟩, gr_31⟩ := hp
        refine jr_if_ne (pc := 34) h 39 dX9_size_34 (by decide) (by omega) (fun c_34 => ?_) (fun c_34 => ?_)
        · first | have d_34 := bz_0.mp c_34 | have d_34 := bz_1.mp c_34 | skip
          refine jr_aload_n (pc := 39) h dX9_size_39 rfl ?_
          refine gf_X9_425 (pc := 40) h dX9_size_40 (by assumption) (by omega) ?_
          refine jr_ifnonnull (pc := 43) h 48 dX9_size_43 (by decide) ?_
          refine jr_iload_n (pc := 48) h dX9_size_48 rfl ?_
          refine jr_tableIn (pc := 49) h (x := 10) (off := 147) 196 dX9_size_49 (by omega) (by omega) (by omega) rfl (by decide) ?_
          refine jr_aload_n (pc := 196) h dX9_size_196 rfl ?_
          refine gf_X9_425 (pc := 197) h dX9_size_197 (by assumption) (by omega) ?_
          refine gf_X9_302 (pc := 200) h dX9_size_200 (by assumption) (by omega) ?_
          refine jr_iret (pc := 203) h hRt dX9_size_203 rfl (Nat.le_of_ble_eq_true rfl) (Nat.le_of_ble_eq_true rfl) ?_
          first
          | (exfalso; omega)
          | (refine ⟨⟨?_, rfl⟩, hX, f1⟩; refine congrArg (fun z => some (jI z)) ?_; first | exact e0 | assumption | exact (up_ne (by omega)).trans hm | rfl)
        · first | have d_34 := bz_0.mp c_34 | have d_34 := bz_1.mp c_34 | skip
          refine jr_iconst (pc := 37) h dX9_size_37 ?_
          refine jr_iret (pc := 38) h hRt dX9_size_38 rfl (Nat.le_of_ble_eq_true rfl) (Nat.le_of_ble_eq_true rfl) ?_
          first
          | (exfalso; omega)
          | (refine ⟨⟨?_, rfl⟩, hX, f1⟩; refine congrArg (fun z => some (jI z)) ?_; first | exact e0 | assumption | exact (up_ne (by omega)).trans hm | rfl)
      · first | have d_19 := bz_0.mp c_19 | have d_19 := bz_1.mp c_19 | skip
        refine jr_aload_n (pc := 22) h dX9_size_22 rfl ?_
        refine gf_X9_603 (pc := 23) h dX9_size_23 (by assumption) (by omega) ?_
        refine jr_iret (pc := 26) h hRt dX9_size_26 rfl (Nat.le_of_ble_eq_true rfl) (Nat.le_of_ble_eq_true rfl) ?_
        first
        | (exfalso; omega)
        | (refine ⟨⟨?_, rfl⟩, hX, f1⟩; refine congrArg (fun z => some (jI z)) ?_; first | exact e0 | assumption | exact (up_ne (by omega)).trans hm | rfl)
    · first | have d_8 := bz_0.mp c_8 | have d_8 := bz_1.mp c_8 | skip
      refine jr_aload_n (pc := 11) h dX9_size_11 rfl ?_
      refine gf_X9_418 (pc := 12) h dX9_size_12 (by assumption) (by omega) ?_
      refine jr_iret (pc := 15) h hRt dX9_size_15 rfl (Nat.le_of_ble_eq_true rfl) (Nat.le_of_ble_eq_true rfl) ?_
      first
      | (exfalso; omega)
      | (refine ⟨⟨?_, rfl⟩, hX, f1⟩; refine congrArg (fun z => some (jI z)) ?_; first | exact e0 | assumption | exact (up_ne (by omega)).trans hm | rfl)
set_option maxHeartbeats 2000000 in
set_option maxRecDepth 20000 in
theorem s_X9_size_11 {l : Launch} {n : Nat} {M : jdM} {m : Nat} {g : Nat → Int} {w : Int} {fl rd : Value} {B : Nat → Nat → Int} (hX : MX M n m g w fl rd B) {ct td bk si ld : Nat → Int} (hFX : FX M n m fl ct td bk si ld) {gc tg g3 : Nat → Int} (hm : g 19 = gc 6) (htp : g 6 = gc 1) (hnt : g 26 = tg 2) (h7 : B 3 429 = g3 7) (hc0 : (∀ j, ct j = 0) → gc 6 = 0 ∧ g3 7 = 0) : Ct l yX9_size cX9_size 2 (some .int) rX9_size [.ref m, jI 11] n M (fun vv n' M' => (vv = some (jI (x_size ct td gc g3 tg 11)) ∧ n = n') ∧ MX M' n m (up g 0 0) w fl rd B ∧ fr (MXf m) M M') := by
  refine Ct_of [some (.ref m), some (jI 11)] (by decide) (Nat.le_of_ble_eq_true rfl) rfl (fun κ hl h hR hRt hmn hn0 => ?_)
  have h : Ok κ RX9 cX9_size 2 (some .int) := h
  rcases hFX with ⟨rfl, hz⟩ | ⟨f, gf, A, rfl, hsep, hMF, hFM⟩
  · skip
    obtain ⟨hnm, hOm, hBm⟩ := id hX
    have hOm : M m = jdO 9 (fX9 m _ _ .null rd) := hOm
    refine jr_aload_n (pc := 0) h dX9_size_0 rfl ?_
    refine jr_iconst (pc := 1) h dX9_size_1 ?_
    refine pf_X9_52 (pc := 2) h dX9_size_2 hOm (by omega) ?_
    refine jm_gen (fun M2 hM2 => ?_)
    rw [fX9_0] at hM2
    have hX := MX_o hX hM2
    have f9 : fr (MXf m) _ M2 := fr_up hM2 ⟨by omega, by omega⟩
    obtain ⟨hnm, hOm, hBm⟩ := id hX
    have f1 := f9
    refine jr_iload_n (pc := 5) h dX9_size_5 rfl ?_
    refine jr_bipush (pc := 6) h dX9_size_6 bp_14 ?_
    refine jr_icmp_ne (pc := 8) h 16 dX9_size_8 (by decide) (by omega) (by omega) (fun c_8 => ?_) (fun c_8 => ?_)
    · first | have d_8 := bz_0.mp c_8 | have d_8 := bz_1.mp c_8 | skip
      refine jr_iload_n (pc := 16) h dX9_size_16 rfl ?_
      refine jr_bipush (pc := 17) h dX9_size_17 bp_15 ?_
      refine jr_icmp_ne (pc := 19) h 27 dX9_size_19 (by decide) (by omega) (by omega) (fun c_19 => ?_) (fun c_19 => ?_)
      · first | have d_19 := bz_0.mp c_19 | have d_19 := bz_1.mp c_19 | skip
        refine jr_iload_n (pc := 27) h dX9_size_27 rfl ?_
        refine jr_iconst (pc := 28) h dX9_size_28 ?_
        refine jr_bipush (pc := 29) h dX9_size_29 bp_13 ?_
        refine iv_X9_130 (pc := 31) h hl hR dX9_size_31 ⟨(Nat.le_of_ble_eq_true rfl), (Nat.le_of_ble_eq_true rfl), (Nat.le_of_ble_eq_true rfl), (Nat.le_of_ble_eq_true rfl)⟩ (Nat.le_of_ble_eq_true rfl) (s_X9_in (by omega) (by omega) (by omega)) (fun v_31 n_31 M_31 hn_31 hp => ?_)
        obtain ⟨⟨rfl, rfl, rfl⟩, gr_31⟩ := hp
        refine jr_if_ne (pc := 34) h 39 dX9_size_34 (by decide) (by omega) (fun c_34 => ?_) (fun c_34 => ?_)
        · first | have d_34 := bz_0.mp c_34 | have d_34 := bz_1.mp c_34 | skip
          refine jr_aload_n (pc := 39) h dX9_size_39 rfl ?_
          refine gf_X9_425 (pc := 40) h dX9_size_40 (by assumption) (by omega) ?_
          refine jr_ifnonnullN (pc := 43) h dX9_size_43 ?_
          refine jr_iconst (pc := 46) h dX9_size_46 ?_
          refine jr_iret (pc := 47) h hRt dX9_size_47 rfl (Nat.le_of_ble_eq_true rfl) (Nat.le_of_ble_eq_true rfl) ?_
          first
          | (exfalso; omega)
          | (refine ⟨⟨?_, rfl⟩, hX, f1⟩; refine congrArg (fun z => some (jI z)) ?_; first | exact (rows0 hz).symm | exact (hz _).symm | exact (hc0 hz).1.symm | exact (hc0 hz).2.symm)
        · first | have d_34 := bz_0.mp c_34 | have d_34 := bz_1.mp c_34 | skip
          refine jr_iconst (pc := 37) h dX9_size_37 ?_
          refine jr_iret (pc := 38) h hRt dX9_size_38 rfl (Nat.le_of_ble_eq_true rfl) (Nat.le_of_ble_eq_true rfl) ?_
          first
          | (exfalso; omega)
          | (refine ⟨⟨?_, rfl⟩, hX, f1⟩; refine congrArg (fun z => some (jI z)) ?_; first | exact (rows0 hz).symm | exact (hz _).symm | exact (hc0 hz).1.symm | exact (hc0 hz).2.symm)
      · first | have d_19 := bz_0.mp c_19 | have d_19 := bz_1.mp c_19 | skip
        refine jr_aload_n (pc := 22) h dX9_size_22 rfl ?_
        refine gf_X9_603 (pc := 23) h dX9_size_23 (by assumption) (by omega) ?_
        refine jr_iret (pc := 26) h hRt dX9_size_26 rfl (Nat.le_of_ble_eq_true rfl) (Nat.le_of_ble_eq_true rfl) ?_
        first
        | (exfalso; omega)
        | (refine ⟨⟨?_, rfl⟩, hX, f1⟩; refine congrArg (fun z => some (jI z)) ?_; first | exact (rows0 hz).symm | exact (hz _).symm | exact (hc0 hz).1.symm | exact (hc0 hz).2.symm)
    · first | have d_8 := bz_0.mp c_8 | have d_8 := bz_1.mp c_8 | skip
      refine jr_aload_n (pc := 11) h dX9_size_11 rfl ?_
      refine gf_X9_418 (pc := 12) h dX9_size_12 (by assumption) (by omega) ?_
      refine jr_iret (pc := 15) h hRt dX9_size_15 rfl (Nat.le_of_ble_eq_true rfl) (Nat.le_of_ble_eq_true rfl) ?_
      first
      | (exfalso; omega)
      | (refine ⟨⟨?_, rfl⟩, hX, f1⟩; refine congrArg (fun z => some (jI z)) ?_; first | exact (rows0 hz).symm | exact (hz _).symm | exact (hc0 hz).1.symm | exact (hc0 hz).2.symm)
  · skip
    obtain ⟨hnm, hOm, hBm⟩ := id hX
    have hOm : M m = jdO 9 (fX9 m _ _ (.ref f) rd) := hOm
    refine jr_aload_n (pc := 0) h dX9_size_0 rfl ?_
    refine jr_iconst (pc := 1) h dX9_size_1 ?_
    refine pf_X9_52 (pc := 2) h dX9_size_2 hOm (by omega) ?_
    refine jm_gen (fun M2 hM2 => ?_)
    rw [fX9_0] at hM2
    have hX := MX_o hX hM2
    have f9 : fr (MXf m) _ M2 := fr_up hM2 ⟨by omega, by omega⟩
    obtain ⟨hnm, hOm, hBm⟩ := id hX
    have f1 := f9
    have hMF := MF_fr hMF f9 (Nat.le_refl _) (fun k h1 h2 q => by have := q.1; have := q.2; omega)
    obtain ⟨hnf, hOf, hAf⟩ := id hMF
    obtain ⟨⟨e0, e1, e2, e3, e4⟩, ⟨k5, k6, k7, k8, k9, k10, k11, k12, k13, k14, k15⟩, ⟨a2, a3, a4, a5, a6, a7, a8, a9, a10, a11, a12⟩, ⟨hlim, hLI, hends, hrt⟩, ⟨hbk, hld⟩, hc0, hc1, hc2, hc5⟩ := id hFM
    have l2 := hlim 2 (by omega)
    have l3 := hlim 3 (by omega)
    have l4 := hlim 4 (by omega)
    have l5 := hlim 5 (by omega)
    have l6 := hlim 6 (by omega)
    have l7 := hlim 7 (by omega)
    have l8 := hlim 8 (by omega)
    have l9 := hlim 9 (by omega)
    have l10 := hlim 10 (by omega)
    have l11 := hlim 11 (by omega)
    have l12 := hlim 12 (by omega)
    rw [show (jtab 0).2.2 2 = 4 from rfl] at l2
    rw [show (jtab 0).2.2 3 = 6 from rfl] at l3
    rw [show (jtab 0).2.2 4 = 6 from rfl] at l4
    rw [show (jtab 0).2.2 5 = 2 from rfl] at l5
    rw [show (jtab 0).2.2 6 = 8 from rfl] at l6
    rw [show (jtab 0).2.2 7 = 5 from rfl] at l7
    rw [show (jtab 0).2.2 8 = 6 from rfl] at l8
    rw [show (jtab 0).2.2 9 = 3 from rfl] at l9
    rw [show (jtab 0).2.2 10 = 3 from rfl] at l10
    rw [show (jtab 0).2.2 11 = 4 from rfl] at l11
    rw [show (jtab 0).2.2 12 = 4 from rfl] at l12
    have hcr : 1 ≤ c_rows ct td ∧ c_rows ct td ≤ 40 := by
      have h9 := (hLI 0 0 (by omega) (by omega) (by omega)).1 rfl
      have e9 : c_rows ct td = c_get td 0 0 0 := by unfold c_rows; rw [if_neg (by omega)]
      omega
    have hB3 : M2 (m + 3) = jdA 431 (B 3) := hBm 3 (by omega) (by omega)
    refine jr_iload_n (pc := 5) h dX9_size_5 rfl ?_
    refine jr_bipush (pc := 6) h dX9_size_6 bp_14 ?_
    refine jr_icmp_ne (pc := 8) h 16 dX9_size_8 (by decide) (by omega) (by omega) (fun c_8 => ?_) (fun c_8 => ?_)
    · first | have d_8 := bz_0.mp c_8 | have d_8 := bz_1.mp c_8 | skip
      refine jr_iload_n (pc := 16) h dX9_size_16 rfl ?_
      refine jr_bipush (pc := 17) h dX9_size_17 bp_15 ?_
      refine jr_icmp_ne (pc := 19) h 27 dX9_size_19 (by decide) (by omega) (by omega) (fun c_19 => ?_) (fun c_19 => ?_)
      · first | have d_19 := bz_0.mp c_19 | have d_19 := bz_1.mp c_19 | skip
        refine jr_iload_n (pc := 27) h dX9_size_27 rfl ?_
        refine jr_iconst (pc := 28) h dX9_size_28 ?_
        refine jr_bipush (pc := 29) h dX9_size_29 bp_13 ?_
        refine iv_X9_130 (pc := 31) h hl hR dX9_size_31 ⟨(Nat.le_of_ble_eq_true rfl), (Nat.le_of_ble_eq_true rfl), (Nat.le_of_ble_eq_true rfl), (Nat.le_of_ble_eq_true rfl)⟩ (Nat.le_of_ble_eq_true rfl) (s_X9_in (by omega) (by omega) (by omega)) (fun v_31 n_31 M_31 hn_31 hp => ?_)
        obtain ⟨⟨rfl, rfl, rfl⟩, gr_31⟩ := hp
        refine jr_if_ne (pc := 34) h 39 dX9_size_34 (by decide) (by omega) (fun c_34 => ?_) (fun c_34 => ?_)
        · first | have d_34 := bz_0.mp c_34 | have d_34 := bz_1.mp c_34 | skip
          refine jr_aload_n (pc := 39) h dX9_size_39 rfl ?_
          refine gf_X9_425 (pc := 40) h dX9_size_40 (by assumption) (by omega) ?_
          refine jr_ifnonnull (pc := 43) h 48 dX9_size_43 (by decide) ?_
          refine jr_iload_n (pc := 48) h dX9_size_48 rfl ?_
          refine jr_tableIn (pc := 49) h (x := 11) (off := 155) 204 dX9_size_49 (by omega) (by omega) (by omega) rfl (by decide) ?_
          refine jr_aload_n (pc := 204) h dX9_size_204 rfl ?_
          refine gf_X9_425 (pc := 205) h dX9_size_205 (by assumption) (by omega) ?_
          refine gf_X9_411 (pc := 208) h dX9_size_208 (by assumption) (by omega) ?_
          refine jr_iret (pc := 211) h hRt dX9_size_211 rfl (Nat.le_of_ble_eq_true rfl) (Nat.le_of_ble_eq_true rfl) ?_
          first
          | (exfalso; omega)
          | (refine ⟨⟨?_, rfl⟩, hX, f1⟩; refine congrArg (fun z => some (jI z)) ?_; first | exact e0 | assumption | exact (up_ne (by omega)).trans hm | rfl)
        · first | have d_34 := bz_0.mp c_34 | have d_34 := bz_1.mp c_34 | skip
          refine jr_iconst (pc := 37) h dX9_size_37 ?_
          refine jr_iret (pc := 38) h hRt dX9_size_38 rfl (Nat.le_of_ble_eq_true rfl) (Nat.le_of_ble_eq_true rfl) ?_
          first
          | (exfalso; omega)
          | (refine ⟨⟨?_, rfl⟩, hX, f1⟩; refine congrArg (fun z => some (jI z)) ?_; first | exact e0 | assumption | exact (up_ne (by omega)).trans hm | rfl)
      · first | have d_19 := bz_0.mp c_19 | have d_19 := bz_1.mp c_19 | skip
        refine jr_aload_n (pc := 22) h dX9_size_22 rfl ?_
        refine gf_X9_603 (pc := 23) h dX9_size_23 (by assumption) (by omega) ?_
        refine jr_iret (pc := 26) h hRt dX9_size_26 rfl (Nat.le_of_ble_eq_true rfl) (Nat.le_of_ble_eq_true rfl) ?_
        first
        | (exfalso; omega)
        | (refine ⟨⟨?_, rfl⟩, hX, f1⟩; refine congrArg (fun z => some (jI z)) ?_; first | exact e0 | assumption | exact (up_ne (by omega)).trans hm | rfl)
    · first | have d_8 := bz_0.mp c_8 | have d_8 := bz_1.mp c_8 | skip
      refine jr_aload_n (pc := 11) h dX9_size_11 rfl ?_
      refine gf_X9_418 (pc := 12) h dX9_size_12 (by assumption) (by omega) ?_
      refine jr_iret (pc := 15) h hRt dX9_size_15 rfl (Nat.le_of_ble_eq_true rfl) (Nat.le_of_ble_eq_true rfl) ?_
      first
      | (exfalso; omega)
      | (refine ⟨⟨?_, rfl⟩, hX, f1⟩; refine congrArg (fun z => some (jI z)) ?_; first | exact e0 | assumption | exact (up_ne (by omega)).trans hm | rfl)
set_option maxHeartbeats 2000000 in
set_option maxRecDepth 20000 in
theorem s_X9_size_12 {l : Launch} {n : Nat} {M : jdM} {m : Nat} {g : Nat → Int} {w : Int} {fl rd : Value} {B : Nat → Nat → Int} (hX : MX M n m g w fl rd B) {ct td bk si ld : Nat → Int} (hFX : FX M n m fl ct td bk si ld) {gc tg g3 : Nat → Int} (hm : g 19 = gc 6) (htp : g 6 = gc 1) (hnt : g 26 = tg 2) (h7 : B 3 429 = g3 7) (hc0 : (∀ j, ct j = 0) → gc 6 = 0 ∧ g3 7 = 0) : Ct l yX9_size cX9_size 2 (some .int) rX9_size [.ref m, jI 12] n M (fun vv n' M' => (vv = some (jI (x_size ct td gc g3 tg 12)) ∧ n = n') ∧ MX M' n m (up g 0 0) w fl rd B ∧ fr (MXf m) M M') := by
  refine Ct_of [some (.ref m), some (jI 12)] (by decide) (Nat.le_of_ble_eq_true rfl) rfl (fun κ hl h hR hRt hmn hn0 => ?_)
  have h : Ok κ RX9 cX9_size 2 (some .int) := h
  rcases hFX with ⟨rfl, hz⟩ | ⟨f, gf, A, rfl, hsep, hMF, hFM⟩
  · skip
    obtain ⟨hnm, hOm, hBm⟩ := id hX
    have hOm : M m = jdO 9 (fX9 m _ _ .null rd) := hOm
    refine jr_aload_n (pc := 0) h dX9_size_0 rfl ?_
    refine jr_iconst (pc := 1) h dX9_size_1 ?_
    refine pf_X9_52 (pc := 2) h dX9_size_2 hOm (by omega) ?_
    refine jm_gen (fun M2 hM2 => ?_)
    rw [fX9_0] at hM2
    have hX := MX_o hX hM2
    have f9 : fr (MXf m) _ M2 := fr_up hM2 ⟨by omega, by omega⟩
    obtain ⟨hnm, hOm, hBm⟩ := id hX
    have f1 := f9
    refine jr_iload_n (pc := 5) h dX9_size_5 rfl ?_
    refine jr_bipush (pc := 6) h dX9_size_6 bp_14 ?_
    refine jr_icmp_ne (pc := 8) h 16 dX9_size_8 (by decide) (by omega) (by omega) (fun c_8 => ?_) (fun c_8 => ?_)
    · first | have d_8 := bz_0.mp c_8 | have d_8 := bz_1.mp c_8 | skip
      refine jr_iload_n (pc := 16) h dX9_size_16 rfl ?_
      refine jr_bipush (pc := 17) h dX9_size_17 bp_15 ?_
      refine jr_icmp_ne (pc := 19) h 27 dX9_size_19 (by decide) (by omega) (by omega) (fun c_19 => ?_) (fun c_19 => ?_)
      · first | have d_19 := bz_0.mp c_19 | have d_19 := bz_1.mp c_19 | skip
        refine jr_iload_n (pc := 27) h dX9_size_27 rfl ?_
        refine jr_iconst (pc := 28) h dX9_size_28 ?_
        refine jr_bipush (pc := 29) h dX9_size_29 bp_13 ?_
        refine iv_X9_130 (pc := 31) h hl hR dX9_size_31 ⟨(Nat.le_of_ble_eq_true rfl), (Nat.le_of_ble_eq_true rfl), (Nat.le_of_ble_eq_true rfl), (Nat.le_of_ble_eq_true rfl)⟩ (Nat.le_of_ble_eq_true rfl) (s_X9_in (by omega) (by omega) (by omega)) (fun v_31 n_31 M_31 hn_31 hp => ?_)
        obtain ⟨⟨rfl, rfl, rfl⟩, gr_31⟩ := hp
        refine jr_if_ne (pc := 34) h 39 dX9_size_34 (by decide) (by omega) (fun c_34 => ?_) (fun c_34 => ?_)
        · first | have d_34 := bz_0.mp c_34 | have d_34 := bz_1.mp c_34 | skip
          refine jr_aload_n (pc := 39) h dX9_size_39 rfl ?_
          refine gf_X9_425 (pc := 40) h dX9_size_40 (by assumption) (by omega) ?_
          refine jr_ifnonnullN (pc := 43) h dX9_size_43 ?_
          refine jr_iconst (pc := 46) h dX9_size_46 ?_
          refine jr_iret (pc := 47) h hRt dX9_size_47 rfl (Nat.le_of_ble_eq_true rfl) (Nat.le_of_ble_eq_true rfl) ?_
          first
          | (exfalso; omega)
          | (refine ⟨⟨?_, rfl⟩, hX, f1⟩; refine congrArg (fun z => some (jI z)) ?_; first | exact (rows0 hz).symm | exact (hz _).symm | exact (hc0 hz).1.symm | exact (hc0 hz).2.symm)
        · first | have d_34 := bz_0.mp c_34 | have d_34 := bz_1.mp c_34 | skip
          refine jr_iconst (pc := 37) h dX9_size_37 ?_
          refine jr_iret (pc := 38) h hRt dX9_size_38 rfl (Nat.le_of_ble_eq_true rfl) (Nat.le_of_ble_eq_true rfl) ?_
          first
          | (exfalso; omega)
          | (refine ⟨⟨?_, rfl⟩, hX, f1⟩; refine congrArg (fun z => some (jI z)) ?_; first | exact (rows0 hz).symm | exact (hz _).symm | exact (hc0 hz).1.symm | exact (hc0 hz).2.symm)
      · first | have d_19 := bz_0.mp c_19 | have d_19 := bz_1.mp c_19 | skip
        refine jr_aload_n (pc := 22) h dX9_size_22 rfl ?_
        refine gf_X9_603 (pc := 23) h dX9_size_23 (by assumption) (by omega) ?_
        refine jr_iret (pc := 26) h hRt dX9_size_26 rfl (Nat.le_of_ble_eq_true rfl) (Nat.le_of_ble_eq_true rfl) ?_
        first
        | (exfalso; omega)
        | (refine ⟨⟨?_, rfl⟩, hX, f1⟩; refine congrArg (fun z => some (jI z)) ?_; first | exact (rows0 hz).symm | exact (hz _).symm | exact (hc0 hz).1.symm | exact (hc0 hz).2.symm)
    · first | have d_8 := bz_0.mp c_8 | have d_8 := bz_1.mp c_8 | skip
      refine jr_aload_n (pc := 11) h dX9_size_11 rfl ?_
      refine gf_X9_418 (pc := 12) h dX9_size_12 (by assumption) (by omega) ?_
      refine jr_iret (pc := 15) h hRt dX9_size_15 rfl (Nat.le_of_ble_eq_true rfl) (Nat.le_of_ble_eq_true rfl) ?_
      first
      | (exfalso; omega)
      | (refine ⟨⟨?_, rfl⟩, hX, f1⟩; refine congrArg (fun z => some (jI z)) ?_; first | exact (rows0 hz).symm | exact (hz _).symm | exact (hc0 hz).1.symm | exact (hc0 hz).2.symm)
  · skip
    obtain ⟨hnm, hOm, hBm⟩ := id hX
    have hOm : M m = jdO 9 (fX9 m _ _ (.ref f) rd) := hOm
    refine jr_aload_n (pc := 0) h dX9_size_0 rfl ?_
    refine jr_iconst (pc := 1) h dX9_size_1 ?_
    refine pf_X9_52 (pc := 2) h dX9_size_2 hOm (by omega) ?_
    refine jm_gen (fun M2 hM2 => ?_)
    rw [fX9_0] at hM2
    have hX := MX_o hX hM2
    have f9 : fr (MXf m) _ M2 := fr_up hM2 ⟨by omega, by omega⟩
    obtain ⟨hnm, hOm, hBm⟩ := id hX
    have f1 := f9
    have hMF := MF_fr hMF f9 (Nat.le_refl _) (fun k h1 h2 q => by have := q.1; have := q.2; omega)
    obtain ⟨hnf, hOf, hAf⟩ := id hMF
    obtain ⟨⟨e0, e1, e2, e3, e4⟩, ⟨k5, k6, k7, k8, k9, k10, k11, k12, k13, k14, k15⟩, ⟨a2, a3, a4, a5, a6, a7, a8, a9, a10, a11, a12⟩, ⟨hlim, hLI, hends, hrt⟩, ⟨hbk, hld⟩, hc0, hc1, hc2, hc5⟩ := id hFM
    have l2 := hlim 2 (by omega)
    have l3 := hlim 3 (by omega)
    have l4 := hlim 4 (by omega)
    have l5 := hlim 5 (by omega)
    have l6 := hlim 6 (by omega)
    have l7 := hlim 7 (by omega)
    have l8 := hlim 8 (by omega)
    have l9 := hlim 9 (by omega)
    have l10 := hlim 10 (by omega)
    have l11 := hlim 11 (by omega)
    have l12 := hlim 12 (by omega)
    rw [show (jtab 0).2.2 2 = 4 from rfl] at l2
    rw [show (jtab 0).2.2 3 = 6 from rfl] at l3
    rw [show (jtab 0).2.2 4 = 6 from rfl] at l4
    rw [show (jtab 0).2.2 5 = 2 from rfl] at l5
    rw [show (jtab 0).2.2 6 = 8 from rfl] at l6
    rw [show (jtab 0).2.2 7 = 5 from rfl] at l7
    rw [show (jtab 0).2.2 8 = 6 from rfl] at l8
    rw [show (jtab 0).2.2 9 = 3 from rfl] at l9
    rw [show (jtab 0).2.2 10 = 3 from rfl] at l10
    rw [show (jtab 0).2.2 11 = 4 from rfl] at l11
    rw [show (jtab 0).2.2 12 = 4 from rfl] at l12
    have hcr : 1 ≤ c_rows ct td ∧ c_rows ct td ≤ 40 := by
      have h9 := (hLI 0 0 (by omega) (by omega) (by omega)).1 rfl
      have e9 : c_rows ct td = c_get td 0 0 0 := by unfold c_rows; rw [if_neg (by omega)]
      omega
    have hB3 : M2 (m + 3) = jdA 431 (B 3) := hBm 3 (by omega) (by omega)
    refine jr_iload_n (pc := 5) h dX9_size_5 rfl ?_
    refine jr_bipush (pc := 6) h dX9_size_6 bp_14 ?_
    refine jr_icmp_ne (pc := 8) h 16 dX9_size_8 (by decide) (by omega) (by omega) (fun c_8 => ?_) (fun c_8 => ?_)
    · first | have d_8 := bz_0.mp c_8 | have d_8 := bz_1.mp c_8 | skip
      refine jr_iload_n (pc := 16) h dX9_size_16 rfl ?_
      refine jr_bipush (pc := 17) h dX9_size_17 bp_15 ?_
      refine jr_icmp_ne (pc := 19) h 27 dX9_size_19 (by decide) (by omega) (by omega) (fun c_19 => ?_) (fun c_19 => ?_)
      · first | have d_19 := bz_0.mp c_19 | have d_19 := bz_1.mp c_19 | skip
        refine jr_iload_n (pc := 27) h dX9_size_27 rfl ?_
        refine jr_iconst (pc := 28) h dX9_size_28 ?_
        refine jr_bipush (pc := 29) h dX9_size_29 bp_13 ?_
        refine iv_X9_130 (pc := 31) h hl hR dX9_size_31 ⟨(Nat.le_of_ble_eq_true rfl), (Nat.le_of_ble_eq_true rfl), (Nat.le_of_ble_eq_true rfl), (Nat.le_of_ble_eq_true rfl)⟩ (Nat.le_of_ble_eq_true rfl) (s_X9_in (by omega) (by omega) (by omega)) (fun v_31 n_31 M_31 hn_31 hp => ?_)
        obtain ⟨⟨rfl, rfl, rfl⟩, gr_31⟩ := hp
        refine jr_if_ne (pc := 34) h 39 dX9_size_34 (by decide) (by omega) (fun c_34 => ?_) (fun c_34 => ?_)
        · first | have d_34 := bz_0.mp c_34 | have d_34 := bz_1.mp c_34 | skip
          refine jr_aload_n (pc := 39) h dX9_size_39 rfl ?_
          refine gf_X9_425 (pc := 40) h dX9_size_40 (by assumption) (by omega) ?_
          refine jr_ifnonnull (pc := 43) h 48 dX9_size_43 (by decide) ?_
          refine jr_iload_n (pc := 48) h dX9_size_48 rfl ?_
          refine jr_tableIn (pc := 49) h (x := 12) (off := 163) 212 dX9_size_49 (by omega) (by omega) (by omega) rfl (by decide) ?_
          refine jr_aload_n (pc := 212) h dX9_size_212 rfl ?_
          refine gf_X9_428 (pc := 213) h dX9_size_213 (by assumption) (by omega) ?_
          refine jr_iret (pc := 216) h hRt dX9_size_216 rfl (Nat.le_of_ble_eq_true rfl) (Nat.le_of_ble_eq_true rfl) ?_
          first
          | (exfalso; omega)
          | (refine ⟨⟨?_, rfl⟩, hX, f1⟩; refine congrArg (fun z => some (jI z)) ?_; first | exact e0 | assumption | exact (up_ne (by omega)).trans hm | rfl)
        · first | have d_34 := bz_0.mp c_34 | have d_34 := bz_1.mp c_34 | skip
          refine jr_iconst (pc := 37) h dX9_size_37 ?_
          refine jr_iret (pc := 38) h hRt dX9_size_38 rfl (Nat.le_of_ble_eq_true rfl) (Nat.le_of_ble_eq_true rfl) ?_
          first
          | (exfalso; omega)
          | (refine ⟨⟨?_, rfl⟩, hX, f1⟩; refine congrArg (fun z => some (jI z)) ?_; first | exact e0 | assumption | exact (up_ne (by omega)).trans hm | rfl)
      · first | have d_19 := bz_0.mp c_19 | have d_19 := bz_1.mp c_19 | skip
        refine jr_aload_n (pc := 22) h dX9_size_22 rfl ?_
        refine gf_X9_603 (pc := 23) h dX9_size_23 (by assumption) (by omega) ?_
        refine jr_iret (pc := 26) h hRt dX9_size_26 rfl (Nat.le_of_ble_eq_true rfl) (Nat.le_of_ble_eq_true rfl) ?_
        first
        | (exfalso; omega)
        | (refine ⟨⟨?_, rfl⟩, hX, f1⟩; refine congrArg (fun z => some (jI z)) ?_; first | exact e0 | assumption | exact (up_ne (by omega)).trans hm | rfl)
    · first | have d_8 := bz_0.mp c_8 | have d_8 := bz_1.mp c_8 | skip
      refine jr_aload_n (pc := 11) h dX9_size_11 rfl ?_
      refine gf_X9_418 (pc := 12) h dX9_size_12 (by assumption) (by omega) ?_
      refine jr_iret (pc := 15) h hRt dX9_size_15 rfl (Nat.le_of_ble_eq_true rfl) (Nat.le_of_ble_eq_true rfl) ?_
      first
      | (exfalso; omega)
      | (refine ⟨⟨?_, rfl⟩, hX, f1⟩; refine congrArg (fun z => some (jI z)) ?_; first | exact e0 | assumption | exact (up_ne (by omega)).trans hm | rfl)
set_option maxHeartbeats 2000000 in
set_option maxRecDepth 20000 in
theorem s_X9_size_13 {l : Launch} {n : Nat} {M : jdM} {m : Nat} {g : Nat → Int} {w : Int} {fl rd : Value} {B : Nat → Nat → Int} (hX : MX M n m g w fl rd B) {ct td bk si ld : Nat → Int} (hFX : FX M n m fl ct td bk si ld) {gc tg g3 : Nat → Int} (hm : g 19 = gc 6) (htp : g 6 = gc 1) (hnt : g 26 = tg 2) (h7 : B 3 429 = g3 7) (hc0 : (∀ j, ct j = 0) → gc 6 = 0 ∧ g3 7 = 0) : Ct l yX9_size cX9_size 2 (some .int) rX9_size [.ref m, jI 13] n M (fun vv n' M' => (vv = some (jI (x_size ct td gc g3 tg 13)) ∧ n = n') ∧ MX M' n m (up g 0 0) w fl rd B ∧ fr (MXf m) M M') := by
  refine Ct_of [some (.ref m), some (jI 13)] (by decide) (Nat.le_of_ble_eq_true rfl) rfl (fun κ hl h hR hRt hmn hn0 => ?_)
  have h : Ok κ RX9 cX9_size 2 (some .int) := h
  rcases hFX with ⟨rfl, hz⟩ | ⟨f, gf, A, rfl, hsep, hMF, hFM⟩
  · skip
    obtain ⟨hnm, hOm, hBm⟩ := id hX
    have hOm : M m = jdO 9 (fX9 m _ _ .null rd) := hOm
    refine jr_aload_n (pc := 0) h dX9_size_0 rfl ?_
    refine jr_iconst (pc := 1) h dX9_size_1 ?_
    refine pf_X9_52 (pc := 2) h dX9_size_2 hOm (by omega) ?_
    refine jm_gen (fun M2 hM2 => ?_)
    rw [fX9_0] at hM2
    have hX := MX_o hX hM2
    have f9 : fr (MXf m) _ M2 := fr_up hM2 ⟨by omega, by omega⟩
    obtain ⟨hnm, hOm, hBm⟩ := id hX
    have f1 := f9
    refine jr_iload_n (pc := 5) h dX9_size_5 rfl ?_
    refine jr_bipush (pc := 6) h dX9_size_6 bp_14 ?_
    refine jr_icmp_ne (pc := 8) h 16 dX9_size_8 (by decide) (by omega) (by omega) (fun c_8 => ?_) (fun c_8 => ?_)
    · first | have d_8 := bz_0.mp c_8 | have d_8 := bz_1.mp c_8 | skip
      refine jr_iload_n (pc := 16) h dX9_size_16 rfl ?_
      refine jr_bipush (pc := 17) h dX9_size_17 bp_15 ?_
      refine jr_icmp_ne (pc := 19) h 27 dX9_size_19 (by decide) (by omega) (by omega) (fun c_19 => ?_) (fun c_19 => ?_)
      · first | have d_19 := bz_0.mp c_19 | have d_19 := bz_1.mp c_19 | skip
        refine jr_iload_n (pc := 27) h dX9_size_27 rfl ?_
        refine jr_iconst (pc := 28) h dX9_size_28 ?_
        refine jr_bipush (pc := 29) h dX9_size_29 bp_13 ?_
        refine iv_X9_130 (pc := 31) h hl hR dX9_size_31 ⟨(Nat.le_of_ble_eq_true rfl), (Nat.le_of_ble_eq_true rfl), (Nat.le_of_ble_eq_true rfl), (Nat.le_of_ble_eq_true rfl)⟩ (Nat.le_of_ble_eq_true rfl) (s_X9_in (by omega) (by omega) (by omega)) (fun v_31 n_31 M_31 hn_31 hp => ?_)
        obtain ⟨⟨rfl, rfl, rfl⟩, gr_31⟩ := hp
        refine jr_if_ne (pc := 34) h 39 dX9_size_34 (by decide) (by omega) (fun c_34 => ?_) (fun c_34 => ?_)
        · first | have d_34 := bz_0.mp c_34 | have d_34 := bz_1.mp c_34 | skip
          refine jr_aload_n (pc := 39) h dX9_size_39 rfl ?_
          refine gf_X9_425 (pc := 40) h dX9_size_40 (by assumption) (by omega) ?_
          refine jr_ifnonnullN (pc := 43) h dX9_size_43 ?_
          refine jr_iconst (pc := 46) h dX9_size_46 ?_
          refine jr_iret (pc := 47) h hRt dX9_size_47 rfl (Nat.le_of_ble_eq_true rfl) (Nat.le_of_ble_eq_true rfl) ?_
          first
          | (exfalso; omega)
          | (refine ⟨⟨?_, rfl⟩, hX, f1⟩; refine congrArg (fun z => some (jI z)) ?_; first | exact (rows0 hz).symm | exact (hz _).symm | exact (hc0 hz).1.symm | exact (hc0 hz).2.symm)
        · first | have d_34 := bz_0.mp c_34 | have d_34 := bz_1.mp c_34 | skip
          refine jr_iconst (pc := 37) h dX9_size_37 ?_
          refine jr_iret (pc := 38) h hRt dX9_size_38 rfl (Nat.le_of_ble_eq_true rfl) (Nat.le_of_ble_eq_true rfl) ?_
          first
          | (exfalso; omega)
          | (refine ⟨⟨?_, rfl⟩, hX, f1⟩; refine congrArg (fun z => some (jI z)) ?_; first | exact (rows0 hz).symm | exact (hz _).symm | exact (hc0 hz).1.symm | exact (hc0 hz).2.symm)
      · first | have d_19 := bz_0.mp c_19 | have d_19 := bz_1.mp c_19 | skip
        refine jr_aload_n (pc := 22) h dX9_size_22 rfl ?_
        refine gf_X9_603 (pc := 23) h dX9_size_23 (by assumption) (by omega) ?_
        refine jr_iret (pc := 26) h hRt dX9_size_26 rfl (Nat.le_of_ble_eq_true rfl) (Nat.le_of_ble_eq_true rfl) ?_
        first
        | (exfalso; omega)
        | (refine ⟨⟨?_, rfl⟩, hX, f1⟩; refine congrArg (fun z => some (jI z)) ?_; first | exact (rows0 hz).symm | exact (hz _).symm | exact (hc0 hz).1.symm | exact (hc0 hz).2.symm)
    · first | have d_8 := bz_0.mp c_8 | have d_8 := bz_1.mp c_8 | skip
      refine jr_aload_n (pc := 11) h dX9_size_11 rfl ?_
      refine gf_X9_418 (pc := 12) h dX9_size_12 (by assumption) (by omega) ?_
      refine jr_iret (pc := 15) h hRt dX9_size_15 rfl (Nat.le_of_ble_eq_true rfl) (Nat.le_of_ble_eq_true rfl) ?_
      first
      | (exfalso; omega)
      | (refine ⟨⟨?_, rfl⟩, hX, f1⟩; refine congrArg (fun z => some (jI z)) ?_; first | exact (rows0 hz).symm | exact (hz _).symm | exact (hc0 hz).1.symm | exact (hc0 hz).2.symm)
  · skip
    obtain ⟨hnm, hOm, hBm⟩ := id hX
    have hOm : M m = jdO 9 (fX9 m _ _ (.ref f) rd) := hOm
    refine jr_aload_n (pc := 0) h dX9_size_0 rfl ?_
    refine jr_iconst (pc := 1) h dX9_size_1 ?_
    refine pf_X9_52 (pc := 2) h dX9_size_2 hOm (by omega) ?_
    refine jm_gen (fun M2 hM2 => ?_)
    rw [fX9_0] at hM2
    have hX := MX_o hX hM2
    have f9 : fr (MXf m) _ M2 := fr_up hM2 ⟨by omega, by omega⟩
    obtain ⟨hnm, hOm, hBm⟩ := id hX
    have f1 := f9
    have hMF := MF_fr hMF f9 (Nat.le_refl _) (fun k h1 h2 q => by have := q.1; have := q.2; omega)
    obtain ⟨hnf, hOf, hAf⟩ := id hMF
    obtain ⟨⟨e0, e1, e2, e3, e4⟩, ⟨k5, k6, k7, k8, k9, k10, k11, k12, k13, k14, k15⟩, ⟨a2, a3, a4, a5, a6, a7, a8, a9, a10, a11, a12⟩, ⟨hlim, hLI, hends, hrt⟩, ⟨hbk, hld⟩, hc0, hc1, hc2, hc5⟩ := id hFM
    have l2 := hlim 2 (by omega)
    have l3 := hlim 3 (by omega)
    have l4 := hlim 4 (by omega)
    have l5 := hlim 5 (by omega)
    have l6 := hlim 6 (by omega)
    have l7 := hlim 7 (by omega)
    have l8 := hlim 8 (by omega)
    have l9 := hlim 9 (by omega)
    have l10 := hlim 10 (by omega)
    have l11 := hlim 11 (by omega)
    have l12 := hlim 12 (by omega)
    rw [show (jtab 0).2.2 2 = 4 from rfl] at l2
    rw [show (jtab 0).2.2 3 = 6 from rfl] at l3
    rw [show (jtab 0).2.2 4 = 6 from rfl] at l4
    rw [show (jtab 0).2.2 5 = 2 from rfl] at l5
    rw [show (jtab 0).2.2 6 = 8 from rfl] at l6
    rw [show (jtab 0).2.2 7 = 5 from rfl] at l7
    rw [show (jtab 0).2.2 8 = 6 from rfl] at l8
    rw [show (jtab 0).2.2 9 = 3 from rfl] at l9
    rw [show (jtab 0).2.2 10 = 3 from rfl] at l10
    rw [show (jtab 0).2.2 11 = 4 from rfl] at l11
    rw [show (jtab 0).2.2 12 = 4 from rfl] at l12
    have hcr : 1 ≤ c_rows ct td ∧ c_rows ct td ≤ 40 := by
      have h9 := (hLI 0 0 (by omega) (by omega) (by omega)).1 rfl
      have e9 : c_rows ct td = c_get td 0 0 0 := by unfold c_rows; rw [if_neg (by omega)]
      omega
    have hB3 : M2 (m + 3) = jdA 431 (B 3) := hBm 3 (by omega) (by omega)
    refine jr_iload_n (pc := 5) h dX9_size_5 rfl ?_
    refine jr_bipush (pc := 6) h dX9_size_6 bp_14 ?_
    refine jr_icmp_ne (pc := 8) h 16 dX9_size_8 (by decide) (by omega) (by omega) (fun c_8 => ?_) (fun c_8 => ?_)
    · first | have d_8 := bz_0.mp c_8 | have d_8 := bz_1.mp c_8 | skip
      refine jr_iload_n (pc := 16) h dX9_size_16 rfl ?_
      refine jr_bipush (pc := 17) h dX9_size_17 bp_15 ?_
      refine jr_icmp_ne (pc := 19) h 27 dX9_size_19 (by decide) (by omega) (by omega) (fun c_19 => ?_) (fun c_19 => ?_)
      · first | have d_19 := bz_0.mp c_19 | have d_19 := bz_1.mp c_19 | skip
        refine jr_iload_n (pc := 27) h dX9_size_27 rfl ?_
        refine jr_iconst (pc := 28) h dX9_size_28 ?_
        refine jr_bipush (pc := 29) h dX9_size_29 bp_13 ?_
        refine iv_X9_130 (pc := 31) h hl hR dX9_size_31 ⟨(Nat.le_of_ble_eq_true rfl), (Nat.le_of_ble_eq_true rfl), (Nat.le_of_ble_eq_true rfl), (Nat.le_of_ble_eq_true rfl)⟩ (Nat.le_of_ble_eq_true rfl) (s_X9_in (by omega) (by omega) (by omega)) (fun v_31 n_31 M_31 hn_31 hp => ?_)
        obtain ⟨⟨rfl, rfl, rfl⟩, gr_31⟩ := hp
        refine jr_if_ne (pc := 34) h 39 dX9_size_34 (by decide) (by omega) (fun c_34 => ?_) (fun c_34 => ?_)
        · first | have d_34 := bz_0.mp c_34 | have d_34 := bz_1.mp c_34 | skip
          refine jr_aload_n (pc := 39) h dX9_size_39 rfl ?_
          refine gf_X9_425 (pc := 40) h dX9_size_40 (by assumption) (by omega) ?_
          refine jr_ifnonnull (pc := 43) h 48 dX9_size_43 (by decide) ?_
          refine jr_iload_n (pc := 48) h dX9_size_48 rfl ?_
          refine jr_tableOut (pc := 49) h (x := 13) 217 dX9_size_49 (by omega) (by omega) (by decide) ?_
          refine jr_aload_n (pc := 217) h dX9_size_217 rfl ?_
          refine gf_X9_21 (pc := 218) h dX9_size_218 (by assumption) (by omega) ?_
          refine jr_sipush (pc := 221) h dX9_size_221 sp_429 ?_
          refine jr_iald (pc := 224) h (i := ((429 : Nat) : Int)) dX9_size_224 hB3 (by omega) (by omega) ?_
          rw [show (((429 : Nat) : Int)).toNat = 429 from rfl, h7]
          refine jr_iret (pc := 225) h hRt dX9_size_225 rfl (Nat.le_of_ble_eq_true rfl) (Nat.le_of_ble_eq_true rfl) ?_
          first
          | (exfalso; omega)
          | (refine ⟨⟨?_, rfl⟩, hX, f1⟩; refine congrArg (fun z => some (jI z)) ?_; first | exact e0 | assumption | exact (up_ne (by omega)).trans hm | rfl)
        · first | have d_34 := bz_0.mp c_34 | have d_34 := bz_1.mp c_34 | skip
          refine jr_iconst (pc := 37) h dX9_size_37 ?_
          refine jr_iret (pc := 38) h hRt dX9_size_38 rfl (Nat.le_of_ble_eq_true rfl) (Nat.le_of_ble_eq_true rfl) ?_
          first
          | (exfalso; omega)
          | (refine ⟨⟨?_, rfl⟩, hX, f1⟩; refine congrArg (fun z => some (jI z)) ?_; first | exact e0 | assumption | exact (up_ne (by omega)).trans hm | rfl)
      · first | have d_19 := bz_0.mp c_19 | have d_19 := bz_1.mp c_19 | skip
        refine jr_aload_n (pc := 22) h dX9_size_22 rfl ?_
        refine gf_X9_603 (pc := 23) h dX9_size_23 (by assumption) (by omega) ?_
        refine jr_iret (pc := 26) h hRt dX9_size_26 rfl (Nat.le_of_ble_eq_true rfl) (Nat.le_of_ble_eq_true rfl) ?_
        first
        | (exfalso; omega)
        | (refine ⟨⟨?_, rfl⟩, hX, f1⟩; refine congrArg (fun z => some (jI z)) ?_; first | exact e0 | assumption | exact (up_ne (by omega)).trans hm | rfl)
    · first | have d_8 := bz_0.mp c_8 | have d_8 := bz_1.mp c_8 | skip
      refine jr_aload_n (pc := 11) h dX9_size_11 rfl ?_
      refine gf_X9_418 (pc := 12) h dX9_size_12 (by assumption) (by omega) ?_
      refine jr_iret (pc := 15) h hRt dX9_size_15 rfl (Nat.le_of_ble_eq_true rfl) (Nat.le_of_ble_eq_true rfl) ?_
      first
      | (exfalso; omega)
      | (refine ⟨⟨?_, rfl⟩, hX, f1⟩; refine congrArg (fun z => some (jI z)) ?_; first | exact e0 | assumption | exact (up_ne (by omega)).trans hm | rfl)
set_option maxHeartbeats 1000000 in
set_option maxRecDepth 20000 in
theorem s_X9_size_14 {l : Launch} {n : Nat} {M : jdM} {m : Nat} {g : Nat → Int} {w : Int} {fl rd : Value} {B : Nat → Nat → Int} (hX : MX M n m g w fl rd B) {ct td bk si ld : Nat → Int} (hFX : FX M n m fl ct td bk si ld) {gc tg g3 : Nat → Int} (hm : g 19 = gc 6) (htp : g 6 = gc 1) (hnt : g 26 = tg 2) (h7 : B 3 429 = g3 7) (hc0 : (∀ j, ct j = 0) → gc 6 = 0 ∧ g3 7 = 0) : Ct l yX9_size cX9_size 2 (some .int) rX9_size [.ref m, jI 14] n M (fun vv n' M' => (vv = some (jI (x_size ct td gc g3 tg 14)) ∧ n = n') ∧ MX M' n m (up g 0 0) w fl rd B ∧ fr (MXf m) M M') := by
  refine Ct_of [some (.ref m), some (jI 14)] (by decide) (Nat.le_of_ble_eq_true rfl) rfl (fun κ hl h hR hRt hmn hn0 => ?_)
  have h : Ok κ RX9 cX9_size 2 (some .int) := h
  obtain ⟨hnm, hOm, hBm⟩ := id hX
  have hOm : M m = jdO 9 (fX9 m _ _ fl rd) := hOm
  refine jr_aload_n (pc := 0) h dX9_size_0 rfl ?_
  refine jr_iconst (pc := 1) h dX9_size_1 ?_
  refine pf_X9_52 (pc := 2) h dX9_size_2 hOm (by omega) ?_
  refine jm_gen (fun M2 hM2 => ?_)
  rw [fX9_0] at hM2
  have hX := MX_o hX hM2
  have f9 : fr (MXf m) _ M2 := fr_up hM2 ⟨by omega, by omega⟩
  obtain ⟨hnm, hOm, hBm⟩ := id hX
  have f1 := f9
  refine jr_iload_n (pc := 5) h dX9_size_5 rfl ?_
  refine jr_bipush (pc := 6) h dX9_size_6 bp_14 ?_
  refine jr_icmp_ne (pc := 8) h 16 dX9_size_8 (by decide) (by omega) (by omega) (fun c_8 => ?_) (fun c_8 => ?_)
  · first | have d_8 := bz_0.mp c_8 | have d_8 := bz_1.mp c_8 | skip
    refine jr_iload_n (pc := 16) h dX9_size_16 rfl ?_
    refine jr_bipush (pc := 17) h dX9_size_17 bp_15 ?_
    refine jr_icmp_ne (pc := 19) h 27 dX9_size_19 (by decide) (by omega) (by omega) (fun c_19 => ?_) (fun c_19 => ?_)
    · first | have d_19 := bz_0.mp c_19 | have d_19 := bz_1.mp c_19 | skip
      refine jr_iload_n (pc := 27) h dX9_size_27 rfl ?_
      refine jr_iconst (pc := 28) h dX9_size_28 ?_
      refine jr_bipush (pc := 29) h dX9_size_29 bp_13 ?_
      refine iv_X9_130 (pc := 31) h hl hR dX9_size_31 ⟨(Nat.le_of_ble_eq_true rfl), (Nat.le_of_ble_eq_true rfl), (Nat.le_of_ble_eq_true rfl), (Nat.le_of_ble_eq_true rfl)⟩ (Nat.le_of_ble_eq_true rfl) (s_X9_in (by omega) (by omega) (by omega)) (fun v_31 n_31 M_31 hn_31 hp => ?_)
      obtain ⟨⟨rfl, rfl, rfl⟩, gr_31⟩ := hp
      refine jr_if_ne (pc := 34) h 39 dX9_size_34 (by decide) (by omega) (fun c_34 => ?_) (fun c_34 => ?_)
      · first | have d_34 := bz_0.mp c_34 | have d_34 := bz_1.mp c_34 | skip
        exfalso
        omega
      · first | have d_34 := bz_0.mp c_34 | have d_34 := bz_1.mp c_34 | skip
        refine jr_iconst (pc := 37) h dX9_size_37 ?_
        refine jr_iret (pc := 38) h hRt dX9_size_38 rfl (Nat.le_of_ble_eq_true rfl) (Nat.le_of_ble_eq_true rfl) ?_
        exfalso
        omega
    · first | have d_19 := bz_0.mp c_19 | have d_19 := bz_1.mp c_19 | skip
      refine jr_aload_n (pc := 22) h dX9_size_22 rfl ?_
      refine gf_X9_603 (pc := 23) h dX9_size_23 (by assumption) (by omega) ?_
      refine jr_iret (pc := 26) h hRt dX9_size_26 rfl (Nat.le_of_ble_eq_true rfl) (Nat.le_of_ble_eq_true rfl) ?_
      first | (exfalso; omega) | (refine ⟨⟨?_, rfl⟩, hX, f1⟩; refine congrArg (fun z => some (jI z)) ?_; exact (up_ne (by omega)).trans htp)
  · first | have d_8 := bz_0.mp c_8 | have d_8 := bz_1.mp c_8 | skip
    refine jr_aload_n (pc := 11) h dX9_size_11 rfl ?_
    refine gf_X9_418 (pc := 12) h dX9_size_12 (by assumption) (by omega) ?_
    refine jr_iret (pc := 15) h hRt dX9_size_15 rfl (Nat.le_of_ble_eq_true rfl) (Nat.le_of_ble_eq_true rfl) ?_
    first | (exfalso; omega) | (refine ⟨⟨?_, rfl⟩, hX, f1⟩; refine congrArg (fun z => some (jI z)) ?_; exact (up_ne (by omega)).trans htp)
set_option maxHeartbeats 1000000 in
set_option maxRecDepth 20000 in
theorem s_X9_size_15 {l : Launch} {n : Nat} {M : jdM} {m : Nat} {g : Nat → Int} {w : Int} {fl rd : Value} {B : Nat → Nat → Int} (hX : MX M n m g w fl rd B) {ct td bk si ld : Nat → Int} (hFX : FX M n m fl ct td bk si ld) {gc tg g3 : Nat → Int} (hm : g 19 = gc 6) (htp : g 6 = gc 1) (hnt : g 26 = tg 2) (h7 : B 3 429 = g3 7) (hc0 : (∀ j, ct j = 0) → gc 6 = 0 ∧ g3 7 = 0) : Ct l yX9_size cX9_size 2 (some .int) rX9_size [.ref m, jI 15] n M (fun vv n' M' => (vv = some (jI (x_size ct td gc g3 tg 15)) ∧ n = n') ∧ MX M' n m (up g 0 0) w fl rd B ∧ fr (MXf m) M M') := by
  refine Ct_of [some (.ref m), some (jI 15)] (by decide) (Nat.le_of_ble_eq_true rfl) rfl (fun κ hl h hR hRt hmn hn0 => ?_)
  have h : Ok κ RX9 cX9_size 2 (some .int) := h
  obtain ⟨hnm, hOm, hBm⟩ := id hX
  have hOm : M m = jdO 9 (fX9 m _ _ fl rd) := hOm
  refine jr_aload_n (pc := 0) h dX9_size_0 rfl ?_
  refine jr_iconst (pc := 1) h dX9_size_1 ?_
  refine pf_X9_52 (pc := 2) h dX9_size_2 hOm (by omega) ?_
  refine jm_gen (fun M2 hM2 => ?_)
  rw [fX9_0] at hM2
  have hX := MX_o hX hM2
  have f9 : fr (MXf m) _ M2 := fr_up hM2 ⟨by omega, by omega⟩
  obtain ⟨hnm, hOm, hBm⟩ := id hX
  have f1 := f9
  refine jr_iload_n (pc := 5) h dX9_size_5 rfl ?_
  refine jr_bipush (pc := 6) h dX9_size_6 bp_14 ?_
  refine jr_icmp_ne (pc := 8) h 16 dX9_size_8 (by decide) (by omega) (by omega) (fun c_8 => ?_) (fun c_8 => ?_)
  · first | have d_8 := bz_0.mp c_8 | have d_8 := bz_1.mp c_8 | skip
    refine jr_iload_n (pc := 16) h dX9_size_16 rfl ?_
    refine jr_bipush (pc := 17) h dX9_size_17 bp_15 ?_
    refine jr_icmp_ne (pc := 19) h 27 dX9_size_19 (by decide) (by omega) (by omega) (fun c_19 => ?_) (fun c_19 => ?_)
    · first | have d_19 := bz_0.mp c_19 | have d_19 := bz_1.mp c_19 | skip
      refine jr_iload_n (pc := 27) h dX9_size_27 rfl ?_
      refine jr_iconst (pc := 28) h dX9_size_28 ?_
      refine jr_bipush (pc := 29) h dX9_size_29 bp_13 ?_
      refine iv_X9_130 (pc := 31) h hl hR dX9_size_31 ⟨(Nat.le_of_ble_eq_true rfl), (Nat.le_of_ble_eq_true rfl), (Nat.le_of_ble_eq_true rfl), (Nat.le_of_ble_eq_true rfl)⟩ (Nat.le_of_ble_eq_true rfl) (s_X9_in (by omega) (by omega) (by omega)) (fun v_31 n_31 M_31 hn_31 hp => ?_)
      obtain ⟨⟨rfl, rfl, rfl⟩, gr_31⟩ := hp
      refine jr_if_ne (pc := 34) h 39 dX9_size_34 (by decide) (by omega) (fun c_34 => ?_) (fun c_34 => ?_)
      · first | have d_34 := bz_0.mp c_34 | have d_34 := bz_1.mp c_34 | skip
        exfalso
        omega
      · first | have d_34 := bz_0.mp c_34 | have d_34 := bz_1.mp c_34 | skip
        refine jr_iconst (pc := 37) h dX9_size_37 ?_
        refine jr_iret (pc := 38) h hRt dX9_size_38 rfl (Nat.le_of_ble_eq_true rfl) (Nat.le_of_ble_eq_true rfl) ?_
        exfalso
        omega
    · first | have d_19 := bz_0.mp c_19 | have d_19 := bz_1.mp c_19 | skip
      refine jr_aload_n (pc := 22) h dX9_size_22 rfl ?_
      refine gf_X9_603 (pc := 23) h dX9_size_23 (by assumption) (by omega) ?_
      refine jr_iret (pc := 26) h hRt dX9_size_26 rfl (Nat.le_of_ble_eq_true rfl) (Nat.le_of_ble_eq_true rfl) ?_
      first | (exfalso; omega) | (refine ⟨⟨?_, rfl⟩, hX, f1⟩; refine congrArg (fun z => some (jI z)) ?_; exact (up_ne (by omega)).trans hnt)
  · first | have d_8 := bz_0.mp c_8 | have d_8 := bz_1.mp c_8 | skip
    refine jr_aload_n (pc := 11) h dX9_size_11 rfl ?_
    refine gf_X9_418 (pc := 12) h dX9_size_12 (by assumption) (by omega) ?_
    refine jr_iret (pc := 15) h hRt dX9_size_15 rfl (Nat.le_of_ble_eq_true rfl) (Nat.le_of_ble_eq_true rfl) ?_
    first | (exfalso; omega) | (refine ⟨⟨?_, rfl⟩, hX, f1⟩; refine congrArg (fun z => some (jI z)) ?_; exact (up_ne (by omega)).trans hnt)
set_option maxHeartbeats 1000000 in
set_option maxRecDepth 20000 in
theorem s_X9_size_o {l : Launch} {n : Nat} {M : jdM} {m : Nat} {g : Nat → Int} {w : Int} {fl rd : Value} {B : Nat → Nat → Int} (hX : MX M n m g w fl rd B) {ct td bk si ld : Nat → Int} (hFX : FX M n m fl ct td bk si ld) {gc tg g3 : Nat → Int} (hm : g 19 = gc 6) (htp : g 6 = gc 1) (hnt : g 26 = tg 2) (h7 : B 3 429 = g3 7) (hc0 : (∀ j, ct j = 0) → gc 6 = 0 ∧ g3 7 = 0) {x : Int} (hx : -2147483648 ≤ x ∧ x < 2147483648) (hxo : x < 0 ∨ 15 < x) : Ct l yX9_size cX9_size 2 (some .int) rX9_size [.ref m, jI x] n M (fun vv n' M' => (vv = some (jI (x_size ct td gc g3 tg x)) ∧ n = n') ∧ MX M' n m (up g 0 0) w fl rd B ∧ fr (MXf m) M M') := by
  refine Ct_of [some (.ref m), some (jI x)] (by decide) (Nat.le_of_ble_eq_true rfl) rfl (fun κ hl h hR hRt hmn hn0 => ?_)
  have h : Ok κ RX9 cX9_size 2 (some .int) := h
  obtain ⟨hnm, hOm, hBm⟩ := id hX
  have hOm : M m = jdO 9 (fX9 m _ _ fl rd) := hOm
  refine jr_aload_n (pc := 0) h dX9_size_0 rfl ?_
  refine jr_iconst (pc := 1) h dX9_size_1 ?_
  refine pf_X9_52 (pc := 2) h dX9_size_2 hOm (by omega) ?_
  refine jm_gen (fun M2 hM2 => ?_)
  rw [fX9_0] at hM2
  have hX := MX_o hX hM2
  have f9 : fr (MXf m) _ M2 := fr_up hM2 ⟨by omega, by omega⟩
  obtain ⟨hnm, hOm, hBm⟩ := id hX
  have f1 := f9
  refine jr_iload_n (pc := 5) h dX9_size_5 rfl ?_
  refine jr_bipush (pc := 6) h dX9_size_6 bp_14 ?_
  refine jr_icmp_ne (pc := 8) h 16 dX9_size_8 (by decide) (by omega) (by omega) (fun c_8 => ?_) (fun c_8 => ?_)
  · first | have d_8 := bz_0.mp c_8 | have d_8 := bz_1.mp c_8 | skip
    refine jr_iload_n (pc := 16) h dX9_size_16 rfl ?_
    refine jr_bipush (pc := 17) h dX9_size_17 bp_15 ?_
    refine jr_icmp_ne (pc := 19) h 27 dX9_size_19 (by decide) (by omega) (by omega) (fun c_19 => ?_) (fun c_19 => ?_)
    · first | have d_19 := bz_0.mp c_19 | have d_19 := bz_1.mp c_19 | skip
      refine jr_iload_n (pc := 27) h dX9_size_27 rfl ?_
      refine jr_iconst (pc := 28) h dX9_size_28 ?_
      refine jr_bipush (pc := 29) h dX9_size_29 bp_13 ?_
      refine iv_X9_130 (pc := 31) h hl hR dX9_size_31 ⟨(Nat.le_of_ble_eq_true rfl), (Nat.le_of_ble_eq_true rfl), (Nat.le_of_ble_eq_true rfl), (Nat.le_of_ble_eq_true rfl)⟩ (Nat.le_of_ble_eq_true rfl) (s_X9_in (by omega) (by omega) (by omega)) (fun v_31 n_31 M_31 hn_31 hp => ?_)
      obtain ⟨⟨rfl, rfl, rfl⟩, gr_31⟩ := hp
      refine jr_if_ne (pc := 34) h 39 dX9_size_34 (by decide) (by omega) (fun c_34 => ?_) (fun c_34 => ?_)
      · first | have d_34 := bz_0.mp c_34 | have d_34 := bz_1.mp c_34 | skip
        exfalso
        omega
      · first | have d_34 := bz_0.mp c_34 | have d_34 := bz_1.mp c_34 | skip
        refine jr_iconst (pc := 37) h dX9_size_37 ?_
        refine jr_iret (pc := 38) h hRt dX9_size_38 rfl (Nat.le_of_ble_eq_true rfl) (Nat.le_of_ble_eq_true rfl) ?_
        have e9 : x_size ct td gc g3 tg x = -1 := by
          unfold x_size
          rw [if_neg (by omega), if_neg (by omega), if_neg (by omega), if_neg (by omega), if_neg (by omega), if_neg (by omega)]
        rw [e9]
        exact ⟨⟨rfl, rfl⟩, hX, f1⟩
    · first | have d_19 := bz_0.mp c_19 | have d_19 := bz_1.mp c_19 | skip
      refine jr_aload_n (pc := 22) h dX9_size_22 rfl ?_
      refine gf_X9_603 (pc := 23) h dX9_size_23 (by assumption) (by omega) ?_
      refine jr_iret (pc := 26) h hRt dX9_size_26 rfl (Nat.le_of_ble_eq_true rfl) (Nat.le_of_ble_eq_true rfl) ?_
      exfalso
      omega
  · first | have d_8 := bz_0.mp c_8 | have d_8 := bz_1.mp c_8 | skip
    refine jr_aload_n (pc := 11) h dX9_size_11 rfl ?_
    refine gf_X9_418 (pc := 12) h dX9_size_12 (by assumption) (by omega) ?_
    refine jr_iret (pc := 15) h hRt dX9_size_15 rfl (Nat.le_of_ble_eq_true rfl) (Nat.le_of_ble_eq_true rfl) ?_
    exfalso
    omega
theorem s_X9_size {l : Launch} {n : Nat} {M : jdM} {m : Nat} {g : Nat → Int} {w : Int} {fl rd : Value} {B : Nat → Nat → Int} (hX : MX M n m g w fl rd B) {ct td bk si ld : Nat → Int} (hFX : FX M n m fl ct td bk si ld) {gc tg g3 : Nat → Int} (hm : g 19 = gc 6) (htp : g 6 = gc 1) (hnt : g 26 = tg 2) (h7 : B 3 429 = g3 7) (hc0 : (∀ j, ct j = 0) → gc 6 = 0 ∧ g3 7 = 0) {x : Int} (hx : -2147483648 ≤ x ∧ x < 2147483648) : Ct l yX9_size cX9_size 2 (some .int) rX9_size [.ref m, jI x] n M (fun vv n' M' => (vv = some (jI (x_size ct td gc g3 tg x)) ∧ n = n') ∧ MX M' n m (up g 0 0) w fl rd B ∧ fr (MXf m) M M') := by
  by_cases q : x < 0 ∨ 15 < x
  · exact s_X9_size_o hX hFX hm htp hnt h7 hc0 hx q
  · have hx9 : x = 0 ∨ x = 1 ∨ x = 2 ∨ x = 3 ∨ x = 4 ∨ x = 5 ∨ x = 6 ∨ x = 7 ∨ x = 8 ∨ x = 9 ∨ x = 10 ∨ x = 11 ∨ x = 12 ∨ x = 13 ∨ x = 14 ∨ x = 15 := by omega
    rcases hx9 with rfl | rfl | rfl | rfl | rfl | rfl | rfl | rfl | rfl | rfl | rfl | rfl | rfl | rfl | rfl | rfl
    · exact s_X9_size_0 hX hFX hm htp hnt h7 hc0
    · exact s_X9_size_1 hX hFX hm htp hnt h7 hc0
    · exact s_X9_size_2 hX hFX hm htp hnt h7 hc0
    · exact s_X9_size_3 hX hFX hm htp hnt h7 hc0
    · exact s_X9_size_4 hX hFX hm htp hnt h7 hc0
    · exact s_X9_size_5 hX hFX hm htp hnt h7 hc0
    · exact s_X9_size_6 hX hFX hm htp hnt h7 hc0
    · exact s_X9_size_7 hX hFX hm htp hnt h7 hc0
    · exact s_X9_size_8 hX hFX hm htp hnt h7 hc0
    · exact s_X9_size_9 hX hFX hm htp hnt h7 hc0
    · exact s_X9_size_10 hX hFX hm htp hnt h7 hc0
    · exact s_X9_size_11 hX hFX hm htp hnt h7 hc0
    · exact s_X9_size_12 hX hFX hm htp hnt h7 hc0
    · exact s_X9_size_13 hX hFX hm htp hnt h7 hc0
    · exact s_X9_size_14 hX hFX hm htp hnt h7 hc0
    · exact s_X9_size_15 hX hFX hm htp hnt h7 hc0
