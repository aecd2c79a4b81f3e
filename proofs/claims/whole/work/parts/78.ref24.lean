/-! 78: the reference: waits -/
set_option maxHeartbeats 2000000 in
set_option maxRecDepth 20000 in
theorem s_X9_waits {l : Launch} {n : Nat} {M : jdM} {m : Nat} {g : Nat → Int} {w : Int} {fl rd : Value} {B : Nat → Nat → Int} (hX : MX M n m g w fl rd B) {ct td bk si ld : Nat → Int} (hFX : FX M n m fl ct td bk si ld) {x : Int} (hx : -2147483648 ≤ x ∧ x < 2147483648)  {g3 sp sk fa go : Nat → Int} (hRR : RRel ct td (g3, sp, sk, fa, go) (B 3)) (hRI : RI ct td (g3, sp, sk, fa, go)) (hR2 : RI2 ct td (g3, sp, sk, fa, go)) : Ct l yX9_waits cX9_waits 4 (some .int) rX9_waits [.ref m, jI x] n M (fun vv n' M' => (vv = some (jI (x_waits ct td g3 fa x).1) ∧ n = n') ∧ MX M' n m (rg g (x_waits ct td g3 fa x).2) w fl rd B ∧ fr (MXf m) M M') := by
  refine Ct_of [some (.ref m), some (jI x), none, none] (by decide) (Nat.le_of_ble_eq_true rfl) rfl (fun κ hl h hR hRt hmn hn0 => ?_)
  have h : Ok κ RX9 cX9_waits 4 (some .int) := h
  rcases hFX with ⟨rfl, hz⟩ | ⟨f, gf, A, rfl, hsep, hMF, hFM⟩
  · skip
    have hr0 := rows0 (td := td) hz
    have z2 := hz 2
    have z5 := hz 5
    obtain ⟨hnm, hOm, hBm⟩ := id hX
    have hOm : M m = jdO 9 (fX9 m _ _ .null rd) := hOm
    have z11 := hz 11
    refine jr_aload_n (pc := 0) h dX9_waits_0 rfl ?_
    refine jr_iconst (pc := 1) h dX9_waits_1 ?_
    refine pf_X9_52 (pc := 2) h dX9_waits_2 hOm (by omega) ?_
    refine jm_gen (fun M2 hM2 => ?_)
    rw [fX9_0] at hM2
    have hX := MX_o hX hM2
    have f9 : fr (MXf m) _ M2 := fr_up hM2 ⟨by omega, by omega⟩
    obtain ⟨hnm, hOm, hBm⟩ := id hX
    have f1 := f9
    refine jr_aload_n (pc := 5) h dX9_waits_5 rfl ?_
    refine gf_X9_425 (pc := 6) h dX9_waits_6 (by assumption) (by omega) ?_
    refine jr_ifnullN (pc := 9) h 27 dX9_waits_9 (by decide) ?_
    refine jr_aload_n (pc := 27) h dX9_waits_27 rfl ?_
    refine jr_iconst (pc := 28) h dX9_waits_28 ?_
    refine iv_X9_58 (pc := 29) h hl hR dX9_waits_29 ⟨(Nat.le_of_ble_eq_true rfl), (Nat.le_of_ble_eq_true rfl), (Nat.le_of_ble_eq_true rfl), (Nat.le_of_ble_eq_true rfl)⟩ (Nat.le_of_ble_eq_true rfl) (by assumption) (by omega) (s_X9_refused hX) (fun v_29 n_29 M_29 hn_29 hp => ?_)
    obtain ⟨⟨rfl, rfl⟩, hX, f9⟩ := hp
    have f1 := fr_tr f1 f9
    obtain ⟨hnm, hOm, hBm⟩ := id hX
    refine jr_iret (pc := 32) h hRt dX9_waits_32 rfl (Nat.le_of_ble_eq_true rfl) (Nat.le_of_ble_eq_true rfl) ?_
    refine lfA9 ?_ hX f1
    unfold x_waits
    (repeat' split) <;> first | rfl | (exfalso; omega) | contradiction
  · skip
    obtain ⟨hnm, hOm, hBm⟩ := id hX
    have hOm : M m = jdO 9 (fX9 m _ _ (.ref f) rd) := hOm
    refine jr_aload_n (pc := 0) h dX9_waits_0 rfl ?_
    refine jr_iconst (pc := 1) h dX9_waits_1 ?_
    refine pf_X9_52 (pc := 2) h dX9_waits_2 hOm (by omega) ?_
    refine jm_gen (fun M2 hM2 => ?_)
    rw [fX9_0] at hM2
    have hX := MX_o hX hM2
    have f9 : fr (MXf m) _ M2 := fr_up hM2 ⟨by omega, by omega⟩
    obtain ⟨hnm, hOm, hBm⟩ := id hX
    have f1 := f9
    have hMF := MF_fr hMF f9 (Nat.le_refl _) (fun k h1 h2 q => by have := q.1; have := q.2; omega)
    obtain ⟨hnf, hOf, hAf⟩ := id hMF
    obtain ⟨⟨e0, e1, e2, e3, e4⟩, ⟨k5, k6, k7, k8, k9, k10, k11, k12, k13, k14, k15⟩, ⟨a2, a3, a4, a5, a6, a7, a8, a9, a10, a11, a12⟩, ⟨hlim, hLI, hends, hrt⟩, ⟨hbk, hld⟩, hc0, hc1, hc2, hc5⟩ := id hFM
    have l2 := hlim 2 (by omega)
    have l3 := hlim 3 (by omega)
    have l4 := hlim 4 (by omega)
    have l5 := hlim 5 (by omega)
    have l6 := hlim 6 (by omega)
    have l7 := hlim 7 (by omega)
    have l8 := hlim 8 (by omega)
    have l9 := hlim 9 (by omega)
    have l10 := hlim 10 (by omega)
    have l11 := hlim 11 (by omega)
    have l12 := hlim 12 (by omega)
    rw [show (jtab 0).2.2 2 = 4 from rfl] at l2
    rw [show (jtab 0).2.2 3 = 6 from rfl] at l3
    rw [show (jtab 0).2.2 4 = 6 from rfl] at l4
    rw [show (jtab 0).2.2 5 = 2 from rfl] at l5
    rw [show (jtab 0).2.2 6 = 8 from rfl] at l6
    rw [show (jtab 0).2.2 7 = 5 from rfl] at l7
    rw [show (jtab 0).2.2 8 = 6 from rfl] at l8
    rw [show (jtab 0).2.2 9 = 3 from rfl] at l9
    rw [show (jtab 0).2.2 10 = 3 from rfl] at l10
    rw [show (jtab 0).2.2 11 = 4 from rfl] at l11
    rw [show (jtab 0).2.2 12 = 4 from rfl] at l12
    have hcr : 1 ≤ c_rows ct td ∧ c_rows ct td ≤ 40 := by
      have h9 := (hLI 0 0 (by omega) (by omega) (by omega)).1 rfl
      have e9 : c_rows ct td = c_get td 0 0 0 := by unfold c_rows; rw [if_neg (by omega)]
      omega
    have hA23 : M2 (f + 23) = jdA 4 (A 23) := hAf 23 (by omega) (by omega)
    have hB3 : M2 (m + 3) = jdA 431 (B 3) := hBm 3 (by omega) (by omega)
    obtain ⟨hrw, hsc, hwk, hsk9, h422, hgt, h429, h430⟩ := id hRR
    replace hsc : ∀ t, t < 2 → B 3 (410 + t) = sp t := hsc
    replace hwk : ∀ t : Nat, (t : Int) < ct 5 → B 3 (412 + t) = if c_get td 5 t 0 = 0 then g3 4 - 1 else c_rows ct td - g3 5 := hwk
    replace hsk9 : ∀ j, j < 8 → B 3 (414 + j) = sk j := hsk9
    replace h422 : B 3 422 = g3 6 := h422
    replace h429 : B 3 429 = g3 7 := h429
    replace hgt : ∀ i, i < 6 → B 3 (423 + i) = go i := hgt
    replace h430 : B 3 430 = c_rows ct td - (g3 5 - g3 4 + 1) := h430
    obtain ⟨h4r, hsr, hkr, hzr, h0r, hfr, htr, h2r, h451r⟩ := id hRI
    replace h4r : 1 ≤ g3 4 ∧ g3 4 ≤ g3 5 + 1 ∧ g3 5 ≤ c_rows ct td := h4r
    replace hsr : ∀ j, 0 ≤ sp j ∧ sp j ≤ 60000 + 22000 * (c_rows ct td - (g3 5 - g3 4 + 1)) := hsr
    replace hkr : ∀ j, 0 ≤ sk j ∧ sk j ≤ 9999 := hkr
    replace hzr : 0 ≤ g3 7 ∧ g3 7 ≤ 65536 := hzr
    replace h0r : ∀ ρ : Nat, g3 4 ≤ ρ → (ρ : Int) ≤ g3 5 → ∀ o, o < 11 → fa (11 * ρ + o) = 0 := h0r
    replace hfr : ∀ j, 0 ≤ fa j ∧ fa j ≤ 5000000 := hfr
    have hSV : SRV ct td g3 sp fa := SRV_of hR2 hRI hcr.2 l5.2
    have hcfr : ∀ a b : Int, 0 ≤ c_fact fa a b ∧ c_fact fa a b ≤ 5000000 := fun a b => by
      unfold c_fact
      split
      · exact hfr _
      · omega
    have hfc : ∀ i : Int, 0 ≤ i → i < ct 5 → 0 ≤ c_get td 5 i 0 ∧ c_get td 5 i 0 ≤ 1 := fun i a b => by
      have := ((hLI 5 i (by omega) a b).2.2.2.2.2.1 rfl).1
      have := c_getr hrt 5 i 0
      omega
    refine jr_aload_n (pc := 5) h dX9_waits_5 rfl ?_
    refine gf_X9_425 (pc := 6) h dX9_waits_6 (by assumption) (by omega) ?_
    refine jr_ifnull (pc := 9) h dX9_waits_9 ?_
    refine jr_iload_n (pc := 12) h dX9_waits_12 rfl ?_
    refine jr_if_lt (pc := 13) h 27 dX9_waits_13 (by decide) (by omega) (fun c_13 => ?_) (fun c_13 => ?_)
    · first | have d_13 := bz_0.mp c_13 | have d_13 := bz_1.mp c_13 | skip
      skip
      refine jr_aload_n (pc := 27) h dX9_waits_27 rfl ?_
      refine jr_iconst (pc := 28) h dX9_waits_28 ?_
      refine iv_X9_58 (pc := 29) h hl hR dX9_waits_29 ⟨(Nat.le_of_ble_eq_true rfl), (Nat.le_of_ble_eq_true rfl), (Nat.le_of_ble_eq_true rfl), (Nat.le_of_ble_eq_true rfl)⟩ (Nat.le_of_ble_eq_true rfl) (by assumption) (by omega) (s_X9_refused hX) (fun v_29 n_29 M_29 hn_29 hp => ?_)
      obtain ⟨⟨rfl, rfl⟩, hX, f9⟩ := hp
      have f1 := fr_tr f1 f9
      obtain ⟨hnm, hOm, hBm⟩ := id hX
      refine jr_iret (pc := 32) h hRt dX9_waits_32 rfl (Nat.le_of_ble_eq_true rfl) (Nat.le_of_ble_eq_true rfl) ?_
      refine lfA9 ?_ hX f1
      unfold x_waits
      (repeat' split) <;> first | rfl | (exfalso; omega) | contradiction
    · first | have d_13 := bz_0.mp c_13 | have d_13 := bz_1.mp c_13 | skip
      refine jr_iload_n (pc := 16) h dX9_waits_16 rfl ?_
      refine jr_aload_n (pc := 17) h dX9_waits_17 rfl ?_
      refine gf_X9_425 (pc := 18) h dX9_waits_18 (by assumption) (by omega) ?_
      refine gf_X9_397 (pc := 21) h dX9_waits_21 (by assumption) (by omega) ?_
      refine jr_icmp_lt (pc := 24) h 33 dX9_waits_24 (by decide) (by omega) (by omega) (fun c_24 => ?_) (fun c_24 => ?_)
      · first | have d_24 := bz_0.mp c_24 | have d_24 := bz_1.mp c_24 | skip
        have g11 := a11 x.toNat (by omega)
        rw [show ((x.toNat : Nat) : Int) = x by omega] at g11
        obtain ⟨g23, g24, g25⟩ := g11
        have h11 := (hLI 11 x (by omega) (by omega) (by omega)).2.2.2.2.2.2.2.2.2.2.2.1 rfl
        have r110 := c_getr hrt 11 x 0
        refine jr_bipush (pc := 33) h dX9_waits_33 bp_60 ?_
        refine jr_aload_n (pc := 35) h dX9_waits_35 rfl ?_
        refine gf_X9_425 (pc := 36) h dX9_waits_36 (by assumption) (by omega) ?_
        refine gf_X9_402 (pc := 39) h dX9_waits_39 (by assumption) (by omega) ?_
        refine jr_iload_n (pc := 42) h dX9_waits_42 rfl ?_
        refine jr_iald (pc := 43) h dX9_waits_43 (by assumption) (by omega) (by omega) ?_
        rw [g23]
        refine jr_imul (pc := 44) h dX9_waits_44 ?_
        rw [show (60 : Int) * c_get td 11 x 0 = c_get td 11 x 0 * 60 by omega]
        refine jr_istore_n (pc := 45) h [_, _, _, _] dX9_waits_45 (by decide) rfl ?_
        refine jr_iconst (pc := 46) h dX9_waits_46 ?_
        refine jr_istore_n (pc := 47) h [_, _, _, _] dX9_waits_47 (by decide) rfl ?_
        have hrk : sumZ (fun i => if (c_get td 11 x 0 * 60) < c_lv ct td g3 fa (1 + i) then (1 : Int) else 0) (c_rows ct td).toNat < ((41 : Nat) : Int) := by
          have := (sumZ_b (f := fun i => if (c_get td 11 x 0 * 60) < c_lv ct td g3 fa (1 + i) then (1 : Int) else 0) (k := (c_rows ct td).toNat) (lo := 0) (hi := 1) (fun i _ _ => by
            show 0 ≤ (if (c_get td 11 x 0 * 60) < c_lv ct td g3 fa (1 + i) then (1 : Int) else 0) ∧ (if (c_get td 11 x 0 * 60) < c_lv ct td g3 fa (1 + i) then (1 : Int) else 0) ≤ 1
            split <;> omega)).2
          omega
        have hwt := wt_all hSV hends hfc l5.1 hcfr (x := x) (by omega) hrk
        have loop : ∀ (dq : Nat) (w9 : Int), (0 ≤ w9 ∧ (c_get td 11 x 0 * 60) + w9 ≤ (wtR ct td g3 fa x (c_get td 11 x 0 * 60) 41)) → ((wtR ct td g3 fa x (c_get td 11 x 0 * 60) 41) - (c_get td 11 x 0 * 60) - w9).toNat < dq → J κ 4 0 0 n 48 [some (.ref m), some (jI x), some (jI (c_get td 11 x 0 * 60)), some (jI w9)] [] M2 := by
          intro dq
          induction dq with
          | zero => intro w9 hw9 hd; omega
          | succ dq ih =>
            intro w9 hw9 hd
            refine jr_aload_n (pc := 48) h dX9_waits_48 rfl ?_
            refine jr_iload_n (pc := 49) h dX9_waits_49 rfl ?_
            refine jr_iload_n (pc := 50) h dX9_waits_50 rfl ?_
            refine jr_iload_n (pc := 51) h dX9_waits_51 rfl ?_
            refine jr_iadd (pc := 52) h dX9_waits_52 ?_
            refine iv_X9_568 (pc := 53) h hl hR dX9_waits_53 ⟨(Nat.le_of_ble_eq_true rfl), (Nat.le_of_ble_eq_true rfl), (Nat.le_of_ble_eq_true rfl), (Nat.le_of_ble_eq_true rfl)⟩ (Nat.le_of_ble_eq_true rfl) (by assumption) (by omega) (s_X9_isFree hX hMF hFM hsep hRR hRI hR2 (by omega) (by omega)) (fun v_53 n_53 M_53 hn_53 hp => ?_)
            obtain ⟨⟨rfl, rfl, rfl⟩, gr_53⟩ := hp
            refine jr_if_ne (pc := 56) h 65 dX9_waits_56 (by decide) (by omega) (fun c_56 => ?_) (fun c_56 => ?_)
            · first | have d_56 := bz_0.mp c_56 | have d_56 := bz_1.mp c_56 | skip
              refine jr_aload_n (pc := 65) h dX9_waits_65 rfl ?_
              refine jr_iload_n (pc := 66) h dX9_waits_66 rfl ?_
              refine iv_X9_62 (pc := 67) h hl hR dX9_waits_67 ⟨(Nat.le_of_ble_eq_true rfl), (Nat.le_of_ble_eq_true rfl), (Nat.le_of_ble_eq_true rfl), (Nat.le_of_ble_eq_true rfl)⟩ (Nat.le_of_ble_eq_true rfl) (by assumption) (by omega) (s_X9_done hX) (fun v_67 n_67 M_67 hn_67 hp => ?_)
              obtain ⟨⟨rfl, rfl⟩, hX, f9⟩ := hp
              have f1 := fr_tr f1 f9
              obtain ⟨hnm, hOm, hBm⟩ := id hX
              refine jr_iret (pc := 70) h hRt dX9_waits_70 rfl (Nat.le_of_ble_eq_true rfl) (Nat.le_of_ble_eq_true rfl) ?_
              have hge : (c_get td 11 x 0 * 60) + w9 = (wtR ct td g3 fa x (c_get td 11 x 0 * 60) 41) := by
                by_cases q : (c_get td 11 x 0 * 60) + w9 < (wtR ct td g3 fa x (c_get td 11 x 0 * 60) 41)
                · exact absurd (by assumption) (hwt.2.2 ((c_get td 11 x 0 * 60) + w9) (by omega) q)
                · omega
              refine lfA9 ?_ hX f1
              unfold x_waits
              rw [if_pos (by omega)]
              have ec : c_wait ct td g3 fa x = w9 := by
                show (wtR ct td g3 fa x (c_get td 11 x 0 * 60) 41) - (c_get td 11 x 0 * 60) = w9
                omega
              rw [ec]
            · first | have d_56 := bz_0.mp c_56 | have d_56 := bz_1.mp c_56 | skip
              refine jr_iinc (pc := 59) h [_, _, _, _] dX9_waits_59 (by decide) rfl rfl ?_
              refine jr_goto (pc := 62) h 48 dX9_waits_62 (by decide) ?_
              have hne : (c_get td 11 x 0 * 60) + w9 ≠ (wtR ct td g3 fa x (c_get td 11 x 0 * 60) 41) := fun e => by
                have hfr9 := hwt.2.1
                rw [← e] at hfr9
                first
                | exact absurd hfr9 (by assumption)
                | (refine absurd hfr9 (fun q => ?_); contradiction)
              refine ih _ (by omega) (by omega)
        exact loop _ _ (by omega) (Nat.lt_succ_self _)
      · first | have d_24 := bz_0.mp c_24 | have d_24 := bz_1.mp c_24 | skip
        skip
        refine jr_aload_n (pc := 27) h dX9_waits_27 rfl ?_
        refine jr_iconst (pc := 28) h dX9_waits_28 ?_
        refine iv_X9_58 (pc := 29) h hl hR dX9_waits_29 ⟨(Nat.le_of_ble_eq_true rfl), (Nat.le_of_ble_eq_true rfl), (Nat.le_of_ble_eq_true rfl), (Nat.le_of_ble_eq_true rfl)⟩ (Nat.le_of_ble_eq_true rfl) (by assumption) (by omega) (s_X9_refused hX) (fun v_29 n_29 M_29 hn_29 hp => ?_)
        obtain ⟨⟨rfl, rfl⟩, hX, f9⟩ := hp
        have f1 := fr_tr f1 f9
        obtain ⟨hnm, hOm, hBm⟩ := id hX
        refine jr_iret (pc := 32) h hRt dX9_waits_32 rfl (Nat.le_of_ble_eq_true rfl) (Nat.le_of_ble_eq_true rfl) ?_
        refine lfA9 ?_ hX f1
        unfold x_waits
        (repeat' split) <;> first | rfl | (exfalso; omega) | contradiction
