/-! 98.h: the reference: led -/
/-- the row that is led to: the x-th of those where something lacked -/
def ledN (fa : Nat → Int) (x : Int) : Int → Int → Nat → Int
  | _, _, 0 => 0
  | i, k, d + 1 => if c_fact fa i 3 + c_fact fa i 4 = 0 then ledN fa x (i + 1) k d else if k = x then i else ledN fa x (i + 1) (k + 1) d
def x_led (ct td fa : Nat → Int) (x : Int) : Int := ledN fa x 1 0 (c_rows ct td).toNat
set_option maxHeartbeats 2000000 in
set_option maxRecDepth 20000 in
theorem s_X9_led {l : Launch} {n : Nat} {M : jdM} {m : Nat} {g : Nat → Int} {w : Int} {fl rd : Value} {B : Nat → Nat → Int} (hX : MX M n m g w fl rd B) {ct td bk si ld : Nat → Int} (hFX : FX M n m fl ct td bk si ld) {x : Int} (hx : -2147483648 ≤ x ∧ x < 2147483648)  {g3 sp sk fa go : Nat → Int} (hRR : RRel ct td (g3, sp, sk, fa, go) (B 3)) (hRI : RI ct td (g3, sp, sk, fa, go)) (hR2 : RI2 ct td (g3, sp, sk, fa, go)) : Ct l yX9_led cX9_led 4 (some .int) rX9_led [.ref m, jI x] n M (fun vv n' M' => (vv = some (jI (x_led ct td fa x)) ∧ n = n') ∧ MX M' n m (up g 0 (if (x_led ct td fa x) = 0 then 1 else 0)) w fl rd B ∧ fr (MXf m) M M') := by
  refine Ct_of [some (.ref m), some (jI x), none, none] (by decide) (Nat.le_of_ble_eq_true rfl) rfl (fun κ hl h hR hRt hmn hn0 => ?_)
  have h : Ok κ RX9 cX9_led 4 (some .int) := h
  rcases hFX with ⟨rfl, hz⟩ | ⟨f, gf, A, rfl, hsep, hMF, hFM⟩
  · skip
    have hr0 := rows0 (td := td) hz
    have z2 := hz 2
    have z5 := hz 5
    obtain ⟨hnm, hOm, hBm⟩ := id hX
    have hOm : M m = jdO 9 (fX9 m _ _ .null rd) := hOm
    refine jr_aload_n (pc := 0) h dX9_led_0 rfl ?_
    refine jr_iconst (pc := 1) h dX9_led_1 ?_
    refine pf_X9_52 (pc := 2) h dX9_led_2 hOm (by omega) ?_
    refine jm_gen (fun M2 hM2 => ?_)
    rw [fX9_0] at hM2
    have hX := MX_o hX hM2
    have f9 : fr (MXf m) _ M2 := fr_up hM2 ⟨by omega, by omega⟩
    obtain ⟨hnm, hOm, hBm⟩ := id hX
    have f1 := f9
    refine jr_iconst (pc := 5) h dX9_led_5 ?_
    refine jr_istore_n (pc := 6) h [_, _, _, _] dX9_led_6 (by decide) rfl ?_
    refine jr_iconst (pc := 7) h dX9_led_7 ?_
    refine jr_istore_n (pc := 8) h [_, _, _, _] dX9_led_8 (by decide) rfl ?_
    refine jr_aload_n (pc := 9) h dX9_led_9 rfl ?_
    refine gf_X9_425 (pc := 10) h dX9_led_10 (by assumption) (by omega) ?_
    refine jr_ifnullN (pc := 13) h 72 dX9_led_13 (by decide) ?_
    refine jr_aload_n (pc := 72) h dX9_led_72 rfl ?_
    refine jr_iconst (pc := 73) h dX9_led_73 ?_
    refine pf_X9_52 (pc := 74) h dX9_led_74 hOm (by omega) ?_
    refine jm_gen (fun M2 hM2 => ?_)
    rw [fX9_0] at hM2
    have hX := MX_o hX hM2
    have f9 : fr (MXf m) _ M2 := fr_up hM2 ⟨by omega, by omega⟩
    obtain ⟨hnm, hOm, hBm⟩ := id hX
    rw [up_up] at hX
    have f1 := fr_tr f1 f9
    refine jr_iconst (pc := 77) h dX9_led_77 ?_
    refine jr_iret (pc := 78) h hRt dX9_led_78 rfl (Nat.le_of_ble_eq_true rfl) (Nat.le_of_ble_eq_true rfl) ?_
    have e9 : x_led ct td fa x = 0 := by
      unfold x_led
      rw [show (c_rows ct td).toNat = 0 by omega, ledN]
    rw [e9, if_pos rfl]
    exact ⟨⟨rfl, rfl⟩, hX, f1⟩
  · skip
    obtain ⟨hnm, hOm, hBm⟩ := id hX
    have hOm : M m = jdO 9 (fX9 m _ _ (.ref f) rd) := hOm
    refine jr_aload_n (pc := 0) h dX9_led_0 rfl ?_
    refine jr_iconst (pc := 1) h dX9_led_1 ?_
    refine pf_X9_52 (pc := 2) h dX9_led_2 hOm (by omega) ?_
    refine jm_gen (fun M2 hM2 => ?_)
    rw [fX9_0] at hM2
    have hX := MX_o hX hM2
    have f9 : fr (MXf m) _ M2 := fr_up hM2 ⟨by omega, by omega⟩
    obtain ⟨hnm, hOm, hBm⟩ := id hX
    have f1 := f9
    have hMF := MF_fr hMF f9 (Nat.le_refl _) (fun k h1 h2 q => by have := q.1; have := q.2; omega)
    obtain ⟨hnf, hOf, hAf⟩ := id hMF
    obtain ⟨⟨e0, e1, e2, e3, e4⟩, ⟨k5, k6, k7, k8, k9, k10, k11, k12, k13, k14, k15⟩, ⟨a2, a3, a4, a5, a6, a7, a8, a9, a10, a11, a12⟩, ⟨hlim, hLI, hends, hrt⟩, ⟨hbk, hld⟩, hc0, hc1, hc2, hc5⟩ := id hFM
    have l2 := hlim 2 (by omega)
    have l3 := hlim 3 (by omega)
    have l4 := hlim 4 (by omega)
    have l5 := hlim 5 (by omega)
    have l6 := hlim 6 (by omega)
    have l7 := hlim 7 (by omega)
    have l8 := hlim 8 (by omega)
    have l9 := hlim 9 (by omega)
    have l10 := hlim 10 (by omega)
    have l11 := hlim 11 (by omega)
    have l12 := hlim 12 (by omega)
    rw [show (jtab 0).2.2 2 = 4 from rfl] at l2
    rw [show (jtab 0).2.2 3 = 6 from rfl] at l3
    rw [show (jtab 0).2.2 4 = 6 from rfl] at l4
    rw [show (jtab 0).2.2 5 = 2 from rfl] at l5
    rw [show (jtab 0).2.2 6 = 8 from rfl] at l6
    rw [show (jtab 0).2.2 7 = 5 from rfl] at l7
    rw [show (jtab 0).2.2 8 = 6 from rfl] at l8
    rw [show (jtab 0).2.2 9 = 3 from rfl] at l9
    rw [show (jtab 0).2.2 10 = 3 from rfl] at l10
    rw [show (jtab 0).2.2 11 = 4 from rfl] at l11
    rw [show (jtab 0).2.2 12 = 4 from rfl] at l12
    have hcr : 1 ≤ c_rows ct td ∧ c_rows ct td ≤ 40 := by
      have h9 := (hLI 0 0 (by omega) (by omega) (by omega)).1 rfl
      have e9 : c_rows ct td = c_get td 0 0 0 := by unfold c_rows; rw [if_neg (by omega)]
      omega
    have hB3 : M2 (m + 3) = jdA 431 (B 3) := hBm 3 (by omega) (by omega)
    obtain ⟨hrw, hsc, hwk, hsk9, h422, hgt, h429, h430⟩ := id hRR
    replace hsc : ∀ t, t < 2 → B 3 (410 + t) = sp t := hsc
    replace hwk : ∀ t : Nat, (t : Int) < ct 5 → B 3 (412 + t) = if c_get td 5 t 0 = 0 then g3 4 - 1 else c_rows ct td - g3 5 := hwk
    replace hsk9 : ∀ j, j < 8 → B 3 (414 + j) = sk j := hsk9
    replace h422 : B 3 422 = g3 6 := h422
    replace h429 : B 3 429 = g3 7 := h429
    replace hgt : ∀ i, i < 6 → B 3 (423 + i) = go i := hgt
    replace h430 : B 3 430 = c_rows ct td - (g3 5 - g3 4 + 1) := h430
    obtain ⟨h4r, hsr, hkr, hzr, h0r, hfr, htr, h2r, h451r⟩ := id hRI
    replace h4r : 1 ≤ g3 4 ∧ g3 4 ≤ g3 5 + 1 ∧ g3 5 ≤ c_rows ct td := h4r
    replace hsr : ∀ j, 0 ≤ sp j ∧ sp j ≤ 60000 + 22000 * (c_rows ct td - (g3 5 - g3 4 + 1)) := hsr
    replace hkr : ∀ j, 0 ≤ sk j ∧ sk j ≤ 9999 := hkr
    replace hzr : 0 ≤ g3 7 ∧ g3 7 ≤ 65536 := hzr
    replace h0r : ∀ ρ : Nat, g3 4 ≤ ρ → (ρ : Int) ≤ g3 5 → ∀ o, o < 11 → fa (11 * ρ + o) = 0 := h0r
    replace hfr : ∀ j, 0 ≤ fa j ∧ fa j ≤ 5000000 := hfr
    refine jr_iconst (pc := 5) h dX9_led_5 ?_
    refine jr_istore_n (pc := 6) h [_, _, _, _] dX9_led_6 (by decide) rfl ?_
    refine jr_iconst (pc := 7) h dX9_led_7 ?_
    refine jr_istore_n (pc := 8) h [_, _, _, _] dX9_led_8 (by decide) rfl ?_
    have loop : ∀ (dq : Nat) (k r : Int), (1 ≤ r ∧ r ≤ c_rows ct td + 1 ∧ 0 ≤ k ∧ k ≤ r) → (x_led ct td fa x = ledN fa x r k (c_rows ct td + 1 - r).toNat) → (50 - r).toNat < dq → J κ 4 0 0 n 9 [some (.ref m), some (jI x), some (jI k), some (jI r)] [] M2 := by
      intro dq
      induction dq with
      | zero => intro k r hr hl9 hd; omega
      | succ dq ih =>
        intro k r hr hl9 hd
        refine jr_aload_n (pc := 9) h dX9_led_9 rfl ?_
        refine gf_X9_425 (pc := 10) h dX9_led_10 (by assumption) (by omega) ?_
        refine jr_ifnull (pc := 13) h dX9_led_13 ?_
        refine jr_iload_n (pc := 16) h dX9_led_16 rfl ?_
        refine jr_aload_n (pc := 17) h dX9_led_17 rfl ?_
        refine gf_X9_425 (pc := 18) h dX9_led_18 (by assumption) (by omega) ?_
        refine gf_X9_205 (pc := 21) h dX9_led_21 (by assumption) (by omega) ?_
        refine jr_icmp_gt (pc := 24) h 72 dX9_led_24 (by decide) (by omega) (by omega) (fun c_24 => ?_) (fun c_24 => ?_)
        · skip
          refine jr_aload_n (pc := 72) h dX9_led_72 rfl ?_
          refine jr_iconst (pc := 73) h dX9_led_73 ?_
          refine pf_X9_52 (pc := 74) h dX9_led_74 hOm (by omega) ?_
          refine jm_gen (fun M2 hM2 => ?_)
          rw [fX9_0] at hM2
          have hX := MX_o hX hM2
          have f9 : fr (MXf m) _ M2 := fr_up hM2 ⟨by omega, by omega⟩
          obtain ⟨hnm, hOm, hBm⟩ := id hX
          rw [up_up] at hX
          have f1 := fr_tr f1 f9
          refine jr_iconst (pc := 77) h dX9_led_77 ?_
          refine jr_iret (pc := 78) h hRt dX9_led_78 rfl (Nat.le_of_ble_eq_true rfl) (Nat.le_of_ble_eq_true rfl) ?_
          have e9 : x_led ct td fa x = 0 := by
            rw [hl9, show (c_rows ct td + 1 - r).toNat = 0 by omega, ledN]
          rw [e9, if_pos rfl]
          exact ⟨⟨rfl, rfl⟩, hX, f1⟩
        · skip
          refine jr_aload_n (pc := 27) h dX9_led_27 rfl ?_
          refine gf_X9_21 (pc := 28) h dX9_led_28 (by assumption) (by omega) ?_
          refine jr_bipush (pc := 31) h dX9_led_31 bp_10 ?_
          refine jr_iload_n (pc := 33) h dX9_led_33 rfl ?_
          refine jr_imul (pc := 34) h dX9_led_34 ?_
          refine jr_iconst (pc := 35) h dX9_led_35 ?_
          refine jr_iadd (pc := 36) h dX9_led_36 ?_
          refine jr_iald (pc := 37) h dX9_led_37 hB3 (by omega) (by omega) ?_
          rw [show (10 * r + 3).toNat = (10 * r + 3 : Int).toNat from rfl, RR_f (x := r) (y := 3) hRR (by omega) (by omega) (by omega) (Or.inr (by omega))]
          have cfb3 := cf_b (x := r) (y := 3) hRI (by omega)
          replace cfb3 : 0 ≤ c_fact fa r 3 ∧ c_fact fa r 3 ≤ 21 := cfb3
          show J _ _ _ _ _ _ _ (jI (c_fact fa r 3) :: _) _
          refine jr_aload_n (pc := 38) h dX9_led_38 rfl ?_
          refine gf_X9_21 (pc := 39) h dX9_led_39 (by assumption) (by omega) ?_
          refine jr_bipush (pc := 42) h dX9_led_42 bp_10 ?_
          refine jr_iload_n (pc := 44) h dX9_led_44 rfl ?_
          refine jr_imul (pc := 45) h dX9_led_45 ?_
          refine jr_iconst (pc := 46) h dX9_led_46 ?_
          refine jr_iadd (pc := 47) h dX9_led_47 ?_
          refine jr_iald (pc := 48) h dX9_led_48 hB3 (by omega) (by omega) ?_
          rw [show (10 * r + 4).toNat = (10 * r + 4 : Int).toNat from rfl, RR_f (x := r) (y := 4) hRR (by omega) (by omega) (by omega) (Or.inr (by omega))]
          have cfb4 := cf_b (x := r) (y := 4) hRI (by omega)
          replace cfb4 : 0 ≤ c_fact fa r 4 ∧ c_fact fa r 4 ≤ 21 := cfb4
          show J _ _ _ _ _ _ _ (jI (c_fact fa r 4) :: _) _
          refine jr_iadd (pc := 49) h dX9_led_49 ?_
          refine jr_if_ne (pc := 50) h 56 dX9_led_50 (by decide) (by omega) (fun c_50 => ?_) (fun c_50 => ?_)
          · skip
            refine jr_iload_n (pc := 56) h dX9_led_56 rfl ?_
            refine jr_iload_n (pc := 57) h dX9_led_57 rfl ?_
            refine jr_icmp_ne (pc := 58) h 63 dX9_led_58 (by decide) (by omega) (by omega) (fun c_58 => ?_) (fun c_58 => ?_)
            · skip
              refine jr_iinc (pc := 63) h [_, _, _, _] dX9_led_63 (by decide) rfl rfl ?_
              refine jr_iinc (pc := 66) h [_, _, _, _] dX9_led_66 (by decide) rfl rfl ?_
              refine jr_goto (pc := 69) h 9 dX9_led_69 (by decide) ?_
              refine ih _ _ (by omega) ?_ (by omega)
              rw [hl9, show (c_rows ct td + 1 - r).toNat = (c_rows ct td + 1 - (r + 1)).toNat + 1 by omega, ledN]
              first
              | (rw [if_pos (by omega)])
              | (rw [if_neg (by omega), if_neg (by omega)])
            · skip
              refine jr_iload_n (pc := 61) h dX9_led_61 rfl ?_
              refine jr_iret (pc := 62) h hRt dX9_led_62 rfl (Nat.le_of_ble_eq_true rfl) (Nat.le_of_ble_eq_true rfl) ?_
              have e9 : x_led ct td fa x = r := by
                rw [hl9, show (c_rows ct td + 1 - r).toNat = (c_rows ct td + 1 - (r + 1)).toNat + 1 by omega, ledN, if_neg (by omega), if_pos (by omega)]
              rw [e9, if_neg (by omega)]
              exact ⟨⟨rfl, rfl⟩, hX, f1⟩
          · skip
            refine jr_goto (pc := 53) h 66 dX9_led_53 (by decide) ?_
            refine jr_iinc (pc := 66) h [_, _, _, _] dX9_led_66 (by decide) rfl rfl ?_
            refine jr_goto (pc := 69) h 9 dX9_led_69 (by decide) ?_
            refine ih _ _ (by omega) ?_ (by omega)
            rw [hl9, show (c_rows ct td + 1 - r).toNat = (c_rows ct td + 1 - (r + 1)).toNat + 1 by omega, ledN]
            first
            | (rw [if_pos (by omega)])
            | (rw [if_neg (by omega), if_neg (by omega)])
    exact loop _ 0 1 (by omega) (by unfold x_led; rw [show c_rows ct td + 1 - 1 = c_rows ct td by omega]) (Nat.lt_succ_self _)
