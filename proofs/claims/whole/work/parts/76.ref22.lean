/-! 76: the reference: is the way free -/
set_option maxHeartbeats 1000000 in
set_option maxRecDepth 20000 in
theorem s_X9_isFree {l : Launch} {n : Nat} {M : jdM} {m f : Nat} {g : Nat → Int} {wd : Int} {rd : Value} {B : Nat → Nat → Int} (hX : MX M n m g wd (.ref f) rd B) {ct td bk si ld gf : Nat → Int} {A : Nat → Nat → Int} (hMF : MF M n f gf A) (hFM : FM ct td bk si ld gf A) (hsep : f + 30 < m ∨ m + 12 < f) {g3 sp sk fa go : Nat → Int} (hRR : RRel ct td (g3, sp, sk, fa, go) (B 3)) (hRI : RI ct td (g3, sp, sk, fa, go)) (hR2 : RI2 ct td (g3, sp, sk, fa, go)) {x s : Int} (hx : 0 ≤ x ∧ x < ct 11) (hs : -2147483648 ≤ s ∧ s < 2147483648) : Ct l yX9_isFree cX9_isFree 5 (some .boolean) rX9_isFree [.ref m, jI x, jI s] n M (fun vv n' M' => (vv = some (jI (bz (∀ t : Int, 0 ≤ t → t < ct 5 → ¬ c_wyp ct td g3 fa x s t))) ∧ n = n' ∧ M = M') ∧ (0) ≤ (bz (∀ t : Int, 0 ≤ t → t < ct 5 → ¬ c_wyp ct td g3 fa x s t)) ∧ (bz (∀ t : Int, 0 ≤ t → t < ct 5 → ¬ c_wyp ct td g3 fa x s t)) ≤ 1) := by
  refine Ct_of [some (.ref m), some (jI x), some (jI s), none, none] (by decide) (Nat.le_of_ble_eq_true rfl) rfl (fun κ hl h hR hRt hmn hn0 => ?_)
  have h : Ok κ RX9 cX9_isFree 5 (some .boolean) := h
  obtain ⟨hnm, hOm, hBm⟩ := id hX
  have hOm : M m = jdO 9 (fX9 m _ _ (.ref f) rd) := hOm
  obtain ⟨hnf, hOf, hAf⟩ := id hMF
  obtain ⟨⟨e0, e1, e2, e3, e4⟩, ⟨k5, k6, k7, k8, k9, k10, k11, k12, k13, k14, k15⟩, ⟨a2, a3, a4, a5, a6, a7, a8, a9, a10, a11, a12⟩, ⟨hlim, hLI, hends, hrt⟩, ⟨hbk, hld⟩, hc0, hc1, hc2, hc5⟩ := id hFM
  have l2 := hlim 2 (by omega)
  have l3 := hlim 3 (by omega)
  have l4 := hlim 4 (by omega)
  have l5 := hlim 5 (by omega)
  have l6 := hlim 6 (by omega)
  have l7 := hlim 7 (by omega)
  have l8 := hlim 8 (by omega)
  have l9 := hlim 9 (by omega)
  have l10 := hlim 10 (by omega)
  have l11 := hlim 11 (by omega)
  have l12 := hlim 12 (by omega)
  rw [show (jtab 0).2.2 2 = 4 from rfl] at l2
  rw [show (jtab 0).2.2 3 = 6 from rfl] at l3
  rw [show (jtab 0).2.2 4 = 6 from rfl] at l4
  rw [show (jtab 0).2.2 5 = 2 from rfl] at l5
  rw [show (jtab 0).2.2 6 = 8 from rfl] at l6
  rw [show (jtab 0).2.2 7 = 5 from rfl] at l7
  rw [show (jtab 0).2.2 8 = 6 from rfl] at l8
  rw [show (jtab 0).2.2 9 = 3 from rfl] at l9
  rw [show (jtab 0).2.2 10 = 3 from rfl] at l10
  rw [show (jtab 0).2.2 11 = 4 from rfl] at l11
  rw [show (jtab 0).2.2 12 = 4 from rfl] at l12
  have hcr : 1 ≤ c_rows ct td ∧ c_rows ct td ≤ 40 := by
    have h9 := (hLI 0 0 (by omega) (by omega) (by omega)).1 rfl
    have e9 : c_rows ct td = c_get td 0 0 0 := by unfold c_rows; rw [if_neg (by omega)]
    omega
  have hB3 : M (m + 3) = jdA 431 (B 3) := hBm 3 (by omega) (by omega)
  obtain ⟨hrw, hsc, hwk, hsk9, h422, hgt, h429, h430⟩ := id hRR
  replace hsc : ∀ t, t < 2 → B 3 (410 + t) = sp t := hsc
  replace hwk : ∀ t : Nat, (t : Int) < ct 5 → B 3 (412 + t) = if c_get td 5 t 0 = 0 then g3 4 - 1 else c_rows ct td - g3 5 := hwk
  replace hsk9 : ∀ j, j < 8 → B 3 (414 + j) = sk j := hsk9
  replace h422 : B 3 422 = g3 6 := h422
  replace h429 : B 3 429 = g3 7 := h429
  replace hgt : ∀ i, i < 6 → B 3 (423 + i) = go i := hgt
  replace h430 : B 3 430 = c_rows ct td - (g3 5 - g3 4 + 1) := h430
  obtain ⟨h4r, hsr, hkr, hzr, h0r, hfr, htr, h2r, h451r⟩ := id hRI
  replace h4r : 1 ≤ g3 4 ∧ g3 4 ≤ g3 5 + 1 ∧ g3 5 ≤ c_rows ct td := h4r
  replace hsr : ∀ j, 0 ≤ sp j ∧ sp j ≤ 60000 + 22000 * (c_rows ct td - (g3 5 - g3 4 + 1)) := hsr
  replace hkr : ∀ j, 0 ≤ sk j ∧ sk j ≤ 9999 := hkr
  replace hzr : 0 ≤ g3 7 ∧ g3 7 ≤ 65536 := hzr
  replace h0r : ∀ ρ : Nat, g3 4 ≤ ρ → (ρ : Int) ≤ g3 5 → ∀ o, o < 11 → fa (11 * ρ + o) = 0 := h0r
  replace hfr : ∀ j, 0 ≤ fa j ∧ fa j ≤ 5000000 := hfr
  have hA24 : M (f + 24) = jdA 4 (A 24) := hAf 24 (by omega) (by omega)
  have hA25 : M (f + 25) = jdA 4 (A 25) := hAf 25 (by omega) (by omega)
  have g11 := a11 x.toNat (by omega)
  rw [show ((x.toNat : Nat) : Int) = x by omega] at g11
  obtain ⟨g23, g24, g25⟩ := g11
  have h11 := (hLI 11 x (by omega) hx.1 hx.2).2.2.2.2.2.2.2.2.2.2.2.1 rfl
  refine jr_iconst (pc := 0) h dX9_isFree_0 ?_
  refine jr_istore_n (pc := 1) h [_, _, _, _, _] dX9_isFree_1 (by decide) rfl ?_
  have loop : ∀ (dq : Nat) (i : Int) (l4 : Option Value), (0 ≤ i ∧ i ≤ ct 5) → (∀ j : Int, 0 ≤ j → j < i → ¬ c_wyp ct td g3 fa x s j) → (5 - i).toNat < dq → J κ 5 0 0 n 2 [some (.ref m), some (jI x), some (jI s), some (jI i), l4] [] M := by
    intro dq
    induction dq with
    | zero => intro i l4 hi hv hd; omega
    | succ dq ih =>
      intro i l4 hi hv hd
      refine jr_iload_n (pc := 2) h dX9_isFree_2 rfl ?_
      refine jr_aload_n (pc := 3) h dX9_isFree_3 rfl ?_
      refine gf_X9_425 (pc := 4) h dX9_isFree_4 (by assumption) (by omega) ?_
      refine gf_X9_214 (pc := 7) h dX9_isFree_7 (by assumption) (by omega) ?_
      refine jr_icmp_ge (pc := 10) h 73 dX9_isFree_10 (by decide) (by omega) (by omega) (fun c_10 => ?_) (fun c_10 => ?_)
      · first | have d_10 := bz_0.mp c_10 | have d_10 := bz_1.mp c_10 | skip
        refine jr_iconst (pc := 73) h dX9_isFree_73 ?_
        refine jr_iret (pc := 74) h hRt dX9_isFree_74 rfl (Nat.le_of_ble_eq_true rfl) (Nat.le_of_ble_eq_true rfl) ?_
        rw [bz_t (show (∀ t : Int, 0 ≤ t → t < ct 5 → ¬ c_wyp ct td g3 fa x s t) from fun j a b => hv j a (by omega))]
        exact ⟨⟨rfl, rfl, rfl⟩, by omega⟩
      · first | have d_10 := bz_0.mp c_10 | have d_10 := bz_1.mp c_10 | skip
        refine jr_aload_n (pc := 13) h dX9_isFree_13 rfl ?_
        refine jr_iload_n (pc := 14) h dX9_isFree_14 rfl ?_
        refine jr_iload_n (pc := 15) h dX9_isFree_15 rfl ?_
        refine iv_X9_562 (pc := 16) h hl hR dX9_isFree_16 ⟨(Nat.le_of_ble_eq_true rfl), (Nat.le_of_ble_eq_true rfl), (Nat.le_of_ble_eq_true rfl), (Nat.le_of_ble_eq_true rfl)⟩ (Nat.le_of_ble_eq_true rfl) (by assumption) (by omega) (s_X9_rowOn hX hMF hFM hsep hRR hRI hR2 (by omega) (by omega)) (fun v_16 n_16 M_16 hn_16 hp => ?_)
        obtain ⟨⟨rfl, rfl, rfl⟩, gr_16⟩ := hp
        refine jr_istore (pc := 19) h [_, _, _, _, _] dX9_isFree_19 (by decide) rfl ?_
        refine jr_iload (pc := 21) h dX9_isFree_21 rfl ?_
        refine jr_iconst (pc := 23) h dX9_isFree_23 ?_
        refine jr_icmp_eq (pc := 24) h 67 dX9_isFree_24 (by decide) (by omega) (by omega) (fun c_24 => ?_) (fun c_24 => ?_)
        · first | have d_24 := bz_0.mp c_24 | have d_24 := bz_1.mp c_24 | skip
          refine jr_iinc (pc := 67) h [_, _, _, _, _] dX9_isFree_67 (by decide) rfl rfl ?_
          refine jr_goto (pc := 70) h 2 dX9_isFree_70 (by decide) ?_
          refine ih _ _ (by omega) (fun j a b => ?_) (by omega)
          by_cases q : j = i
          · rw [q]
            intro ⟨w1, w2, w3⟩
            first
            | omega
            | exact w3 (by assumption)
          · exact hv j a (by omega)
        · first | have d_24 := bz_0.mp c_24 | have d_24 := bz_1.mp c_24 | skip
          refine jr_iload (pc := 27) h dX9_isFree_27 rfl ?_
          refine jr_aload_n (pc := 29) h dX9_isFree_29 rfl ?_
          refine gf_X9_425 (pc := 30) h dX9_isFree_30 (by assumption) (by omega) ?_
          refine gf_X9_405 (pc := 33) h dX9_isFree_33 (by assumption) (by omega) ?_
          refine jr_iload_n (pc := 36) h dX9_isFree_36 rfl ?_
          refine jr_iald (pc := 37) h dX9_isFree_37 (by assumption) (by omega) (by omega) ?_
          rw [g24]
          refine jr_aload_n (pc := 38) h dX9_isFree_38 rfl ?_
          refine gf_X9_425 (pc := 39) h dX9_isFree_39 (by assumption) (by omega) ?_
          refine gf_X9_408 (pc := 42) h dX9_isFree_42 (by assumption) (by omega) ?_
          refine jr_iload_n (pc := 45) h dX9_isFree_45 rfl ?_
          refine jr_iald (pc := 46) h dX9_isFree_46 (by assumption) (by omega) (by omega) ?_
          rw [g25]
          refine iv_X9_130 (pc := 47) h hl hR dX9_isFree_47 ⟨(Nat.le_of_ble_eq_true rfl), (Nat.le_of_ble_eq_true rfl), (Nat.le_of_ble_eq_true rfl), (Nat.le_of_ble_eq_true rfl)⟩ (Nat.le_of_ble_eq_true rfl) (s_X9_in (by omega) (by omega) (by omega)) (fun v_47 n_47 M_47 hn_47 hp => ?_)
          obtain ⟨⟨rfl, rfl, rfl⟩, gr_47⟩ := hp
          refine jr_if_eq (pc := 50) h 67 dX9_isFree_50 (by decide) (by omega) (fun c_50 => ?_) (fun c_50 => ?_)
          · first | have d_50 := bz_0.mp c_50 | have d_50 := bz_1.mp c_50 | skip
            refine jr_iinc (pc := 67) h [_, _, _, _, _] dX9_isFree_67 (by decide) rfl rfl ?_
            refine jr_goto (pc := 70) h 2 dX9_isFree_70 (by decide) ?_
            refine ih _ _ (by omega) (fun j a b => ?_) (by omega)
            by_cases q : j = i
            · rw [q]
              intro ⟨w1, w2, w3⟩
              first
              | omega
              | exact w3 (by assumption)
            · exact hv j a (by omega)
          · first | have d_50 := bz_0.mp c_50 | have d_50 := bz_1.mp c_50 | skip
            refine jr_aload_n (pc := 53) h dX9_isFree_53 rfl ?_
            refine gf_X9_425 (pc := 54) h dX9_isFree_54 (by assumption) (by omega) ?_
            refine jr_iload (pc := 57) h dX9_isFree_57 rfl ?_
            refine iv_X9_565 (pc := 59) h hl hR dX9_isFree_59 ⟨(Nat.le_of_ble_eq_true rfl), (Nat.le_of_ble_eq_true rfl), (Nat.le_of_ble_eq_true rfl), (Nat.le_of_ble_eq_true rfl)⟩ (Nat.le_of_ble_eq_true rfl) (by assumption) (by omega) (s_X8_isGap hMF hFM (by omega)) (fun v_59 n_59 M_59 hn_59 hp => ?_)
            obtain ⟨⟨rfl, rfl, rfl⟩, gr_59⟩ := hp
            refine jr_if_ne (pc := 62) h 67 dX9_isFree_62 (by decide) (by omega) (fun c_62 => ?_) (fun c_62 => ?_)
            · first | have d_62 := bz_0.mp c_62 | have d_62 := bz_1.mp c_62 | skip
              refine jr_iinc (pc := 67) h [_, _, _, _, _] dX9_isFree_67 (by decide) rfl rfl ?_
              refine jr_goto (pc := 70) h 2 dX9_isFree_70 (by decide) ?_
              refine ih _ _ (by omega) (fun j a b => ?_) (by omega)
              by_cases q : j = i
              · rw [q]
                intro ⟨w1, w2, w3⟩
                first
                | omega
                | exact w3 (by assumption)
              · exact hv j a (by omega)
            · first | have d_62 := bz_0.mp c_62 | have d_62 := bz_1.mp c_62 | skip
              refine jr_iconst (pc := 65) h dX9_isFree_65 ?_
              refine jr_iret (pc := 66) h hRt dX9_isFree_66 rfl (Nat.le_of_ble_eq_true rfl) (Nat.le_of_ble_eq_true rfl) ?_
              rw [bz_f (show ¬ (∀ t : Int, 0 ≤ t → t < ct 5 → ¬ c_wyp ct td g3 fa x s t) from fun hN => hN i (by omega) (by omega) ⟨by omega, by omega, by assumption⟩)]
              exact ⟨⟨rfl, rfl, rfl⟩, by omega⟩
  exact loop _ _ _ (by omega) (fun j a b => by omega) (Nat.lt_succ_self _)
