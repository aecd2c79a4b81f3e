/-! 55: the reference: heat, meeting, loads -/
theorem foldZ_r {g : Int → Int → Int} {x lo hi : Int} (h0 : lo ≤ x ∧ x ≤ hi) : ∀ {k : Nat}, (∀ (a i : Int), (lo ≤ a ∧ a ≤ hi) → 0 ≤ i → i < k → lo ≤ g a i ∧ g a i ≤ hi) → lo ≤ foldZ g x k ∧ foldZ g x k ≤ hi := fun h => foldZ_inv (P := fun a => lo ≤ a ∧ a ≤ hi) h0 h
theorem c_late_b {ct td : Nat → Int} {k y : Int} (hy : 0 ≤ y) : 0 ≤ c_late ct td k y ∧ c_late ct td k y ≤ y := foldZ_r ⟨Int.le_refl 0, hy⟩ (fun a i ha _ _ => by
  split <;> omega)
theorem sit_b {ct td bk si ld : Nat → Int} (hS : SET ct td bk si ld) (hr : ∀ j, 0 ≤ td j ∧ td j ≤ 999) (h8 : 0 ≤ ct 8 ∧ ct 8 ≤ 6) (r : Int) : 0 ≤ c_sit si r ∧ c_sit si r ≤ 999 := by
  by_cases h : 1 ≤ r ∧ r ≤ 40
  · have h1 := (c_unn_e hS h).2
    have h2 := c_getr hr 7 (c_blk bk r) 2
    have h3 := sumZ_b (f := fun i => if c_get td 8 i 0 = r then 1 else 0) (k := (ct 8).toNat) (lo := 0) (hi := 1) (fun i _ _ => by
      show 0 ≤ (if c_get td 8 i 0 = r then (1 : Int) else 0) ∧ (if c_get td 8 i 0 = r then (1 : Int) else 0) ≤ 1
      split <;> omega)
    have h4 : c_named ct td r = sumZ (fun i => if c_get td 8 i 0 = r then 1 else 0) (ct 8).toNat := rfl
    omega
  · unfold c_sit
    rw [if_neg h]
    omega
theorem sw_b {ct td bk si ld : Nat → Int} (hS : SET ct td bk si ld) (hr : ∀ j, 0 ≤ td j ∧ td j ≤ 999) (h8 : 0 ≤ ct 8 ∧ ct 8 ≤ 6) (a b : Int) (ha : 1 ≤ a) : 0 ≤ c_sw si a b ∧ c_sw si a b ≤ 39960 := by
  have := sumZ_b (f := fun i => c_sit si (a + i)) (k := (min b 40 - a + 1).toNat) (lo := 0) (hi := 999) (fun i _ _ => sit_b hS hr h8 _)
  unfold c_sw
  omega
theorem sf_b {ct td bk si ld : Nat → Int} (hS : SET ct td bk si ld) (hr : ∀ j, 0 ≤ td j ∧ td j ≤ 999) (h8 : 0 ≤ ct 8 ∧ ct 8 ≤ 6) (hw : c_get td 0 0 1 ≤ 60 ∧ c_get td 0 0 2 ≤ 60) (a b : Int) (ha : 1 ≤ a) (hb : b ≤ 100) : 0 ≤ c_sf td si a b ∧ c_sf td si a b ≤ 10000000 := by
  have h1 := sw_b hS hr h8 a b ha
  have h2 := mulb ⟨(c_getr hr 0 0 2).1, hw.2⟩ h1
  have h3 := mulb (a := c_get td 0 0 1) (b := max 0 (b - a)) (A := 60) (B := 100) ⟨(c_getr hr 0 0 1).1, hw.1⟩ (by omega)
  unfold c_sf
  omega
theorem ld_0 {ct td bk si ld : Nat → Int} (hS : SET ct td bk si ld) (hF : FI ct td) {t k : Int} (ht : 0 ≤ t ∧ t < 2) (hk : 0 ≤ k ∧ k < 4) (h : ct 5 ≤ t ∨ ct 2 ≤ k) : c_load ld t k = 0 := by
  unfold c_load
  rw [if_pos (by omega), hS.2 _ (by omega)]
  have e : ∀ n : Nat, (n : Int) ≤ ct 6 → sumZ (fun i => if c_get td 6 i 0 * 4 + c_get td 6 i 1 = ((t * 4 + k).toNat : Int) then c_get td 6 i 2 else 0) n = 0 := by
    intro n
    induction n with
    | zero => intro _; rfl
    | succ n ih =>
      intro hn
      have h6 := (hF.2.1 6 n (by omega) (by omega) (by omega)).2.2.2.2.2.2.1 rfl
      have l2 := (hF.1 2 (by omega)).2
      rw [show (jtab 0).2.2 2 = 4 from rfl] at l2
      have g0 := c_getr hF.2.2.2 6 n 0
      have g1 := c_getr hF.2.2.2 6 n 1
      rw [sumZ, ih (by omega)]
      rw [if_neg (by omega)]
      rfl
  have l6 := hF.1 6 (by omega)
  exact e _ (by omega)
set_option maxHeartbeats 2000000 in
set_option maxRecDepth 20000 in
theorem s_X9_heatOf {l : Launch} {n : Nat} {M : jdM} {m f : Nat} {g : Nat → Int} {w : Int} {rd : Value} {B : Nat → Nat → Int} (hX : MX M n m g w (.ref f) rd B) {ct td bk si ld gf : Nat → Int} {A : Nat → Nat → Int} (hMF : MF M n f gf A) (hFM : FM ct td bk si ld gf A) (hsep : f + 30 < m ∨ m + 12 < f) {x y : Int} (hx : 0 ≤ x ∧ x < ct 2) (hy : 0 ≤ y ∧ y ≤ 100000) : Ct l yX9_heatOf cX9_heatOf 5 (some .int) rX9_heatOf [.ref m, jI x, jI y] n M (fun vv n' M' => (vv = some (jI (c_deg ct td x y)) ∧ n = n' ∧ M = M') ∧ (-99900000) ≤ (c_deg ct td x y) ∧ (c_deg ct td x y) ≤ 999) := by
  refine Ct_of [some (.ref m), some (jI x), some (jI y), none, none] (by decide) (Nat.le_of_ble_eq_true rfl) rfl (fun κ hl h hR hRt hmn hn0 => ?_)
  have h : Ok κ RX9 cX9_heatOf 5 (some .int) := h
  obtain ⟨hnm, hOm, hBm⟩ := id hX
  have hOm : M m = jdO 9 (fX9 m _ _ (.ref f) rd) := hOm
  obtain ⟨hnf, hOf, hAf⟩ := id hMF
  obtain ⟨⟨e0, e1, e2, e3, e4⟩, ⟨k5, k6, k7, k8, k9, k10, k11, k12, k13, k14, k15⟩, ⟨a2, a3, a4, a5, a6, a7, a8, a9, a10, a11, a12⟩, ⟨hlim, hLI, hends, hrt⟩, ⟨hbk, hld⟩, hc0, hc1, hc2, hc5⟩ := id hFM
  have l2 := hlim 2 (by omega)
  have l3 := hlim 3 (by omega)
  have l4 := hlim 4 (by omega)
  have l5 := hlim 5 (by omega)
  have l6 := hlim 6 (by omega)
  have l7 := hlim 7 (by omega)
  have l8 := hlim 8 (by omega)
  have l9 := hlim 9 (by omega)
  have l10 := hlim 10 (by omega)
  have l11 := hlim 11 (by omega)
  have l12 := hlim 12 (by omega)
  rw [show (jtab 0).2.2 2 = 4 from rfl] at l2
  rw [show (jtab 0).2.2 3 = 6 from rfl] at l3
  rw [show (jtab 0).2.2 4 = 6 from rfl] at l4
  rw [show (jtab 0).2.2 5 = 2 from rfl] at l5
  rw [show (jtab 0).2.2 6 = 8 from rfl] at l6
  rw [show (jtab 0).2.2 7 = 5 from rfl] at l7
  rw [show (jtab 0).2.2 8 = 6 from rfl] at l8
  rw [show (jtab 0).2.2 9 = 3 from rfl] at l9
  rw [show (jtab 0).2.2 10 = 3 from rfl] at l10
  rw [show (jtab 0).2.2 11 = 4 from rfl] at l11
  rw [show (jtab 0).2.2 12 = 4 from rfl] at l12
  have loop : ∀ (dq : Nat) (v i : Int), (0 ≤ i ∧ i ≤ ct 3) → (0 ≤ v ∧ v ≤ y) → (v = foldZ (fun a i => if c_get td 3 i 0 = x ∧ c_get td 3 i 1 ≤ y ∧ a < c_get td 3 i 1 then c_get td 3 i 1 else a) 0 i.toNat) → (10 - i).toNat < dq → J κ 5 0 0 n 5 [some (.ref m), some (jI x), some (jI y), some (jI v), some (jI i)] [] M := by
    intro dq
    induction dq with
    | zero => intro v i hi hvb hv hd; omega
    | succ dq ih =>
      intro v i hi hvb hv hd
      have hA2 : M (f + 2) = jdA 4 (A 2) := hAf 2 (by omega) (by omega)
      have hA3 : M (f + 3) = jdA 6 (A 3) := hAf 3 (by omega) (by omega)
      have hA4 : M (f + 4) = jdA 6 (A 4) := hAf 4 (by omega) (by omega)
      refine jr_iload (pc := 5) h dX9_heatOf_5 rfl ?_
      refine jr_aload_n (pc := 7) h dX9_heatOf_7 rfl ?_
      refine gf_X9_425 (pc := 8) h dX9_heatOf_8 (by assumption) (by omega) ?_
      refine gf_X9_289 (pc := 11) h dX9_heatOf_11 (by assumption) (by omega) ?_
      refine jr_icmp_ge (pc := 14) h 76 dX9_heatOf_14 (by decide) (by omega) (by omega) (fun c_14 => ?_) (fun c_14 => ?_)
      · skip
        have g2 := (a2 x.toNat (by omega)).2
        rw [show ((x.toNat : Nat) : Int) = x by omega] at g2
        have r21 := c_getr hrt 2 x 1
        have r41 := c_getr hrt 1 0 1
        have hml := mulb (a := c_get td 1 0 1) (b := y - v) (A := 999) (B := 100000) r41 (by omega)
        have hml2 : gf 4 * (y - v) = c_get td 1 0 1 * (y - v) := by rw [e4]
        refine jr_aload_n (pc := 76) h dX9_heatOf_76 rfl ?_
        refine gf_X9_425 (pc := 77) h dX9_heatOf_77 (by assumption) (by omega) ?_
        refine gf_X9_287 (pc := 80) h dX9_heatOf_80 (by assumption) (by omega) ?_
        refine jr_iload_n (pc := 83) h dX9_heatOf_83 rfl ?_
        refine jr_iald (pc := 84) h dX9_heatOf_84 (by assumption) (by omega) (by omega) ?_
        refine jr_aload_n (pc := 85) h dX9_heatOf_85 rfl ?_
        refine gf_X9_425 (pc := 86) h dX9_heatOf_86 (by assumption) (by omega) ?_
        refine gf_X9_272 (pc := 89) h dX9_heatOf_89 (by assumption) (by omega) ?_
        refine jr_iload_n (pc := 92) h dX9_heatOf_92 rfl ?_
        refine jr_iload_n (pc := 93) h dX9_heatOf_93 rfl ?_
        refine jr_isub (pc := 94) h dX9_heatOf_94 ?_
        refine jr_imul (pc := 95) h dX9_heatOf_95 ?_
        refine jr_bipush (pc := 96) h dX9_heatOf_96 bp_10 ?_
        refine jr_idivp (pc := 98) h dX9_heatOf_98 (by omega) (by omega) ?_
        refine jr_isub (pc := 99) h dX9_heatOf_99 ?_
        refine jr_iret (pc := 100) h hRt dX9_heatOf_100 rfl (Nat.le_of_ble_eq_true rfl) (Nat.le_of_ble_eq_true rfl) ?_
        have ev : c_late ct td x y = v := by
          unfold c_late
          rw [show (ct 3).toNat = i.toNat by omega, ← hv]
        have ed : c_deg ct td x y = A 2 x.toNat - gf 4 * (y - v) / 10 := by
          unfold c_deg
          rw [ev, g2, hml2]
        rw [ed]
        exact ⟨⟨rfl, rfl, rfl⟩, by omega⟩
      · skip
        have g3 := a3 i.toNat (by omega)
        rw [show ((i.toNat : Nat) : Int) = i by omega] at g3
        have r30 := c_getr hrt 3 i 0
        have r31 := c_getr hrt 3 i 1
        refine jr_aload_n (pc := 17) h dX9_heatOf_17 rfl ?_
        refine gf_X9_425 (pc := 18) h dX9_heatOf_18 (by assumption) (by omega) ?_
        refine gf_X9_296 (pc := 21) h dX9_heatOf_21 (by assumption) (by omega) ?_
        refine jr_iload (pc := 24) h dX9_heatOf_24 rfl ?_
        refine jr_iald (pc := 26) h dX9_heatOf_26 (by assumption) (by omega) (by omega) ?_
        refine jr_iload_n (pc := 27) h dX9_heatOf_27 rfl ?_
        refine jr_icmp_ne (pc := 28) h 70 dX9_heatOf_28 (by decide) (by omega) (by omega) (fun c_28 => ?_) (fun c_28 => ?_)
        · skip
          refine jr_iinc (pc := 70) h [_, _, _, _, _] dX9_heatOf_70 (by decide) rfl rfl ?_
          refine jr_goto (pc := 73) h 5 dX9_heatOf_73 (by decide) ?_
          refine ih _ _ (by omega) (by omega) ?_ (by omega)
          rw [foldZ_s (by omega), ← hv]
          first
          | (rw [if_pos ⟨by omega, by omega, by omega⟩]; omega)
          | (rw [if_neg (by omega)])
        · skip
          refine jr_aload_n (pc := 31) h dX9_heatOf_31 rfl ?_
          refine gf_X9_425 (pc := 32) h dX9_heatOf_32 (by assumption) (by omega) ?_
          refine gf_X9_299 (pc := 35) h dX9_heatOf_35 (by assumption) (by omega) ?_
          refine jr_iload (pc := 38) h dX9_heatOf_38 rfl ?_
          refine jr_iald (pc := 40) h dX9_heatOf_40 (by assumption) (by omega) (by omega) ?_
          refine jr_iload_n (pc := 41) h dX9_heatOf_41 rfl ?_
          refine jr_icmp_gt (pc := 42) h 70 dX9_heatOf_42 (by decide) (by omega) (by omega) (fun c_42 => ?_) (fun c_42 => ?_)
          · skip
            refine jr_iinc (pc := 70) h [_, _, _, _, _] dX9_heatOf_70 (by decide) rfl rfl ?_
            refine jr_goto (pc := 73) h 5 dX9_heatOf_73 (by decide) ?_
            refine ih _ _ (by omega) (by omega) ?_ (by omega)
            rw [foldZ_s (by omega), ← hv]
            first
            | (rw [if_pos ⟨by omega, by omega, by omega⟩]; omega)
            | (rw [if_neg (by omega)])
          · skip
            refine jr_aload_n (pc := 45) h dX9_heatOf_45 rfl ?_
            refine gf_X9_425 (pc := 46) h dX9_heatOf_46 (by assumption) (by omega) ?_
            refine gf_X9_299 (pc := 49) h dX9_heatOf_49 (by assumption) (by omega) ?_
            refine jr_iload (pc := 52) h dX9_heatOf_52 rfl ?_
            refine jr_iald (pc := 54) h dX9_heatOf_54 (by assumption) (by omega) (by omega) ?_
            refine jr_iload_n (pc := 55) h dX9_heatOf_55 rfl ?_
            refine jr_icmp_le (pc := 56) h 70 dX9_heatOf_56 (by decide) (by omega) (by omega) (fun c_56 => ?_) (fun c_56 => ?_)
            · skip
              refine jr_iinc (pc := 70) h [_, _, _, _, _] dX9_heatOf_70 (by decide) rfl rfl ?_
              refine jr_goto (pc := 73) h 5 dX9_heatOf_73 (by decide) ?_
              refine ih _ _ (by omega) (by omega) ?_ (by omega)
              rw [foldZ_s (by omega), ← hv]
              first
              | (rw [if_pos ⟨by omega, by omega, by omega⟩]; omega)
              | (rw [if_neg (by omega)])
            · skip
              refine jr_aload_n (pc := 59) h dX9_heatOf_59 rfl ?_
              refine gf_X9_425 (pc := 60) h dX9_heatOf_60 (by assumption) (by omega) ?_
              refine gf_X9_299 (pc := 63) h dX9_heatOf_63 (by assumption) (by omega) ?_
              refine jr_iload (pc := 66) h dX9_heatOf_66 rfl ?_
              refine jr_iald (pc := 68) h dX9_heatOf_68 (by assumption) (by omega) (by omega) ?_
              refine jr_istore_n (pc := 69) h [_, _, _, _, _] dX9_heatOf_69 (by decide) rfl ?_
              refine jr_iinc (pc := 70) h [_, _, _, _, _] dX9_heatOf_70 (by decide) rfl rfl ?_
              refine jr_goto (pc := 73) h 5 dX9_heatOf_73 (by decide) ?_
              refine ih _ _ (by omega) (by omega) ?_ (by omega)
              rw [foldZ_s (by omega), ← hv]
              first
              | (rw [if_pos ⟨by omega, by omega, by omega⟩]; omega)
              | (rw [if_neg (by omega)])
  refine jr_iconst (pc := 0) h dX9_heatOf_0 ?_
  refine jr_istore_n (pc := 1) h [_, _, _, _, _] dX9_heatOf_1 (by decide) rfl ?_
  refine jr_iconst (pc := 2) h dX9_heatOf_2 ?_
  refine jr_istore (pc := 3) h [_, _, _, _, _] dX9_heatOf_3 (by decide) rfl ?_
  exact loop _ _ _ (by omega) (by omega) rfl (Nat.lt_succ_self _)
set_option maxHeartbeats 1000000 in
set_option maxRecDepth 20000 in
theorem s_X9_heat {l : Launch} {n : Nat} {M : jdM} {m : Nat} {g : Nat → Int} {w : Int} {fl rd : Value} {B : Nat → Nat → Int} (hX : MX M n m g w fl rd B) {ct td bk si ld : Nat → Int} (hFX : FX M n m fl ct td bk si ld) {x y : Int} (hx : -2147483648 ≤ x ∧ x < 2147483648) (hy : -2147483648 ≤ y ∧ y < 2147483648)  : Ct l yX9_heat cX9_heat 3 (some .int) rX9_heat [.ref m, jI x, jI y] n M (fun vv n' M' => (vv = some (jI (x_heat ct td x y).1) ∧ n = n') ∧ MX M' n m (rg g (x_heat ct td x y).2) w fl rd B ∧ fr (MXf m) M M') := by
  refine Ct_of [some (.ref m), some (jI x), some (jI y)] (by decide) (Nat.le_of_ble_eq_true rfl) rfl (fun κ hl h hR hRt hmn hn0 => ?_)
  have h : Ok κ RX9 cX9_heat 3 (some .int) := h
  obtain ⟨hnm, hOm, hBm⟩ := id hX
  have hOm : M m = jdO 9 (fX9 m _ _ fl rd) := hOm
  refine jr_aload_n (pc := 0) h dX9_heat_0 rfl ?_
  refine jr_iconst (pc := 1) h dX9_heat_1 ?_
  refine pf_X9_52 (pc := 2) h dX9_heat_2 hOm (by omega) ?_
  refine jm_gen (fun M2 hM2 => ?_)
  rw [fX9_0] at hM2
  have hX := MX_o hX hM2
  have f9 : fr (MXf m) _ M2 := fr_up hM2 ⟨by omega, by omega⟩
  obtain ⟨hnm, hOm, hBm⟩ := id hX
  have f1 := f9
  have hFX := FX_fr hFX f9
  refine jr_aload_n (pc := 5) h dX9_heat_5 rfl ?_
  refine jr_iload_n (pc := 6) h dX9_heat_6 rfl ?_
  refine iv_X9_446 (pc := 7) h hl hR dX9_heat_7 ⟨(Nat.le_of_ble_eq_true rfl), (Nat.le_of_ble_eq_true rfl), (Nat.le_of_ble_eq_true rfl), (Nat.le_of_ble_eq_true rfl)⟩ (Nat.le_of_ble_eq_true rfl) (by assumption) (by omega) (s_X9_isKind hX hFX (by omega)) (fun v_7 n_7 M_7 hn_7 hp => ?_)
  obtain ⟨⟨rfl, rfl, rfl⟩, gr_7⟩ := hp
  refine jr_if_ne (pc := 10) h 19 dX9_heat_10 (by decide) (by omega) (fun c_10 => ?_) (fun c_10 => ?_)
  · first | have d_10 := bz_0.mp c_10 | have d_10 := bz_1.mp c_10 | skip
    refine jr_iload_n (pc := 19) h dX9_heat_19 rfl ?_
    refine jr_iconst (pc := 20) h dX9_heat_20 ?_
    refine jr_sipush (pc := 21) h dX9_heat_21 sp_999 ?_
    refine iv_X9_130 (pc := 24) h hl hR dX9_heat_24 ⟨(Nat.le_of_ble_eq_true rfl), (Nat.le_of_ble_eq_true rfl), (Nat.le_of_ble_eq_true rfl), (Nat.le_of_ble_eq_true rfl)⟩ (Nat.le_of_ble_eq_true rfl) (s_X9_in (by omega) (by omega) (by omega)) (fun v_24 n_24 M_24 hn_24 hp => ?_)
    obtain ⟨⟨rfl, rfl, rfl⟩, gr_24⟩ := hp
    refine jr_if_eq (pc := 27) h 43 dX9_heat_27 (by decide) (by omega) (fun c_27 => ?_) (fun c_27 => ?_)
    · first | have d_27 := bz_0.mp c_27 | have d_27 := bz_1.mp c_27 | skip
      refine jr_aload_n (pc := 43) h dX9_heat_43 rfl ?_
      refine jr_iconst (pc := 44) h dX9_heat_44 ?_
      refine iv_X9_522 (pc := 45) h hl hR dX9_heat_45 ⟨(Nat.le_of_ble_eq_true rfl), (Nat.le_of_ble_eq_true rfl), (Nat.le_of_ble_eq_true rfl), (Nat.le_of_ble_eq_true rfl)⟩ (Nat.le_of_ble_eq_true rfl) (by assumption) (by omega) (s_X9_lost hX) (fun v_45 n_45 M_45 hn_45 hp => ?_)
      obtain ⟨⟨rfl, rfl⟩, hX, f9⟩ := hp
      have f1 := fr_tr f1 f9
      obtain ⟨hnm, hOm, hBm⟩ := id hX
      refine jr_iret (pc := 48) h hRt dX9_heat_48 rfl (Nat.le_of_ble_eq_true rfl) (Nat.le_of_ble_eq_true rfl) ?_
      refine lfA9 ?_ hX f1
      unfold x_heat
      (repeat' split) <;> first | rfl | (exfalso; omega) | contradiction
    · first | have d_27 := bz_0.mp c_27 | have d_27 := bz_1.mp c_27 | skip
      have hr00 := fun (hz : ∀ j, ct j = 0) => rows0 (td := td) hz
      rcases hFX with ⟨rfl, hz⟩ | ⟨f, gf, A, rfl, hsep, hMF, hFM⟩
      · exfalso
        have z2 := hz 2
        have z5 := hz 5
        have zr := hr00 hz
        omega
      obtain ⟨hnf, hOf, hAf⟩ := id hMF
      obtain ⟨⟨e0, e1, e2, e3, e4⟩, ⟨k5, k6, k7, k8, k9, k10, k11, k12, k13, k14, k15⟩, ⟨a2, a3, a4, a5, a6, a7, a8, a9, a10, a11, a12⟩, ⟨hlim, hLI, hends, hrt⟩, ⟨hbk, hld⟩, hc0, hc1, hc2, hc5⟩ := id hFM
      have l2 := hlim 2 (by omega)
      have l3 := hlim 3 (by omega)
      have l4 := hlim 4 (by omega)
      have l5 := hlim 5 (by omega)
      have l6 := hlim 6 (by omega)
      have l7 := hlim 7 (by omega)
      have l8 := hlim 8 (by omega)
      have l9 := hlim 9 (by omega)
      have l10 := hlim 10 (by omega)
      have l11 := hlim 11 (by omega)
      have l12 := hlim 12 (by omega)
      rw [show (jtab 0).2.2 2 = 4 from rfl] at l2
      rw [show (jtab 0).2.2 3 = 6 from rfl] at l3
      rw [show (jtab 0).2.2 4 = 6 from rfl] at l4
      rw [show (jtab 0).2.2 5 = 2 from rfl] at l5
      rw [show (jtab 0).2.2 6 = 8 from rfl] at l6
      rw [show (jtab 0).2.2 7 = 5 from rfl] at l7
      rw [show (jtab 0).2.2 8 = 6 from rfl] at l8
      rw [show (jtab 0).2.2 9 = 3 from rfl] at l9
      rw [show (jtab 0).2.2 10 = 3 from rfl] at l10
      rw [show (jtab 0).2.2 11 = 4 from rfl] at l11
      rw [show (jtab 0).2.2 12 = 4 from rfl] at l12
      have hcr : 1 ≤ c_rows ct td ∧ c_rows ct td ≤ 40 := by
        have h9 := (hLI 0 0 (by omega) (by omega) (by omega)).1 rfl
        have e9 : c_rows ct td = c_get td 0 0 0 := by unfold c_rows; rw [if_neg (by omega)]
        omega
      refine jr_aload_n (pc := 30) h dX9_heat_30 rfl ?_
      refine jr_aload_n (pc := 31) h dX9_heat_31 rfl ?_
      refine jr_iload_n (pc := 32) h dX9_heat_32 rfl ?_
      refine jr_iload_n (pc := 33) h dX9_heat_33 rfl ?_
      refine iv_X9_478 (pc := 34) h hl hR dX9_heat_34 ⟨(Nat.le_of_ble_eq_true rfl), (Nat.le_of_ble_eq_true rfl), (Nat.le_of_ble_eq_true rfl), (Nat.le_of_ble_eq_true rfl)⟩ (Nat.le_of_ble_eq_true rfl) (by assumption) (by omega) (s_X9_heatOf hX hMF hFM hsep (by omega) (by omega)) (fun v_34 n_34 M_34 hn_34 hp => ?_)
      obtain ⟨⟨rfl, rfl, rfl⟩, gr_34⟩ := hp
      refine iv_X9_62 (pc := 37) h hl hR dX9_heat_37 ⟨(Nat.le_of_ble_eq_true rfl), (Nat.le_of_ble_eq_true rfl), (Nat.le_of_ble_eq_true rfl), (Nat.le_of_ble_eq_true rfl)⟩ (Nat.le_of_ble_eq_true rfl) (by assumption) (by omega) (s_X9_done hX) (fun v_37 n_37 M_37 hn_37 hp => ?_)
      obtain ⟨⟨rfl, rfl⟩, hX, f9⟩ := hp
      have f1 := fr_tr f1 f9
      obtain ⟨hnm, hOm, hBm⟩ := id hX
      refine jr_goto (pc := 40) h 48 dX9_heat_40 (by decide) ?_
      refine jr_iret (pc := 48) h hRt dX9_heat_48 rfl (Nat.le_of_ble_eq_true rfl) (Nat.le_of_ble_eq_true rfl) ?_
      refine lfA9 ?_ hX f1
      unfold x_heat
      (repeat' split) <;> first | rfl | (exfalso; omega) | contradiction
  · first | have d_10 := bz_0.mp c_10 | have d_10 := bz_1.mp c_10 | skip
    refine jr_aload_n (pc := 13) h dX9_heat_13 rfl ?_
    refine jr_iconst (pc := 14) h dX9_heat_14 ?_
    refine iv_X9_522 (pc := 15) h hl hR dX9_heat_15 ⟨(Nat.le_of_ble_eq_true rfl), (Nat.le_of_ble_eq_true rfl), (Nat.le_of_ble_eq_true rfl), (Nat.le_of_ble_eq_true rfl)⟩ (Nat.le_of_ble_eq_true rfl) (by assumption) (by omega) (s_X9_lost hX) (fun v_15 n_15 M_15 hn_15 hp => ?_)
    obtain ⟨⟨rfl, rfl⟩, hX, f9⟩ := hp
    have f1 := fr_tr f1 f9
    obtain ⟨hnm, hOm, hBm⟩ := id hX
    refine jr_iret (pc := 18) h hRt dX9_heat_18 rfl (Nat.le_of_ble_eq_true rfl) (Nat.le_of_ble_eq_true rfl) ?_
    refine lfA9 ?_ hX f1
    unfold x_heat
    (repeat' split) <;> first | rfl | (exfalso; omega) | contradiction
set_option maxHeartbeats 1000000 in
set_option maxRecDepth 20000 in
theorem s_X9_cold {l : Launch} {n : Nat} {M : jdM} {m : Nat} {g : Nat → Int} {w : Int} {fl rd : Value} {B : Nat → Nat → Int} (hX : MX M n m g w fl rd B) {ct td bk si ld : Nat → Int} (hFX : FX M n m fl ct td bk si ld) {x y : Int} (hx : -2147483648 ≤ x ∧ x < 2147483648) (hy : -2147483648 ≤ y ∧ y < 2147483648) : Ct l yX9_cold cX9_cold 4 (some .int) rX9_cold [.ref m, jI x, jI y] n M (fun vv n' M' => (vv = some (jI (x_cold ct td x y).1) ∧ n = n') ∧ MX M' n m (rg g (x_cold ct td x y).2) w fl rd B ∧ fr (MXf m) M M') := by
  refine Ct_of [some (.ref m), some (jI x), some (jI y), none] (by decide) (Nat.le_of_ble_eq_true rfl) rfl (fun κ hl h hR hRt hmn hn0 => ?_)
  have h : Ok κ RX9 cX9_cold 4 (some .int) := h
  obtain ⟨hnm, hOm, hBm⟩ := id hX
  have hOm : M m = jdO 9 (fX9 m _ _ fl rd) := hOm
  refine jr_aload_n (pc := 0) h dX9_cold_0 rfl ?_
  refine jr_iconst (pc := 1) h dX9_cold_1 ?_
  refine pf_X9_52 (pc := 2) h dX9_cold_2 hOm (by omega) ?_
  refine jm_gen (fun M2 hM2 => ?_)
  rw [fX9_0] at hM2
  have hX := MX_o hX hM2
  have f9 : fr (MXf m) _ M2 := fr_up hM2 ⟨by omega, by omega⟩
  obtain ⟨hnm, hOm, hBm⟩ := id hX
  have f1 := f9
  have hFX := FX_fr hFX f9
  refine jr_aload_n (pc := 5) h dX9_cold_5 rfl ?_
  refine jr_iload_n (pc := 6) h dX9_cold_6 rfl ?_
  refine iv_X9_446 (pc := 7) h hl hR dX9_cold_7 ⟨(Nat.le_of_ble_eq_true rfl), (Nat.le_of_ble_eq_true rfl), (Nat.le_of_ble_eq_true rfl), (Nat.le_of_ble_eq_true rfl)⟩ (Nat.le_of_ble_eq_true rfl) (by assumption) (by omega) (s_X9_isKind hX hFX (by omega)) (fun v_7 n_7 M_7 hn_7 hp => ?_)
  obtain ⟨⟨rfl, rfl, rfl⟩, gr_7⟩ := hp
  refine jr_if_ne (pc := 10) h 19 dX9_cold_10 (by decide) (by omega) (fun c_10 => ?_) (fun c_10 => ?_)
  · first | have d_10 := bz_0.mp c_10 | have d_10 := bz_1.mp c_10 | skip
    refine jr_iload_n (pc := 19) h dX9_cold_19 rfl ?_
    refine jr_iconst (pc := 20) h dX9_cold_20 ?_
    refine jr_sipush (pc := 21) h dX9_cold_21 sp_999 ?_
    refine iv_X9_130 (pc := 24) h hl hR dX9_cold_24 ⟨(Nat.le_of_ble_eq_true rfl), (Nat.le_of_ble_eq_true rfl), (Nat.le_of_ble_eq_true rfl), (Nat.le_of_ble_eq_true rfl)⟩ (Nat.le_of_ble_eq_true rfl) (s_X9_in (by omega) (by omega) (by omega)) (fun v_24 n_24 M_24 hn_24 hp => ?_)
    obtain ⟨⟨rfl, rfl, rfl⟩, gr_24⟩ := hp
    refine jr_if_ne (pc := 27) h 36 dX9_cold_27 (by decide) (by omega) (fun c_27 => ?_) (fun c_27 => ?_)
    · first | have d_27 := bz_0.mp c_27 | have d_27 := bz_1.mp c_27 | skip
      refine jr_iload_n (pc := 36) h dX9_cold_36 rfl ?_
      refine jr_istore_n (pc := 37) h [_, _, _, _] dX9_cold_37 (by decide) rfl ?_
      have hr00 := fun (hz : ∀ j, ct j = 0) => rows0 (td := td) hz
      rcases hFX with ⟨rfl, hz⟩ | ⟨f, gf, A, rfl, hsep, hMF, hFM⟩
      · exfalso
        have z2 := hz 2
        have z5 := hz 5
        have zr := hr00 hz
        omega
      obtain ⟨hnf, hOf, hAf⟩ := id hMF
      obtain ⟨⟨e0, e1, e2, e3, e4⟩, ⟨k5, k6, k7, k8, k9, k10, k11, k12, k13, k14, k15⟩, ⟨a2, a3, a4, a5, a6, a7, a8, a9, a10, a11, a12⟩, ⟨hlim, hLI, hends, hrt⟩, ⟨hbk, hld⟩, hc0, hc1, hc2, hc5⟩ := id hFM
      have l2 := hlim 2 (by omega)
      have l3 := hlim 3 (by omega)
      have l4 := hlim 4 (by omega)
      have l5 := hlim 5 (by omega)
      have l6 := hlim 6 (by omega)
      have l7 := hlim 7 (by omega)
      have l8 := hlim 8 (by omega)
      have l9 := hlim 9 (by omega)
      have l10 := hlim 10 (by omega)
      have l11 := hlim 11 (by omega)
      have l12 := hlim 12 (by omega)
      rw [show (jtab 0).2.2 2 = 4 from rfl] at l2
      rw [show (jtab 0).2.2 3 = 6 from rfl] at l3
      rw [show (jtab 0).2.2 4 = 6 from rfl] at l4
      rw [show (jtab 0).2.2 5 = 2 from rfl] at l5
      rw [show (jtab 0).2.2 6 = 8 from rfl] at l6
      rw [show (jtab 0).2.2 7 = 5 from rfl] at l7
      rw [show (jtab 0).2.2 8 = 6 from rfl] at l8
      rw [show (jtab 0).2.2 9 = 3 from rfl] at l9
      rw [show (jtab 0).2.2 10 = 3 from rfl] at l10
      rw [show (jtab 0).2.2 11 = 4 from rfl] at l11
      rw [show (jtab 0).2.2 12 = 4 from rfl] at l12
      have hcr : 1 ≤ c_rows ct td ∧ c_rows ct td ≤ 40 := by
        have h9 := (hLI 0 0 (by omega) (by omega) (by omega)).1 rfl
        have e9 : c_rows ct td = c_get td 0 0 0 := by unfold c_rows; rw [if_neg (by omega)]
        omega
      have loop : ∀ (dq : Nat) (i : Int), (y ≤ i ∧ i ≤ 1000) → (fstZ (fun m => c_deg ct td x m < c_get td 1 0 0) y (1000 - y).toNat = fstZ (fun m => c_deg ct td x m < c_get td 1 0 0) i (1000 - i).toNat) → (1001 - i).toNat < dq → J κ 4 0 0 n 38 [some (.ref m), some (jI x), some (jI y), some (jI i)] [] M2 := by
        intro dq
        induction dq with
        | zero => intro i hi hxx hd; omega
        | succ dq ih =>
          intro i hi hxx hd
          refine jr_iload_n (pc := 38) h dX9_cold_38 rfl ?_
          refine jr_sipush (pc := 39) h dX9_cold_39 sp_999 ?_
          refine jr_icmp_gt (pc := 42) h 73 dX9_cold_42 (by decide) (by omega) (by omega) (fun c_42 => ?_) (fun c_42 => ?_)
          · first | have d_42 := bz_0.mp c_42 | have d_42 := bz_1.mp c_42 | skip
            refine jr_aload_n (pc := 73) h dX9_cold_73 rfl ?_
            refine jr_bipush (pc := 74) h dX9_cold_74 bp_m2 ?_
            refine iv_X9_62 (pc := 76) h hl hR dX9_cold_76 ⟨(Nat.le_of_ble_eq_true rfl), (Nat.le_of_ble_eq_true rfl), (Nat.le_of_ble_eq_true rfl), (Nat.le_of_ble_eq_true rfl)⟩ (Nat.le_of_ble_eq_true rfl) (by assumption) (by omega) (s_X9_done hX) (fun v_76 n_76 M_76 hn_76 hp => ?_)
            obtain ⟨⟨rfl, rfl⟩, hX, f9⟩ := hp
            have f1 := fr_tr f1 f9
            obtain ⟨hnm, hOm, hBm⟩ := id hX
            refine jr_iret (pc := 79) h hRt dX9_cold_79 rfl (Nat.le_of_ble_eq_true rfl) (Nat.le_of_ble_eq_true rfl) ?_
            refine lfA9 ?_ hX f1
            unfold x_cold
            first
            | (rw [if_neg (by omega)])
            | (rw [if_pos (by omega), if_neg (by omega)])
            | (rw [if_pos (by omega), if_pos (by omega), hxx, fstZ_0 (by omega), if_pos rfl])
            | (rw [if_pos (by omega), if_pos (by omega), hxx, fstZ_t (p := (fun m => c_deg ct td x m < c_get td 1 0 0)) (by omega) (by show c_deg ct td x i < c_get td 1 0 0; omega), if_neg (by omega)])
          · first | have d_42 := bz_0.mp c_42 | have d_42 := bz_1.mp c_42 | skip
            refine jr_aload_n (pc := 45) h dX9_cold_45 rfl ?_
            refine jr_iload_n (pc := 46) h dX9_cold_46 rfl ?_
            refine jr_iload_n (pc := 47) h dX9_cold_47 rfl ?_
            refine iv_X9_478 (pc := 48) h hl hR dX9_cold_48 ⟨(Nat.le_of_ble_eq_true rfl), (Nat.le_of_ble_eq_true rfl), (Nat.le_of_ble_eq_true rfl), (Nat.le_of_ble_eq_true rfl)⟩ (Nat.le_of_ble_eq_true rfl) (by assumption) (by omega) (s_X9_heatOf hX hMF hFM hsep (by omega) (by omega)) (fun v_48 n_48 M_48 hn_48 hp => ?_)
            obtain ⟨⟨rfl, rfl, rfl⟩, gr_48⟩ := hp
            have r10 := c_getr hrt 1 0 0
            refine jr_aload_n (pc := 51) h dX9_cold_51 rfl ?_
            refine gf_X9_425 (pc := 52) h dX9_cold_52 (by assumption) (by omega) ?_
            refine gf_X9_208 (pc := 55) h dX9_cold_55 (by assumption) (by omega) ?_
            refine jr_icmp_ge (pc := 58) h 67 dX9_cold_58 (by decide) (by omega) (by omega) (fun c_58 => ?_) (fun c_58 => ?_)
            · first | have d_58 := bz_0.mp c_58 | have d_58 := bz_1.mp c_58 | skip
              refine jr_iinc (pc := 67) h [_, _, _, _] dX9_cold_67 (by decide) rfl rfl ?_
              refine jr_goto (pc := 70) h 38 dX9_cold_70 (by decide) ?_
              refine ih _ (by omega) ?_ (by omega)
              rw [hxx, fstZ_f (p := (fun m => c_deg ct td x m < c_get td 1 0 0)) (by omega) (by show ¬ c_deg ct td x i < c_get td 1 0 0; omega)]
            · first | have d_58 := bz_0.mp c_58 | have d_58 := bz_1.mp c_58 | skip
              refine jr_aload_n (pc := 61) h dX9_cold_61 rfl ?_
              refine jr_iload_n (pc := 62) h dX9_cold_62 rfl ?_
              refine iv_X9_62 (pc := 63) h hl hR dX9_cold_63 ⟨(Nat.le_of_ble_eq_true rfl), (Nat.le_of_ble_eq_true rfl), (Nat.le_of_ble_eq_true rfl), (Nat.le_of_ble_eq_true rfl)⟩ (Nat.le_of_ble_eq_true rfl) (by assumption) (by omega) (s_X9_done hX) (fun v_63 n_63 M_63 hn_63 hp => ?_)
              obtain ⟨⟨rfl, rfl⟩, hX, f9⟩ := hp
              have f1 := fr_tr f1 f9
              obtain ⟨hnm, hOm, hBm⟩ := id hX
              refine jr_iret (pc := 66) h hRt dX9_cold_66 rfl (Nat.le_of_ble_eq_true rfl) (Nat.le_of_ble_eq_true rfl) ?_
              refine lfA9 ?_ hX f1
              unfold x_cold
              first
              | (rw [if_neg (by omega)])
              | (rw [if_pos (by omega), if_neg (by omega)])
              | (rw [if_pos (by omega), if_pos (by omega), hxx, fstZ_0 (by omega), if_pos rfl])
              | (rw [if_pos (by omega), if_pos (by omega), hxx, fstZ_t (p := (fun m => c_deg ct td x m < c_get td 1 0 0)) (by omega) (by show c_deg ct td x i < c_get td 1 0 0; omega), if_neg (by omega)])
      exact loop _ _ (by omega) rfl (Nat.lt_succ_self _)
    · first | have d_27 := bz_0.mp c_27 | have d_27 := bz_1.mp c_27 | skip
      refine jr_aload_n (pc := 30) h dX9_cold_30 rfl ?_
      refine jr_iconst (pc := 31) h dX9_cold_31 ?_
      refine iv_X9_58 (pc := 32) h hl hR dX9_cold_32 ⟨(Nat.le_of_ble_eq_true rfl), (Nat.le_of_ble_eq_true rfl), (Nat.le_of_ble_eq_true rfl), (Nat.le_of_ble_eq_true rfl)⟩ (Nat.le_of_ble_eq_true rfl) (by assumption) (by omega) (s_X9_refused hX) (fun v_32 n_32 M_32 hn_32 hp => ?_)
      obtain ⟨⟨rfl, rfl⟩, hX, f9⟩ := hp
      have f1 := fr_tr f1 f9
      obtain ⟨hnm, hOm, hBm⟩ := id hX
      refine jr_iret (pc := 35) h hRt dX9_cold_35 rfl (Nat.le_of_ble_eq_true rfl) (Nat.le_of_ble_eq_true rfl) ?_
      refine lfA9 ?_ hX f1
      unfold x_cold
      first
      | (rw [if_neg (by omega)])
      | (rw [if_pos (by omega), if_neg (by omega)])
      | (rw [if_pos (by omega), if_pos (by omega), hxx, fstZ_0 (by omega), if_pos rfl])
      | (rw [if_pos (by omega), if_pos (by omega), hxx, fstZ_t (p := (fun m => c_deg ct td x m < c_get td 1 0 0)) (by omega) (by show c_deg ct td x i < c_get td 1 0 0; omega), if_neg (by omega)])
  · first | have d_10 := bz_0.mp c_10 | have d_10 := bz_1.mp c_10 | skip
    refine jr_aload_n (pc := 13) h dX9_cold_13 rfl ?_
    refine jr_iconst (pc := 14) h dX9_cold_14 ?_
    refine iv_X9_58 (pc := 15) h hl hR dX9_cold_15 ⟨(Nat.le_of_ble_eq_true rfl), (Nat.le_of_ble_eq_true rfl), (Nat.le_of_ble_eq_true rfl), (Nat.le_of_ble_eq_true rfl)⟩ (Nat.le_of_ble_eq_true rfl) (by assumption) (by omega) (s_X9_refused hX) (fun v_15 n_15 M_15 hn_15 hp => ?_)
    obtain ⟨⟨rfl, rfl⟩, hX, f9⟩ := hp
    have f1 := fr_tr f1 f9
    obtain ⟨hnm, hOm, hBm⟩ := id hX
    refine jr_iret (pc := 18) h hRt dX9_cold_18 rfl (Nat.le_of_ble_eq_true rfl) (Nat.le_of_ble_eq_true rfl) ?_
    refine lfA9 ?_ hX f1
    unfold x_cold
    first
    | (rw [if_neg (by omega)])
    | (rw [if_pos (by omega), if_neg (by omega)])
    | (rw [if_pos (by omega), if_pos (by omega), hxx, fstZ_0 (by omega), if_pos rfl])
    | (rw [if_pos (by omega), if_pos (by omega), hxx, fstZ_t (p := (fun m => c_deg ct td x m < c_get td 1 0 0)) (by omega) (by show c_deg ct td x i < c_get td 1 0 0; omega), if_neg (by omega)])
set_option maxHeartbeats 1000000 in
set_option maxRecDepth 20000 in
theorem s_X9_firstRow {l : Launch} {n : Nat} {M : jdM} {m f : Nat} {g : Nat → Int} {w : Int} {rd : Value} {B : Nat → Nat → Int} (hX : MX M n m g w (.ref f) rd B) {ct td bk si ld gf : Nat → Int} {A : Nat → Nat → Int} (hMF : MF M n f gf A) (hFM : FM ct td bk si ld gf A) (hsep : f + 30 < m ∨ m + 12 < f) {x y : Int} (hx : 0 ≤ x ∧ x < ct 5) (hy : -1000 ≤ y ∧ y ≤ 1000) : Ct l yX9_firstRow cX9_firstRow 3 (some .int) rX9_firstRow [.ref m, jI x, jI y] n M (fun vv n' M' => vv = some (jI (if ct 5 < 2 ∨ c_get td 5 x 0 = 0 then 1 else y + 1)) ∧ n = n' ∧ M = M') := by
  refine Ct_of [some (.ref m), some (jI x), some (jI y)] (by decide) (Nat.le_of_ble_eq_true rfl) rfl (fun κ hl h hR hRt hmn hn0 => ?_)
  have h : Ok κ RX9 cX9_firstRow 3 (some .int) := h
  obtain ⟨hnm, hOm, hBm⟩ := id hX
  have hOm : M m = jdO 9 (fX9 m _ _ (.ref f) rd) := hOm
  obtain ⟨hnf, hOf, hAf⟩ := id hMF
  obtain ⟨⟨e0, e1, e2, e3, e4⟩, ⟨k5, k6, k7, k8, k9, k10, k11, k12, k13, k14, k15⟩, ⟨a2, a3, a4, a5, a6, a7, a8, a9, a10, a11, a12⟩, ⟨hlim, hLI, hends, hrt⟩, ⟨hbk, hld⟩, hc0, hc1, hc2, hc5⟩ := id hFM
  have l2 := hlim 2 (by omega)
  have l3 := hlim 3 (by omega)
  have l4 := hlim 4 (by omega)
  have l5 := hlim 5 (by omega)
  have l6 := hlim 6 (by omega)
  have l7 := hlim 7 (by omega)
  have l8 := hlim 8 (by omega)
  have l9 := hlim 9 (by omega)
  have l10 := hlim 10 (by omega)
  have l11 := hlim 11 (by omega)
  have l12 := hlim 12 (by omega)
  rw [show (jtab 0).2.2 2 = 4 from rfl] at l2
  rw [show (jtab 0).2.2 3 = 6 from rfl] at l3
  rw [show (jtab 0).2.2 4 = 6 from rfl] at l4
  rw [show (jtab 0).2.2 5 = 2 from rfl] at l5
  rw [show (jtab 0).2.2 6 = 8 from rfl] at l6
  rw [show (jtab 0).2.2 7 = 5 from rfl] at l7
  rw [show (jtab 0).2.2 8 = 6 from rfl] at l8
  rw [show (jtab 0).2.2 9 = 3 from rfl] at l9
  rw [show (jtab 0).2.2 10 = 3 from rfl] at l10
  rw [show (jtab 0).2.2 11 = 4 from rfl] at l11
  rw [show (jtab 0).2.2 12 = 4 from rfl] at l12
  have g5 := (a5 x.toNat (by omega)).1
  rw [show ((x.toNat : Nat) : Int) = x by omega] at g5
  have r50 := c_getr hrt 5 x 0
  have h51 := ((hLI 5 x (by omega) (by omega) (by omega)).2.2.2.2.2.1 rfl).1
  have hA8 : M (f + 8) = jdA 2 (A 8) := hAf 8 (by omega) (by omega)
  refine jr_aload_n (pc := 0) h dX9_firstRow_0 rfl ?_
  refine gf_X9_425 (pc := 1) h dX9_firstRow_1 (by assumption) (by omega) ?_
  refine gf_X9_214 (pc := 4) h dX9_firstRow_4 (by assumption) (by omega) ?_
  refine jr_iconst (pc := 7) h dX9_firstRow_7 ?_
  refine jr_icmp_eq (pc := 8) h 23 dX9_firstRow_8 (by decide) (by omega) (by omega) (fun c_8 => ?_) (fun c_8 => ?_)
  · skip
    refine jr_iconst (pc := 23) h dX9_firstRow_23 ?_
    refine jr_goto (pc := 24) h 30 dX9_firstRow_24 (by decide) ?_
    refine jr_iret (pc := 30) h hRt dX9_firstRow_30 rfl (Nat.le_of_ble_eq_true rfl) (Nat.le_of_ble_eq_true rfl) ?_
    refine ⟨ji_c ?_, rfl, rfl⟩
    first
    | rw [if_pos (by omega)]
    | rw [if_neg (by omega)]
  · skip
    refine jr_aload_n (pc := 11) h dX9_firstRow_11 rfl ?_
    refine gf_X9_425 (pc := 12) h dX9_firstRow_12 (by assumption) (by omega) ?_
    refine gf_X9_326 (pc := 15) h dX9_firstRow_15 (by assumption) (by omega) ?_
    refine jr_iload_n (pc := 18) h dX9_firstRow_18 rfl ?_
    refine jr_iald (pc := 19) h dX9_firstRow_19 (by assumption) (by omega) (by omega) ?_
    refine jr_if_ne (pc := 20) h 27 dX9_firstRow_20 (by decide) (by omega) (fun c_20 => ?_) (fun c_20 => ?_)
    · skip
      refine jr_iload_n (pc := 27) h dX9_firstRow_27 rfl ?_
      refine jr_iconst (pc := 28) h dX9_firstRow_28 ?_
      refine jr_iadd (pc := 29) h dX9_firstRow_29 ?_
      refine jr_iret (pc := 30) h hRt dX9_firstRow_30 rfl (Nat.le_of_ble_eq_true rfl) (Nat.le_of_ble_eq_true rfl) ?_
      refine ⟨ji_c ?_, rfl, rfl⟩
      first
      | rw [if_pos (by omega)]
      | rw [if_neg (by omega)]
    · skip
      refine jr_iconst (pc := 23) h dX9_firstRow_23 ?_
      refine jr_goto (pc := 24) h 30 dX9_firstRow_24 (by decide) ?_
      refine jr_iret (pc := 30) h hRt dX9_firstRow_30 rfl (Nat.le_of_ble_eq_true rfl) (Nat.le_of_ble_eq_true rfl) ?_
      refine ⟨ji_c ?_, rfl, rfl⟩
      first
      | rw [if_pos (by omega)]
      | rw [if_neg (by omega)]
set_option maxHeartbeats 1000000 in
set_option maxRecDepth 20000 in
theorem s_X9_lastRow {l : Launch} {n : Nat} {M : jdM} {m f : Nat} {g : Nat → Int} {w : Int} {rd : Value} {B : Nat → Nat → Int} (hX : MX M n m g w (.ref f) rd B) {ct td bk si ld gf : Nat → Int} {A : Nat → Nat → Int} (hMF : MF M n f gf A) (hFM : FM ct td bk si ld gf A) (hsep : f + 30 < m ∨ m + 12 < f) {x y : Int} (hx : 0 ≤ x ∧ x < ct 5) (hy : -1000 ≤ y ∧ y ≤ 1000) : Ct l yX9_lastRow cX9_lastRow 3 (some .int) rX9_lastRow [.ref m, jI x, jI y] n M (fun vv n' M' => vv = some (jI (if ct 5 < 2 ∨ c_get td 5 x 0 ≠ 0 then c_rows ct td else y)) ∧ n = n' ∧ M = M') := by
  refine Ct_of [some (.ref m), some (jI x), some (jI y)] (by decide) (Nat.le_of_ble_eq_true rfl) rfl (fun κ hl h hR hRt hmn hn0 => ?_)
  have h : Ok κ RX9 cX9_lastRow 3 (some .int) := h
  obtain ⟨hnm, hOm, hBm⟩ := id hX
  have hOm : M m = jdO 9 (fX9 m _ _ (.ref f) rd) := hOm
  obtain ⟨hnf, hOf, hAf⟩ := id hMF
  obtain ⟨⟨e0, e1, e2, e3, e4⟩, ⟨k5, k6, k7, k8, k9, k10, k11, k12, k13, k14, k15⟩, ⟨a2, a3, a4, a5, a6, a7, a8, a9, a10, a11, a12⟩, ⟨hlim, hLI, hends, hrt⟩, ⟨hbk, hld⟩, hc0, hc1, hc2, hc5⟩ := id hFM
  have l2 := hlim 2 (by omega)
  have l3 := hlim 3 (by omega)
  have l4 := hlim 4 (by omega)
  have l5 := hlim 5 (by omega)
  have l6 := hlim 6 (by omega)
  have l7 := hlim 7 (by omega)
  have l8 := hlim 8 (by omega)
  have l9 := hlim 9 (by omega)
  have l10 := hlim 10 (by omega)
  have l11 := hlim 11 (by omega)
  have l12 := hlim 12 (by omega)
  rw [show (jtab 0).2.2 2 = 4 from rfl] at l2
  rw [show (jtab 0).2.2 3 = 6 from rfl] at l3
  rw [show (jtab 0).2.2 4 = 6 from rfl] at l4
  rw [show (jtab 0).2.2 5 = 2 from rfl] at l5
  rw [show (jtab 0).2.2 6 = 8 from rfl] at l6
  rw [show (jtab 0).2.2 7 = 5 from rfl] at l7
  rw [show (jtab 0).2.2 8 = 6 from rfl] at l8
  rw [show (jtab 0).2.2 9 = 3 from rfl] at l9
  rw [show (jtab 0).2.2 10 = 3 from rfl] at l10
  rw [show (jtab 0).2.2 11 = 4 from rfl] at l11
  rw [show (jtab 0).2.2 12 = 4 from rfl] at l12
  have g5 := (a5 x.toNat (by omega)).1
  rw [show ((x.toNat : Nat) : Int) = x by omega] at g5
  have r50 := c_getr hrt 5 x 0
  have h51 := ((hLI 5 x (by omega) (by omega) (by omega)).2.2.2.2.2.1 rfl).1
  have hA8 : M (f + 8) = jdA 2 (A 8) := hAf 8 (by omega) (by omega)
  refine jr_aload_n (pc := 0) h dX9_lastRow_0 rfl ?_
  refine gf_X9_425 (pc := 1) h dX9_lastRow_1 (by assumption) (by omega) ?_
  refine gf_X9_214 (pc := 4) h dX9_lastRow_4 (by assumption) (by omega) ?_
  refine jr_iconst (pc := 7) h dX9_lastRow_7 ?_
  refine jr_icmp_eq (pc := 8) h 24 dX9_lastRow_8 (by decide) (by omega) (by omega) (fun c_8 => ?_) (fun c_8 => ?_)
  · skip
    refine jr_aload_n (pc := 24) h dX9_lastRow_24 rfl ?_
    refine gf_X9_425 (pc := 25) h dX9_lastRow_25 (by assumption) (by omega) ?_
    refine gf_X9_205 (pc := 28) h dX9_lastRow_28 (by assumption) (by omega) ?_
    refine jr_goto (pc := 31) h 35 dX9_lastRow_31 (by decide) ?_
    refine jr_iret (pc := 35) h hRt dX9_lastRow_35 rfl (Nat.le_of_ble_eq_true rfl) (Nat.le_of_ble_eq_true rfl) ?_
    refine ⟨ji_c ?_, rfl, rfl⟩
    first
    | (rw [if_pos (by omega), e0])
    | rw [if_pos (by omega)]
    | rw [if_neg (by omega)]
  · skip
    refine jr_aload_n (pc := 11) h dX9_lastRow_11 rfl ?_
    refine gf_X9_425 (pc := 12) h dX9_lastRow_12 (by assumption) (by omega) ?_
    refine gf_X9_326 (pc := 15) h dX9_lastRow_15 (by assumption) (by omega) ?_
    refine jr_iload_n (pc := 18) h dX9_lastRow_18 rfl ?_
    refine jr_iald (pc := 19) h dX9_lastRow_19 (by assumption) (by omega) (by omega) ?_
    refine jr_iconst (pc := 20) h dX9_lastRow_20 ?_
    refine jr_icmp_ne (pc := 21) h 34 dX9_lastRow_21 (by decide) (by omega) (by omega) (fun c_21 => ?_) (fun c_21 => ?_)
    · skip
      refine jr_iload_n (pc := 34) h dX9_lastRow_34 rfl ?_
      refine jr_iret (pc := 35) h hRt dX9_lastRow_35 rfl (Nat.le_of_ble_eq_true rfl) (Nat.le_of_ble_eq_true rfl) ?_
      refine ⟨ji_c ?_, rfl, rfl⟩
      first
      | (rw [if_pos (by omega), e0])
      | rw [if_pos (by omega)]
      | rw [if_neg (by omega)]
    · skip
      refine jr_aload_n (pc := 24) h dX9_lastRow_24 rfl ?_
      refine gf_X9_425 (pc := 25) h dX9_lastRow_25 (by assumption) (by omega) ?_
      refine gf_X9_205 (pc := 28) h dX9_lastRow_28 (by assumption) (by omega) ?_
      refine jr_goto (pc := 31) h 35 dX9_lastRow_31 (by decide) ?_
      refine jr_iret (pc := 35) h hRt dX9_lastRow_35 rfl (Nat.le_of_ble_eq_true rfl) (Nat.le_of_ble_eq_true rfl) ?_
      refine ⟨ji_c ?_, rfl, rfl⟩
      first
      | (rw [if_pos (by omega), e0])
      | rw [if_pos (by omega)]
      | rw [if_neg (by omega)]
set_option maxHeartbeats 2000000 in
set_option maxRecDepth 20000 in
theorem s_X9_sitsBetween {l : Launch} {n : Nat} {M : jdM} {m f : Nat} {g : Nat → Int} {w : Int} {rd : Value} {B : Nat → Nat → Int} (hX : MX M n m g w (.ref f) rd B) {ct td bk si ld gf : Nat → Int} {A : Nat → Nat → Int} (hMF : MF M n f gf A) (hFM : FM ct td bk si ld gf A) (hsep : f + 30 < m ∨ m + 12 < f) {x y : Int} (hx : 1 ≤ x ∧ x ≤ 100) (hy : -100 ≤ y ∧ y ≤ 40) : Ct l yX9_sitsBetween cX9_sitsBetween 5 (some .int) rX9_sitsBetween [.ref m, jI x, jI y] n M (fun vv n' M' => vv = some (jI (c_sw si x y)) ∧ n = n' ∧ M = M') := by
  refine Ct_of [some (.ref m), some (jI x), some (jI y), none, none] (by decide) (Nat.le_of_ble_eq_true rfl) rfl (fun κ hl h hR hRt hmn hn0 => ?_)
  have h : Ok κ RX9 cX9_sitsBetween 5 (some .int) := h
  obtain ⟨hnm, hOm, hBm⟩ := id hX
  have hOm : M m = jdO 9 (fX9 m _ _ (.ref f) rd) := hOm
  obtain ⟨hnf, hOf, hAf⟩ := id hMF
  obtain ⟨⟨e0, e1, e2, e3, e4⟩, ⟨k5, k6, k7, k8, k9, k10, k11, k12, k13, k14, k15⟩, ⟨a2, a3, a4, a5, a6, a7, a8, a9, a10, a11, a12⟩, ⟨hlim, hLI, hends, hrt⟩, ⟨hbk, hld⟩, hc0, hc1, hc2, hc5⟩ := id hFM
  have l2 := hlim 2 (by omega)
  have l3 := hlim 3 (by omega)
  have l4 := hlim 4 (by omega)
  have l5 := hlim 5 (by omega)
  have l6 := hlim 6 (by omega)
  have l7 := hlim 7 (by omega)
  have l8 := hlim 8 (by omega)
  have l9 := hlim 9 (by omega)
  have l10 := hlim 10 (by omega)
  have l11 := hlim 11 (by omega)
  have l12 := hlim 12 (by omega)
  rw [show (jtab 0).2.2 2 = 4 from rfl] at l2
  rw [show (jtab 0).2.2 3 = 6 from rfl] at l3
  rw [show (jtab 0).2.2 4 = 6 from rfl] at l4
  rw [show (jtab 0).2.2 5 = 2 from rfl] at l5
  rw [show (jtab 0).2.2 6 = 8 from rfl] at l6
  rw [show (jtab 0).2.2 7 = 5 from rfl] at l7
  rw [show (jtab 0).2.2 8 = 6 from rfl] at l8
  rw [show (jtab 0).2.2 9 = 3 from rfl] at l9
  rw [show (jtab 0).2.2 10 = 3 from rfl] at l10
  rw [show (jtab 0).2.2 11 = 4 from rfl] at l11
  rw [show (jtab 0).2.2 12 = 4 from rfl] at l12
  have loop : ∀ (dq : Nat) (v i : Int), (x ≤ i ∧ (i = x ∨ i ≤ y + 1)) → (v = sumZ (fun i => c_sit si (x + i)) (i - x).toNat) → (200 - i).toNat < dq → J κ 5 0 0 n 5 [some (.ref m), some (jI x), some (jI y), some (jI v), some (jI i)] [] M := by
    intro dq
    induction dq with
    | zero => intro v i hi hv hd; omega
    | succ dq ih =>
      intro v i hi hv hd
      refine jr_iload (pc := 5) h dX9_sitsBetween_5 rfl ?_
      refine jr_iload_n (pc := 7) h dX9_sitsBetween_7 rfl ?_
      refine jr_icmp_gt (pc := 8) h 29 dX9_sitsBetween_8 (by decide) (by omega) (by omega) (fun c_8 => ?_) (fun c_8 => ?_)
      · skip
        refine jr_iload_n (pc := 29) h dX9_sitsBetween_29 rfl ?_
        refine jr_iret (pc := 30) h hRt dX9_sitsBetween_30 rfl (Nat.le_of_ble_eq_true rfl) (Nat.le_of_ble_eq_true rfl) ?_
        refine ⟨ji_c ?_, rfl, rfl⟩
        rw [hv]
        unfold c_sw
        congr 1
        omega
      · skip
        refine jr_iload_n (pc := 11) h dX9_sitsBetween_11 rfl ?_
        refine jr_aload_n (pc := 12) h dX9_sitsBetween_12 rfl ?_
        refine gf_X9_425 (pc := 13) h dX9_sitsBetween_13 (by assumption) (by omega) ?_
        refine jr_iload (pc := 16) h dX9_sitsBetween_16 rfl ?_
        refine iv_X9_437 (pc := 18) h hl hR dX9_sitsBetween_18 ⟨(Nat.le_of_ble_eq_true rfl), (Nat.le_of_ble_eq_true rfl), (Nat.le_of_ble_eq_true rfl), (Nat.le_of_ble_eq_true rfl)⟩ (Nat.le_of_ble_eq_true rfl) (by assumption) (by omega) (s_X8_sitsIn hMF hFM (by omega)) (fun v_18 n_18 M_18 hn_18 hp => ?_)
        obtain ⟨⟨rfl, rfl, rfl⟩, gr_18⟩ := hp
        refine jr_iadd (pc := 21) h dX9_sitsBetween_21 ?_
        refine jr_istore_n (pc := 22) h [_, _, _, _, _] dX9_sitsBetween_22 (by decide) rfl ?_
        refine jr_iinc (pc := 23) h [_, _, _, _, _] dX9_sitsBetween_23 (by decide) rfl rfl ?_
        refine jr_goto (pc := 26) h 5 dX9_sitsBetween_26 (by decide) ?_
        refine ih _ _ (by omega) ?_ (by omega)
        rw [show i + 1 - x = i - x + 1 by omega, sumZ_s (by omega), ← hv, show x + (i - x) = i by omega]
  refine jr_iconst (pc := 0) h dX9_sitsBetween_0 ?_
  refine jr_istore_n (pc := 1) h [_, _, _, _, _] dX9_sitsBetween_1 (by decide) rfl ?_
  refine jr_iload_n (pc := 2) h dX9_sitsBetween_2 rfl ?_
  refine jr_istore (pc := 3) h [_, _, _, _, _] dX9_sitsBetween_3 (by decide) rfl ?_
  exact loop _ _ _ (by omega) (by rw [show (x - x).toNat = 0 by omega]; rfl) (Nat.lt_succ_self _)
def mtV (ct td si : Nat → Int) (x t : Int) : Int := c_sf td si (if ct 5 < 2 ∨ c_get td 5 t 0 = 0 then 1 else x + 1) (if ct 5 < 2 ∨ c_get td 5 t 0 ≠ 0 then c_rows ct td else x)
theorem mt_sec {ct td bk si ld : Nat → Int} (hS : SET ct td bk si ld) (hF : FI ct td) (h5 : 1 ≤ ct 5) (hw : c_get td 0 0 1 ≤ 60 ∧ c_get td 0 0 2 ≤ 60) (hr : c_rows ct td ≤ 40) {x : Int} (hx : 0 ≤ x ∧ x ≤ 40) : foldZ (fun a t => if a < mtV ct td si x t then mtV ct td si x t else a) 0 (ct 5).toNat = c_sec ct td si x := by
  have l5 := (hF.1 5 (by omega)).2
  rw [show (jtab 0).2.2 5 = 2 from rfl] at l5
  have l8 := hF.1 8 (by omega)
  rw [show (jtab 0).2.2 8 = 6 from rfl] at l8
  have b1 := sf_b hS hF.2.2.2 ⟨l8.1, l8.2⟩ hw 1 (c_rows ct td) (by omega) (by omega)
  have b2 := sf_b hS hF.2.2.2 ⟨l8.1, l8.2⟩ hw 1 x (by omega) (by omega)
  have b3 := sf_b hS hF.2.2.2 ⟨l8.1, l8.2⟩ hw (x + 1) (c_rows ct td) (by omega) (by omega)
  unfold c_sec
  by_cases q : ct 5 < 2
  · rw [if_pos q, show (ct 5).toNat = 1 by omega]
    have e : mtV ct td si x 0 = c_sf td si 1 (c_rows ct td) := by
      unfold mtV
      rw [if_pos (Or.inl q), if_pos (Or.inl q)]
    show (if 0 < mtV ct td si x 0 then mtV ct td si x 0 else 0) = _
    rw [e]
    split <;> omega
  · rw [if_neg q, show (ct 5).toNat = 2 by omega]
    have hd := hF.2.2.1 0 1 (by omega) (by omega) (by omega)
    have h50 := ((hF.2.1 5 0 (by omega) (by omega) (by omega)).2.2.2.2.2.1 rfl).1
    have h51 := ((hF.2.1 5 1 (by omega) (by omega) (by omega)).2.2.2.2.2.1 rfl).1
    have g50 := (c_getr hF.2.2.2 5 0 0).1
    have g51 := (c_getr hF.2.2.2 5 1 0).1
    have e : ∀ t, c_get td 5 t 0 = 0 → mtV ct td si x t = c_sf td si 1 x := fun t ht => by
      unfold mtV
      rw [if_pos (Or.inr ht), if_neg (by omega)]
    have e' : ∀ t, c_get td 5 t 0 ≠ 0 → mtV ct td si x t = c_sf td si (x + 1) (c_rows ct td) := fun t ht => by
      unfold mtV
      rw [if_neg (by omega), if_pos (Or.inr ht)]
    show (if (if 0 < mtV ct td si x 0 then mtV ct td si x 0 else 0) < mtV ct td si x 1 then mtV ct td si x 1 else (if 0 < mtV ct td si x 0 then mtV ct td si x 0 else 0)) = _
    by_cases q0 : c_get td 5 0 0 = 0
    · rw [e 0 q0, e' 1 (by omega)]
      split <;> split <;> omega
    · rw [e' 0 q0, e 1 (by omega)]
      split <;> split <;> omega
theorem mtV_b {ct td bk si ld : Nat → Int} (hS : SET ct td bk si ld) (hF : FI ct td) (hw : c_get td 0 0 1 ≤ 60 ∧ c_get td 0 0 2 ≤ 60) (hr : c_rows ct td ≤ 40) {x t : Int} (hx : 0 ≤ x ∧ x ≤ 40) : 0 ≤ mtV ct td si x t ∧ mtV ct td si x t ≤ 10000000 := by
  have l8 := hF.1 8 (by omega)
  rw [show (jtab 0).2.2 8 = 6 from rfl] at l8
  unfold mtV
  exact sf_b hS hF.2.2.2 ⟨l8.1, l8.2⟩ hw _ _ (by split <;> omega) (by split <;> omega)
set_option maxHeartbeats 1000000 in
set_option maxRecDepth 20000 in
theorem s_X9_meetsAt {l : Launch} {n : Nat} {M : jdM} {m f : Nat} {g : Nat → Int} {w : Int} {rd : Value} {B : Nat → Nat → Int} (hX : MX M n m g w (.ref f) rd B) {ct td bk si ld gf : Nat → Int} {A : Nat → Nat → Int} (hMF : MF M n f gf A) (hFM : FM ct td bk si ld gf A) (hsep : f + 30 < m ∨ m + 12 < f) {x : Int} (hx : 0 ≤ x ∧ x ≤ c_rows ct td) : Ct l yX9_meetsAt cX9_meetsAt 7 (some .int) rX9_meetsAt [.ref m, jI x] n M (fun vv n' M' => (vv = some (jI (c_sec ct td si x)) ∧ n = n' ∧ M = M') ∧ (0) ≤ (c_sec ct td si x) ∧ (c_sec ct td si x) ≤ 10000000) := by
  refine Ct_of [some (.ref m), some (jI x), none, none, none, none, none] (by decide) (Nat.le_of_ble_eq_true rfl) rfl (fun κ hl h hR hRt hmn hn0 => ?_)
  have h : Ok κ RX9 cX9_meetsAt 7 (some .int) := h
  obtain ⟨hnm, hOm, hBm⟩ := id hX
  have hOm : M m = jdO 9 (fX9 m _ _ (.ref f) rd) := hOm
  obtain ⟨hnf, hOf, hAf⟩ := id hMF
  obtain ⟨⟨e0, e1, e2, e3, e4⟩, ⟨k5, k6, k7, k8, k9, k10, k11, k12, k13, k14, k15⟩, ⟨a2, a3, a4, a5, a6, a7, a8, a9, a10, a11, a12⟩, ⟨hlim, hLI, hends, hrt⟩, ⟨hbk, hld⟩, hc0, hc1, hc2, hc5⟩ := id hFM
  have l2 := hlim 2 (by omega)
  have l3 := hlim 3 (by omega)
  have l4 := hlim 4 (by omega)
  have l5 := hlim 5 (by omega)
  have l6 := hlim 6 (by omega)
  have l7 := hlim 7 (by omega)
  have l8 := hlim 8 (by omega)
  have l9 := hlim 9 (by omega)
  have l10 := hlim 10 (by omega)
  have l11 := hlim 11 (by omega)
  have l12 := hlim 12 (by omega)
  rw [show (jtab 0).2.2 2 = 4 from rfl] at l2
  rw [show (jtab 0).2.2 3 = 6 from rfl] at l3
  rw [show (jtab 0).2.2 4 = 6 from rfl] at l4
  rw [show (jtab 0).2.2 5 = 2 from rfl] at l5
  rw [show (jtab 0).2.2 6 = 8 from rfl] at l6
  rw [show (jtab 0).2.2 7 = 5 from rfl] at l7
  rw [show (jtab 0).2.2 8 = 6 from rfl] at l8
  rw [show (jtab 0).2.2 9 = 3 from rfl] at l9
  rw [show (jtab 0).2.2 10 = 3 from rfl] at l10
  rw [show (jtab 0).2.2 11 = 4 from rfl] at l11
  rw [show (jtab 0).2.2 12 = 4 from rfl] at l12
  have hcr : 1 ≤ c_rows ct td ∧ c_rows ct td ≤ 40 := by
    have h9 := (hLI 0 0 (by omega) (by omega) (by omega)).1 rfl
    have e9 : c_rows ct td = c_get td 0 0 0 := by unfold c_rows; rw [if_neg (by omega)]
    omega
  have hw60 : c_get td 0 0 1 ≤ 60 ∧ c_get td 0 0 2 ≤ 60 := by
    have h9 := (hLI 0 0 (by omega) (by omega) (by omega)).1 rfl
    omega
  have hFI : FI ct td := ⟨hlim, hLI, hends, hrt⟩
  have hSET : SET ct td bk si ld := ⟨hbk, hld⟩
  have loop : ∀ (dq : Nat) (v i : Int) (u4 : Option Value) (u5 : Option Value) (u6 : Option Value), (0 ≤ i ∧ i ≤ ct 5) → (0 ≤ v ∧ v ≤ 10000000) → (v = foldZ (fun a t => if a < mtV ct td si x t then mtV ct td si x t else a) 0 i.toNat) → (10 - i).toNat < dq → J κ 7 0 0 n 4 [some (.ref m), some (jI x), some (jI v), some (jI i), u4, u5, u6] [] M := by
    intro dq
    induction dq with
    | zero => intro v i u4 u5 u6 hi hvb hv hd; omega
    | succ dq ih =>
      intro v i u4 u5 u6 hi hvb hv hd
      refine jr_iload_n (pc := 4) h dX9_meetsAt_4 rfl ?_
      refine jr_aload_n (pc := 5) h dX9_meetsAt_5 rfl ?_
      refine gf_X9_425 (pc := 6) h dX9_meetsAt_6 (by assumption) (by omega) ?_
      refine gf_X9_214 (pc := 9) h dX9_meetsAt_9 (by assumption) (by omega) ?_
      refine jr_icmp_ge (pc := 12) h 93 dX9_meetsAt_12 (by decide) (by omega) (by omega) (fun c_12 => ?_) (fun c_12 => ?_)
      · skip
        refine jr_iload_n (pc := 93) h dX9_meetsAt_93 rfl ?_
        refine jr_iret (pc := 94) h hRt dX9_meetsAt_94 rfl (Nat.le_of_ble_eq_true rfl) (Nat.le_of_ble_eq_true rfl) ?_
        have es : c_sec ct td si x = v := by
          rw [← mt_sec hSET hFI (by omega) hw60 hcr.2 (by omega), show (ct 5).toNat = i.toNat by omega, ← hv]
        rw [es]
        exact ⟨⟨rfl, rfl, rfl⟩, by omega⟩
      · skip
        refine jr_aload_n (pc := 15) h dX9_meetsAt_15 rfl ?_
        refine jr_iload_n (pc := 16) h dX9_meetsAt_16 rfl ?_
        refine jr_iload_n (pc := 17) h dX9_meetsAt_17 rfl ?_
        refine iv_X9_525 (pc := 18) h hl hR dX9_meetsAt_18 ⟨(Nat.le_of_ble_eq_true rfl), (Nat.le_of_ble_eq_true rfl), (Nat.le_of_ble_eq_true rfl), (Nat.le_of_ble_eq_true rfl)⟩ (Nat.le_of_ble_eq_true rfl) (by assumption) (by omega) (s_X9_firstRow hX hMF hFM hsep (by omega) (by omega)) (fun v_18 n_18 M_18 hn_18 hp => ?_)
        obtain ⟨rfl, rfl, rfl⟩ := hp
        have hfr : 1 ≤ (if ct 5 < 2 ∨ c_get td 5 i 0 = 0 then 1 else x + 1) ∧ (if ct 5 < 2 ∨ c_get td 5 i 0 = 0 then 1 else x + 1) ≤ 41 := by split <;> omega
        obtain ⟨F9, eF9⟩ : ∃ z, (if ct 5 < 2 ∨ c_get td 5 i 0 = 0 then 1 else x + 1) = z := ⟨_, rfl⟩
        rw [eF9] at hfr ⊢
        refine jr_istore (pc := 21) h [_, _, _, _, _, _, _] dX9_meetsAt_21 (by decide) rfl ?_
        refine jr_aload_n (pc := 23) h dX9_meetsAt_23 rfl ?_
        refine jr_iload_n (pc := 24) h dX9_meetsAt_24 rfl ?_
        refine jr_iload_n (pc := 25) h dX9_meetsAt_25 rfl ?_
        refine iv_X9_528 (pc := 26) h hl hR dX9_meetsAt_26 ⟨(Nat.le_of_ble_eq_true rfl), (Nat.le_of_ble_eq_true rfl), (Nat.le_of_ble_eq_true rfl), (Nat.le_of_ble_eq_true rfl)⟩ (Nat.le_of_ble_eq_true rfl) (by assumption) (by omega) (s_X9_lastRow hX hMF hFM hsep (by omega) (by omega)) (fun v_26 n_26 M_26 hn_26 hp => ?_)
        obtain ⟨rfl, rfl, rfl⟩ := hp
        have hls : 0 ≤ (if ct 5 < 2 ∨ c_get td 5 i 0 ≠ 0 then c_rows ct td else x) ∧ (if ct 5 < 2 ∨ c_get td 5 i 0 ≠ 0 then c_rows ct td else x) ≤ 40 := by split <;> omega
        obtain ⟨L9, eL9⟩ : ∃ z, (if ct 5 < 2 ∨ c_get td 5 i 0 ≠ 0 then c_rows ct td else x) = z := ⟨_, rfl⟩
        rw [eL9] at hls ⊢
        refine jr_istore (pc := 29) h [_, _, _, _, _, _, _] dX9_meetsAt_29 (by decide) rfl ?_
        refine jr_aload_n (pc := 31) h dX9_meetsAt_31 rfl ?_
        refine gf_X9_425 (pc := 32) h dX9_meetsAt_32 (by assumption) (by omega) ?_
        refine gf_X9_267 (pc := 35) h dX9_meetsAt_35 (by assumption) (by omega) ?_
        refine jr_aload_n (pc := 38) h dX9_meetsAt_38 rfl ?_
        refine jr_iload (pc := 39) h dX9_meetsAt_39 rfl ?_
        refine jr_iload (pc := 41) h dX9_meetsAt_41 rfl ?_
        refine iv_X9_531 (pc := 43) h hl hR dX9_meetsAt_43 ⟨(Nat.le_of_ble_eq_true rfl), (Nat.le_of_ble_eq_true rfl), (Nat.le_of_ble_eq_true rfl), (Nat.le_of_ble_eq_true rfl)⟩ (Nat.le_of_ble_eq_true rfl) (by assumption) (by omega) (s_X9_sitsBetween hX hMF hFM hsep (by omega) (by omega)) (fun v_43 n_43 M_43 hn_43 hp => ?_)
        obtain ⟨rfl, rfl, rfl⟩ := hp
        refine jr_imul (pc := 46) h dX9_meetsAt_46 ?_
        refine jr_iload (pc := 47) h dX9_meetsAt_47 rfl ?_
        refine jr_iload (pc := 49) h dX9_meetsAt_49 rfl ?_
        refine jr_icmp_le (pc := 51) h 70 dX9_meetsAt_51 (by decide) (by omega) (by omega) (fun c_51 => ?_) (fun c_51 => ?_)
        · skip
          refine jr_iconst (pc := 70) h dX9_meetsAt_70 ?_
          have hev : gf 2 * c_sw si F9 L9 + 0 = mtV ct td si x i := by
            unfold mtV c_sf
            rw [eF9, eL9, e2]
            have q9 : max 0 (L9 - F9) = 0 := by omega
            rw [q9]
            rw [Int.mul_zero]
          have hVb := mtV_b (x := x) (t := i) hSET hFI hw60 hcr.2 (by omega)
          refine jr_iadd (pc := 71) h dX9_meetsAt_71 ?_
          rw [hev]
          refine jr_istore (pc := 72) h [_, _, _, _, _, _, _] dX9_meetsAt_72 (by decide) rfl ?_
          refine jr_iload (pc := 74) h dX9_meetsAt_74 rfl ?_
          refine jr_iload_n (pc := 76) h dX9_meetsAt_76 rfl ?_
          refine jr_icmp_le (pc := 77) h 85 dX9_meetsAt_77 (by decide) (by omega) (by omega) (fun c_77 => ?_) (fun c_77 => ?_)
          · skip
            refine jr_iload_n (pc := 85) h dX9_meetsAt_85 rfl ?_
            refine jr_istore_n (pc := 86) h [_, _, _, _, _, _, _] dX9_meetsAt_86 (by decide) rfl ?_
            refine jr_iinc (pc := 87) h [_, _, _, _, _, _, _] dX9_meetsAt_87 (by decide) rfl rfl ?_
            refine jr_goto (pc := 90) h 4 dX9_meetsAt_90 (by decide) ?_
            refine ih _ _ _ _ _ (by omega) (by omega) ?_ (by omega)
            rw [foldZ_s (by omega), ← hv]
            first
            | rw [if_pos (show v < mtV ct td si x i by omega)]
            | rw [if_neg (show ¬ v < mtV ct td si x i by omega)]
          · skip
            refine jr_iload (pc := 80) h dX9_meetsAt_80 rfl ?_
            refine jr_goto (pc := 82) h 86 dX9_meetsAt_82 (by decide) ?_
            refine jr_istore_n (pc := 86) h [_, _, _, _, _, _, _] dX9_meetsAt_86 (by decide) rfl ?_
            refine jr_iinc (pc := 87) h [_, _, _, _, _, _, _] dX9_meetsAt_87 (by decide) rfl rfl ?_
            refine jr_goto (pc := 90) h 4 dX9_meetsAt_90 (by decide) ?_
            refine ih _ _ _ _ _ (by omega) (by omega) ?_ (by omega)
            rw [foldZ_s (by omega), ← hv]
            first
            | rw [if_pos (show v < mtV ct td si x i by omega)]
            | rw [if_neg (show ¬ v < mtV ct td si x i by omega)]
        · skip
          refine jr_aload_n (pc := 54) h dX9_meetsAt_54 rfl ?_
          refine gf_X9_425 (pc := 55) h dX9_meetsAt_55 (by assumption) (by omega) ?_
          refine gf_X9_263 (pc := 58) h dX9_meetsAt_58 (by assumption) (by omega) ?_
          refine jr_iload (pc := 61) h dX9_meetsAt_61 rfl ?_
          refine jr_iload (pc := 63) h dX9_meetsAt_63 rfl ?_
          refine jr_isub (pc := 65) h dX9_meetsAt_65 ?_
          refine jr_imul (pc := 66) h dX9_meetsAt_66 ?_
          refine jr_goto (pc := 67) h 71 dX9_meetsAt_67 (by decide) ?_
          have hev : gf 2 * c_sw si F9 L9 + gf 1 * (L9 - F9) = mtV ct td si x i := by
            unfold mtV c_sf
            rw [eF9, eL9, e1, e2]
            have q9 : max 0 (L9 - F9) = L9 - F9 := by omega
            rw [q9]
          have hVb := mtV_b (x := x) (t := i) hSET hFI hw60 hcr.2 (by omega)
          refine jr_iadd (pc := 71) h dX9_meetsAt_71 ?_
          rw [hev]
          refine jr_istore (pc := 72) h [_, _, _, _, _, _, _] dX9_meetsAt_72 (by decide) rfl ?_
          refine jr_iload (pc := 74) h dX9_meetsAt_74 rfl ?_
          refine jr_iload_n (pc := 76) h dX9_meetsAt_76 rfl ?_
          refine jr_icmp_le (pc := 77) h 85 dX9_meetsAt_77 (by decide) (by omega) (by omega) (fun c_77 => ?_) (fun c_77 => ?_)
          · skip
            refine jr_iload_n (pc := 85) h dX9_meetsAt_85 rfl ?_
            refine jr_istore_n (pc := 86) h [_, _, _, _, _, _, _] dX9_meetsAt_86 (by decide) rfl ?_
            refine jr_iinc (pc := 87) h [_, _, _, _, _, _, _] dX9_meetsAt_87 (by decide) rfl rfl ?_
            refine jr_goto (pc := 90) h 4 dX9_meetsAt_90 (by decide) ?_
            refine ih _ _ _ _ _ (by omega) (by omega) ?_ (by omega)
            rw [foldZ_s (by omega), ← hv]
            first
            | rw [if_pos (show v < mtV ct td si x i by omega)]
            | rw [if_neg (show ¬ v < mtV ct td si x i by omega)]
          · skip
            refine jr_iload (pc := 80) h dX9_meetsAt_80 rfl ?_
            refine jr_goto (pc := 82) h 86 dX9_meetsAt_82 (by decide) ?_
            refine jr_istore_n (pc := 86) h [_, _, _, _, _, _, _] dX9_meetsAt_86 (by decide) rfl ?_
            refine jr_iinc (pc := 87) h [_, _, _, _, _, _, _] dX9_meetsAt_87 (by decide) rfl rfl ?_
            refine jr_goto (pc := 90) h 4 dX9_meetsAt_90 (by decide) ?_
            refine ih _ _ _ _ _ (by omega) (by omega) ?_ (by omega)
            rw [foldZ_s (by omega), ← hv]
            first
            | rw [if_pos (show v < mtV ct td si x i by omega)]
            | rw [if_neg (show ¬ v < mtV ct td si x i by omega)]
  refine jr_iconst (pc := 0) h dX9_meetsAt_0 ?_
  refine jr_istore_n (pc := 1) h [_, _, _, _, _, _, _] dX9_meetsAt_1 (by decide) rfl ?_
  refine jr_iconst (pc := 2) h dX9_meetsAt_2 ?_
  refine jr_istore_n (pc := 3) h [_, _, _, _, _, _, _] dX9_meetsAt_3 (by decide) rfl ?_
  exact loop _ _ _ _ _ _ (by omega) (by omega) rfl (Nat.lt_succ_self _)
set_option maxHeartbeats 1000000 in
set_option maxRecDepth 20000 in
theorem s_X9_lackingAt {l : Launch} {n : Nat} {M : jdM} {m f : Nat} {g : Nat → Int} {w : Int} {rd : Value} {B : Nat → Nat → Int} (hX : MX M n m g w (.ref f) rd B) {ct td bk si ld gf : Nat → Int} {A : Nat → Nat → Int} (hMF : MF M n f gf A) (hFM : FM ct td bk si ld gf A) (hsep : f + 30 < m ∨ m + 12 < f) {x : Int} (hx : 0 ≤ x ∧ x ≤ c_rows ct td) : Ct l yX9_lackingAt cX9_lackingAt 6 (some .int) rX9_lackingAt [.ref m, jI x] n M (fun vv n' M' => (vv = some (jI (c_lack ct td si ld x)) ∧ n = n' ∧ M = M') ∧ (0) ≤ (c_lack ct td si ld x) ∧ (c_lack ct td si ld x) ≤ 80000) := by
  refine Ct_of [some (.ref m), some (jI x), none, none, none, none] (by decide) (Nat.le_of_ble_eq_true rfl) rfl (fun κ hl h hR hRt hmn hn0 => ?_)
  have h : Ok κ RX9 cX9_lackingAt 6 (some .int) := h
  obtain ⟨hnm, hOm, hBm⟩ := id hX
  have hOm : M m = jdO 9 (fX9 m _ _ (.ref f) rd) := hOm
  obtain ⟨hnf, hOf, hAf⟩ := id hMF
  obtain ⟨⟨e0, e1, e2, e3, e4⟩, ⟨k5, k6, k7, k8, k9, k10, k11, k12, k13, k14, k15⟩, ⟨a2, a3, a4, a5, a6, a7, a8, a9, a10, a11, a12⟩, ⟨hlim, hLI, hends, hrt⟩, ⟨hbk, hld⟩, hc0, hc1, hc2, hc5⟩ := id hFM
  have l2 := hlim 2 (by omega)
  have l3 := hlim 3 (by omega)
  have l4 := hlim 4 (by omega)
  have l5 := hlim 5 (by omega)
  have l6 := hlim 6 (by omega)
  have l7 := hlim 7 (by omega)
  have l8 := hlim 8 (by omega)
  have l9 := hlim 9 (by omega)
  have l10 := hlim 10 (by omega)
  have l11 := hlim 11 (by omega)
  have l12 := hlim 12 (by omega)
  rw [show (jtab 0).2.2 2 = 4 from rfl] at l2
  rw [show (jtab 0).2.2 3 = 6 from rfl] at l3
  rw [show (jtab 0).2.2 4 = 6 from rfl] at l4
  rw [show (jtab 0).2.2 5 = 2 from rfl] at l5
  rw [show (jtab 0).2.2 6 = 8 from rfl] at l6
  rw [show (jtab 0).2.2 7 = 5 from rfl] at l7
  rw [show (jtab 0).2.2 8 = 6 from rfl] at l8
  rw [show (jtab 0).2.2 9 = 3 from rfl] at l9
  rw [show (jtab 0).2.2 10 = 3 from rfl] at l10
  rw [show (jtab 0).2.2 11 = 4 from rfl] at l11
  rw [show (jtab 0).2.2 12 = 4 from rfl] at l12
  have hcr : 1 ≤ c_rows ct td ∧ c_rows ct td ≤ 40 := by
    have h9 := (hLI 0 0 (by omega) (by omega) (by omega)).1 rfl
    have e9 : c_rows ct td = c_get td 0 0 0 := by unfold c_rows; rw [if_neg (by omega)]
    omega
  have hw60 : c_get td 0 0 1 ≤ 60 ∧ c_get td 0 0 2 ≤ 60 := by
    have h9 := (hLI 0 0 (by omega) (by omega) (by omega)).1 rfl
    omega
  have hFI : FI ct td := ⟨hlim, hLI, hends, hrt⟩
  have hSET : SET ct td bk si ld := ⟨hbk, hld⟩
  have hldb : ∀ t k : Int, 0 ≤ c_load ld t k ∧ c_load ld t k ≤ 9999 := fun t k => by
    unfold c_load
    split
    · rw [hld _ (by omega)]
      have h9 := sumZ_b (f := fun i => if c_get td 6 i 0 * 4 + c_get td 6 i 1 = ((t * 4 + k).toNat : Int) then c_get td 6 i 2 else 0) (k := (ct 6).toNat) (lo := 0) (hi := 999) (fun i _ _ => by
        show 0 ≤ (if c_get td 6 i 0 * 4 + c_get td 6 i 1 = ((t * 4 + k).toNat : Int) then c_get td 6 i 2 else 0) ∧ (if c_get td 6 i 0 * 4 + c_get td 6 i 1 = ((t * 4 + k).toNat : Int) then c_get td 6 i 2 else 0) ≤ 999
        have := c_getr hrt 6 i 2
        split <;> omega)
      omega
    · omega
  have loop : ∀ (dq : Nat) (v i : Int) (u4 : Option Value) (u5 : Option Value), (0 ≤ i ∧ i ≤ ct 5) → (0 ≤ v ∧ v ≤ 39960 * i) → (v = sumZ (fun t => c_lack1 ct td si ld x t) i.toNat) → (10 - i).toNat < dq → J κ 6 0 0 n 4 [some (.ref m), some (jI x), some (jI v), some (jI i), u4, u5] [] M := by
    intro dq
    induction dq with
    | zero => intro v i u4 u5 hi hvb hv hd; omega
    | succ dq ih =>
      intro v i u4 u5 hi hvb hv hd
      refine jr_iload_n (pc := 4) h dX9_lackingAt_4 rfl ?_
      refine jr_aload_n (pc := 5) h dX9_lackingAt_5 rfl ?_
      refine gf_X9_425 (pc := 6) h dX9_lackingAt_6 (by assumption) (by omega) ?_
      refine gf_X9_214 (pc := 9) h dX9_lackingAt_9 (by assumption) (by omega) ?_
      refine jr_icmp_ge (pc := 12) h 93 dX9_lackingAt_12 (by decide) (by omega) (by omega) (fun c_12 => ?_) (fun c_12 => ?_)
      · skip
        refine jr_iload_n (pc := 93) h dX9_lackingAt_93 rfl ?_
        refine jr_iret (pc := 94) h hRt dX9_lackingAt_94 rfl (Nat.le_of_ble_eq_true rfl) (Nat.le_of_ble_eq_true rfl) ?_
        have es : c_lack ct td si ld x = v := by
          unfold c_lack
          rw [show (ct 5).toNat = i.toNat by omega, ← hv]
        rw [es]
        exact ⟨⟨rfl, rfl, rfl⟩, by omega⟩
      · skip
        refine jr_aload_n (pc := 15) h dX9_lackingAt_15 rfl ?_
        refine jr_aload_n (pc := 16) h dX9_lackingAt_16 rfl ?_
        refine jr_iload_n (pc := 17) h dX9_lackingAt_17 rfl ?_
        refine jr_iload_n (pc := 18) h dX9_lackingAt_18 rfl ?_
        refine iv_X9_525 (pc := 19) h hl hR dX9_lackingAt_19 ⟨(Nat.le_of_ble_eq_true rfl), (Nat.le_of_ble_eq_true rfl), (Nat.le_of_ble_eq_true rfl), (Nat.le_of_ble_eq_true rfl)⟩ (Nat.le_of_ble_eq_true rfl) (by assumption) (by omega) (s_X9_firstRow hX hMF hFM hsep (by omega) (by omega)) (fun v_19 n_19 M_19 hn_19 hp => ?_)
        obtain ⟨rfl, rfl, rfl⟩ := hp
        have hfr : 1 ≤ (if ct 5 < 2 ∨ c_get td 5 i 0 = 0 then 1 else x + 1) ∧ (if ct 5 < 2 ∨ c_get td 5 i 0 = 0 then 1 else x + 1) ≤ 41 := by split <;> omega
        obtain ⟨F9, eF9⟩ : ∃ z, (if ct 5 < 2 ∨ c_get td 5 i 0 = 0 then 1 else x + 1) = z := ⟨_, rfl⟩
        rw [eF9] at hfr ⊢
        refine jr_aload_n (pc := 22) h dX9_lackingAt_22 rfl ?_
        refine jr_iload_n (pc := 23) h dX9_lackingAt_23 rfl ?_
        refine jr_iload_n (pc := 24) h dX9_lackingAt_24 rfl ?_
        refine iv_X9_528 (pc := 25) h hl hR dX9_lackingAt_25 ⟨(Nat.le_of_ble_eq_true rfl), (Nat.le_of_ble_eq_true rfl), (Nat.le_of_ble_eq_true rfl), (Nat.le_of_ble_eq_true rfl)⟩ (Nat.le_of_ble_eq_true rfl) (by assumption) (by omega) (s_X9_lastRow hX hMF hFM hsep (by omega) (by omega)) (fun v_25 n_25 M_25 hn_25 hp => ?_)
        obtain ⟨rfl, rfl, rfl⟩ := hp
        have hls : 0 ≤ (if ct 5 < 2 ∨ c_get td 5 i 0 ≠ 0 then c_rows ct td else x) ∧ (if ct 5 < 2 ∨ c_get td 5 i 0 ≠ 0 then c_rows ct td else x) ≤ 40 := by split <;> omega
        obtain ⟨L9, eL9⟩ : ∃ z, (if ct 5 < 2 ∨ c_get td 5 i 0 ≠ 0 then c_rows ct td else x) = z := ⟨_, rfl⟩
        rw [eL9] at hls ⊢
        refine iv_X9_531 (pc := 28) h hl hR dX9_lackingAt_28 ⟨(Nat.le_of_ble_eq_true rfl), (Nat.le_of_ble_eq_true rfl), (Nat.le_of_ble_eq_true rfl), (Nat.le_of_ble_eq_true rfl)⟩ (Nat.le_of_ble_eq_true rfl) (by assumption) (by omega) (s_X9_sitsBetween hX hMF hFM hsep (by omega) (by omega)) (fun v_28 n_28 M_28 hn_28 hp => ?_)
        obtain ⟨rfl, rfl, rfl⟩ := hp
        refine jr_istore (pc := 31) h [_, _, _, _, _, _] dX9_lackingAt_31 (by decide) rfl ?_
        refine jr_iconst (pc := 33) h dX9_lackingAt_33 ?_
        refine jr_istore (pc := 34) h [_, _, _, _, _, _] dX9_lackingAt_34 (by decide) rfl ?_
        have K9 : ∀ s9 : Int, (-39996 ≤ s9 ∧ s9 ≤ 39960) → c_lack1 ct td si ld x i = max 0 s9 → J κ 6 0 0 n 73 [some (.ref m), some (jI x), some (jI v), some (jI i), some (jI s9), some (jI (ct 2))] [] M := by
          intro s9 hx3 el1
          refine jr_iload_n (pc := 73) h dX9_lackingAt_73 rfl ?_
          refine jr_iload (pc := 74) h dX9_lackingAt_74 rfl ?_
          refine jr_if_le (pc := 76) h 84 dX9_lackingAt_76 (by decide) (by omega) (fun c_76 => ?_) (fun c_76 => ?_)
          · skip
            refine jr_iconst (pc := 84) h dX9_lackingAt_84 ?_
            refine jr_iadd (pc := 85) h dX9_lackingAt_85 ?_
            refine jr_istore_n (pc := 86) h [_, _, _, _, _, _] dX9_lackingAt_86 (by decide) rfl ?_
            refine jr_iinc (pc := 87) h [_, _, _, _, _, _] dX9_lackingAt_87 (by decide) rfl rfl ?_
            refine jr_goto (pc := 90) h 4 dX9_lackingAt_90 (by decide) ?_
            refine ih _ _ _ _ (by omega) ?_ ?_ (by omega)
            · omega
            · rw [sumZ_s (by omega), ← hv, el1]
              omega
          · skip
            refine jr_iload (pc := 79) h dX9_lackingAt_79 rfl ?_
            refine jr_goto (pc := 81) h 85 dX9_lackingAt_81 (by decide) ?_
            refine jr_iadd (pc := 85) h dX9_lackingAt_85 ?_
            refine jr_istore_n (pc := 86) h [_, _, _, _, _, _] dX9_lackingAt_86 (by decide) rfl ?_
            refine jr_iinc (pc := 87) h [_, _, _, _, _, _] dX9_lackingAt_87 (by decide) rfl rfl ?_
            refine jr_goto (pc := 90) h 4 dX9_lackingAt_90 (by decide) ?_
            refine ih _ _ _ _ (by omega) ?_ ?_ (by omega)
            · omega
            · rw [sumZ_s (by omega), ← hv, el1]
              omega
        have inner : ∀ (dqj : Nat) (s9 j : Int), (0 ≤ j ∧ j ≤ ct 2) → (s9 = c_sw si F9 L9 - sumZ (fun k => c_load ld i k) j.toNat) → (10 - j).toNat < dqj → J κ 6 0 0 n 36 [some (.ref m), some (jI x), some (jI v), some (jI i), some (jI s9), some (jI j)] [] M := by
          intro dqj
          induction dqj with
          | zero => intro s9 j hj hx2 hd; omega
          | succ dqj ihj =>
            intro s9 j hj hx2 hd
            have hA11 : M (f + 11) = jdA 8 (A 11) := hAf 11 (by omega) (by omega)
            have hsw := sw_b hSET hrt l8 F9 L9 (by omega)
            have hkb := sumZ_b (f := fun k => c_load ld i k) (k := j.toNat) (lo := 0) (hi := 9999) (fun k _ _ => hldb i k)
            have hx3 : -39996 ≤ s9 ∧ s9 ≤ 39960 := by omega
            refine jr_iload (pc := 36) h dX9_lackingAt_36 rfl ?_
            refine jr_aload_n (pc := 38) h dX9_lackingAt_38 rfl ?_
            refine gf_X9_425 (pc := 39) h dX9_lackingAt_39 (by assumption) (by omega) ?_
            refine gf_X9_211 (pc := 42) h dX9_lackingAt_42 (by assumption) (by omega) ?_
            refine jr_icmp_ge (pc := 45) h 73 dX9_lackingAt_45 (by decide) (by omega) (by omega) (fun c_45 => ?_) (fun c_45 => ?_)
            · skip
              have elot : c_lot ld i = sumZ (fun k => c_load ld i k) (ct 2).toNat := by
                unfold c_lot
                have e9 : ∀ n : Nat, ct 2 ≤ n → n ≤ 4 → sumZ (fun k => c_load ld i k) n = sumZ (fun k => c_load ld i k) (ct 2).toNat := by
                  intro n
                  induction n with
                  | zero => intro h1 h2; rw [show (ct 2).toNat = 0 by omega]
                  | succ n ihn =>
                    intro h1 h2
                    by_cases q : (ct 2).toNat = n + 1
                    · rw [q]
                    · rw [sumZ, ihn (by omega) (by omega), ld_0 hSET hFI (by omega) (by omega) (Or.inr (by omega)), Int.add_zero]
                exact e9 4 (by omega) (by omega)
              have ej : j = ct 2 := by omega
              subst ej
              have el1 : c_lack1 ct td si ld x i = max 0 s9 := by
                unfold c_lack1
                rw [elot, eF9, eL9]
                omega
              have hb1 : 0 ≤ max 0 s9 ∧ max 0 s9 ≤ 39960 := by omega
              exact K9 s9 hx3 el1
            · skip
              have eA : A 11 (4 * i + j).toNat = c_load ld i j := by
                have g6 := a6 (4 * i + j).toNat (by omega)
                unfold c_load
                rw [if_pos (by omega), show (i * 4 + j).toNat = (4 * i + j).toNat by omega, hld _ (by omega)]
                exact g6
              refine jr_iload (pc := 48) h dX9_lackingAt_48 rfl ?_
              refine jr_aload_n (pc := 50) h dX9_lackingAt_50 rfl ?_
              refine gf_X9_425 (pc := 51) h dX9_lackingAt_51 (by assumption) (by omega) ?_
              refine gf_X9_337 (pc := 54) h dX9_lackingAt_54 (by assumption) (by omega) ?_
              refine jr_iconst (pc := 57) h dX9_lackingAt_57 ?_
              refine jr_iload_n (pc := 58) h dX9_lackingAt_58 rfl ?_
              refine jr_imul (pc := 59) h dX9_lackingAt_59 ?_
              refine jr_iload (pc := 60) h dX9_lackingAt_60 rfl ?_
              refine jr_iadd (pc := 62) h dX9_lackingAt_62 ?_
              refine jr_iald (pc := 63) h dX9_lackingAt_63 (by assumption) (by omega) (by omega) ?_
              refine jr_isub (pc := 64) h dX9_lackingAt_64 ?_
              refine jr_istore (pc := 65) h [_, _, _, _, _, _] dX9_lackingAt_65 (by decide) rfl ?_
              refine jr_iinc (pc := 67) h [_, _, _, _, _, _] dX9_lackingAt_67 (by decide) rfl rfl ?_
              refine jr_goto (pc := 70) h 36 dX9_lackingAt_70 (by decide) ?_
              refine ihj _ _ (by omega) ?_ (by omega)
              rw [sumZ_s (by omega), hx2, eA]
              omega
        exact inner _ _ _ (by omega) (by rw [show Int.toNat 0 = 0 from rfl]; show _ = _ - 0; omega) (Nat.lt_succ_self _)
  refine jr_iconst (pc := 0) h dX9_lackingAt_0 ?_
  refine jr_istore_n (pc := 1) h [_, _, _, _, _, _] dX9_lackingAt_1 (by decide) rfl ?_
  refine jr_iconst (pc := 2) h dX9_lackingAt_2 ?_
  refine jr_istore_n (pc := 3) h [_, _, _, _, _, _] dX9_lackingAt_3 (by decide) rfl ?_
  exact loop _ _ _ _ _ (by omega) (by omega) rfl (Nat.lt_succ_self _)
set_option maxHeartbeats 1000000 in
set_option maxRecDepth 20000 in
theorem s_X9_isMeeting {l : Launch} {n : Nat} {M : jdM} {m f : Nat} {g : Nat → Int} {w : Int} {rd : Value} {B : Nat → Nat → Int} (hX : MX M n m g w (.ref f) rd B) {ct td bk si ld gf : Nat → Int} {A : Nat → Nat → Int} (hMF : MF M n f gf A) (hFM : FM ct td bk si ld gf A) (hsep : f + 30 < m ∨ m + 12 < f) {x : Int} (hx : -2147483648 ≤ x ∧ x < 2147483648) : Ct l yX9_isMeeting cX9_isMeeting 2 (some .boolean) rX9_isMeeting [.ref m, jI x] n M (fun vv n' M' => (vv = some (jI (bz (0 ≤ x ∧ x ≤ c_rows ct td))) ∧ n = n' ∧ M = M') ∧ (0) ≤ (bz (0 ≤ x ∧ x ≤ c_rows ct td)) ∧ (bz (0 ≤ x ∧ x ≤ c_rows ct td)) ≤ 1) := by
  refine Ct_of [some (.ref m), some (jI x)] (by decide) (Nat.le_of_ble_eq_true rfl) rfl (fun κ hl h hR hRt hmn hn0 => ?_)
  have h : Ok κ RX9 cX9_isMeeting 2 (some .boolean) := h
  obtain ⟨hnm, hOm, hBm⟩ := id hX
  have hOm : M m = jdO 9 (fX9 m _ _ (.ref f) rd) := hOm
  obtain ⟨hnf, hOf, hAf⟩ := id hMF
  obtain ⟨⟨e0, e1, e2, e3, e4⟩, ⟨k5, k6, k7, k8, k9, k10, k11, k12, k13, k14, k15⟩, ⟨a2, a3, a4, a5, a6, a7, a8, a9, a10, a11, a12⟩, ⟨hlim, hLI, hends, hrt⟩, ⟨hbk, hld⟩, hc0, hc1, hc2, hc5⟩ := id hFM
  have l2 := hlim 2 (by omega)
  have l3 := hlim 3 (by omega)
  have l4 := hlim 4 (by omega)
  have l5 := hlim 5 (by omega)
  have l6 := hlim 6 (by omega)
  have l7 := hlim 7 (by omega)
  have l8 := hlim 8 (by omega)
  have l9 := hlim 9 (by omega)
  have l10 := hlim 10 (by omega)
  have l11 := hlim 11 (by omega)
  have l12 := hlim 12 (by omega)
  rw [show (jtab 0).2.2 2 = 4 from rfl] at l2
  rw [show (jtab 0).2.2 3 = 6 from rfl] at l3
  rw [show (jtab 0).2.2 4 = 6 from rfl] at l4
  rw [show (jtab 0).2.2 5 = 2 from rfl] at l5
  rw [show (jtab 0).2.2 6 = 8 from rfl] at l6
  rw [show (jtab 0).2.2 7 = 5 from rfl] at l7
  rw [show (jtab 0).2.2 8 = 6 from rfl] at l8
  rw [show (jtab 0).2.2 9 = 3 from rfl] at l9
  rw [show (jtab 0).2.2 10 = 3 from rfl] at l10
  rw [show (jtab 0).2.2 11 = 4 from rfl] at l11
  rw [show (jtab 0).2.2 12 = 4 from rfl] at l12
  have hcr : 1 ≤ c_rows ct td ∧ c_rows ct td ≤ 40 := by
    have h9 := (hLI 0 0 (by omega) (by omega) (by omega)).1 rfl
    have e9 : c_rows ct td = c_get td 0 0 0 := by unfold c_rows; rw [if_neg (by omega)]
    omega
  refine jr_iload_n (pc := 0) h dX9_isMeeting_0 rfl ?_
  refine jr_iconst (pc := 1) h dX9_isMeeting_1 ?_
  refine jr_aload_n (pc := 2) h dX9_isMeeting_2 rfl ?_
  refine gf_X9_425 (pc := 3) h dX9_isMeeting_3 (by assumption) (by omega) ?_
  refine gf_X9_205 (pc := 6) h dX9_isMeeting_6 (by assumption) (by omega) ?_
  refine iv_X9_130 (pc := 9) h hl hR dX9_isMeeting_9 ⟨(Nat.le_of_ble_eq_true rfl), (Nat.le_of_ble_eq_true rfl), (Nat.le_of_ble_eq_true rfl), (Nat.le_of_ble_eq_true rfl)⟩ (Nat.le_of_ble_eq_true rfl) (s_X9_in (by omega) (by omega) (by omega)) (fun v_9 n_9 M_9 hn_9 hp => ?_)
  obtain ⟨⟨rfl, rfl, rfl⟩, gr_9⟩ := hp
  rw [e0] at gr_9 ⊢
  by_cases qP : 0 ≤ x ∧ x ≤ c_rows ct td
  · rw [bz_t qP]
    refine jr_iret (pc := 12) h hRt dX9_isMeeting_12 rfl (Nat.le_of_ble_eq_true rfl) (Nat.le_of_ble_eq_true rfl) ?_
    exact ⟨⟨by rw [bz_t qP], rfl, rfl⟩, bz_r _⟩
  · rw [bz_f qP]
    refine jr_iret (pc := 12) h hRt dX9_isMeeting_12 rfl (Nat.le_of_ble_eq_true rfl) (Nat.le_of_ble_eq_true rfl) ?_
    exact ⟨⟨by rw [bz_f qP], rfl, rfl⟩, bz_r _⟩
set_option maxHeartbeats 2000000 in
set_option maxRecDepth 20000 in
theorem s_X9_meets {l : Launch} {n : Nat} {M : jdM} {m : Nat} {g : Nat → Int} {w : Int} {fl rd : Value} {B : Nat → Nat → Int} (hX : MX M n m g w fl rd B) {ct td bk si ld : Nat → Int} (hFX : FX M n m fl ct td bk si ld) {x : Int} (hx : -2147483648 ≤ x ∧ x < 2147483648)  : Ct l yX9_meets cX9_meets 2 (some .int) rX9_meets [.ref m, jI x] n M (fun vv n' M' => (vv = some (jI (x_meets ct td si x).1) ∧ n = n') ∧ MX M' n m (rg g (x_meets ct td si x).2) w fl rd B ∧ fr (MXf m) M M') := by
  refine Ct_of [some (.ref m), some (jI x)] (by decide) (Nat.le_of_ble_eq_true rfl) rfl (fun κ hl h hR hRt hmn hn0 => ?_)
  have h : Ok κ RX9 cX9_meets 2 (some .int) := h
  rcases hFX with ⟨rfl, hz⟩ | ⟨f, gf, A, rfl, hsep, hMF, hFM⟩
  · skip
    have hr0 := rows0 (td := td) hz
    have z2 := hz 2
    have z5 := hz 5
    obtain ⟨hnm, hOm, hBm⟩ := id hX
    have hOm : M m = jdO 9 (fX9 m _ _ .null rd) := hOm
    refine jr_aload_n (pc := 0) h dX9_meets_0 rfl ?_
    refine jr_iconst (pc := 1) h dX9_meets_1 ?_
    refine pf_X9_52 (pc := 2) h dX9_meets_2 hOm (by omega) ?_
    refine jm_gen (fun M2 hM2 => ?_)
    rw [fX9_0] at hM2
    have hX := MX_o hX hM2
    have f9 : fr (MXf m) _ M2 := fr_up hM2 ⟨by omega, by omega⟩
    obtain ⟨hnm, hOm, hBm⟩ := id hX
    have f1 := f9
    refine jr_aload_n (pc := 5) h dX9_meets_5 rfl ?_
    refine gf_X9_425 (pc := 6) h dX9_meets_6 (by assumption) (by omega) ?_
    refine jr_ifnonnullN (pc := 9) h dX9_meets_9 ?_
    refine jr_aload_n (pc := 12) h dX9_meets_12 rfl ?_
    refine jr_iconst (pc := 13) h dX9_meets_13 ?_
    refine iv_X9_58 (pc := 14) h hl hR dX9_meets_14 ⟨(Nat.le_of_ble_eq_true rfl), (Nat.le_of_ble_eq_true rfl), (Nat.le_of_ble_eq_true rfl), (Nat.le_of_ble_eq_true rfl)⟩ (Nat.le_of_ble_eq_true rfl) (by assumption) (by omega) (s_X9_refused hX) (fun v_14 n_14 M_14 hn_14 hp => ?_)
    obtain ⟨⟨rfl, rfl⟩, hX, f9⟩ := hp
    have f1 := fr_tr f1 f9
    obtain ⟨hnm, hOm, hBm⟩ := id hX
    refine jr_iret (pc := 17) h hRt dX9_meets_17 rfl (Nat.le_of_ble_eq_true rfl) (Nat.le_of_ble_eq_true rfl) ?_
    refine lfA9 ?_ hX f1
    unfold x_meets
    (repeat' split) <;> first | rfl | (exfalso; omega) | contradiction
  · skip
    obtain ⟨hnm, hOm, hBm⟩ := id hX
    have hOm : M m = jdO 9 (fX9 m _ _ (.ref f) rd) := hOm
    refine jr_aload_n (pc := 0) h dX9_meets_0 rfl ?_
    refine jr_iconst (pc := 1) h dX9_meets_1 ?_
    refine pf_X9_52 (pc := 2) h dX9_meets_2 hOm (by omega) ?_
    refine jm_gen (fun M2 hM2 => ?_)
    rw [fX9_0] at hM2
    have hX := MX_o hX hM2
    have f9 : fr (MXf m) _ M2 := fr_up hM2 ⟨by omega, by omega⟩
    obtain ⟨hnm, hOm, hBm⟩ := id hX
    have f1 := f9
    have hMF := MF_fr hMF f9 (Nat.le_refl _) (fun k h1 h2 q => by have := q.1; have := q.2; omega)
    obtain ⟨hnf, hOf, hAf⟩ := id hMF
    obtain ⟨⟨e0, e1, e2, e3, e4⟩, ⟨k5, k6, k7, k8, k9, k10, k11, k12, k13, k14, k15⟩, ⟨a2, a3, a4, a5, a6, a7, a8, a9, a10, a11, a12⟩, ⟨hlim, hLI, hends, hrt⟩, ⟨hbk, hld⟩, hc0, hc1, hc2, hc5⟩ := id hFM
    have l2 := hlim 2 (by omega)
    have l3 := hlim 3 (by omega)
    have l4 := hlim 4 (by omega)
    have l5 := hlim 5 (by omega)
    have l6 := hlim 6 (by omega)
    have l7 := hlim 7 (by omega)
    have l8 := hlim 8 (by omega)
    have l9 := hlim 9 (by omega)
    have l10 := hlim 10 (by omega)
    have l11 := hlim 11 (by omega)
    have l12 := hlim 12 (by omega)
    rw [show (jtab 0).2.2 2 = 4 from rfl] at l2
    rw [show (jtab 0).2.2 3 = 6 from rfl] at l3
    rw [show (jtab 0).2.2 4 = 6 from rfl] at l4
    rw [show (jtab 0).2.2 5 = 2 from rfl] at l5
    rw [show (jtab 0).2.2 6 = 8 from rfl] at l6
    rw [show (jtab 0).2.2 7 = 5 from rfl] at l7
    rw [show (jtab 0).2.2 8 = 6 from rfl] at l8
    rw [show (jtab 0).2.2 9 = 3 from rfl] at l9
    rw [show (jtab 0).2.2 10 = 3 from rfl] at l10
    rw [show (jtab 0).2.2 11 = 4 from rfl] at l11
    rw [show (jtab 0).2.2 12 = 4 from rfl] at l12
    have hcr : 1 ≤ c_rows ct td ∧ c_rows ct td ≤ 40 := by
      have h9 := (hLI 0 0 (by omega) (by omega) (by omega)).1 rfl
      have e9 : c_rows ct td = c_get td 0 0 0 := by unfold c_rows; rw [if_neg (by omega)]
      omega
    refine jr_aload_n (pc := 5) h dX9_meets_5 rfl ?_
    refine gf_X9_425 (pc := 6) h dX9_meets_6 (by assumption) (by omega) ?_
    refine jr_ifnonnull (pc := 9) h 18 dX9_meets_9 (by decide) ?_
    refine jr_aload_n (pc := 18) h dX9_meets_18 rfl ?_
    refine jr_iload_n (pc := 19) h dX9_meets_19 rfl ?_
    refine iv_X9_534 (pc := 20) h hl hR dX9_meets_20 ⟨(Nat.le_of_ble_eq_true rfl), (Nat.le_of_ble_eq_true rfl), (Nat.le_of_ble_eq_true rfl), (Nat.le_of_ble_eq_true rfl)⟩ (Nat.le_of_ble_eq_true rfl) (by assumption) (by omega) (s_X9_isMeeting hX hMF hFM hsep (by omega)) (fun v_20 n_20 M_20 hn_20 hp => ?_)
    obtain ⟨⟨rfl, rfl, rfl⟩, gr_20⟩ := hp
    refine jr_if_eq (pc := 23) h 38 dX9_meets_23 (by decide) (by omega) (fun c_23 => ?_) (fun c_23 => ?_)
    · first | have d_23 := bz_0.mp c_23 | have d_23 := bz_1.mp c_23 | skip
      refine jr_aload_n (pc := 38) h dX9_meets_38 rfl ?_
      refine jr_iconst (pc := 39) h dX9_meets_39 ?_
      refine iv_X9_58 (pc := 40) h hl hR dX9_meets_40 ⟨(Nat.le_of_ble_eq_true rfl), (Nat.le_of_ble_eq_true rfl), (Nat.le_of_ble_eq_true rfl), (Nat.le_of_ble_eq_true rfl)⟩ (Nat.le_of_ble_eq_true rfl) (by assumption) (by omega) (s_X9_refused hX) (fun v_40 n_40 M_40 hn_40 hp => ?_)
      obtain ⟨⟨rfl, rfl⟩, hX, f9⟩ := hp
      have f1 := fr_tr f1 f9
      obtain ⟨hnm, hOm, hBm⟩ := id hX
      refine jr_iret (pc := 43) h hRt dX9_meets_43 rfl (Nat.le_of_ble_eq_true rfl) (Nat.le_of_ble_eq_true rfl) ?_
      refine lfA9 ?_ hX f1
      unfold x_meets
      (repeat' split) <;> first | rfl | (exfalso; omega) | contradiction
    · first | have d_23 := bz_0.mp c_23 | have d_23 := bz_1.mp c_23 | skip
      refine jr_aload_n (pc := 26) h dX9_meets_26 rfl ?_
      refine jr_aload_n (pc := 27) h dX9_meets_27 rfl ?_
      refine jr_iload_n (pc := 28) h dX9_meets_28 rfl ?_
      refine iv_X9_537 (pc := 29) h hl hR dX9_meets_29 ⟨(Nat.le_of_ble_eq_true rfl), (Nat.le_of_ble_eq_true rfl), (Nat.le_of_ble_eq_true rfl), (Nat.le_of_ble_eq_true rfl)⟩ (Nat.le_of_ble_eq_true rfl) (by assumption) (by omega) (s_X9_meetsAt hX hMF hFM hsep (by omega)) (fun v_29 n_29 M_29 hn_29 hp => ?_)
      obtain ⟨⟨rfl, rfl, rfl⟩, gr_29⟩ := hp
      refine iv_X9_62 (pc := 32) h hl hR dX9_meets_32 ⟨(Nat.le_of_ble_eq_true rfl), (Nat.le_of_ble_eq_true rfl), (Nat.le_of_ble_eq_true rfl), (Nat.le_of_ble_eq_true rfl)⟩ (Nat.le_of_ble_eq_true rfl) (by assumption) (by omega) (s_X9_done hX) (fun v_32 n_32 M_32 hn_32 hp => ?_)
      obtain ⟨⟨rfl, rfl⟩, hX, f9⟩ := hp
      have f1 := fr_tr f1 f9
      obtain ⟨hnm, hOm, hBm⟩ := id hX
      refine jr_goto (pc := 35) h 43 dX9_meets_35 (by decide) ?_
      refine jr_iret (pc := 43) h hRt dX9_meets_43 rfl (Nat.le_of_ble_eq_true rfl) (Nat.le_of_ble_eq_true rfl) ?_
      refine lfA9 ?_ hX f1
      unfold x_meets
      (repeat' split) <;> first | rfl | (exfalso; omega) | contradiction
set_option maxHeartbeats 2000000 in
set_option maxRecDepth 20000 in
theorem s_X9_lacking {l : Launch} {n : Nat} {M : jdM} {m : Nat} {g : Nat → Int} {w : Int} {fl rd : Value} {B : Nat → Nat → Int} (hX : MX M n m g w fl rd B) {ct td bk si ld : Nat → Int} (hFX : FX M n m fl ct td bk si ld) {x : Int} (hx : -2147483648 ≤ x ∧ x < 2147483648)  : Ct l yX9_lacking cX9_lacking 2 (some .int) rX9_lacking [.ref m, jI x] n M (fun vv n' M' => (vv = some (jI (x_lacking ct td si ld x).1) ∧ n = n') ∧ MX M' n m (rg g (x_lacking ct td si ld x).2) w fl rd B ∧ fr (MXf m) M M') := by
  refine Ct_of [some (.ref m), some (jI x)] (by decide) (Nat.le_of_ble_eq_true rfl) rfl (fun κ hl h hR hRt hmn hn0 => ?_)
  have h : Ok κ RX9 cX9_lacking 2 (some .int) := h
  rcases hFX with ⟨rfl, hz⟩ | ⟨f, gf, A, rfl, hsep, hMF, hFM⟩
  · skip
    have hr0 := rows0 (td := td) hz
    have z2 := hz 2
    have z5 := hz 5
    obtain ⟨hnm, hOm, hBm⟩ := id hX
    have hOm : M m = jdO 9 (fX9 m _ _ .null rd) := hOm
    refine jr_aload_n (pc := 0) h dX9_lacking_0 rfl ?_
    refine jr_iconst (pc := 1) h dX9_lacking_1 ?_
    refine pf_X9_52 (pc := 2) h dX9_lacking_2 hOm (by omega) ?_
    refine jm_gen (fun M2 hM2 => ?_)
    rw [fX9_0] at hM2
    have hX := MX_o hX hM2
    have f9 : fr (MXf m) _ M2 := fr_up hM2 ⟨by omega, by omega⟩
    obtain ⟨hnm, hOm, hBm⟩ := id hX
    have f1 := f9
    refine jr_aload_n (pc := 5) h dX9_lacking_5 rfl ?_
    refine gf_X9_425 (pc := 6) h dX9_lacking_6 (by assumption) (by omega) ?_
    refine jr_ifnonnullN (pc := 9) h dX9_lacking_9 ?_
    refine jr_aload_n (pc := 12) h dX9_lacking_12 rfl ?_
    refine jr_iconst (pc := 13) h dX9_lacking_13 ?_
    refine iv_X9_58 (pc := 14) h hl hR dX9_lacking_14 ⟨(Nat.le_of_ble_eq_true rfl), (Nat.le_of_ble_eq_true rfl), (Nat.le_of_ble_eq_true rfl), (Nat.le_of_ble_eq_true rfl)⟩ (Nat.le_of_ble_eq_true rfl) (by assumption) (by omega) (s_X9_refused hX) (fun v_14 n_14 M_14 hn_14 hp => ?_)
    obtain ⟨⟨rfl, rfl⟩, hX, f9⟩ := hp
    have f1 := fr_tr f1 f9
    obtain ⟨hnm, hOm, hBm⟩ := id hX
    refine jr_iret (pc := 17) h hRt dX9_lacking_17 rfl (Nat.le_of_ble_eq_true rfl) (Nat.le_of_ble_eq_true rfl) ?_
    refine lfA9 ?_ hX f1
    unfold x_lacking
    (repeat' split) <;> first | rfl | (exfalso; omega) | contradiction
  · skip
    obtain ⟨hnm, hOm, hBm⟩ := id hX
    have hOm : M m = jdO 9 (fX9 m _ _ (.ref f) rd) := hOm
    refine jr_aload_n (pc := 0) h dX9_lacking_0 rfl ?_
    refine jr_iconst (pc := 1) h dX9_lacking_1 ?_
    refine pf_X9_52 (pc := 2) h dX9_lacking_2 hOm (by omega) ?_
    refine jm_gen (fun M2 hM2 => ?_)
    rw [fX9_0] at hM2
    have hX := MX_o hX hM2
    have f9 : fr (MXf m) _ M2 := fr_up hM2 ⟨by omega, by omega⟩
    obtain ⟨hnm, hOm, hBm⟩ := id hX
    have f1 := f9
    have hMF := MF_fr hMF f9 (Nat.le_refl _) (fun k h1 h2 q => by have := q.1; have := q.2; omega)
    obtain ⟨hnf, hOf, hAf⟩ := id hMF
    obtain ⟨⟨e0, e1, e2, e3, e4⟩, ⟨k5, k6, k7, k8, k9, k10, k11, k12, k13, k14, k15⟩, ⟨a2, a3, a4, a5, a6, a7, a8, a9, a10, a11, a12⟩, ⟨hlim, hLI, hends, hrt⟩, ⟨hbk, hld⟩, hc0, hc1, hc2, hc5⟩ := id hFM
    have l2 := hlim 2 (by omega)
    have l3 := hlim 3 (by omega)
    have l4 := hlim 4 (by omega)
    have l5 := hlim 5 (by omega)
    have l6 := hlim 6 (by omega)
    have l7 := hlim 7 (by omega)
    have l8 := hlim 8 (by omega)
    have l9 := hlim 9 (by omega)
    have l10 := hlim 10 (by omega)
    have l11 := hlim 11 (by omega)
    have l12 := hlim 12 (by omega)
    rw [show (jtab 0).2.2 2 = 4 from rfl] at l2
    rw [show (jtab 0).2.2 3 = 6 from rfl] at l3
    rw [show (jtab 0).2.2 4 = 6 from rfl] at l4
    rw [show (jtab 0).2.2 5 = 2 from rfl] at l5
    rw [show (jtab 0).2.2 6 = 8 from rfl] at l6
    rw [show (jtab 0).2.2 7 = 5 from rfl] at l7
    rw [show (jtab 0).2.2 8 = 6 from rfl] at l8
    rw [show (jtab 0).2.2 9 = 3 from rfl] at l9
    rw [show (jtab 0).2.2 10 = 3 from rfl] at l10
    rw [show (jtab 0).2.2 11 = 4 from rfl] at l11
    rw [show (jtab 0).2.2 12 = 4 from rfl] at l12
    have hcr : 1 ≤ c_rows ct td ∧ c_rows ct td ≤ 40 := by
      have h9 := (hLI 0 0 (by omega) (by omega) (by omega)).1 rfl
      have e9 : c_rows ct td = c_get td 0 0 0 := by unfold c_rows; rw [if_neg (by omega)]
      omega
    refine jr_aload_n (pc := 5) h dX9_lacking_5 rfl ?_
    refine gf_X9_425 (pc := 6) h dX9_lacking_6 (by assumption) (by omega) ?_
    refine jr_ifnonnull (pc := 9) h 18 dX9_lacking_9 (by decide) ?_
    refine jr_aload_n (pc := 18) h dX9_lacking_18 rfl ?_
    refine jr_iload_n (pc := 19) h dX9_lacking_19 rfl ?_
    refine iv_X9_534 (pc := 20) h hl hR dX9_lacking_20 ⟨(Nat.le_of_ble_eq_true rfl), (Nat.le_of_ble_eq_true rfl), (Nat.le_of_ble_eq_true rfl), (Nat.le_of_ble_eq_true rfl)⟩ (Nat.le_of_ble_eq_true rfl) (by assumption) (by omega) (s_X9_isMeeting hX hMF hFM hsep (by omega)) (fun v_20 n_20 M_20 hn_20 hp => ?_)
    obtain ⟨⟨rfl, rfl, rfl⟩, gr_20⟩ := hp
    refine jr_if_eq (pc := 23) h 38 dX9_lacking_23 (by decide) (by omega) (fun c_23 => ?_) (fun c_23 => ?_)
    · first | have d_23 := bz_0.mp c_23 | have d_23 := bz_1.mp c_23 | skip
      refine jr_aload_n (pc := 38) h dX9_lacking_38 rfl ?_
      refine jr_iconst (pc := 39) h dX9_lacking_39 ?_
      refine iv_X9_58 (pc := 40) h hl hR dX9_lacking_40 ⟨(Nat.le_of_ble_eq_true rfl), (Nat.le_of_ble_eq_true rfl), (Nat.le_of_ble_eq_true rfl), (Nat.le_of_ble_eq_true rfl)⟩ (Nat.le_of_ble_eq_true rfl) (by assumption) (by omega) (s_X9_refused hX) (fun v_40 n_40 M_40 hn_40 hp => ?_)
      obtain ⟨⟨rfl, rfl⟩, hX, f9⟩ := hp
      have f1 := fr_tr f1 f9
      obtain ⟨hnm, hOm, hBm⟩ := id hX
      refine jr_iret (pc := 43) h hRt dX9_lacking_43 rfl (Nat.le_of_ble_eq_true rfl) (Nat.le_of_ble_eq_true rfl) ?_
      refine lfA9 ?_ hX f1
      unfold x_lacking
      (repeat' split) <;> first | rfl | (exfalso; omega) | contradiction
    · first | have d_23 := bz_0.mp c_23 | have d_23 := bz_1.mp c_23 | skip
      refine jr_aload_n (pc := 26) h dX9_lacking_26 rfl ?_
      refine jr_aload_n (pc := 27) h dX9_lacking_27 rfl ?_
      refine jr_iload_n (pc := 28) h dX9_lacking_28 rfl ?_
      refine iv_X9_540 (pc := 29) h hl hR dX9_lacking_29 ⟨(Nat.le_of_ble_eq_true rfl), (Nat.le_of_ble_eq_true rfl), (Nat.le_of_ble_eq_true rfl), (Nat.le_of_ble_eq_true rfl)⟩ (Nat.le_of_ble_eq_true rfl) (by assumption) (by omega) (s_X9_lackingAt hX hMF hFM hsep (by omega)) (fun v_29 n_29 M_29 hn_29 hp => ?_)
      obtain ⟨⟨rfl, rfl, rfl⟩, gr_29⟩ := hp
      refine iv_X9_62 (pc := 32) h hl hR dX9_lacking_32 ⟨(Nat.le_of_ble_eq_true rfl), (Nat.le_of_ble_eq_true rfl), (Nat.le_of_ble_eq_true rfl), (Nat.le_of_ble_eq_true rfl)⟩ (Nat.le_of_ble_eq_true rfl) (by assumption) (by omega) (s_X9_done hX) (fun v_32 n_32 M_32 hn_32 hp => ?_)
      obtain ⟨⟨rfl, rfl⟩, hX, f9⟩ := hp
      have f1 := fr_tr f1 f9
      obtain ⟨hnm, hOm, hBm⟩ := id hX
      refine jr_goto (pc := 35) h 43 dX9_lacking_35 (by decide) ?_
      refine jr_iret (pc := 43) h hRt dX9_lacking_43 rfl (Nat.le_of_ble_eq_true rfl) (Nat.le_of_ble_eq_true rfl) ?_
      refine lfA9 ?_ hX f1
      unfold x_lacking
      (repeat' split) <;> first | rfl | (exfalso; omega) | contradiction
