/-! 69: the reference: met, a run begun anew, kept and gone back to -/
theorem fstZ_n {p : Int → Prop} : ∀ {d : Nat} {i : Int}, fstZ p i d = -1 → 0 ≤ i → ∀ j, i ≤ j → j < i + d → ¬ p j
  | 0, i, _, _, j, a, b => by omega
  | d + 1, i, h, h0, j, a, b => by
    rw [fstZ] at h
    by_cases q : p i
    · rw [if_pos q] at h; omega
    · rw [if_neg q] at h
      by_cases e : j = i
      · rw [e]; exact q
      · exact fstZ_n h (by omega) j (by omega) (by omega)
theorem met_row {ct td : Nat → Int} {R : FS} {x t0 : Int} (h2 : RI2 ct td R) (hRI : RI ct td R) (hF : FI ct td) (hr : c_rows ct td ≤ 40) (hov : R.1 5 < R.1 4) (hx : 1 ≤ x ∧ x ≤ c_rows ct td) (ht : 0 ≤ t0 ∧ t0 < ct 5 ∧ c_get td 5 t0 0 = 0) : c_fact R.2.2.2.1 x 0 = t0 ↔ x < R.1 4 := by
  obtain ⟨i1, -, -, -, -, hf, -⟩ := hRI
  obtain ⟨-, j2, j3, -⟩ := h2
  obtain ⟨r, rfl⟩ : ∃ r : Nat, x = (r : Int) := ⟨x.toNat, by omega⟩
  have e : c_fact R.2.2.2.1 r 0 = R.2.2.2.1 (11 * r) := by
    unfold c_fact
    rw [if_pos (by omega), show ((r : Int) * 11 + 0).toNat = 11 * r by omega]
  rw [e]
  have hf9 := hf (11 * r)
  constructor
  · intro q
    by_cases q2 : (r : Int) < R.1 4
    · exact q2
    · exfalso
      have := j3 r (by omega) hx.2
      rw [q] at this
      exact this.1 ht.2.2
  · intro q
    have h9 := j2 r (by omega) q
    generalize R.2.2.2.1 (11 * r) = a at h9 hf9
    by_cases q1 : a < t0
    · exact absurd (h9.1.trans ht.2.2.symm) (hF.2.2.1 a t0 (by omega) q1 (by omega))
    · by_cases q2 : t0 < a
      · exact absurd (ht.2.2.trans h9.1.symm) (hF.2.2.1 t0 a (by omega) q2 (by omega))
      · omega
set_option maxHeartbeats 2000000 in
set_option maxRecDepth 20000 in
theorem s_X9_met {l : Launch} {n : Nat} {M : jdM} {m : Nat} {g : Nat → Int} {w : Int} {fl rd : Value} {B : Nat → Nat → Int} (hX : MX M n m g w fl rd B) {ct td bk si ld : Nat → Int} (hFX : FX M n m fl ct td bk si ld) {g3 sp sk fa go : Nat → Int} (hRR : RRel ct td (g3, sp, sk, fa, go) (B 3)) (hRI : RI ct td (g3, sp, sk, fa, go)) (hR2 : RI2 ct td (g3, sp, sk, fa, go)) : Ct l yX9_met cX9_met 3 (some .int) rX9_met [.ref m] n M (fun vv n' M' => (vv = some (jI (x_met ct td g3).1) ∧ n = n') ∧ MX M' n m (rg g (x_met ct td g3).2) w fl rd B ∧ fr (MXf m) M M') := by
  refine Ct_of [some (.ref m), none, none] (by decide) (Nat.le_of_ble_eq_true rfl) rfl (fun κ hl h hR hRt hmn hn0 => ?_)
  have h : Ok κ RX9 cX9_met 3 (some .int) := h
  rcases hFX with ⟨rfl, hz⟩ | ⟨f, gf, A, rfl, hsep, hMF, hFM⟩
  · skip
    have hr0 := rows0 (td := td) hz
    have z2 := hz 2
    have z5 := hz 5
    obtain ⟨hnm, hOm, hBm⟩ := id hX
    have hOm : M m = jdO 9 (fX9 m _ _ .null rd) := hOm
    refine jr_aload_n (pc := 0) h dX9_met_0 rfl ?_
    refine jr_iconst (pc := 1) h dX9_met_1 ?_
    refine pf_X9_52 (pc := 2) h dX9_met_2 hOm (by omega) ?_
    refine jm_gen (fun M2 hM2 => ?_)
    rw [fX9_0] at hM2
    have hX := MX_o hX hM2
    have f9 : fr (MXf m) _ M2 := fr_up hM2 ⟨by omega, by omega⟩
    obtain ⟨hnm, hOm, hBm⟩ := id hX
    have f1 := f9
    refine jr_aload_n (pc := 5) h dX9_met_5 rfl ?_
    refine gf_X9_425 (pc := 6) h dX9_met_6 (by assumption) (by omega) ?_
    refine jr_ifnullN (pc := 9) h 24 dX9_met_9 (by decide) ?_
    refine jr_aload_n (pc := 24) h dX9_met_24 rfl ?_
    refine jr_iconst (pc := 25) h dX9_met_25 ?_
    refine iv_X9_58 (pc := 26) h hl hR dX9_met_26 ⟨(Nat.le_of_ble_eq_true rfl), (Nat.le_of_ble_eq_true rfl), (Nat.le_of_ble_eq_true rfl), (Nat.le_of_ble_eq_true rfl)⟩ (Nat.le_of_ble_eq_true rfl) (by assumption) (by omega) (s_X9_refused hX) (fun v_26 n_26 M_26 hn_26 hp => ?_)
    obtain ⟨⟨rfl, rfl⟩, hX, f9⟩ := hp
    have f1 := fr_tr f1 f9
    obtain ⟨hnm, hOm, hBm⟩ := id hX
    refine jr_iret (pc := 29) h hRt dX9_met_29 rfl (Nat.le_of_ble_eq_true rfl) (Nat.le_of_ble_eq_true rfl) ?_
    refine lfA9 ?_ hX f1
    unfold x_met
    rw [if_neg (fun ⟨i, q1, q2, q3⟩ => by omega)]
  · skip
    obtain ⟨hnm, hOm, hBm⟩ := id hX
    have hOm : M m = jdO 9 (fX9 m _ _ (.ref f) rd) := hOm
    refine jr_aload_n (pc := 0) h dX9_met_0 rfl ?_
    refine jr_iconst (pc := 1) h dX9_met_1 ?_
    refine pf_X9_52 (pc := 2) h dX9_met_2 hOm (by omega) ?_
    refine jm_gen (fun M2 hM2 => ?_)
    rw [fX9_0] at hM2
    have hX := MX_o hX hM2
    have f9 : fr (MXf m) _ M2 := fr_up hM2 ⟨by omega, by omega⟩
    obtain ⟨hnm, hOm, hBm⟩ := id hX
    have f1 := f9
    have hMF := MF_fr hMF f9 (Nat.le_refl _) (fun k h1 h2 q => by have := q.1; have := q.2; omega)
    obtain ⟨hnf, hOf, hAf⟩ := id hMF
    obtain ⟨⟨e0, e1, e2, e3, e4⟩, ⟨k5, k6, k7, k8, k9, k10, k11, k12, k13, k14, k15⟩, ⟨a2, a3, a4, a5, a6, a7, a8, a9, a10, a11, a12⟩, ⟨hlim, hLI, hends, hrt⟩, ⟨hbk, hld⟩, hc0, hc1, hc2, hc5⟩ := id hFM
    have l2 := hlim 2 (by omega)
    have l3 := hlim 3 (by omega)
    have l4 := hlim 4 (by omega)
    have l5 := hlim 5 (by omega)
    have l6 := hlim 6 (by omega)
    have l7 := hlim 7 (by omega)
    have l8 := hlim 8 (by omega)
    have l9 := hlim 9 (by omega)
    have l10 := hlim 10 (by omega)
    have l11 := hlim 11 (by omega)
    have l12 := hlim 12 (by omega)
    rw [show (jtab 0).2.2 2 = 4 from rfl] at l2
    rw [show (jtab 0).2.2 3 = 6 from rfl] at l3
    rw [show (jtab 0).2.2 4 = 6 from rfl] at l4
    rw [show (jtab 0).2.2 5 = 2 from rfl] at l5
    rw [show (jtab 0).2.2 6 = 8 from rfl] at l6
    rw [show (jtab 0).2.2 7 = 5 from rfl] at l7
    rw [show (jtab 0).2.2 8 = 6 from rfl] at l8
    rw [show (jtab 0).2.2 9 = 3 from rfl] at l9
    rw [show (jtab 0).2.2 10 = 3 from rfl] at l10
    rw [show (jtab 0).2.2 11 = 4 from rfl] at l11
    rw [show (jtab 0).2.2 12 = 4 from rfl] at l12
    have hcr : 1 ≤ c_rows ct td ∧ c_rows ct td ≤ 40 := by
      have h9 := (hLI 0 0 (by omega) (by omega) (by omega)).1 rfl
      have e9 : c_rows ct td = c_get td 0 0 0 := by unfold c_rows; rw [if_neg (by omega)]
      omega
    have hB3 : M2 (m + 3) = jdA 431 (B 3) := hBm 3 (by omega) (by omega)
    obtain ⟨hrw, hsc, hwk, hsk9, h422, hgt, h429, h430⟩ := id hRR
    replace hsc : ∀ t, t < 2 → B 3 (410 + t) = sp t := hsc
    replace hwk : ∀ t : Nat, (t : Int) < ct 5 → B 3 (412 + t) = if c_get td 5 t 0 = 0 then g3 4 - 1 else c_rows ct td - g3 5 := hwk
    replace hsk9 : ∀ j, j < 8 → B 3 (414 + j) = sk j := hsk9
    replace h422 : B 3 422 = g3 6 := h422
    replace h429 : B 3 429 = g3 7 := h429
    replace hgt : ∀ i, i < 6 → B 3 (423 + i) = go i := hgt
    replace h430 : B 3 430 = c_rows ct td - (g3 5 - g3 4 + 1) := h430
    obtain ⟨h4r, hsr, hkr, hzr, h0r, hfr, htr, h2r, h451r⟩ := id hRI
    replace h4r : 1 ≤ g3 4 ∧ g3 4 ≤ g3 5 + 1 ∧ g3 5 ≤ c_rows ct td := h4r
    replace hsr : ∀ j, 0 ≤ sp j ∧ sp j ≤ 60000 + 22000 * (c_rows ct td - (g3 5 - g3 4 + 1)) := hsr
    replace hkr : ∀ j, 0 ≤ sk j ∧ sk j ≤ 9999 := hkr
    replace hzr : 0 ≤ g3 7 ∧ g3 7 ≤ 65536 := hzr
    replace h0r : ∀ ρ : Nat, g3 4 ≤ ρ → (ρ : Int) ≤ g3 5 → ∀ o, o < 11 → fa (11 * ρ + o) = 0 := h0r
    replace hfr : ∀ j, 0 ≤ fa j ∧ fa j ≤ 5000000 := hfr
    refine jr_aload_n (pc := 5) h dX9_met_5 rfl ?_
    refine gf_X9_425 (pc := 6) h dX9_met_6 (by assumption) (by omega) ?_
    refine jr_ifnull (pc := 9) h dX9_met_9 ?_
    refine jr_aload_n (pc := 12) h dX9_met_12 rfl ?_
    refine gf_X9_425 (pc := 13) h dX9_met_13 (by assumption) (by omega) ?_
    refine jr_iconst (pc := 16) h dX9_met_16 ?_
    refine iv_X9_319 (pc := 17) h hl hR dX9_met_17 ⟨(Nat.le_of_ble_eq_true rfl), (Nat.le_of_ble_eq_true rfl), (Nat.le_of_ble_eq_true rfl), (Nat.le_of_ble_eq_true rfl)⟩ (Nat.le_of_ble_eq_true rfl) (by assumption) (by omega) (s_X8_trolleyAt hMF hFM (x := 0) (by omega)) (fun v_17 n_17 M_17 hn_17 hp => ?_)
    obtain ⟨⟨rfl, rfl, rfl⟩, gr_17⟩ := hp
    refine jr_iconst (pc := 20) h dX9_met_20 ?_
    refine jr_icmp_ne (pc := 21) h 30 dX9_met_21 (by decide) (by omega) (by omega) (fun c_21 => ?_) (fun c_21 => ?_)
    · first | have d_21 := bz_0.mp c_21 | have d_21 := bz_1.mp c_21 | skip
      have ht9 : 0 ≤ (fstZ (fun i => c_get td 5 i 0 = 0) 0 (ct 5 - 0).toNat) ∧ (fstZ (fun i => c_get td 5 i 0 = 0) 0 (ct 5 - 0).toNat) < ct 5 ∧ c_get td 5 (fstZ (fun i => c_get td 5 i 0 = 0) 0 (ct 5 - 0).toNat) 0 = 0 := by
        rcases fstZ_r (p := fun i => c_get td 5 i 0 = 0) (i := 0) (d := (ct 5 - 0).toNat) (by omega) with q | ⟨q1, q2, q3⟩
        · omega
        · exact ⟨q1, by omega, q3⟩
      refine jr_aload_n (pc := 30) h dX9_met_30 rfl ?_
      refine iv_X9_513 (pc := 31) h hl hR dX9_met_31 ⟨(Nat.le_of_ble_eq_true rfl), (Nat.le_of_ble_eq_true rfl), (Nat.le_of_ble_eq_true rfl), (Nat.le_of_ble_eq_true rfl)⟩ (Nat.le_of_ble_eq_true rfl) (by assumption) (by omega) (s_X9_isOver hX hMF hFM hsep hRR hRI) (fun v_31 n_31 M_31 hn_31 hp => ?_)
      obtain ⟨⟨rfl, rfl, rfl⟩, gr_31⟩ := hp
      refine jr_if_ne (pc := 34) h 43 dX9_met_34 (by decide) (by omega) (fun c_34 => ?_) (fun c_34 => ?_)
      · first | have d_34 := bz_0.mp c_34 | have d_34 := bz_1.mp c_34 | skip
        refine jr_iconst (pc := 43) h dX9_met_43 ?_
        refine jr_istore_n (pc := 44) h [_, _, _] dX9_met_44 (by decide) rfl ?_
        refine jr_iconst (pc := 45) h dX9_met_45 ?_
        refine jr_istore_n (pc := 46) h [_, _, _] dX9_met_46 (by decide) rfl ?_
        have hov : (g3, sp, sk, fa, go).1 5 < (g3, sp, sk, fa, go).1 4 := by show g3 5 < g3 4; omega
        have loop : ∀ (dq : Nat) (v i : Int), (1 ≤ i ∧ i ≤ c_rows ct td + 1) → (v = min (i - 1) (g3 4 - 1)) → (50 - i).toNat < dq → J κ 3 0 0 n 47 [some (.ref m), some (jI v), some (jI i)] [] M2 := by
          intro dq
          induction dq with
          | zero => intro v i hi hv hd; omega
          | succ dq ih =>
            intro v i hi hv hd
            refine jr_iload_n (pc := 47) h dX9_met_47 rfl ?_
            refine jr_aload_n (pc := 48) h dX9_met_48 rfl ?_
            refine gf_X9_425 (pc := 49) h dX9_met_49 (by assumption) (by omega) ?_
            refine gf_X9_205 (pc := 52) h dX9_met_52 (by assumption) (by omega) ?_
            refine jr_icmp_gt (pc := 55) h 88 dX9_met_55 (by decide) (by omega) (by omega) (fun c_55 => ?_) (fun c_55 => ?_)
            · first | have d_55 := bz_0.mp c_55 | have d_55 := bz_1.mp c_55 | skip
              refine jr_aload_n (pc := 88) h dX9_met_88 rfl ?_
              refine jr_iload_n (pc := 89) h dX9_met_89 rfl ?_
              refine iv_X9_62 (pc := 90) h hl hR dX9_met_90 ⟨(Nat.le_of_ble_eq_true rfl), (Nat.le_of_ble_eq_true rfl), (Nat.le_of_ble_eq_true rfl), (Nat.le_of_ble_eq_true rfl)⟩ (Nat.le_of_ble_eq_true rfl) (by assumption) (by omega) (s_X9_done hX) (fun v_90 n_90 M_90 hn_90 hp => ?_)
              obtain ⟨⟨rfl, rfl⟩, hX, f9⟩ := hp
              have f1 := fr_tr f1 f9
              obtain ⟨hnm, hOm, hBm⟩ := id hX
              refine jr_iret (pc := 93) h hRt dX9_met_93 rfl (Nat.le_of_ble_eq_true rfl) (Nat.le_of_ble_eq_true rfl) ?_
              have hov9 : g3 5 < g3 4 := hov
              refine lfA9 ?_ hX f1
              unfold x_met
              rw [if_pos ⟨_, ht9⟩, if_pos hov9, show v = g3 4 - 1 by omega]
            · first | have d_55 := bz_0.mp c_55 | have d_55 := bz_1.mp c_55 | skip
              refine jr_aload_n (pc := 58) h dX9_met_58 rfl ?_
              refine gf_X9_21 (pc := 59) h dX9_met_59 (by assumption) (by omega) ?_
              refine jr_bipush (pc := 62) h dX9_met_62 bp_10 ?_
              refine jr_iload_n (pc := 64) h dX9_met_64 rfl ?_
              refine jr_imul (pc := 65) h dX9_met_65 ?_
              refine jr_iconst (pc := 66) h dX9_met_66 ?_
              refine jr_iadd (pc := 67) h dX9_met_67 ?_
              refine jr_iald (pc := 68) h dX9_met_68 hB3 (by omega) (by omega) ?_
              have hmr := met_row (R := (g3, sp, sk, fa, go)) hR2 hRI ⟨hlim, hLI, hends, hrt⟩ (by omega) hov ⟨by omega, by omega⟩ ht9 (x := i)
              replace hmr : c_fact fa i 0 = (fstZ (fun i => c_get td 5 i 0 = 0) 0 (ct 5 - 0).toNat) ↔ i < g3 4 := hmr
              have e9 : B 3 (10 * i + 0).toNat = c_fact fa i 0 := RR_f hRR (by omega) (by omega) (by omega) (Or.inl (by show i < g3 4 ∨ g3 5 < i; have hov9 : g3 5 < g3 4 := hov; omega))
              have cr9 := hfr (i * 11 + 0).toNat
              have e8 : c_fact fa i 0 = fa (i * 11 + 0).toNat := by
                unfold c_fact
                rw [if_pos (by omega)]
              rw [e9]
              refine jr_aload_n (pc := 69) h dX9_met_69 rfl ?_
              refine gf_X9_425 (pc := 70) h dX9_met_70 (by assumption) (by omega) ?_
              refine jr_iconst (pc := 73) h dX9_met_73 ?_
              refine iv_X9_319 (pc := 74) h hl hR dX9_met_74 ⟨(Nat.le_of_ble_eq_true rfl), (Nat.le_of_ble_eq_true rfl), (Nat.le_of_ble_eq_true rfl), (Nat.le_of_ble_eq_true rfl)⟩ (Nat.le_of_ble_eq_true rfl) (by assumption) (by omega) (s_X8_trolleyAt hMF hFM (x := 0) (by omega)) (fun v_74 n_74 M_74 hn_74 hp => ?_)
              obtain ⟨⟨rfl, rfl, rfl⟩, gr_74⟩ := hp
              refine jr_icmp_ne (pc := 77) h 82 dX9_met_77 (by decide) (by omega) (by omega) (fun c_77 => ?_) (fun c_77 => ?_)
              · first | have d_77 := bz_0.mp c_77 | have d_77 := bz_1.mp c_77 | skip
                refine jr_iinc (pc := 82) h [_, _, _] dX9_met_82 (by decide) rfl rfl ?_
                refine jr_goto (pc := 85) h 47 dX9_met_85 (by decide) ?_
                refine ih _ _ (by omega) (by omega) (by omega)
              · first | have d_77 := bz_0.mp c_77 | have d_77 := bz_1.mp c_77 | skip
                refine jr_iload_n (pc := 80) h dX9_met_80 rfl ?_
                refine jr_istore_n (pc := 81) h [_, _, _] dX9_met_81 (by decide) rfl ?_
                refine jr_iinc (pc := 82) h [_, _, _] dX9_met_82 (by decide) rfl rfl ?_
                refine jr_goto (pc := 85) h 47 dX9_met_85 (by decide) ?_
                refine ih _ _ (by omega) (by omega) (by omega)
        exact loop _ _ _ (by omega) (by omega) (Nat.lt_succ_self _)
      · first | have d_34 := bz_0.mp c_34 | have d_34 := bz_1.mp c_34 | skip
        refine jr_aload_n (pc := 37) h dX9_met_37 rfl ?_
        refine jr_iconst (pc := 38) h dX9_met_38 ?_
        refine iv_X9_58 (pc := 39) h hl hR dX9_met_39 ⟨(Nat.le_of_ble_eq_true rfl), (Nat.le_of_ble_eq_true rfl), (Nat.le_of_ble_eq_true rfl), (Nat.le_of_ble_eq_true rfl)⟩ (Nat.le_of_ble_eq_true rfl) (by assumption) (by omega) (s_X9_refused hX) (fun v_39 n_39 M_39 hn_39 hp => ?_)
        obtain ⟨⟨rfl, rfl⟩, hX, f9⟩ := hp
        have f1 := fr_tr f1 f9
        obtain ⟨hnm, hOm, hBm⟩ := id hX
        refine jr_iret (pc := 42) h hRt dX9_met_42 rfl (Nat.le_of_ble_eq_true rfl) (Nat.le_of_ble_eq_true rfl) ?_
        refine lfA9 ?_ hX f1
        unfold x_met
        rw [if_pos ⟨_, ht9⟩, if_neg (by omega)]
    · first | have d_21 := bz_0.mp c_21 | have d_21 := bz_1.mp c_21 | skip
      refine jr_aload_n (pc := 24) h dX9_met_24 rfl ?_
      refine jr_iconst (pc := 25) h dX9_met_25 ?_
      refine iv_X9_58 (pc := 26) h hl hR dX9_met_26 ⟨(Nat.le_of_ble_eq_true rfl), (Nat.le_of_ble_eq_true rfl), (Nat.le_of_ble_eq_true rfl), (Nat.le_of_ble_eq_true rfl)⟩ (Nat.le_of_ble_eq_true rfl) (by assumption) (by omega) (s_X9_refused hX) (fun v_26 n_26 M_26 hn_26 hp => ?_)
      obtain ⟨⟨rfl, rfl⟩, hX, f9⟩ := hp
      have f1 := fr_tr f1 f9
      obtain ⟨hnm, hOm, hBm⟩ := id hX
      refine jr_iret (pc := 29) h hRt dX9_met_29 rfl (Nat.le_of_ble_eq_true rfl) (Nat.le_of_ble_eq_true rfl) ?_
      refine lfA9 ?_ hX f1
      unfold x_met
      rw [if_neg (fun ⟨i, q1, q2, q3⟩ => fstZ_n (p := fun i => c_get td 5 i 0 = 0) (i := 0) (d := (ct 5 - 0).toNat) (by omega) (by omega) i q1 (by omega) q3)]
set_option maxHeartbeats 1000000 in
set_option maxRecDepth 20000 in
theorem s_X9_startsAnew {l : Launch} {n : Nat} {M : jdM} {m f : Nat} {g : Nat → Int} {wd : Int} {rd : Value} {B : Nat → Nat → Int} (hX : MX M n m g wd (.ref f) rd B) {ct td bk si ld gf : Nat → Int} {A : Nat → Nat → Int} (hMF : MF M n f gf A) (hFM : FM ct td bk si ld gf A) (hsep : f + 30 < m ∨ m + 12 < f) {z : Int} : Ct l yX9_startsAnew cX9_startsAnew 4 none rX9_startsAnew [.ref m, jI z] n M (fun vv n' M' => (vv = none ∧ n = n') ∧ ∃ b', MX M' n m g wd (.ref f) rd (up B 3 b') ∧ (∀ j : Nat, j < 431 → b' j = bR ld z j) ∧ fr (MXf m) M M') := by
  refine Ct_of [some (.ref m), some (jI z), none, none] (by decide) (Nat.le_of_ble_eq_true rfl) rfl (fun κ hl h hR hRt hmn hn0 => ?_)
  have h : Ok κ RX9 cX9_startsAnew 4 none := h
  obtain ⟨hnm, hOm, hBm⟩ := id hX
  have hOm : M m = jdO 9 (fX9 m _ _ (.ref f) rd) := hOm
  obtain ⟨hnf, hOf, hAf⟩ := id hMF
  obtain ⟨⟨e0, e1, e2, e3, e4⟩, ⟨k5, k6, k7, k8, k9, k10, k11, k12, k13, k14, k15⟩, ⟨a2, a3, a4, a5, a6, a7, a8, a9, a10, a11, a12⟩, ⟨hlim, hLI, hends, hrt⟩, ⟨hbk, hld⟩, hc0, hc1, hc2, hc5⟩ := id hFM
  have l2 := hlim 2 (by omega)
  have l3 := hlim 3 (by omega)
  have l4 := hlim 4 (by omega)
  have l5 := hlim 5 (by omega)
  have l6 := hlim 6 (by omega)
  have l7 := hlim 7 (by omega)
  have l8 := hlim 8 (by omega)
  have l9 := hlim 9 (by omega)
  have l10 := hlim 10 (by omega)
  have l11 := hlim 11 (by omega)
  have l12 := hlim 12 (by omega)
  rw [show (jtab 0).2.2 2 = 4 from rfl] at l2
  rw [show (jtab 0).2.2 3 = 6 from rfl] at l3
  rw [show (jtab 0).2.2 4 = 6 from rfl] at l4
  rw [show (jtab 0).2.2 5 = 2 from rfl] at l5
  rw [show (jtab 0).2.2 6 = 8 from rfl] at l6
  rw [show (jtab 0).2.2 7 = 5 from rfl] at l7
  rw [show (jtab 0).2.2 8 = 6 from rfl] at l8
  rw [show (jtab 0).2.2 9 = 3 from rfl] at l9
  rw [show (jtab 0).2.2 10 = 3 from rfl] at l10
  rw [show (jtab 0).2.2 11 = 4 from rfl] at l11
  rw [show (jtab 0).2.2 12 = 4 from rfl] at l12
  refine jr_iconst (pc := 0) h dX9_startsAnew_0 ?_
  refine jr_istore_n (pc := 1) h [_, _, _, _] dX9_startsAnew_1 (by decide) rfl ?_
  have lp1 : ∀ (dq1 : Nat) (i : Int) (M1 : jdM) (b : Nat → Int), (0 ≤ i ∧ i ≤ 431) → (MX M1 n m g wd (.ref f) rd (up B 3 b)) → (MF M1 n f gf A) → (fr (MXf m) M M1) → (∀ j : Nat, (j : Int) < i → b j = 0) → (500 - i).toNat < dq1 → J κ 4 0 0 n 2 [some (.ref m), some (jI z), some (jI i), none] [] M1 := by
    intro dq1
    induction dq1 with
    | zero => intro i M1 b hi hX hMF f1 hb1 hd; omega
    | succ dq1 ih1 =>
      intro i M1 b hi hX hMF f1 hb1 hd
      obtain ⟨hnm, hOm, hBm⟩ := id hX
      have hOm : M1 m = jdO 9 (fX9 m _ _ (.ref f) rd) := hOm
      have hB3 : M1 (m + 3) = jdA 431 b := hBm 3 (by omega) (by omega)
      obtain ⟨hnf, hOf, hAf⟩ := id hMF
      refine jr_iload_n (pc := 2) h dX9_startsAnew_2 rfl ?_
      refine jr_sipush (pc := 3) h dX9_startsAnew_3 sp_431 ?_
      refine jr_icmp_ge (pc := 6) h 22 dX9_startsAnew_6 (by decide) (by omega) (by omega) (fun c_6 => ?_) (fun c_6 => ?_)
      · skip
        refine jr_iconst (pc := 22) h dX9_startsAnew_22 ?_
        refine jr_istore_n (pc := 23) h [_, _, _, _] dX9_startsAnew_23 (by decide) rfl ?_
        have lp2 : ∀ (dq2 : Nat) (i : Int) (M1 : jdM) (b : Nat → Int), (0 ≤ i ∧ i ≤ 41) → (MX M1 n m g wd (.ref f) rd (up B 3 b)) → (MF M1 n f gf A) → (fr (MXf m) M M1) → (∀ j : Nat, j < 431 → b j = if (j : Int) < 10 * i ∧ j < 410 ∧ j % 10 = 0 then -1 else 0) → (50 - i).toNat < dq2 → J κ 4 0 0 n 24 [some (.ref m), some (jI z), some (jI i), none] [] M1 := by
          intro dq2
          induction dq2 with
          | zero => intro i M1 b hi hX hMF f1 hb2 hd; omega
          | succ dq2 ih2 =>
            intro i M1 b hi hX hMF f1 hb2 hd
            obtain ⟨hnm, hOm, hBm⟩ := id hX
            have hOm : M1 m = jdO 9 (fX9 m _ _ (.ref f) rd) := hOm
            have hB3 : M1 (m + 3) = jdA 431 b := hBm 3 (by omega) (by omega)
            obtain ⟨hnf, hOf, hAf⟩ := id hMF
            refine jr_iload_n (pc := 24) h dX9_startsAnew_24 rfl ?_
            refine jr_bipush (pc := 25) h dX9_startsAnew_25 bp_40 ?_
            refine jr_icmp_gt (pc := 27) h 48 dX9_startsAnew_27 (by decide) (by omega) (by omega) (fun c_27 => ?_) (fun c_27 => ?_)
            · skip
              refine jr_iconst (pc := 48) h dX9_startsAnew_48 ?_
              refine jr_istore_n (pc := 49) h [_, _, _, _] dX9_startsAnew_49 (by decide) rfl ?_
              have lt3 : ∀ (dq3 : Nat) (t : Int) (lc : Option Value) (M1 : jdM) (b : Nat → Int), (0 ≤ t ∧ t ≤ ct 5) → (MX M1 n m g wd (.ref f) rd (up B 3 b)) → (MF M1 n f gf A) → (fr (MXf m) M M1) → (∀ j : Nat, j < 431 → b j = if j < 410 ∧ j % 10 = 0 then -1 else if 414 ≤ j ∧ j < 422 ∧ (((j - 414) / 4 : Nat) < t ∨ ((((j - 414) / 4 : Nat) : Int) = t ∧ (((j - 414) % 4 : Nat) : Int) < (0 : Int))) then ld (j - 414) else 0) → (5 - t).toNat < dq3 → J κ 4 0 0 n 50 [some (.ref m), some (jI z), some (jI t), lc] [] M1 := by
                intro dq3
                induction dq3 with
                | zero => intro t lc M1 b ht hX hMF f1 hb3 hd; omega
                | succ dq3 ih3 =>
                  intro t lc M1 b ht hX hMF f1 hb3 hd
                  obtain ⟨hnm, hOm, hBm⟩ := id hX
                  have hOm : M1 m = jdO 9 (fX9 m _ _ (.ref f) rd) := hOm
                  have hB3 : M1 (m + 3) = jdA 431 b := hBm 3 (by omega) (by omega)
                  obtain ⟨hnf, hOf, hAf⟩ := id hMF
                  refine jr_iload_n (pc := 50) h dX9_startsAnew_50 rfl ?_
                  refine jr_aload_n (pc := 51) h dX9_startsAnew_51 rfl ?_
                  refine gf_X9_425 (pc := 52) h dX9_startsAnew_52 (by assumption) (by omega) ?_
                  refine gf_X9_214 (pc := 55) h dX9_startsAnew_55 (by assumption) (by omega) ?_
                  refine jr_icmp_ge (pc := 58) h 113 dX9_startsAnew_58 (by decide) (by omega) (by omega) (fun c_58 => ?_) (fun c_58 => ?_)
                  · skip
                    refine jr_aload_n (pc := 113) h dX9_startsAnew_113 rfl ?_
                    refine gf_X9_21 (pc := 114) h dX9_startsAnew_114 (by assumption) (by omega) ?_
                    refine jr_sipush (pc := 117) h dX9_startsAnew_117 sp_429 ?_
                    refine jr_iload_n (pc := 120) h dX9_startsAnew_120 rfl ?_
                    refine jr_iast (pc := 121) h (i := ((429 : Nat) : Int)) dX9_startsAnew_121 hB3 (by omega) (by omega) ?_
                    refine jm_gen (fun M2 hM2 => ?_)
                    rw [show (((429 : Nat) : Int)).toNat = 429 from rfl] at hM2
                    have hX := MX_B (i := 3) hX hM2 (by omega)
                    rw [up_up] at hX
                    have f9 : fr (MXf m) _ M2 := fr_up (S := MXf m) hM2 ⟨by omega, by omega⟩
                    have f1 := fr_tr f1 f9
                    refine jr_vret (pc := 122) h hRt dX9_startsAnew_122 (Nat.le_of_ble_eq_true rfl) (Nat.le_of_ble_eq_true rfl) ?_
                    refine ⟨⟨rfl, rfl⟩, _, hX, ?_, f1⟩
                    intro j hj
                    by_cases q : j = 429
                    · rw [q, up_eq]
                      unfold bR
                      rw [if_neg (by omega), if_neg (by omega), if_pos rfl]
                    · rw [up_ne q, hb3 j hj]
                      unfold bR
                      by_cases q1 : j < 410 ∧ j % 10 = 0
                      · rw [if_pos q1, if_pos q1]
                      · rw [if_neg q1, if_neg q1]
                        by_cases q2 : 414 ≤ j ∧ j < 422
                        · rw [if_pos q2]
                          by_cases q3 : 414 ≤ j ∧ j < 422 ∧ (((j - 414) / 4 : Nat) < t ∨ ((((j - 414) / 4 : Nat) : Int) = t ∧ (((j - 414) % 4 : Nat) : Int) < 0))
                          · rw [if_pos q3]
                          · rw [if_neg q3, show j - 414 = 4 * ((j - 414) / 4) + (j - 414) % 4 by omega]
                            exact (ld_z ⟨hlim, hLI, hends, hrt⟩ ⟨hbk, hld⟩ _ _ (by omega) (by omega) (Or.inr (by omega))).symm
                        · rw [if_neg q2, if_neg q, if_neg (by omega)]
                  · skip
                    refine jr_iconst (pc := 61) h dX9_startsAnew_61 ?_
                    refine jr_istore_n (pc := 62) h [_, _, _, _] dX9_startsAnew_62 (by decide) rfl ?_
                    have ld4 : ∀ (dq4 : Nat) (k : Int) (M1 : jdM) (b : Nat → Int), (0 ≤ k ∧ k ≤ ct 2) → (MX M1 n m g wd (.ref f) rd (up B 3 b)) → (MF M1 n f gf A) → (fr (MXf m) M M1) → (∀ j : Nat, j < 431 → b j = if j < 410 ∧ j % 10 = 0 then -1 else if 414 ≤ j ∧ j < 422 ∧ (((j - 414) / 4 : Nat) < t ∨ ((((j - 414) / 4 : Nat) : Int) = t ∧ (((j - 414) % 4 : Nat) : Int) < k)) then ld (j - 414) else 0) → (5 - k).toNat < dq4 → J κ 4 0 0 n 63 [some (.ref m), some (jI z), some (jI t), some (jI k)] [] M1 := by
                      intro dq4
                      induction dq4 with
                      | zero => intro k M1 b hk hX hMF f1 hb4 hd; omega
                      | succ dq4 ih4 =>
                        intro k M1 b hk hX hMF f1 hb4 hd
                        obtain ⟨hnm, hOm, hBm⟩ := id hX
                        have hOm : M1 m = jdO 9 (fX9 m _ _ (.ref f) rd) := hOm
                        have hB3 : M1 (m + 3) = jdA 431 b := hBm 3 (by omega) (by omega)
                        obtain ⟨hnf, hOf, hAf⟩ := id hMF
                        have hA11 : M1 (f + 11) = jdA 8 (A 11) := hAf 11 (by omega) (by omega)
                        refine jr_iload_n (pc := 63) h dX9_startsAnew_63 rfl ?_
                        refine jr_aload_n (pc := 64) h dX9_startsAnew_64 rfl ?_
                        refine gf_X9_425 (pc := 65) h dX9_startsAnew_65 (by assumption) (by omega) ?_
                        refine gf_X9_211 (pc := 68) h dX9_startsAnew_68 (by assumption) (by omega) ?_
                        refine jr_icmp_ge (pc := 71) h 107 dX9_startsAnew_71 (by decide) (by omega) (by omega) (fun c_71 => ?_) (fun c_71 => ?_)
                        · skip
                          refine jr_iinc (pc := 107) h [_, _, _, _] dX9_startsAnew_107 (by decide) rfl rfl ?_
                          refine jr_goto (pc := 110) h 50 dX9_startsAnew_110 (by decide) ?_
                          refine ih3 _ _ _ _ (by omega) hX hMF f1 ?_ (by omega)
                          intro j hj
                          rw [hb4 j hj]
                          by_cases q1 : j < 410 ∧ j % 10 = 0
                          · rw [if_pos q1, if_pos q1]
                          · rw [if_neg q1, if_neg q1]
                            by_cases q2 : 414 ≤ j ∧ j < 422 ∧ (((j - 414) / 4 : Nat) < t ∨ ((((j - 414) / 4 : Nat) : Int) = t ∧ (((j - 414) % 4 : Nat) : Int) < k))
                            · rw [if_pos q2, if_pos (by omega)]
                            · rw [if_neg q2]
                              by_cases q3 : 414 ≤ j ∧ j < 422 ∧ (((j - 414) / 4 : Nat) < t + 1 ∨ ((((j - 414) / 4 : Nat) : Int) = t + 1 ∧ (((j - 414) % 4 : Nat) : Int) < 0))
                              · rw [if_pos q3, show j - 414 = 4 * ((j - 414) / 4) + (j - 414) % 4 by omega]
                                exact (ld_z ⟨hlim, hLI, hends, hrt⟩ ⟨hbk, hld⟩ _ _ (by omega) (by omega) (Or.inl (by omega))).symm
                              · rw [if_neg q3]
                        · skip
                          refine jr_aload_n (pc := 74) h dX9_startsAnew_74 rfl ?_
                          refine gf_X9_21 (pc := 75) h dX9_startsAnew_75 (by assumption) (by omega) ?_
                          refine jr_sipush (pc := 78) h dX9_startsAnew_78 sp_414 ?_
                          refine jr_iconst (pc := 81) h dX9_startsAnew_81 ?_
                          refine jr_iload_n (pc := 82) h dX9_startsAnew_82 rfl ?_
                          refine jr_imul (pc := 83) h dX9_startsAnew_83 ?_
                          refine jr_iadd (pc := 84) h dX9_startsAnew_84 ?_
                          refine jr_iload_n (pc := 85) h dX9_startsAnew_85 rfl ?_
                          refine jr_iadd (pc := 86) h dX9_startsAnew_86 ?_
                          refine jr_aload_n (pc := 87) h dX9_startsAnew_87 rfl ?_
                          refine gf_X9_425 (pc := 88) h dX9_startsAnew_88 (by assumption) (by omega) ?_
                          refine gf_X9_337 (pc := 91) h dX9_startsAnew_91 (by assumption) (by omega) ?_
                          refine jr_iconst (pc := 94) h dX9_startsAnew_94 ?_
                          refine jr_iload_n (pc := 95) h dX9_startsAnew_95 rfl ?_
                          refine jr_imul (pc := 96) h dX9_startsAnew_96 ?_
                          refine jr_iload_n (pc := 97) h dX9_startsAnew_97 rfl ?_
                          refine jr_iadd (pc := 98) h dX9_startsAnew_98 ?_
                          refine jr_iald (pc := 99) h dX9_startsAnew_99 (by assumption) (by omega) (by omega) ?_
                          refine jr_iast (pc := 100) h dX9_startsAnew_100 hB3 (by omega) (by omega) ?_
                          refine jm_gen (fun M2 hM2 => ?_)
                          rw [show (414 + 4 * t + k).toNat = 414 + (4 * t.toNat + k.toNat) by omega] at hM2
                          have hX := MX_B (i := 3) hX hM2 (by omega)
                          rw [up_up] at hX
                          have f9 : fr (MXf m) _ M2 := fr_up (S := MXf m) hM2 ⟨by omega, by omega⟩
                          have f1 := fr_tr f1 f9
                          have hMF := MF_fr hMF f9 (Nat.le_refl _) (fun k h1 h2 q => by have := q.1; have := q.2; omega)
                          obtain ⟨hnf, hOf, hAf⟩ := id hMF
                          obtain ⟨hnm, hOm, hBm⟩ := id hX
                          have hOm : M2 m = jdO 9 (fX9 m _ _ (.ref f) rd) := hOm
                          refine jr_iinc (pc := 101) h [_, _, _, _] dX9_startsAnew_101 (by decide) rfl rfl ?_
                          refine jr_goto (pc := 104) h 63 dX9_startsAnew_104 (by decide) ?_
                          refine ih4 _ _ _ (by omega) hX hMF f1 ?_ (by omega)
                          intro j hj
                          by_cases q : j = 414 + (4 * t.toNat + k.toNat)
                          · rw [q, up_eq, if_neg (by omega), if_pos (by omega), show 414 + (4 * t.toNat + k.toNat) - 414 = 4 * t.toNat + k.toNat by omega]
                            rw [show (4 * t + k).toNat = 4 * t.toNat + k.toNat by omega, a6 _ (by omega), hld _ (by omega)]
                          · rw [up_ne q, hb4 j hj]
                            by_cases q1 : j < 410 ∧ j % 10 = 0
                            · rw [if_pos q1, if_pos q1]
                            · rw [if_neg q1, if_neg q1]
                              by_cases q2 : 414 ≤ j ∧ j < 422 ∧ (((j - 414) / 4 : Nat) < t ∨ ((((j - 414) / 4 : Nat) : Int) = t ∧ (((j - 414) % 4 : Nat) : Int) < k))
                              · rw [if_pos q2, if_pos (by omega)]
                              · rw [if_neg q2, if_neg (by omega)]
                    exact ld4 _ _ _ _ (by omega) hX hMF f1 hb3 (Nat.lt_succ_self _)
              refine lt3 _ _ _ _ _ (by omega) hX hMF f1 ?_ (Nat.lt_succ_self _)
              intro j hj
              rw [hb2 j hj]
              by_cases q1 : j < 410 ∧ j % 10 = 0
              · rw [if_pos q1, if_pos (by omega)]
              · rw [if_neg q1, if_neg (by omega), if_neg (by omega)]
            · skip
              refine jr_aload_n (pc := 30) h dX9_startsAnew_30 rfl ?_
              refine gf_X9_21 (pc := 31) h dX9_startsAnew_31 (by assumption) (by omega) ?_
              refine jr_bipush (pc := 34) h dX9_startsAnew_34 bp_10 ?_
              refine jr_iload_n (pc := 36) h dX9_startsAnew_36 rfl ?_
              refine jr_imul (pc := 37) h dX9_startsAnew_37 ?_
              refine jr_iconst (pc := 38) h dX9_startsAnew_38 ?_
              refine jr_iadd (pc := 39) h dX9_startsAnew_39 ?_
              refine jr_iconst (pc := 40) h dX9_startsAnew_40 ?_
              refine jr_iast (pc := 41) h dX9_startsAnew_41 hB3 (by omega) (by omega) ?_
              refine jm_gen (fun M2 hM2 => ?_)
              rw [show (10 * i + 0).toNat = 10 * i.toNat by omega] at hM2
              have hX := MX_B (i := 3) hX hM2 (by omega)
              rw [up_up] at hX
              have f9 : fr (MXf m) _ M2 := fr_up (S := MXf m) hM2 ⟨by omega, by omega⟩
              have f1 := fr_tr f1 f9
              have hMF := MF_fr hMF f9 (Nat.le_refl _) (fun k h1 h2 q => by have := q.1; have := q.2; omega)
              obtain ⟨hnf, hOf, hAf⟩ := id hMF
              obtain ⟨hnm, hOm, hBm⟩ := id hX
              have hOm : M2 m = jdO 9 (fX9 m _ _ (.ref f) rd) := hOm
              refine jr_iinc (pc := 42) h [_, _, _, _] dX9_startsAnew_42 (by decide) rfl rfl ?_
              refine jr_goto (pc := 45) h 24 dX9_startsAnew_45 (by decide) ?_
              refine ih2 _ _ _ (by omega) hX hMF f1 ?_ (by omega)
              intro j hj
              by_cases q : j = 10 * i.toNat
              · rw [q, up_eq, if_pos (by omega)]
              · rw [up_ne q, hb2 j hj]
                by_cases q1 : (j : Int) < 10 * i ∧ j < 410 ∧ j % 10 = 0
                · rw [if_pos q1, if_pos (by omega)]
                · rw [if_neg q1, if_neg (by omega)]
        refine lp2 _ _ _ _ (by omega) hX hMF f1 ?_ (Nat.lt_succ_self _)
        intro j hj
        rw [hb1 j (by omega), if_neg (by omega)]
      · skip
        refine jr_aload_n (pc := 9) h dX9_startsAnew_9 rfl ?_
        refine gf_X9_21 (pc := 10) h dX9_startsAnew_10 (by assumption) (by omega) ?_
        refine jr_iload_n (pc := 13) h dX9_startsAnew_13 rfl ?_
        refine jr_iconst (pc := 14) h dX9_startsAnew_14 ?_
        refine jr_iast (pc := 15) h dX9_startsAnew_15 hB3 (by omega) (by omega) ?_
        refine jm_gen (fun M2 hM2 => ?_)
        rw [show (i).toNat = i.toNat by omega] at hM2
        have hX := MX_B (i := 3) hX hM2 (by omega)
        rw [up_up] at hX
        have f9 : fr (MXf m) _ M2 := fr_up (S := MXf m) hM2 ⟨by omega, by omega⟩
        have f1 := fr_tr f1 f9
        have hMF := MF_fr hMF f9 (Nat.le_refl _) (fun k h1 h2 q => by have := q.1; have := q.2; omega)
        obtain ⟨hnf, hOf, hAf⟩ := id hMF
        obtain ⟨hnm, hOm, hBm⟩ := id hX
        have hOm : M2 m = jdO 9 (fX9 m _ _ (.ref f) rd) := hOm
        refine jr_iinc (pc := 16) h [_, _, _, _] dX9_startsAnew_16 (by decide) rfl rfl ?_
        refine jr_goto (pc := 19) h 2 dX9_startsAnew_19 (by decide) ?_
        refine ih1 _ _ _ (by omega) hX hMF f1 ?_ (by omega)
        intro j hj
        by_cases q : j = i.toNat
        · rw [q, up_eq]
        · rw [up_ne q]; exact hb1 j (by omega)
  exact lp1 _ _ _ (B 3) (by omega) (by rw [up_self]; exact hX) hMF fr_rf (fun j hj => by omega) (Nat.lt_succ_self _)
