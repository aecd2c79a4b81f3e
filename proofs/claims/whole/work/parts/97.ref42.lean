/-! 97: the reference: cabin and heat told -/
theorem RB_g {gF gF' : Nat → Int} {A : Nat → Nat → Int} (h : RB gF A) (hk : ∀ j, 5 ≤ j → gF' j = gF j) (h0 : 0 ≤ gF' 0 ∧ gF' 0 ≤ 999) (h3 : -1 ≤ gF' 3 ∧ gF' 3 ≤ 999) : RB gF' A := by
  obtain ⟨hn, hc, -, -, h8⟩ := h
  refine ⟨NB_k hn (hk 16 (by omega)) (fun _ _ => rfl), ?_, h0, h3, h8⟩
  rw [hk 5 (by omega), hk 6 (by omega), hk 7 (by omega), hk 8 (by omega), hk 9 (by omega), hk 10 (by omega), hk 11 (by omega), hk 12 (by omega), hk 13 (by omega), hk 14 (by omega), hk 15 (by omega)]
  exact hc
theorem FR_u01 {p p' : TS} {ct td td' gF gF' : Nat → Int} {A : Nat → Nat → Int} {s : Nat} (hFR : FR p ct td gF A) (hs : s < 2) (hlim : ct s < (jtab 0).2.2 s) (hO : OUT ct s td td') (hr : ∀ j, 0 ≤ td' j ∧ td' j ≤ 999) (hnew : LI (ct 2) (ct 5) td' s (ct s)) (hg : ∀ j, 5 ≤ j → gF' j = gF j) (hK : K12 p p') (hH : HG (up ct s (ct s + 1)) td' gF') : FR p' (up ct s (ct s + 1)) td' gF' A := by
  obtain ⟨h1, h2, h3, h4, h5, h6, h7⟩ := hFR
  refine ⟨FA_upd h3 h1 (by omega) hlim hO (fun _ _ _ _ => rfl) ⟨fun q => absurd q (by omega), fun q => absurd q (by omega), fun q => absurd q (by omega), fun q => absurd q (by omega), fun q => absurd q (by omega), fun q => absurd q (by omega), fun q => absurd q (by omega), fun q => absurd q (by omega), fun q => absurd q (by omega), fun q => absurd q (by omega), fun q => absurd q (by omega)⟩ (fun q => absurd q (by omega)), ?_, FI_upd h3 (by omega) hlim hO hr hnew (fun q => absurd q (by omega)), NR_K h4 hK (hg 16 (by omega)) (fun _ _ => rfl), NI_K h5 hK (by rw [up_ne (by omega)]; exact Int.le_refl _) (by rw [up_ne (by omega)]; exact Int.le_refl _), hH, ?_⟩
  · obtain ⟨k5, k6, k7, k8, k9, k10, k11, k12, k13, k14, k15⟩ := h2
    refine ⟨?_, ?_, ?_, ?_, ?_, ?_, ?_, ?_, ?_, ?_, ?_⟩ <;> rw [up_ne (by omega), hg _ (by omega)] <;> assumption
  · rw [hK.2, up_ne (by omega), up_ne (by omega), up_ne (by omega), up_ne (by omega)]
    exact h7
set_option maxHeartbeats 1000000 in
set_option maxRecDepth 20000 in
theorem s_X9_readCabin {l : Launch} {n : Nat} {M : jdM} {m f2 : Nat} {g : Nat → Int} {w : Int} {fl : Value} {B : Nat → Nat → Int} (hX : MX M n m g w fl (.ref f2) B) {bs : Nat → Int} (hbt : ∀ j, j < 900 → B 1 j = bs j) (hbb : ∀ j, -128 ≤ bs j ∧ bs j ≤ 127) {p : TS} (hTR : TR bs p g w) (hPO : PO p) {gF : Nat → Int} {A : Nat → Nat → Int} (hMF : MF M n f2 gF A) (hsep : f2 + 30 < m ∨ m + 12 < f2) (hRB : RB gF A) {ct td : Nat → Int} (hFR : FR p ct td gF A) (q7 : p.1 7 = 0) (q4 : p.1 4 = 1) : Ct l yX9_readCabin cX9_readCabin 2 none rX9_readCabin [.ref m] n M (fun vv n' M' => (vv = none ∧ n = n') ∧ ∃ g' w' gF' A', MX M' n m g' w' fl (.ref f2) B ∧ gkp g g' ∧ TR bs (tlnP bs ct td 0 p).1 g' w' ∧ MF M' n f2 gF' A' ∧ RB gF' A' ∧ ((tlnP bs ct td 0 p).1.1 7 = 0 → FR (tlnP bs ct td 0 p).1 (tlnP bs ct td 0 p).2.1 (tlnP bs ct td 0 p).2.2 gF' A') ∧ fr (RFS m f2) M M') := by
  refine Ct_of [some (.ref m), none] (by decide) (Nat.le_of_ble_eq_true rfl) rfl (fun κ hl h hR hRt hmn hn0 => ?_)
  have h : Ok κ RX9 cX9_readCabin 2 none := h
  obtain ⟨hnm, hOm, hBm⟩ := id hX
  have hOm : M m = jdO 9 (fX9 m _ _ fl (.ref f2)) := hOm
  obtain ⟨hnf, hOf, hAf⟩ := id hMF
  have fR : fr (RFS m f2) M M := fr_rf
  have hgk : gkp g g := gkp_r
  have hNB := hRB.1
  obtain ⟨hcb, h0b, h3b, h8b⟩ := hRB.2
  have hNRp := hFR.2.2.2.1
  have hNIp := hFR.2.2.2.2.1
  have hcnt := hFR.2.2.2.2.2.2
  obtain ⟨k5, k6, k7, k8, k9, k10, k11, k12, k13, k14, k15⟩ := hFR.2.1
  have hNBc := hNB.1
  have hl0 := hFR.2.2.1.1 0 (by omega)
  have hl1 := hFR.2.2.1.1 1 (by omega)
  rw [show (jtab 0).2.2 0 = 1 from rfl] at hl0
  rw [show (jtab 0).2.2 1 = 1 from rfl] at hl1
  have hct0 : (ct 0 = 0 ∧ gF 0 = 0) ∨ (ct 0 = 1 ∧ 2 ≤ gF 0) := by
    obtain ⟨z1, z2, -, -⟩ := hFR.2.2.2.2.2.1
    by_cases q : ct 0 = 0
    · exact Or.inl ⟨q, z1 q⟩
    · have q1 : ct 0 = 1 := by omega
      have := (hFR.2.2.1.2.1 0 0 (by omega) (by omega) (by omega)).1 rfl
      exact Or.inr ⟨q1, by rw [(z2 q1).1]; exact this.1⟩
  refine jr_aload_n (pc := 0) h dX9_readCabin_0 rfl ?_
  refine gf_X9_174 (pc := 1) h dX9_readCabin_1 (by assumption) (by omega) ?_
  refine gf_X9_205 (pc := 4) h dX9_readCabin_4 (by assumption) (by omega) ?_
  refine jr_if_le (pc := 7) h 15 dX9_readCabin_7 (by decide) (by omega) (fun c_7 => ?_) (fun c_7 => ?_)
  · first | have d_7 := bz_0.mp c_7 | have d_7 := bz_1.mp c_7 | skip
    refine jr_aload_n (pc := 15) h dX9_readCabin_15 rfl ?_
    refine iv_X9_123 (pc := 16) h hl hR dX9_readCabin_16 ⟨(Nat.le_of_ble_eq_true rfl), (Nat.le_of_ble_eq_true rfl), (Nat.le_of_ble_eq_true rfl), (Nat.le_of_ble_eq_true rfl)⟩ (Nat.le_of_ble_eq_true rfl) (by assumption) (by omega) (s_X9_goesOn hX hbt hbb (p := p) hTR hPO (fun _ => by omega)) (fun v_16 n_16 M_16 hn_16 hp => ?_)
    obtain ⟨⟨rfl, rfl⟩, g1, w1, hX, hg1, hTR, f9⟩ := hp
    have fR := fr_tr fR (fr_mo f9 (fun k q => Or.inl q))
    have hgk := gkp_t hgk hg1
    have hMF := MF_fr hMF f9 (Nat.le_refl _) (fun k h1 h2 q => by have := q.1; have := q.2; omega)
    rw [goP_0 q7] at hTR
    obtain ⟨p0, ep0⟩ : ∃ z, nxP bs p = z := ⟨_, rfl⟩
    rw [ep0] at hTR
    have hc0 : (ct 0 = 1 ∧ p0 = flP 3 p) ∨ (ct 0 < 1 ∧ p0 = nxP bs p) := Or.inr ⟨by omega, ep0.symm⟩
    replace hPO : PO p0 := by rw [← ep0]; exact nxP_O hPO
    have hok0 : Imp (OKp p0) (ct 0 < 1 ∧ p0 = nxP bs p ∧ K12 p p0) := fun q => by
      rcases hc0 with ⟨-, e⟩ | ⟨h9, e⟩
      · rw [e] at q; exact absurd q (flP_x (by omega))
      · exact ⟨h9, e, by rw [e]; exact K12_nx⟩
    have hNRc : Imp (p0.1 7 = 0) (NR p0 gF A) := fun q => NR_K hNRp (hok0 q).2.2 rfl (fun _ _ => rfl)
    have hNIc : Imp (p0.1 7 = 0) (NI p0 ct) := fun q => NI_K hNIp (hok0 q).2.2 (Int.le_refl _) (Int.le_refl _)
    obtain ⟨hnm, hOm, hBm⟩ := id hX
    have hOm : M_16 m = jdO 9 (fX9 m _ _ fl (.ref f2)) := hOm
    obtain ⟨hnf, hOf, hAf⟩ := id hMF
    
    refine jr_aload_n (pc := 19) h dX9_readCabin_19 rfl ?_
    refine jr_ldcwS (pc := 20) h 24 (by decide) ⟨rfl, rfl⟩ dX9_readCabin_20 ?_
    refine jr_iconst (pc := 23) h dX9_readCabin_23 ?_
    refine jr_bipush (pc := 24) h dX9_readCabin_24 bp_40 ?_
    refine iv_X9_257 (pc := 26) h hl hR dX9_readCabin_26 ⟨(Nat.le_of_ble_eq_true rfl), (Nat.le_of_ble_eq_true rfl), (Nat.le_of_ble_eq_true rfl), (Nat.le_of_ble_eq_true rfl)⟩ (Nat.le_of_ble_eq_true rfl) (by assumption) (by omega) (s_X9_readPart hX hbt hbb (p := p0) (k := 24) (x := 2) (y := 40) hTR hPO (by omega) (by omega) (by omega) (by omega)) (fun v_26 n_26 M_26 hn_26 hp => ?_)
    obtain ⟨v1, ⟨rfl, rfl⟩, hvr1, hve1, g1, w1, hX, hg1, hTR, f9⟩ := hp
    have fR := fr_tr fR (fr_mo f9 (fun k q => Or.inl q))
    have hgk := gkp_t hgk hg1
    have hMF := MF_fr hMF f9 (Nat.le_refl _) (fun k h1 h2 q => by have := q.1; have := q.2; omega)
    rw [lb_c (show jtxt 24 = jtxt 17 from rfl)] at hve1 hTR
    obtain ⟨p1, ep1⟩ : ∃ z, (lbP bs 17 2 40 p0).2 = z := ⟨_, rfl⟩
    rw [ep1] at hTR hve1
    replace hPO : PO p1 := by rw [← ep1]; exact (fun h => ehP_O (ewP_O h)) hPO
    have hok1 : Imp (OKp p1) (OKp p0 ∧ K12 p0 p1 ∧ v1 = (lbP bs 17 2 40 p0).1 ∧ (2 ≤ v1 ∧ v1 ≤ 40)) := fun q => by
      have e := hve1 q
      rw [← ep1] at q ⊢
      have h9 := ok_lb q
      rw [e]
      exact ⟨h9.1, h9.2.2, rfl, h9.2.1⟩
    clear hve1
    have hf1 : Imp (p0.1 7 ≠ 0) (p1 = p0) := fun q => by rw [← ep1]; exact xP_f_lb q
    have hNRc : Imp (p1.1 7 = 0) (NR p1 gF A) := fun q => NR_K (hNRc (hok1 q).1) (hok1 q).2.1 rfl (fun _ _ => rfl)
    have hNIc : Imp (p1.1 7 = 0) (NI p1 ct) := fun q => NI_K (hNIc (hok1 q).1) (hok1 q).2.1 (Int.le_refl _) (Int.le_refl _)
    obtain ⟨hnm, hOm, hBm⟩ := id hX
    have hOm : M_26 m = jdO 9 (fX9 m _ _ fl (.ref f2)) := hOm
    obtain ⟨hnf, hOf, hAf⟩ := id hMF
    
    have h5r := (TR_5 hTR hPO).2.2
    refine jr_istore_n (pc := 29) h [_, _] dX9_readCabin_29 (by decide) rfl ?_
    refine jr_aload_n (pc := 30) h dX9_readCabin_30 rfl ?_
    refine gf_X9_174 (pc := 31) h dX9_readCabin_31 (by assumption) (by omega) ?_
    refine jr_aload_n (pc := 34) h dX9_readCabin_34 rfl ?_
    refine jr_ldcwS (pc := 35) h 25 (by decide) ⟨rfl, rfl⟩ dX9_readCabin_35 ?_
    refine jr_iconst (pc := 38) h dX9_readCabin_38 ?_
    refine jr_bipush (pc := 39) h dX9_readCabin_39 bp_60 ?_
    refine iv_X9_257 (pc := 41) h hl hR dX9_readCabin_41 ⟨(Nat.le_of_ble_eq_true rfl), (Nat.le_of_ble_eq_true rfl), (Nat.le_of_ble_eq_true rfl), (Nat.le_of_ble_eq_true rfl)⟩ (Nat.le_of_ble_eq_true rfl) (by assumption) (by omega) (s_X9_readPart hX hbt hbb (p := p1) (k := 25) (x := 0) (y := 60) hTR hPO (by omega) (by omega) (by omega) (by omega)) (fun v_41 n_41 M_41 hn_41 hp => ?_)
    obtain ⟨v2, ⟨rfl, rfl⟩, hvr2, hve2, g1, w1, hX, hg1, hTR, f9⟩ := hp
    have fR := fr_tr fR (fr_mo f9 (fun k q => Or.inl q))
    have hgk := gkp_t hgk hg1
    have hMF := MF_fr hMF f9 (Nat.le_refl _) (fun k h1 h2 q => by have := q.1; have := q.2; omega)
    rw [lb_c (show jtxt 25 = jtxt 18 from rfl)] at hve2 hTR
    obtain ⟨p2, ep2⟩ : ∃ z, (lbP bs 18 0 60 p1).2 = z := ⟨_, rfl⟩
    rw [ep2] at hTR hve2
    replace hPO : PO p2 := by rw [← ep2]; exact (fun h => ehP_O (ewP_O h)) hPO
    have hok2 : Imp (OKp p2) (OKp p1 ∧ K12 p1 p2 ∧ v2 = (lbP bs 18 0 60 p1).1 ∧ (0 ≤ v2 ∧ v2 ≤ 60)) := fun q => by
      have e := hve2 q
      rw [← ep2] at q ⊢
      have h9 := ok_lb q
      rw [e]
      exact ⟨h9.1, h9.2.2, rfl, h9.2.1⟩
    clear hve2
    have hf2 : Imp (p1.1 7 ≠ 0) (p2 = p1) := fun q => by rw [← ep2]; exact xP_f_lb q
    have hNRc : Imp (p2.1 7 = 0) (NR p2 gF A) := fun q => NR_K (hNRc (hok2 q).1) (hok2 q).2.1 rfl (fun _ _ => rfl)
    have hNIc : Imp (p2.1 7 = 0) (NI p2 ct) := fun q => NI_K (hNIc (hok2 q).1) (hok2 q).2.1 (Int.le_refl _) (Int.le_refl _)
    obtain ⟨hnm, hOm, hBm⟩ := id hX
    have hOm : M_41 m = jdO 9 (fX9 m _ _ fl (.ref f2)) := hOm
    obtain ⟨hnf, hOf, hAf⟩ := id hMF
    
    have h5r := (TR_5 hTR hPO).2.2
    refine pf_X9_263 (pc := 44) h dX9_readCabin_44 hOf (by omega) ?_
    refine jm_gen (fun M2 hM2 => ?_)
    rw [fX8_1] at hM2
    have hMF := MF_g hMF hM2
    have f9 : fr (MFS f2) _ M2 := fr_up (S := MFS f2) hM2 ⟨by omega, by omega⟩
    have hX := MX_fr hX f9 (Nat.le_refl _) (fun k h1 h2 q => by have := q.1; have := q.2; omega)
    have fR := fr_tr fR (fr_mo f9 (fun k q => Or.inr q))
    obtain ⟨hnm, hOm, hBm⟩ := id hX
    have hOm : M2 m = jdO 9 (fX9 m _ _ fl (.ref f2)) := hOm
    obtain ⟨hnf, hOf, hAf⟩ := id hMF
    refine jr_aload_n (pc := 47) h dX9_readCabin_47 rfl ?_
    refine gf_X9_174 (pc := 48) h dX9_readCabin_48 (by assumption) (by omega) ?_
    refine jr_aload_n (pc := 51) h dX9_readCabin_51 rfl ?_
    refine jr_ldcwS (pc := 52) h 26 (by decide) ⟨rfl, rfl⟩ dX9_readCabin_52 ?_
    refine jr_iconst (pc := 55) h dX9_readCabin_55 ?_
    refine jr_bipush (pc := 56) h dX9_readCabin_56 bp_60 ?_
    refine iv_X9_257 (pc := 58) h hl hR dX9_readCabin_58 ⟨(Nat.le_of_ble_eq_true rfl), (Nat.le_of_ble_eq_true rfl), (Nat.le_of_ble_eq_true rfl), (Nat.le_of_ble_eq_true rfl)⟩ (Nat.le_of_ble_eq_true rfl) (by assumption) (by omega) (s_X9_readPart hX hbt hbb (p := p2) (k := 26) (x := 1) (y := 60) hTR hPO (by omega) (by omega) (by omega) (by omega)) (fun v_58 n_58 M_58 hn_58 hp => ?_)
    obtain ⟨v3, ⟨rfl, rfl⟩, hvr3, hve3, g1, w1, hX, hg1, hTR, f9⟩ := hp
    have fR := fr_tr fR (fr_mo f9 (fun k q => Or.inl q))
    have hgk := gkp_t hgk hg1
    have hMF := MF_fr hMF f9 (Nat.le_refl _) (fun k h1 h2 q => by have := q.1; have := q.2; omega)
    rw [lb_c (show jtxt 26 = jtxt 19 from rfl)] at hve3 hTR
    obtain ⟨p3, ep3⟩ : ∃ z, (lbP bs 19 1 60 p2).2 = z := ⟨_, rfl⟩
    rw [ep3] at hTR hve3
    replace hPO : PO p3 := by rw [← ep3]; exact (fun h => ehP_O (ewP_O h)) hPO
    have hok3 : Imp (OKp p3) (OKp p2 ∧ K12 p2 p3 ∧ v3 = (lbP bs 19 1 60 p2).1 ∧ (1 ≤ v3 ∧ v3 ≤ 60)) := fun q => by
      have e := hve3 q
      rw [← ep3] at q ⊢
      have h9 := ok_lb q
      rw [e]
      exact ⟨h9.1, h9.2.2, rfl, h9.2.1⟩
    clear hve3
    have hf3 : Imp (p2.1 7 ≠ 0) (p3 = p2) := fun q => by rw [← ep3]; exact xP_f_lb q
    have hNRc : Imp (p3.1 7 = 0) (NR p3 gF A) := fun q => NR_K (hNRc (hok3 q).1) (hok3 q).2.1 rfl (fun _ _ => rfl)
    have hNIc : Imp (p3.1 7 = 0) (NI p3 ct) := fun q => NI_K (hNIc (hok3 q).1) (hok3 q).2.1 (Int.le_refl _) (Int.le_refl _)
    obtain ⟨hnm, hOm, hBm⟩ := id hX
    have hOm : M_58 m = jdO 9 (fX9 m _ _ fl (.ref f2)) := hOm
    obtain ⟨hnf, hOf, hAf⟩ := id hMF
    
    have h5r := (TR_5 hTR hPO).2.2
    refine pf_X9_267 (pc := 61) h dX9_readCabin_61 hOf (by omega) ?_
    refine jm_gen (fun M2 hM2 => ?_)
    rw [fX8_2] at hM2
    have hMF := MF_g hMF hM2
    have f9 : fr (MFS f2) _ M2 := fr_up (S := MFS f2) hM2 ⟨by omega, by omega⟩
    have hX := MX_fr hX f9 (Nat.le_refl _) (fun k h1 h2 q => by have := q.1; have := q.2; omega)
    have fR := fr_tr fR (fr_mo f9 (fun k q => Or.inr q))
    obtain ⟨hnm, hOm, hBm⟩ := id hX
    have hOm : M2 m = jdO 9 (fX9 m _ _ fl (.ref f2)) := hOm
    obtain ⟨hnf, hOf, hAf⟩ := id hMF
    refine jr_aload_n (pc := 64) h dX9_readCabin_64 rfl ?_
    refine gf_X9_80 (pc := 65) h dX9_readCabin_65 (by assumption) (by omega) ?_
    refine jr_iconst (pc := 68) h dX9_readCabin_68 ?_
    refine jr_icmp_eq (pc := 69) h 80 dX9_readCabin_69 (by decide) (by omega) (by omega) (fun c_69 => ?_) (fun c_69 => ?_)
    · first | have d_69 := bz_0.mp c_69 | have d_69 := bz_1.mp c_69 | skip
      refine jr_vret (pc := 80) h hRt dX9_readCabin_80 (Nat.le_of_ble_eq_true rfl) (Nat.le_of_ble_eq_true rfl) ?_
      first
      | (exfalso; omega)
      | (have h57 := (TR_5 hTR hPO).1
         have hpf : p3.1 7 ≠ 0 := h57.1 (by omega)
         have e_end : (tlnP bs ct td 0 p).1 = p3 := by
           rcases hc0 with ⟨hlm, e0⟩ | ⟨hlm, e0⟩
           · have hb0 : p0.1 7 ≠ 0 := by rw [e0]; exact flP_x (by omega)
             have e1 := hf1 hb0
             have hb1 : p1.1 7 ≠ 0 := by rw [e1]; exact hb0
             have e2 := hf2 hb1
             have hb2 : p2.1 7 ≠ 0 := by rw [e2]; exact hb1
             have e3 := hf3 hb2
             have hb3 : p3.1 7 ≠ 0 := by rw [e3]; exact hb2
             rw [tln_0 (by omega) (by show (1 : Int) ≤ ct 0; omega)]
             show flP 3 p = p3
             rw [e3, e2, e1, e0]
           · rw [tln_1 (by omega) (by show ¬ (1 : Int) ≤ ct 0; omega)]
             show (ln_0 bs ct (nxP bs p) (opT ct td 0)).1 = p3
             rw [← ep3, ← ep2, ← ep1, e0]
             unfold ln_0
             rfl
         exact ⟨⟨rfl, rfl⟩, _, _, _, _, hX, hgk, (by rw [e_end]; exact hTR), hMF, RB_g hRB (fun j hj => by rw [up_ne (by omega), up_ne (by omega)]) (by rw [up_ne (by omega), up_ne (by omega)]; exact hRB.2.2.1) (by rw [up_ne (by omega), up_ne (by omega)]; exact hRB.2.2.2.1), fun q => absurd q (by rw [e_end]; exact hpf), fR⟩)
    · first | have d_69 := bz_0.mp c_69 | have d_69 := bz_1.mp c_69 | skip
      refine jr_aload_n (pc := 72) h dX9_readCabin_72 rfl ?_
      refine gf_X9_174 (pc := 73) h dX9_readCabin_73 (by assumption) (by omega) ?_
      refine jr_iload_n (pc := 76) h dX9_readCabin_76 rfl ?_
      refine pf_X9_205 (pc := 77) h dX9_readCabin_77 hOf (by omega) ?_
      refine jm_gen (fun M2 hM2 => ?_)
      rw [fX8_0] at hM2
      have hMF := MF_g hMF hM2
      have f9 : fr (MFS f2) _ M2 := fr_up (S := MFS f2) hM2 ⟨by omega, by omega⟩
      have hX := MX_fr hX f9 (Nat.le_refl _) (fun k h1 h2 q => by have := q.1; have := q.2; omega)
      have fR := fr_tr fR (fr_mo f9 (fun k q => Or.inr q))
      obtain ⟨hnm, hOm, hBm⟩ := id hX
      have hOm : M2 m = jdO 9 (fX9 m _ _ fl (.ref f2)) := hOm
      obtain ⟨hnf, hOf, hAf⟩ := id hMF
      refine jr_vret (pc := 80) h hRt dX9_readCabin_80 (Nat.le_of_ble_eq_true rfl) (Nat.le_of_ble_eq_true rfl) ?_
      first
      | (exfalso; omega)
      | (have h57 := (TR_5 hTR hPO).1
         have hpe : p3.1 7 = 0 := Classical.byContradiction (fun q => by have := h57.2 q; omega)
         have hk3 := hok3 hpe
         have hk2 := hok2 hk3.1
         have hk1 := hok1 hk2.1
         have hk0 := hok0 hk1.1
         have hl0 := hk0.1
         have hr1 := hk1.2.2.2
         have hv1 := hk1.2.2.1
         have hr2 := hk2.2.2.2
         have hv2 := hk2.2.2.1
         have hr3 := hk3.2.2.2
         have hv3 := hk3.2.2.1
         have hcS : 0 ≤ ct (Int.toNat 0) ∧ ct (Int.toNat 0) < 8 := by show 0 ≤ ct 0 ∧ ct 0 < 8; omega
         have hFIr := hFR.2.2.1.2.2.2
         have e_ln : lnP bs ct (nxP bs p) (opT ct td 0) 0 = (p3, (up (up (up (opT ct td 0) (c_ix ct 0 0) v1) (c_ix ct 0 1) v2) (c_ix ct 0 2) v3)) := by
           show ln_0 bs ct (nxP bs p) (opT ct td 0) = _
           unfold ln_0
           rw [hk1.2.2.1, hk2.2.2.1, hk3.2.2.1, ← ep3, ← ep2, ← ep1, hk0.2.1]
         have e_tln : tlnP bs ct td 0 p = (p3, up ct 0 (ct 0 + 1), (up (up (up (opT ct td 0) (c_ix ct 0 0) v1) (c_ix ct 0 1) v2) (c_ix ct 0 2) v3)) := by
           rw [tln_1 (by omega) (by show ¬ (1 : Int) ≤ ct 0; omega), e_ln]
           unfold tlnC
           show (p3, (if p3.1 7 = 0 then up ct 0 (ct 0 + 1) else ct), (up (up (up (opT ct td 0) (c_ix ct 0 0) v1) (c_ix ct 0 1) v2) (c_ix ct 0 2) v3)) = _
           rw [if_pos hpe]
         have t0 : c_get (up (up (up (opT ct td 0) (c_ix ct 0 0) v1) (c_ix ct 0 1) v2) (c_ix ct 0 2) v3) 0 (ct 0) 0 = v1 := (gn_ne (by omega) hcS rfl (by omega) (by omega) (by omega)).trans ((gn_ne (by omega) hcS rfl (by omega) (by omega) (by omega)).trans (gn_eq (by omega) hcS rfl (by omega)))
         have t1 : c_get (up (up (up (opT ct td 0) (c_ix ct 0 0) v1) (c_ix ct 0 1) v2) (c_ix ct 0 2) v3) 0 (ct 0) 1 = v2 := (gn_ne (by omega) hcS rfl (by omega) (by omega) (by omega)).trans (gn_eq (by omega) hcS rfl (by omega))
         have t2 : c_get (up (up (up (opT ct td 0) (c_ix ct 0 0) v1) (c_ix ct 0 1) v2) (c_ix ct 0 2) v3) 0 (ct 0) 2 = v3 := gn_eq (by omega) hcS rfl (by omega)
         rw [e_tln]
         refine ⟨⟨rfl, rfl⟩, _, _, _, _, hX, hgk, hTR, hMF, RB_g hRB (fun j hj => by rw [up_ne (by omega), up_ne (by omega), up_ne (by omega)]) (by rw [up_eq]; omega) (by rw [up_ne (by omega), up_ne (by omega), up_ne (by omega)]; exact hRB.2.2.2.1), fun _ => ?_, fR⟩
         show FR p3 (up ct 0 (ct 0 + 1)) (up (up (up (opT ct td 0) (c_ix ct 0 0) v1) (c_ix ct 0 1) v2) (c_ix ct 0 2) v3) _ _
         refine FR_u01 (s := 0) hFR (by omega) (by show ct 0 < 1; omega) (OUT_up (OUT_up (OUT_up OUT_op (by omega) hcS.1 (by omega)) (by omega) hcS.1 (by omega)) (by omega) hcS.1 (by omega)) (rn_up (rn_up (rn_up (rn_op hFIr) (by omega)) (by omega)) (by omega)) ?_ (fun j hj => by rw [up_ne (by omega), up_ne (by omega), up_ne (by omega)]) (K12_t hk0.2.2 (K12_t hk1.2.1 (K12_t hk2.2.1 (hk3.2.1)))) ?_
         · refine ⟨fun q => ?_, fun q => ?_, fun q => ?_, fun q => ?_, fun q => ?_, fun q => ?_, fun q => ?_, fun q => ?_, fun q => ?_, fun q => ?_, fun q => ?_, fun q => ?_, fun q => ?_⟩ <;> first | (exfalso; omega) | (rw [t0, t1, t2]; omega)
         · have z0 : ct 0 = 0 := by omega
           obtain ⟨-, -, hg1c, hg1d⟩ := hFR.2.2.2.2.2.1
           have gk := fun x => get_keep (td := td) (td' := (up (up (up (opT ct td 0) (c_ix ct 0 0) v1) (c_ix ct 0 1) v2) (c_ix ct 0 2) v3)) (s' := 1) (i := 0) (x := x) (ct := ct) (s := 0) (by omega) hcS (OUT_up (OUT_up (OUT_up OUT_op (by omega) hcS.1 (by omega)) (by omega) hcS.1 (by omega)) (by omega) hcS.1 (by omega)) (fun q => absurd q.1 (by omega))
           rw [z0] at t0 t1 t2
           refine ⟨fun q => ?_, fun _ => ?_, fun q => ?_, fun q => ?_⟩
           · rw [up_eq] at q; omega
           · rw [up_eq, up_ne (by omega), up_ne (by omega), up_eq, up_ne (by omega), up_eq, t0, t1, t2]; exact ⟨rfl, rfl, rfl⟩
           · rw [up_ne (by omega)] at q; rw [up_ne (by omega), up_ne (by omega), up_ne (by omega)]; exact hg1c q
           · rw [up_ne (by omega)] at q; rw [up_ne (by omega), up_ne (by omega), up_ne (by omega), up_ne (by omega), up_ne (by omega), up_ne (by omega), gk 0, gk 1]; exact hg1d q)
  · first | have d_7 := bz_0.mp c_7 | have d_7 := bz_1.mp c_7 | skip
    refine jr_aload_n (pc := 10) h dX9_readCabin_10 rfl ?_
    refine jr_iconst (pc := 11) h dX9_readCabin_11 ?_
    refine iv_X9_126 (pc := 12) h hl hR dX9_readCabin_12 ⟨(Nat.le_of_ble_eq_true rfl), (Nat.le_of_ble_eq_true rfl), (Nat.le_of_ble_eq_true rfl), (Nat.le_of_ble_eq_true rfl)⟩ (Nat.le_of_ble_eq_true rfl) (by assumption) (by omega) (s_X9_wrong hX (p := p) (k := 3) hTR hPO (by omega)) (fun v_12 n_12 M_12 hn_12 hp => ?_)
    obtain ⟨⟨rfl, rfl⟩, g1, w1, hX, hg1, hTR, f9⟩ := hp
    have fR := fr_tr fR (fr_mo f9 (fun k q => Or.inl q))
    have hgk := gkp_t hgk hg1
    have hMF := MF_fr hMF f9 (Nat.le_refl _) (fun k h1 h2 q => by have := q.1; have := q.2; omega)
    obtain ⟨hnm, hOm, hBm⟩ := id hX
    have hOm : M_12 m = jdO 9 (fX9 m _ _ fl (.ref f2)) := hOm
    obtain ⟨hnf, hOf, hAf⟩ := id hMF
    
    replace hPO := flP_O (k := 3) hPO (by omega)
    refine jr_aload_n (pc := 15) h dX9_readCabin_15 rfl ?_
    refine iv_X9_123 (pc := 16) h hl hR dX9_readCabin_16 ⟨(Nat.le_of_ble_eq_true rfl), (Nat.le_of_ble_eq_true rfl), (Nat.le_of_ble_eq_true rfl), (Nat.le_of_ble_eq_true rfl)⟩ (Nat.le_of_ble_eq_true rfl) (by assumption) (by omega) (s_X9_goesOn hX hbt hbb (p := (flP 3 p)) hTR hPO (fun q => absurd q (flP_x (by omega)))) (fun v_16 n_16 M_16 hn_16 hp => ?_)
    obtain ⟨⟨rfl, rfl⟩, g1, w1, hX, hg1, hTR, f9⟩ := hp
    have fR := fr_tr fR (fr_mo f9 (fun k q => Or.inl q))
    have hgk := gkp_t hgk hg1
    have hMF := MF_fr hMF f9 (Nat.le_refl _) (fun k h1 h2 q => by have := q.1; have := q.2; omega)
    rw [goP_1 (flP_x (by omega))] at hTR
    obtain ⟨p0, ep0⟩ : ∃ z, flP 3 p = z := ⟨_, rfl⟩
    rw [ep0] at hTR
    have hc0 : (ct 0 = 1 ∧ p0 = flP 3 p) ∨ (ct 0 < 1 ∧ p0 = nxP bs p) := Or.inl ⟨by omega, ep0.symm⟩
    replace hPO : PO p0 := by rw [← ep0]; exact hPO
    have hok0 : Imp (OKp p0) (ct 0 < 1 ∧ p0 = nxP bs p ∧ K12 p p0) := fun q => by
      rcases hc0 with ⟨-, e⟩ | ⟨h9, e⟩
      · rw [e] at q; exact absurd q (flP_x (by omega))
      · exact ⟨h9, e, by rw [e]; exact K12_nx⟩
    have hNRc : Imp (p0.1 7 = 0) (NR p0 gF A) := fun q => NR_K hNRp (hok0 q).2.2 rfl (fun _ _ => rfl)
    have hNIc : Imp (p0.1 7 = 0) (NI p0 ct) := fun q => NI_K hNIp (hok0 q).2.2 (Int.le_refl _) (Int.le_refl _)
    obtain ⟨hnm, hOm, hBm⟩ := id hX
    have hOm : M_16 m = jdO 9 (fX9 m _ _ fl (.ref f2)) := hOm
    obtain ⟨hnf, hOf, hAf⟩ := id hMF
    
    refine jr_aload_n (pc := 19) h dX9_readCabin_19 rfl ?_
    refine jr_ldcwS (pc := 20) h 24 (by decide) ⟨rfl, rfl⟩ dX9_readCabin_20 ?_
    refine jr_iconst (pc := 23) h dX9_readCabin_23 ?_
    refine jr_bipush (pc := 24) h dX9_readCabin_24 bp_40 ?_
    refine iv_X9_257 (pc := 26) h hl hR dX9_readCabin_26 ⟨(Nat.le_of_ble_eq_true rfl), (Nat.le_of_ble_eq_true rfl), (Nat.le_of_ble_eq_true rfl), (Nat.le_of_ble_eq_true rfl)⟩ (Nat.le_of_ble_eq_true rfl) (by assumption) (by omega) (s_X9_readPart hX hbt hbb (p := p0) (k := 24) (x := 2) (y := 40) hTR hPO (by omega) (by omega) (by omega) (by omega)) (fun v_26 n_26 M_26 hn_26 hp => ?_)
    obtain ⟨v1, ⟨rfl, rfl⟩, hvr1, hve1, g1, w1, hX, hg1, hTR, f9⟩ := hp
    have fR := fr_tr fR (fr_mo f9 (fun k q => Or.inl q))
    have hgk := gkp_t hgk hg1
    have hMF := MF_fr hMF f9 (Nat.le_refl _) (fun k h1 h2 q => by have := q.1; have := q.2; omega)
    rw [lb_c (show jtxt 24 = jtxt 17 from rfl)] at hve1 hTR
    obtain ⟨p1, ep1⟩ : ∃ z, (lbP bs 17 2 40 p0).2 = z := ⟨_, rfl⟩
    rw [ep1] at hTR hve1
    replace hPO : PO p1 := by rw [← ep1]; exact (fun h => ehP_O (ewP_O h)) hPO
    have hok1 : Imp (OKp p1) (OKp p0 ∧ K12 p0 p1 ∧ v1 = (lbP bs 17 2 40 p0).1 ∧ (2 ≤ v1 ∧ v1 ≤ 40)) := fun q => by
      have e := hve1 q
      rw [← ep1] at q ⊢
      have h9 := ok_lb q
      rw [e]
      exact ⟨h9.1, h9.2.2, rfl, h9.2.1⟩
    clear hve1
    have hf1 : Imp (p0.1 7 ≠ 0) (p1 = p0) := fun q => by rw [← ep1]; exact xP_f_lb q
    have hNRc : Imp (p1.1 7 = 0) (NR p1 gF A) := fun q => NR_K (hNRc (hok1 q).1) (hok1 q).2.1 rfl (fun _ _ => rfl)
    have hNIc : Imp (p1.1 7 = 0) (NI p1 ct) := fun q => NI_K (hNIc (hok1 q).1) (hok1 q).2.1 (Int.le_refl _) (Int.le_refl _)
    obtain ⟨hnm, hOm, hBm⟩ := id hX
    have hOm : M_26 m = jdO 9 (fX9 m _ _ fl (.ref f2)) := hOm
    obtain ⟨hnf, hOf, hAf⟩ := id hMF
    
    have h5r := (TR_5 hTR hPO).2.2
    refine jr_istore_n (pc := 29) h [_, _] dX9_readCabin_29 (by decide) rfl ?_
    refine jr_aload_n (pc := 30) h dX9_readCabin_30 rfl ?_
    refine gf_X9_174 (pc := 31) h dX9_readCabin_31 (by assumption) (by omega) ?_
    refine jr_aload_n (pc := 34) h dX9_readCabin_34 rfl ?_
    refine jr_ldcwS (pc := 35) h 25 (by decide) ⟨rfl, rfl⟩ dX9_readCabin_35 ?_
    refine jr_iconst (pc := 38) h dX9_readCabin_38 ?_
    refine jr_bipush (pc := 39) h dX9_readCabin_39 bp_60 ?_
    refine iv_X9_257 (pc := 41) h hl hR dX9_readCabin_41 ⟨(Nat.le_of_ble_eq_true rfl), (Nat.le_of_ble_eq_true rfl), (Nat.le_of_ble_eq_true rfl), (Nat.le_of_ble_eq_true rfl)⟩ (Nat.le_of_ble_eq_true rfl) (by assumption) (by omega) (s_X9_readPart hX hbt hbb (p := p1) (k := 25) (x := 0) (y := 60) hTR hPO (by omega) (by omega) (by omega) (by omega)) (fun v_41 n_41 M_41 hn_41 hp => ?_)
    obtain ⟨v2, ⟨rfl, rfl⟩, hvr2, hve2, g1, w1, hX, hg1, hTR, f9⟩ := hp
    have fR := fr_tr fR (fr_mo f9 (fun k q => Or.inl q))
    have hgk := gkp_t hgk hg1
    have hMF := MF_fr hMF f9 (Nat.le_refl _) (fun k h1 h2 q => by have := q.1; have := q.2; omega)
    rw [lb_c (show jtxt 25 = jtxt 18 from rfl)] at hve2 hTR
    obtain ⟨p2, ep2⟩ : ∃ z, (lbP bs 18 0 60 p1).2 = z := ⟨_, rfl⟩
    rw [ep2] at hTR hve2
    replace hPO : PO p2 := by rw [← ep2]; exact (fun h => ehP_O (ewP_O h)) hPO
    have hok2 : Imp (OKp p2) (OKp p1 ∧ K12 p1 p2 ∧ v2 = (lbP bs 18 0 60 p1).1 ∧ (0 ≤ v2 ∧ v2 ≤ 60)) := fun q => by
      have e := hve2 q
      rw [← ep2] at q ⊢
      have h9 := ok_lb q
      rw [e]
      exact ⟨h9.1, h9.2.2, rfl, h9.2.1⟩
    clear hve2
    have hf2 : Imp (p1.1 7 ≠ 0) (p2 = p1) := fun q => by rw [← ep2]; exact xP_f_lb q
    have hNRc : Imp (p2.1 7 = 0) (NR p2 gF A) := fun q => NR_K (hNRc (hok2 q).1) (hok2 q).2.1 rfl (fun _ _ => rfl)
    have hNIc : Imp (p2.1 7 = 0) (NI p2 ct) := fun q => NI_K (hNIc (hok2 q).1) (hok2 q).2.1 (Int.le_refl _) (Int.le_refl _)
    obtain ⟨hnm, hOm, hBm⟩ := id hX
    have hOm : M_41 m = jdO 9 (fX9 m _ _ fl (.ref f2)) := hOm
    obtain ⟨hnf, hOf, hAf⟩ := id hMF
    
    have h5r := (TR_5 hTR hPO).2.2
    refine pf_X9_263 (pc := 44) h dX9_readCabin_44 hOf (by omega) ?_
    refine jm_gen (fun M2 hM2 => ?_)
    rw [fX8_1] at hM2
    have hMF := MF_g hMF hM2
    have f9 : fr (MFS f2) _ M2 := fr_up (S := MFS f2) hM2 ⟨by omega, by omega⟩
    have hX := MX_fr hX f9 (Nat.le_refl _) (fun k h1 h2 q => by have := q.1; have := q.2; omega)
    have fR := fr_tr fR (fr_mo f9 (fun k q => Or.inr q))
    obtain ⟨hnm, hOm, hBm⟩ := id hX
    have hOm : M2 m = jdO 9 (fX9 m _ _ fl (.ref f2)) := hOm
    obtain ⟨hnf, hOf, hAf⟩ := id hMF
    refine jr_aload_n (pc := 47) h dX9_readCabin_47 rfl ?_
    refine gf_X9_174 (pc := 48) h dX9_readCabin_48 (by assumption) (by omega) ?_
    refine jr_aload_n (pc := 51) h dX9_readCabin_51 rfl ?_
    refine jr_ldcwS (pc := 52) h 26 (by decide) ⟨rfl, rfl⟩ dX9_readCabin_52 ?_
    refine jr_iconst (pc := 55) h dX9_readCabin_55 ?_
    refine jr_bipush (pc := 56) h dX9_readCabin_56 bp_60 ?_
    refine iv_X9_257 (pc := 58) h hl hR dX9_readCabin_58 ⟨(Nat.le_of_ble_eq_true rfl), (Nat.le_of_ble_eq_true rfl), (Nat.le_of_ble_eq_true rfl), (Nat.le_of_ble_eq_true rfl)⟩ (Nat.le_of_ble_eq_true rfl) (by assumption) (by omega) (s_X9_readPart hX hbt hbb (p := p2) (k := 26) (x := 1) (y := 60) hTR hPO (by omega) (by omega) (by omega) (by omega)) (fun v_58 n_58 M_58 hn_58 hp => ?_)
    obtain ⟨v3, ⟨rfl, rfl⟩, hvr3, hve3, g1, w1, hX, hg1, hTR, f9⟩ := hp
    have fR := fr_tr fR (fr_mo f9 (fun k q => Or.inl q))
    have hgk := gkp_t hgk hg1
    have hMF := MF_fr hMF f9 (Nat.le_refl _) (fun k h1 h2 q => by have := q.1; have := q.2; omega)
    rw [lb_c (show jtxt 26 = jtxt 19 from rfl)] at hve3 hTR
    obtain ⟨p3, ep3⟩ : ∃ z, (lbP bs 19 1 60 p2).2 = z := ⟨_, rfl⟩
    rw [ep3] at hTR hve3
    replace hPO : PO p3 := by rw [← ep3]; exact (fun h => ehP_O (ewP_O h)) hPO
    have hok3 : Imp (OKp p3) (OKp p2 ∧ K12 p2 p3 ∧ v3 = (lbP bs 19 1 60 p2).1 ∧ (1 ≤ v3 ∧ v3 ≤ 60)) := fun q => by
      have e := hve3 q
      rw [← ep3] at q ⊢
      have h9 := ok_lb q
      rw [e]
      exact ⟨h9.1, h9.2.2, rfl, h9.2.1⟩
    clear hve3
    have hf3 : Imp (p2.1 7 ≠ 0) (p3 = p2) := fun q => by rw [← ep3]; exact xP_f_lb q
    have hNRc : Imp (p3.1 7 = 0) (NR p3 gF A) := fun q => NR_K (hNRc (hok3 q).1) (hok3 q).2.1 rfl (fun _ _ => rfl)
    have hNIc : Imp (p3.1 7 = 0) (NI p3 ct) := fun q => NI_K (hNIc (hok3 q).1) (hok3 q).2.1 (Int.le_refl _) (Int.le_refl _)
    obtain ⟨hnm, hOm, hBm⟩ := id hX
    have hOm : M_58 m = jdO 9 (fX9 m _ _ fl (.ref f2)) := hOm
    obtain ⟨hnf, hOf, hAf⟩ := id hMF
    
    have h5r := (TR_5 hTR hPO).2.2
    refine pf_X9_267 (pc := 61) h dX9_readCabin_61 hOf (by omega) ?_
    refine jm_gen (fun M2 hM2 => ?_)
    rw [fX8_2] at hM2
    have hMF := MF_g hMF hM2
    have f9 : fr (MFS f2) _ M2 := fr_up (S := MFS f2) hM2 ⟨by omega, by omega⟩
    have hX := MX_fr hX f9 (Nat.le_refl _) (fun k h1 h2 q => by have := q.1; have := q.2; omega)
    have fR := fr_tr fR (fr_mo f9 (fun k q => Or.inr q))
    obtain ⟨hnm, hOm, hBm⟩ := id hX
    have hOm : M2 m = jdO 9 (fX9 m _ _ fl (.ref f2)) := hOm
    obtain ⟨hnf, hOf, hAf⟩ := id hMF
    refine jr_aload_n (pc := 64) h dX9_readCabin_64 rfl ?_
    refine gf_X9_80 (pc := 65) h dX9_readCabin_65 (by assumption) (by omega) ?_
    refine jr_iconst (pc := 68) h dX9_readCabin_68 ?_
    refine jr_icmp_eq (pc := 69) h 80 dX9_readCabin_69 (by decide) (by omega) (by omega) (fun c_69 => ?_) (fun c_69 => ?_)
    · first | have d_69 := bz_0.mp c_69 | have d_69 := bz_1.mp c_69 | skip
      refine jr_vret (pc := 80) h hRt dX9_readCabin_80 (Nat.le_of_ble_eq_true rfl) (Nat.le_of_ble_eq_true rfl) ?_
      first
      | (exfalso; omega)
      | (have h57 := (TR_5 hTR hPO).1
         have hpf : p3.1 7 ≠ 0 := h57.1 (by omega)
         have e_end : (tlnP bs ct td 0 p).1 = p3 := by
           rcases hc0 with ⟨hlm, e0⟩ | ⟨hlm, e0⟩
           · have hb0 : p0.1 7 ≠ 0 := by rw [e0]; exact flP_x (by omega)
             have e1 := hf1 hb0
             have hb1 : p1.1 7 ≠ 0 := by rw [e1]; exact hb0
             have e2 := hf2 hb1
             have hb2 : p2.1 7 ≠ 0 := by rw [e2]; exact hb1
             have e3 := hf3 hb2
             have hb3 : p3.1 7 ≠ 0 := by rw [e3]; exact hb2
             rw [tln_0 (by omega) (by show (1 : Int) ≤ ct 0; omega)]
             show flP 3 p = p3
             rw [e3, e2, e1, e0]
           · rw [tln_1 (by omega) (by show ¬ (1 : Int) ≤ ct 0; omega)]
             show (ln_0 bs ct (nxP bs p) (opT ct td 0)).1 = p3
             rw [← ep3, ← ep2, ← ep1, e0]
             unfold ln_0
             rfl
         exact ⟨⟨rfl, rfl⟩, _, _, _, _, hX, hgk, (by rw [e_end]; exact hTR), hMF, RB_g hRB (fun j hj => by rw [up_ne (by omega), up_ne (by omega)]) (by rw [up_ne (by omega), up_ne (by omega)]; exact hRB.2.2.1) (by rw [up_ne (by omega), up_ne (by omega)]; exact hRB.2.2.2.1), fun q => absurd q (by rw [e_end]; exact hpf), fR⟩)
    · first | have d_69 := bz_0.mp c_69 | have d_69 := bz_1.mp c_69 | skip
      refine jr_aload_n (pc := 72) h dX9_readCabin_72 rfl ?_
      refine gf_X9_174 (pc := 73) h dX9_readCabin_73 (by assumption) (by omega) ?_
      refine jr_iload_n (pc := 76) h dX9_readCabin_76 rfl ?_
      refine pf_X9_205 (pc := 77) h dX9_readCabin_77 hOf (by omega) ?_
      refine jm_gen (fun M2 hM2 => ?_)
      rw [fX8_0] at hM2
      have hMF := MF_g hMF hM2
      have f9 : fr (MFS f2) _ M2 := fr_up (S := MFS f2) hM2 ⟨by omega, by omega⟩
      have hX := MX_fr hX f9 (Nat.le_refl _) (fun k h1 h2 q => by have := q.1; have := q.2; omega)
      have fR := fr_tr fR (fr_mo f9 (fun k q => Or.inr q))
      obtain ⟨hnm, hOm, hBm⟩ := id hX
      have hOm : M2 m = jdO 9 (fX9 m _ _ fl (.ref f2)) := hOm
      obtain ⟨hnf, hOf, hAf⟩ := id hMF
      refine jr_vret (pc := 80) h hRt dX9_readCabin_80 (Nat.le_of_ble_eq_true rfl) (Nat.le_of_ble_eq_true rfl) ?_
      first
      | (exfalso; omega)
      | (have h57 := (TR_5 hTR hPO).1
         have hpe : p3.1 7 = 0 := Classical.byContradiction (fun q => by have := h57.2 q; omega)
         have hk3 := hok3 hpe
         have hk2 := hok2 hk3.1
         have hk1 := hok1 hk2.1
         have hk0 := hok0 hk1.1
         have hl0 := hk0.1
         have hr1 := hk1.2.2.2
         have hv1 := hk1.2.2.1
         have hr2 := hk2.2.2.2
         have hv2 := hk2.2.2.1
         have hr3 := hk3.2.2.2
         have hv3 := hk3.2.2.1
         have hcS : 0 ≤ ct (Int.toNat 0) ∧ ct (Int.toNat 0) < 8 := by show 0 ≤ ct 0 ∧ ct 0 < 8; omega
         have hFIr := hFR.2.2.1.2.2.2
         have e_ln : lnP bs ct (nxP bs p) (opT ct td 0) 0 = (p3, (up (up (up (opT ct td 0) (c_ix ct 0 0) v1) (c_ix ct 0 1) v2) (c_ix ct 0 2) v3)) := by
           show ln_0 bs ct (nxP bs p) (opT ct td 0) = _
           unfold ln_0
           rw [hk1.2.2.1, hk2.2.2.1, hk3.2.2.1, ← ep3, ← ep2, ← ep1, hk0.2.1]
         have e_tln : tlnP bs ct td 0 p = (p3, up ct 0 (ct 0 + 1), (up (up (up (opT ct td 0) (c_ix ct 0 0) v1) (c_ix ct 0 1) v2) (c_ix ct 0 2) v3)) := by
           rw [tln_1 (by omega) (by show ¬ (1 : Int) ≤ ct 0; omega), e_ln]
           unfold tlnC
           show (p3, (if p3.1 7 = 0 then up ct 0 (ct 0 + 1) else ct), (up (up (up (opT ct td 0) (c_ix ct 0 0) v1) (c_ix ct 0 1) v2) (c_ix ct 0 2) v3)) = _
           rw [if_pos hpe]
         have t0 : c_get (up (up (up (opT ct td 0) (c_ix ct 0 0) v1) (c_ix ct 0 1) v2) (c_ix ct 0 2) v3) 0 (ct 0) 0 = v1 := (gn_ne (by omega) hcS rfl (by omega) (by omega) (by omega)).trans ((gn_ne (by omega) hcS rfl (by omega) (by omega) (by omega)).trans (gn_eq (by omega) hcS rfl (by omega)))
         have t1 : c_get (up (up (up (opT ct td 0) (c_ix ct 0 0) v1) (c_ix ct 0 1) v2) (c_ix ct 0 2) v3) 0 (ct 0) 1 = v2 := (gn_ne (by omega) hcS rfl (by omega) (by omega) (by omega)).trans (gn_eq (by omega) hcS rfl (by omega))
         have t2 : c_get (up (up (up (opT ct td 0) (c_ix ct 0 0) v1) (c_ix ct 0 1) v2) (c_ix ct 0 2) v3) 0 (ct 0) 2 = v3 := gn_eq (by omega) hcS rfl (by omega)
         rw [e_tln]
         refine ⟨⟨rfl, rfl⟩, _, _, _, _, hX, hgk, hTR, hMF, RB_g hRB (fun j hj => by rw [up_ne (by omega), up_ne (by omega), up_ne (by omega)]) (by rw [up_eq]; omega) (by rw [up_ne (by omega), up_ne (by omega), up_ne (by omega)]; exact hRB.2.2.2.1), fun _ => ?_, fR⟩
         show FR p3 (up ct 0 (ct 0 + 1)) (up (up (up (opT ct td 0) (c_ix ct 0 0) v1) (c_ix ct 0 1) v2) (c_ix ct 0 2) v3) _ _
         refine FR_u01 (s := 0) hFR (by omega) (by show ct 0 < 1; omega) (OUT_up (OUT_up (OUT_up OUT_op (by omega) hcS.1 (by omega)) (by omega) hcS.1 (by omega)) (by omega) hcS.1 (by omega)) (rn_up (rn_up (rn_up (rn_op hFIr) (by omega)) (by omega)) (by omega)) ?_ (fun j hj => by rw [up_ne (by omega), up_ne (by omega), up_ne (by omega)]) (K12_t hk0.2.2 (K12_t hk1.2.1 (K12_t hk2.2.1 (hk3.2.1)))) ?_
         · refine ⟨fun q => ?_, fun q => ?_, fun q => ?_, fun q => ?_, fun q => ?_, fun q => ?_, fun q => ?_, fun q => ?_, fun q => ?_, fun q => ?_, fun q => ?_, fun q => ?_, fun q => ?_⟩ <;> first | (exfalso; omega) | (rw [t0, t1, t2]; omega)
         · have z0 : ct 0 = 0 := by omega
           obtain ⟨-, -, hg1c, hg1d⟩ := hFR.2.2.2.2.2.1
           have gk := fun x => get_keep (td := td) (td' := (up (up (up (opT ct td 0) (c_ix ct 0 0) v1) (c_ix ct 0 1) v2) (c_ix ct 0 2) v3)) (s' := 1) (i := 0) (x := x) (ct := ct) (s := 0) (by omega) hcS (OUT_up (OUT_up (OUT_up OUT_op (by omega) hcS.1 (by omega)) (by omega) hcS.1 (by omega)) (by omega) hcS.1 (by omega)) (fun q => absurd q.1 (by omega))
           rw [z0] at t0 t1 t2
           refine ⟨fun q => ?_, fun _ => ?_, fun q => ?_, fun q => ?_⟩
           · rw [up_eq] at q; omega
           · rw [up_eq, up_ne (by omega), up_ne (by omega), up_eq, up_ne (by omega), up_eq, t0, t1, t2]; exact ⟨rfl, rfl, rfl⟩
           · rw [up_ne (by omega)] at q; rw [up_ne (by omega), up_ne (by omega), up_ne (by omega)]; exact hg1c q
           · rw [up_ne (by omega)] at q; rw [up_ne (by omega), up_ne (by omega), up_ne (by omega), up_ne (by omega), up_ne (by omega), up_ne (by omega), gk 0, gk 1]; exact hg1d q)
set_option maxHeartbeats 1000000 in
set_option maxRecDepth 20000 in
theorem s_X9_readHeat {l : Launch} {n : Nat} {M : jdM} {m f2 : Nat} {g : Nat → Int} {w : Int} {fl : Value} {B : Nat → Nat → Int} (hX : MX M n m g w fl (.ref f2) B) {bs : Nat → Int} (hbt : ∀ j, j < 900 → B 1 j = bs j) (hbb : ∀ j, -128 ≤ bs j ∧ bs j ≤ 127) {p : TS} (hTR : TR bs p g w) (hPO : PO p) {gF : Nat → Int} {A : Nat → Nat → Int} (hMF : MF M n f2 gF A) (hsep : f2 + 30 < m ∨ m + 12 < f2) (hRB : RB gF A) {ct td : Nat → Int} (hFR : FR p ct td gF A) (q7 : p.1 7 = 0) (q4 : p.1 4 = 1) : Ct l yX9_readHeat cX9_readHeat 2 none rX9_readHeat [.ref m] n M (fun vv n' M' => (vv = none ∧ n = n') ∧ ∃ g' w' gF' A', MX M' n m g' w' fl (.ref f2) B ∧ gkp g g' ∧ TR bs (tlnP bs ct td 1 p).1 g' w' ∧ MF M' n f2 gF' A' ∧ RB gF' A' ∧ ((tlnP bs ct td 1 p).1.1 7 = 0 → FR (tlnP bs ct td 1 p).1 (tlnP bs ct td 1 p).2.1 (tlnP bs ct td 1 p).2.2 gF' A') ∧ fr (RFS m f2) M M') := by
  refine Ct_of [some (.ref m), none] (by decide) (Nat.le_of_ble_eq_true rfl) rfl (fun κ hl h hR hRt hmn hn0 => ?_)
  have h : Ok κ RX9 cX9_readHeat 2 none := h
  obtain ⟨hnm, hOm, hBm⟩ := id hX
  have hOm : M m = jdO 9 (fX9 m _ _ fl (.ref f2)) := hOm
  obtain ⟨hnf, hOf, hAf⟩ := id hMF
  have fR : fr (RFS m f2) M M := fr_rf
  have hgk : gkp g g := gkp_r
  have hNB := hRB.1
  obtain ⟨hcb, h0b, h3b, h8b⟩ := hRB.2
  have hNRp := hFR.2.2.2.1
  have hNIp := hFR.2.2.2.2.1
  have hcnt := hFR.2.2.2.2.2.2
  obtain ⟨k5, k6, k7, k8, k9, k10, k11, k12, k13, k14, k15⟩ := hFR.2.1
  have hNBc := hNB.1
  have hl0 := hFR.2.2.1.1 0 (by omega)
  have hl1 := hFR.2.2.1.1 1 (by omega)
  rw [show (jtab 0).2.2 0 = 1 from rfl] at hl0
  rw [show (jtab 0).2.2 1 = 1 from rfl] at hl1
  have hct0 : (ct 1 = 0 ∧ gF 3 = -1) ∨ (ct 1 = 1 ∧ 0 ≤ gF 3) := by
    obtain ⟨-, -, z1, z2⟩ := hFR.2.2.2.2.2.1
    by_cases q : ct 1 = 0
    · exact Or.inl ⟨q, z1 q⟩
    · have q1 : ct 1 = 1 := by omega
      exact Or.inr ⟨q1, by rw [(z2 q1).1]; exact (c_getr hFR.2.2.1.2.2.2 1 0 0).1⟩
  refine jr_aload_n (pc := 0) h dX9_readHeat_0 rfl ?_
  refine gf_X9_174 (pc := 1) h dX9_readHeat_1 (by assumption) (by omega) ?_
  refine gf_X9_208 (pc := 4) h dX9_readHeat_4 (by assumption) (by omega) ?_
  refine jr_iconst (pc := 7) h dX9_readHeat_7 ?_
  refine jr_icmp_eq (pc := 8) h 16 dX9_readHeat_8 (by decide) (by omega) (by omega) (fun c_8 => ?_) (fun c_8 => ?_)
  · first | have d_8 := bz_0.mp c_8 | have d_8 := bz_1.mp c_8 | skip
    refine jr_aload_n (pc := 16) h dX9_readHeat_16 rfl ?_
    refine iv_X9_123 (pc := 17) h hl hR dX9_readHeat_17 ⟨(Nat.le_of_ble_eq_true rfl), (Nat.le_of_ble_eq_true rfl), (Nat.le_of_ble_eq_true rfl), (Nat.le_of_ble_eq_true rfl)⟩ (Nat.le_of_ble_eq_true rfl) (by assumption) (by omega) (s_X9_goesOn hX hbt hbb (p := p) hTR hPO (fun _ => by omega)) (fun v_17 n_17 M_17 hn_17 hp => ?_)
    obtain ⟨⟨rfl, rfl⟩, g1, w1, hX, hg1, hTR, f9⟩ := hp
    have fR := fr_tr fR (fr_mo f9 (fun k q => Or.inl q))
    have hgk := gkp_t hgk hg1
    have hMF := MF_fr hMF f9 (Nat.le_refl _) (fun k h1 h2 q => by have := q.1; have := q.2; omega)
    rw [goP_0 q7] at hTR
    obtain ⟨p0, ep0⟩ : ∃ z, nxP bs p = z := ⟨_, rfl⟩
    rw [ep0] at hTR
    have hc0 : (ct 1 = 1 ∧ p0 = flP 3 p) ∨ (ct 1 < 1 ∧ p0 = nxP bs p) := Or.inr ⟨by omega, ep0.symm⟩
    replace hPO : PO p0 := by rw [← ep0]; exact nxP_O hPO
    have hok0 : Imp (OKp p0) (ct 1 < 1 ∧ p0 = nxP bs p ∧ K12 p p0) := fun q => by
      rcases hc0 with ⟨-, e⟩ | ⟨h9, e⟩
      · rw [e] at q; exact absurd q (flP_x (by omega))
      · exact ⟨h9, e, by rw [e]; exact K12_nx⟩
    have hNRc : Imp (p0.1 7 = 0) (NR p0 gF A) := fun q => NR_K hNRp (hok0 q).2.2 rfl (fun _ _ => rfl)
    have hNIc : Imp (p0.1 7 = 0) (NI p0 ct) := fun q => NI_K hNIp (hok0 q).2.2 (Int.le_refl _) (Int.le_refl _)
    obtain ⟨hnm, hOm, hBm⟩ := id hX
    have hOm : M_17 m = jdO 9 (fX9 m _ _ fl (.ref f2)) := hOm
    obtain ⟨hnf, hOf, hAf⟩ := id hMF
    
    refine jr_aload_n (pc := 20) h dX9_readHeat_20 rfl ?_
    refine jr_ldcwS (pc := 21) h 28 (by decide) ⟨rfl, rfl⟩ dX9_readHeat_21 ?_
    refine jr_iconst (pc := 24) h dX9_readHeat_24 ?_
    refine jr_bipush (pc := 25) h dX9_readHeat_25 bp_90 ?_
    refine iv_X9_257 (pc := 27) h hl hR dX9_readHeat_27 ⟨(Nat.le_of_ble_eq_true rfl), (Nat.le_of_ble_eq_true rfl), (Nat.le_of_ble_eq_true rfl), (Nat.le_of_ble_eq_true rfl)⟩ (Nat.le_of_ble_eq_true rfl) (by assumption) (by omega) (s_X9_readPart hX hbt hbb (p := p0) (k := 28) (x := 0) (y := 90) hTR hPO (by omega) (by omega) (by omega) (by omega)) (fun v_27 n_27 M_27 hn_27 hp => ?_)
    obtain ⟨v1, ⟨rfl, rfl⟩, hvr1, hve1, g1, w1, hX, hg1, hTR, f9⟩ := hp
    have fR := fr_tr fR (fr_mo f9 (fun k q => Or.inl q))
    have hgk := gkp_t hgk hg1
    have hMF := MF_fr hMF f9 (Nat.le_refl _) (fun k h1 h2 q => by have := q.1; have := q.2; omega)
    rw [lb_c (show jtxt 28 = jtxt 20 from rfl)] at hve1 hTR
    obtain ⟨p1, ep1⟩ : ∃ z, (lbP bs 20 0 90 p0).2 = z := ⟨_, rfl⟩
    rw [ep1] at hTR hve1
    replace hPO : PO p1 := by rw [← ep1]; exact (fun h => ehP_O (ewP_O h)) hPO
    have hok1 : Imp (OKp p1) (OKp p0 ∧ K12 p0 p1 ∧ v1 = (lbP bs 20 0 90 p0).1 ∧ (0 ≤ v1 ∧ v1 ≤ 90)) := fun q => by
      have e := hve1 q
      rw [← ep1] at q ⊢
      have h9 := ok_lb q
      rw [e]
      exact ⟨h9.1, h9.2.2, rfl, h9.2.1⟩
    clear hve1
    have hf1 : Imp (p0.1 7 ≠ 0) (p1 = p0) := fun q => by rw [← ep1]; exact xP_f_lb q
    have hNRc : Imp (p1.1 7 = 0) (NR p1 gF A) := fun q => NR_K (hNRc (hok1 q).1) (hok1 q).2.1 rfl (fun _ _ => rfl)
    have hNIc : Imp (p1.1 7 = 0) (NI p1 ct) := fun q => NI_K (hNIc (hok1 q).1) (hok1 q).2.1 (Int.le_refl _) (Int.le_refl _)
    obtain ⟨hnm, hOm, hBm⟩ := id hX
    have hOm : M_27 m = jdO 9 (fX9 m _ _ fl (.ref f2)) := hOm
    obtain ⟨hnf, hOf, hAf⟩ := id hMF
    
    have h5r := (TR_5 hTR hPO).2.2
    refine jr_istore_n (pc := 30) h [_, _] dX9_readHeat_30 (by decide) rfl ?_
    refine jr_aload_n (pc := 31) h dX9_readHeat_31 rfl ?_
    refine gf_X9_174 (pc := 32) h dX9_readHeat_32 (by assumption) (by omega) ?_
    refine jr_aload_n (pc := 35) h dX9_readHeat_35 rfl ?_
    refine jr_ldcwS (pc := 36) h 29 (by decide) ⟨rfl, rfl⟩ dX9_readHeat_36 ?_
    refine jr_iconst (pc := 39) h dX9_readHeat_39 ?_
    refine jr_bipush (pc := 40) h dX9_readHeat_40 bp_50 ?_
    refine iv_X9_257 (pc := 42) h hl hR dX9_readHeat_42 ⟨(Nat.le_of_ble_eq_true rfl), (Nat.le_of_ble_eq_true rfl), (Nat.le_of_ble_eq_true rfl), (Nat.le_of_ble_eq_true rfl)⟩ (Nat.le_of_ble_eq_true rfl) (by assumption) (by omega) (s_X9_readPart hX hbt hbb (p := p1) (k := 29) (x := 0) (y := 50) hTR hPO (by omega) (by omega) (by omega) (by omega)) (fun v_42 n_42 M_42 hn_42 hp => ?_)
    obtain ⟨v2, ⟨rfl, rfl⟩, hvr2, hve2, g1, w1, hX, hg1, hTR, f9⟩ := hp
    have fR := fr_tr fR (fr_mo f9 (fun k q => Or.inl q))
    have hgk := gkp_t hgk hg1
    have hMF := MF_fr hMF f9 (Nat.le_refl _) (fun k h1 h2 q => by have := q.1; have := q.2; omega)
    rw [lb_c (show jtxt 29 = jtxt 21 from rfl)] at hve2 hTR
    obtain ⟨p2, ep2⟩ : ∃ z, (lbP bs 21 0 50 p1).2 = z := ⟨_, rfl⟩
    rw [ep2] at hTR hve2
    replace hPO : PO p2 := by rw [← ep2]; exact (fun h => ehP_O (ewP_O h)) hPO
    have hok2 : Imp (OKp p2) (OKp p1 ∧ K12 p1 p2 ∧ v2 = (lbP bs 21 0 50 p1).1 ∧ (0 ≤ v2 ∧ v2 ≤ 50)) := fun q => by
      have e := hve2 q
      rw [← ep2] at q ⊢
      have h9 := ok_lb q
      rw [e]
      exact ⟨h9.1, h9.2.2, rfl, h9.2.1⟩
    clear hve2
    have hf2 : Imp (p1.1 7 ≠ 0) (p2 = p1) := fun q => by rw [← ep2]; exact xP_f_lb q
    have hNRc : Imp (p2.1 7 = 0) (NR p2 gF A) := fun q => NR_K (hNRc (hok2 q).1) (hok2 q).2.1 rfl (fun _ _ => rfl)
    have hNIc : Imp (p2.1 7 = 0) (NI p2 ct) := fun q => NI_K (hNIc (hok2 q).1) (hok2 q).2.1 (Int.le_refl _) (Int.le_refl _)
    obtain ⟨hnm, hOm, hBm⟩ := id hX
    have hOm : M_42 m = jdO 9 (fX9 m _ _ fl (.ref f2)) := hOm
    obtain ⟨hnf, hOf, hAf⟩ := id hMF
    
    have h5r := (TR_5 hTR hPO).2.2
    refine pf_X9_272 (pc := 45) h dX9_readHeat_45 hOf (by omega) ?_
    refine jm_gen (fun M2 hM2 => ?_)
    rw [fX8_4] at hM2
    have hMF := MF_g hMF hM2
    have f9 : fr (MFS f2) _ M2 := fr_up (S := MFS f2) hM2 ⟨by omega, by omega⟩
    have hX := MX_fr hX f9 (Nat.le_refl _) (fun k h1 h2 q => by have := q.1; have := q.2; omega)
    have fR := fr_tr fR (fr_mo f9 (fun k q => Or.inr q))
    obtain ⟨hnm, hOm, hBm⟩ := id hX
    have hOm : M2 m = jdO 9 (fX9 m _ _ fl (.ref f2)) := hOm
    obtain ⟨hnf, hOf, hAf⟩ := id hMF
    refine jr_aload_n (pc := 48) h dX9_readHeat_48 rfl ?_
    refine gf_X9_80 (pc := 49) h dX9_readHeat_49 (by assumption) (by omega) ?_
    refine jr_iconst (pc := 52) h dX9_readHeat_52 ?_
    refine jr_icmp_eq (pc := 53) h 64 dX9_readHeat_53 (by decide) (by omega) (by omega) (fun c_53 => ?_) (fun c_53 => ?_)
    · first | have d_53 := bz_0.mp c_53 | have d_53 := bz_1.mp c_53 | skip
      refine jr_vret (pc := 64) h hRt dX9_readHeat_64 (Nat.le_of_ble_eq_true rfl) (Nat.le_of_ble_eq_true rfl) ?_
      first
      | (exfalso; omega)
      | (have h57 := (TR_5 hTR hPO).1
         have hpf : p2.1 7 ≠ 0 := h57.1 (by omega)
         have e_end : (tlnP bs ct td 1 p).1 = p2 := by
           rcases hc0 with ⟨hlm, e0⟩ | ⟨hlm, e0⟩
           · have hb0 : p0.1 7 ≠ 0 := by rw [e0]; exact flP_x (by omega)
             have e1 := hf1 hb0
             have hb1 : p1.1 7 ≠ 0 := by rw [e1]; exact hb0
             have e2 := hf2 hb1
             have hb2 : p2.1 7 ≠ 0 := by rw [e2]; exact hb1
             rw [tln_0 (by omega) (by show (1 : Int) ≤ ct 1; omega)]
             show flP 3 p = p2
             rw [e2, e1, e0]
           · rw [tln_1 (by omega) (by show ¬ (1 : Int) ≤ ct 1; omega)]
             show (ln_1 bs ct (nxP bs p) (opT ct td 1)).1 = p2
             rw [← ep2, ← ep1, e0]
             unfold ln_1
             rfl
         exact ⟨⟨rfl, rfl⟩, _, _, _, _, hX, hgk, (by rw [e_end]; exact hTR), hMF, RB_g hRB (fun j hj => by rw [up_ne (by omega)]) (by rw [up_ne (by omega)]; exact hRB.2.2.1) (by rw [up_ne (by omega)]; exact hRB.2.2.2.1), fun q => absurd q (by rw [e_end]; exact hpf), fR⟩)
    · first | have d_53 := bz_0.mp c_53 | have d_53 := bz_1.mp c_53 | skip
      refine jr_aload_n (pc := 56) h dX9_readHeat_56 rfl ?_
      refine gf_X9_174 (pc := 57) h dX9_readHeat_57 (by assumption) (by omega) ?_
      refine jr_iload_n (pc := 60) h dX9_readHeat_60 rfl ?_
      refine pf_X9_208 (pc := 61) h dX9_readHeat_61 hOf (by omega) ?_
      refine jm_gen (fun M2 hM2 => ?_)
      rw [fX8_3] at hM2
      have hMF := MF_g hMF hM2
      have f9 : fr (MFS f2) _ M2 := fr_up (S := MFS f2) hM2 ⟨by omega, by omega⟩
      have hX := MX_fr hX f9 (Nat.le_refl _) (fun k h1 h2 q => by have := q.1; have := q.2; omega)
      have fR := fr_tr fR (fr_mo f9 (fun k q => Or.inr q))
      obtain ⟨hnm, hOm, hBm⟩ := id hX
      have hOm : M2 m = jdO 9 (fX9 m _ _ fl (.ref f2)) := hOm
      obtain ⟨hnf, hOf, hAf⟩ := id hMF
      refine jr_vret (pc := 64) h hRt dX9_readHeat_64 (Nat.le_of_ble_eq_true rfl) (Nat.le_of_ble_eq_true rfl) ?_
      first
      | (exfalso; omega)
      | (have h57 := (TR_5 hTR hPO).1
         have hpe : p2.1 7 = 0 := Classical.byContradiction (fun q => by have := h57.2 q; omega)
         have hk2 := hok2 hpe
         have hk1 := hok1 hk2.1
         have hk0 := hok0 hk1.1
         have hl0 := hk0.1
         have hr1 := hk1.2.2.2
         have hv1 := hk1.2.2.1
         have hr2 := hk2.2.2.2
         have hv2 := hk2.2.2.1
         have hcS : 0 ≤ ct (Int.toNat 1) ∧ ct (Int.toNat 1) < 8 := by show 0 ≤ ct 1 ∧ ct 1 < 8; omega
         have hFIr := hFR.2.2.1.2.2.2
         have e_ln : lnP bs ct (nxP bs p) (opT ct td 1) 1 = (p2, (up (up (opT ct td 1) (c_ix ct 1 0) v1) (c_ix ct 1 1) v2)) := by
           show ln_1 bs ct (nxP bs p) (opT ct td 1) = _
           unfold ln_1
           rw [hk1.2.2.1, hk2.2.2.1, ← ep2, ← ep1, hk0.2.1]
         have e_tln : tlnP bs ct td 1 p = (p2, up ct 1 (ct 1 + 1), (up (up (opT ct td 1) (c_ix ct 1 0) v1) (c_ix ct 1 1) v2)) := by
           rw [tln_1 (by omega) (by show ¬ (1 : Int) ≤ ct 1; omega), e_ln]
           unfold tlnC
           show (p2, (if p2.1 7 = 0 then up ct 1 (ct 1 + 1) else ct), (up (up (opT ct td 1) (c_ix ct 1 0) v1) (c_ix ct 1 1) v2)) = _
           rw [if_pos hpe]
         have t0 : c_get (up (up (opT ct td 1) (c_ix ct 1 0) v1) (c_ix ct 1 1) v2) 1 (ct 1) 0 = v1 := (gn_ne (by omega) hcS rfl (by omega) (by omega) (by omega)).trans (gn_eq (by omega) hcS rfl (by omega))
         have t1 : c_get (up (up (opT ct td 1) (c_ix ct 1 0) v1) (c_ix ct 1 1) v2) 1 (ct 1) 1 = v2 := gn_eq (by omega) hcS rfl (by omega)
         rw [e_tln]
         refine ⟨⟨rfl, rfl⟩, _, _, _, _, hX, hgk, hTR, hMF, RB_g hRB (fun j hj => by rw [up_ne (by omega), up_ne (by omega)]) (by rw [up_ne (by omega), up_ne (by omega)]; exact hRB.2.2.1) (by rw [up_eq]; omega), fun _ => ?_, fR⟩
         show FR p2 (up ct 1 (ct 1 + 1)) (up (up (opT ct td 1) (c_ix ct 1 0) v1) (c_ix ct 1 1) v2) _ _
         refine FR_u01 (s := 1) hFR (by omega) (by show ct 1 < 1; omega) (OUT_up (OUT_up OUT_op (by omega) hcS.1 (by omega)) (by omega) hcS.1 (by omega)) (rn_up (rn_up (rn_op hFIr) (by omega)) (by omega)) ?_ (fun j hj => by rw [up_ne (by omega), up_ne (by omega)]) (K12_t hk0.2.2 (K12_t hk1.2.1 (hk2.2.1))) ?_
         · refine ⟨fun q => ?_, fun q => ?_, fun q => ?_, fun q => ?_, fun q => ?_, fun q => ?_, fun q => ?_, fun q => ?_, fun q => ?_, fun q => ?_, fun q => ?_, fun q => ?_, fun q => ?_⟩ <;> first | (exfalso; omega) | (rw [t0, t1]; omega)
         · have z0 : ct 1 = 0 := by omega
           obtain ⟨hg1a, hg1b, -, -⟩ := hFR.2.2.2.2.2.1
           have gk := fun x => get_keep (td := td) (td' := (up (up (opT ct td 1) (c_ix ct 1 0) v1) (c_ix ct 1 1) v2)) (s' := 0) (i := 0) (x := x) (ct := ct) (s := 1) (by omega) hcS (OUT_up (OUT_up OUT_op (by omega) hcS.1 (by omega)) (by omega) hcS.1 (by omega)) (fun q => absurd q.1 (by omega))
           rw [z0] at t0 t1
           refine ⟨fun q => ?_, fun q => ?_, fun q => ?_, fun _ => ?_⟩
           · rw [up_ne (by omega)] at q; rw [up_ne (by omega), up_ne (by omega)]; exact hg1a q
           · rw [up_ne (by omega)] at q; rw [up_ne (by omega), up_ne (by omega), up_ne (by omega), up_ne (by omega), up_ne (by omega), up_ne (by omega), gk 0, gk 1, gk 2]; exact hg1b q
           · rw [up_eq] at q; omega
           · rw [up_eq, up_ne (by omega), up_eq, t0, t1]; exact ⟨rfl, rfl⟩)
  · first | have d_8 := bz_0.mp c_8 | have d_8 := bz_1.mp c_8 | skip
    refine jr_aload_n (pc := 11) h dX9_readHeat_11 rfl ?_
    refine jr_iconst (pc := 12) h dX9_readHeat_12 ?_
    refine iv_X9_126 (pc := 13) h hl hR dX9_readHeat_13 ⟨(Nat.le_of_ble_eq_true rfl), (Nat.le_of_ble_eq_true rfl), (Nat.le_of_ble_eq_true rfl), (Nat.le_of_ble_eq_true rfl)⟩ (Nat.le_of_ble_eq_true rfl) (by assumption) (by omega) (s_X9_wrong hX (p := p) (k := 3) hTR hPO (by omega)) (fun v_13 n_13 M_13 hn_13 hp => ?_)
    obtain ⟨⟨rfl, rfl⟩, g1, w1, hX, hg1, hTR, f9⟩ := hp
    have fR := fr_tr fR (fr_mo f9 (fun k q => Or.inl q))
    have hgk := gkp_t hgk hg1
    have hMF := MF_fr hMF f9 (Nat.le_refl _) (fun k h1 h2 q => by have := q.1; have := q.2; omega)
    obtain ⟨hnm, hOm, hBm⟩ := id hX
    have hOm : M_13 m = jdO 9 (fX9 m _ _ fl (.ref f2)) := hOm
    obtain ⟨hnf, hOf, hAf⟩ := id hMF
    
    replace hPO := flP_O (k := 3) hPO (by omega)
    refine jr_aload_n (pc := 16) h dX9_readHeat_16 rfl ?_
    refine iv_X9_123 (pc := 17) h hl hR dX9_readHeat_17 ⟨(Nat.le_of_ble_eq_true rfl), (Nat.le_of_ble_eq_true rfl), (Nat.le_of_ble_eq_true rfl), (Nat.le_of_ble_eq_true rfl)⟩ (Nat.le_of_ble_eq_true rfl) (by assumption) (by omega) (s_X9_goesOn hX hbt hbb (p := (flP 3 p)) hTR hPO (fun q => absurd q (flP_x (by omega)))) (fun v_17 n_17 M_17 hn_17 hp => ?_)
    obtain ⟨⟨rfl, rfl⟩, g1, w1, hX, hg1, hTR, f9⟩ := hp
    have fR := fr_tr fR (fr_mo f9 (fun k q => Or.inl q))
    have hgk := gkp_t hgk hg1
    have hMF := MF_fr hMF f9 (Nat.le_refl _) (fun k h1 h2 q => by have := q.1; have := q.2; omega)
    rw [goP_1 (flP_x (by omega))] at hTR
    obtain ⟨p0, ep0⟩ : ∃ z, flP 3 p = z := ⟨_, rfl⟩
    rw [ep0] at hTR
    have hc0 : (ct 1 = 1 ∧ p0 = flP 3 p) ∨ (ct 1 < 1 ∧ p0 = nxP bs p) := Or.inl ⟨by omega, ep0.symm⟩
    replace hPO : PO p0 := by rw [← ep0]; exact hPO
    have hok0 : Imp (OKp p0) (ct 1 < 1 ∧ p0 = nxP bs p ∧ K12 p p0) := fun q => by
      rcases hc0 with ⟨-, e⟩ | ⟨h9, e⟩
      · rw [e] at q; exact absurd q (flP_x (by omega))
      · exact ⟨h9, e, by rw [e]; exact K12_nx⟩
    have hNRc : Imp (p0.1 7 = 0) (NR p0 gF A) := fun q => NR_K hNRp (hok0 q).2.2 rfl (fun _ _ => rfl)
    have hNIc : Imp (p0.1 7 = 0) (NI p0 ct) := fun q => NI_K hNIp (hok0 q).2.2 (Int.le_refl _) (Int.le_refl _)
    obtain ⟨hnm, hOm, hBm⟩ := id hX
    have hOm : M_17 m = jdO 9 (fX9 m _ _ fl (.ref f2)) := hOm
    obtain ⟨hnf, hOf, hAf⟩ := id hMF
    
    refine jr_aload_n (pc := 20) h dX9_readHeat_20 rfl ?_
    refine jr_ldcwS (pc := 21) h 28 (by decide) ⟨rfl, rfl⟩ dX9_readHeat_21 ?_
    refine jr_iconst (pc := 24) h dX9_readHeat_24 ?_
    refine jr_bipush (pc := 25) h dX9_readHeat_25 bp_90 ?_
    refine iv_X9_257 (pc := 27) h hl hR dX9_readHeat_27 ⟨(Nat.le_of_ble_eq_true rfl), (Nat.le_of_ble_eq_true rfl), (Nat.le_of_ble_eq_true rfl), (Nat.le_of_ble_eq_true rfl)⟩ (Nat.le_of_ble_eq_true rfl) (by assumption) (by omega) (s_X9_readPart hX hbt hbb (p := p0) (k := 28) (x := 0) (y := 90) hTR hPO (by omega) (by omega) (by omega) (by omega)) (fun v_27 n_27 M_27 hn_27 hp => ?_)
    obtain ⟨v1, ⟨rfl, rfl⟩, hvr1, hve1, g1, w1, hX, hg1, hTR, f9⟩ := hp
    have fR := fr_tr fR (fr_mo f9 (fun k q => Or.inl q))
    have hgk := gkp_t hgk hg1
    have hMF := MF_fr hMF f9 (Nat.le_refl _) (fun k h1 h2 q => by have := q.1; have := q.2; omega)
    rw [lb_c (show jtxt 28 = jtxt 20 from rfl)] at hve1 hTR
    obtain ⟨p1, ep1⟩ : ∃ z, (lbP bs 20 0 90 p0).2 = z := ⟨_, rfl⟩
    rw [ep1] at hTR hve1
    replace hPO : PO p1 := by rw [← ep1]; exact (fun h => ehP_O (ewP_O h)) hPO
    have hok1 : Imp (OKp p1) (OKp p0 ∧ K12 p0 p1 ∧ v1 = (lbP bs 20 0 90 p0).1 ∧ (0 ≤ v1 ∧ v1 ≤ 90)) := fun q => by
      have e := hve1 q
      rw [← ep1] at q ⊢
      have h9 := ok_lb q
      rw [e]
      exact ⟨h9.1, h9.2.2, rfl, h9.2.1⟩
    clear hve1
    have hf1 : Imp (p0.1 7 ≠ 0) (p1 = p0) := fun q => by rw [← ep1]; exact xP_f_lb q
    have hNRc : Imp (p1.1 7 = 0) (NR p1 gF A) := fun q => NR_K (hNRc (hok1 q).1) (hok1 q).2.1 rfl (fun _ _ => rfl)
    have hNIc : Imp (p1.1 7 = 0) (NI p1 ct) := fun q => NI_K (hNIc (hok1 q).1) (hok1 q).2.1 (Int.le_refl _) (Int.le_refl _)
    obtain ⟨hnm, hOm, hBm⟩ := id hX
    have hOm : M_27 m = jdO 9 (fX9 m _ _ fl (.ref f2)) := hOm
    obtain ⟨hnf, hOf, hAf⟩ := id hMF
    
    have h5r := (TR_5 hTR hPO).2.2
    refine jr_istore_n (pc := 30) h [_, _] dX9_readHeat_30 (by decide) rfl ?_
    refine jr_aload_n (pc := 31) h dX9_readHeat_31 rfl ?_
    refine gf_X9_174 (pc := 32) h dX9_readHeat_32 (by assumption) (by omega) ?_
    refine jr_aload_n (pc := 35) h dX9_readHeat_35 rfl ?_
    refine jr_ldcwS (pc := 36) h 29 (by decide) ⟨rfl, rfl⟩ dX9_readHeat_36 ?_
    refine jr_iconst (pc := 39) h dX9_readHeat_39 ?_
    refine jr_bipush (pc := 40) h dX9_readHeat_40 bp_50 ?_
    refine iv_X9_257 (pc := 42) h hl hR dX9_readHeat_42 ⟨(Nat.le_of_ble_eq_true rfl), (Nat.le_of_ble_eq_true rfl), (Nat.le_of_ble_eq_true rfl), (Nat.le_of_ble_eq_true rfl)⟩ (Nat.le_of_ble_eq_true rfl) (by assumption) (by omega) (s_X9_readPart hX hbt hbb (p := p1) (k := 29) (x := 0) (y := 50) hTR hPO (by omega) (by omega) (by omega) (by omega)) (fun v_42 n_42 M_42 hn_42 hp => ?_)
    obtain ⟨v2, ⟨rfl, rfl⟩, hvr2, hve2, g1, w1, hX, hg1, hTR, f9⟩ := hp
    have fR := fr_tr fR (fr_mo f9 (fun k q => Or.inl q))
    have hgk := gkp_t hgk hg1
    have hMF := MF_fr hMF f9 (Nat.le_refl _) (fun k h1 h2 q => by have := q.1; have := q.2; omega)
    rw [lb_c (show jtxt 29 = jtxt 21 from rfl)] at hve2 hTR
    obtain ⟨p2, ep2⟩ : ∃ z, (lbP bs 21 0 50 p1).2 = z := ⟨_, rfl⟩
    rw [ep2] at hTR hve2
    replace hPO : PO p2 := by rw [← ep2]; exact (fun h => ehP_O (ewP_O h)) hPO
    have hok2 : Imp (OKp p2) (OKp p1 ∧ K12 p1 p2 ∧ v2 = (lbP bs 21 0 50 p1).1 ∧ (0 ≤ v2 ∧ v2 ≤ 50)) := fun q => by
      have e := hve2 q
      rw [← ep2] at q ⊢
      have h9 := ok_lb q
      rw [e]
      exact ⟨h9.1, h9.2.2, rfl, h9.2.1⟩
    clear hve2
    have hf2 : Imp (p1.1 7 ≠ 0) (p2 = p1) := fun q => by rw [← ep2]; exact xP_f_lb q
    have hNRc : Imp (p2.1 7 = 0) (NR p2 gF A) := fun q => NR_K (hNRc (hok2 q).1) (hok2 q).2.1 rfl (fun _ _ => rfl)
    have hNIc : Imp (p2.1 7 = 0) (NI p2 ct) := fun q => NI_K (hNIc (hok2 q).1) (hok2 q).2.1 (Int.le_refl _) (Int.le_refl _)
    obtain ⟨hnm, hOm, hBm⟩ := id hX
    have hOm : M_42 m = jdO 9 (fX9 m _ _ fl (.ref f2)) := hOm
    obtain ⟨hnf, hOf, hAf⟩ := id hMF
    
    have h5r := (TR_5 hTR hPO).2.2
    refine pf_X9_272 (pc := 45) h dX9_readHeat_45 hOf (by omega) ?_
    refine jm_gen (fun M2 hM2 => ?_)
    rw [fX8_4] at hM2
    have hMF := MF_g hMF hM2
    have f9 : fr (MFS f2) _ M2 := fr_up (S := MFS f2) hM2 ⟨by omega, by omega⟩
    have hX := MX_fr hX f9 (Nat.le_refl _) (fun k h1 h2 q => by have := q.1; have := q.2; omega)
    have fR := fr_tr fR (fr_mo f9 (fun k q => Or.inr q))
    obtain ⟨hnm, hOm, hBm⟩ := id hX
    have hOm : M2 m = jdO 9 (fX9 m _ _ fl (.ref f2)) := hOm
    obtain ⟨hnf, hOf, hAf⟩ := id hMF
    refine jr_aload_n (pc := 48) h dX9_readHeat_48 rfl ?_
    refine gf_X9_80 (pc := 49) h dX9_readHeat_49 (by assumption) (by omega) ?_
    refine jr_iconst (pc := 52) h dX9_readHeat_52 ?_
    refine jr_icmp_eq (pc := 53) h 64 dX9_readHeat_53 (by decide) (by omega) (by omega) (fun c_53 => ?_) (fun c_53 => ?_)
    · first | have d_53 := bz_0.mp c_53 | have d_53 := bz_1.mp c_53 | skip
      refine jr_vret (pc := 64) h hRt dX9_readHeat_64 (Nat.le_of_ble_eq_true rfl) (Nat.le_of_ble_eq_true rfl) ?_
      first
      | (exfalso; omega)
      | (have h57 := (TR_5 hTR hPO).1
         have hpf : p2.1 7 ≠ 0 := h57.1 (by omega)
         have e_end : (tlnP bs ct td 1 p).1 = p2 := by
           rcases hc0 with ⟨hlm, e0⟩ | ⟨hlm, e0⟩
           · have hb0 : p0.1 7 ≠ 0 := by rw [e0]; exact flP_x (by omega)
             have e1 := hf1 hb0
             have hb1 : p1.1 7 ≠ 0 := by rw [e1]; exact hb0
             have e2 := hf2 hb1
             have hb2 : p2.1 7 ≠ 0 := by rw [e2]; exact hb1
             rw [tln_0 (by omega) (by show (1 : Int) ≤ ct 1; omega)]
             show flP 3 p = p2
             rw [e2, e1, e0]
           · rw [tln_1 (by omega) (by show ¬ (1 : Int) ≤ ct 1; omega)]
             show (ln_1 bs ct (nxP bs p) (opT ct td 1)).1 = p2
             rw [← ep2, ← ep1, e0]
             unfold ln_1
             rfl
         exact ⟨⟨rfl, rfl⟩, _, _, _, _, hX, hgk, (by rw [e_end]; exact hTR), hMF, RB_g hRB (fun j hj => by rw [up_ne (by omega)]) (by rw [up_ne (by omega)]; exact hRB.2.2.1) (by rw [up_ne (by omega)]; exact hRB.2.2.2.1), fun q => absurd q (by rw [e_end]; exact hpf), fR⟩)
    · first | have d_53 := bz_0.mp c_53 | have d_53 := bz_1.mp c_53 | skip
      refine jr_aload_n (pc := 56) h dX9_readHeat_56 rfl ?_
      refine gf_X9_174 (pc := 57) h dX9_readHeat_57 (by assumption) (by omega) ?_
      refine jr_iload_n (pc := 60) h dX9_readHeat_60 rfl ?_
      refine pf_X9_208 (pc := 61) h dX9_readHeat_61 hOf (by omega) ?_
      refine jm_gen (fun M2 hM2 => ?_)
      rw [fX8_3] at hM2
      have hMF := MF_g hMF hM2
      have f9 : fr (MFS f2) _ M2 := fr_up (S := MFS f2) hM2 ⟨by omega, by omega⟩
      have hX := MX_fr hX f9 (Nat.le_refl _) (fun k h1 h2 q => by have := q.1; have := q.2; omega)
      have fR := fr_tr fR (fr_mo f9 (fun k q => Or.inr q))
      obtain ⟨hnm, hOm, hBm⟩ := id hX
      have hOm : M2 m = jdO 9 (fX9 m _ _ fl (.ref f2)) := hOm
      obtain ⟨hnf, hOf, hAf⟩ := id hMF
      refine jr_vret (pc := 64) h hRt dX9_readHeat_64 (Nat.le_of_ble_eq_true rfl) (Nat.le_of_ble_eq_true rfl) ?_
      first
      | (exfalso; omega)
      | (have h57 := (TR_5 hTR hPO).1
         have hpe : p2.1 7 = 0 := Classical.byContradiction (fun q => by have := h57.2 q; omega)
         have hk2 := hok2 hpe
         have hk1 := hok1 hk2.1
         have hk0 := hok0 hk1.1
         have hl0 := hk0.1
         have hr1 := hk1.2.2.2
         have hv1 := hk1.2.2.1
         have hr2 := hk2.2.2.2
         have hv2 := hk2.2.2.1
         have hcS : 0 ≤ ct (Int.toNat 1) ∧ ct (Int.toNat 1) < 8 := by show 0 ≤ ct 1 ∧ ct 1 < 8; omega
         have hFIr := hFR.2.2.1.2.2.2
         have e_ln : lnP bs ct (nxP bs p) (opT ct td 1) 1 = (p2, (up (up (opT ct td 1) (c_ix ct 1 0) v1) (c_ix ct 1 1) v2)) := by
           show ln_1 bs ct (nxP bs p) (opT ct td 1) = _
           unfold ln_1
           rw [hk1.2.2.1, hk2.2.2.1, ← ep2, ← ep1, hk0.2.1]
         have e_tln : tlnP bs ct td 1 p = (p2, up ct 1 (ct 1 + 1), (up (up (opT ct td 1) (c_ix ct 1 0) v1) (c_ix ct 1 1) v2)) := by
           rw [tln_1 (by omega) (by show ¬ (1 : Int) ≤ ct 1; omega), e_ln]
           unfold tlnC
           show (p2, (if p2.1 7 = 0 then up ct 1 (ct 1 + 1) else ct), (up (up (opT ct td 1) (c_ix ct 1 0) v1) (c_ix ct 1 1) v2)) = _
           rw [if_pos hpe]
         have t0 : c_get (up (up (opT ct td 1) (c_ix ct 1 0) v1) (c_ix ct 1 1) v2) 1 (ct 1) 0 = v1 := (gn_ne (by omega) hcS rfl (by omega) (by omega) (by omega)).trans (gn_eq (by omega) hcS rfl (by omega))
         have t1 : c_get (up (up (opT ct td 1) (c_ix ct 1 0) v1) (c_ix ct 1 1) v2) 1 (ct 1) 1 = v2 := gn_eq (by omega) hcS rfl (by omega)
         rw [e_tln]
         refine ⟨⟨rfl, rfl⟩, _, _, _, _, hX, hgk, hTR, hMF, RB_g hRB (fun j hj => by rw [up_ne (by omega), up_ne (by omega)]) (by rw [up_ne (by omega), up_ne (by omega)]; exact hRB.2.2.1) (by rw [up_eq]; omega), fun _ => ?_, fR⟩
         show FR p2 (up ct 1 (ct 1 + 1)) (up (up (opT ct td 1) (c_ix ct 1 0) v1) (c_ix ct 1 1) v2) _ _
         refine FR_u01 (s := 1) hFR (by omega) (by show ct 1 < 1; omega) (OUT_up (OUT_up OUT_op (by omega) hcS.1 (by omega)) (by omega) hcS.1 (by omega)) (rn_up (rn_up (rn_op hFIr) (by omega)) (by omega)) ?_ (fun j hj => by rw [up_ne (by omega), up_ne (by omega)]) (K12_t hk0.2.2 (K12_t hk1.2.1 (hk2.2.1))) ?_
         · refine ⟨fun q => ?_, fun q => ?_, fun q => ?_, fun q => ?_, fun q => ?_, fun q => ?_, fun q => ?_, fun q => ?_, fun q => ?_, fun q => ?_, fun q => ?_, fun q => ?_, fun q => ?_⟩ <;> first | (exfalso; omega) | (rw [t0, t1]; omega)
         · have z0 : ct 1 = 0 := by omega
           obtain ⟨hg1a, hg1b, -, -⟩ := hFR.2.2.2.2.2.1
           have gk := fun x => get_keep (td := td) (td' := (up (up (opT ct td 1) (c_ix ct 1 0) v1) (c_ix ct 1 1) v2)) (s' := 0) (i := 0) (x := x) (ct := ct) (s := 1) (by omega) hcS (OUT_up (OUT_up OUT_op (by omega) hcS.1 (by omega)) (by omega) hcS.1 (by omega)) (fun q => absurd q.1 (by omega))
           rw [z0] at t0 t1
           refine ⟨fun q => ?_, fun q => ?_, fun q => ?_, fun _ => ?_⟩
           · rw [up_ne (by omega)] at q; rw [up_ne (by omega), up_ne (by omega)]; exact hg1a q
           · rw [up_ne (by omega)] at q; rw [up_ne (by omega), up_ne (by omega), up_ne (by omega), up_ne (by omega), up_ne (by omega), up_ne (by omega), gk 0, gk 1, gk 2]; exact hg1b q
           · rw [up_eq] at q; omega
           · rw [up_eq, up_ne (by omega), up_eq, t0, t1]; exact ⟨rfl, rfl⟩)
