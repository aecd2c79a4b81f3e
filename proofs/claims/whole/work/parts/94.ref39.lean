/-! 94: the reference: more lines -/
set_option maxHeartbeats 1000000 in
set_option maxRecDepth 20000 in
theorem s_X9_readDrink {l : Launch} {n : Nat} {M : jdM} {m f2 : Nat} {g : Nat → Int} {w : Int} {fl : Value} {B : Nat → Nat → Int} (hX : MX M n m g w fl (.ref f2) B) {bs : Nat → Int} (hbt : ∀ j, j < 900 → B 1 j = bs j) (hbb : ∀ j, -128 ≤ bs j ∧ bs j ≤ 127) {p : TS} (hTR : TR bs p g w) (hPO : PO p) {gF : Nat → Int} {A : Nat → Nat → Int} (hMF : MF M n f2 gF A) (hsep : f2 + 30 < m ∨ m + 12 < f2) (hRB : RB gF A) {ct td : Nat → Int} (hFR : FR p ct td gF A) (q7 : p.1 7 = 0) (q4 : p.1 4 = 1) : Ct l yX9_readDrink cX9_readDrink 2 none rX9_readDrink [.ref m] n M (fun vv n' M' => (vv = none ∧ n = n') ∧ ∃ g' w' gF' A', MX M' n m g' w' fl (.ref f2) B ∧ gkp g g' ∧ TR bs (tlnP bs ct td 12 p).1 g' w' ∧ MF M' n f2 gF' A' ∧ RB gF' A' ∧ ((tlnP bs ct td 12 p).1.1 7 = 0 → FR (tlnP bs ct td 12 p).1 (tlnP bs ct td 12 p).2.1 (tlnP bs ct td 12 p).2.2 gF' A') ∧ fr (RFS m f2) M M') := by
  refine Ct_of [some (.ref m), none] (by decide) (Nat.le_of_ble_eq_true rfl) rfl (fun κ hl h hR hRt hmn hn0 => ?_)
  have h : Ok κ RX9 cX9_readDrink 2 none := h
  obtain ⟨hnm, hOm, hBm⟩ := id hX
  have hOm : M m = jdO 9 (fX9 m _ _ fl (.ref f2)) := hOm
  obtain ⟨hnf, hOf, hAf⟩ := id hMF
  have fR : fr (RFS m f2) M M := fr_rf
  have hgk : gkp g g := gkp_r
  have hNB := hRB.1
  obtain ⟨hcb, h0b, h3b, h8b⟩ := hRB.2
  have hNRp := hFR.2.2.2.1
  have hNIp := hFR.2.2.2.2.1
  have hcnt := hFR.2.2.2.2.2.2
  obtain ⟨k5, k6, k7, k8, k9, k10, k11, k12, k13, k14, k15⟩ := hFR.2.1
  have hNBc := hNB.1
  refine jr_aload_n (pc := 0) h dX9_readDrink_0 rfl ?_
  refine jr_aload_n (pc := 1) h dX9_readDrink_1 rfl ?_
  refine gf_X9_174 (pc := 2) h dX9_readDrink_2 (by assumption) (by omega) ?_
  refine gf_X9_411 (pc := 5) h dX9_readDrink_5 (by assumption) (by omega) ?_
  refine jr_iconst (pc := 8) h dX9_readDrink_8 ?_
  refine iv_X9_274 (pc := 9) h hl hR dX9_readDrink_9 ⟨(Nat.le_of_ble_eq_true rfl), (Nat.le_of_ble_eq_true rfl), (Nat.le_of_ble_eq_true rfl), (Nat.le_of_ble_eq_true rfl)⟩ (Nat.le_of_ble_eq_true rfl) (by assumption) (by omega) (s_X9_begins hX hbt hbb hTR hPO q7 q4 (x := gF 15) (y := 4) (by omega) (by omega)) (fun v_9 n_9 M_9 hn_9 hp => ?_)
  obtain ⟨⟨rfl, rfl⟩, g1, w1, hX, hg1, hTR, f9⟩ := hp
  have fR := fr_tr fR (fr_mo f9 (fun k q => Or.inl q))
  have hgk := gkp_t hgk hg1
  have hMF := MF_fr hMF f9 (Nat.le_refl _) (fun k h1 h2 q => by have := q.1; have := q.2; omega)
  obtain ⟨p0, ep0⟩ : ∃ z, (if gF 15 = 4 then flP 5 p else nxP bs p) = z := ⟨_, rfl⟩
  rw [ep0] at hTR
  have hc0 : (ct 12 = 4 ∧ p0 = flP 5 p) ∨ (ct 12 < 4 ∧ p0 = nxP bs p) := by
    rw [← ep0]
    by_cases q : gF 15 = 4
    · rw [if_pos q]; exact Or.inl ⟨by omega, rfl⟩
    · rw [if_neg q]; exact Or.inr ⟨by omega, rfl⟩
  replace hPO : PO p0 := by
    rcases hc0 with ⟨-, e⟩ | ⟨-, e⟩ <;> rw [e]
    · exact flP_O hPO (by omega)
    · exact nxP_O hPO
  have hok0 : Imp (OKp p0) (ct 12 < 4 ∧ p0 = nxP bs p ∧ K12 p p0) := fun q => by
    rcases hc0 with ⟨-, e⟩ | ⟨h9, e⟩
    · rw [e] at q; exact absurd q (flP_x (by omega))
    · exact ⟨h9, e, by rw [e]; exact K12_nx⟩
  have hNRc : Imp (p0.1 7 = 0) (NR p0 gF A) := fun q => NR_K hNRp (hok0 q).2.2 rfl (fun _ _ => rfl)
  have hNIc : Imp (p0.1 7 = 0) (NI p0 ct) := fun q => NI_K hNIp (hok0 q).2.2 (Int.le_refl _) (Int.le_refl _)
  obtain ⟨hnm, hOm, hBm⟩ := id hX
  have hOm : M_9 m = jdO 9 (fX9 m _ _ fl (.ref f2)) := hOm
  obtain ⟨hnf, hOf, hAf⟩ := id hMF
  
  refine jr_aload_n (pc := 12) h dX9_readDrink_12 rfl ?_
  refine jr_iconst (pc := 13) h dX9_readDrink_13 ?_
  refine jr_aload_n (pc := 14) h dX9_readDrink_14 rfl ?_
  refine gf_X9_174 (pc := 15) h dX9_readDrink_15 (by assumption) (by omega) ?_
  refine gf_X9_411 (pc := 18) h dX9_readDrink_18 (by assumption) (by omega) ?_
  refine iv_X9_278 (pc := 21) h hl hR dX9_readDrink_21 ⟨(Nat.le_of_ble_eq_true rfl), (Nat.le_of_ble_eq_true rfl), (Nat.le_of_ble_eq_true rfl), (Nat.le_of_ble_eq_true rfl)⟩ (Nat.le_of_ble_eq_true rfl) (by assumption) (by omega) (s_X9_readFresh hX hbt hbb (p := p0) hTR hPO hMF hsep hNB hNRc (s := 12) (x := 2) (y := gF 15) (by omega) rfl (by omega) (by omega) (fun q => by have := hok0 q; have h12 := this.2.2.2; omega)) (fun v_21 n_21 M_21 hn_21 hp => ?_)
  obtain ⟨⟨rfl, rfl⟩, g1, w1, gF1, A1, hX, hg1, hTR, hMF, hNB, hNRc, hgo, hAo, f9⟩ := hp
  have fR := fr_tr fR f9
  have hgk := gkp_t hgk hg1
  rw [k15] at hTR hNRc
  obtain ⟨p1, ep1⟩ : ∃ z, nnP bs 12 (ct 12) p0 = z := ⟨_, rfl⟩
  rw [ep1] at hTR hNRc
  replace hPO : PO p1 := by rw [← ep1]; exact nnP_O hPO (by omega) (by omega)
  replace hNRc : Imp (p1.1 7 = 0) (NR p1 gF1 A1) := hNRc
  have hNIc : Imp (p1.1 7 = 0) (NI p1 (up ct 12 (ct 12 + 1))) := fun q => by
    rw [← ep1] at q ⊢
    have h9 := ok_nn q
    rw [h9.2.2]
    exact NI_nm (hNIc h9.1) (fun q => absurd q (by decide)) (fun q => absurd q (by decide)) (by rw [up_ne (by omega)]; omega) (by rw [up_ne (by omega)]; omega)
  have hok1 : Imp (OKp p1) (OKp p0 ∧ p0.1 12 < 16 ∧ p1 = nxP bs (nmP 12 (ct 12) p0)) := fun q => by
    rw [← ep1] at q ⊢
    exact ok_nn q
  have hf1 : Imp (p0.1 7 ≠ 0) (p1 = p0) := fun q => by rw [← ep1]; exact xP_f_nn q
  have hRB1 : RB gF1 A1 := ⟨hNB, by rw [hgo 5 (by omega), hgo 6 (by omega), hgo 7 (by omega), hgo 8 (by omega), hgo 9 (by omega), hgo 10 (by omega), hgo 11 (by omega), hgo 12 (by omega), hgo 13 (by omega), hgo 14 (by omega), hgo 15 (by omega)]; exact hRB.2.1, by rw [hgo 0 (by omega)]; exact hRB.2.2.1, by rw [hgo 3 (by omega)]; exact hRB.2.2.2.1, by rw [hAo 8 (by omega)]; exact hRB.2.2.2.2⟩
  obtain ⟨hnm, hOm, hBm⟩ := id hX
  have hOm : M_21 m = jdO 9 (fX9 m _ _ fl (.ref f2)) := hOm
  obtain ⟨hnf, hOf, hAf⟩ := id hMF
  
  refine jr_aload_n (pc := 24) h dX9_readDrink_24 rfl ?_
  refine jr_ldcwS (pc := 25) h 57 (by decide) ⟨rfl, rfl⟩ dX9_readDrink_25 ?_
  refine jr_iconst (pc := 28) h dX9_readDrink_28 ?_
  refine jr_bipush (pc := 29) h dX9_readDrink_29 bp_99 ?_
  refine iv_X9_257 (pc := 31) h hl hR dX9_readDrink_31 ⟨(Nat.le_of_ble_eq_true rfl), (Nat.le_of_ble_eq_true rfl), (Nat.le_of_ble_eq_true rfl), (Nat.le_of_ble_eq_true rfl)⟩ (Nat.le_of_ble_eq_true rfl) (by assumption) (by omega) (s_X9_readPart hX hbt hbb (p := p1) (k := 57) (x := 1) (y := 99) hTR hPO (by omega) (by omega) (by omega) (by omega)) (fun v_31 n_31 M_31 hn_31 hp => ?_)
  obtain ⟨v2, ⟨rfl, rfl⟩, hvr2, hve2, g1, w1, hX, hg1, hTR, f9⟩ := hp
  have fR := fr_tr fR (fr_mo f9 (fun k q => Or.inl q))
  have hgk := gkp_t hgk hg1
  have hMF := MF_fr hMF f9 (Nat.le_refl _) (fun k h1 h2 q => by have := q.1; have := q.2; omega)
  rw [lb_c (show jtxt 57 = jtxt 10 from rfl)] at hve2 hTR
  obtain ⟨p2, ep2⟩ : ∃ z, (lbP bs 10 1 99 p1).2 = z := ⟨_, rfl⟩
  rw [ep2] at hTR hve2
  replace hPO : PO p2 := by rw [← ep2]; exact (fun h => ehP_O (ewP_O h)) hPO
  have hok2 : Imp (OKp p2) (OKp p1 ∧ K12 p1 p2 ∧ v2 = (lbP bs 10 1 99 p1).1 ∧ (1 ≤ v2 ∧ v2 ≤ 99)) := fun q => by
    have e := hve2 q
    rw [← ep2] at q ⊢
    have h9 := ok_lb q
    rw [e]
    exact ⟨h9.1, h9.2.2, rfl, h9.2.1⟩
  clear hve2
  have hf2 : Imp (p1.1 7 ≠ 0) (p2 = p1) := fun q => by rw [← ep2]; exact xP_f_lb q
  have hNRc : Imp (p2.1 7 = 0) (NR p2 gF1 A1) := fun q => NR_K (hNRc (hok2 q).1) (hok2 q).2.1 rfl (fun _ _ => rfl)
  have hNIc : Imp (p2.1 7 = 0) (NI p2 (up ct 12 (ct 12 + 1))) := fun q => NI_K (hNIc (hok2 q).1) (hok2 q).2.1 (Int.le_refl _) (Int.le_refl _)
  obtain ⟨hnm, hOm, hBm⟩ := id hX
  have hOm : M_31 m = jdO 9 (fX9 m _ _ fl (.ref f2)) := hOm
  obtain ⟨hnf, hOf, hAf⟩ := id hMF
  
  have h5r := (TR_5 hTR hPO).2.2
  refine jr_istore_n (pc := 34) h [_, _] dX9_readDrink_34 (by decide) rfl ?_
  refine jr_aload_n (pc := 35) h dX9_readDrink_35 rfl ?_
  refine gf_X9_80 (pc := 36) h dX9_readDrink_36 (by assumption) (by omega) ?_
  refine jr_iconst (pc := 39) h dX9_readDrink_39 ?_
  refine jr_icmp_ne (pc := 40) h 44 dX9_readDrink_40 (by decide) (by omega) (by omega) (fun c_40 => ?_) (fun c_40 => ?_)
  · first | have d_40 := bz_0.mp c_40 | have d_40 := bz_1.mp c_40 | skip
    have h57 := (TR_5 hTR hPO).1
    have hpe : p2.1 7 = 0 := Classical.byContradiction (fun q => by have := h57.2 q; omega)
    have hk2 := hok2 hpe
    have hk1 := hok1 hk2.1
    have hk0 := hok0 hk1.1
    have hl0 := hk0.1
    have hr2 := hk2.2.2.2
    have hv2 := hk2.2.2.1
    have g5o := hgo 5 (by omega)
    have g6o := hgo 6 (by omega)
    have g7o := hgo 7 (by omega)
    have g8o := hgo 8 (by omega)
    have g9o := hgo 9 (by omega)
    have g10o := hgo 10 (by omega)
    have g11o := hgo 11 (by omega)
    have g12o := hgo 12 (by omega)
    have g13o := hgo 13 (by omega)
    have g14o := hgo 14 (by omega)
    have g15o := hgo 15 (by omega)
    have hA26 : M_31 (f2 + 26) = jdA 4 (A1 26) := hAf 26 (by omega) (by omega)
    refine jr_aload_n (pc := 44) h dX9_readDrink_44 rfl ?_
    refine gf_X9_174 (pc := 45) h dX9_readDrink_45 (by assumption) (by omega) ?_
    refine gf_X9_416 (pc := 48) h dX9_readDrink_48 (by assumption) (by omega) ?_
    refine jr_aload_n (pc := 51) h dX9_readDrink_51 rfl ?_
    refine gf_X9_174 (pc := 52) h dX9_readDrink_52 (by assumption) (by omega) ?_
    refine gf_X9_411 (pc := 55) h dX9_readDrink_55 (by assumption) (by omega) ?_
    refine jr_iload_n (pc := 58) h dX9_readDrink_58 rfl ?_
    refine jr_iast (pc := 59) h dX9_readDrink_59 hA26 (by omega) (by omega) ?_
    refine jm_gen (fun M2 hM2 => ?_)
    have hMF := MF_A (i := 26) hMF hM2 (by omega)
    have f9 : fr (MFS f2) _ M2 := fr_up (S := MFS f2) hM2 ⟨by omega, by omega⟩
    have hX := MX_fr hX f9 (Nat.le_refl _) (fun k h1 h2 q => by have := q.1; have := q.2; omega)
    have fR := fr_tr fR (fr_mo f9 (fun k q => Or.inr q))
    obtain ⟨hnm, hOm, hBm⟩ := id hX
    have hOm : M2 m = jdO 9 (fX9 m _ _ fl (.ref f2)) := hOm
    obtain ⟨hnf, hOf, hAf⟩ := id hMF
    
    refine jr_aload_n (pc := 60) h dX9_readDrink_60 rfl ?_
    refine gf_X9_174 (pc := 61) h dX9_readDrink_61 (by assumption) (by omega) ?_
    refine jr_dup (pc := 64) h dX9_readDrink_64 rfl ?_
    refine gf_X9_411 (pc := 65) h dX9_readDrink_65 (by assumption) (by omega) ?_
    refine jr_iconst (pc := 68) h dX9_readDrink_68 ?_
    refine jr_iadd (pc := 69) h dX9_readDrink_69 ?_
    refine pf_X9_411 (pc := 70) h dX9_readDrink_70 hOf (by omega) ?_
    refine jm_gen (fun M2 hM2 => ?_)
    rw [fX8_15] at hM2
    have hMF := MF_g hMF hM2
    have f9 : fr (MFS f2) _ M2 := fr_up (S := MFS f2) hM2 ⟨by omega, by omega⟩
    have hX := MX_fr hX f9 (Nat.le_refl _) (fun k h1 h2 q => by have := q.1; have := q.2; omega)
    have fR := fr_tr fR (fr_mo f9 (fun k q => Or.inr q))
    obtain ⟨hnm, hOm, hBm⟩ := id hX
    have hOm : M2 m = jdO 9 (fX9 m _ _ fl (.ref f2)) := hOm
    obtain ⟨hnf, hOf, hAf⟩ := id hMF
    refine jr_vret (pc := 73) h hRt dX9_readDrink_73 (Nat.le_of_ble_eq_true rfl) (Nat.le_of_ble_eq_true rfl) ?_
    have hcS : 0 ≤ ct (Int.toNat 12) ∧ ct (Int.toNat 12) < 8 := by show 0 ≤ ct 12 ∧ ct 12 < 8; omega
    have hFIr := hFR.2.2.1.2.2.2
    have e_ln : lnP bs ct (nxP bs p) (opT ct td 12) 12 = (p2, (up (opT ct td 12) (c_ix ct 12 0) v2)) := by
      show ln_12 bs ct (nnP bs 12 (ct 12) (nxP bs p)) (opT ct td 12) = _
      unfold ln_12
      rw [hk2.2.2.1, ← ep2, ← ep1, hk0.2.1]
    have e_tln : tlnP bs ct td 12 p = (p2, up ct 12 (ct 12 + 1), (up (opT ct td 12) (c_ix ct 12 0) v2)) := by
      rw [tln_1 (by omega) (by show ¬ (4 : Int) ≤ ct 12; omega), e_ln]
      unfold tlnC
      show (p2, (if p2.1 7 = 0 then up ct 12 (ct 12 + 1) else ct), (up (opT ct td 12) (c_ix ct 12 0) v2)) = _
      rw [if_pos hpe]
    have t0 : c_get (up (opT ct td 12) (c_ix ct 12 0) v2) 12 (ct 12) 0 = v2 := gn_eq (by omega) hcS rfl (by omega)
    rw [e_tln]
    refine ⟨⟨rfl, rfl⟩, _, _, _, _, hX, hgk, hTR, hMF, ?_, fun _ => ?_, fR⟩
    · refine RB_up (k := 15) hRB1 ⟨by omega, by omega⟩ (by show gF1 15 < 4; omega) (fun i hi => by rw [up_ne (by omega)]; exact hRB1.2.2.2.2 i hi) (fun j hj => by rw [up_ne (by omega)])
    · show FR p2 (up ct 12 (ct 12 + 1)) (up (opT ct td 12) (c_ix ct 12 0) v2) _ _
      refine FR_upd (s := 12) hFR ⟨by omega, by omega⟩ (by show ct 12 < 4; omega) (OUT_up OUT_op (by omega) hcS.1 (by omega)) (rn_up (rn_op hFIr) (by omega)) ?_ (fun q => absurd q (by decide)) (fun j h1 h2 h3 => by
        have hA9 := hAo j h2
        rw [up_ne (fun e => h3 (by rw [e]; rfl)), hA9]) ⟨fun q => absurd q (by decide), fun q => absurd q (by decide), fun q => absurd q (by decide), fun q => absurd q (by decide), fun q => absurd q (by decide), fun q => absurd q (by decide), fun q => absurd q (by decide), fun q => absurd q (by decide), fun q => absurd q (by decide), fun q => absurd q (by decide), fun _ => by rw [t0]; show up (A1 26) (gF1 15).toNat v2 = up (A 26) (ct 12).toNat v2; rw [hAo 26 (by omega), hgo 15 (by omega), k15]⟩ (by show up gF1 15 (gF1 15 + 1) 15 = gF 15 + 1; rw [up_eq, hgo 15 (by omega)]) (fun j hj hne => by rw [up_ne (by omega), hgo j (by omega)]) (NR_K (hNRc hpe) K12_r (up_ne (by omega)) (fun j hj => by rw [up_ne (by omega)])) (NI_K (hNIc hpe) K12_r (Int.le_refl _) (Int.le_refl _)) ?_
      · refine ⟨fun q => ?_, fun q => ?_, fun q => ?_, fun q => ?_, fun q => ?_, fun q => ?_, fun q => ?_, fun q => ?_, fun q => ?_, fun q => ?_, fun q => ?_, fun q => ?_, fun q => ?_⟩ <;> first | (exfalso; omega) | (rw [t0]; omega)
      · rw [if_pos (by omega)]
        have e12 : p1.1 12 = p0.1 12 + 1 := by rw [hk1.2.2, K12_nx.2]; show up p0.1 12 (p0.1 12 + 1) 12 = _; rw [up_eq]
        have e0 := hk0.2.2.2
        have x2 := hk2.2.1.2
        omega
  · first | have d_40 := bz_0.mp c_40 | have d_40 := bz_1.mp c_40 | skip
    refine jr_vret (pc := 43) h hRt dX9_readDrink_43 (Nat.le_of_ble_eq_true rfl) (Nat.le_of_ble_eq_true rfl) ?_
    have h57 := (TR_5 hTR hPO).1
    have hpf : p2.1 7 ≠ 0 := h57.1 (by omega)
    have e_end : (tlnP bs ct td 12 p).1 = p2 := by
      rcases hc0 with ⟨hlm, e0⟩ | ⟨hlm, e0⟩
      · have hb0 : p0.1 7 ≠ 0 := by rw [e0]; exact flP_x (by omega)
        have e1 := hf1 hb0
        have hb1 : p1.1 7 ≠ 0 := by rw [e1]; exact hb0
        have e2 := hf2 hb1
        have hb2 : p2.1 7 ≠ 0 := by rw [e2]; exact hb1
        rw [tln_0 (by omega) (by show (4 : Int) ≤ ct 12; omega)]
        show flP 5 p = p2
        rw [e2, e1, e0]
      · rw [tln_1 (by omega) (by show ¬ (4 : Int) ≤ ct 12; omega)]
        show (ln_12 bs ct (nnP bs 12 (ct 12) (nxP bs p)) (opT ct td 12)).1 = p2
        rw [← ep2, ← ep1, e0]
        unfold ln_12
        rfl
    exact ⟨⟨rfl, rfl⟩, _, _, _, _, hX, hgk, (by rw [e_end]; exact hTR), hMF, hRB1, fun q => absurd q (by rw [e_end]; exact hpf), fR⟩
set_option maxHeartbeats 1000000 in
set_option maxRecDepth 20000 in
theorem s_X9_readGap {l : Launch} {n : Nat} {M : jdM} {m f2 : Nat} {g : Nat → Int} {w : Int} {fl : Value} {B : Nat → Nat → Int} (hX : MX M n m g w fl (.ref f2) B) {bs : Nat → Int} (hbt : ∀ j, j < 900 → B 1 j = bs j) (hbb : ∀ j, -128 ≤ bs j ∧ bs j ≤ 127) {p : TS} (hTR : TR bs p g w) (hPO : PO p) {gF : Nat → Int} {A : Nat → Nat → Int} (hMF : MF M n f2 gF A) (hsep : f2 + 30 < m ∨ m + 12 < f2) (hRB : RB gF A) {ct td : Nat → Int} (hFR : FR p ct td gF A) (q7 : p.1 7 = 0) (q4 : p.1 4 = 1) : Ct l yX9_readGap cX9_readGap 2 none rX9_readGap [.ref m] n M (fun vv n' M' => (vv = none ∧ n = n') ∧ ∃ g' w' gF' A', MX M' n m g' w' fl (.ref f2) B ∧ gkp g g' ∧ TR bs (tlnP bs ct td 10 p).1 g' w' ∧ MF M' n f2 gF' A' ∧ RB gF' A' ∧ ((tlnP bs ct td 10 p).1.1 7 = 0 → FR (tlnP bs ct td 10 p).1 (tlnP bs ct td 10 p).2.1 (tlnP bs ct td 10 p).2.2 gF' A') ∧ fr (RFS m f2) M M') := by
  refine Ct_of [some (.ref m), none] (by decide) (Nat.le_of_ble_eq_true rfl) rfl (fun κ hl h hR hRt hmn hn0 => ?_)
  have h : Ok κ RX9 cX9_readGap 2 none := h
  obtain ⟨hnm, hOm, hBm⟩ := id hX
  have hOm : M m = jdO 9 (fX9 m _ _ fl (.ref f2)) := hOm
  obtain ⟨hnf, hOf, hAf⟩ := id hMF
  have fR : fr (RFS m f2) M M := fr_rf
  have hgk : gkp g g := gkp_r
  have hNB := hRB.1
  obtain ⟨hcb, h0b, h3b, h8b⟩ := hRB.2
  have hNRp := hFR.2.2.2.1
  have hNIp := hFR.2.2.2.2.1
  have hcnt := hFR.2.2.2.2.2.2
  obtain ⟨k5, k6, k7, k8, k9, k10, k11, k12, k13, k14, k15⟩ := hFR.2.1
  have hNBc := hNB.1
  refine jr_aload_n (pc := 0) h dX9_readGap_0 rfl ?_
  refine jr_aload_n (pc := 1) h dX9_readGap_1 rfl ?_
  refine gf_X9_174 (pc := 2) h dX9_readGap_2 (by assumption) (by omega) ?_
  refine gf_X9_392 (pc := 5) h dX9_readGap_5 (by assumption) (by omega) ?_
  refine jr_iconst (pc := 8) h dX9_readGap_8 ?_
  refine iv_X9_274 (pc := 9) h hl hR dX9_readGap_9 ⟨(Nat.le_of_ble_eq_true rfl), (Nat.le_of_ble_eq_true rfl), (Nat.le_of_ble_eq_true rfl), (Nat.le_of_ble_eq_true rfl)⟩ (Nat.le_of_ble_eq_true rfl) (by assumption) (by omega) (s_X9_begins hX hbt hbb hTR hPO q7 q4 (x := gF 13) (y := 3) (by omega) (by omega)) (fun v_9 n_9 M_9 hn_9 hp => ?_)
  obtain ⟨⟨rfl, rfl⟩, g1, w1, hX, hg1, hTR, f9⟩ := hp
  have fR := fr_tr fR (fr_mo f9 (fun k q => Or.inl q))
  have hgk := gkp_t hgk hg1
  have hMF := MF_fr hMF f9 (Nat.le_refl _) (fun k h1 h2 q => by have := q.1; have := q.2; omega)
  obtain ⟨p0, ep0⟩ : ∃ z, (if gF 13 = 3 then flP 5 p else nxP bs p) = z := ⟨_, rfl⟩
  rw [ep0] at hTR
  have hc0 : (ct 10 = 3 ∧ p0 = flP 5 p) ∨ (ct 10 < 3 ∧ p0 = nxP bs p) := by
    rw [← ep0]
    by_cases q : gF 13 = 3
    · rw [if_pos q]; exact Or.inl ⟨by omega, rfl⟩
    · rw [if_neg q]; exact Or.inr ⟨by omega, rfl⟩
  replace hPO : PO p0 := by
    rcases hc0 with ⟨-, e⟩ | ⟨-, e⟩ <;> rw [e]
    · exact flP_O hPO (by omega)
    · exact nxP_O hPO
  have hok0 : Imp (OKp p0) (ct 10 < 3 ∧ p0 = nxP bs p ∧ K12 p p0) := fun q => by
    rcases hc0 with ⟨-, e⟩ | ⟨h9, e⟩
    · rw [e] at q; exact absurd q (flP_x (by omega))
    · exact ⟨h9, e, by rw [e]; exact K12_nx⟩
  have hNRc : Imp (p0.1 7 = 0) (NR p0 gF A) := fun q => NR_K hNRp (hok0 q).2.2 rfl (fun _ _ => rfl)
  have hNIc : Imp (p0.1 7 = 0) (NI p0 ct) := fun q => NI_K hNIp (hok0 q).2.2 (Int.le_refl _) (Int.le_refl _)
  obtain ⟨hnm, hOm, hBm⟩ := id hX
  have hOm : M_9 m = jdO 9 (fX9 m _ _ fl (.ref f2)) := hOm
  obtain ⟨hnf, hOf, hAf⟩ := id hMF
  
  refine jr_aload_n (pc := 12) h dX9_readGap_12 rfl ?_
  refine jr_iconst (pc := 13) h dX9_readGap_13 ?_
  refine jr_bipush (pc := 14) h dX9_readGap_14 bp_40 ?_
  refine iv_X9_138 (pc := 16) h hl hR dX9_readGap_16 ⟨(Nat.le_of_ble_eq_true rfl), (Nat.le_of_ble_eq_true rfl), (Nat.le_of_ble_eq_true rfl), (Nat.le_of_ble_eq_true rfl)⟩ (Nat.le_of_ble_eq_true rfl) (by assumption) (by omega) (s_X9_readWhole hX hbt hbb (p := p0) (x := 1) (y := 40) hTR hPO (by omega) (by omega)) (fun v_16 n_16 M_16 hn_16 hp => ?_)
  obtain ⟨v1, ⟨rfl, rfl⟩, hvr1, hve1, g1, w1, hX, hg1, hTR, f9⟩ := hp
  have fR := fr_tr fR (fr_mo f9 (fun k q => Or.inl q))
  have hgk := gkp_t hgk hg1
  have hMF := MF_fr hMF f9 (Nat.le_refl _) (fun k h1 h2 q => by have := q.1; have := q.2; omega)
  obtain ⟨p1, ep1⟩ : ∃ z, (ehP bs 1 40 p0).2 = z := ⟨_, rfl⟩
  rw [ep1] at hTR hve1
  replace hPO : PO p1 := by rw [← ep1]; exact ehP_O hPO
  have hok1 : Imp (OKp p1) (OKp p0 ∧ K12 p0 p1 ∧ v1 = (ehP bs 1 40 p0).1 ∧ (1 ≤ v1 ∧ v1 ≤ 40)) := fun q => by
    have e := hve1 q
    rw [← ep1] at q ⊢
    have h9 := ok_eh q
    rw [e]
    exact ⟨h9.1, h9.2.2, rfl, h9.2.1⟩
  clear hve1
  have hf1 : Imp (p0.1 7 ≠ 0) (p1 = p0) := fun q => by rw [← ep1]; exact xP_f_eh q
  have hNRc : Imp (p1.1 7 = 0) (NR p1 gF A) := fun q => NR_K (hNRc (hok1 q).1) (hok1 q).2.1 rfl (fun _ _ => rfl)
  have hNIc : Imp (p1.1 7 = 0) (NI p1 ct) := fun q => NI_K (hNIc (hok1 q).1) (hok1 q).2.1 (Int.le_refl _) (Int.le_refl _)
  obtain ⟨hnm, hOm, hBm⟩ := id hX
  have hOm : M_16 m = jdO 9 (fX9 m _ _ fl (.ref f2)) := hOm
  obtain ⟨hnf, hOf, hAf⟩ := id hMF
  
  have h5r := (TR_5 hTR hPO).2.2
  refine jr_istore_n (pc := 19) h [_, _] dX9_readGap_19 (by decide) rfl ?_
  refine jr_aload_n (pc := 20) h dX9_readGap_20 rfl ?_
  refine gf_X9_80 (pc := 21) h dX9_readGap_21 (by assumption) (by omega) ?_
  refine jr_iconst (pc := 24) h dX9_readGap_24 ?_
  refine jr_icmp_ne (pc := 25) h 29 dX9_readGap_25 (by decide) (by omega) (by omega) (fun c_25 => ?_) (fun c_25 => ?_)
  · first | have d_25 := bz_0.mp c_25 | have d_25 := bz_1.mp c_25 | skip
    have h57 := (TR_5 hTR hPO).1
    have hpe : p1.1 7 = 0 := Classical.byContradiction (fun q => by have := h57.2 q; omega)
    have hk1 := hok1 hpe
    have hk0 := hok0 hk1.1
    have hl0 := hk0.1
    have hr1 := hk1.2.2.2
    have hv1 := hk1.2.2.1
    have hA22 : M_16 (f2 + 22) = jdA 3 (A 22) := hAf 22 (by omega) (by omega)
    refine jr_aload_n (pc := 29) h dX9_readGap_29 rfl ?_
    refine gf_X9_174 (pc := 30) h dX9_readGap_30 (by assumption) (by omega) ?_
    refine gf_X9_395 (pc := 33) h dX9_readGap_33 (by assumption) (by omega) ?_
    refine jr_aload_n (pc := 36) h dX9_readGap_36 rfl ?_
    refine gf_X9_174 (pc := 37) h dX9_readGap_37 (by assumption) (by omega) ?_
    refine gf_X9_392 (pc := 40) h dX9_readGap_40 (by assumption) (by omega) ?_
    refine jr_iload_n (pc := 43) h dX9_readGap_43 rfl ?_
    refine jr_iast (pc := 44) h dX9_readGap_44 hA22 (by omega) (by omega) ?_
    refine jm_gen (fun M2 hM2 => ?_)
    have hMF := MF_A (i := 22) hMF hM2 (by omega)
    have f9 : fr (MFS f2) _ M2 := fr_up (S := MFS f2) hM2 ⟨by omega, by omega⟩
    have hX := MX_fr hX f9 (Nat.le_refl _) (fun k h1 h2 q => by have := q.1; have := q.2; omega)
    have fR := fr_tr fR (fr_mo f9 (fun k q => Or.inr q))
    obtain ⟨hnm, hOm, hBm⟩ := id hX
    have hOm : M2 m = jdO 9 (fX9 m _ _ fl (.ref f2)) := hOm
    obtain ⟨hnf, hOf, hAf⟩ := id hMF
    
    refine jr_aload_n (pc := 45) h dX9_readGap_45 rfl ?_
    refine gf_X9_174 (pc := 46) h dX9_readGap_46 (by assumption) (by omega) ?_
    refine jr_dup (pc := 49) h dX9_readGap_49 rfl ?_
    refine gf_X9_392 (pc := 50) h dX9_readGap_50 (by assumption) (by omega) ?_
    refine jr_iconst (pc := 53) h dX9_readGap_53 ?_
    refine jr_iadd (pc := 54) h dX9_readGap_54 ?_
    refine pf_X9_392 (pc := 55) h dX9_readGap_55 hOf (by omega) ?_
    refine jm_gen (fun M2 hM2 => ?_)
    rw [fX8_13] at hM2
    have hMF := MF_g hMF hM2
    have f9 : fr (MFS f2) _ M2 := fr_up (S := MFS f2) hM2 ⟨by omega, by omega⟩
    have hX := MX_fr hX f9 (Nat.le_refl _) (fun k h1 h2 q => by have := q.1; have := q.2; omega)
    have fR := fr_tr fR (fr_mo f9 (fun k q => Or.inr q))
    obtain ⟨hnm, hOm, hBm⟩ := id hX
    have hOm : M2 m = jdO 9 (fX9 m _ _ fl (.ref f2)) := hOm
    obtain ⟨hnf, hOf, hAf⟩ := id hMF
    refine jr_vret (pc := 58) h hRt dX9_readGap_58 (Nat.le_of_ble_eq_true rfl) (Nat.le_of_ble_eq_true rfl) ?_
    have hcS : 0 ≤ ct (Int.toNat 10) ∧ ct (Int.toNat 10) < 8 := by show 0 ≤ ct 10 ∧ ct 10 < 8; omega
    have hFIr := hFR.2.2.1.2.2.2
    have e_ln : lnP bs ct (nxP bs p) (opT ct td 10) 10 = (p1, (up (opT ct td 10) (c_ix ct 10 0) v1)) := by
      show ln_10 bs ct (nxP bs p) (opT ct td 10) = _
      unfold ln_10
      rw [hk1.2.2.1, ← ep1, hk0.2.1]
    have e_tln : tlnP bs ct td 10 p = (p1, up ct 10 (ct 10 + 1), (up (opT ct td 10) (c_ix ct 10 0) v1)) := by
      rw [tln_1 (by omega) (by show ¬ (3 : Int) ≤ ct 10; omega), e_ln]
      unfold tlnC
      show (p1, (if p1.1 7 = 0 then up ct 10 (ct 10 + 1) else ct), (up (opT ct td 10) (c_ix ct 10 0) v1)) = _
      rw [if_pos hpe]
    have t0 : c_get (up (opT ct td 10) (c_ix ct 10 0) v1) 10 (ct 10) 0 = v1 := gn_eq (by omega) hcS rfl (by omega)
    rw [e_tln]
    refine ⟨⟨rfl, rfl⟩, _, _, _, _, hX, hgk, hTR, hMF, ?_, fun _ => ?_, fR⟩
    · refine RB_up (k := 13) hRB ⟨by omega, by omega⟩ (by show gF 13 < 3; omega) (fun i hi => by rw [up_ne (by omega)]; exact hRB.2.2.2.2 i hi) (fun j hj => by rw [up_ne (by omega)])
    · show FR p1 (up ct 10 (ct 10 + 1)) (up (opT ct td 10) (c_ix ct 10 0) v1) _ _
      refine FR_upd (s := 10) hFR ⟨by omega, by omega⟩ (by show ct 10 < 3; omega) (OUT_up OUT_op (by omega) hcS.1 (by omega)) (rn_up (rn_op hFIr) (by omega)) ?_ (fun q => absurd q (by decide)) (fun j h1 h2 h3 => by
        rw [up_ne (fun e => h3 (by rw [e]; rfl))]) ⟨fun q => absurd q (by decide), fun q => absurd q (by decide), fun q => absurd q (by decide), fun q => absurd q (by decide), fun q => absurd q (by decide), fun q => absurd q (by decide), fun q => absurd q (by decide), fun q => absurd q (by decide), fun _ => by rw [t0]; show up (A 22) (gF 13).toNat v1 = up (A 22) (ct 10).toNat v1; rw [k13], fun q => absurd q (by decide), fun q => absurd q (by decide)⟩ (by show up gF 13 (gF 13 + 1) 13 = gF 13 + 1; rw [up_eq]) (fun j hj hne => by rw [up_ne (by omega)]) (NR_K (hNRc hpe) K12_r (up_ne (by omega)) (fun j hj => by rw [up_ne (by omega)])) (NI_K (hNIc hpe) K12_r (by first | (rw [up_ne (by omega)]; omega) | (rw [up_eq]; omega)) (by first | (rw [up_ne (by omega)]; omega) | (rw [up_eq]; omega))) ?_
      · refine ⟨fun q => ?_, fun q => ?_, fun q => ?_, fun q => ?_, fun q => ?_, fun q => ?_, fun q => ?_, fun q => ?_, fun q => ?_, fun q => ?_, fun q => ?_, fun q => ?_, fun q => ?_⟩ <;> first | (exfalso; omega) | (rw [t0]; omega)
      · rw [if_neg (by omega)]
        have e0 := hk0.2.2.2
        have x1 := hk1.2.1.2
        omega
  · first | have d_25 := bz_0.mp c_25 | have d_25 := bz_1.mp c_25 | skip
    refine jr_vret (pc := 28) h hRt dX9_readGap_28 (Nat.le_of_ble_eq_true rfl) (Nat.le_of_ble_eq_true rfl) ?_
    have h57 := (TR_5 hTR hPO).1
    have hpf : p1.1 7 ≠ 0 := h57.1 (by omega)
    have e_end : (tlnP bs ct td 10 p).1 = p1 := by
      rcases hc0 with ⟨hlm, e0⟩ | ⟨hlm, e0⟩
      · have hb0 : p0.1 7 ≠ 0 := by rw [e0]; exact flP_x (by omega)
        have e1 := hf1 hb0
        have hb1 : p1.1 7 ≠ 0 := by rw [e1]; exact hb0
        rw [tln_0 (by omega) (by show (3 : Int) ≤ ct 10; omega)]
        show flP 5 p = p1
        rw [e1, e0]
      · rw [tln_1 (by omega) (by show ¬ (3 : Int) ≤ ct 10; omega)]
        show (ln_10 bs ct (nxP bs p) (opT ct td 10)).1 = p1
        rw [← ep1, e0]
        unfold ln_10
        rfl
    exact ⟨⟨rfl, rfl⟩, _, _, _, _, hX, hgk, (by rw [e_end]; exact hTR), hMF, hRB, fun q => absurd q (by rw [e_end]; exact hpf), fR⟩
set_option maxHeartbeats 1000000 in
set_option maxRecDepth 20000 in
theorem s_X9_readBelts {l : Launch} {n : Nat} {M : jdM} {m f2 : Nat} {g : Nat → Int} {w : Int} {fl : Value} {B : Nat → Nat → Int} (hX : MX M n m g w fl (.ref f2) B) {bs : Nat → Int} (hbt : ∀ j, j < 900 → B 1 j = bs j) (hbb : ∀ j, -128 ≤ bs j ∧ bs j ≤ 127) {p : TS} (hTR : TR bs p g w) (hPO : PO p) {gF : Nat → Int} {A : Nat → Nat → Int} (hMF : MF M n f2 gF A) (hsep : f2 + 30 < m ∨ m + 12 < f2) (hRB : RB gF A) {ct td : Nat → Int} (hFR : FR p ct td gF A) (q7 : p.1 7 = 0) (q4 : p.1 4 = 1) : Ct l yX9_readBelts cX9_readBelts 3 none rX9_readBelts [.ref m] n M (fun vv n' M' => (vv = none ∧ n = n') ∧ ∃ g' w' gF' A', MX M' n m g' w' fl (.ref f2) B ∧ gkp g g' ∧ TR bs (tlnP bs ct td 9 p).1 g' w' ∧ MF M' n f2 gF' A' ∧ RB gF' A' ∧ ((tlnP bs ct td 9 p).1.1 7 = 0 → FR (tlnP bs ct td 9 p).1 (tlnP bs ct td 9 p).2.1 (tlnP bs ct td 9 p).2.2 gF' A') ∧ fr (RFS m f2) M M') := by
  refine Ct_of [some (.ref m), none, none] (by decide) (Nat.le_of_ble_eq_true rfl) rfl (fun κ hl h hR hRt hmn hn0 => ?_)
  have h : Ok κ RX9 cX9_readBelts 3 none := h
  obtain ⟨hnm, hOm, hBm⟩ := id hX
  have hOm : M m = jdO 9 (fX9 m _ _ fl (.ref f2)) := hOm
  obtain ⟨hnf, hOf, hAf⟩ := id hMF
  have fR : fr (RFS m f2) M M := fr_rf
  have hgk : gkp g g := gkp_r
  have hNB := hRB.1
  obtain ⟨hcb, h0b, h3b, h8b⟩ := hRB.2
  have hNRp := hFR.2.2.2.1
  have hNIp := hFR.2.2.2.2.1
  have hcnt := hFR.2.2.2.2.2.2
  obtain ⟨k5, k6, k7, k8, k9, k10, k11, k12, k13, k14, k15⟩ := hFR.2.1
  have hNBc := hNB.1
  refine jr_aload_n (pc := 0) h dX9_readBelts_0 rfl ?_
  refine jr_aload_n (pc := 1) h dX9_readBelts_1 rfl ?_
  refine gf_X9_174 (pc := 2) h dX9_readBelts_2 (by assumption) (by omega) ?_
  refine gf_X9_384 (pc := 5) h dX9_readBelts_5 (by assumption) (by omega) ?_
  refine jr_iconst (pc := 8) h dX9_readBelts_8 ?_
  refine iv_X9_274 (pc := 9) h hl hR dX9_readBelts_9 ⟨(Nat.le_of_ble_eq_true rfl), (Nat.le_of_ble_eq_true rfl), (Nat.le_of_ble_eq_true rfl), (Nat.le_of_ble_eq_true rfl)⟩ (Nat.le_of_ble_eq_true rfl) (by assumption) (by omega) (s_X9_begins hX hbt hbb hTR hPO q7 q4 (x := gF 12) (y := 3) (by omega) (by omega)) (fun v_9 n_9 M_9 hn_9 hp => ?_)
  obtain ⟨⟨rfl, rfl⟩, g1, w1, hX, hg1, hTR, f9⟩ := hp
  have fR := fr_tr fR (fr_mo f9 (fun k q => Or.inl q))
  have hgk := gkp_t hgk hg1
  have hMF := MF_fr hMF f9 (Nat.le_refl _) (fun k h1 h2 q => by have := q.1; have := q.2; omega)
  obtain ⟨p0, ep0⟩ : ∃ z, (if gF 12 = 3 then flP 5 p else nxP bs p) = z := ⟨_, rfl⟩
  rw [ep0] at hTR
  have hc0 : (ct 9 = 3 ∧ p0 = flP 5 p) ∨ (ct 9 < 3 ∧ p0 = nxP bs p) := by
    rw [← ep0]
    by_cases q : gF 12 = 3
    · rw [if_pos q]; exact Or.inl ⟨by omega, rfl⟩
    · rw [if_neg q]; exact Or.inr ⟨by omega, rfl⟩
  replace hPO : PO p0 := by
    rcases hc0 with ⟨-, e⟩ | ⟨-, e⟩ <;> rw [e]
    · exact flP_O hPO (by omega)
    · exact nxP_O hPO
  have hok0 : Imp (OKp p0) (ct 9 < 3 ∧ p0 = nxP bs p ∧ K12 p p0) := fun q => by
    rcases hc0 with ⟨-, e⟩ | ⟨h9, e⟩
    · rw [e] at q; exact absurd q (flP_x (by omega))
    · exact ⟨h9, e, by rw [e]; exact K12_nx⟩
  have hNRc : Imp (p0.1 7 = 0) (NR p0 gF A) := fun q => NR_K hNRp (hok0 q).2.2 rfl (fun _ _ => rfl)
  have hNIc : Imp (p0.1 7 = 0) (NI p0 ct) := fun q => NI_K hNIp (hok0 q).2.2 (Int.le_refl _) (Int.le_refl _)
  obtain ⟨hnm, hOm, hBm⟩ := id hX
  have hOm : M_9 m = jdO 9 (fX9 m _ _ fl (.ref f2)) := hOm
  obtain ⟨hnf, hOf, hAf⟩ := id hMF
  
  refine jr_aload_n (pc := 12) h dX9_readBelts_12 rfl ?_
  refine jr_iconst (pc := 13) h dX9_readBelts_13 ?_
  refine jr_sipush (pc := 14) h dX9_readBelts_14 sp_300 ?_
  refine iv_X9_138 (pc := 17) h hl hR dX9_readBelts_17 ⟨(Nat.le_of_ble_eq_true rfl), (Nat.le_of_ble_eq_true rfl), (Nat.le_of_ble_eq_true rfl), (Nat.le_of_ble_eq_true rfl)⟩ (Nat.le_of_ble_eq_true rfl) (by assumption) (by omega) (s_X9_readWhole hX hbt hbb (p := p0) (x := 0) (y := 300) hTR hPO (by omega) (by omega)) (fun v_17 n_17 M_17 hn_17 hp => ?_)
  obtain ⟨v1, ⟨rfl, rfl⟩, hvr1, hve1, g1, w1, hX, hg1, hTR, f9⟩ := hp
  have fR := fr_tr fR (fr_mo f9 (fun k q => Or.inl q))
  have hgk := gkp_t hgk hg1
  have hMF := MF_fr hMF f9 (Nat.le_refl _) (fun k h1 h2 q => by have := q.1; have := q.2; omega)
  obtain ⟨p1, ep1⟩ : ∃ z, (ehP bs 0 300 p0).2 = z := ⟨_, rfl⟩
  rw [ep1] at hTR hve1
  replace hPO : PO p1 := by rw [← ep1]; exact ehP_O hPO
  have hok1 : Imp (OKp p1) (OKp p0 ∧ K12 p0 p1 ∧ v1 = (ehP bs 0 300 p0).1 ∧ (0 ≤ v1 ∧ v1 ≤ 300)) := fun q => by
    have e := hve1 q
    rw [← ep1] at q ⊢
    have h9 := ok_eh q
    rw [e]
    exact ⟨h9.1, h9.2.2, rfl, h9.2.1⟩
  clear hve1
  have hf1 : Imp (p0.1 7 ≠ 0) (p1 = p0) := fun q => by rw [← ep1]; exact xP_f_eh q
  have hNRc : Imp (p1.1 7 = 0) (NR p1 gF A) := fun q => NR_K (hNRc (hok1 q).1) (hok1 q).2.1 rfl (fun _ _ => rfl)
  have hNIc : Imp (p1.1 7 = 0) (NI p1 ct) := fun q => NI_K (hNIc (hok1 q).1) (hok1 q).2.1 (Int.le_refl _) (Int.le_refl _)
  obtain ⟨hnm, hOm, hBm⟩ := id hX
  have hOm : M_17 m = jdO 9 (fX9 m _ _ fl (.ref f2)) := hOm
  obtain ⟨hnf, hOf, hAf⟩ := id hMF
  
  have h5r := (TR_5 hTR hPO).2.2
  refine jr_istore_n (pc := 20) h [_, _, _] dX9_readBelts_20 (by decide) rfl ?_
  refine jr_aload_n (pc := 21) h dX9_readBelts_21 rfl ?_
  refine jr_ldcwS (pc := 22) h 51 (by decide) ⟨rfl, rfl⟩ dX9_readBelts_22 ?_
  refine jr_iload_n (pc := 25) h dX9_readBelts_25 rfl ?_
  refine jr_iconst (pc := 26) h dX9_readBelts_26 ?_
  refine jr_iadd (pc := 27) h dX9_readBelts_27 ?_
  refine jr_sipush (pc := 28) h dX9_readBelts_28 sp_400 ?_
  refine iv_X9_257 (pc := 31) h hl hR dX9_readBelts_31 ⟨(Nat.le_of_ble_eq_true rfl), (Nat.le_of_ble_eq_true rfl), (Nat.le_of_ble_eq_true rfl), (Nat.le_of_ble_eq_true rfl)⟩ (Nat.le_of_ble_eq_true rfl) (by assumption) (by omega) (s_X9_readPart hX hbt hbb (p := p1) (k := 51) (x := (v1 + 1)) (y := 400) hTR hPO (by omega) (by omega) (by omega) (by omega)) (fun v_31 n_31 M_31 hn_31 hp => ?_)
  obtain ⟨v2, ⟨rfl, rfl⟩, hvr2, hve2, g1, w1, hX, hg1, hTR, f9⟩ := hp
  have fR := fr_tr fR (fr_mo f9 (fun k q => Or.inl q))
  have hgk := gkp_t hgk hg1
  have hMF := MF_fr hMF f9 (Nat.le_refl _) (fun k h1 h2 q => by have := q.1; have := q.2; omega)
  rw [lb_c (show jtxt 51 = jtxt 14 from rfl)] at hve2 hTR
  have elo := lb_lo (bs := bs) (k := 14) (lo := (v1 + 1)) (lo' := ((ehP bs 0 300 p0).1 + 1)) (hi := 400) (c := p1) (fun q => by have e9 := (hok1 q).2.2.1; omega)
  rw [elo.1] at hTR
  have hve2 : (lbP bs 14 ((ehP bs 0 300 p0).1 + 1) 400 p1).2.1 7 = 0 → v2 = (lbP bs 14 ((ehP bs 0 300 p0).1 + 1) 400 p1).1 := fun q => by rw [← elo.1] at q; rw [hve2 q]; exact elo.2 q
  obtain ⟨p2, ep2⟩ : ∃ z, (lbP bs 14 ((ehP bs 0 300 p0).1 + 1) 400 p1).2 = z := ⟨_, rfl⟩
  rw [ep2] at hTR hve2
  replace hPO : PO p2 := by rw [← ep2]; exact (fun h => ehP_O (ewP_O h)) hPO
  have hok2 : Imp (OKp p2) (OKp p1 ∧ K12 p1 p2 ∧ v2 = (lbP bs 14 ((ehP bs 0 300 p0).1 + 1) 400 p1).1 ∧ (((ehP bs 0 300 p0).1 + 1) ≤ v2 ∧ v2 ≤ 400)) := fun q => by
    have e := hve2 q
    rw [← ep2] at q ⊢
    have h9 := ok_lb q
    rw [e]
    exact ⟨h9.1, h9.2.2, rfl, h9.2.1⟩
  clear hve2
  have hf2 : Imp (p1.1 7 ≠ 0) (p2 = p1) := fun q => by rw [← ep2]; exact xP_f_lb q
  have hNRc : Imp (p2.1 7 = 0) (NR p2 gF A) := fun q => NR_K (hNRc (hok2 q).1) (hok2 q).2.1 rfl (fun _ _ => rfl)
  have hNIc : Imp (p2.1 7 = 0) (NI p2 ct) := fun q => NI_K (hNIc (hok2 q).1) (hok2 q).2.1 (Int.le_refl _) (Int.le_refl _)
  obtain ⟨hnm, hOm, hBm⟩ := id hX
  have hOm : M_31 m = jdO 9 (fX9 m _ _ fl (.ref f2)) := hOm
  obtain ⟨hnf, hOf, hAf⟩ := id hMF
  
  have h5r := (TR_5 hTR hPO).2.2
  refine jr_istore_n (pc := 34) h [_, _, _] dX9_readBelts_34 (by decide) rfl ?_
  refine jr_aload_n (pc := 35) h dX9_readBelts_35 rfl ?_
  refine gf_X9_80 (pc := 36) h dX9_readBelts_36 (by assumption) (by omega) ?_
  refine jr_iconst (pc := 39) h dX9_readBelts_39 ?_
  refine jr_icmp_ne (pc := 40) h 44 dX9_readBelts_40 (by decide) (by omega) (by omega) (fun c_40 => ?_) (fun c_40 => ?_)
  · first | have d_40 := bz_0.mp c_40 | have d_40 := bz_1.mp c_40 | skip
    have h57 := (TR_5 hTR hPO).1
    have hpe : p2.1 7 = 0 := Classical.byContradiction (fun q => by have := h57.2 q; omega)
    have hk2 := hok2 hpe
    have hk1 := hok1 hk2.1
    have hk0 := hok0 hk1.1
    have hl0 := hk0.1
    have hr1 := hk1.2.2.2
    have hv1 := hk1.2.2.1
    have hr2 := hk2.2.2.2
    have hv2 := hk2.2.2.1
    have hA20 : M_31 (f2 + 20) = jdA 3 (A 20) := hAf 20 (by omega) (by omega)
    have hA21 : M_31 (f2 + 21) = jdA 3 (A 21) := hAf 21 (by omega) (by omega)
    refine jr_aload_n (pc := 44) h dX9_readBelts_44 rfl ?_
    refine gf_X9_174 (pc := 45) h dX9_readBelts_45 (by assumption) (by omega) ?_
    refine gf_X9_386 (pc := 48) h dX9_readBelts_48 (by assumption) (by omega) ?_
    refine jr_aload_n (pc := 51) h dX9_readBelts_51 rfl ?_
    refine gf_X9_174 (pc := 52) h dX9_readBelts_52 (by assumption) (by omega) ?_
    refine gf_X9_384 (pc := 55) h dX9_readBelts_55 (by assumption) (by omega) ?_
    refine jr_iload_n (pc := 58) h dX9_readBelts_58 rfl ?_
    refine jr_iast (pc := 59) h dX9_readBelts_59 hA20 (by omega) (by omega) ?_
    refine jm_gen (fun M2 hM2 => ?_)
    have hMF := MF_A (i := 20) hMF hM2 (by omega)
    have f9 : fr (MFS f2) _ M2 := fr_up (S := MFS f2) hM2 ⟨by omega, by omega⟩
    have hX := MX_fr hX f9 (Nat.le_refl _) (fun k h1 h2 q => by have := q.1; have := q.2; omega)
    have fR := fr_tr fR (fr_mo f9 (fun k q => Or.inr q))
    obtain ⟨hnm, hOm, hBm⟩ := id hX
    have hOm : M2 m = jdO 9 (fX9 m _ _ fl (.ref f2)) := hOm
    obtain ⟨hnf, hOf, hAf⟩ := id hMF
    have hA21 : M2 (f2 + 21) = jdA 3 (A 21) := hAf 21 (by omega) (by omega)
    refine jr_aload_n (pc := 60) h dX9_readBelts_60 rfl ?_
    refine gf_X9_174 (pc := 61) h dX9_readBelts_61 (by assumption) (by omega) ?_
    refine gf_X9_389 (pc := 64) h dX9_readBelts_64 (by assumption) (by omega) ?_
    refine jr_aload_n (pc := 67) h dX9_readBelts_67 rfl ?_
    refine gf_X9_174 (pc := 68) h dX9_readBelts_68 (by assumption) (by omega) ?_
    refine gf_X9_384 (pc := 71) h dX9_readBelts_71 (by assumption) (by omega) ?_
    refine jr_iload_n (pc := 74) h dX9_readBelts_74 rfl ?_
    refine jr_iast (pc := 75) h dX9_readBelts_75 hA21 (by omega) (by omega) ?_
    refine jm_gen (fun M2 hM2 => ?_)
    have hMF := MF_A (i := 21) hMF hM2 (by omega)
    have f9 : fr (MFS f2) _ M2 := fr_up (S := MFS f2) hM2 ⟨by omega, by omega⟩
    have hX := MX_fr hX f9 (Nat.le_refl _) (fun k h1 h2 q => by have := q.1; have := q.2; omega)
    have fR := fr_tr fR (fr_mo f9 (fun k q => Or.inr q))
    obtain ⟨hnm, hOm, hBm⟩ := id hX
    have hOm : M2 m = jdO 9 (fX9 m _ _ fl (.ref f2)) := hOm
    obtain ⟨hnf, hOf, hAf⟩ := id hMF
    
    refine jr_aload_n (pc := 76) h dX9_readBelts_76 rfl ?_
    refine gf_X9_174 (pc := 77) h dX9_readBelts_77 (by assumption) (by omega) ?_
    refine jr_dup (pc := 80) h dX9_readBelts_80 rfl ?_
    refine gf_X9_384 (pc := 81) h dX9_readBelts_81 (by assumption) (by omega) ?_
    refine jr_iconst (pc := 84) h dX9_readBelts_84 ?_
    refine jr_iadd (pc := 85) h dX9_readBelts_85 ?_
    refine pf_X9_384 (pc := 86) h dX9_readBelts_86 hOf (by omega) ?_
    refine jm_gen (fun M2 hM2 => ?_)
    rw [fX8_12] at hM2
    have hMF := MF_g hMF hM2
    have f9 : fr (MFS f2) _ M2 := fr_up (S := MFS f2) hM2 ⟨by omega, by omega⟩
    have hX := MX_fr hX f9 (Nat.le_refl _) (fun k h1 h2 q => by have := q.1; have := q.2; omega)
    have fR := fr_tr fR (fr_mo f9 (fun k q => Or.inr q))
    obtain ⟨hnm, hOm, hBm⟩ := id hX
    have hOm : M2 m = jdO 9 (fX9 m _ _ fl (.ref f2)) := hOm
    obtain ⟨hnf, hOf, hAf⟩ := id hMF
    refine jr_vret (pc := 89) h hRt dX9_readBelts_89 (Nat.le_of_ble_eq_true rfl) (Nat.le_of_ble_eq_true rfl) ?_
    have hcS : 0 ≤ ct (Int.toNat 9) ∧ ct (Int.toNat 9) < 8 := by show 0 ≤ ct 9 ∧ ct 9 < 8; omega
    have hFIr := hFR.2.2.1.2.2.2
    have e_ln : lnP bs ct (nxP bs p) (opT ct td 9) 9 = (p2, (up (up (opT ct td 9) (c_ix ct 9 0) v1) (c_ix ct 9 1) v2)) := by
      show ln_9 bs ct (nxP bs p) (opT ct td 9) = _
      unfold ln_9
      rw [hk1.2.2.1, hk2.2.2.1, ← ep2, ← ep1, hk0.2.1]
    have e_tln : tlnP bs ct td 9 p = (p2, up ct 9 (ct 9 + 1), (up (up (opT ct td 9) (c_ix ct 9 0) v1) (c_ix ct 9 1) v2)) := by
      rw [tln_1 (by omega) (by show ¬ (3 : Int) ≤ ct 9; omega), e_ln]
      unfold tlnC
      show (p2, (if p2.1 7 = 0 then up ct 9 (ct 9 + 1) else ct), (up (up (opT ct td 9) (c_ix ct 9 0) v1) (c_ix ct 9 1) v2)) = _
      rw [if_pos hpe]
    have t0 : c_get (up (up (opT ct td 9) (c_ix ct 9 0) v1) (c_ix ct 9 1) v2) 9 (ct 9) 0 = v1 := (gn_ne (by omega) hcS rfl (by omega) (by omega) (by omega)).trans (gn_eq (by omega) hcS rfl (by omega))
    have t1 : c_get (up (up (opT ct td 9) (c_ix ct 9 0) v1) (c_ix ct 9 1) v2) 9 (ct 9) 1 = v2 := gn_eq (by omega) hcS rfl (by omega)
    rw [e_tln]
    refine ⟨⟨rfl, rfl⟩, _, _, _, _, hX, hgk, hTR, hMF, ?_, fun _ => ?_, fR⟩
    · refine RB_up (k := 12) hRB ⟨by omega, by omega⟩ (by show gF 12 < 3; omega) (fun i hi => by rw [up_ne (by omega), up_ne (by omega)]; exact hRB.2.2.2.2 i hi) (fun j hj => by rw [up_ne (by omega), up_ne (by omega)])
    · show FR p2 (up ct 9 (ct 9 + 1)) (up (up (opT ct td 9) (c_ix ct 9 0) v1) (c_ix ct 9 1) v2) _ _
      refine FR_upd (s := 9) hFR ⟨by omega, by omega⟩ (by show ct 9 < 3; omega) (OUT_up (OUT_up OUT_op (by omega) hcS.1 (by omega)) (by omega) hcS.1 (by omega)) (rn_up (rn_up (rn_op hFIr) (by omega)) (by omega)) ?_ (fun q => absurd q (by decide)) (fun j h1 h2 h3 => by
        rw [up_ne (fun e => h3 (by rw [e]; rfl)), up_ne (fun e => h3 (by rw [e]; rfl))]) ⟨fun q => absurd q (by decide), fun q => absurd q (by decide), fun q => absurd q (by decide), fun q => absurd q (by decide), fun q => absurd q (by decide), fun q => absurd q (by decide), fun q => absurd q (by decide), fun _ => ⟨by rw [t0]; show up (A 20) (gF 12).toNat v1 = up (A 20) (ct 9).toNat v1; rw [k12], by rw [t1]; show up (A 21) (gF 12).toNat v2 = up (A 21) (ct 9).toNat v2; rw [k12]⟩, fun q => absurd q (by decide), fun q => absurd q (by decide), fun q => absurd q (by decide)⟩ (by show up gF 12 (gF 12 + 1) 12 = gF 12 + 1; rw [up_eq]) (fun j hj hne => by rw [up_ne (by omega)]) (NR_K (hNRc hpe) K12_r (up_ne (by omega)) (fun j hj => by rw [up_ne (by omega), up_ne (by omega)])) (NI_K (hNIc hpe) K12_r (by first | (rw [up_ne (by omega)]; omega) | (rw [up_eq]; omega)) (by first | (rw [up_ne (by omega)]; omega) | (rw [up_eq]; omega))) ?_
      · refine ⟨fun q => ?_, fun q => ?_, fun q => ?_, fun q => ?_, fun q => ?_, fun q => ?_, fun q => ?_, fun q => ?_, fun q => ?_, fun q => ?_, fun q => ?_, fun q => ?_, fun q => ?_⟩ <;> first | (exfalso; omega) | (rw [t0, t1]; omega)
      · rw [if_neg (by omega)]
        have e0 := hk0.2.2.2
        have x1 := hk1.2.1.2
        have x2 := hk2.2.1.2
        omega
  · first | have d_40 := bz_0.mp c_40 | have d_40 := bz_1.mp c_40 | skip
    refine jr_vret (pc := 43) h hRt dX9_readBelts_43 (Nat.le_of_ble_eq_true rfl) (Nat.le_of_ble_eq_true rfl) ?_
    have h57 := (TR_5 hTR hPO).1
    have hpf : p2.1 7 ≠ 0 := h57.1 (by omega)
    have e_end : (tlnP bs ct td 9 p).1 = p2 := by
      rcases hc0 with ⟨hlm, e0⟩ | ⟨hlm, e0⟩
      · have hb0 : p0.1 7 ≠ 0 := by rw [e0]; exact flP_x (by omega)
        have e1 := hf1 hb0
        have hb1 : p1.1 7 ≠ 0 := by rw [e1]; exact hb0
        have e2 := hf2 hb1
        have hb2 : p2.1 7 ≠ 0 := by rw [e2]; exact hb1
        rw [tln_0 (by omega) (by show (3 : Int) ≤ ct 9; omega)]
        show flP 5 p = p2
        rw [e2, e1, e0]
      · rw [tln_1 (by omega) (by show ¬ (3 : Int) ≤ ct 9; omega)]
        show (ln_9 bs ct (nxP bs p) (opT ct td 9)).1 = p2
        rw [← ep2, ← ep1, e0]
        unfold ln_9
        rfl
    exact ⟨⟨rfl, rfl⟩, _, _, _, _, hX, hgk, (by rw [e_end]; exact hTR), hMF, hRB, fun q => absurd q (by rw [e_end]; exact hpf), fR⟩
set_option maxHeartbeats 1000000 in
set_option maxRecDepth 20000 in
theorem s_X9_readPast {l : Launch} {n : Nat} {M : jdM} {m f2 : Nat} {g : Nat → Int} {w : Int} {fl : Value} {B : Nat → Nat → Int} (hX : MX M n m g w fl (.ref f2) B) {bs : Nat → Int} (hbt : ∀ j, j < 900 → B 1 j = bs j) (hbb : ∀ j, -128 ≤ bs j ∧ bs j ≤ 127) {p : TS} (hTR : TR bs p g w) (hPO : PO p) {gF : Nat → Int} {A : Nat → Nat → Int} (hMF : MF M n f2 gF A) (hsep : f2 + 30 < m ∨ m + 12 < f2) (hRB : RB gF A) {ct td : Nat → Int} (hFR : FR p ct td gF A) (q7 : p.1 7 = 0) (q4 : p.1 4 = 1) : Ct l yX9_readPast cX9_readPast 4 none rX9_readPast [.ref m] n M (fun vv n' M' => (vv = none ∧ n = n') ∧ ∃ g' w' gF' A', MX M' n m g' w' fl (.ref f2) B ∧ gkp g g' ∧ TR bs (tlnP bs ct td 11 p).1 g' w' ∧ MF M' n f2 gF' A' ∧ RB gF' A' ∧ ((tlnP bs ct td 11 p).1.1 7 = 0 → FR (tlnP bs ct td 11 p).1 (tlnP bs ct td 11 p).2.1 (tlnP bs ct td 11 p).2.2 gF' A') ∧ fr (RFS m f2) M M') := by
  refine Ct_of [some (.ref m), none, none, none] (by decide) (Nat.le_of_ble_eq_true rfl) rfl (fun κ hl h hR hRt hmn hn0 => ?_)
  have h : Ok κ RX9 cX9_readPast 4 none := h
  obtain ⟨hnm, hOm, hBm⟩ := id hX
  have hOm : M m = jdO 9 (fX9 m _ _ fl (.ref f2)) := hOm
  obtain ⟨hnf, hOf, hAf⟩ := id hMF
  have fR : fr (RFS m f2) M M := fr_rf
  have hgk : gkp g g := gkp_r
  have hNB := hRB.1
  obtain ⟨hcb, h0b, h3b, h8b⟩ := hRB.2
  have hNRp := hFR.2.2.2.1
  have hNIp := hFR.2.2.2.2.1
  have hcnt := hFR.2.2.2.2.2.2
  obtain ⟨k5, k6, k7, k8, k9, k10, k11, k12, k13, k14, k15⟩ := hFR.2.1
  have hNBc := hNB.1
  refine jr_aload_n (pc := 0) h dX9_readPast_0 rfl ?_
  refine jr_aload_n (pc := 1) h dX9_readPast_1 rfl ?_
  refine gf_X9_174 (pc := 2) h dX9_readPast_2 (by assumption) (by omega) ?_
  refine gf_X9_397 (pc := 5) h dX9_readPast_5 (by assumption) (by omega) ?_
  refine jr_iconst (pc := 8) h dX9_readPast_8 ?_
  refine iv_X9_274 (pc := 9) h hl hR dX9_readPast_9 ⟨(Nat.le_of_ble_eq_true rfl), (Nat.le_of_ble_eq_true rfl), (Nat.le_of_ble_eq_true rfl), (Nat.le_of_ble_eq_true rfl)⟩ (Nat.le_of_ble_eq_true rfl) (by assumption) (by omega) (s_X9_begins hX hbt hbb hTR hPO q7 q4 (x := gF 14) (y := 4) (by omega) (by omega)) (fun v_9 n_9 M_9 hn_9 hp => ?_)
  obtain ⟨⟨rfl, rfl⟩, g1, w1, hX, hg1, hTR, f9⟩ := hp
  have fR := fr_tr fR (fr_mo f9 (fun k q => Or.inl q))
  have hgk := gkp_t hgk hg1
  have hMF := MF_fr hMF f9 (Nat.le_refl _) (fun k h1 h2 q => by have := q.1; have := q.2; omega)
  obtain ⟨p0, ep0⟩ : ∃ z, (if gF 14 = 4 then flP 5 p else nxP bs p) = z := ⟨_, rfl⟩
  rw [ep0] at hTR
  have hc0 : (ct 11 = 4 ∧ p0 = flP 5 p) ∨ (ct 11 < 4 ∧ p0 = nxP bs p) := by
    rw [← ep0]
    by_cases q : gF 14 = 4
    · rw [if_pos q]; exact Or.inl ⟨by omega, rfl⟩
    · rw [if_neg q]; exact Or.inr ⟨by omega, rfl⟩
  replace hPO : PO p0 := by
    rcases hc0 with ⟨-, e⟩ | ⟨-, e⟩ <;> rw [e]
    · exact flP_O hPO (by omega)
    · exact nxP_O hPO
  have hok0 : Imp (OKp p0) (ct 11 < 4 ∧ p0 = nxP bs p ∧ K12 p p0) := fun q => by
    rcases hc0 with ⟨-, e⟩ | ⟨h9, e⟩
    · rw [e] at q; exact absurd q (flP_x (by omega))
    · exact ⟨h9, e, by rw [e]; exact K12_nx⟩
  have hNRc : Imp (p0.1 7 = 0) (NR p0 gF A) := fun q => NR_K hNRp (hok0 q).2.2 rfl (fun _ _ => rfl)
  have hNIc : Imp (p0.1 7 = 0) (NI p0 ct) := fun q => NI_K hNIp (hok0 q).2.2 (Int.le_refl _) (Int.le_refl _)
  obtain ⟨hnm, hOm, hBm⟩ := id hX
  have hOm : M_9 m = jdO 9 (fX9 m _ _ fl (.ref f2)) := hOm
  obtain ⟨hnf, hOf, hAf⟩ := id hMF
  
  refine jr_aload_n (pc := 12) h dX9_readPast_12 rfl ?_
  refine jr_ldcwS (pc := 13) h 44 (by decide) ⟨rfl, rfl⟩ dX9_readPast_13 ?_
  refine jr_iconst (pc := 16) h dX9_readPast_16 ?_
  refine jr_sipush (pc := 17) h dX9_readPast_17 sp_300 ?_
  refine iv_X9_257 (pc := 20) h hl hR dX9_readPast_20 ⟨(Nat.le_of_ble_eq_true rfl), (Nat.le_of_ble_eq_true rfl), (Nat.le_of_ble_eq_true rfl), (Nat.le_of_ble_eq_true rfl)⟩ (Nat.le_of_ble_eq_true rfl) (by assumption) (by omega) (s_X9_readPart hX hbt hbb (p := p0) (k := 44) (x := 0) (y := 300) hTR hPO (by omega) (by omega) (by omega) (by omega)) (fun v_20 n_20 M_20 hn_20 hp => ?_)
  obtain ⟨v1, ⟨rfl, rfl⟩, hvr1, hve1, g1, w1, hX, hg1, hTR, f9⟩ := hp
  have fR := fr_tr fR (fr_mo f9 (fun k q => Or.inl q))
  have hgk := gkp_t hgk hg1
  have hMF := MF_fr hMF f9 (Nat.le_refl _) (fun k h1 h2 q => by have := q.1; have := q.2; omega)
  rw [lb_c (show jtxt 44 = jtxt 11 from rfl)] at hve1 hTR
  obtain ⟨p1, ep1⟩ : ∃ z, (lbP bs 11 0 300 p0).2 = z := ⟨_, rfl⟩
  rw [ep1] at hTR hve1
  replace hPO : PO p1 := by rw [← ep1]; exact (fun h => ehP_O (ewP_O h)) hPO
  have hok1 : Imp (OKp p1) (OKp p0 ∧ K12 p0 p1 ∧ v1 = (lbP bs 11 0 300 p0).1 ∧ (0 ≤ v1 ∧ v1 ≤ 300)) := fun q => by
    have e := hve1 q
    rw [← ep1] at q ⊢
    have h9 := ok_lb q
    rw [e]
    exact ⟨h9.1, h9.2.2, rfl, h9.2.1⟩
  clear hve1
  have hf1 : Imp (p0.1 7 ≠ 0) (p1 = p0) := fun q => by rw [← ep1]; exact xP_f_lb q
  have hNRc : Imp (p1.1 7 = 0) (NR p1 gF A) := fun q => NR_K (hNRc (hok1 q).1) (hok1 q).2.1 rfl (fun _ _ => rfl)
  have hNIc : Imp (p1.1 7 = 0) (NI p1 ct) := fun q => NI_K (hNIc (hok1 q).1) (hok1 q).2.1 (Int.le_refl _) (Int.le_refl _)
  obtain ⟨hnm, hOm, hBm⟩ := id hX
  have hOm : M_20 m = jdO 9 (fX9 m _ _ fl (.ref f2)) := hOm
  obtain ⟨hnf, hOf, hAf⟩ := id hMF
  
  have h5r := (TR_5 hTR hPO).2.2
  refine jr_istore_n (pc := 23) h [_, _, _, _] dX9_readPast_23 (by decide) rfl ?_
  refine jr_aload_n (pc := 24) h dX9_readPast_24 rfl ?_
  refine jr_ldcwS (pc := 25) h 56 (by decide) ⟨rfl, rfl⟩ dX9_readPast_25 ?_
  refine jr_iconst (pc := 28) h dX9_readPast_28 ?_
  refine jr_bipush (pc := 29) h dX9_readPast_29 bp_40 ?_
  refine iv_X9_257 (pc := 31) h hl hR dX9_readPast_31 ⟨(Nat.le_of_ble_eq_true rfl), (Nat.le_of_ble_eq_true rfl), (Nat.le_of_ble_eq_true rfl), (Nat.le_of_ble_eq_true rfl)⟩ (Nat.le_of_ble_eq_true rfl) (by assumption) (by omega) (s_X9_readPart hX hbt hbb (p := p1) (k := 56) (x := 1) (y := 40) hTR hPO (by omega) (by omega) (by omega) (by omega)) (fun v_31 n_31 M_31 hn_31 hp => ?_)
  obtain ⟨v2, ⟨rfl, rfl⟩, hvr2, hve2, g1, w1, hX, hg1, hTR, f9⟩ := hp
  have fR := fr_tr fR (fr_mo f9 (fun k q => Or.inl q))
  have hgk := gkp_t hgk hg1
  have hMF := MF_fr hMF f9 (Nat.le_refl _) (fun k h1 h2 q => by have := q.1; have := q.2; omega)
  rw [lb_c (show jtxt 56 = jtxt 22 from rfl)] at hve2 hTR
  obtain ⟨p2, ep2⟩ : ∃ z, (lbP bs 22 1 40 p1).2 = z := ⟨_, rfl⟩
  rw [ep2] at hTR hve2
  replace hPO : PO p2 := by rw [← ep2]; exact (fun h => ehP_O (ewP_O h)) hPO
  have hok2 : Imp (OKp p2) (OKp p1 ∧ K12 p1 p2 ∧ v2 = (lbP bs 22 1 40 p1).1 ∧ (1 ≤ v2 ∧ v2 ≤ 40)) := fun q => by
    have e := hve2 q
    rw [← ep2] at q ⊢
    have h9 := ok_lb q
    rw [e]
    exact ⟨h9.1, h9.2.2, rfl, h9.2.1⟩
  clear hve2
  have hf2 : Imp (p1.1 7 ≠ 0) (p2 = p1) := fun q => by rw [← ep2]; exact xP_f_lb q
  have hNRc : Imp (p2.1 7 = 0) (NR p2 gF A) := fun q => NR_K (hNRc (hok2 q).1) (hok2 q).2.1 rfl (fun _ _ => rfl)
  have hNIc : Imp (p2.1 7 = 0) (NI p2 ct) := fun q => NI_K (hNIc (hok2 q).1) (hok2 q).2.1 (Int.le_refl _) (Int.le_refl _)
  obtain ⟨hnm, hOm, hBm⟩ := id hX
  have hOm : M_31 m = jdO 9 (fX9 m _ _ fl (.ref f2)) := hOm
  obtain ⟨hnf, hOf, hAf⟩ := id hMF
  
  have h5r := (TR_5 hTR hPO).2.2
  refine jr_istore_n (pc := 34) h [_, _, _, _] dX9_readPast_34 (by decide) rfl ?_
  refine jr_aload_n (pc := 35) h dX9_readPast_35 rfl ?_
  refine jr_ldcwS (pc := 36) h 51 (by decide) ⟨rfl, rfl⟩ dX9_readPast_36 ?_
  refine jr_iconst (pc := 39) h dX9_readPast_39 ?_
  refine jr_bipush (pc := 40) h dX9_readPast_40 bp_40 ?_
  refine iv_X9_257 (pc := 42) h hl hR dX9_readPast_42 ⟨(Nat.le_of_ble_eq_true rfl), (Nat.le_of_ble_eq_true rfl), (Nat.le_of_ble_eq_true rfl), (Nat.le_of_ble_eq_true rfl)⟩ (Nat.le_of_ble_eq_true rfl) (by assumption) (by omega) (s_X9_readPart hX hbt hbb (p := p2) (k := 51) (x := 1) (y := 40) hTR hPO (by omega) (by omega) (by omega) (by omega)) (fun v_42 n_42 M_42 hn_42 hp => ?_)
  obtain ⟨v3, ⟨rfl, rfl⟩, hvr3, hve3, g1, w1, hX, hg1, hTR, f9⟩ := hp
  have fR := fr_tr fR (fr_mo f9 (fun k q => Or.inl q))
  have hgk := gkp_t hgk hg1
  have hMF := MF_fr hMF f9 (Nat.le_refl _) (fun k h1 h2 q => by have := q.1; have := q.2; omega)
  rw [lb_c (show jtxt 51 = jtxt 14 from rfl)] at hve3 hTR
  obtain ⟨p3, ep3⟩ : ∃ z, (lbP bs 14 1 40 p2).2 = z := ⟨_, rfl⟩
  rw [ep3] at hTR hve3
  replace hPO : PO p3 := by rw [← ep3]; exact (fun h => ehP_O (ewP_O h)) hPO
  have hok3 : Imp (OKp p3) (OKp p2 ∧ K12 p2 p3 ∧ v3 = (lbP bs 14 1 40 p2).1 ∧ (1 ≤ v3 ∧ v3 ≤ 40)) := fun q => by
    have e := hve3 q
    rw [← ep3] at q ⊢
    have h9 := ok_lb q
    rw [e]
    exact ⟨h9.1, h9.2.2, rfl, h9.2.1⟩
  clear hve3
  have hf3 : Imp (p2.1 7 ≠ 0) (p3 = p2) := fun q => by rw [← ep3]; exact xP_f_lb q
  have hNRc : Imp (p3.1 7 = 0) (NR p3 gF A) := fun q => NR_K (hNRc (hok3 q).1) (hok3 q).2.1 rfl (fun _ _ => rfl)
  have hNIc : Imp (p3.1 7 = 0) (NI p3 ct) := fun q => NI_K (hNIc (hok3 q).1) (hok3 q).2.1 (Int.le_refl _) (Int.le_refl _)
  obtain ⟨hnm, hOm, hBm⟩ := id hX
  have hOm : M_42 m = jdO 9 (fX9 m _ _ fl (.ref f2)) := hOm
  obtain ⟨hnf, hOf, hAf⟩ := id hMF
  
  have h5r := (TR_5 hTR hPO).2.2
  refine jr_istore_n (pc := 45) h [_, _, _, _] dX9_readPast_45 (by decide) rfl ?_
  refine jr_aload_n (pc := 46) h dX9_readPast_46 rfl ?_
  refine gf_X9_80 (pc := 47) h dX9_readPast_47 (by assumption) (by omega) ?_
  refine jr_iconst (pc := 50) h dX9_readPast_50 ?_
  refine jr_icmp_ne (pc := 51) h 55 dX9_readPast_51 (by decide) (by omega) (by omega) (fun c_51 => ?_) (fun c_51 => ?_)
  · first | have d_51 := bz_0.mp c_51 | have d_51 := bz_1.mp c_51 | skip
    have h57 := (TR_5 hTR hPO).1
    have hpe : p3.1 7 = 0 := Classical.byContradiction (fun q => by have := h57.2 q; omega)
    have hk3 := hok3 hpe
    have hk2 := hok2 hk3.1
    have hk1 := hok1 hk2.1
    have hk0 := hok0 hk1.1
    have hl0 := hk0.1
    have hr1 := hk1.2.2.2
    have hv1 := hk1.2.2.1
    have hr2 := hk2.2.2.2
    have hv2 := hk2.2.2.1
    have hr3 := hk3.2.2.2
    have hv3 := hk3.2.2.1
    have hA23 : M_42 (f2 + 23) = jdA 4 (A 23) := hAf 23 (by omega) (by omega)
    have hA24 : M_42 (f2 + 24) = jdA 4 (A 24) := hAf 24 (by omega) (by omega)
    have hA25 : M_42 (f2 + 25) = jdA 4 (A 25) := hAf 25 (by omega) (by omega)
    refine jr_aload_n (pc := 55) h dX9_readPast_55 rfl ?_
    refine gf_X9_174 (pc := 56) h dX9_readPast_56 (by assumption) (by omega) ?_
    refine gf_X9_402 (pc := 59) h dX9_readPast_59 (by assumption) (by omega) ?_
    refine jr_aload_n (pc := 62) h dX9_readPast_62 rfl ?_
    refine gf_X9_174 (pc := 63) h dX9_readPast_63 (by assumption) (by omega) ?_
    refine gf_X9_397 (pc := 66) h dX9_readPast_66 (by assumption) (by omega) ?_
    refine jr_iload_n (pc := 69) h dX9_readPast_69 rfl ?_
    refine jr_iast (pc := 70) h dX9_readPast_70 hA23 (by omega) (by omega) ?_
    refine jm_gen (fun M2 hM2 => ?_)
    have hMF := MF_A (i := 23) hMF hM2 (by omega)
    have f9 : fr (MFS f2) _ M2 := fr_up (S := MFS f2) hM2 ⟨by omega, by omega⟩
    have hX := MX_fr hX f9 (Nat.le_refl _) (fun k h1 h2 q => by have := q.1; have := q.2; omega)
    have fR := fr_tr fR (fr_mo f9 (fun k q => Or.inr q))
    obtain ⟨hnm, hOm, hBm⟩ := id hX
    have hOm : M2 m = jdO 9 (fX9 m _ _ fl (.ref f2)) := hOm
    obtain ⟨hnf, hOf, hAf⟩ := id hMF
    have hA24 : M2 (f2 + 24) = jdA 4 (A 24) := hAf 24 (by omega) (by omega)
    have hA25 : M2 (f2 + 25) = jdA 4 (A 25) := hAf 25 (by omega) (by omega)
    refine jr_aload_n (pc := 71) h dX9_readPast_71 rfl ?_
    refine gf_X9_174 (pc := 72) h dX9_readPast_72 (by assumption) (by omega) ?_
    refine gf_X9_405 (pc := 75) h dX9_readPast_75 (by assumption) (by omega) ?_
    refine jr_aload_n (pc := 78) h dX9_readPast_78 rfl ?_
    refine gf_X9_174 (pc := 79) h dX9_readPast_79 (by assumption) (by omega) ?_
    refine gf_X9_397 (pc := 82) h dX9_readPast_82 (by assumption) (by omega) ?_
    refine jr_iload_n (pc := 85) h dX9_readPast_85 rfl ?_
    refine jr_iload_n (pc := 86) h dX9_readPast_86 rfl ?_
    refine jr_icmp_ge (pc := 87) h 94 dX9_readPast_87 (by decide) (by omega) (by omega) (fun c_87 => ?_) (fun c_87 => ?_)
    · first | have d_87 := bz_0.mp c_87 | have d_87 := bz_1.mp c_87 | skip
      refine jr_iload_n (pc := 94) h dX9_readPast_94 rfl ?_
      refine jr_iast (pc := 95) h dX9_readPast_95 hA24 (by omega) (by omega) ?_
      refine jm_gen (fun M2 hM2 => ?_)
      have hMF := MF_A (i := 24) hMF hM2 (by omega)
      have f9 : fr (MFS f2) _ M2 := fr_up (S := MFS f2) hM2 ⟨by omega, by omega⟩
      have hX := MX_fr hX f9 (Nat.le_refl _) (fun k h1 h2 q => by have := q.1; have := q.2; omega)
      have fR := fr_tr fR (fr_mo f9 (fun k q => Or.inr q))
      obtain ⟨hnm, hOm, hBm⟩ := id hX
      have hOm : M2 m = jdO 9 (fX9 m _ _ fl (.ref f2)) := hOm
      obtain ⟨hnf, hOf, hAf⟩ := id hMF
      have hA25 : M2 (f2 + 25) = jdA 4 (A 25) := hAf 25 (by omega) (by omega)
      refine jr_aload_n (pc := 96) h dX9_readPast_96 rfl ?_
      refine gf_X9_174 (pc := 97) h dX9_readPast_97 (by assumption) (by omega) ?_
      refine gf_X9_408 (pc := 100) h dX9_readPast_100 (by assumption) (by omega) ?_
      refine jr_aload_n (pc := 103) h dX9_readPast_103 rfl ?_
      refine gf_X9_174 (pc := 104) h dX9_readPast_104 (by assumption) (by omega) ?_
      refine gf_X9_397 (pc := 107) h dX9_readPast_107 (by assumption) (by omega) ?_
      refine jr_iload_n (pc := 110) h dX9_readPast_110 rfl ?_
      refine jr_iload_n (pc := 111) h dX9_readPast_111 rfl ?_
      refine jr_icmp_ge (pc := 112) h 119 dX9_readPast_112 (by decide) (by omega) (by omega) (fun c_112 => ?_) (fun c_112 => ?_)
      · first | have d_112 := bz_0.mp c_112 | have d_112 := bz_1.mp c_112 | skip
        refine jr_iload_n (pc := 119) h dX9_readPast_119 rfl ?_
        refine jr_iast (pc := 120) h dX9_readPast_120 hA25 (by omega) (by omega) ?_
        refine jm_gen (fun M2 hM2 => ?_)
        have hMF := MF_A (i := 25) hMF hM2 (by omega)
        have f9 : fr (MFS f2) _ M2 := fr_up (S := MFS f2) hM2 ⟨by omega, by omega⟩
        have hX := MX_fr hX f9 (Nat.le_refl _) (fun k h1 h2 q => by have := q.1; have := q.2; omega)
        have fR := fr_tr fR (fr_mo f9 (fun k q => Or.inr q))
        obtain ⟨hnm, hOm, hBm⟩ := id hX
        have hOm : M2 m = jdO 9 (fX9 m _ _ fl (.ref f2)) := hOm
        obtain ⟨hnf, hOf, hAf⟩ := id hMF
        
        refine jr_aload_n (pc := 121) h dX9_readPast_121 rfl ?_
        refine gf_X9_174 (pc := 122) h dX9_readPast_122 (by assumption) (by omega) ?_
        refine jr_dup (pc := 125) h dX9_readPast_125 rfl ?_
        refine gf_X9_397 (pc := 126) h dX9_readPast_126 (by assumption) (by omega) ?_
        refine jr_iconst (pc := 129) h dX9_readPast_129 ?_
        refine jr_iadd (pc := 130) h dX9_readPast_130 ?_
        refine pf_X9_397 (pc := 131) h dX9_readPast_131 hOf (by omega) ?_
        refine jm_gen (fun M2 hM2 => ?_)
        rw [fX8_14] at hM2
        have hMF := MF_g hMF hM2
        have f9 : fr (MFS f2) _ M2 := fr_up (S := MFS f2) hM2 ⟨by omega, by omega⟩
        have hX := MX_fr hX f9 (Nat.le_refl _) (fun k h1 h2 q => by have := q.1; have := q.2; omega)
        have fR := fr_tr fR (fr_mo f9 (fun k q => Or.inr q))
        obtain ⟨hnm, hOm, hBm⟩ := id hX
        have hOm : M2 m = jdO 9 (fX9 m _ _ fl (.ref f2)) := hOm
        obtain ⟨hnf, hOf, hAf⟩ := id hMF
        refine jr_vret (pc := 134) h hRt dX9_readPast_134 (Nat.le_of_ble_eq_true rfl) (Nat.le_of_ble_eq_true rfl) ?_
        have hcS : 0 ≤ ct (Int.toNat 11) ∧ ct (Int.toNat 11) < 8 := by show 0 ≤ ct 11 ∧ ct 11 < 8; omega
        have hFIr := hFR.2.2.1.2.2.2
        have e_ln : lnP bs ct (nxP bs p) (opT ct td 11) 11 = (p3, (up (up (up (opT ct td 11) (c_ix ct 11 0) v1) (c_ix ct 11 1) v2) (c_ix ct 11 2) v3)) := by
          show ln_11 bs ct (nxP bs p) (opT ct td 11) = _
          unfold ln_11
          rw [hk1.2.2.1, hk2.2.2.1, hk3.2.2.1, ← ep3, ← ep2, ← ep1, hk0.2.1]
        have e_tln : tlnP bs ct td 11 p = (p3, up ct 11 (ct 11 + 1), (up (up (up (opT ct td 11) (c_ix ct 11 0) v1) (c_ix ct 11 1) v2) (c_ix ct 11 2) v3)) := by
          rw [tln_1 (by omega) (by show ¬ (4 : Int) ≤ ct 11; omega), e_ln]
          unfold tlnC
          show (p3, (if p3.1 7 = 0 then up ct 11 (ct 11 + 1) else ct), (up (up (up (opT ct td 11) (c_ix ct 11 0) v1) (c_ix ct 11 1) v2) (c_ix ct 11 2) v3)) = _
          rw [if_pos hpe]
        have t0 : c_get (up (up (up (opT ct td 11) (c_ix ct 11 0) v1) (c_ix ct 11 1) v2) (c_ix ct 11 2) v3) 11 (ct 11) 0 = v1 := (gn_ne (by omega) hcS rfl (by omega) (by omega) (by omega)).trans ((gn_ne (by omega) hcS rfl (by omega) (by omega) (by omega)).trans (gn_eq (by omega) hcS rfl (by omega)))
        have t1 : c_get (up (up (up (opT ct td 11) (c_ix ct 11 0) v1) (c_ix ct 11 1) v2) (c_ix ct 11 2) v3) 11 (ct 11) 1 = v2 := (gn_ne (by omega) hcS rfl (by omega) (by omega) (by omega)).trans (gn_eq (by omega) hcS rfl (by omega))
        have t2 : c_get (up (up (up (opT ct td 11) (c_ix ct 11 0) v1) (c_ix ct 11 1) v2) (c_ix ct 11 2) v3) 11 (ct 11) 2 = v3 := gn_eq (by omega) hcS rfl (by omega)
        rw [e_tln]
        refine ⟨⟨rfl, rfl⟩, _, _, _, _, hX, hgk, hTR, hMF, ?_, fun _ => ?_, fR⟩
        · refine RB_up (k := 14) hRB ⟨by omega, by omega⟩ (by show gF 14 < 4; omega) (fun i hi => by rw [up_ne (by omega), up_ne (by omega), up_ne (by omega)]; exact hRB.2.2.2.2 i hi) (fun j hj => by rw [up_ne (by omega), up_ne (by omega), up_ne (by omega)])
        · show FR p3 (up ct 11 (ct 11 + 1)) (up (up (up (opT ct td 11) (c_ix ct 11 0) v1) (c_ix ct 11 1) v2) (c_ix ct 11 2) v3) _ _
          refine FR_upd (s := 11) hFR ⟨by omega, by omega⟩ (by show ct 11 < 4; omega) (OUT_up (OUT_up (OUT_up OUT_op (by omega) hcS.1 (by omega)) (by omega) hcS.1 (by omega)) (by omega) hcS.1 (by omega)) (rn_up (rn_up (rn_up (rn_op hFIr) (by omega)) (by omega)) (by omega)) ?_ (fun q => absurd q (by decide)) (fun j h1 h2 h3 => by
            rw [up_ne (fun e => h3 (by rw [e]; rfl)), up_ne (fun e => h3 (by rw [e]; rfl)), up_ne (fun e => h3 (by rw [e]; rfl))]) ⟨fun q => absurd q (by decide), fun q => absurd q (by decide), fun q => absurd q (by decide), fun q => absurd q (by decide), fun q => absurd q (by decide), fun q => absurd q (by decide), fun q => absurd q (by decide), fun q => absurd q (by decide), fun q => absurd q (by decide), fun _ => ⟨by rw [t0]; show up (A 23) (gF 14).toNat v1 = up (A 23) (ct 11).toNat v1; rw [k14], by rw [t1, t2]; show up (A 24) (gF 14).toNat _ = up (A 24) (ct 11).toNat (min v2 v3); rw [k14]; congr 1; omega, by rw [t1, t2]; show up (A 25) (gF 14).toNat _ = up (A 25) (ct 11).toNat (max v2 v3); rw [k14]; congr 1; omega⟩, fun q => absurd q (by decide)⟩ (by show up gF 14 (gF 14 + 1) 14 = gF 14 + 1; rw [up_eq]) (fun j hj hne => by rw [up_ne (by omega)]) (NR_K (hNRc hpe) K12_r (up_ne (by omega)) (fun j hj => by rw [up_ne (by omega), up_ne (by omega), up_ne (by omega)])) (NI_K (hNIc hpe) K12_r (by first | (rw [up_ne (by omega)]; omega) | (rw [up_eq]; omega)) (by first | (rw [up_ne (by omega)]; omega) | (rw [up_eq]; omega))) ?_
          · refine ⟨fun q => ?_, fun q => ?_, fun q => ?_, fun q => ?_, fun q => ?_, fun q => ?_, fun q => ?_, fun q => ?_, fun q => ?_, fun q => ?_, fun q => ?_, fun q => ?_, fun q => ?_⟩ <;> first | (exfalso; omega) | (rw [t0, t1, t2]; omega)
          · rw [if_neg (by omega)]
            have e0 := hk0.2.2.2
            have x1 := hk1.2.1.2
            have x2 := hk2.2.1.2
            have x3 := hk3.2.1.2
            omega
      · first | have d_112 := bz_0.mp c_112 | have d_112 := bz_1.mp c_112 | skip
        refine jr_iload_n (pc := 115) h dX9_readPast_115 rfl ?_
        refine jr_goto (pc := 116) h 120 dX9_readPast_116 (by decide) ?_
        refine jr_iast (pc := 120) h dX9_readPast_120 hA25 (by omega) (by omega) ?_
        refine jm_gen (fun M2 hM2 => ?_)
        have hMF := MF_A (i := 25) hMF hM2 (by omega)
        have f9 : fr (MFS f2) _ M2 := fr_up (S := MFS f2) hM2 ⟨by omega, by omega⟩
        have hX := MX_fr hX f9 (Nat.le_refl _) (fun k h1 h2 q => by have := q.1; have := q.2; omega)
        have fR := fr_tr fR (fr_mo f9 (fun k q => Or.inr q))
        obtain ⟨hnm, hOm, hBm⟩ := id hX
        have hOm : M2 m = jdO 9 (fX9 m _ _ fl (.ref f2)) := hOm
        obtain ⟨hnf, hOf, hAf⟩ := id hMF
        
        refine jr_aload_n (pc := 121) h dX9_readPast_121 rfl ?_
        refine gf_X9_174 (pc := 122) h dX9_readPast_122 (by assumption) (by omega) ?_
        refine jr_dup (pc := 125) h dX9_readPast_125 rfl ?_
        refine gf_X9_397 (pc := 126) h dX9_readPast_126 (by assumption) (by omega) ?_
        refine jr_iconst (pc := 129) h dX9_readPast_129 ?_
        refine jr_iadd (pc := 130) h dX9_readPast_130 ?_
        refine pf_X9_397 (pc := 131) h dX9_readPast_131 hOf (by omega) ?_
        refine jm_gen (fun M2 hM2 => ?_)
        rw [fX8_14] at hM2
        have hMF := MF_g hMF hM2
        have f9 : fr (MFS f2) _ M2 := fr_up (S := MFS f2) hM2 ⟨by omega, by omega⟩
        have hX := MX_fr hX f9 (Nat.le_refl _) (fun k h1 h2 q => by have := q.1; have := q.2; omega)
        have fR := fr_tr fR (fr_mo f9 (fun k q => Or.inr q))
        obtain ⟨hnm, hOm, hBm⟩ := id hX
        have hOm : M2 m = jdO 9 (fX9 m _ _ fl (.ref f2)) := hOm
        obtain ⟨hnf, hOf, hAf⟩ := id hMF
        refine jr_vret (pc := 134) h hRt dX9_readPast_134 (Nat.le_of_ble_eq_true rfl) (Nat.le_of_ble_eq_true rfl) ?_
        have hcS : 0 ≤ ct (Int.toNat 11) ∧ ct (Int.toNat 11) < 8 := by show 0 ≤ ct 11 ∧ ct 11 < 8; omega
        have hFIr := hFR.2.2.1.2.2.2
        have e_ln : lnP bs ct (nxP bs p) (opT ct td 11) 11 = (p3, (up (up (up (opT ct td 11) (c_ix ct 11 0) v1) (c_ix ct 11 1) v2) (c_ix ct 11 2) v3)) := by
          show ln_11 bs ct (nxP bs p) (opT ct td 11) = _
          unfold ln_11
          rw [hk1.2.2.1, hk2.2.2.1, hk3.2.2.1, ← ep3, ← ep2, ← ep1, hk0.2.1]
        have e_tln : tlnP bs ct td 11 p = (p3, up ct 11 (ct 11 + 1), (up (up (up (opT ct td 11) (c_ix ct 11 0) v1) (c_ix ct 11 1) v2) (c_ix ct 11 2) v3)) := by
          rw [tln_1 (by omega) (by show ¬ (4 : Int) ≤ ct 11; omega), e_ln]
          unfold tlnC
          show (p3, (if p3.1 7 = 0 then up ct 11 (ct 11 + 1) else ct), (up (up (up (opT ct td 11) (c_ix ct 11 0) v1) (c_ix ct 11 1) v2) (c_ix ct 11 2) v3)) = _
          rw [if_pos hpe]
        have t0 : c_get (up (up (up (opT ct td 11) (c_ix ct 11 0) v1) (c_ix ct 11 1) v2) (c_ix ct 11 2) v3) 11 (ct 11) 0 = v1 := (gn_ne (by omega) hcS rfl (by omega) (by omega) (by omega)).trans ((gn_ne (by omega) hcS rfl (by omega) (by omega) (by omega)).trans (gn_eq (by omega) hcS rfl (by omega)))
        have t1 : c_get (up (up (up (opT ct td 11) (c_ix ct 11 0) v1) (c_ix ct 11 1) v2) (c_ix ct 11 2) v3) 11 (ct 11) 1 = v2 := (gn_ne (by omega) hcS rfl (by omega) (by omega) (by omega)).trans (gn_eq (by omega) hcS rfl (by omega))
        have t2 : c_get (up (up (up (opT ct td 11) (c_ix ct 11 0) v1) (c_ix ct 11 1) v2) (c_ix ct 11 2) v3) 11 (ct 11) 2 = v3 := gn_eq (by omega) hcS rfl (by omega)
        rw [e_tln]
        refine ⟨⟨rfl, rfl⟩, _, _, _, _, hX, hgk, hTR, hMF, ?_, fun _ => ?_, fR⟩
        · refine RB_up (k := 14) hRB ⟨by omega, by omega⟩ (by show gF 14 < 4; omega) (fun i hi => by rw [up_ne (by omega), up_ne (by omega), up_ne (by omega)]; exact hRB.2.2.2.2 i hi) (fun j hj => by rw [up_ne (by omega), up_ne (by omega), up_ne (by omega)])
        · show FR p3 (up ct 11 (ct 11 + 1)) (up (up (up (opT ct td 11) (c_ix ct 11 0) v1) (c_ix ct 11 1) v2) (c_ix ct 11 2) v3) _ _
          refine FR_upd (s := 11) hFR ⟨by omega, by omega⟩ (by show ct 11 < 4; omega) (OUT_up (OUT_up (OUT_up OUT_op (by omega) hcS.1 (by omega)) (by omega) hcS.1 (by omega)) (by omega) hcS.1 (by omega)) (rn_up (rn_up (rn_up (rn_op hFIr) (by omega)) (by omega)) (by omega)) ?_ (fun q => absurd q (by decide)) (fun j h1 h2 h3 => by
            rw [up_ne (fun e => h3 (by rw [e]; rfl)), up_ne (fun e => h3 (by rw [e]; rfl)), up_ne (fun e => h3 (by rw [e]; rfl))]) ⟨fun q => absurd q (by decide), fun q => absurd q (by decide), fun q => absurd q (by decide), fun q => absurd q (by decide), fun q => absurd q (by decide), fun q => absurd q (by decide), fun q => absurd q (by decide), fun q => absurd q (by decide), fun q => absurd q (by decide), fun _ => ⟨by rw [t0]; show up (A 23) (gF 14).toNat v1 = up (A 23) (ct 11).toNat v1; rw [k14], by rw [t1, t2]; show up (A 24) (gF 14).toNat _ = up (A 24) (ct 11).toNat (min v2 v3); rw [k14]; congr 1; omega, by rw [t1, t2]; show up (A 25) (gF 14).toNat _ = up (A 25) (ct 11).toNat (max v2 v3); rw [k14]; congr 1; omega⟩, fun q => absurd q (by decide)⟩ (by show up gF 14 (gF 14 + 1) 14 = gF 14 + 1; rw [up_eq]) (fun j hj hne => by rw [up_ne (by omega)]) (NR_K (hNRc hpe) K12_r (up_ne (by omega)) (fun j hj => by rw [up_ne (by omega), up_ne (by omega), up_ne (by omega)])) (NI_K (hNIc hpe) K12_r (by first | (rw [up_ne (by omega)]; omega) | (rw [up_eq]; omega)) (by first | (rw [up_ne (by omega)]; omega) | (rw [up_eq]; omega))) ?_
          · refine ⟨fun q => ?_, fun q => ?_, fun q => ?_, fun q => ?_, fun q => ?_, fun q => ?_, fun q => ?_, fun q => ?_, fun q => ?_, fun q => ?_, fun q => ?_, fun q => ?_, fun q => ?_⟩ <;> first | (exfalso; omega) | (rw [t0, t1, t2]; omega)
          · rw [if_neg (by omega)]
            have e0 := hk0.2.2.2
            have x1 := hk1.2.1.2
            have x2 := hk2.2.1.2
            have x3 := hk3.2.1.2
            omega
    · first | have d_87 := bz_0.mp c_87 | have d_87 := bz_1.mp c_87 | skip
      refine jr_iload_n (pc := 90) h dX9_readPast_90 rfl ?_
      refine jr_goto (pc := 91) h 95 dX9_readPast_91 (by decide) ?_
      refine jr_iast (pc := 95) h dX9_readPast_95 hA24 (by omega) (by omega) ?_
      refine jm_gen (fun M2 hM2 => ?_)
      have hMF := MF_A (i := 24) hMF hM2 (by omega)
      have f9 : fr (MFS f2) _ M2 := fr_up (S := MFS f2) hM2 ⟨by omega, by omega⟩
      have hX := MX_fr hX f9 (Nat.le_refl _) (fun k h1 h2 q => by have := q.1; have := q.2; omega)
      have fR := fr_tr fR (fr_mo f9 (fun k q => Or.inr q))
      obtain ⟨hnm, hOm, hBm⟩ := id hX
      have hOm : M2 m = jdO 9 (fX9 m _ _ fl (.ref f2)) := hOm
      obtain ⟨hnf, hOf, hAf⟩ := id hMF
      have hA25 : M2 (f2 + 25) = jdA 4 (A 25) := hAf 25 (by omega) (by omega)
      refine jr_aload_n (pc := 96) h dX9_readPast_96 rfl ?_
      refine gf_X9_174 (pc := 97) h dX9_readPast_97 (by assumption) (by omega) ?_
      refine gf_X9_408 (pc := 100) h dX9_readPast_100 (by assumption) (by omega) ?_
      refine jr_aload_n (pc := 103) h dX9_readPast_103 rfl ?_
      refine gf_X9_174 (pc := 104) h dX9_readPast_104 (by assumption) (by omega) ?_
      refine gf_X9_397 (pc := 107) h dX9_readPast_107 (by assumption) (by omega) ?_
      refine jr_iload_n (pc := 110) h dX9_readPast_110 rfl ?_
      refine jr_iload_n (pc := 111) h dX9_readPast_111 rfl ?_
      refine jr_icmp_ge (pc := 112) h 119 dX9_readPast_112 (by decide) (by omega) (by omega) (fun c_112 => ?_) (fun c_112 => ?_)
      · first | have d_112 := bz_0.mp c_112 | have d_112 := bz_1.mp c_112 | skip
        refine jr_iload_n (pc := 119) h dX9_readPast_119 rfl ?_
        refine jr_iast (pc := 120) h dX9_readPast_120 hA25 (by omega) (by omega) ?_
        refine jm_gen (fun M2 hM2 => ?_)
        have hMF := MF_A (i := 25) hMF hM2 (by omega)
        have f9 : fr (MFS f2) _ M2 := fr_up (S := MFS f2) hM2 ⟨by omega, by omega⟩
        have hX := MX_fr hX f9 (Nat.le_refl _) (fun k h1 h2 q => by have := q.1; have := q.2; omega)
        have fR := fr_tr fR (fr_mo f9 (fun k q => Or.inr q))
        obtain ⟨hnm, hOm, hBm⟩ := id hX
        have hOm : M2 m = jdO 9 (fX9 m _ _ fl (.ref f2)) := hOm
        obtain ⟨hnf, hOf, hAf⟩ := id hMF
        
        refine jr_aload_n (pc := 121) h dX9_readPast_121 rfl ?_
        refine gf_X9_174 (pc := 122) h dX9_readPast_122 (by assumption) (by omega) ?_
        refine jr_dup (pc := 125) h dX9_readPast_125 rfl ?_
        refine gf_X9_397 (pc := 126) h dX9_readPast_126 (by assumption) (by omega) ?_
        refine jr_iconst (pc := 129) h dX9_readPast_129 ?_
        refine jr_iadd (pc := 130) h dX9_readPast_130 ?_
        refine pf_X9_397 (pc := 131) h dX9_readPast_131 hOf (by omega) ?_
        refine jm_gen (fun M2 hM2 => ?_)
        rw [fX8_14] at hM2
        have hMF := MF_g hMF hM2
        have f9 : fr (MFS f2) _ M2 := fr_up (S := MFS f2) hM2 ⟨by omega, by omega⟩
        have hX := MX_fr hX f9 (Nat.le_refl _) (fun k h1 h2 q => by have := q.1; have := q.2; omega)
        have fR := fr_tr fR (fr_mo f9 (fun k q => Or.inr q))
        obtain ⟨hnm, hOm, hBm⟩ := id hX
        have hOm : M2 m = jdO 9 (fX9 m _ _ fl (.ref f2)) := hOm
        obtain ⟨hnf, hOf, hAf⟩ := id hMF
        refine jr_vret (pc := 134) h hRt dX9_readPast_134 (Nat.le_of_ble_eq_true rfl) (Nat.le_of_ble_eq_true rfl) ?_
        have hcS : 0 ≤ ct (Int.toNat 11) ∧ ct (Int.toNat 11) < 8 := by show 0 ≤ ct 11 ∧ ct 11 < 8; omega
        have hFIr := hFR.2.2.1.2.2.2
        have e_ln : lnP bs ct (nxP bs p) (opT ct td 11) 11 = (p3, (up (up (up (opT ct td 11) (c_ix ct 11 0) v1) (c_ix ct 11 1) v2) (c_ix ct 11 2) v3)) := by
          show ln_11 bs ct (nxP bs p) (opT ct td 11) = _
          unfold ln_11
          rw [hk1.2.2.1, hk2.2.2.1, hk3.2.2.1, ← ep3, ← ep2, ← ep1, hk0.2.1]
        have e_tln : tlnP bs ct td 11 p = (p3, up ct 11 (ct 11 + 1), (up (up (up (opT ct td 11) (c_ix ct 11 0) v1) (c_ix ct 11 1) v2) (c_ix ct 11 2) v3)) := by
          rw [tln_1 (by omega) (by show ¬ (4 : Int) ≤ ct 11; omega), e_ln]
          unfold tlnC
          show (p3, (if p3.1 7 = 0 then up ct 11 (ct 11 + 1) else ct), (up (up (up (opT ct td 11) (c_ix ct 11 0) v1) (c_ix ct 11 1) v2) (c_ix ct 11 2) v3)) = _
          rw [if_pos hpe]
        have t0 : c_get (up (up (up (opT ct td 11) (c_ix ct 11 0) v1) (c_ix ct 11 1) v2) (c_ix ct 11 2) v3) 11 (ct 11) 0 = v1 := (gn_ne (by omega) hcS rfl (by omega) (by omega) (by omega)).trans ((gn_ne (by omega) hcS rfl (by omega) (by omega) (by omega)).trans (gn_eq (by omega) hcS rfl (by omega)))
        have t1 : c_get (up (up (up (opT ct td 11) (c_ix ct 11 0) v1) (c_ix ct 11 1) v2) (c_ix ct 11 2) v3) 11 (ct 11) 1 = v2 := (gn_ne (by omega) hcS rfl (by omega) (by omega) (by omega)).trans (gn_eq (by omega) hcS rfl (by omega))
        have t2 : c_get (up (up (up (opT ct td 11) (c_ix ct 11 0) v1) (c_ix ct 11 1) v2) (c_ix ct 11 2) v3) 11 (ct 11) 2 = v3 := gn_eq (by omega) hcS rfl (by omega)
        rw [e_tln]
        refine ⟨⟨rfl, rfl⟩, _, _, _, _, hX, hgk, hTR, hMF, ?_, fun _ => ?_, fR⟩
        · refine RB_up (k := 14) hRB ⟨by omega, by omega⟩ (by show gF 14 < 4; omega) (fun i hi => by rw [up_ne (by omega), up_ne (by omega), up_ne (by omega)]; exact hRB.2.2.2.2 i hi) (fun j hj => by rw [up_ne (by omega), up_ne (by omega), up_ne (by omega)])
        · show FR p3 (up ct 11 (ct 11 + 1)) (up (up (up (opT ct td 11) (c_ix ct 11 0) v1) (c_ix ct 11 1) v2) (c_ix ct 11 2) v3) _ _
          refine FR_upd (s := 11) hFR ⟨by omega, by omega⟩ (by show ct 11 < 4; omega) (OUT_up (OUT_up (OUT_up OUT_op (by omega) hcS.1 (by omega)) (by omega) hcS.1 (by omega)) (by omega) hcS.1 (by omega)) (rn_up (rn_up (rn_up (rn_op hFIr) (by omega)) (by omega)) (by omega)) ?_ (fun q => absurd q (by decide)) (fun j h1 h2 h3 => by
            rw [up_ne (fun e => h3 (by rw [e]; rfl)), up_ne (fun e => h3 (by rw [e]; rfl)), up_ne (fun e => h3 (by rw [e]; rfl))]) ⟨fun q => absurd q (by decide), fun q => absurd q (by decide), fun q => absurd q (by decide), fun q => absurd q (by decide), fun q => absurd q (by decide), fun q => absurd q (by decide), fun q => absurd q (by decide), fun q => absurd q (by decide), fun q => absurd q (by decide), fun _ => ⟨by rw [t0]; show up (A 23) (gF 14).toNat v1 = up (A 23) (ct 11).toNat v1; rw [k14], by rw [t1, t2]; show up (A 24) (gF 14).toNat _ = up (A 24) (ct 11).toNat (min v2 v3); rw [k14]; congr 1; omega, by rw [t1, t2]; show up (A 25) (gF 14).toNat _ = up (A 25) (ct 11).toNat (max v2 v3); rw [k14]; congr 1; omega⟩, fun q => absurd q (by decide)⟩ (by show up gF 14 (gF 14 + 1) 14 = gF 14 + 1; rw [up_eq]) (fun j hj hne => by rw [up_ne (by omega)]) (NR_K (hNRc hpe) K12_r (up_ne (by omega)) (fun j hj => by rw [up_ne (by omega), up_ne (by omega), up_ne (by omega)])) (NI_K (hNIc hpe) K12_r (by first | (rw [up_ne (by omega)]; omega) | (rw [up_eq]; omega)) (by first | (rw [up_ne (by omega)]; omega) | (rw [up_eq]; omega))) ?_
          · refine ⟨fun q => ?_, fun q => ?_, fun q => ?_, fun q => ?_, fun q => ?_, fun q => ?_, fun q => ?_, fun q => ?_, fun q => ?_, fun q => ?_, fun q => ?_, fun q => ?_, fun q => ?_⟩ <;> first | (exfalso; omega) | (rw [t0, t1, t2]; omega)
          · rw [if_neg (by omega)]
            have e0 := hk0.2.2.2
            have x1 := hk1.2.1.2
            have x2 := hk2.2.1.2
            have x3 := hk3.2.1.2
            omega
      · first | have d_112 := bz_0.mp c_112 | have d_112 := bz_1.mp c_112 | skip
        refine jr_iload_n (pc := 115) h dX9_readPast_115 rfl ?_
        refine jr_goto (pc := 116) h 120 dX9_readPast_116 (by decide) ?_
        refine jr_iast (pc := 120) h dX9_readPast_120 hA25 (by omega) (by omega) ?_
        refine jm_gen (fun M2 hM2 => ?_)
        have hMF := MF_A (i := 25) hMF hM2 (by omega)
        have f9 : fr (MFS f2) _ M2 := fr_up (S := MFS f2) hM2 ⟨by omega, by omega⟩
        have hX := MX_fr hX f9 (Nat.le_refl _) (fun k h1 h2 q => by have := q.1; have := q.2; omega)
        have fR := fr_tr fR (fr_mo f9 (fun k q => Or.inr q))
        obtain ⟨hnm, hOm, hBm⟩ := id hX
        have hOm : M2 m = jdO 9 (fX9 m _ _ fl (.ref f2)) := hOm
        obtain ⟨hnf, hOf, hAf⟩ := id hMF
        
        refine jr_aload_n (pc := 121) h dX9_readPast_121 rfl ?_
        refine gf_X9_174 (pc := 122) h dX9_readPast_122 (by assumption) (by omega) ?_
        refine jr_dup (pc := 125) h dX9_readPast_125 rfl ?_
        refine gf_X9_397 (pc := 126) h dX9_readPast_126 (by assumption) (by omega) ?_
        refine jr_iconst (pc := 129) h dX9_readPast_129 ?_
        refine jr_iadd (pc := 130) h dX9_readPast_130 ?_
        refine pf_X9_397 (pc := 131) h dX9_readPast_131 hOf (by omega) ?_
        refine jm_gen (fun M2 hM2 => ?_)
        rw [fX8_14] at hM2
        have hMF := MF_g hMF hM2
        have f9 : fr (MFS f2) _ M2 := fr_up (S := MFS f2) hM2 ⟨by omega, by omega⟩
        have hX := MX_fr hX f9 (Nat.le_refl _) (fun k h1 h2 q => by have := q.1; have := q.2; omega)
        have fR := fr_tr fR (fr_mo f9 (fun k q => Or.inr q))
        obtain ⟨hnm, hOm, hBm⟩ := id hX
        have hOm : M2 m = jdO 9 (fX9 m _ _ fl (.ref f2)) := hOm
        obtain ⟨hnf, hOf, hAf⟩ := id hMF
        refine jr_vret (pc := 134) h hRt dX9_readPast_134 (Nat.le_of_ble_eq_true rfl) (Nat.le_of_ble_eq_true rfl) ?_
        have hcS : 0 ≤ ct (Int.toNat 11) ∧ ct (Int.toNat 11) < 8 := by show 0 ≤ ct 11 ∧ ct 11 < 8; omega
        have hFIr := hFR.2.2.1.2.2.2
        have e_ln : lnP bs ct (nxP bs p) (opT ct td 11) 11 = (p3, (up (up (up (opT ct td 11) (c_ix ct 11 0) v1) (c_ix ct 11 1) v2) (c_ix ct 11 2) v3)) := by
          show ln_11 bs ct (nxP bs p) (opT ct td 11) = _
          unfold ln_11
          rw [hk1.2.2.1, hk2.2.2.1, hk3.2.2.1, ← ep3, ← ep2, ← ep1, hk0.2.1]
        have e_tln : tlnP bs ct td 11 p = (p3, up ct 11 (ct 11 + 1), (up (up (up (opT ct td 11) (c_ix ct 11 0) v1) (c_ix ct 11 1) v2) (c_ix ct 11 2) v3)) := by
          rw [tln_1 (by omega) (by show ¬ (4 : Int) ≤ ct 11; omega), e_ln]
          unfold tlnC
          show (p3, (if p3.1 7 = 0 then up ct 11 (ct 11 + 1) else ct), (up (up (up (opT ct td 11) (c_ix ct 11 0) v1) (c_ix ct 11 1) v2) (c_ix ct 11 2) v3)) = _
          rw [if_pos hpe]
        have t0 : c_get (up (up (up (opT ct td 11) (c_ix ct 11 0) v1) (c_ix ct 11 1) v2) (c_ix ct 11 2) v3) 11 (ct 11) 0 = v1 := (gn_ne (by omega) hcS rfl (by omega) (by omega) (by omega)).trans ((gn_ne (by omega) hcS rfl (by omega) (by omega) (by omega)).trans (gn_eq (by omega) hcS rfl (by omega)))
        have t1 : c_get (up (up (up (opT ct td 11) (c_ix ct 11 0) v1) (c_ix ct 11 1) v2) (c_ix ct 11 2) v3) 11 (ct 11) 1 = v2 := (gn_ne (by omega) hcS rfl (by omega) (by omega) (by omega)).trans (gn_eq (by omega) hcS rfl (by omega))
        have t2 : c_get (up (up (up (opT ct td 11) (c_ix ct 11 0) v1) (c_ix ct 11 1) v2) (c_ix ct 11 2) v3) 11 (ct 11) 2 = v3 := gn_eq (by omega) hcS rfl (by omega)
        rw [e_tln]
        refine ⟨⟨rfl, rfl⟩, _, _, _, _, hX, hgk, hTR, hMF, ?_, fun _ => ?_, fR⟩
        · refine RB_up (k := 14) hRB ⟨by omega, by omega⟩ (by show gF 14 < 4; omega) (fun i hi => by rw [up_ne (by omega), up_ne (by omega), up_ne (by omega)]; exact hRB.2.2.2.2 i hi) (fun j hj => by rw [up_ne (by omega), up_ne (by omega), up_ne (by omega)])
        · show FR p3 (up ct 11 (ct 11 + 1)) (up (up (up (opT ct td 11) (c_ix ct 11 0) v1) (c_ix ct 11 1) v2) (c_ix ct 11 2) v3) _ _
          refine FR_upd (s := 11) hFR ⟨by omega, by omega⟩ (by show ct 11 < 4; omega) (OUT_up (OUT_up (OUT_up OUT_op (by omega) hcS.1 (by omega)) (by omega) hcS.1 (by omega)) (by omega) hcS.1 (by omega)) (rn_up (rn_up (rn_up (rn_op hFIr) (by omega)) (by omega)) (by omega)) ?_ (fun q => absurd q (by decide)) (fun j h1 h2 h3 => by
            rw [up_ne (fun e => h3 (by rw [e]; rfl)), up_ne (fun e => h3 (by rw [e]; rfl)), up_ne (fun e => h3 (by rw [e]; rfl))]) ⟨fun q => absurd q (by decide), fun q => absurd q (by decide), fun q => absurd q (by decide), fun q => absurd q (by decide), fun q => absurd q (by decide), fun q => absurd q (by decide), fun q => absurd q (by decide), fun q => absurd q (by decide), fun q => absurd q (by decide), fun _ => ⟨by rw [t0]; show up (A 23) (gF 14).toNat v1 = up (A 23) (ct 11).toNat v1; rw [k14], by rw [t1, t2]; show up (A 24) (gF 14).toNat _ = up (A 24) (ct 11).toNat (min v2 v3); rw [k14]; congr 1; omega, by rw [t1, t2]; show up (A 25) (gF 14).toNat _ = up (A 25) (ct 11).toNat (max v2 v3); rw [k14]; congr 1; omega⟩, fun q => absurd q (by decide)⟩ (by show up gF 14 (gF 14 + 1) 14 = gF 14 + 1; rw [up_eq]) (fun j hj hne => by rw [up_ne (by omega)]) (NR_K (hNRc hpe) K12_r (up_ne (by omega)) (fun j hj => by rw [up_ne (by omega), up_ne (by omega), up_ne (by omega)])) (NI_K (hNIc hpe) K12_r (by first | (rw [up_ne (by omega)]; omega) | (rw [up_eq]; omega)) (by first | (rw [up_ne (by omega)]; omega) | (rw [up_eq]; omega))) ?_
          · refine ⟨fun q => ?_, fun q => ?_, fun q => ?_, fun q => ?_, fun q => ?_, fun q => ?_, fun q => ?_, fun q => ?_, fun q => ?_, fun q => ?_, fun q => ?_, fun q => ?_, fun q => ?_⟩ <;> first | (exfalso; omega) | (rw [t0, t1, t2]; omega)
          · rw [if_neg (by omega)]
            have e0 := hk0.2.2.2
            have x1 := hk1.2.1.2
            have x2 := hk2.2.1.2
            have x3 := hk3.2.1.2
            omega
  · first | have d_51 := bz_0.mp c_51 | have d_51 := bz_1.mp c_51 | skip
    refine jr_vret (pc := 54) h hRt dX9_readPast_54 (Nat.le_of_ble_eq_true rfl) (Nat.le_of_ble_eq_true rfl) ?_
    have h57 := (TR_5 hTR hPO).1
    have hpf : p3.1 7 ≠ 0 := h57.1 (by omega)
    have e_end : (tlnP bs ct td 11 p).1 = p3 := by
      rcases hc0 with ⟨hlm, e0⟩ | ⟨hlm, e0⟩
      · have hb0 : p0.1 7 ≠ 0 := by rw [e0]; exact flP_x (by omega)
        have e1 := hf1 hb0
        have hb1 : p1.1 7 ≠ 0 := by rw [e1]; exact hb0
        have e2 := hf2 hb1
        have hb2 : p2.1 7 ≠ 0 := by rw [e2]; exact hb1
        have e3 := hf3 hb2
        have hb3 : p3.1 7 ≠ 0 := by rw [e3]; exact hb2
        rw [tln_0 (by omega) (by show (4 : Int) ≤ ct 11; omega)]
        show flP 5 p = p3
        rw [e3, e2, e1, e0]
      · rw [tln_1 (by omega) (by show ¬ (4 : Int) ≤ ct 11; omega)]
        show (ln_11 bs ct (nxP bs p) (opT ct td 11)).1 = p3
        rw [← ep3, ← ep2, ← ep1, e0]
        unfold ln_11
        rfl
    exact ⟨⟨rfl, rfl⟩, _, _, _, _, hX, hgk, (by rw [e_end]; exact hTR), hMF, hRB, fun q => absurd q (by rw [e_end]; exact hpf), fR⟩
set_option maxHeartbeats 1000000 in
set_option maxRecDepth 20000 in
theorem s_X9_readLoad {l : Launch} {n : Nat} {M : jdM} {m f2 : Nat} {g : Nat → Int} {w : Int} {fl : Value} {B : Nat → Nat → Int} (hX : MX M n m g w fl (.ref f2) B) {bs : Nat → Int} (hbt : ∀ j, j < 900 → B 1 j = bs j) (hbb : ∀ j, -128 ≤ bs j ∧ bs j ≤ 127) {p : TS} (hTR : TR bs p g w) (hPO : PO p) {gF : Nat → Int} {A : Nat → Nat → Int} (hMF : MF M n f2 gF A) (hsep : f2 + 30 < m ∨ m + 12 < f2) (hRB : RB gF A) {ct td : Nat → Int} (hFR : FR p ct td gF A) (q7 : p.1 7 = 0) (q4 : p.1 4 = 1) : Ct l yX9_readLoad cX9_readLoad 4 none rX9_readLoad [.ref m] n M (fun vv n' M' => (vv = none ∧ n = n') ∧ ∃ g' w' gF' A', MX M' n m g' w' fl (.ref f2) B ∧ gkp g g' ∧ TR bs (tlnP bs ct td 6 p).1 g' w' ∧ MF M' n f2 gF' A' ∧ RB gF' A' ∧ ((tlnP bs ct td 6 p).1.1 7 = 0 → FR (tlnP bs ct td 6 p).1 (tlnP bs ct td 6 p).2.1 (tlnP bs ct td 6 p).2.2 gF' A') ∧ fr (RFS m f2) M M') := by
  refine Ct_of [some (.ref m), none, none, none] (by decide) (Nat.le_of_ble_eq_true rfl) rfl (fun κ hl h hR hRt hmn hn0 => ?_)
  have h : Ok κ RX9 cX9_readLoad 4 none := h
  obtain ⟨hnm, hOm, hBm⟩ := id hX
  have hOm : M m = jdO 9 (fX9 m _ _ fl (.ref f2)) := hOm
  obtain ⟨hnf, hOf, hAf⟩ := id hMF
  have fR : fr (RFS m f2) M M := fr_rf
  have hgk : gkp g g := gkp_r
  have hNB := hRB.1
  obtain ⟨hcb, h0b, h3b, h8b⟩ := hRB.2
  have hNRp := hFR.2.2.2.1
  have hNIp := hFR.2.2.2.2.1
  have hcnt := hFR.2.2.2.2.2.2
  obtain ⟨k5, k6, k7, k8, k9, k10, k11, k12, k13, k14, k15⟩ := hFR.2.1
  have hNBc := hNB.1
  refine jr_aload_n (pc := 0) h dX9_readLoad_0 rfl ?_
  refine jr_aload_n (pc := 1) h dX9_readLoad_1 rfl ?_
  refine gf_X9_174 (pc := 2) h dX9_readLoad_2 (by assumption) (by omega) ?_
  refine gf_X9_333 (pc := 5) h dX9_readLoad_5 (by assumption) (by omega) ?_
  refine jr_bipush (pc := 8) h dX9_readLoad_8 bp_8 ?_
  refine iv_X9_274 (pc := 10) h hl hR dX9_readLoad_10 ⟨(Nat.le_of_ble_eq_true rfl), (Nat.le_of_ble_eq_true rfl), (Nat.le_of_ble_eq_true rfl), (Nat.le_of_ble_eq_true rfl)⟩ (Nat.le_of_ble_eq_true rfl) (by assumption) (by omega) (s_X9_begins hX hbt hbb hTR hPO q7 q4 (x := gF 9) (y := 8) (by omega) (by omega)) (fun v_10 n_10 M_10 hn_10 hp => ?_)
  obtain ⟨⟨rfl, rfl⟩, g1, w1, hX, hg1, hTR, f9⟩ := hp
  have fR := fr_tr fR (fr_mo f9 (fun k q => Or.inl q))
  have hgk := gkp_t hgk hg1
  have hMF := MF_fr hMF f9 (Nat.le_refl _) (fun k h1 h2 q => by have := q.1; have := q.2; omega)
  obtain ⟨p0, ep0⟩ : ∃ z, (if gF 9 = 8 then flP 5 p else nxP bs p) = z := ⟨_, rfl⟩
  rw [ep0] at hTR
  have hc0 : (ct 6 = 8 ∧ p0 = flP 5 p) ∨ (ct 6 < 8 ∧ p0 = nxP bs p) := by
    rw [← ep0]
    by_cases q : gF 9 = 8
    · rw [if_pos q]; exact Or.inl ⟨by omega, rfl⟩
    · rw [if_neg q]; exact Or.inr ⟨by omega, rfl⟩
  replace hPO : PO p0 := by
    rcases hc0 with ⟨-, e⟩ | ⟨-, e⟩ <;> rw [e]
    · exact flP_O hPO (by omega)
    · exact nxP_O hPO
  have hok0 : Imp (OKp p0) (ct 6 < 8 ∧ p0 = nxP bs p ∧ K12 p p0) := fun q => by
    rcases hc0 with ⟨-, e⟩ | ⟨h9, e⟩
    · rw [e] at q; exact absurd q (flP_x (by omega))
    · exact ⟨h9, e, by rw [e]; exact K12_nx⟩
  have hNRc : Imp (p0.1 7 = 0) (NR p0 gF A) := fun q => NR_K hNRp (hok0 q).2.2 rfl (fun _ _ => rfl)
  have hNIc : Imp (p0.1 7 = 0) (NI p0 ct) := fun q => NI_K hNIp (hok0 q).2.2 (Int.le_refl _) (Int.le_refl _)
  obtain ⟨hnm, hOm, hBm⟩ := id hX
  have hOm : M_10 m = jdO 9 (fX9 m _ _ fl (.ref f2)) := hOm
  obtain ⟨hnf, hOf, hAf⟩ := id hMF
  
  refine jr_aload_n (pc := 13) h dX9_readLoad_13 rfl ?_
  refine jr_iconst (pc := 14) h dX9_readLoad_14 ?_
  refine iv_X9_292 (pc := 15) h hl hR dX9_readLoad_15 ⟨(Nat.le_of_ble_eq_true rfl), (Nat.le_of_ble_eq_true rfl), (Nat.le_of_ble_eq_true rfl), (Nat.le_of_ble_eq_true rfl)⟩ (Nat.le_of_ble_eq_true rfl) (by assumption) (by omega) (s_X9_readKnown hX hbt hbb (p := p0) hTR hPO hMF hsep hNB hNRc (s := 5) (x := 1) (by omega) rfl) (fun v_15 n_15 M_15 hn_15 hp => ?_)
  obtain ⟨v1, ⟨rfl, rfl⟩, hvr1, hve1, g1, w1, hX, hg1, hTR, f9⟩ := hp
  have fR := fr_tr fR (fr_mo f9 (fun k q => Or.inl q))
  have hgk := gkp_t hgk hg1
  have hMF := MF_fr hMF f9 (Nat.le_refl _) (fun k h1 h2 q => by have := q.1; have := q.2; omega)
  obtain ⟨p1, ep1⟩ : ∃ z, (enP bs 5 p0).2 = z := ⟨_, rfl⟩
  rw [ep1] at hTR hve1
  replace hPO : PO p1 := by rw [← ep1]; exact enP_O hPO
  have hok1 : Imp (OKp p1) (OKp p0 ∧ K12 p0 p1 ∧ v1 = (enP bs 5 p0).1 ∧ (0 ≤ v1 ∧ v1 < ct 5)) := fun q => by
    have e := hve1 q
    rw [← ep1] at q ⊢
    have h9 := ok_en q
    rw [e]
    obtain ⟨h91, h92, j9, hj1, hj2, hj3⟩ := h9
    refine ⟨h91, h92, rfl, ?_⟩
    rw [hj3]
    have hz9 := (hNIc h91 j9 hj1).2 hj2
    exact hz9
  clear hve1
  have hf1 : Imp (p0.1 7 ≠ 0) (p1 = p0) := fun q => by rw [← ep1]; exact xP_f_en q
  have hNRc : Imp (p1.1 7 = 0) (NR p1 gF A) := fun q => NR_K (hNRc (hok1 q).1) (hok1 q).2.1 rfl (fun _ _ => rfl)
  have hNIc : Imp (p1.1 7 = 0) (NI p1 ct) := fun q => NI_K (hNIc (hok1 q).1) (hok1 q).2.1 (Int.le_refl _) (Int.le_refl _)
  obtain ⟨hnm, hOm, hBm⟩ := id hX
  have hOm : M_15 m = jdO 9 (fX9 m _ _ fl (.ref f2)) := hOm
  obtain ⟨hnf, hOf, hAf⟩ := id hMF
  
  have h5r := (TR_5 hTR hPO).2.2
  refine jr_istore_n (pc := 18) h [_, _, _, _] dX9_readLoad_18 (by decide) rfl ?_
  refine jr_aload_n (pc := 19) h dX9_readLoad_19 rfl ?_
  refine jr_iconst (pc := 20) h dX9_readLoad_20 ?_
  refine iv_X9_292 (pc := 21) h hl hR dX9_readLoad_21 ⟨(Nat.le_of_ble_eq_true rfl), (Nat.le_of_ble_eq_true rfl), (Nat.le_of_ble_eq_true rfl), (Nat.le_of_ble_eq_true rfl)⟩ (Nat.le_of_ble_eq_true rfl) (by assumption) (by omega) (s_X9_readKnown hX hbt hbb (p := p1) hTR hPO hMF hsep hNB hNRc (s := 2) (x := 0) (by omega) rfl) (fun v_21 n_21 M_21 hn_21 hp => ?_)
  obtain ⟨v2, ⟨rfl, rfl⟩, hvr2, hve2, g1, w1, hX, hg1, hTR, f9⟩ := hp
  have fR := fr_tr fR (fr_mo f9 (fun k q => Or.inl q))
  have hgk := gkp_t hgk hg1
  have hMF := MF_fr hMF f9 (Nat.le_refl _) (fun k h1 h2 q => by have := q.1; have := q.2; omega)
  obtain ⟨p2, ep2⟩ : ∃ z, (enP bs 2 p1).2 = z := ⟨_, rfl⟩
  rw [ep2] at hTR hve2
  replace hPO : PO p2 := by rw [← ep2]; exact enP_O hPO
  have hok2 : Imp (OKp p2) (OKp p1 ∧ K12 p1 p2 ∧ v2 = (enP bs 2 p1).1 ∧ (0 ≤ v2 ∧ v2 < ct 2)) := fun q => by
    have e := hve2 q
    rw [← ep2] at q ⊢
    have h9 := ok_en q
    rw [e]
    obtain ⟨h91, h92, j9, hj1, hj2, hj3⟩ := h9
    refine ⟨h91, h92, rfl, ?_⟩
    rw [hj3]
    have hz9 := (hNIc h91 j9 hj1).1 hj2
    exact hz9
  clear hve2
  have hf2 : Imp (p1.1 7 ≠ 0) (p2 = p1) := fun q => by rw [← ep2]; exact xP_f_en q
  have hNRc : Imp (p2.1 7 = 0) (NR p2 gF A) := fun q => NR_K (hNRc (hok2 q).1) (hok2 q).2.1 rfl (fun _ _ => rfl)
  have hNIc : Imp (p2.1 7 = 0) (NI p2 ct) := fun q => NI_K (hNIc (hok2 q).1) (hok2 q).2.1 (Int.le_refl _) (Int.le_refl _)
  obtain ⟨hnm, hOm, hBm⟩ := id hX
  have hOm : M_21 m = jdO 9 (fX9 m _ _ fl (.ref f2)) := hOm
  obtain ⟨hnf, hOf, hAf⟩ := id hMF
  
  have h5r := (TR_5 hTR hPO).2.2
  refine jr_istore_n (pc := 24) h [_, _, _, _] dX9_readLoad_24 (by decide) rfl ?_
  refine jr_aload_n (pc := 25) h dX9_readLoad_25 rfl ?_
  refine jr_ldcwS (pc := 26) h 50 (by decide) ⟨rfl, rfl⟩ dX9_readLoad_26 ?_
  refine jr_iconst (pc := 29) h dX9_readLoad_29 ?_
  refine jr_bipush (pc := 30) h dX9_readLoad_30 bp_99 ?_
  refine iv_X9_257 (pc := 32) h hl hR dX9_readLoad_32 ⟨(Nat.le_of_ble_eq_true rfl), (Nat.le_of_ble_eq_true rfl), (Nat.le_of_ble_eq_true rfl), (Nat.le_of_ble_eq_true rfl)⟩ (Nat.le_of_ble_eq_true rfl) (by assumption) (by omega) (s_X9_readPart hX hbt hbb (p := p2) (k := 50) (x := 1) (y := 99) hTR hPO (by omega) (by omega) (by omega) (by omega)) (fun v_32 n_32 M_32 hn_32 hp => ?_)
  obtain ⟨v3, ⟨rfl, rfl⟩, hvr3, hve3, g1, w1, hX, hg1, hTR, f9⟩ := hp
  have fR := fr_tr fR (fr_mo f9 (fun k q => Or.inl q))
  have hgk := gkp_t hgk hg1
  have hMF := MF_fr hMF f9 (Nat.le_refl _) (fun k h1 h2 q => by have := q.1; have := q.2; omega)
  rw [lb_c (show jtxt 50 = jtxt 13 from rfl)] at hve3 hTR
  obtain ⟨p3, ep3⟩ : ∃ z, (lbP bs 13 1 99 p2).2 = z := ⟨_, rfl⟩
  rw [ep3] at hTR hve3
  replace hPO : PO p3 := by rw [← ep3]; exact (fun h => ehP_O (ewP_O h)) hPO
  have hok3 : Imp (OKp p3) (OKp p2 ∧ K12 p2 p3 ∧ v3 = (lbP bs 13 1 99 p2).1 ∧ (1 ≤ v3 ∧ v3 ≤ 99)) := fun q => by
    have e := hve3 q
    rw [← ep3] at q ⊢
    have h9 := ok_lb q
    rw [e]
    exact ⟨h9.1, h9.2.2, rfl, h9.2.1⟩
  clear hve3
  have hf3 : Imp (p2.1 7 ≠ 0) (p3 = p2) := fun q => by rw [← ep3]; exact xP_f_lb q
  have hNRc : Imp (p3.1 7 = 0) (NR p3 gF A) := fun q => NR_K (hNRc (hok3 q).1) (hok3 q).2.1 rfl (fun _ _ => rfl)
  have hNIc : Imp (p3.1 7 = 0) (NI p3 ct) := fun q => NI_K (hNIc (hok3 q).1) (hok3 q).2.1 (Int.le_refl _) (Int.le_refl _)
  obtain ⟨hnm, hOm, hBm⟩ := id hX
  have hOm : M_32 m = jdO 9 (fX9 m _ _ fl (.ref f2)) := hOm
  obtain ⟨hnf, hOf, hAf⟩ := id hMF
  
  have h5r := (TR_5 hTR hPO).2.2
  refine jr_istore_n (pc := 35) h [_, _, _, _] dX9_readLoad_35 (by decide) rfl ?_
  refine jr_aload_n (pc := 36) h dX9_readLoad_36 rfl ?_
  refine gf_X9_80 (pc := 37) h dX9_readLoad_37 (by assumption) (by omega) ?_
  refine jr_iconst (pc := 40) h dX9_readLoad_40 ?_
  refine jr_icmp_ne (pc := 41) h 45 dX9_readLoad_41 (by decide) (by omega) (by omega) (fun c_41 => ?_) (fun c_41 => ?_)
  · first | have d_41 := bz_0.mp c_41 | have d_41 := bz_1.mp c_41 | skip
    have h57 := (TR_5 hTR hPO).1
    have hpe : p3.1 7 = 0 := Classical.byContradiction (fun q => by have := h57.2 q; omega)
    have hk3 := hok3 hpe
    have hk2 := hok2 hk3.1
    have hk1 := hok1 hk2.1
    have hk0 := hok0 hk1.1
    have hl0 := hk0.1
    have hr1 := hk1.2.2.2
    have hv1 := hk1.2.2.1
    have hr2 := hk2.2.2.2
    have hv2 := hk2.2.2.1
    have hr3 := hk3.2.2.2
    have hv3 := hk3.2.2.1
    have hA11 : M_32 (f2 + 11) = jdA 8 (A 11) := hAf 11 (by omega) (by omega)
    refine jr_aload_n (pc := 45) h dX9_readLoad_45 rfl ?_
    refine gf_X9_174 (pc := 46) h dX9_readLoad_46 (by assumption) (by omega) ?_
    refine gf_X9_337 (pc := 49) h dX9_readLoad_49 (by assumption) (by omega) ?_
    refine jr_iconst (pc := 52) h dX9_readLoad_52 ?_
    refine jr_iload_n (pc := 53) h dX9_readLoad_53 rfl ?_
    refine jr_imul (pc := 54) h dX9_readLoad_54 ?_
    refine jr_iload_n (pc := 55) h dX9_readLoad_55 rfl ?_
    refine jr_iadd (pc := 56) h dX9_readLoad_56 ?_
    refine jr_dup2 (pc := 57) h dX9_readLoad_57 rfl rfl ?_
    refine jr_iald (pc := 58) h dX9_readLoad_58 (by assumption) (by omega) (by omega) ?_
    refine jr_iload_n (pc := 59) h dX9_readLoad_59 rfl ?_
    refine jr_iadd (pc := 60) h dX9_readLoad_60 ?_
    refine jr_iast (pc := 61) h dX9_readLoad_61 hA11 (by omega) (by omega) ?_
    refine jm_gen (fun M2 hM2 => ?_)
    have hMF := MF_A (i := 11) hMF hM2 (by omega)
    have f9 : fr (MFS f2) _ M2 := fr_up (S := MFS f2) hM2 ⟨by omega, by omega⟩
    have hX := MX_fr hX f9 (Nat.le_refl _) (fun k h1 h2 q => by have := q.1; have := q.2; omega)
    have fR := fr_tr fR (fr_mo f9 (fun k q => Or.inr q))
    obtain ⟨hnm, hOm, hBm⟩ := id hX
    have hOm : M2 m = jdO 9 (fX9 m _ _ fl (.ref f2)) := hOm
    obtain ⟨hnf, hOf, hAf⟩ := id hMF
    
    refine jr_aload_n (pc := 62) h dX9_readLoad_62 rfl ?_
    refine gf_X9_174 (pc := 63) h dX9_readLoad_63 (by assumption) (by omega) ?_
    refine jr_dup (pc := 66) h dX9_readLoad_66 rfl ?_
    refine gf_X9_333 (pc := 67) h dX9_readLoad_67 (by assumption) (by omega) ?_
    refine jr_iconst (pc := 70) h dX9_readLoad_70 ?_
    refine jr_iadd (pc := 71) h dX9_readLoad_71 ?_
    refine pf_X9_333 (pc := 72) h dX9_readLoad_72 hOf (by omega) ?_
    refine jm_gen (fun M2 hM2 => ?_)
    rw [fX8_9] at hM2
    have hMF := MF_g hMF hM2
    have f9 : fr (MFS f2) _ M2 := fr_up (S := MFS f2) hM2 ⟨by omega, by omega⟩
    have hX := MX_fr hX f9 (Nat.le_refl _) (fun k h1 h2 q => by have := q.1; have := q.2; omega)
    have fR := fr_tr fR (fr_mo f9 (fun k q => Or.inr q))
    obtain ⟨hnm, hOm, hBm⟩ := id hX
    have hOm : M2 m = jdO 9 (fX9 m _ _ fl (.ref f2)) := hOm
    obtain ⟨hnf, hOf, hAf⟩ := id hMF
    refine jr_vret (pc := 75) h hRt dX9_readLoad_75 (Nat.le_of_ble_eq_true rfl) (Nat.le_of_ble_eq_true rfl) ?_
    have hcS : 0 ≤ ct (Int.toNat 6) ∧ ct (Int.toNat 6) < 8 := by show 0 ≤ ct 6 ∧ ct 6 < 8; omega
    have hFIr := hFR.2.2.1.2.2.2
    have e_ln : lnP bs ct (nxP bs p) (opT ct td 6) 6 = (p3, (up (up (up (opT ct td 6) (c_ix ct 6 0) v1) (c_ix ct 6 1) v2) (c_ix ct 6 2) v3)) := by
      show ln_6 bs ct (nxP bs p) (opT ct td 6) = _
      unfold ln_6
      rw [hk1.2.2.1, hk2.2.2.1, hk3.2.2.1, ← ep3, ← ep2, ← ep1, hk0.2.1]
    have e_tln : tlnP bs ct td 6 p = (p3, up ct 6 (ct 6 + 1), (up (up (up (opT ct td 6) (c_ix ct 6 0) v1) (c_ix ct 6 1) v2) (c_ix ct 6 2) v3)) := by
      rw [tln_1 (by omega) (by show ¬ (8 : Int) ≤ ct 6; omega), e_ln]
      unfold tlnC
      show (p3, (if p3.1 7 = 0 then up ct 6 (ct 6 + 1) else ct), (up (up (up (opT ct td 6) (c_ix ct 6 0) v1) (c_ix ct 6 1) v2) (c_ix ct 6 2) v3)) = _
      rw [if_pos hpe]
    have t0 : c_get (up (up (up (opT ct td 6) (c_ix ct 6 0) v1) (c_ix ct 6 1) v2) (c_ix ct 6 2) v3) 6 (ct 6) 0 = v1 := (gn_ne (by omega) hcS rfl (by omega) (by omega) (by omega)).trans ((gn_ne (by omega) hcS rfl (by omega) (by omega) (by omega)).trans (gn_eq (by omega) hcS rfl (by omega)))
    have t1 : c_get (up (up (up (opT ct td 6) (c_ix ct 6 0) v1) (c_ix ct 6 1) v2) (c_ix ct 6 2) v3) 6 (ct 6) 1 = v2 := (gn_ne (by omega) hcS rfl (by omega) (by omega) (by omega)).trans (gn_eq (by omega) hcS rfl (by omega))
    have t2 : c_get (up (up (up (opT ct td 6) (c_ix ct 6 0) v1) (c_ix ct 6 1) v2) (c_ix ct 6 2) v3) 6 (ct 6) 2 = v3 := gn_eq (by omega) hcS rfl (by omega)
    rw [e_tln]
    refine ⟨⟨rfl, rfl⟩, _, _, _, _, hX, hgk, hTR, hMF, ?_, fun _ => ?_, fR⟩
    · refine RB_up (k := 9) hRB ⟨by omega, by omega⟩ (by show gF 9 < 8; omega) (fun i hi => by rw [up_ne (by omega)]; exact hRB.2.2.2.2 i hi) (fun j hj => by rw [up_ne (by omega)])
    · show FR p3 (up ct 6 (ct 6 + 1)) (up (up (up (opT ct td 6) (c_ix ct 6 0) v1) (c_ix ct 6 1) v2) (c_ix ct 6 2) v3) _ _
      refine FR_upd (s := 6) hFR ⟨by omega, by omega⟩ (by show ct 6 < 8; omega) (OUT_up (OUT_up (OUT_up OUT_op (by omega) hcS.1 (by omega)) (by omega) hcS.1 (by omega)) (by omega) hcS.1 (by omega)) (rn_up (rn_up (rn_up (rn_op hFIr) (by omega)) (by omega)) (by omega)) ?_ (fun q => absurd q (by decide)) (fun j h1 h2 h3 => by
        rw [up_ne (fun e => h3 (by rw [e]; rfl))]) ⟨fun q => absurd q (by decide), fun q => absurd q (by decide), fun q => absurd q (by decide), fun q => absurd q (by decide), fun _ => by rw [t0, t1, t2]; show up (A 11) (4 * v1 + v2).toNat (A 11 (4 * v1 + v2).toNat + v3) = _; rw [show v1 * 4 + v2 = 4 * v1 + v2 by omega], fun q => absurd q (by decide), fun q => absurd q (by decide), fun q => absurd q (by decide), fun q => absurd q (by decide), fun q => absurd q (by decide), fun q => absurd q (by decide)⟩ (by show up gF 9 (gF 9 + 1) 9 = gF 9 + 1; rw [up_eq]) (fun j hj hne => by rw [up_ne (by omega)]) (NR_K (hNRc hpe) K12_r (up_ne (by omega)) (fun j hj => by rw [up_ne (by omega)])) (NI_K (hNIc hpe) K12_r (by first | (rw [up_ne (by omega)]; omega) | (rw [up_eq]; omega)) (by first | (rw [up_ne (by omega)]; omega) | (rw [up_eq]; omega))) ?_
      · refine ⟨fun q => ?_, fun q => ?_, fun q => ?_, fun q => ?_, fun q => ?_, fun q => ?_, fun q => ?_, fun q => ?_, fun q => ?_, fun q => ?_, fun q => ?_, fun q => ?_, fun q => ?_⟩ <;> first | (exfalso; omega) | (rw [t0, t1, t2]; omega)
      · rw [if_neg (by omega)]
        have e0 := hk0.2.2.2
        have x1 := hk1.2.1.2
        have x2 := hk2.2.1.2
        have x3 := hk3.2.1.2
        omega
  · first | have d_41 := bz_0.mp c_41 | have d_41 := bz_1.mp c_41 | skip
    refine jr_vret (pc := 44) h hRt dX9_readLoad_44 (Nat.le_of_ble_eq_true rfl) (Nat.le_of_ble_eq_true rfl) ?_
    have h57 := (TR_5 hTR hPO).1
    have hpf : p3.1 7 ≠ 0 := h57.1 (by omega)
    have e_end : (tlnP bs ct td 6 p).1 = p3 := by
      rcases hc0 with ⟨hlm, e0⟩ | ⟨hlm, e0⟩
      · have hb0 : p0.1 7 ≠ 0 := by rw [e0]; exact flP_x (by omega)
        have e1 := hf1 hb0
        have hb1 : p1.1 7 ≠ 0 := by rw [e1]; exact hb0
        have e2 := hf2 hb1
        have hb2 : p2.1 7 ≠ 0 := by rw [e2]; exact hb1
        have e3 := hf3 hb2
        have hb3 : p3.1 7 ≠ 0 := by rw [e3]; exact hb2
        rw [tln_0 (by omega) (by show (8 : Int) ≤ ct 6; omega)]
        show flP 5 p = p3
        rw [e3, e2, e1, e0]
      · rw [tln_1 (by omega) (by show ¬ (8 : Int) ≤ ct 6; omega)]
        show (ln_6 bs ct (nxP bs p) (opT ct td 6)).1 = p3
        rw [← ep3, ← ep2, ← ep1, e0]
        unfold ln_6
        rfl
    exact ⟨⟨rfl, rfl⟩, _, _, _, _, hX, hgk, (by rw [e_end]; exact hTR), hMF, hRB, fun q => absurd q (by rw [e_end]; exact hpf), fR⟩
set_option maxHeartbeats 1000000 in
set_option maxRecDepth 20000 in
theorem s_X9_readTook {l : Launch} {n : Nat} {M : jdM} {m f2 : Nat} {g : Nat → Int} {w : Int} {fl : Value} {B : Nat → Nat → Int} (hX : MX M n m g w fl (.ref f2) B) {bs : Nat → Int} (hbt : ∀ j, j < 900 → B 1 j = bs j) (hbb : ∀ j, -128 ≤ bs j ∧ bs j ≤ 127) {p : TS} (hTR : TR bs p g w) (hPO : PO p) {gF : Nat → Int} {A : Nat → Nat → Int} (hMF : MF M n f2 gF A) (hsep : f2 + 30 < m ∨ m + 12 < f2) (hRB : RB gF A) {ct td : Nat → Int} (hFR : FR p ct td gF A) (q7 : p.1 7 = 0) (q4 : p.1 4 = 1) : Ct l yX9_readTook cX9_readTook 4 none rX9_readTook [.ref m] n M (fun vv n' M' => (vv = none ∧ n = n') ∧ ∃ g' w' gF' A', MX M' n m g' w' fl (.ref f2) B ∧ gkp g g' ∧ TR bs (tlnP bs ct td 4 p).1 g' w' ∧ MF M' n f2 gF' A' ∧ RB gF' A' ∧ ((tlnP bs ct td 4 p).1.1 7 = 0 → FR (tlnP bs ct td 4 p).1 (tlnP bs ct td 4 p).2.1 (tlnP bs ct td 4 p).2.2 gF' A') ∧ fr (RFS m f2) M M') := by
  refine Ct_of [some (.ref m), none, none, none] (by decide) (Nat.le_of_ble_eq_true rfl) rfl (fun κ hl h hR hRt hmn hn0 => ?_)
  have h : Ok κ RX9 cX9_readTook 4 none := h
  obtain ⟨hnm, hOm, hBm⟩ := id hX
  have hOm : M m = jdO 9 (fX9 m _ _ fl (.ref f2)) := hOm
  obtain ⟨hnf, hOf, hAf⟩ := id hMF
  have fR : fr (RFS m f2) M M := fr_rf
  have hgk : gkp g g := gkp_r
  have hNB := hRB.1
  obtain ⟨hcb, h0b, h3b, h8b⟩ := hRB.2
  have hNRp := hFR.2.2.2.1
  have hNIp := hFR.2.2.2.2.1
  have hcnt := hFR.2.2.2.2.2.2
  obtain ⟨k5, k6, k7, k8, k9, k10, k11, k12, k13, k14, k15⟩ := hFR.2.1
  have hNBc := hNB.1
  refine jr_aload_n (pc := 0) h dX9_readTook_0 rfl ?_
  refine jr_aload_n (pc := 1) h dX9_readTook_1 rfl ?_
  refine gf_X9_174 (pc := 2) h dX9_readTook_2 (by assumption) (by omega) ?_
  refine gf_X9_302 (pc := 5) h dX9_readTook_5 (by assumption) (by omega) ?_
  refine jr_bipush (pc := 8) h dX9_readTook_8 bp_6 ?_
  refine iv_X9_274 (pc := 10) h hl hR dX9_readTook_10 ⟨(Nat.le_of_ble_eq_true rfl), (Nat.le_of_ble_eq_true rfl), (Nat.le_of_ble_eq_true rfl), (Nat.le_of_ble_eq_true rfl)⟩ (Nat.le_of_ble_eq_true rfl) (by assumption) (by omega) (s_X9_begins hX hbt hbb hTR hPO q7 q4 (x := gF 7) (y := 6) (by omega) (by omega)) (fun v_10 n_10 M_10 hn_10 hp => ?_)
  obtain ⟨⟨rfl, rfl⟩, g1, w1, hX, hg1, hTR, f9⟩ := hp
  have fR := fr_tr fR (fr_mo f9 (fun k q => Or.inl q))
  have hgk := gkp_t hgk hg1
  have hMF := MF_fr hMF f9 (Nat.le_refl _) (fun k h1 h2 q => by have := q.1; have := q.2; omega)
  obtain ⟨p0, ep0⟩ : ∃ z, (if gF 7 = 6 then flP 5 p else nxP bs p) = z := ⟨_, rfl⟩
  rw [ep0] at hTR
  have hc0 : (ct 4 = 6 ∧ p0 = flP 5 p) ∨ (ct 4 < 6 ∧ p0 = nxP bs p) := by
    rw [← ep0]
    by_cases q : gF 7 = 6
    · rw [if_pos q]; exact Or.inl ⟨by omega, rfl⟩
    · rw [if_neg q]; exact Or.inr ⟨by omega, rfl⟩
  replace hPO : PO p0 := by
    rcases hc0 with ⟨-, e⟩ | ⟨-, e⟩ <;> rw [e]
    · exact flP_O hPO (by omega)
    · exact nxP_O hPO
  have hok0 : Imp (OKp p0) (ct 4 < 6 ∧ p0 = nxP bs p ∧ K12 p p0) := fun q => by
    rcases hc0 with ⟨-, e⟩ | ⟨h9, e⟩
    · rw [e] at q; exact absurd q (flP_x (by omega))
    · exact ⟨h9, e, by rw [e]; exact K12_nx⟩
  have hNRc : Imp (p0.1 7 = 0) (NR p0 gF A) := fun q => NR_K hNRp (hok0 q).2.2 rfl (fun _ _ => rfl)
  have hNIc : Imp (p0.1 7 = 0) (NI p0 ct) := fun q => NI_K hNIp (hok0 q).2.2 (Int.le_refl _) (Int.le_refl _)
  obtain ⟨hnm, hOm, hBm⟩ := id hX
  have hOm : M_10 m = jdO 9 (fX9 m _ _ fl (.ref f2)) := hOm
  obtain ⟨hnf, hOf, hAf⟩ := id hMF
  
  refine jr_aload_n (pc := 13) h dX9_readTook_13 rfl ?_
  refine jr_iconst (pc := 14) h dX9_readTook_14 ?_
  refine iv_X9_292 (pc := 15) h hl hR dX9_readTook_15 ⟨(Nat.le_of_ble_eq_true rfl), (Nat.le_of_ble_eq_true rfl), (Nat.le_of_ble_eq_true rfl), (Nat.le_of_ble_eq_true rfl)⟩ (Nat.le_of_ble_eq_true rfl) (by assumption) (by omega) (s_X9_readKnown hX hbt hbb (p := p0) hTR hPO hMF hsep hNB hNRc (s := 2) (x := 0) (by omega) rfl) (fun v_15 n_15 M_15 hn_15 hp => ?_)
  obtain ⟨v1, ⟨rfl, rfl⟩, hvr1, hve1, g1, w1, hX, hg1, hTR, f9⟩ := hp
  have fR := fr_tr fR (fr_mo f9 (fun k q => Or.inl q))
  have hgk := gkp_t hgk hg1
  have hMF := MF_fr hMF f9 (Nat.le_refl _) (fun k h1 h2 q => by have := q.1; have := q.2; omega)
  obtain ⟨p1, ep1⟩ : ∃ z, (enP bs 2 p0).2 = z := ⟨_, rfl⟩
  rw [ep1] at hTR hve1
  replace hPO : PO p1 := by rw [← ep1]; exact enP_O hPO
  have hok1 : Imp (OKp p1) (OKp p0 ∧ K12 p0 p1 ∧ v1 = (enP bs 2 p0).1 ∧ (0 ≤ v1 ∧ v1 < ct 2)) := fun q => by
    have e := hve1 q
    rw [← ep1] at q ⊢
    have h9 := ok_en q
    rw [e]
    obtain ⟨h91, h92, j9, hj1, hj2, hj3⟩ := h9
    refine ⟨h91, h92, rfl, ?_⟩
    rw [hj3]
    have hz9 := (hNIc h91 j9 hj1).1 hj2
    exact hz9
  clear hve1
  have hf1 : Imp (p0.1 7 ≠ 0) (p1 = p0) := fun q => by rw [← ep1]; exact xP_f_en q
  have hNRc : Imp (p1.1 7 = 0) (NR p1 gF A) := fun q => NR_K (hNRc (hok1 q).1) (hok1 q).2.1 rfl (fun _ _ => rfl)
  have hNIc : Imp (p1.1 7 = 0) (NI p1 ct) := fun q => NI_K (hNIc (hok1 q).1) (hok1 q).2.1 (Int.le_refl _) (Int.le_refl _)
  obtain ⟨hnm, hOm, hBm⟩ := id hX
  have hOm : M_15 m = jdO 9 (fX9 m _ _ fl (.ref f2)) := hOm
  obtain ⟨hnf, hOf, hAf⟩ := id hMF
  
  have h5r := (TR_5 hTR hPO).2.2
  refine jr_istore_n (pc := 18) h [_, _, _, _] dX9_readTook_18 (by decide) rfl ?_
  refine jr_aload_n (pc := 19) h dX9_readTook_19 rfl ?_
  refine jr_iconst (pc := 20) h dX9_readTook_20 ?_
  refine jr_sipush (pc := 21) h dX9_readTook_21 sp_999 ?_
  refine iv_X9_138 (pc := 24) h hl hR dX9_readTook_24 ⟨(Nat.le_of_ble_eq_true rfl), (Nat.le_of_ble_eq_true rfl), (Nat.le_of_ble_eq_true rfl), (Nat.le_of_ble_eq_true rfl)⟩ (Nat.le_of_ble_eq_true rfl) (by assumption) (by omega) (s_X9_readWhole hX hbt hbb (p := p1) (x := 0) (y := 999) hTR hPO (by omega) (by omega)) (fun v_24 n_24 M_24 hn_24 hp => ?_)
  obtain ⟨v2, ⟨rfl, rfl⟩, hvr2, hve2, g1, w1, hX, hg1, hTR, f9⟩ := hp
  have fR := fr_tr fR (fr_mo f9 (fun k q => Or.inl q))
  have hgk := gkp_t hgk hg1
  have hMF := MF_fr hMF f9 (Nat.le_refl _) (fun k h1 h2 q => by have := q.1; have := q.2; omega)
  obtain ⟨p2, ep2⟩ : ∃ z, (ehP bs 0 999 p1).2 = z := ⟨_, rfl⟩
  rw [ep2] at hTR hve2
  replace hPO : PO p2 := by rw [← ep2]; exact ehP_O hPO
  have hok2 : Imp (OKp p2) (OKp p1 ∧ K12 p1 p2 ∧ v2 = (ehP bs 0 999 p1).1 ∧ (0 ≤ v2 ∧ v2 ≤ 999)) := fun q => by
    have e := hve2 q
    rw [← ep2] at q ⊢
    have h9 := ok_eh q
    rw [e]
    exact ⟨h9.1, h9.2.2, rfl, h9.2.1⟩
  clear hve2
  have hf2 : Imp (p1.1 7 ≠ 0) (p2 = p1) := fun q => by rw [← ep2]; exact xP_f_eh q
  have hNRc : Imp (p2.1 7 = 0) (NR p2 gF A) := fun q => NR_K (hNRc (hok2 q).1) (hok2 q).2.1 rfl (fun _ _ => rfl)
  have hNIc : Imp (p2.1 7 = 0) (NI p2 ct) := fun q => NI_K (hNIc (hok2 q).1) (hok2 q).2.1 (Int.le_refl _) (Int.le_refl _)
  obtain ⟨hnm, hOm, hBm⟩ := id hX
  have hOm : M_24 m = jdO 9 (fX9 m _ _ fl (.ref f2)) := hOm
  obtain ⟨hnf, hOf, hAf⟩ := id hMF
  
  have h5r := (TR_5 hTR hPO).2.2
  refine jr_istore_n (pc := 27) h [_, _, _, _] dX9_readTook_27 (by decide) rfl ?_
  refine jr_aload_n (pc := 28) h dX9_readTook_28 rfl ?_
  refine jr_ldcwS (pc := 29) h 45 (by decide) ⟨rfl, rfl⟩ dX9_readTook_29 ?_
  refine jr_iload_n (pc := 32) h dX9_readTook_32 rfl ?_
  refine jr_iconst (pc := 33) h dX9_readTook_33 ?_
  refine jr_icmp_le (pc := 34) h 41 dX9_readTook_34 (by decide) (by omega) (by omega) (fun c_34 => ?_) (fun c_34 => ?_)
  · first | have d_34 := bz_0.mp c_34 | have d_34 := bz_1.mp c_34 | skip
    refine jr_iconst (pc := 41) h dX9_readTook_41 ?_
    refine jr_sipush (pc := 42) h dX9_readTook_42 sp_999 ?_
    refine iv_X9_257 (pc := 45) h hl hR dX9_readTook_45 ⟨(Nat.le_of_ble_eq_true rfl), (Nat.le_of_ble_eq_true rfl), (Nat.le_of_ble_eq_true rfl), (Nat.le_of_ble_eq_true rfl)⟩ (Nat.le_of_ble_eq_true rfl) (by assumption) (by omega) (s_X9_readPart hX hbt hbb (p := p2) (k := 45) (x := 1) (y := 999) hTR hPO (by omega) (by omega) (by omega) (by omega)) (fun v_45 n_45 M_45 hn_45 hp => ?_)
    obtain ⟨v3, ⟨rfl, rfl⟩, hvr3, hve3, g1, w1, hX, hg1, hTR, f9⟩ := hp
    have fR := fr_tr fR (fr_mo f9 (fun k q => Or.inl q))
    have hgk := gkp_t hgk hg1
    have hMF := MF_fr hMF f9 (Nat.le_refl _) (fun k h1 h2 q => by have := q.1; have := q.2; omega)
    rw [lb_c (show jtxt 45 = jtxt 12 from rfl)] at hve3 hTR
    have elo := lb_lo (bs := bs) (k := 12) (lo := 1) (lo' := (max 1 (ehP bs 0 999 p1).1)) (hi := 999) (c := p2) (fun q => by have e9 := (hok2 q).2.2.1; omega)
    rw [elo.1] at hTR
    have hve3 : (lbP bs 12 (max 1 (ehP bs 0 999 p1).1) 999 p2).2.1 7 = 0 → v3 = (lbP bs 12 (max 1 (ehP bs 0 999 p1).1) 999 p2).1 := fun q => by rw [← elo.1] at q; rw [hve3 q]; exact elo.2 q
    obtain ⟨p3, ep3⟩ : ∃ z, (lbP bs 12 (max 1 (ehP bs 0 999 p1).1) 999 p2).2 = z := ⟨_, rfl⟩
    rw [ep3] at hTR hve3
    replace hPO : PO p3 := by rw [← ep3]; exact (fun h => ehP_O (ewP_O h)) hPO
    have hok3 : Imp (OKp p3) (OKp p2 ∧ K12 p2 p3 ∧ v3 = (lbP bs 12 (max 1 (ehP bs 0 999 p1).1) 999 p2).1 ∧ ((max 1 (ehP bs 0 999 p1).1) ≤ v3 ∧ v3 ≤ 999)) := fun q => by
      have e := hve3 q
      rw [← ep3] at q ⊢
      have h9 := ok_lb q
      rw [e]
      exact ⟨h9.1, h9.2.2, rfl, h9.2.1⟩
    clear hve3
    have hf3 : Imp (p2.1 7 ≠ 0) (p3 = p2) := fun q => by rw [← ep3]; exact xP_f_lb q
    have hNRc : Imp (p3.1 7 = 0) (NR p3 gF A) := fun q => NR_K (hNRc (hok3 q).1) (hok3 q).2.1 rfl (fun _ _ => rfl)
    have hNIc : Imp (p3.1 7 = 0) (NI p3 ct) := fun q => NI_K (hNIc (hok3 q).1) (hok3 q).2.1 (Int.le_refl _) (Int.le_refl _)
    obtain ⟨hnm, hOm, hBm⟩ := id hX
    have hOm : M_45 m = jdO 9 (fX9 m _ _ fl (.ref f2)) := hOm
    obtain ⟨hnf, hOf, hAf⟩ := id hMF
    
    have h5r := (TR_5 hTR hPO).2.2
    refine jr_istore_n (pc := 48) h [_, _, _, _] dX9_readTook_48 (by decide) rfl ?_
    refine jr_aload_n (pc := 49) h dX9_readTook_49 rfl ?_
    refine gf_X9_80 (pc := 50) h dX9_readTook_50 (by assumption) (by omega) ?_
    refine jr_iconst (pc := 53) h dX9_readTook_53 ?_
    refine jr_icmp_ne (pc := 54) h 58 dX9_readTook_54 (by decide) (by omega) (by omega) (fun c_54 => ?_) (fun c_54 => ?_)
    · first | have d_54 := bz_0.mp c_54 | have d_54 := bz_1.mp c_54 | skip
      have h57 := (TR_5 hTR hPO).1
      have hpe : p3.1 7 = 0 := Classical.byContradiction (fun q => by have := h57.2 q; omega)
      have hk3 := hok3 hpe
      have hk2 := hok2 hk3.1
      have hk1 := hok1 hk2.1
      have hk0 := hok0 hk1.1
      have hl0 := hk0.1
      have hr1 := hk1.2.2.2
      have hv1 := hk1.2.2.1
      have hr2 := hk2.2.2.2
      have hv2 := hk2.2.2.1
      have hr3 := hk3.2.2.2
      have hv3 := hk3.2.2.1
      have hA5 : M_45 (f2 + 5) = jdA 6 (A 5) := hAf 5 (by omega) (by omega)
      have hA6 : M_45 (f2 + 6) = jdA 6 (A 6) := hAf 6 (by omega) (by omega)
      have hA7 : M_45 (f2 + 7) = jdA 6 (A 7) := hAf 7 (by omega) (by omega)
      refine jr_aload_n (pc := 58) h dX9_readTook_58 rfl ?_
      refine gf_X9_174 (pc := 59) h dX9_readTook_59 (by assumption) (by omega) ?_
      refine gf_X9_307 (pc := 62) h dX9_readTook_62 (by assumption) (by omega) ?_
      refine jr_aload_n (pc := 65) h dX9_readTook_65 rfl ?_
      refine gf_X9_174 (pc := 66) h dX9_readTook_66 (by assumption) (by omega) ?_
      refine gf_X9_302 (pc := 69) h dX9_readTook_69 (by assumption) (by omega) ?_
      refine jr_iload_n (pc := 72) h dX9_readTook_72 rfl ?_
      refine jr_iast (pc := 73) h dX9_readTook_73 hA5 (by omega) (by omega) ?_
      refine jm_gen (fun M2 hM2 => ?_)
      have hMF := MF_A (i := 5) hMF hM2 (by omega)
      have f9 : fr (MFS f2) _ M2 := fr_up (S := MFS f2) hM2 ⟨by omega, by omega⟩
      have hX := MX_fr hX f9 (Nat.le_refl _) (fun k h1 h2 q => by have := q.1; have := q.2; omega)
      have fR := fr_tr fR (fr_mo f9 (fun k q => Or.inr q))
      obtain ⟨hnm, hOm, hBm⟩ := id hX
      have hOm : M2 m = jdO 9 (fX9 m _ _ fl (.ref f2)) := hOm
      obtain ⟨hnf, hOf, hAf⟩ := id hMF
      have hA6 : M2 (f2 + 6) = jdA 6 (A 6) := hAf 6 (by omega) (by omega)
      have hA7 : M2 (f2 + 7) = jdA 6 (A 7) := hAf 7 (by omega) (by omega)
      refine jr_aload_n (pc := 74) h dX9_readTook_74 rfl ?_
      refine gf_X9_174 (pc := 75) h dX9_readTook_75 (by assumption) (by omega) ?_
      refine gf_X9_310 (pc := 78) h dX9_readTook_78 (by assumption) (by omega) ?_
      refine jr_aload_n (pc := 81) h dX9_readTook_81 rfl ?_
      refine gf_X9_174 (pc := 82) h dX9_readTook_82 (by assumption) (by omega) ?_
      refine gf_X9_302 (pc := 85) h dX9_readTook_85 (by assumption) (by omega) ?_
      refine jr_iload_n (pc := 88) h dX9_readTook_88 rfl ?_
      refine jr_iast (pc := 89) h dX9_readTook_89 hA6 (by omega) (by omega) ?_
      refine jm_gen (fun M2 hM2 => ?_)
      have hMF := MF_A (i := 6) hMF hM2 (by omega)
      have f9 : fr (MFS f2) _ M2 := fr_up (S := MFS f2) hM2 ⟨by omega, by omega⟩
      have hX := MX_fr hX f9 (Nat.le_refl _) (fun k h1 h2 q => by have := q.1; have := q.2; omega)
      have fR := fr_tr fR (fr_mo f9 (fun k q => Or.inr q))
      obtain ⟨hnm, hOm, hBm⟩ := id hX
      have hOm : M2 m = jdO 9 (fX9 m _ _ fl (.ref f2)) := hOm
      obtain ⟨hnf, hOf, hAf⟩ := id hMF
      have hA7 : M2 (f2 + 7) = jdA 6 (A 7) := hAf 7 (by omega) (by omega)
      refine jr_aload_n (pc := 90) h dX9_readTook_90 rfl ?_
      refine gf_X9_174 (pc := 91) h dX9_readTook_91 (by assumption) (by omega) ?_
      refine gf_X9_312 (pc := 94) h dX9_readTook_94 (by assumption) (by omega) ?_
      refine jr_aload_n (pc := 97) h dX9_readTook_97 rfl ?_
      refine gf_X9_174 (pc := 98) h dX9_readTook_98 (by assumption) (by omega) ?_
      refine gf_X9_302 (pc := 101) h dX9_readTook_101 (by assumption) (by omega) ?_
      refine jr_iload_n (pc := 104) h dX9_readTook_104 rfl ?_
      refine jr_iast (pc := 105) h dX9_readTook_105 hA7 (by omega) (by omega) ?_
      refine jm_gen (fun M2 hM2 => ?_)
      have hMF := MF_A (i := 7) hMF hM2 (by omega)
      have f9 : fr (MFS f2) _ M2 := fr_up (S := MFS f2) hM2 ⟨by omega, by omega⟩
      have hX := MX_fr hX f9 (Nat.le_refl _) (fun k h1 h2 q => by have := q.1; have := q.2; omega)
      have fR := fr_tr fR (fr_mo f9 (fun k q => Or.inr q))
      obtain ⟨hnm, hOm, hBm⟩ := id hX
      have hOm : M2 m = jdO 9 (fX9 m _ _ fl (.ref f2)) := hOm
      obtain ⟨hnf, hOf, hAf⟩ := id hMF
      
      refine jr_aload_n (pc := 106) h dX9_readTook_106 rfl ?_
      refine gf_X9_174 (pc := 107) h dX9_readTook_107 (by assumption) (by omega) ?_
      refine jr_dup (pc := 110) h dX9_readTook_110 rfl ?_
      refine gf_X9_302 (pc := 111) h dX9_readTook_111 (by assumption) (by omega) ?_
      refine jr_iconst (pc := 114) h dX9_readTook_114 ?_
      refine jr_iadd (pc := 115) h dX9_readTook_115 ?_
      refine pf_X9_302 (pc := 116) h dX9_readTook_116 hOf (by omega) ?_
      refine jm_gen (fun M2 hM2 => ?_)
      rw [fX8_7] at hM2
      have hMF := MF_g hMF hM2
      have f9 : fr (MFS f2) _ M2 := fr_up (S := MFS f2) hM2 ⟨by omega, by omega⟩
      have hX := MX_fr hX f9 (Nat.le_refl _) (fun k h1 h2 q => by have := q.1; have := q.2; omega)
      have fR := fr_tr fR (fr_mo f9 (fun k q => Or.inr q))
      obtain ⟨hnm, hOm, hBm⟩ := id hX
      have hOm : M2 m = jdO 9 (fX9 m _ _ fl (.ref f2)) := hOm
      obtain ⟨hnf, hOf, hAf⟩ := id hMF
      refine jr_vret (pc := 119) h hRt dX9_readTook_119 (Nat.le_of_ble_eq_true rfl) (Nat.le_of_ble_eq_true rfl) ?_
      have hcS : 0 ≤ ct (Int.toNat 4) ∧ ct (Int.toNat 4) < 8 := by show 0 ≤ ct 4 ∧ ct 4 < 8; omega
      have hFIr := hFR.2.2.1.2.2.2
      have e_ln : lnP bs ct (nxP bs p) (opT ct td 4) 4 = (p3, (up (up (up (opT ct td 4) (c_ix ct 4 0) v1) (c_ix ct 4 1) v2) (c_ix ct 4 2) v3)) := by
        show ln_4 bs ct (nxP bs p) (opT ct td 4) = _
        unfold ln_4
        rw [hk1.2.2.1, hk2.2.2.1, hk3.2.2.1, ← ep3, ← ep2, ← ep1, hk0.2.1]
      have e_tln : tlnP bs ct td 4 p = (p3, up ct 4 (ct 4 + 1), (up (up (up (opT ct td 4) (c_ix ct 4 0) v1) (c_ix ct 4 1) v2) (c_ix ct 4 2) v3)) := by
        rw [tln_1 (by omega) (by show ¬ (6 : Int) ≤ ct 4; omega), e_ln]
        unfold tlnC
        show (p3, (if p3.1 7 = 0 then up ct 4 (ct 4 + 1) else ct), (up (up (up (opT ct td 4) (c_ix ct 4 0) v1) (c_ix ct 4 1) v2) (c_ix ct 4 2) v3)) = _
        rw [if_pos hpe]
      have t0 : c_get (up (up (up (opT ct td 4) (c_ix ct 4 0) v1) (c_ix ct 4 1) v2) (c_ix ct 4 2) v3) 4 (ct 4) 0 = v1 := (gn_ne (by omega) hcS rfl (by omega) (by omega) (by omega)).trans ((gn_ne (by omega) hcS rfl (by omega) (by omega) (by omega)).trans (gn_eq (by omega) hcS rfl (by omega)))
      have t1 : c_get (up (up (up (opT ct td 4) (c_ix ct 4 0) v1) (c_ix ct 4 1) v2) (c_ix ct 4 2) v3) 4 (ct 4) 1 = v2 := (gn_ne (by omega) hcS rfl (by omega) (by omega) (by omega)).trans (gn_eq (by omega) hcS rfl (by omega))
      have t2 : c_get (up (up (up (opT ct td 4) (c_ix ct 4 0) v1) (c_ix ct 4 1) v2) (c_ix ct 4 2) v3) 4 (ct 4) 2 = v3 := gn_eq (by omega) hcS rfl (by omega)
      rw [e_tln]
      refine ⟨⟨rfl, rfl⟩, _, _, _, _, hX, hgk, hTR, hMF, ?_, fun _ => ?_, fR⟩
      · refine RB_up (k := 7) hRB ⟨by omega, by omega⟩ (by show gF 7 < 6; omega) (fun i hi => by rw [up_ne (by omega), up_ne (by omega), up_ne (by omega)]; exact hRB.2.2.2.2 i hi) (fun j hj => by rw [up_ne (by omega), up_ne (by omega), up_ne (by omega)])
      · show FR p3 (up ct 4 (ct 4 + 1)) (up (up (up (opT ct td 4) (c_ix ct 4 0) v1) (c_ix ct 4 1) v2) (c_ix ct 4 2) v3) _ _
        refine FR_upd (s := 4) hFR ⟨by omega, by omega⟩ (by show ct 4 < 6; omega) (OUT_up (OUT_up (OUT_up OUT_op (by omega) hcS.1 (by omega)) (by omega) hcS.1 (by omega)) (by omega) hcS.1 (by omega)) (rn_up (rn_up (rn_up (rn_op hFIr) (by omega)) (by omega)) (by omega)) ?_ (fun q => absurd q (by decide)) (fun j h1 h2 h3 => by
          rw [up_ne (fun e => h3 (by rw [e]; rfl)), up_ne (fun e => h3 (by rw [e]; rfl)), up_ne (fun e => h3 (by rw [e]; rfl))]) ⟨fun q => absurd q (by decide), fun q => absurd q (by decide), fun _ => ⟨by rw [t0]; show up (A 5) (gF 7).toNat v1 = up (A 5) (ct 4).toNat v1; rw [k7], by rw [t1]; show up (A 6) (gF 7).toNat v2 = up (A 6) (ct 4).toNat v2; rw [k7], by rw [t2]; show up (A 7) (gF 7).toNat v3 = up (A 7) (ct 4).toNat v3; rw [k7]⟩, fun q => absurd q (by decide), fun q => absurd q (by decide), fun q => absurd q (by decide), fun q => absurd q (by decide), fun q => absurd q (by decide), fun q => absurd q (by decide), fun q => absurd q (by decide), fun q => absurd q (by decide)⟩ (by show up gF 7 (gF 7 + 1) 7 = gF 7 + 1; rw [up_eq]) (fun j hj hne => by rw [up_ne (by omega)]) (NR_K (hNRc hpe) K12_r (up_ne (by omega)) (fun j hj => by rw [up_ne (by omega), up_ne (by omega), up_ne (by omega)])) (NI_K (hNIc hpe) K12_r (by first | (rw [up_ne (by omega)]; omega) | (rw [up_eq]; omega)) (by first | (rw [up_ne (by omega)]; omega) | (rw [up_eq]; omega))) ?_
        · refine ⟨fun q => ?_, fun q => ?_, fun q => ?_, fun q => ?_, fun q => ?_, fun q => ?_, fun q => ?_, fun q => ?_, fun q => ?_, fun q => ?_, fun q => ?_, fun q => ?_, fun q => ?_⟩ <;> first | (exfalso; omega) | (rw [t0, t1, t2]; omega)
        · rw [if_neg (by omega)]
          have e0 := hk0.2.2.2
          have x1 := hk1.2.1.2
          have x2 := hk2.2.1.2
          have x3 := hk3.2.1.2
          omega
    · first | have d_54 := bz_0.mp c_54 | have d_54 := bz_1.mp c_54 | skip
      refine jr_vret (pc := 57) h hRt dX9_readTook_57 (Nat.le_of_ble_eq_true rfl) (Nat.le_of_ble_eq_true rfl) ?_
      have h57 := (TR_5 hTR hPO).1
      have hpf : p3.1 7 ≠ 0 := h57.1 (by omega)
      have e_end : (tlnP bs ct td 4 p).1 = p3 := by
        rcases hc0 with ⟨hlm, e0⟩ | ⟨hlm, e0⟩
        · have hb0 : p0.1 7 ≠ 0 := by rw [e0]; exact flP_x (by omega)
          have e1 := hf1 hb0
          have hb1 : p1.1 7 ≠ 0 := by rw [e1]; exact hb0
          have e2 := hf2 hb1
          have hb2 : p2.1 7 ≠ 0 := by rw [e2]; exact hb1
          have e3 := hf3 hb2
          have hb3 : p3.1 7 ≠ 0 := by rw [e3]; exact hb2
          rw [tln_0 (by omega) (by show (6 : Int) ≤ ct 4; omega)]
          show flP 5 p = p3
          rw [e3, e2, e1, e0]
        · rw [tln_1 (by omega) (by show ¬ (6 : Int) ≤ ct 4; omega)]
          show (ln_4 bs ct (nxP bs p) (opT ct td 4)).1 = p3
          rw [← ep3, ← ep2, ← ep1, e0]
          unfold ln_4
          rfl
      exact ⟨⟨rfl, rfl⟩, _, _, _, _, hX, hgk, (by rw [e_end]; exact hTR), hMF, hRB, fun q => absurd q (by rw [e_end]; exact hpf), fR⟩
  · first | have d_34 := bz_0.mp c_34 | have d_34 := bz_1.mp c_34 | skip
    refine jr_iload_n (pc := 37) h dX9_readTook_37 rfl ?_
    refine jr_goto (pc := 38) h 42 dX9_readTook_38 (by decide) ?_
    refine jr_sipush (pc := 42) h dX9_readTook_42 sp_999 ?_
    refine iv_X9_257 (pc := 45) h hl hR dX9_readTook_45 ⟨(Nat.le_of_ble_eq_true rfl), (Nat.le_of_ble_eq_true rfl), (Nat.le_of_ble_eq_true rfl), (Nat.le_of_ble_eq_true rfl)⟩ (Nat.le_of_ble_eq_true rfl) (by assumption) (by omega) (s_X9_readPart hX hbt hbb (p := p2) (k := 45) (x := v2) (y := 999) hTR hPO (by omega) (by omega) (by omega) (by omega)) (fun v_45 n_45 M_45 hn_45 hp => ?_)
    obtain ⟨v3, ⟨rfl, rfl⟩, hvr3, hve3, g1, w1, hX, hg1, hTR, f9⟩ := hp
    have fR := fr_tr fR (fr_mo f9 (fun k q => Or.inl q))
    have hgk := gkp_t hgk hg1
    have hMF := MF_fr hMF f9 (Nat.le_refl _) (fun k h1 h2 q => by have := q.1; have := q.2; omega)
    rw [lb_c (show jtxt 45 = jtxt 12 from rfl)] at hve3 hTR
    have elo := lb_lo (bs := bs) (k := 12) (lo := v2) (lo' := (max 1 (ehP bs 0 999 p1).1)) (hi := 999) (c := p2) (fun q => by have e9 := (hok2 q).2.2.1; omega)
    rw [elo.1] at hTR
    have hve3 : (lbP bs 12 (max 1 (ehP bs 0 999 p1).1) 999 p2).2.1 7 = 0 → v3 = (lbP bs 12 (max 1 (ehP bs 0 999 p1).1) 999 p2).1 := fun q => by rw [← elo.1] at q; rw [hve3 q]; exact elo.2 q
    obtain ⟨p3, ep3⟩ : ∃ z, (lbP bs 12 (max 1 (ehP bs 0 999 p1).1) 999 p2).2 = z := ⟨_, rfl⟩
    rw [ep3] at hTR hve3
    replace hPO : PO p3 := by rw [← ep3]; exact (fun h => ehP_O (ewP_O h)) hPO
    have hok3 : Imp (OKp p3) (OKp p2 ∧ K12 p2 p3 ∧ v3 = (lbP bs 12 (max 1 (ehP bs 0 999 p1).1) 999 p2).1 ∧ ((max 1 (ehP bs 0 999 p1).1) ≤ v3 ∧ v3 ≤ 999)) := fun q => by
      have e := hve3 q
      rw [← ep3] at q ⊢
      have h9 := ok_lb q
      rw [e]
      exact ⟨h9.1, h9.2.2, rfl, h9.2.1⟩
    clear hve3
    have hf3 : Imp (p2.1 7 ≠ 0) (p3 = p2) := fun q => by rw [← ep3]; exact xP_f_lb q
    have hNRc : Imp (p3.1 7 = 0) (NR p3 gF A) := fun q => NR_K (hNRc (hok3 q).1) (hok3 q).2.1 rfl (fun _ _ => rfl)
    have hNIc : Imp (p3.1 7 = 0) (NI p3 ct) := fun q => NI_K (hNIc (hok3 q).1) (hok3 q).2.1 (Int.le_refl _) (Int.le_refl _)
    obtain ⟨hnm, hOm, hBm⟩ := id hX
    have hOm : M_45 m = jdO 9 (fX9 m _ _ fl (.ref f2)) := hOm
    obtain ⟨hnf, hOf, hAf⟩ := id hMF
    
    have h5r := (TR_5 hTR hPO).2.2
    refine jr_istore_n (pc := 48) h [_, _, _, _] dX9_readTook_48 (by decide) rfl ?_
    refine jr_aload_n (pc := 49) h dX9_readTook_49 rfl ?_
    refine gf_X9_80 (pc := 50) h dX9_readTook_50 (by assumption) (by omega) ?_
    refine jr_iconst (pc := 53) h dX9_readTook_53 ?_
    refine jr_icmp_ne (pc := 54) h 58 dX9_readTook_54 (by decide) (by omega) (by omega) (fun c_54 => ?_) (fun c_54 => ?_)
    · first | have d_54 := bz_0.mp c_54 | have d_54 := bz_1.mp c_54 | skip
      have h57 := (TR_5 hTR hPO).1
      have hpe : p3.1 7 = 0 := Classical.byContradiction (fun q => by have := h57.2 q; omega)
      have hk3 := hok3 hpe
      have hk2 := hok2 hk3.1
      have hk1 := hok1 hk2.1
      have hk0 := hok0 hk1.1
      have hl0 := hk0.1
      have hr1 := hk1.2.2.2
      have hv1 := hk1.2.2.1
      have hr2 := hk2.2.2.2
      have hv2 := hk2.2.2.1
      have hr3 := hk3.2.2.2
      have hv3 := hk3.2.2.1
      have hA5 : M_45 (f2 + 5) = jdA 6 (A 5) := hAf 5 (by omega) (by omega)
      have hA6 : M_45 (f2 + 6) = jdA 6 (A 6) := hAf 6 (by omega) (by omega)
      have hA7 : M_45 (f2 + 7) = jdA 6 (A 7) := hAf 7 (by omega) (by omega)
      refine jr_aload_n (pc := 58) h dX9_readTook_58 rfl ?_
      refine gf_X9_174 (pc := 59) h dX9_readTook_59 (by assumption) (by omega) ?_
      refine gf_X9_307 (pc := 62) h dX9_readTook_62 (by assumption) (by omega) ?_
      refine jr_aload_n (pc := 65) h dX9_readTook_65 rfl ?_
      refine gf_X9_174 (pc := 66) h dX9_readTook_66 (by assumption) (by omega) ?_
      refine gf_X9_302 (pc := 69) h dX9_readTook_69 (by assumption) (by omega) ?_
      refine jr_iload_n (pc := 72) h dX9_readTook_72 rfl ?_
      refine jr_iast (pc := 73) h dX9_readTook_73 hA5 (by omega) (by omega) ?_
      refine jm_gen (fun M2 hM2 => ?_)
      have hMF := MF_A (i := 5) hMF hM2 (by omega)
      have f9 : fr (MFS f2) _ M2 := fr_up (S := MFS f2) hM2 ⟨by omega, by omega⟩
      have hX := MX_fr hX f9 (Nat.le_refl _) (fun k h1 h2 q => by have := q.1; have := q.2; omega)
      have fR := fr_tr fR (fr_mo f9 (fun k q => Or.inr q))
      obtain ⟨hnm, hOm, hBm⟩ := id hX
      have hOm : M2 m = jdO 9 (fX9 m _ _ fl (.ref f2)) := hOm
      obtain ⟨hnf, hOf, hAf⟩ := id hMF
      have hA6 : M2 (f2 + 6) = jdA 6 (A 6) := hAf 6 (by omega) (by omega)
      have hA7 : M2 (f2 + 7) = jdA 6 (A 7) := hAf 7 (by omega) (by omega)
      refine jr_aload_n (pc := 74) h dX9_readTook_74 rfl ?_
      refine gf_X9_174 (pc := 75) h dX9_readTook_75 (by assumption) (by omega) ?_
      refine gf_X9_310 (pc := 78) h dX9_readTook_78 (by assumption) (by omega) ?_
      refine jr_aload_n (pc := 81) h dX9_readTook_81 rfl ?_
      refine gf_X9_174 (pc := 82) h dX9_readTook_82 (by assumption) (by omega) ?_
      refine gf_X9_302 (pc := 85) h dX9_readTook_85 (by assumption) (by omega) ?_
      refine jr_iload_n (pc := 88) h dX9_readTook_88 rfl ?_
      refine jr_iast (pc := 89) h dX9_readTook_89 hA6 (by omega) (by omega) ?_
      refine jm_gen (fun M2 hM2 => ?_)
      have hMF := MF_A (i := 6) hMF hM2 (by omega)
      have f9 : fr (MFS f2) _ M2 := fr_up (S := MFS f2) hM2 ⟨by omega, by omega⟩
      have hX := MX_fr hX f9 (Nat.le_refl _) (fun k h1 h2 q => by have := q.1; have := q.2; omega)
      have fR := fr_tr fR (fr_mo f9 (fun k q => Or.inr q))
      obtain ⟨hnm, hOm, hBm⟩ := id hX
      have hOm : M2 m = jdO 9 (fX9 m _ _ fl (.ref f2)) := hOm
      obtain ⟨hnf, hOf, hAf⟩ := id hMF
      have hA7 : M2 (f2 + 7) = jdA 6 (A 7) := hAf 7 (by omega) (by omega)
      refine jr_aload_n (pc := 90) h dX9_readTook_90 rfl ?_
      refine gf_X9_174 (pc := 91) h dX9_readTook_91 (by assumption) (by omega) ?_
      refine gf_X9_312 (pc := 94) h dX9_readTook_94 (by assumption) (by omega) ?_
      refine jr_aload_n (pc := 97) h dX9_readTook_97 rfl ?_
      refine gf_X9_174 (pc := 98) h dX9_readTook_98 (by assumption) (by omega) ?_
      refine gf_X9_302 (pc := 101) h dX9_readTook_101 (by assumption) (by omega) ?_
      refine jr_iload_n (pc := 104) h dX9_readTook_104 rfl ?_
      refine jr_iast (pc := 105) h dX9_readTook_105 hA7 (by omega) (by omega) ?_
      refine jm_gen (fun M2 hM2 => ?_)
      have hMF := MF_A (i := 7) hMF hM2 (by omega)
      have f9 : fr (MFS f2) _ M2 := fr_up (S := MFS f2) hM2 ⟨by omega, by omega⟩
      have hX := MX_fr hX f9 (Nat.le_refl _) (fun k h1 h2 q => by have := q.1; have := q.2; omega)
      have fR := fr_tr fR (fr_mo f9 (fun k q => Or.inr q))
      obtain ⟨hnm, hOm, hBm⟩ := id hX
      have hOm : M2 m = jdO 9 (fX9 m _ _ fl (.ref f2)) := hOm
      obtain ⟨hnf, hOf, hAf⟩ := id hMF
      
      refine jr_aload_n (pc := 106) h dX9_readTook_106 rfl ?_
      refine gf_X9_174 (pc := 107) h dX9_readTook_107 (by assumption) (by omega) ?_
      refine jr_dup (pc := 110) h dX9_readTook_110 rfl ?_
      refine gf_X9_302 (pc := 111) h dX9_readTook_111 (by assumption) (by omega) ?_
      refine jr_iconst (pc := 114) h dX9_readTook_114 ?_
      refine jr_iadd (pc := 115) h dX9_readTook_115 ?_
      refine pf_X9_302 (pc := 116) h dX9_readTook_116 hOf (by omega) ?_
      refine jm_gen (fun M2 hM2 => ?_)
      rw [fX8_7] at hM2
      have hMF := MF_g hMF hM2
      have f9 : fr (MFS f2) _ M2 := fr_up (S := MFS f2) hM2 ⟨by omega, by omega⟩
      have hX := MX_fr hX f9 (Nat.le_refl _) (fun k h1 h2 q => by have := q.1; have := q.2; omega)
      have fR := fr_tr fR (fr_mo f9 (fun k q => Or.inr q))
      obtain ⟨hnm, hOm, hBm⟩ := id hX
      have hOm : M2 m = jdO 9 (fX9 m _ _ fl (.ref f2)) := hOm
      obtain ⟨hnf, hOf, hAf⟩ := id hMF
      refine jr_vret (pc := 119) h hRt dX9_readTook_119 (Nat.le_of_ble_eq_true rfl) (Nat.le_of_ble_eq_true rfl) ?_
      have hcS : 0 ≤ ct (Int.toNat 4) ∧ ct (Int.toNat 4) < 8 := by show 0 ≤ ct 4 ∧ ct 4 < 8; omega
      have hFIr := hFR.2.2.1.2.2.2
      have e_ln : lnP bs ct (nxP bs p) (opT ct td 4) 4 = (p3, (up (up (up (opT ct td 4) (c_ix ct 4 0) v1) (c_ix ct 4 1) v2) (c_ix ct 4 2) v3)) := by
        show ln_4 bs ct (nxP bs p) (opT ct td 4) = _
        unfold ln_4
        rw [hk1.2.2.1, hk2.2.2.1, hk3.2.2.1, ← ep3, ← ep2, ← ep1, hk0.2.1]
      have e_tln : tlnP bs ct td 4 p = (p3, up ct 4 (ct 4 + 1), (up (up (up (opT ct td 4) (c_ix ct 4 0) v1) (c_ix ct 4 1) v2) (c_ix ct 4 2) v3)) := by
        rw [tln_1 (by omega) (by show ¬ (6 : Int) ≤ ct 4; omega), e_ln]
        unfold tlnC
        show (p3, (if p3.1 7 = 0 then up ct 4 (ct 4 + 1) else ct), (up (up (up (opT ct td 4) (c_ix ct 4 0) v1) (c_ix ct 4 1) v2) (c_ix ct 4 2) v3)) = _
        rw [if_pos hpe]
      have t0 : c_get (up (up (up (opT ct td 4) (c_ix ct 4 0) v1) (c_ix ct 4 1) v2) (c_ix ct 4 2) v3) 4 (ct 4) 0 = v1 := (gn_ne (by omega) hcS rfl (by omega) (by omega) (by omega)).trans ((gn_ne (by omega) hcS rfl (by omega) (by omega) (by omega)).trans (gn_eq (by omega) hcS rfl (by omega)))
      have t1 : c_get (up (up (up (opT ct td 4) (c_ix ct 4 0) v1) (c_ix ct 4 1) v2) (c_ix ct 4 2) v3) 4 (ct 4) 1 = v2 := (gn_ne (by omega) hcS rfl (by omega) (by omega) (by omega)).trans (gn_eq (by omega) hcS rfl (by omega))
      have t2 : c_get (up (up (up (opT ct td 4) (c_ix ct 4 0) v1) (c_ix ct 4 1) v2) (c_ix ct 4 2) v3) 4 (ct 4) 2 = v3 := gn_eq (by omega) hcS rfl (by omega)
      rw [e_tln]
      refine ⟨⟨rfl, rfl⟩, _, _, _, _, hX, hgk, hTR, hMF, ?_, fun _ => ?_, fR⟩
      · refine RB_up (k := 7) hRB ⟨by omega, by omega⟩ (by show gF 7 < 6; omega) (fun i hi => by rw [up_ne (by omega), up_ne (by omega), up_ne (by omega)]; exact hRB.2.2.2.2 i hi) (fun j hj => by rw [up_ne (by omega), up_ne (by omega), up_ne (by omega)])
      · show FR p3 (up ct 4 (ct 4 + 1)) (up (up (up (opT ct td 4) (c_ix ct 4 0) v1) (c_ix ct 4 1) v2) (c_ix ct 4 2) v3) _ _
        refine FR_upd (s := 4) hFR ⟨by omega, by omega⟩ (by show ct 4 < 6; omega) (OUT_up (OUT_up (OUT_up OUT_op (by omega) hcS.1 (by omega)) (by omega) hcS.1 (by omega)) (by omega) hcS.1 (by omega)) (rn_up (rn_up (rn_up (rn_op hFIr) (by omega)) (by omega)) (by omega)) ?_ (fun q => absurd q (by decide)) (fun j h1 h2 h3 => by
          rw [up_ne (fun e => h3 (by rw [e]; rfl)), up_ne (fun e => h3 (by rw [e]; rfl)), up_ne (fun e => h3 (by rw [e]; rfl))]) ⟨fun q => absurd q (by decide), fun q => absurd q (by decide), fun _ => ⟨by rw [t0]; show up (A 5) (gF 7).toNat v1 = up (A 5) (ct 4).toNat v1; rw [k7], by rw [t1]; show up (A 6) (gF 7).toNat v2 = up (A 6) (ct 4).toNat v2; rw [k7], by rw [t2]; show up (A 7) (gF 7).toNat v3 = up (A 7) (ct 4).toNat v3; rw [k7]⟩, fun q => absurd q (by decide), fun q => absurd q (by decide), fun q => absurd q (by decide), fun q => absurd q (by decide), fun q => absurd q (by decide), fun q => absurd q (by decide), fun q => absurd q (by decide), fun q => absurd q (by decide)⟩ (by show up gF 7 (gF 7 + 1) 7 = gF 7 + 1; rw [up_eq]) (fun j hj hne => by rw [up_ne (by omega)]) (NR_K (hNRc hpe) K12_r (up_ne (by omega)) (fun j hj => by rw [up_ne (by omega), up_ne (by omega), up_ne (by omega)])) (NI_K (hNIc hpe) K12_r (by first | (rw [up_ne (by omega)]; omega) | (rw [up_eq]; omega)) (by first | (rw [up_ne (by omega)]; omega) | (rw [up_eq]; omega))) ?_
        · refine ⟨fun q => ?_, fun q => ?_, fun q => ?_, fun q => ?_, fun q => ?_, fun q => ?_, fun q => ?_, fun q => ?_, fun q => ?_, fun q => ?_, fun q => ?_, fun q => ?_, fun q => ?_⟩ <;> first | (exfalso; omega) | (rw [t0, t1, t2]; omega)
        · rw [if_neg (by omega)]
          have e0 := hk0.2.2.2
          have x1 := hk1.2.1.2
          have x2 := hk2.2.1.2
          have x3 := hk3.2.1.2
          omega
    · first | have d_54 := bz_0.mp c_54 | have d_54 := bz_1.mp c_54 | skip
      refine jr_vret (pc := 57) h hRt dX9_readTook_57 (Nat.le_of_ble_eq_true rfl) (Nat.le_of_ble_eq_true rfl) ?_
      have h57 := (TR_5 hTR hPO).1
      have hpf : p3.1 7 ≠ 0 := h57.1 (by omega)
      have e_end : (tlnP bs ct td 4 p).1 = p3 := by
        rcases hc0 with ⟨hlm, e0⟩ | ⟨hlm, e0⟩
        · have hb0 : p0.1 7 ≠ 0 := by rw [e0]; exact flP_x (by omega)
          have e1 := hf1 hb0
          have hb1 : p1.1 7 ≠ 0 := by rw [e1]; exact hb0
          have e2 := hf2 hb1
          have hb2 : p2.1 7 ≠ 0 := by rw [e2]; exact hb1
          have e3 := hf3 hb2
          have hb3 : p3.1 7 ≠ 0 := by rw [e3]; exact hb2
          rw [tln_0 (by omega) (by show (6 : Int) ≤ ct 4; omega)]
          show flP 5 p = p3
          rw [e3, e2, e1, e0]
        · rw [tln_1 (by omega) (by show ¬ (6 : Int) ≤ ct 4; omega)]
          show (ln_4 bs ct (nxP bs p) (opT ct td 4)).1 = p3
          rw [← ep3, ← ep2, ← ep1, e0]
          unfold ln_4
          rfl
      exact ⟨⟨rfl, rfl⟩, _, _, _, _, hX, hgk, (by rw [e_end]; exact hTR), hMF, hRB, fun q => absurd q (by rw [e_end]; exact hpf), fR⟩
