/-! 95: the reference: named meals -/
theorem ewB_c {k k' : Nat} (h : jtxt k = jtxt k') {bs : Nat → Int} {p : TS} : ewB bs k p = ewB bs k' p := by
  unfold ewB
  rw [wi_c h]
theorem ewB_O {bs : Nat → Int} {k : Nat} {p : TS} (h : PO p) : PO (ewB bs k p) := by
  unfold ewB
  split
  · exact nxP_O h
  · exact h
theorem xP_f_eb {bs : Nat → Int} {k : Nat} {p : TS} (h : p.1 7 ≠ 0) : ewB bs k p = p := by
  unfold ewB
  rw [if_neg (fun q => h q.1)]
theorem ok_eb {bs : Nat → Int} {k : Nat} {p : TS} (h : (ewB bs k p).1 7 = 0) : p.1 7 = 0 ∧ K12 p (ewB bs k p) := by
  by_cases q : p.1 7 = 0
  · refine ⟨q, ?_⟩
    unfold ewB
    split
    · exact K12_nx
    · exact K12_r
  · rw [xP_f_eb q] at h
    exact absurd h q
set_option maxHeartbeats 1000000 in
set_option maxRecDepth 20000 in
theorem s_X9_readNamed {l : Launch} {n : Nat} {M : jdM} {m f2 : Nat} {g : Nat → Int} {w : Int} {fl : Value} {B : Nat → Nat → Int} (hX : MX M n m g w fl (.ref f2) B) {bs : Nat → Int} (hbt : ∀ j, j < 900 → B 1 j = bs j) (hbb : ∀ j, -128 ≤ bs j ∧ bs j ≤ 127) {p : TS} (hTR : TR bs p g w) (hPO : PO p) {gF : Nat → Int} {A : Nat → Nat → Int} (hMF : MF M n f2 gF A) (hsep : f2 + 30 < m ∨ m + 12 < f2) (hRB : RB gF A) {ct td : Nat → Int} (hFR : FR p ct td gF A) (q7 : p.1 7 = 0) (q4 : p.1 4 = 1) : Ct l yX9_readNamed cX9_readNamed 4 none rX9_readNamed [.ref m] n M (fun vv n' M' => (vv = none ∧ n = n') ∧ ∃ g' w' gF' A', MX M' n m g' w' fl (.ref f2) B ∧ gkp g g' ∧ TR bs (tlnP bs ct td 8 p).1 g' w' ∧ MF M' n f2 gF' A' ∧ RB gF' A' ∧ ((tlnP bs ct td 8 p).1.1 7 = 0 → FR (tlnP bs ct td 8 p).1 (tlnP bs ct td 8 p).2.1 (tlnP bs ct td 8 p).2.2 gF' A') ∧ fr (RFS m f2) M M') := by
  refine Ct_of [some (.ref m), none, none, none] (by decide) (Nat.le_of_ble_eq_true rfl) rfl (fun κ hl h hR hRt hmn hn0 => ?_)
  have h : Ok κ RX9 cX9_readNamed 4 none := h
  obtain ⟨hnm, hOm, hBm⟩ := id hX
  have hOm : M m = jdO 9 (fX9 m _ _ fl (.ref f2)) := hOm
  obtain ⟨hnf, hOf, hAf⟩ := id hMF
  have fR : fr (RFS m f2) M M := fr_rf
  have hgk : gkp g g := gkp_r
  have hNB := hRB.1
  obtain ⟨hcb, h0b, h3b, h8b⟩ := hRB.2
  have hNRp := hFR.2.2.2.1
  have hNIp := hFR.2.2.2.2.1
  have hcnt := hFR.2.2.2.2.2.2
  obtain ⟨k5, k6, k7, k8, k9, k10, k11, k12, k13, k14, k15⟩ := hFR.2.1
  have hNBc := hNB.1
  refine jr_aload_n (pc := 0) h dX9_readNamed_0 rfl ?_
  refine jr_aload_n (pc := 1) h dX9_readNamed_1 rfl ?_
  refine gf_X9_174 (pc := 2) h dX9_readNamed_2 (by assumption) (by omega) ?_
  refine gf_X9_365 (pc := 5) h dX9_readNamed_5 (by assumption) (by omega) ?_
  refine jr_bipush (pc := 8) h dX9_readNamed_8 bp_6 ?_
  refine iv_X9_274 (pc := 10) h hl hR dX9_readNamed_10 ⟨(Nat.le_of_ble_eq_true rfl), (Nat.le_of_ble_eq_true rfl), (Nat.le_of_ble_eq_true rfl), (Nat.le_of_ble_eq_true rfl)⟩ (Nat.le_of_ble_eq_true rfl) (by assumption) (by omega) (s_X9_begins hX hbt hbb hTR hPO q7 q4 (x := gF 11) (y := 6) (by omega) (by omega)) (fun v_10 n_10 M_10 hn_10 hp => ?_)
  obtain ⟨⟨rfl, rfl⟩, g1, w1, hX, hg1, hTR, f9⟩ := hp
  have fR := fr_tr fR (fr_mo f9 (fun k q => Or.inl q))
  have hgk := gkp_t hgk hg1
  have hMF := MF_fr hMF f9 (Nat.le_refl _) (fun k h1 h2 q => by have := q.1; have := q.2; omega)
  obtain ⟨p0, ep0⟩ : ∃ z, (if gF 11 = 6 then flP 5 p else nxP bs p) = z := ⟨_, rfl⟩
  rw [ep0] at hTR
  have hc0 : (ct 8 = 6 ∧ p0 = flP 5 p) ∨ (ct 8 < 6 ∧ p0 = nxP bs p) := by
    rw [← ep0]
    by_cases q : gF 11 = 6
    · rw [if_pos q]; exact Or.inl ⟨by omega, rfl⟩
    · rw [if_neg q]; exact Or.inr ⟨by omega, rfl⟩
  replace hPO : PO p0 := by
    rcases hc0 with ⟨-, e⟩ | ⟨-, e⟩ <;> rw [e]
    · exact flP_O hPO (by omega)
    · exact nxP_O hPO
  have hok0 : Imp (OKp p0) (ct 8 < 6 ∧ p0 = nxP bs p ∧ K12 p p0) := fun q => by
    rcases hc0 with ⟨-, e⟩ | ⟨h9, e⟩
    · rw [e] at q; exact absurd q (flP_x (by omega))
    · exact ⟨h9, e, by rw [e]; exact K12_nx⟩
  have hNRc : Imp (p0.1 7 = 0) (NR p0 gF A) := fun q => NR_K hNRp (hok0 q).2.2 rfl (fun _ _ => rfl)
  have hNIc : Imp (p0.1 7 = 0) (NI p0 ct) := fun q => NI_K hNIp (hok0 q).2.2 (Int.le_refl _) (Int.le_refl _)
  obtain ⟨hnm, hOm, hBm⟩ := id hX
  have hOm : M_10 m = jdO 9 (fX9 m _ _ fl (.ref f2)) := hOm
  obtain ⟨hnf, hOf, hAf⟩ := id hMF
  
  refine jr_aload_n (pc := 13) h dX9_readNamed_13 rfl ?_
  refine jr_iconst (pc := 14) h dX9_readNamed_14 ?_
  refine jr_aload_n (pc := 15) h dX9_readNamed_15 rfl ?_
  refine gf_X9_174 (pc := 16) h dX9_readNamed_16 (by assumption) (by omega) ?_
  refine gf_X9_365 (pc := 19) h dX9_readNamed_19 (by assumption) (by omega) ?_
  refine iv_X9_278 (pc := 22) h hl hR dX9_readNamed_22 ⟨(Nat.le_of_ble_eq_true rfl), (Nat.le_of_ble_eq_true rfl), (Nat.le_of_ble_eq_true rfl), (Nat.le_of_ble_eq_true rfl)⟩ (Nat.le_of_ble_eq_true rfl) (by assumption) (by omega) (s_X9_readFresh hX hbt hbb (p := p0) hTR hPO hMF hsep hNB hNRc (s := 8) (x := 2) (y := gF 11) (by omega) rfl (by omega) (by omega) (fun q => by have := hok0 q; have h12 := this.2.2.2; omega)) (fun v_22 n_22 M_22 hn_22 hp => ?_)
  obtain ⟨⟨rfl, rfl⟩, g1, w1, gF1, A1, hX, hg1, hTR, hMF, hNB, hNRc, hgo, hAo, f9⟩ := hp
  have fR := fr_tr fR f9
  have hgk := gkp_t hgk hg1
  rw [k11] at hTR hNRc
  obtain ⟨p1, ep1⟩ : ∃ z, nnP bs 8 (ct 8) p0 = z := ⟨_, rfl⟩
  rw [ep1] at hTR hNRc
  replace hPO : PO p1 := by rw [← ep1]; exact nnP_O hPO (by omega) (by omega)
  replace hNRc : Imp (p1.1 7 = 0) (NR p1 gF1 A1) := hNRc
  have hNIc : Imp (p1.1 7 = 0) (NI p1 (up ct 8 (ct 8 + 1))) := fun q => by
    rw [← ep1] at q ⊢
    have h9 := ok_nn q
    rw [h9.2.2]
    exact NI_nm (hNIc h9.1) (fun q => absurd q (by decide)) (fun q => absurd q (by decide)) (by rw [up_ne (by omega)]; omega) (by rw [up_ne (by omega)]; omega)
  have hok1 : Imp (OKp p1) (OKp p0 ∧ p0.1 12 < 16 ∧ p1 = nxP bs (nmP 8 (ct 8) p0)) := fun q => by
    rw [← ep1] at q ⊢
    exact ok_nn q
  have hf1 : Imp (p0.1 7 ≠ 0) (p1 = p0) := fun q => by rw [← ep1]; exact xP_f_nn q
  have hRB1 : RB gF1 A1 := ⟨hNB, by rw [hgo 5 (by omega), hgo 6 (by omega), hgo 7 (by omega), hgo 8 (by omega), hgo 9 (by omega), hgo 10 (by omega), hgo 11 (by omega), hgo 12 (by omega), hgo 13 (by omega), hgo 14 (by omega), hgo 15 (by omega)]; exact hRB.2.1, by rw [hgo 0 (by omega)]; exact hRB.2.2.1, by rw [hgo 3 (by omega)]; exact hRB.2.2.2.1, by rw [hAo 8 (by omega)]; exact hRB.2.2.2.2⟩
  obtain ⟨hnm, hOm, hBm⟩ := id hX
  have hOm : M_22 m = jdO 9 (fX9 m _ _ fl (.ref f2)) := hOm
  obtain ⟨hnf, hOf, hAf⟩ := id hMF
  
  refine jr_aload_n (pc := 25) h dX9_readNamed_25 rfl ?_
  refine jr_ldcwS (pc := 26) h 54 (by decide) ⟨rfl, rfl⟩ dX9_readNamed_26 ?_
  refine jr_iconst (pc := 29) h dX9_readNamed_29 ?_
  refine jr_bipush (pc := 30) h dX9_readNamed_30 bp_40 ?_
  refine iv_X9_257 (pc := 32) h hl hR dX9_readNamed_32 ⟨(Nat.le_of_ble_eq_true rfl), (Nat.le_of_ble_eq_true rfl), (Nat.le_of_ble_eq_true rfl), (Nat.le_of_ble_eq_true rfl)⟩ (Nat.le_of_ble_eq_true rfl) (by assumption) (by omega) (s_X9_readPart hX hbt hbb (p := p1) (k := 54) (x := 1) (y := 40) hTR hPO (by omega) (by omega) (by omega) (by omega)) (fun v_32 n_32 M_32 hn_32 hp => ?_)
  obtain ⟨v2, ⟨rfl, rfl⟩, hvr2, hve2, g1, w1, hX, hg1, hTR, f9⟩ := hp
  have fR := fr_tr fR (fr_mo f9 (fun k q => Or.inl q))
  have hgk := gkp_t hgk hg1
  have hMF := MF_fr hMF f9 (Nat.le_refl _) (fun k h1 h2 q => by have := q.1; have := q.2; omega)
  rw [lb_c (show jtxt 54 = jtxt 7 from rfl)] at hve2 hTR
  obtain ⟨p2, ep2⟩ : ∃ z, (lbP bs 7 1 40 p1).2 = z := ⟨_, rfl⟩
  rw [ep2] at hTR hve2
  replace hPO : PO p2 := by rw [← ep2]; exact (fun h => ehP_O (ewP_O h)) hPO
  have hok2 : Imp (OKp p2) (OKp p1 ∧ K12 p1 p2 ∧ v2 = (lbP bs 7 1 40 p1).1 ∧ (1 ≤ v2 ∧ v2 ≤ 40)) := fun q => by
    have e := hve2 q
    rw [← ep2] at q ⊢
    have h9 := ok_lb q
    rw [e]
    exact ⟨h9.1, h9.2.2, rfl, h9.2.1⟩
  clear hve2
  have hf2 : Imp (p1.1 7 ≠ 0) (p2 = p1) := fun q => by rw [← ep2]; exact xP_f_lb q
  have hNRc : Imp (p2.1 7 = 0) (NR p2 gF1 A1) := fun q => NR_K (hNRc (hok2 q).1) (hok2 q).2.1 rfl (fun _ _ => rfl)
  have hNIc : Imp (p2.1 7 = 0) (NI p2 (up ct 8 (ct 8 + 1))) := fun q => NI_K (hNIc (hok2 q).1) (hok2 q).2.1 (Int.le_refl _) (Int.le_refl _)
  obtain ⟨hnm, hOm, hBm⟩ := id hX
  have hOm : M_32 m = jdO 9 (fX9 m _ _ fl (.ref f2)) := hOm
  obtain ⟨hnf, hOf, hAf⟩ := id hMF
  
  have h5r := (TR_5 hTR hPO).2.2
  refine jr_istore_n (pc := 35) h [_, _, _, _] dX9_readNamed_35 (by decide) rfl ?_
  refine jr_aload_n (pc := 36) h dX9_readNamed_36 rfl ?_
  refine jr_ldcwS (pc := 37) h 55 (by decide) ⟨rfl, rfl⟩ dX9_readNamed_37 ?_
  refine iv_X9_134 (pc := 40) h hl hR dX9_readNamed_40 ⟨(Nat.le_of_ble_eq_true rfl), (Nat.le_of_ble_eq_true rfl), (Nat.le_of_ble_eq_true rfl), (Nat.le_of_ble_eq_true rfl)⟩ (Nat.le_of_ble_eq_true rfl) (by assumption) (by omega) (s_X9_needs hX hbt hbb (p := p2) (k := 55) hTR hPO (by omega) (by omega)) (fun v_40 n_40 M_40 hn_40 hp => ?_)
  obtain ⟨⟨rfl, rfl⟩, g1, w1, hX, hg1, hTR, f9⟩ := hp
  have fR := fr_tr fR (fr_mo f9 (fun k q => Or.inl q))
  have hgk := gkp_t hgk hg1
  have hMF := MF_fr hMF f9 (Nat.le_refl _) (fun k h1 h2 q => by have := q.1; have := q.2; omega)
  rw [ew_c (show jtxt 55 = jtxt 8 from rfl)] at hTR
  obtain ⟨p3, ep3⟩ : ∃ z, (ewP bs 8 p2) = z := ⟨_, rfl⟩
  rw [ep3] at hTR
  replace hPO : PO p3 := by rw [← ep3]; exact ewP_O hPO
  have hok3 : Imp (OKp p3) (OKp p2 ∧ K12 p2 p3) := fun q => by
    rw [← ep3] at q ⊢
    have h9 := ok_ew q
    exact ⟨h9.1, h9.2⟩
  have hf3 : Imp (p2.1 7 ≠ 0) (p3 = p2) := fun q => by rw [← ep3]; exact xP_f_ew q
  have hNRc : Imp (p3.1 7 = 0) (NR p3 gF1 A1) := fun q => NR_K (hNRc (hok3 q).1) (hok3 q).2 rfl (fun _ _ => rfl)
  have hNIc : Imp (p3.1 7 = 0) (NI p3 (up ct 8 (ct 8 + 1))) := fun q => NI_K (hNIc (hok3 q).1) (hok3 q).2 (Int.le_refl _) (Int.le_refl _)
  obtain ⟨hnm, hOm, hBm⟩ := id hX
  have hOm : M_40 m = jdO 9 (fX9 m _ _ fl (.ref f2)) := hOm
  obtain ⟨hnf, hOf, hAf⟩ := id hMF
  
  have h5r := (TR_5 hTR hPO).2.2
  refine jr_aload_n (pc := 43) h dX9_readNamed_43 rfl ?_
  refine jr_iconst (pc := 44) h dX9_readNamed_44 ?_
  refine iv_X9_292 (pc := 45) h hl hR dX9_readNamed_45 ⟨(Nat.le_of_ble_eq_true rfl), (Nat.le_of_ble_eq_true rfl), (Nat.le_of_ble_eq_true rfl), (Nat.le_of_ble_eq_true rfl)⟩ (Nat.le_of_ble_eq_true rfl) (by assumption) (by omega) (s_X9_readKnown hX hbt hbb (p := p3) hTR hPO hMF hsep hNB hNRc (s := 2) (x := 0) (by omega) rfl) (fun v_45 n_45 M_45 hn_45 hp => ?_)
  obtain ⟨v4, ⟨rfl, rfl⟩, hvr4, hve4, g1, w1, hX, hg1, hTR, f9⟩ := hp
  have fR := fr_tr fR (fr_mo f9 (fun k q => Or.inl q))
  have hgk := gkp_t hgk hg1
  have hMF := MF_fr hMF f9 (Nat.le_refl _) (fun k h1 h2 q => by have := q.1; have := q.2; omega)
  obtain ⟨p4, ep4⟩ : ∃ z, (enP bs 2 p3).2 = z := ⟨_, rfl⟩
  rw [ep4] at hTR hve4
  replace hPO : PO p4 := by rw [← ep4]; exact enP_O hPO
  have hok4 : Imp (OKp p4) (OKp p3 ∧ K12 p3 p4 ∧ v4 = (enP bs 2 p3).1 ∧ (0 ≤ v4 ∧ v4 < ct 2)) := fun q => by
    have e := hve4 q
    rw [← ep4] at q ⊢
    have h9 := ok_en q
    rw [e]
    obtain ⟨h91, h92, j9, hj1, hj2, hj3⟩ := h9
    refine ⟨h91, h92, rfl, ?_⟩
    rw [hj3]
    have hz9 := (hNIc h91 j9 hj1).1 hj2
    rw [up_ne (by omega)] at hz9
    exact hz9
  clear hve4
  have hf4 : Imp (p3.1 7 ≠ 0) (p4 = p3) := fun q => by rw [← ep4]; exact xP_f_en q
  have hNRc : Imp (p4.1 7 = 0) (NR p4 gF1 A1) := fun q => NR_K (hNRc (hok4 q).1) (hok4 q).2.1 rfl (fun _ _ => rfl)
  have hNIc : Imp (p4.1 7 = 0) (NI p4 (up ct 8 (ct 8 + 1))) := fun q => NI_K (hNIc (hok4 q).1) (hok4 q).2.1 (Int.le_refl _) (Int.le_refl _)
  obtain ⟨hnm, hOm, hBm⟩ := id hX
  have hOm : M_45 m = jdO 9 (fX9 m _ _ fl (.ref f2)) := hOm
  obtain ⟨hnf, hOf, hAf⟩ := id hMF
  
  have h5r := (TR_5 hTR hPO).2.2
  refine jr_istore_n (pc := 48) h [_, _, _, _] dX9_readNamed_48 (by decide) rfl ?_
  refine jr_aload_n (pc := 49) h dX9_readNamed_49 rfl ?_
  refine jr_ldcS (pc := 50) h 41 (by decide) ⟨rfl, rfl⟩ dX9_readNamed_50 ?_
  refine iv_X9_372 (pc := 52) h hl hR dX9_readNamed_52 ⟨(Nat.le_of_ble_eq_true rfl), (Nat.le_of_ble_eq_true rfl), (Nat.le_of_ble_eq_true rfl), (Nat.le_of_ble_eq_true rfl)⟩ (Nat.le_of_ble_eq_true rfl) (by assumption) (by omega) (s_X9_eatsWord hX hbt hbb (p := p4) (k := 41) hTR hPO (by omega) (by omega)) (fun v_52 n_52 M_52 hn_52 hp => ?_)
  obtain ⟨⟨rfl, rfl⟩, g1, w1, hX, hg1, hTR, f9⟩ := hp
  have fR := fr_tr fR (fr_mo f9 (fun k q => Or.inl q))
  have hgk := gkp_t hgk hg1
  have hMF := MF_fr hMF f9 (Nat.le_refl _) (fun k h1 h2 q => by have := q.1; have := q.2; omega)
  rw [ewB_c (show jtxt 41 = jtxt 9 from rfl)] at hTR
  rw [bz_iff (show (p4.1 7 = 0 ∧ wordIs bs p4.1 41) ↔ (p4.1 7 = 0 ∧ wordIs bs p4.1 9) by rw [wi_c (show jtxt 41 = jtxt 9 from rfl)])]
  obtain ⟨p5, ep5⟩ : ∃ z, ewB bs 9 p4 = z := ⟨_, rfl⟩
  rw [ep5] at hTR
  replace hPO : PO p5 := by rw [← ep5]; exact ewB_O hPO
  have hok5 : Imp (OKp p5) (OKp p4 ∧ K12 p4 p5) := fun q => by
    rw [← ep5] at q ⊢
    exact ok_eb q
  have hf5 : Imp (p4.1 7 ≠ 0) (p5 = p4) := fun q => by rw [← ep5]; exact xP_f_eb q
  have hNRc : Imp (p5.1 7 = 0) (NR p5 gF1 A1) := fun q => NR_K (hNRc (hok5 q).1) (hok5 q).2 rfl (fun _ _ => rfl)
  have hNIc : Imp (p5.1 7 = 0) (NI p5 (up ct 8 (ct 8 + 1))) := fun q => NI_K (hNIc (hok5 q).1) (hok5 q).2 (Int.le_refl _) (Int.le_refl _)
  obtain ⟨hnm, hOm, hBm⟩ := id hX
  have hOm : M_52 m = jdO 9 (fX9 m _ _ fl (.ref f2)) := hOm
  obtain ⟨hnf, hOf, hAf⟩ := id hMF
  
  have h5r := (TR_5 hTR hPO).2.2
  obtain ⟨vb, evb⟩ : ∃ z, bz (p4.1 7 = 0 ∧ wordIs bs p4.1 9) = z := ⟨_, rfl⟩
  have hvb := bz_r (p4.1 7 = 0 ∧ wordIs bs p4.1 9)
  rw [evb] at hvb ⊢
  refine jr_istore_n (pc := 55) h [_, _, _, _] dX9_readNamed_55 (by decide) rfl ?_
  refine jr_aload_n (pc := 56) h dX9_readNamed_56 rfl ?_
  refine gf_X9_80 (pc := 57) h dX9_readNamed_57 (by assumption) (by omega) ?_
  refine jr_iconst (pc := 60) h dX9_readNamed_60 ?_
  refine jr_icmp_ne (pc := 61) h 65 dX9_readNamed_61 (by decide) (by omega) (by omega) (fun c_61 => ?_) (fun c_61 => ?_)
  · first | have d_61 := bz_0.mp c_61 | have d_61 := bz_1.mp c_61 | skip
    have h57 := (TR_5 hTR hPO).1
    have hpe : p5.1 7 = 0 := Classical.byContradiction (fun q => by have := h57.2 q; omega)
    have hk5 := hok5 hpe
    have hk4 := hok4 hk5.1
    have hk3 := hok3 hk4.1
    have hk2 := hok2 hk3.1
    have hk1 := hok1 hk2.1
    have hk0 := hok0 hk1.1
    have hl0 := hk0.1
    have hr2 := hk2.2.2.2
    have hv2 := hk2.2.2.1
    have hr4 := hk4.2.2.2
    have hv4 := hk4.2.2.1
    have g5o := hgo 5 (by omega)
    have g6o := hgo 6 (by omega)
    have g7o := hgo 7 (by omega)
    have g8o := hgo 8 (by omega)
    have g9o := hgo 9 (by omega)
    have g10o := hgo 10 (by omega)
    have g11o := hgo 11 (by omega)
    have g12o := hgo 12 (by omega)
    have g13o := hgo 13 (by omega)
    have g14o := hgo 14 (by omega)
    have g15o := hgo 15 (by omega)
    have hA18 : M_52 (f2 + 18) = jdA 6 (A1 18) := hAf 18 (by omega) (by omega)
    have hA19 : M_52 (f2 + 19) = jdA 6 (A1 19) := hAf 19 (by omega) (by omega)
    have hA27 : M_52 (f2 + 27) = jdZ 6 (A1 27) := hAf 27 (by omega) (by omega)
    refine jr_aload_n (pc := 65) h dX9_readNamed_65 rfl ?_
    refine gf_X9_174 (pc := 66) h dX9_readNamed_66 (by assumption) (by omega) ?_
    refine gf_X9_375 (pc := 69) h dX9_readNamed_69 (by assumption) (by omega) ?_
    refine jr_aload_n (pc := 72) h dX9_readNamed_72 rfl ?_
    refine gf_X9_174 (pc := 73) h dX9_readNamed_73 (by assumption) (by omega) ?_
    refine gf_X9_365 (pc := 76) h dX9_readNamed_76 (by assumption) (by omega) ?_
    refine jr_iload_n (pc := 79) h dX9_readNamed_79 rfl ?_
    refine jr_iast (pc := 80) h dX9_readNamed_80 hA18 (by omega) (by omega) ?_
    refine jm_gen (fun M2 hM2 => ?_)
    have hMF := MF_A (i := 18) hMF hM2 (by omega)
    have f9 : fr (MFS f2) _ M2 := fr_up (S := MFS f2) hM2 ⟨by omega, by omega⟩
    have hX := MX_fr hX f9 (Nat.le_refl _) (fun k h1 h2 q => by have := q.1; have := q.2; omega)
    have fR := fr_tr fR (fr_mo f9 (fun k q => Or.inr q))
    obtain ⟨hnm, hOm, hBm⟩ := id hX
    have hOm : M2 m = jdO 9 (fX9 m _ _ fl (.ref f2)) := hOm
    obtain ⟨hnf, hOf, hAf⟩ := id hMF
    have hA19 : M2 (f2 + 19) = jdA 6 (A1 19) := hAf 19 (by omega) (by omega)
    have hA27 : M2 (f2 + 27) = jdZ 6 (A1 27) := hAf 27 (by omega) (by omega)
    refine jr_aload_n (pc := 81) h dX9_readNamed_81 rfl ?_
    refine gf_X9_174 (pc := 82) h dX9_readNamed_82 (by assumption) (by omega) ?_
    refine gf_X9_378 (pc := 85) h dX9_readNamed_85 (by assumption) (by omega) ?_
    refine jr_aload_n (pc := 88) h dX9_readNamed_88 rfl ?_
    refine gf_X9_174 (pc := 89) h dX9_readNamed_89 (by assumption) (by omega) ?_
    refine gf_X9_365 (pc := 92) h dX9_readNamed_92 (by assumption) (by omega) ?_
    refine jr_iload_n (pc := 95) h dX9_readNamed_95 rfl ?_
    refine jr_iast (pc := 96) h dX9_readNamed_96 hA19 (by omega) (by omega) ?_
    refine jm_gen (fun M2 hM2 => ?_)
    have hMF := MF_A (i := 19) hMF hM2 (by omega)
    have f9 : fr (MFS f2) _ M2 := fr_up (S := MFS f2) hM2 ⟨by omega, by omega⟩
    have hX := MX_fr hX f9 (Nat.le_refl _) (fun k h1 h2 q => by have := q.1; have := q.2; omega)
    have fR := fr_tr fR (fr_mo f9 (fun k q => Or.inr q))
    obtain ⟨hnm, hOm, hBm⟩ := id hX
    have hOm : M2 m = jdO 9 (fX9 m _ _ fl (.ref f2)) := hOm
    obtain ⟨hnf, hOf, hAf⟩ := id hMF
    have hA27 : M2 (f2 + 27) = jdZ 6 (A1 27) := hAf 27 (by omega) (by omega)
    refine jr_aload_n (pc := 97) h dX9_readNamed_97 rfl ?_
    refine gf_X9_174 (pc := 98) h dX9_readNamed_98 (by assumption) (by omega) ?_
    refine gf_X9_380 (pc := 101) h dX9_readNamed_101 (by assumption) (by omega) ?_
    refine jr_aload_n (pc := 104) h dX9_readNamed_104 rfl ?_
    refine gf_X9_174 (pc := 105) h dX9_readNamed_105 (by assumption) (by omega) ?_
    refine gf_X9_365 (pc := 108) h dX9_readNamed_108 (by assumption) (by omega) ?_
    refine jr_iload_n (pc := 111) h dX9_readNamed_111 rfl ?_
    refine jr_zast (pc := 112) h dX9_readNamed_112 hA27 (by omega) (by omega) (by omega) ?_
    refine jm_gen (fun M2 hM2 => ?_)
    have hMF := MF_A (i := 27) hMF hM2 (by omega)
    have f9 : fr (MFS f2) _ M2 := fr_up (S := MFS f2) hM2 ⟨by omega, by omega⟩
    have hX := MX_fr hX f9 (Nat.le_refl _) (fun k h1 h2 q => by have := q.1; have := q.2; omega)
    have fR := fr_tr fR (fr_mo f9 (fun k q => Or.inr q))
    obtain ⟨hnm, hOm, hBm⟩ := id hX
    have hOm : M2 m = jdO 9 (fX9 m _ _ fl (.ref f2)) := hOm
    obtain ⟨hnf, hOf, hAf⟩ := id hMF
    
    refine jr_aload_n (pc := 113) h dX9_readNamed_113 rfl ?_
    refine gf_X9_174 (pc := 114) h dX9_readNamed_114 (by assumption) (by omega) ?_
    refine jr_dup (pc := 117) h dX9_readNamed_117 rfl ?_
    refine gf_X9_365 (pc := 118) h dX9_readNamed_118 (by assumption) (by omega) ?_
    refine jr_iconst (pc := 121) h dX9_readNamed_121 ?_
    refine jr_iadd (pc := 122) h dX9_readNamed_122 ?_
    refine pf_X9_365 (pc := 123) h dX9_readNamed_123 hOf (by omega) ?_
    refine jm_gen (fun M2 hM2 => ?_)
    rw [fX8_11] at hM2
    have hMF := MF_g hMF hM2
    have f9 : fr (MFS f2) _ M2 := fr_up (S := MFS f2) hM2 ⟨by omega, by omega⟩
    have hX := MX_fr hX f9 (Nat.le_refl _) (fun k h1 h2 q => by have := q.1; have := q.2; omega)
    have fR := fr_tr fR (fr_mo f9 (fun k q => Or.inr q))
    obtain ⟨hnm, hOm, hBm⟩ := id hX
    have hOm : M2 m = jdO 9 (fX9 m _ _ fl (.ref f2)) := hOm
    obtain ⟨hnf, hOf, hAf⟩ := id hMF
    refine jr_vret (pc := 126) h hRt dX9_readNamed_126 (Nat.le_of_ble_eq_true rfl) (Nat.le_of_ble_eq_true rfl) ?_
    have hcS : 0 ≤ ct (Int.toNat 8) ∧ ct (Int.toNat 8) < 8 := by show 0 ≤ ct 8 ∧ ct 8 < 8; omega
    have hFIr := hFR.2.2.1.2.2.2
    have e_ln : lnP bs ct (nxP bs p) (opT ct td 8) 8 = (p5, (up (up (up (opT ct td 8) (c_ix ct 8 0) v2) (c_ix ct 8 1) v4) (c_ix ct 8 2) vb)) := by
      by_cases qb : p4.1 7 = 0 ∧ wordIs bs p4.1 9
      · have e5 : p5 = nxP bs p4 := by rw [← ep5]; unfold ewB; rw [if_pos qb]
        rw [show vb = 1 by rw [← evb]; exact bz_t qb, e5]
        rw [hv2, hv4]
        show ln_8 bs ct (nnP bs 8 (ct 8) (nxP bs p)) (opT ct td 8) = _
        unfold ln_8
        rw [← ep4, ← ep3, ← ep2, ← ep1, hk0.2.1] at qb ⊢
        rw [if_pos qb, if_pos qb]
      · have e5 : p5 = p4 := by rw [← ep5]; unfold ewB; rw [if_neg qb]
        rw [show vb = 0 by rw [← evb]; exact bz_f qb, e5]
        rw [show up (up (up (opT ct td 8) (c_ix ct 8 0) v2) (c_ix ct 8 1) v4) (c_ix ct 8 2) 0 = up (up (opT ct td 8) (c_ix ct 8 0) v2) (c_ix ct 8 1) v4 from up_id (by
          have e := (gn_ne (ct := ct) (f := up (opT ct td 8) (c_ix ct 8 0) v2) (s := 8) (i := ct 8) (x := 2) (y := 1) (v := v4) (by omega) hcS rfl (by omega) (by omega) (by omega)).trans ((gn_ne (ct := ct) (f := opT ct td 8) (s := 8) (i := ct 8) (x := 2) (y := 0) (v := v2) (by omega) hcS rfl (by omega) (by omega) (by omega)).trans (gn_op (by omega) hcS rfl (by omega)))
          exact (get_new (ct := ct) (td' := up (up (opT ct td 8) (c_ix ct 8 0) v2) (c_ix ct 8 1) v4) (s := 8) (x := 2) (by omega) hcS (by omega)).symm.trans e)]
        rw [hv2, hv4]
        show ln_8 bs ct (nnP bs 8 (ct 8) (nxP bs p)) (opT ct td 8) = _
        unfold ln_8
        rw [← ep4, ← ep3, ← ep2, ← ep1, hk0.2.1] at qb ⊢
        rw [if_neg qb, if_neg qb]
    have e_tln : tlnP bs ct td 8 p = (p5, up ct 8 (ct 8 + 1), (up (up (up (opT ct td 8) (c_ix ct 8 0) v2) (c_ix ct 8 1) v4) (c_ix ct 8 2) vb)) := by
      rw [tln_1 (by omega) (by show ¬ (6 : Int) ≤ ct 8; omega), e_ln]
      unfold tlnC
      show (p5, (if p5.1 7 = 0 then up ct 8 (ct 8 + 1) else ct), (up (up (up (opT ct td 8) (c_ix ct 8 0) v2) (c_ix ct 8 1) v4) (c_ix ct 8 2) vb)) = _
      rw [if_pos hpe]
    have t0 : c_get (up (up (up (opT ct td 8) (c_ix ct 8 0) v2) (c_ix ct 8 1) v4) (c_ix ct 8 2) vb) 8 (ct 8) 0 = v2 := (gn_ne (by omega) hcS rfl (by omega) (by omega) (by omega)).trans ((gn_ne (by omega) hcS rfl (by omega) (by omega) (by omega)).trans (gn_eq (by omega) hcS rfl (by omega)))
    have t1 : c_get (up (up (up (opT ct td 8) (c_ix ct 8 0) v2) (c_ix ct 8 1) v4) (c_ix ct 8 2) vb) 8 (ct 8) 1 = v4 := (gn_ne (by omega) hcS rfl (by omega) (by omega) (by omega)).trans (gn_eq (by omega) hcS rfl (by omega))
    have t2 : c_get (up (up (up (opT ct td 8) (c_ix ct 8 0) v2) (c_ix ct 8 1) v4) (c_ix ct 8 2) vb) 8 (ct 8) 2 = vb := gn_eq (by omega) hcS rfl (by omega)
    rw [e_tln]
    refine ⟨⟨rfl, rfl⟩, _, _, _, _, hX, hgk, hTR, hMF, ?_, fun _ => ?_, fR⟩
    · refine RB_up (k := 11) hRB1 ⟨by omega, by omega⟩ (by show gF1 11 < 6; omega) (fun i hi => by rw [up_ne (by omega), up_ne (by omega), up_ne (by omega)]; exact hRB1.2.2.2.2 i hi) (fun j hj => by rw [up_ne (by omega), up_ne (by omega), up_ne (by omega)])
    · show FR p5 (up ct 8 (ct 8 + 1)) (up (up (up (opT ct td 8) (c_ix ct 8 0) v2) (c_ix ct 8 1) v4) (c_ix ct 8 2) vb) _ _
      refine FR_upd (s := 8) hFR ⟨by omega, by omega⟩ (by show ct 8 < 6; omega) (OUT_up (OUT_up (OUT_up OUT_op (by omega) hcS.1 (by omega)) (by omega) hcS.1 (by omega)) (by omega) hcS.1 (by omega)) (rn_up (rn_up (rn_up (rn_op hFIr) (by omega)) (by omega)) (by omega)) ?_ (fun q => absurd q (by decide)) (fun j h1 h2 h3 => by
        have hA9 := hAo j h2
        rw [up_ne (fun e => h3 (by rw [e]; rfl)), up_ne (fun e => h3 (by rw [e]; rfl)), up_ne (fun e => h3 (by rw [e]; rfl)), hA9]) ⟨fun q => absurd q (by decide), fun q => absurd q (by decide), fun q => absurd q (by decide), fun q => absurd q (by decide), fun q => absurd q (by decide), fun q => absurd q (by decide), fun _ => ⟨by rw [t0]; show up (A1 18) (gF1 11).toNat v2 = up (A 18) (ct 8).toNat v2; rw [hAo 18 (by omega), hgo 11 (by omega), k11], by rw [t1]; show up (A1 19) (gF1 11).toNat v4 = up (A 19) (ct 8).toNat v4; rw [hAo 19 (by omega), hgo 11 (by omega), k11], by rw [t2]; show up (A1 27) (gF1 11).toNat vb = up (A 27) (ct 8).toNat vb; rw [hAo 27 (by omega), hgo 11 (by omega), k11]⟩, fun q => absurd q (by decide), fun q => absurd q (by decide), fun q => absurd q (by decide), fun q => absurd q (by decide)⟩ (by show up gF1 11 (gF1 11 + 1) 11 = gF 11 + 1; rw [up_eq, hgo 11 (by omega)]) (fun j hj hne => by rw [up_ne (by omega), hgo j (by omega)]) (NR_K (hNRc hpe) K12_r (up_ne (by omega)) (fun j hj => by rw [up_ne (by omega), up_ne (by omega), up_ne (by omega)])) (NI_K (hNIc hpe) K12_r (Int.le_refl _) (Int.le_refl _)) ?_
      · refine ⟨fun q => ?_, fun q => ?_, fun q => ?_, fun q => ?_, fun q => ?_, fun q => ?_, fun q => ?_, fun q => ?_, fun q => ?_, fun q => ?_, fun q => ?_, fun q => ?_, fun q => ?_⟩ <;> first | (exfalso; omega) | (rw [t0, t1, t2]; omega)
      · rw [if_pos (by omega)]
        have e12 : p1.1 12 = p0.1 12 + 1 := by rw [hk1.2.2, K12_nx.2]; show up p0.1 12 (p0.1 12 + 1) 12 = _; rw [up_eq]
        have e0 := hk0.2.2.2
        have x2 := hk2.2.1.2
        have x3 := hk3.2.2
        have x4 := hk4.2.1.2
        have x5 := hk5.2.2
        omega
  · first | have d_61 := bz_0.mp c_61 | have d_61 := bz_1.mp c_61 | skip
    refine jr_vret (pc := 64) h hRt dX9_readNamed_64 (Nat.le_of_ble_eq_true rfl) (Nat.le_of_ble_eq_true rfl) ?_
    have h57 := (TR_5 hTR hPO).1
    have hpf : p5.1 7 ≠ 0 := h57.1 (by omega)
    have e_end : (tlnP bs ct td 8 p).1 = p5 := by
      rcases hc0 with ⟨hlm, e0⟩ | ⟨hlm, e0⟩
      · have hb0 : p0.1 7 ≠ 0 := by rw [e0]; exact flP_x (by omega)
        have e1 := hf1 hb0
        have hb1 : p1.1 7 ≠ 0 := by rw [e1]; exact hb0
        have e2 := hf2 hb1
        have hb2 : p2.1 7 ≠ 0 := by rw [e2]; exact hb1
        have e3 := hf3 hb2
        have hb3 : p3.1 7 ≠ 0 := by rw [e3]; exact hb2
        have e4 := hf4 hb3
        have hb4 : p4.1 7 ≠ 0 := by rw [e4]; exact hb3
        have e5 := hf5 hb4
        have hb5 : p5.1 7 ≠ 0 := by rw [e5]; exact hb4
        rw [tln_0 (by omega) (by show (6 : Int) ≤ ct 8; omega)]
        show flP 5 p = p5
        rw [e5, e4, e3, e2, e1, e0]
      · rw [tln_1 (by omega) (by show ¬ (6 : Int) ≤ ct 8; omega)]
        show (ln_8 bs ct (nnP bs 8 (ct 8) (nxP bs p)) (opT ct td 8)).1 = p5
        rw [← ep5, ← ep4, ← ep3, ← ep2, ← ep1, e0]
        unfold ln_8 ewB
        rfl
    exact ⟨⟨rfl, rfl⟩, _, _, _, _, hX, hgk, (by rw [e_end]; exact hTR), hMF, hRB1, fun q => absurd q (by rw [e_end]; exact hpf), fR⟩
