/-! 99: the reference: a block read -/
theorem RB_a {gF : Nat → Int} {A A' : Nat → Nat → Int} (h : RB gF A) (hA : ∀ j, (j = 8 ∨ 28 ≤ j) → A' j = A j) : RB gF A' := by
  obtain ⟨hn, hc, h0, h3, h8⟩ := h
  exact ⟨NB_k hn rfl (fun j hj => hA j (Or.inr hj)), hc, h0, h3, by rw [hA 8 (Or.inl rfl)]; exact h8⟩
theorem win_0 {ct td : Nat → Int} {a : Int} (h : LKI ct td) (hn : ∀ i : Int, 0 ≤ i → i < c_get td 7 (ct 7) 3 → c_get td 7 (ct 7) (4 + 2 * i) ≠ a) : c_win td (ct 7) a = 0 := by
  unfold c_win
  have := h.1
  exact firstW_no (fun j a c => hn j (by omega) (by omega))
set_option maxHeartbeats 1000000 in
set_option maxRecDepth 20000 in
theorem s_X9_readBlock {l : Launch} {n : Nat} {M : jdM} {m f2 : Nat} {g : Nat → Int} {w : Int} {fl : Value} {B : Nat → Nat → Int} (hX : MX M n m g w fl (.ref f2) B) {bs : Nat → Int} (hbt : ∀ j, j < 900 → B 1 j = bs j) (hbb : ∀ j, -128 ≤ bs j ∧ bs j ≤ 127) {p : TS} (hTR : TR bs p g w) (hPO : PO p) {gF : Nat → Int} {A : Nat → Nat → Int} (hMF : MF M n f2 gF A) (hsep : f2 + 30 < m ∨ m + 12 < f2) (hRB : RB gF A) {ct td : Nat → Int} (hFR : FR p ct td gF A) (q7 : p.1 7 = 0) (q4 : p.1 4 = 1) : Ct l yX9_readBlock cX9_readBlock 9 none rX9_readBlock [.ref m] n M (fun vv n' M' => (vv = none ∧ n = n') ∧ ∃ g' w' gF' A', MX M' n m g' w' fl (.ref f2) B ∧ gkp g g' ∧ TR bs (tlnP bs ct td 7 p).1 g' w' ∧ MF M' n f2 gF' A' ∧ RB gF' A' ∧ ((tlnP bs ct td 7 p).1.1 7 = 0 → FR (tlnP bs ct td 7 p).1 (tlnP bs ct td 7 p).2.1 (tlnP bs ct td 7 p).2.2 gF' A') ∧ fr (RFS m f2) M M') := by
  refine Ct_of [some (.ref m), none, none, none, none, none, none, none, none] (by decide) (Nat.le_of_ble_eq_true rfl) rfl (fun κ hl h hR hRt hmn hn0 => ?_)
  have h : Ok κ RX9 cX9_readBlock 9 none := h
  obtain ⟨hnm, hOm, hBm⟩ := id hX
  have hOm : M m = jdO 9 (fX9 m _ _ fl (.ref f2)) := hOm
  obtain ⟨hnf, hOf, hAf⟩ := id hMF
  have fR : fr (RFS m f2) M M := fr_rf
  have hgk : gkp g g := gkp_r
  have hNB := hRB.1
  obtain ⟨hcb, h0b, h3b, h8b⟩ := hRB.2
  have hNRp := hFR.2.2.2.1
  have hNIp := hFR.2.2.2.2.1
  have hcnt := hFR.2.2.2.2.2.2
  obtain ⟨k5, k6, k7, k8, k9, k10, k11, k12, k13, k14, k15⟩ := hFR.2.1
  have hNBc := hNB.1
  refine jr_aload_n (pc := 0) h dX9_readBlock_0 rfl ?_
  refine jr_aload_n (pc := 1) h dX9_readBlock_1 rfl ?_
  refine gf_X9_174 (pc := 2) h dX9_readBlock_2 (by assumption) (by omega) ?_
  refine gf_X9_339 (pc := 5) h dX9_readBlock_5 (by assumption) (by omega) ?_
  refine jr_iconst (pc := 8) h dX9_readBlock_8 ?_
  refine iv_X9_274 (pc := 9) h hl hR dX9_readBlock_9 ⟨(Nat.le_of_ble_eq_true rfl), (Nat.le_of_ble_eq_true rfl), (Nat.le_of_ble_eq_true rfl), (Nat.le_of_ble_eq_true rfl)⟩ (Nat.le_of_ble_eq_true rfl) (by assumption) (by omega) (s_X9_begins hX hbt hbb hTR hPO q7 q4 (x := gF 10) (y := 5) (by omega) (by omega)) (fun v_9 n_9 M_9 hn_9 hp => ?_)
  obtain ⟨⟨rfl, rfl⟩, g1, w1, hX, hg1, hTR, f9⟩ := hp
  have fR := fr_tr fR (fr_mo f9 (fun k q => Or.inl q))
  have hgk := gkp_t hgk hg1
  have hMF := MF_fr hMF f9 (Nat.le_refl _) (fun k h1 h2 q => by have := q.1; have := q.2; omega)
  obtain ⟨p0, ep0⟩ : ∃ z, (if gF 10 = 5 then flP 5 p else nxP bs p) = z := ⟨_, rfl⟩
  rw [ep0] at hTR
  have hc0 : (ct 7 = 5 ∧ p0 = flP 5 p) ∨ (ct 7 < 5 ∧ p0 = nxP bs p) := by
    rw [← ep0]
    by_cases q : gF 10 = 5
    · rw [if_pos q]; exact Or.inl ⟨by omega, rfl⟩
    · rw [if_neg q]; exact Or.inr ⟨by omega, rfl⟩
  replace hPO : PO p0 := by
    rcases hc0 with ⟨-, e⟩ | ⟨-, e⟩ <;> rw [e]
    · exact flP_O hPO (by omega)
    · exact nxP_O hPO
  have hok0 : Imp (OKp p0) (ct 7 < 5 ∧ p0 = nxP bs p ∧ K12 p p0) := fun q => by
    rcases hc0 with ⟨-, e⟩ | ⟨h9, e⟩
    · rw [e] at q; exact absurd q (flP_x (by omega))
    · exact ⟨h9, e, by rw [e]; exact K12_nx⟩
  have hNRc : Imp (p0.1 7 = 0) (NR p0 gF A) := fun q => NR_K hNRp (hok0 q).2.2 rfl (fun _ _ => rfl)
  have hNIc : Imp (p0.1 7 = 0) (NI p0 ct) := fun q => NI_K hNIp (hok0 q).2.2 (Int.le_refl _) (Int.le_refl _)
  obtain ⟨hnm, hOm, hBm⟩ := id hX
  have hOm : M_9 m = jdO 9 (fX9 m _ _ fl (.ref f2)) := hOm
  obtain ⟨hnf, hOf, hAf⟩ := id hMF
  
  refine jr_aload_n (pc := 12) h dX9_readBlock_12 rfl ?_
  refine jr_iconst (pc := 13) h dX9_readBlock_13 ?_
  refine jr_bipush (pc := 14) h dX9_readBlock_14 bp_40 ?_
  refine iv_X9_138 (pc := 16) h hl hR dX9_readBlock_16 ⟨(Nat.le_of_ble_eq_true rfl), (Nat.le_of_ble_eq_true rfl), (Nat.le_of_ble_eq_true rfl), (Nat.le_of_ble_eq_true rfl)⟩ (Nat.le_of_ble_eq_true rfl) (by assumption) (by omega) (s_X9_readWhole hX hbt hbb (p := p0) (x := 1) (y := 40) hTR hPO (by omega) (by omega)) (fun v_16 n_16 M_16 hn_16 hp => ?_)
  obtain ⟨v1, ⟨rfl, rfl⟩, hvr1, hve1, g1, w1, hX, hg1, hTR, f9⟩ := hp
  have fR := fr_tr fR (fr_mo f9 (fun k q => Or.inl q))
  have hgk := gkp_t hgk hg1
  have hMF := MF_fr hMF f9 (Nat.le_refl _) (fun k h1 h2 q => by have := q.1; have := q.2; omega)
  obtain ⟨p1, ep1⟩ : ∃ z, (ehP bs 1 40 p0).2 = z := ⟨_, rfl⟩
  rw [ep1] at hTR hve1
  replace hPO : PO p1 := by rw [← ep1]; exact ehP_O hPO
  have hok1 : Imp (OKp p1) (OKp p0 ∧ K12 p0 p1 ∧ v1 = (ehP bs 1 40 p0).1 ∧ (1 ≤ v1 ∧ v1 ≤ 40)) := fun q => by
    have e := hve1 q
    rw [← ep1] at q ⊢
    have h9 := ok_eh q
    rw [e]
    exact ⟨h9.1, h9.2.2, rfl, h9.2.1⟩
  clear hve1
  have hf1 : Imp (p0.1 7 ≠ 0) (p1 = p0) := fun q => by rw [← ep1]; exact xP_f_eh q
  have hNRc : Imp (p1.1 7 = 0) (NR p1 gF A) := fun q => NR_K (hNRc (hok1 q).1) (hok1 q).2.1 rfl (fun _ _ => rfl)
  have hNIc : Imp (p1.1 7 = 0) (NI p1 ct) := fun q => NI_K (hNIc (hok1 q).1) (hok1 q).2.1 (Int.le_refl _) (Int.le_refl _)
  obtain ⟨hnm, hOm, hBm⟩ := id hX
  have hOm : M_16 m = jdO 9 (fX9 m _ _ fl (.ref f2)) := hOm
  obtain ⟨hnf, hOf, hAf⟩ := id hMF
  
  have h5r := (TR_5 hTR hPO).2.2
  refine jr_istore_n (pc := 19) h [_, _, _, _, _, _, _, _, _] dX9_readBlock_19 (by decide) rfl ?_
  refine jr_aload_n (pc := 20) h dX9_readBlock_20 rfl ?_
  refine jr_ldcwS (pc := 21) h 51 (by decide) ⟨rfl, rfl⟩ dX9_readBlock_21 ?_
  refine jr_iload_n (pc := 24) h dX9_readBlock_24 rfl ?_
  refine jr_bipush (pc := 25) h dX9_readBlock_25 bp_40 ?_
  refine iv_X9_257 (pc := 27) h hl hR dX9_readBlock_27 ⟨(Nat.le_of_ble_eq_true rfl), (Nat.le_of_ble_eq_true rfl), (Nat.le_of_ble_eq_true rfl), (Nat.le_of_ble_eq_true rfl)⟩ (Nat.le_of_ble_eq_true rfl) (by assumption) (by omega) (s_X9_readPart hX hbt hbb (p := p1) (k := 51) (x := v1) (y := 40) hTR hPO (by omega) (by omega) (by omega) (by omega)) (fun v_27 n_27 M_27 hn_27 hp => ?_)
  obtain ⟨v2, ⟨rfl, rfl⟩, hvr2, hve2, g1, w1, hX, hg1, hTR, f9⟩ := hp
  have fR := fr_tr fR (fr_mo f9 (fun k q => Or.inl q))
  have hgk := gkp_t hgk hg1
  have hMF := MF_fr hMF f9 (Nat.le_refl _) (fun k h1 h2 q => by have := q.1; have := q.2; omega)
  rw [lb_c (show jtxt 51 = jtxt 14 from rfl)] at hve2 hTR
  have elo := lb_lo (bs := bs) (k := 14) (lo := v1) (lo' := (ehP bs 1 40 p0).1) (hi := 40) (c := p1) (fun q => by have e9 := (hok1 q).2.2.1; omega)
  rw [elo.1] at hTR
  have hve2 : (lbP bs 14 (ehP bs 1 40 p0).1 40 p1).2.1 7 = 0 → v2 = (lbP bs 14 (ehP bs 1 40 p0).1 40 p1).1 := fun q => by rw [← elo.1] at q; rw [hve2 q]; exact elo.2 q
  obtain ⟨p2, ep2⟩ : ∃ z, (lbP bs 14 (ehP bs 1 40 p0).1 40 p1).2 = z := ⟨_, rfl⟩
  rw [ep2] at hTR hve2
  replace hPO : PO p2 := by rw [← ep2]; exact (fun h => ehP_O (ewP_O h)) hPO
  have hok2 : Imp (OKp p2) (OKp p1 ∧ K12 p1 p2 ∧ v2 = (lbP bs 14 (ehP bs 1 40 p0).1 40 p1).1 ∧ ((ehP bs 1 40 p0).1 ≤ v2 ∧ v2 ≤ 40)) := fun q => by
    have e := hve2 q
    rw [← ep2] at q ⊢
    have h9 := ok_lb q
    rw [e]
    exact ⟨h9.1, h9.2.2, rfl, h9.2.1⟩
  clear hve2
  have hf2 : Imp (p1.1 7 ≠ 0) (p2 = p1) := fun q => by rw [← ep2]; exact xP_f_lb q
  have hNRc : Imp (p2.1 7 = 0) (NR p2 gF A) := fun q => NR_K (hNRc (hok2 q).1) (hok2 q).2.1 rfl (fun _ _ => rfl)
  have hNIc : Imp (p2.1 7 = 0) (NI p2 ct) := fun q => NI_K (hNIc (hok2 q).1) (hok2 q).2.1 (Int.le_refl _) (Int.le_refl _)
  obtain ⟨hnm, hOm, hBm⟩ := id hX
  have hOm : M_27 m = jdO 9 (fX9 m _ _ fl (.ref f2)) := hOm
  obtain ⟨hnf, hOf, hAf⟩ := id hMF
  
  have h5r := (TR_5 hTR hPO).2.2
  refine jr_istore_n (pc := 30) h [_, _, _, _, _, _, _, _, _] dX9_readBlock_30 (by decide) rfl ?_
  refine jr_aload_n (pc := 31) h dX9_readBlock_31 rfl ?_
  refine jr_ldcwS (pc := 32) h 52 (by decide) ⟨rfl, rfl⟩ dX9_readBlock_32 ?_
  refine jr_iconst (pc := 35) h dX9_readBlock_35 ?_
  refine jr_bipush (pc := 36) h dX9_readBlock_36 bp_9 ?_
  refine iv_X9_257 (pc := 38) h hl hR dX9_readBlock_38 ⟨(Nat.le_of_ble_eq_true rfl), (Nat.le_of_ble_eq_true rfl), (Nat.le_of_ble_eq_true rfl), (Nat.le_of_ble_eq_true rfl)⟩ (Nat.le_of_ble_eq_true rfl) (by assumption) (by omega) (s_X9_readPart hX hbt hbb (p := p2) (k := 52) (x := 1) (y := 9) hTR hPO (by omega) (by omega) (by omega) (by omega)) (fun v_38 n_38 M_38 hn_38 hp => ?_)
  obtain ⟨v3, ⟨rfl, rfl⟩, hvr3, hve3, g1, w1, hX, hg1, hTR, f9⟩ := hp
  have fR := fr_tr fR (fr_mo f9 (fun k q => Or.inl q))
  have hgk := gkp_t hgk hg1
  have hMF := MF_fr hMF f9 (Nat.le_refl _) (fun k h1 h2 q => by have := q.1; have := q.2; omega)
  rw [lb_c (show jtxt 52 = jtxt 15 from rfl)] at hve3 hTR
  obtain ⟨p3, ep3⟩ : ∃ z, (lbP bs 15 1 9 p2).2 = z := ⟨_, rfl⟩
  rw [ep3] at hTR hve3
  replace hPO : PO p3 := by rw [← ep3]; exact (fun h => ehP_O (ewP_O h)) hPO
  have hok3 : Imp (OKp p3) (OKp p2 ∧ K12 p2 p3 ∧ v3 = (lbP bs 15 1 9 p2).1 ∧ (1 ≤ v3 ∧ v3 ≤ 9)) := fun q => by
    have e := hve3 q
    rw [← ep3] at q ⊢
    have h9 := ok_lb q
    rw [e]
    exact ⟨h9.1, h9.2.2, rfl, h9.2.1⟩
  clear hve3
  have hf3 : Imp (p2.1 7 ≠ 0) (p3 = p2) := fun q => by rw [← ep3]; exact xP_f_lb q
  have hNRc : Imp (p3.1 7 = 0) (NR p3 gF A) := fun q => NR_K (hNRc (hok3 q).1) (hok3 q).2.1 rfl (fun _ _ => rfl)
  have hNIc : Imp (p3.1 7 = 0) (NI p3 ct) := fun q => NI_K (hNIc (hok3 q).1) (hok3 q).2.1 (Int.le_refl _) (Int.le_refl _)
  obtain ⟨hnm, hOm, hBm⟩ := id hX
  have hOm : M_38 m = jdO 9 (fX9 m _ _ fl (.ref f2)) := hOm
  obtain ⟨hnf, hOf, hAf⟩ := id hMF
  
  have h5r := (TR_5 hTR hPO).2.2
  refine jr_istore_n (pc := 41) h [_, _, _, _, _, _, _, _, _] dX9_readBlock_41 (by decide) rfl ?_
  refine jr_aload_n (pc := 42) h dX9_readBlock_42 rfl ?_
  refine jr_ldcwS (pc := 43) h 53 (by decide) ⟨rfl, rfl⟩ dX9_readBlock_43 ?_
  refine iv_X9_134 (pc := 46) h hl hR dX9_readBlock_46 ⟨(Nat.le_of_ble_eq_true rfl), (Nat.le_of_ble_eq_true rfl), (Nat.le_of_ble_eq_true rfl), (Nat.le_of_ble_eq_true rfl)⟩ (Nat.le_of_ble_eq_true rfl) (by assumption) (by omega) (s_X9_needs hX hbt hbb (p := p3) (k := 53) hTR hPO (by omega) (by omega)) (fun v_46 n_46 M_46 hn_46 hp => ?_)
  obtain ⟨⟨rfl, rfl⟩, g1, w1, hX, hg1, hTR, f9⟩ := hp
  have fR := fr_tr fR (fr_mo f9 (fun k q => Or.inl q))
  have hgk := gkp_t hgk hg1
  have hMF := MF_fr hMF f9 (Nat.le_refl _) (fun k h1 h2 q => by have := q.1; have := q.2; omega)
  rw [ew_c (show jtxt 53 = jtxt 16 from rfl)] at hTR
  obtain ⟨p4, ep4⟩ : ∃ z, (ewP bs 16 p3) = z := ⟨_, rfl⟩
  rw [ep4] at hTR
  replace hPO : PO p4 := by rw [← ep4]; exact ewP_O hPO
  have hok4 : Imp (OKp p4) (OKp p3 ∧ K12 p3 p4) := fun q => by
    rw [← ep4] at q ⊢
    have h9 := ok_ew q
    exact ⟨h9.1, h9.2⟩
  have hf4 : Imp (p3.1 7 ≠ 0) (p4 = p3) := fun q => by rw [← ep4]; exact xP_f_ew q
  have hNRc : Imp (p4.1 7 = 0) (NR p4 gF A) := fun q => NR_K (hNRc (hok4 q).1) (hok4 q).2 rfl (fun _ _ => rfl)
  have hNIc : Imp (p4.1 7 = 0) (NI p4 ct) := fun q => NI_K (hNIc (hok4 q).1) (hok4 q).2 (Int.le_refl _) (Int.le_refl _)
  obtain ⟨hnm, hOm, hBm⟩ := id hX
  have hOm : M_46 m = jdO 9 (fX9 m _ _ fl (.ref f2)) := hOm
  obtain ⟨hnf, hOf, hAf⟩ := id hMF
  
  have h5r := (TR_5 hTR hPO).2.2
  have h57 := (TR_5 hTR hPO).1
  refine jr_iconst (pc := 49) h dX9_readBlock_49 ?_
  refine jr_istore (pc := 50) h [_, _, _, _, _, _, _, _, _] dX9_readBlock_50 (by decide) rfl ?_
  refine jr_iconst (pc := 52) h dX9_readBlock_52 ?_
  refine jr_istore (pc := 53) h [_, _, _, _, _, _, _, _, _] dX9_readBlock_53 (by decide) rfl ?_
  refine jr_aload_n (pc := 55) h dX9_readBlock_55 rfl ?_
  refine gf_X9_80 (pc := 56) h dX9_readBlock_56 (by assumption) (by omega) ?_
  refine jr_iconst (pc := 59) h dX9_readBlock_59 ?_
  refine jr_icmp_eq (pc := 60) h 67 dX9_readBlock_60 (by decide) (by omega) (by omega) (fun c_60 => ?_) (fun c_60 => ?_)
  · first | have d_60 := bz_0.mp c_60 | have d_60 := bz_1.mp c_60 | skip
    refine jr_iconst (pc := 67) h dX9_readBlock_67 ?_
    refine jr_istore (pc := 68) h [_, _, _, _, _, _, _, _, _] dX9_readBlock_68 (by decide) rfl ?_
    refine jr_iload (pc := 70) h dX9_readBlock_70 rfl ?_
    refine jr_if_eq (pc := 72) h 187 dX9_readBlock_72 (by decide) (by omega) (fun c_72 => ?_) (fun c_72 => ?_)
    · first | have d_72 := bz_0.mp c_72 | have d_72 := bz_1.mp c_72 | skip
      refine jr_aload_n (pc := 187) h dX9_readBlock_187 rfl ?_
      refine gf_X9_80 (pc := 188) h dX9_readBlock_188 (by assumption) (by omega) ?_
      refine jr_iconst (pc := 191) h dX9_readBlock_191 ?_
      refine jr_icmp_ne (pc := 192) h 196 dX9_readBlock_192 (by decide) (by omega) (by omega) (fun c_192 => ?_) (fun c_192 => ?_)
      · first | have d_192 := bz_0.mp c_192 | have d_192 := bz_1.mp c_192 | skip
        exfalso
        omega
      · first | have d_192 := bz_0.mp c_192 | have d_192 := bz_1.mp c_192 | skip
        refine jr_vret (pc := 195) h hRt dX9_readBlock_195 (Nat.le_of_ble_eq_true rfl) (Nat.le_of_ble_eq_true rfl) ?_
        have h57 := (TR_5 hTR hPO).1
        have hpf : p4.1 7 ≠ 0 := h57.1 (by omega)
        have e_end : (tlnP bs ct td 7 p).1 = p4 := by
          rcases hc0 with ⟨hlm, e0⟩ | ⟨hlm, e0⟩
          · have hb0 : p0.1 7 ≠ 0 := by rw [e0]; exact flP_x (by omega)
            have e1 := hf1 hb0
            have hb1 : p1.1 7 ≠ 0 := by rw [e1]; exact hb0
            have e2 := hf2 hb1
            have hb2 : p2.1 7 ≠ 0 := by rw [e2]; exact hb1
            have e3 := hf3 hb2
            have hb3 : p3.1 7 ≠ 0 := by rw [e3]; exact hb2
            have e4 := hf4 hb3
            have hb4 : p4.1 7 ≠ 0 := by rw [e4]; exact hb3
            rw [tln_0 (by omega) (by show (5 : Int) ≤ ct 7; omega)]
            show flP 5 p = p4
            rw [e4, e3, e2, e1, e0]
          · rw [tln_1 (by omega) (by show ¬ (5 : Int) ≤ ct 7; omega)]
            show (ln_7 bs ct (nxP bs p) (opT ct td 7)).1 = p4
            unfold ln_7
            rw [← e0]
            rw [ep1, ep2, ep3, ep4, tlP_f hpf, blR_f hpf]
        exact ⟨⟨rfl, rfl⟩, _, _, _, _, hX, hgk, (by rw [e_end]; exact hTR), hMF, hRB, fun q => absurd q (by rw [e_end]; exact hpf), fR⟩
    · first | have d_72 := bz_0.mp c_72 | have d_72 := bz_1.mp c_72 | skip
      exfalso
      omega
  · first | have d_60 := bz_0.mp c_60 | have d_60 := bz_1.mp c_60 | skip
    refine jr_iconst (pc := 63) h dX9_readBlock_63 ?_
    refine jr_goto (pc := 64) h 68 dX9_readBlock_64 (by decide) ?_
    refine jr_istore (pc := 68) h [_, _, _, _, _, _, _, _, _] dX9_readBlock_68 (by decide) rfl ?_
    first
    | (exfalso; omega)
    | (have hpe : p4.1 7 = 0 := Classical.byContradiction (fun q => by have := h57.2 q; omega)
       have hk4 := hok4 hpe
       have hk3 := hok3 hk4.1
       have hk2 := hok2 hk3.1
       have hk1 := hok1 hk2.1
       have hk0 := hok0 hk1.1
       have hl0 := hk0.1
       have hr1 := hk1.2.2.2
       have hr2 := hk2.2.2.2
       have hr3 := hk3.2.2.2
       have hv1 := hk1.2.2.1
       have hcS : 0 ≤ ct (Int.toNat 7) ∧ ct (Int.toNat 7) < 8 := by show 0 ≤ ct 7 ∧ ct 7 < 8; omega
       have hFIr := hFR.2.2.1.2.2.2
       have t0 : c_get (up (up (up (opT ct td 7) (c_ix ct 7 0) v1) (c_ix ct 7 1) v2) (c_ix ct 7 2) v3) 7 (ct 7) 0 = v1 := (gn_ne (by omega) hcS rfl (by omega) (by omega) (by omega)).trans ((gn_ne (by omega) hcS rfl (by omega) (by omega) (by omega)).trans (gn_eq (by omega) hcS rfl (by omega)))
       have t1 : c_get (up (up (up (opT ct td 7) (c_ix ct 7 0) v1) (c_ix ct 7 1) v2) (c_ix ct 7 2) v3) 7 (ct 7) 1 = v2 := (gn_ne (by omega) hcS rfl (by omega) (by omega) (by omega)).trans (gn_eq (by omega) hcS rfl (by omega))
       have t2 : c_get (up (up (up (opT ct td 7) (c_ix ct 7 0) v1) (c_ix ct 7 1) v2) (c_ix ct 7 2) v3) 7 (ct 7) 2 = v3 := gn_eq (by omega) hcS rfl (by omega)
       have tz : ∀ z : Int, 3 ≤ z → z < 12 → c_get (up (up (up (opT ct td 7) (c_ix ct 7 0) v1) (c_ix ct 7 1) v2) (c_ix ct 7 2) v3) 7 (ct 7) z = 0 := fun z h1 h2 => (gn_ne (by omega) hcS rfl (by omega) (by omega) (by omega)).trans ((gn_ne (by omega) hcS rfl (by omega) (by omega) (by omega)).trans ((gn_ne (by omega) hcS rfl (by omega) (by omega) (by omega)).trans (gn_op (by omega) hcS rfl (by omega))))
       have t3 := tz 3 (by omega) (by omega)
       have K187 : ∀ (u7 u8 : Option Value) (nl mk : Int) (tc : Nat → Int) (p5 : TS) (A1 : Nat → Nat → Int) (g1 : Nat → Int) (w1 : Int) (M1 : jdM), (MX M1 n m g1 w1 fl (.ref f2) B) → (gkp g g1) → (TR bs p5 g1 w1) → (PO p5) → (p5.1 7 = 0) → (MF M1 n f2 gF A1) → (fr (RFS m f2) M M1) → (nl = c_get tc 7 (ct 7) 3) → (BKI ct tc) → (MK ct tc mk) → (OUT ct 7 td tc) → (∀ j, 0 ≤ tc j ∧ tc j ≤ 999) → (c_get tc 7 (ct 7) 0 = v1 ∧ c_get tc 7 (ct 7) 1 = v2 ∧ c_get tc 7 (ct 7) 2 = v3) → (∀ j, j ≠ 16 → j ≠ 17 → A1 j = A j) → (∀ j : Nat, j < 4 * (ct 7).toNat → A1 16 j = A 16 j ∧ A1 17 j = A 17 j) → (∀ j : Nat, (j : Int) < c_get tc 7 (ct 7) 3 → A1 16 (4 * (ct 7).toNat + j) = c_get tc 7 (ct 7) (4 + 2 * j) ∧ A1 17 (4 * (ct 7).toNat + j) = c_get tc 7 (ct 7) (4 + 2 * j + 1)) → (K12 p p5) → (1 ≤ nl) → (ln_7 bs ct (nxP bs p) (opT ct td 7) = (p5, tc)) → J κ 9 0 0 n 70 [some (.ref m), some (jI v1), some (jI v2), some (jI v3), some (jI nl), some (jI mk), some (jI 0), u7, u8] [] M1 := by
         intro u7 u8 nl mk tc p5 A1 g1 w1 M1 hX hgk hTR hPO p57 hMF fR hnn hBK hMK hOUT hrn hw0 hAo hI16 hI17 hK5 hn1 hfin
         have h57 := (TR_5 hTR hPO).1
         have h5n : ¬ g1 9 = 5 := fun e => h57.1 e p57
         have h5r := (TR_5 hTR hPO).2.2
         obtain ⟨hnm, hOm, hBm⟩ := id hX
         have hOm : M1 m = jdO 9 (fX9 m _ _ fl (.ref f2)) := hOm
         obtain ⟨hnf, hOf, hAf⟩ := id hMF
         have hA12 : M1 (f2 + 12) = jdA 5 (A1 12) := hAf 12 (by omega) (by omega)
         have hA13 : M1 (f2 + 13) = jdA 5 (A1 13) := hAf 13 (by omega) (by omega)
         have hA14 : M1 (f2 + 14) = jdA 5 (A1 14) := hAf 14 (by omega) (by omega)
         have hA15 : M1 (f2 + 15) = jdA 5 (A1 15) := hAf 15 (by omega) (by omega)
         refine jr_iload (pc := 70) h dX9_readBlock_70 rfl ?_
         refine jr_if_eq (pc := 72) h 187 dX9_readBlock_72 (by decide) (by omega) (fun c_72 => ?_) (fun c_72 => ?_)
         · first | have d_72 := bz_0.mp c_72 | have d_72 := bz_1.mp c_72 | skip
           refine jr_aload_n (pc := 187) h dX9_readBlock_187 rfl ?_
           refine gf_X9_80 (pc := 188) h dX9_readBlock_188 (by assumption) (by omega) ?_
           refine jr_iconst (pc := 191) h dX9_readBlock_191 ?_
           refine jr_icmp_ne (pc := 192) h 196 dX9_readBlock_192 (by decide) (by omega) (by omega) (fun c_192 => ?_) (fun c_192 => ?_)
           · first | have d_192 := bz_0.mp c_192 | have d_192 := bz_1.mp c_192 | skip
             refine jr_aload_n (pc := 196) h dX9_readBlock_196 rfl ?_
             refine gf_X9_174 (pc := 197) h dX9_readBlock_197 (by assumption) (by omega) ?_
             refine gf_X9_354 (pc := 200) h dX9_readBlock_200 (by assumption) (by omega) ?_
             refine jr_aload_n (pc := 203) h dX9_readBlock_203 rfl ?_
             refine gf_X9_174 (pc := 204) h dX9_readBlock_204 (by assumption) (by omega) ?_
             refine gf_X9_339 (pc := 207) h dX9_readBlock_207 (by assumption) (by omega) ?_
             refine jr_iload_n (pc := 210) h dX9_readBlock_210 rfl ?_
             refine jr_iast (pc := 211) h dX9_readBlock_211 hA12 (by omega) (by omega) ?_
             refine jm_gen (fun M2 hM2 => ?_)
             have hMF := MF_A (i := 12) hMF hM2 (by omega)
             have f9 : fr (MFS f2) _ M2 := fr_up (S := MFS f2) hM2 ⟨by omega, by omega⟩
             have hX := MX_fr hX f9 (Nat.le_refl _) (fun k h1 h2 q => by have := q.1; have := q.2; omega)
             have fR := fr_tr fR (fr_mo f9 (fun k q => Or.inr q))
             obtain ⟨hnm, hOm, hBm⟩ := id hX
             have hOm : M2 m = jdO 9 (fX9 m _ _ fl (.ref f2)) := hOm
             obtain ⟨hnf, hOf, hAf⟩ := id hMF
             have hA13 : M2 (f2 + 13) = jdA 5 (A1 13) := hAf 13 (by omega) (by omega)
             have hA14 : M2 (f2 + 14) = jdA 5 (A1 14) := hAf 14 (by omega) (by omega)
             have hA15 : M2 (f2 + 15) = jdA 5 (A1 15) := hAf 15 (by omega) (by omega)
             refine jr_aload_n (pc := 212) h dX9_readBlock_212 rfl ?_
             refine gf_X9_174 (pc := 213) h dX9_readBlock_213 (by assumption) (by omega) ?_
             refine gf_X9_357 (pc := 216) h dX9_readBlock_216 (by assumption) (by omega) ?_
             refine jr_aload_n (pc := 219) h dX9_readBlock_219 rfl ?_
             refine gf_X9_174 (pc := 220) h dX9_readBlock_220 (by assumption) (by omega) ?_
             refine gf_X9_339 (pc := 223) h dX9_readBlock_223 (by assumption) (by omega) ?_
             refine jr_iload_n (pc := 226) h dX9_readBlock_226 rfl ?_
             refine jr_iast (pc := 227) h dX9_readBlock_227 hA13 (by omega) (by omega) ?_
             refine jm_gen (fun M2 hM2 => ?_)
             have hMF := MF_A (i := 13) hMF hM2 (by omega)
             have f9 : fr (MFS f2) _ M2 := fr_up (S := MFS f2) hM2 ⟨by omega, by omega⟩
             have hX := MX_fr hX f9 (Nat.le_refl _) (fun k h1 h2 q => by have := q.1; have := q.2; omega)
             have fR := fr_tr fR (fr_mo f9 (fun k q => Or.inr q))
             obtain ⟨hnm, hOm, hBm⟩ := id hX
             have hOm : M2 m = jdO 9 (fX9 m _ _ fl (.ref f2)) := hOm
             obtain ⟨hnf, hOf, hAf⟩ := id hMF
             have hA14 : M2 (f2 + 14) = jdA 5 (A1 14) := hAf 14 (by omega) (by omega)
             have hA15 : M2 (f2 + 15) = jdA 5 (A1 15) := hAf 15 (by omega) (by omega)
             refine jr_aload_n (pc := 228) h dX9_readBlock_228 rfl ?_
             refine gf_X9_174 (pc := 229) h dX9_readBlock_229 (by assumption) (by omega) ?_
             refine gf_X9_360 (pc := 232) h dX9_readBlock_232 (by assumption) (by omega) ?_
             refine jr_aload_n (pc := 235) h dX9_readBlock_235 rfl ?_
             refine gf_X9_174 (pc := 236) h dX9_readBlock_236 (by assumption) (by omega) ?_
             refine gf_X9_339 (pc := 239) h dX9_readBlock_239 (by assumption) (by omega) ?_
             refine jr_iload_n (pc := 242) h dX9_readBlock_242 rfl ?_
             refine jr_iast (pc := 243) h dX9_readBlock_243 hA14 (by omega) (by omega) ?_
             refine jm_gen (fun M2 hM2 => ?_)
             have hMF := MF_A (i := 14) hMF hM2 (by omega)
             have f9 : fr (MFS f2) _ M2 := fr_up (S := MFS f2) hM2 ⟨by omega, by omega⟩
             have hX := MX_fr hX f9 (Nat.le_refl _) (fun k h1 h2 q => by have := q.1; have := q.2; omega)
             have fR := fr_tr fR (fr_mo f9 (fun k q => Or.inr q))
             obtain ⟨hnm, hOm, hBm⟩ := id hX
             have hOm : M2 m = jdO 9 (fX9 m _ _ fl (.ref f2)) := hOm
             obtain ⟨hnf, hOf, hAf⟩ := id hMF
             have hA15 : M2 (f2 + 15) = jdA 5 (A1 15) := hAf 15 (by omega) (by omega)
             refine jr_aload_n (pc := 244) h dX9_readBlock_244 rfl ?_
             refine gf_X9_174 (pc := 245) h dX9_readBlock_245 (by assumption) (by omega) ?_
             refine gf_X9_362 (pc := 248) h dX9_readBlock_248 (by assumption) (by omega) ?_
             refine jr_aload_n (pc := 251) h dX9_readBlock_251 rfl ?_
             refine gf_X9_174 (pc := 252) h dX9_readBlock_252 (by assumption) (by omega) ?_
             refine gf_X9_339 (pc := 255) h dX9_readBlock_255 (by assumption) (by omega) ?_
             refine jr_iload (pc := 258) h dX9_readBlock_258 rfl ?_
             refine jr_iast (pc := 260) h dX9_readBlock_260 hA15 (by omega) (by omega) ?_
             refine jm_gen (fun M2 hM2 => ?_)
             have hMF := MF_A (i := 15) hMF hM2 (by omega)
             have f9 : fr (MFS f2) _ M2 := fr_up (S := MFS f2) hM2 ⟨by omega, by omega⟩
             have hX := MX_fr hX f9 (Nat.le_refl _) (fun k h1 h2 q => by have := q.1; have := q.2; omega)
             have fR := fr_tr fR (fr_mo f9 (fun k q => Or.inr q))
             obtain ⟨hnm, hOm, hBm⟩ := id hX
             have hOm : M2 m = jdO 9 (fX9 m _ _ fl (.ref f2)) := hOm
             obtain ⟨hnf, hOf, hAf⟩ := id hMF
             
             refine jr_aload_n (pc := 261) h dX9_readBlock_261 rfl ?_
             refine gf_X9_174 (pc := 262) h dX9_readBlock_262 (by assumption) (by omega) ?_
             refine jr_dup (pc := 265) h dX9_readBlock_265 rfl ?_
             refine gf_X9_339 (pc := 266) h dX9_readBlock_266 (by assumption) (by omega) ?_
             refine jr_iconst (pc := 269) h dX9_readBlock_269 ?_
             refine jr_iadd (pc := 270) h dX9_readBlock_270 ?_
             refine pf_X9_339 (pc := 271) h dX9_readBlock_271 hOf (by omega) ?_
             refine jm_gen (fun M2 hM2 => ?_)
             rw [fX8_10] at hM2
             have hMF := MF_g hMF hM2
             have f9 : fr (MFS f2) _ M2 := fr_up (S := MFS f2) hM2 ⟨by omega, by omega⟩
             have hX := MX_fr hX f9 (Nat.le_refl _) (fun k h1 h2 q => by have := q.1; have := q.2; omega)
             have fR := fr_tr fR (fr_mo f9 (fun k q => Or.inr q))
             obtain ⟨hnm, hOm, hBm⟩ := id hX
             have hOm : M2 m = jdO 9 (fX9 m _ _ fl (.ref f2)) := hOm
             obtain ⟨hnf, hOf, hAf⟩ := id hMF
             refine jr_vret (pc := 274) h hRt dX9_readBlock_274 (Nat.le_of_ble_eq_true rfl) (Nat.le_of_ble_eq_true rfl) ?_
             have e_tln : tlnP bs ct td 7 p = (p5, up ct 7 (ct 7 + 1), tc) := by
               rw [tln_1 (by omega) (by show ¬ (5 : Int) ≤ ct 7; omega), show lnP bs ct (nxP bs p) (opT ct td 7) 7 = (p5, tc) from hfin]
               unfold tlnC
               show (p5, (if p5.1 7 = 0 then up ct 7 (ct 7 + 1) else ct), tc) = _
               rw [if_pos p57]
             rw [e_tln]
             refine ⟨⟨rfl, rfl⟩, _, _, _, _, hX, hgk, hTR, hMF, ?_, fun _ => ?_, fR⟩
             · refine RB_up (k := 10) hRB ⟨by omega, by omega⟩ (by show gF 10 < 5; omega) (fun i hi => by rw [up_ne (by omega), up_ne (by omega), up_ne (by omega), up_ne (by omega), hAo 8 (by omega) (by omega)]; exact hRB.2.2.2.2 i hi) (fun j hj => by rw [up_ne (by omega), up_ne (by omega), up_ne (by omega), up_ne (by omega), hAo j (by omega) (by omega)])
             · show FR p5 (up ct 7 (ct 7 + 1)) tc _ _
               refine FR_upd (s := 7) hFR ⟨by omega, by omega⟩ (by show ct 7 < 5; omega) hOUT hrn (LI_7 hBK (by omega) (by omega) (by omega) (by omega) (by omega)) (fun q => absurd q (by decide)) (fun j h1 h2 h3 => by
                 rw [up_ne (fun e => h3 (by rw [e]; rfl)), up_ne (fun e => h3 (by rw [e]; rfl)), up_ne (fun e => h3 (by rw [e]; rfl)), up_ne (fun e => h3 (by rw [e]; rfl)), hAo j (fun e => h3 (by rw [e]; rfl)) (fun e => h3 (by rw [e]; rfl))]) ?_ (by show up gF 10 (gF 10 + 1) 10 = gF 10 + 1; exact up_eq) (fun j hj hne => up_ne (by omega)) (NR_K hNRp hK5 (up_ne (by omega)) (fun j hj => by rw [up_ne (by omega), up_ne (by omega), up_ne (by omega), up_ne (by omega), hAo j (by omega) (by omega)])) (NI_K hNIp hK5 (by rw [up_ne (by omega)]; exact Int.le_refl _) (by rw [up_ne (by omega)]; exact Int.le_refl _)) (by rw [if_neg (by omega), hK5.2]; omega)
               refine ⟨fun q => absurd q (by decide), fun q => absurd q (by decide), fun q => absurd q (by decide), fun q => absurd q (by decide), fun q => absurd q (by decide), fun _ => ?_, fun q => absurd q (by decide), fun q => absurd q (by decide), fun q => absurd q (by decide), fun q => absurd q (by decide), fun q => absurd q (by decide)⟩
               rw [hw0.1, hw0.2.1, hw0.2.2, ← hnn]
               refine ⟨by show up (A1 12) (gF 10).toNat v1 = _; rw [hAo 12 (by omega) (by omega), k10], by show up (A1 13) (gF 10).toNat v2 = _; rw [hAo 13 (by omega) (by omega), k10], by show up (A1 14) (gF 10).toNat v3 = _; rw [hAo 14 (by omega) (by omega), k10], by show up (A1 15) (gF 10).toNat nl = _; rw [hAo 15 (by omega) (by omega), k10], fun j hj => ?_, fun j hj => ?_⟩
               · show A1 16 j = A 16 j ∧ A1 17 j = A 17 j
                 exact hI16 j hj
               · show A1 16 (4 * (ct 7).toNat + j) = _ ∧ A1 17 (4 * (ct 7).toNat + j) = _
                 exact hI17 j (by omega)
           · first | have d_192 := bz_0.mp c_192 | have d_192 := bz_1.mp c_192 | skip
             refine jr_vret (pc := 195) h hRt dX9_readBlock_195 (Nat.le_of_ble_eq_true rfl) (Nat.le_of_ble_eq_true rfl) ?_
             exfalso
             omega
         · first | have d_72 := bz_0.mp c_72 | have d_72 := bz_1.mp c_72 | skip
           exfalso
           omega
       have lp : ∀ (dq : Nat) (nl mk : Int) (u7 : Option Value) (u8 : Option Value) (tc : Nat → Int) (p5 : TS) (A1 : Nat → Nat → Int) (g1 : Nat → Int) (w1 : Int) (M1 : jdM), (MX M1 n m g1 w1 fl (.ref f2) B) → (gkp g g1) → (TR bs p5 g1 w1) → (PO p5) → (p5.1 7 = 0) → (MF M1 n f2 gF A1) → (fr (RFS m f2) M M1) → (nl = c_get tc 7 (ct 7) 3) → (BKI ct tc) → (MK ct tc mk) → (OUT ct 7 td tc) → (∀ j, 0 ≤ tc j ∧ tc j ≤ 999) → (c_get tc 7 (ct 7) 0 = v1 ∧ c_get tc 7 (ct 7) 1 = v2 ∧ c_get tc 7 (ct 7) 2 = v3) → (∀ j, j ≠ 16 → j ≠ 17 → A1 j = A j) → (∀ j : Nat, j < 4 * (ct 7).toNat → A1 16 j = A 16 j ∧ A1 17 j = A 17 j) → (∀ j : Nat, (j : Int) < c_get tc 7 (ct 7) 3 → A1 16 (4 * (ct 7).toNat + j) = c_get tc 7 (ct 7) (4 + 2 * j) ∧ A1 17 (4 * (ct 7).toNat + j) = c_get tc 7 (ct 7) (4 + 2 * j + 1)) → (K12 p p5) → (ln_7 bs ct (nxP bs p) (opT ct td 7) = blR bs ct (4 - nl).toNat (tlP bs ct tc p5).1 (tlP bs ct tc p5).2) → (10 - nl).toNat < dq → J κ 9 0 0 n 70 [some (.ref m), some (jI v1), some (jI v2), some (jI v3), some (jI nl), some (jI mk), some (jI 1), u7, u8] [] M1 := by
         intro dq
         induction dq with
         | zero => intro nl mk u7 u8 tc p5 A1 g1 w1 M1 hX hgk hTR hPO p57 hMF fR hnn hBK hMK hOUT hrn hw0 hAo hI16 hI17 hK5 hfin hd; omega
         | succ dq ih =>
           intro nl mk u7 u8 tc p5 A1 g1 w1 M1 hX hgk hTR hPO p57 hMF fR hnn hBK hMK hOUT hrn hw0 hAo hI16 hI17 hK5 hfin hd
           obtain ⟨hnm, hOm, hBm⟩ := id hX
           have hOm : M1 m = jdO 9 (fX9 m _ _ fl (.ref f2)) := hOm
           obtain ⟨hnf, hOf, hAf⟩ := id hMF
           have hA16 : M1 (f2 + 16) = jdA 20 (A1 16) := hAf 16 (by omega) (by omega)
           have hA17 : M1 (f2 + 17) = jdA 20 (A1 17) := hAf 17 (by omega) (by omega)
           have hNB1 := NB_k hNB rfl (fun j hj => hAo j (by omega) (by omega))
           have h2r := hFR.2.2.1.1 2 (by omega)
           rw [show (jtab 0).2.2 2 = 4 from rfl] at h2r
           have hnl0 := hBK.1.1
           refine jr_iload (pc := 70) h dX9_readBlock_70 rfl ?_
           refine jr_if_eq (pc := 72) h 187 dX9_readBlock_72 (by decide) (by omega) (fun c_72 => ?_) (fun c_72 => ?_)
           · first | have d_72 := bz_0.mp c_72 | have d_72 := bz_1.mp c_72 | skip
             exfalso
             omega
           · first | have d_72 := bz_0.mp c_72 | have d_72 := bz_1.mp c_72 | skip
             refine jr_aload_n (pc := 75) h dX9_readBlock_75 rfl ?_
             refine jr_iconst (pc := 76) h dX9_readBlock_76 ?_
             refine iv_X9_196 (pc := 77) h hl hR dX9_readBlock_77 ⟨(Nat.le_of_ble_eq_true rfl), (Nat.le_of_ble_eq_true rfl), (Nat.le_of_ble_eq_true rfl), (Nat.le_of_ble_eq_true rfl)⟩ (Nat.le_of_ble_eq_true rfl) (by assumption) (by omega) (s_X9_known hX hbt hbb hTR hPO hMF hsep hNB1 (fun _ => NR_K hNRp hK5 rfl (fun j hj => hAo j (by omega) (by omega))) (s := 2) (x := 0) (by omega) rfl) (fun v_77 n_77 M_77 hn_77 hp => ?_)
             obtain ⟨v7, ⟨rfl, rfl⟩, hvr7, hve7, g1, w1, hX, hg1, hTR, f9⟩ := hp
             have fR := fr_tr fR (fr_mo f9 (fun k q => Or.inl q))
             have hgk := gkp_t hgk hg1
             have hMF := MF_fr hMF f9 (Nat.le_refl _) (fun k h1 h2 q => by have := q.1; have := q.2; omega)
             obtain ⟨hnm, hOm, hBm⟩ := id hX
             have hOm : M_77 m = jdO 9 (fX9 m _ _ fl (.ref f2)) := hOm
             obtain ⟨hnf, hOf, hAf⟩ := id hMF
             have hA16 : M_77 (f2 + 16) = jdA 20 (A1 16) := hAf 16 (by omega) (by omega)
             have hA17 : M_77 (f2 + 17) = jdA 20 (A1 17) := hAf 17 (by omega) (by omega)
             have hPO5 := hPO
             replace hPO := snP_O (bs := bs) (a := 2) hPO
             have hbb9 := bitI_b (m := mk) (k := v7)
             have hsn : Imp ((snP bs 2 p5).2.1 7 = 0) ((0 ≤ v7 ∧ v7 < ct 2) ∧ v7 = (snP bs 2 p5).1 ∧ (snP bs 2 p5).2 = p5 ∧ (bitI mk v7 = 1 ↔ 0 < c_win tc (ct 7) (snP bs 2 p5).1)) := fun q => by
               have h1 := ok_sn q
               obtain ⟨-, -, h4, i9, h5, h6, h7⟩ := h1
               have e := hve7 q
               have hb : 0 ≤ v7 ∧ v7 < ct 2 := by
                 rw [e, h7, hK5.1]
                 rw [hK5.2] at h5
                 rw [hK5.1] at h6
                 exact (hNIp i9 h5).1 h6
               refine ⟨hb, e, h4, ?_⟩
               rw [hMK.2 v7 hb.1 (by omega), ← e]
               constructor
               · exact fun hx => LKI_w hBK.1 hx
               · intro hx
                 refine Classical.byContradiction (fun hn => ?_)
                 rw [win_0 hBK.1 (fun i a b c => hn ⟨i, a, b, c⟩)] at hx
                 omega
             clear hve7
             refine jr_istore (pc := 80) h [_, _, _, _, _, _, _, _, _] dX9_readBlock_80 (by decide) rfl ?_
             have K98 : ∀ (g1 : Nat → Int) (w1 : Int) (M1 : jdM), MX M1 n m g1 w1 fl (.ref f2) B → gkp g g1 → TR bs (tlQ bs ct tc p5) g1 w1 → PO (tlQ bs ct tc p5) → MF M1 n f2 gF A1 → fr (RFS m f2) M M1 → J κ 9 0 0 n 98 [some (.ref m), some (jI v1), some (jI v2), some (jI v3), some (jI nl), some (jI mk), some (jI 1), some (jI v7), u8] [] M1 := by
               intro g1 w1 M1 hX hgk hTR hPO hMF fR
               obtain ⟨hnm, hOm, hBm⟩ := id hX
               have hOm : M1 m = jdO 9 (fX9 m _ _ fl (.ref f2)) := hOm
               obtain ⟨hnf, hOf, hAf⟩ := id hMF
               have hA16 : M1 (f2 + 16) = jdA 20 (A1 16) := hAf 16 (by omega) (by omega)
               have hA17 : M1 (f2 + 17) = jdA 20 (A1 17) := hAf 17 (by omega) (by omega)
               refine jr_aload_n (pc := 98) h dX9_readBlock_98 rfl ?_
               refine iv_X9_123 (pc := 99) h hl hR dX9_readBlock_99 ⟨(Nat.le_of_ble_eq_true rfl), (Nat.le_of_ble_eq_true rfl), (Nat.le_of_ble_eq_true rfl), (Nat.le_of_ble_eq_true rfl)⟩ (Nat.le_of_ble_eq_true rfl) (by assumption) (by omega) (s_X9_goesOn hX hbt hbb (p := (tlQ bs ct tc p5)) hTR hPO (fun q => by have h1 := tlQ_k q; rw [h1.2.2, (ok_sn h1.1).2.2.1]; have := (snP_ok h1.1).2.2.1; omega)) (fun v_99 n_99 M_99 hn_99 hp => ?_)
               obtain ⟨⟨rfl, rfl⟩, g1, w1, hX, hg1, hTR, f9⟩ := hp
               have fR := fr_tr fR (fr_mo f9 (fun k q => Or.inl q))
               have hgk := gkp_t hgk hg1
               have hMF := MF_fr hMF f9 (Nat.le_refl _) (fun k h1 h2 q => by have := q.1; have := q.2; omega)
               obtain ⟨hnm, hOm, hBm⟩ := id hX
               have hOm : M_99 m = jdO 9 (fX9 m _ _ fl (.ref f2)) := hOm
               obtain ⟨hnf, hOf, hAf⟩ := id hMF
               have hA16 : M_99 (f2 + 16) = jdA 20 (A1 16) := hAf 16 (by omega) (by omega)
               have hA17 : M_99 (f2 + 17) = jdA 20 (A1 17) := hAf 17 (by omega) (by omega)
               replace hPO := goP_O (bs := bs) hPO
               refine jr_aload_n (pc := 102) h dX9_readBlock_102 rfl ?_
               refine jr_iconst (pc := 103) h dX9_readBlock_103 ?_
               refine jr_bipush (pc := 104) h dX9_readBlock_104 bp_9 ?_
               refine iv_X9_138 (pc := 106) h hl hR dX9_readBlock_106 ⟨(Nat.le_of_ble_eq_true rfl), (Nat.le_of_ble_eq_true rfl), (Nat.le_of_ble_eq_true rfl), (Nat.le_of_ble_eq_true rfl)⟩ (Nat.le_of_ble_eq_true rfl) (by assumption) (by omega) (s_X9_readWhole hX hbt hbb (p := goP bs (tlQ bs ct tc p5)) (x := 1) (y := 9) hTR hPO (by omega) (by omega)) (fun v_106 n_106 M_106 hn_106 hp => ?_)
               obtain ⟨v8, ⟨rfl, rfl⟩, hvr8, hve8, g1, w1, hX, hg1, hTR, f9⟩ := hp
               have fR := fr_tr fR (fr_mo f9 (fun k q => Or.inl q))
               have hgk := gkp_t hgk hg1
               have hMF := MF_fr hMF f9 (Nat.le_refl _) (fun k h1 h2 q => by have := q.1; have := q.2; omega)
               obtain ⟨hnm, hOm, hBm⟩ := id hX
               have hOm : M_106 m = jdO 9 (fX9 m _ _ fl (.ref f2)) := hOm
               obtain ⟨hnf, hOf, hAf⟩ := id hMF
               have hA16 : M_106 (f2 + 16) = jdA 20 (A1 16) := hAf 16 (by omega) (by omega)
               have hA17 : M_106 (f2 + 17) = jdA 20 (A1 17) := hAf 17 (by omega) (by omega)
               rw [← tlP_1] at hTR
               replace hPO : PO (tlP bs ct tc p5).1 := tlP_O hPO5
               have h57 := (TR_5 hTR hPO).1
               have h5r := (TR_5 hTR hPO).2.2
               have hve9 : Imp ((tlP bs ct tc p5).1.1 7 = 0) (v8 = (ehP bs 1 9 (goP bs (tlQ bs ct tc p5))).1) := fun q => hve8 (by rw [← tlP_1]; exact q)
               clear hve8
               refine jr_istore (pc := 109) h [_, _, _, _, _, _, _, _, _] dX9_readBlock_109 (by decide) rfl ?_
               refine jr_aload_n (pc := 111) h dX9_readBlock_111 rfl ?_
               refine gf_X9_80 (pc := 112) h dX9_readBlock_112 (by assumption) (by omega) ?_
               refine jr_iconst (pc := 115) h dX9_readBlock_115 ?_
               refine jr_icmp_ne (pc := 116) h 120 dX9_readBlock_116 (by decide) (by omega) (by omega) (fun c_116 => ?_) (fun c_116 => ?_)
               · first | have d_116 := bz_0.mp c_116 | have d_116 := bz_1.mp c_116 | skip
                 have hp7 : (tlP bs ct tc p5).1.1 7 = 0 := Classical.byContradiction (fun q => by have := h57.2 q; omega)
                 have hoe := ok_eh (bs := bs) (lo := 1) (hi := 9) (p := goP bs (tlQ bs ct tc p5)) (by rw [← tlP_1]; exact hp7)
                 have hq7 : (tlQ bs ct tc p5).1 7 = 0 := Classical.byContradiction (fun q => by have := hoe.1; rw [goP_1 q] at this; exact q this)
                 have hqk := tlQ_k hq7
                 have hs7 := hsn hqk.1
                 have hb1 : bitI mk v7 ≠ 1 := fun q => hqk.2.1 (hs7.2.2.2.1 q)
                 have ht2 := tlP_2 hq7
                 have ev8 := hve9 hp7
                 rw [← hs7.2.1, ← ev8] at ht2
                 have hr8 : 1 ≤ v8 ∧ v8 ≤ 9 := by rw [ev8]; exact hoe.2.1
                 have hr7 := hs7.1
                 have hl0 := hBK.1.1
                 have hn3 : c_get tc 7 (ct 7) 3 ≤ 3 := (LKI_4 hBK.1 (a := v7) (by omega)).resolve_right (by rw [hs7.2.1]; exact hqk.2.1)
                 have hMK2 := MK_al (a := v7) (x := v8) hMK (by omega) ⟨hl0.1, hn3⟩ (by omega) hb1
                 have hne7 : ∀ i : Int, 0 ≤ i → i < c_get tc 7 (ct 7) 3 → c_get tc 7 (ct 7) (4 + 2 * i) ≠ v7 := fun i a b c => hb1 ((hMK.2 v7 hr7.1 (by omega)).2 ⟨i, a, b, c⟩)
                 have hBK2 := BKI_al (a := v7) (x := v8) hBK (by omega) hn3 hr7 (by omega) hr8 hne7
                 have hg9 := alT_g (ct := ct) (td := tc) (a := v7) (x := v8) (by omega) ⟨hl0.1, hn3⟩
                 have hK6 : K12 p (tlP bs ct tc p5).1 := by
                   rw [tlP_1]
                   refine K12_t hK5 (K12_t ?_ hoe.2.2)
                   rw [goP_0 hq7, hqk.2.2, hs7.2.2.1]
                   exact K12_nx
                 refine jr_iload (pc := 120) h dX9_readBlock_120 rfl ?_
                 refine jr_iconst (pc := 122) h dX9_readBlock_122 ?_
                 refine jr_iload (pc := 123) h dX9_readBlock_123 rfl ?_
                 refine jr_ishl (pc := 125) h dX9_readBlock_125 ?_
                 refine jr_ior (pc := 126) h dX9_readBlock_126 ?_
                 rw [bit_oI hMK.1 (by omega) hb1]
                 refine jr_istore (pc := 127) h [_, _, _, _, _, _, _, _, _] dX9_readBlock_127 (by decide) rfl ?_
                 refine jr_aload_n (pc := 129) h dX9_readBlock_129 rfl ?_
                 refine gf_X9_174 (pc := 130) h dX9_readBlock_130 (by assumption) (by omega) ?_
                 refine gf_X9_348 (pc := 133) h dX9_readBlock_133 (by assumption) (by omega) ?_
                 refine jr_iconst (pc := 136) h dX9_readBlock_136 ?_
                 refine jr_aload_n (pc := 137) h dX9_readBlock_137 rfl ?_
                 refine gf_X9_174 (pc := 138) h dX9_readBlock_138 (by assumption) (by omega) ?_
                 refine gf_X9_339 (pc := 141) h dX9_readBlock_141 (by assumption) (by omega) ?_
                 refine jr_imul (pc := 144) h dX9_readBlock_144 ?_
                 refine jr_iload (pc := 145) h dX9_readBlock_145 rfl ?_
                 refine jr_iadd (pc := 147) h dX9_readBlock_147 ?_
                 refine jr_iload (pc := 148) h dX9_readBlock_148 rfl ?_
                 refine jr_iast (pc := 150) h dX9_readBlock_150 hA16 (by omega) (by omega) ?_
                 refine jm_gen (fun M2 hM2 => ?_)
                 have hMF := MF_A (i := 16) hMF hM2 (by omega)
                 have f9 : fr (MFS f2) _ M2 := fr_up (S := MFS f2) hM2 ⟨by omega, by omega⟩
                 have hX := MX_fr hX f9 (Nat.le_refl _) (fun k h1 h2 q => by have := q.1; have := q.2; omega)
                 have fR := fr_tr fR (fr_mo f9 (fun k q => Or.inr q))
                 obtain ⟨hnm, hOm, hBm⟩ := id hX
                 have hOm : M2 m = jdO 9 (fX9 m _ _ fl (.ref f2)) := hOm
                 obtain ⟨hnf, hOf, hAf⟩ := id hMF
                 have hA17 : M2 (f2 + 17) = jdA 20 (A1 17) := hAf 17 (by omega) (by omega)
                 refine jr_aload_n (pc := 151) h dX9_readBlock_151 rfl ?_
                 refine gf_X9_174 (pc := 152) h dX9_readBlock_152 (by assumption) (by omega) ?_
                 refine gf_X9_351 (pc := 155) h dX9_readBlock_155 (by assumption) (by omega) ?_
                 refine jr_iconst (pc := 158) h dX9_readBlock_158 ?_
                 refine jr_aload_n (pc := 159) h dX9_readBlock_159 rfl ?_
                 refine gf_X9_174 (pc := 160) h dX9_readBlock_160 (by assumption) (by omega) ?_
                 refine gf_X9_339 (pc := 163) h dX9_readBlock_163 (by assumption) (by omega) ?_
                 refine jr_imul (pc := 166) h dX9_readBlock_166 ?_
                 refine jr_iload (pc := 167) h dX9_readBlock_167 rfl ?_
                 refine jr_iadd (pc := 169) h dX9_readBlock_169 ?_
                 refine jr_iload (pc := 170) h dX9_readBlock_170 rfl ?_
                 refine jr_iast (pc := 172) h dX9_readBlock_172 hA17 (by omega) (by omega) ?_
                 refine jm_gen (fun M2 hM2 => ?_)
                 have hMF := MF_A (i := 17) hMF hM2 (by omega)
                 have f9 : fr (MFS f2) _ M2 := fr_up (S := MFS f2) hM2 ⟨by omega, by omega⟩
                 have hX := MX_fr hX f9 (Nat.le_refl _) (fun k h1 h2 q => by have := q.1; have := q.2; omega)
                 have fR := fr_tr fR (fr_mo f9 (fun k q => Or.inr q))
                 obtain ⟨hnm, hOm, hBm⟩ := id hX
                 have hOm : M2 m = jdO 9 (fX9 m _ _ fl (.ref f2)) := hOm
                 obtain ⟨hnf, hOf, hAf⟩ := id hMF
                 
                 refine jr_iinc (pc := 173) h [_, _, _, _, _, _, _, _, _] dX9_readBlock_173 (by decide) rfl rfl ?_
                 refine jr_aload_n (pc := 176) h dX9_readBlock_176 rfl ?_
                 refine jr_bipush (pc := 177) h dX9_readBlock_177 bp_44 ?_
                 refine iv_X9_202 (pc := 179) h hl hR dX9_readBlock_179 ⟨(Nat.le_of_ble_eq_true rfl), (Nat.le_of_ble_eq_true rfl), (Nat.le_of_ble_eq_true rfl), (Nat.le_of_ble_eq_true rfl)⟩ (Nat.le_of_ble_eq_true rfl) (by assumption) (by omega) (s_X9_eatsSign hX hbt hbb (p := (tlP bs ct tc p5).1) hTR hPO (c := 44) (by omega)) (fun v_179 n_179 M_179 hn_179 hp => ?_)
                 obtain ⟨⟨rfl, rfl⟩, g1, w1, hX, hg1, hTR, f9⟩ := hp
                 have fR := fr_tr fR (fr_mo f9 (fun k q => Or.inl q))
                 have hgk := gkp_t hgk hg1
                 have hMF := MF_fr hMF f9 (Nat.le_refl _) (fun k h1 h2 q => by have := q.1; have := q.2; omega)
                 obtain ⟨hnm, hOm, hBm⟩ := id hX
                 have hOm : M_179 m = jdO 9 (fX9 m _ _ fl (.ref f2)) := hOm
                 obtain ⟨hnf, hOf, hAf⟩ := id hMF
                 
                 refine jr_istore (pc := 182) h [_, _, _, _, _, _, _, _, _] dX9_readBlock_182 (by decide) rfl ?_
                 refine jr_goto (pc := 184) h 70 dX9_readBlock_184 (by decide) ?_
                 have hAo2 : ∀ j, j ≠ 16 → j ≠ 17 → (up (up A1 16 (up (A1 16) (4 * gF 10 + nl).toNat v7)) 17 (up (A1 17) (4 * gF 10 + nl).toNat v8)) j = A j := fun j a b => by rw [up_ne b, up_ne a]; exact hAo j a b
                 have ei : (4 * gF 10 + nl).toNat = 4 * (ct 7).toNat + nl.toNat := by omega
                 have hA16' : ∀ j : Nat, j < 4 * (ct 7).toNat → (up (up A1 16 (up (A1 16) (4 * gF 10 + nl).toNat v7)) 17 (up (A1 17) (4 * gF 10 + nl).toNat v8)) 16 j = A 16 j ∧ (up (up A1 16 (up (A1 16) (4 * gF 10 + nl).toNat v7)) 17 (up (A1 17) (4 * gF 10 + nl).toNat v8)) 17 j = A 17 j := fun j hj => by
                   show up (A1 16) (4 * gF 10 + nl).toNat v7 j = _ ∧ up (A1 17) (4 * gF 10 + nl).toNat v8 j = _
                   rw [up_ne (by omega), up_ne (by omega)]
                   exact hI16 j hj
                 have hA17' : ∀ j : Nat, (j : Int) < c_get (alT ct tc v7 v8) 7 (ct 7) 3 → (up (up A1 16 (up (A1 16) (4 * gF 10 + nl).toNat v7)) 17 (up (A1 17) (4 * gF 10 + nl).toNat v8)) 16 (4 * (ct 7).toNat + j) = c_get (alT ct tc v7 v8) 7 (ct 7) (4 + 2 * j) ∧ (up (up A1 16 (up (A1 16) (4 * gF 10 + nl).toNat v7)) 17 (up (A1 17) (4 * gF 10 + nl).toNat v8)) 17 (4 * (ct 7).toNat + j) = c_get (alT ct tc v7 v8) 7 (ct 7) (4 + 2 * j + 1) := fun j hj => by
                   show up (A1 16) (4 * gF 10 + nl).toNat v7 (4 * (ct 7).toNat + j) = _ ∧ up (A1 17) (4 * gF 10 + nl).toNat v8 (4 * (ct 7).toNat + j) = _
                   rw [hg9 3 (by omega), if_pos rfl] at hj
                   rw [ei, hg9 _ (by omega), hg9 _ (by omega)]
                   by_cases q : (j : Int) = c_get tc 7 (ct 7) 3
                   · rw [show 4 * (ct 7).toNat + j = 4 * (ct 7).toNat + nl.toNat by omega, up_eq, up_eq, if_neg (by omega), if_neg (by omega), if_pos (by omega), if_neg (by omega), if_pos (by omega)]
                     exact ⟨rfl, rfl⟩
                   · rw [up_ne (by omega), up_ne (by omega), if_neg (by omega), if_neg (by omega), if_neg (by omega), if_neg (by omega), if_neg (by omega), if_neg (by omega)]
                     exact hI17 j (by omega)
                 have hn9 : nl + 1 = c_get (alT ct tc v7 v8) 7 (ct 7) 3 := by rw [hg9 3 (by omega), if_pos rfl]; omega
                 have hw9 : c_get (alT ct tc v7 v8) 7 (ct 7) 0 = v1 ∧ c_get (alT ct tc v7 v8) 7 (ct 7) 1 = v2 ∧ c_get (alT ct tc v7 v8) 7 (ct 7) 2 = v3 := by
                   rw [hg9 0 (by omega), hg9 1 (by omega), hg9 2 (by omega), if_neg (by omega), if_neg (by omega), if_neg (by omega), if_neg (by omega), if_neg (by omega), if_neg (by omega), if_neg (by omega), if_neg (by omega), if_neg (by omega)]
                   exact hw0
                 by_cases hsg : sgIs bs 44 (tlP bs ct tc p5).1
                 · have e1 : esB bs 44 (tlP bs ct tc p5).1 = nxP bs (tlP bs ct tc p5).1 := by unfold esB; rw [if_pos hsg]
                   rw [e1] at hTR
                   rw [bz_t hsg]
                   refine ih _ _ _ _ _ _ _ _ _ _ hX hgk hTR (nxP_O hPO) (by rw [nxP_7]; exact hp7) hMF fR hn9 hBK2 hMK2 (alT_O hOUT (by omega) ⟨hl0.1, hn3⟩) (alT_r hrn (by omega) (by omega) ⟨hl0.1, hn3⟩) hw9 hAo2 hA16' hA17' (K12_t hK6 K12_nx) ?_ (by omega)
                   rw [hfin, ht2, show (4 - nl).toNat = (4 - (nl + 1)).toNat + 1 by omega, blR_s hsg]
                 · have e1 : esB bs 44 (tlP bs ct tc p5).1 = (tlP bs ct tc p5).1 := by unfold esB; rw [if_neg hsg]
                   rw [e1] at hTR
                   rw [bz_f hsg]
                   refine K187 _ _ _ _ _ _ _ _ _ _ hX hgk hTR hPO hp7 hMF fR hn9 hBK2 hMK2 (alT_O hOUT (by omega) ⟨hl0.1, hn3⟩) (alT_r hrn (by omega) (by omega) ⟨hl0.1, hn3⟩) hw9 hAo2 hA16' hA17' hK6 (by omega) ?_
                   rw [hfin, ht2, blR_no hsg]
               · first | have d_116 := bz_0.mp c_116 | have d_116 := bz_1.mp c_116 | skip
                 refine jr_vret (pc := 119) h hRt dX9_readBlock_119 (Nat.le_of_ble_eq_true rfl) (Nat.le_of_ble_eq_true rfl) ?_
                 have hpf : (tlP bs ct tc p5).1.1 7 ≠ 0 := h57.1 (by omega)
                 have e_end : (tlnP bs ct td 7 p).1 = (tlP bs ct tc p5).1 := by
                   rw [tln_1 (by omega) (by show ¬ (5 : Int) ≤ ct 7; omega)]
                   show (ln_7 bs ct (nxP bs p) (opT ct td 7)).1 = _
                   rw [hfin, blR_f hpf]
                 exact ⟨⟨rfl, rfl⟩, _, _, _, _, hX, hgk, (by rw [e_end]; exact hTR), hMF, RB_a hRB (fun j hj => hAo j (by omega) (by omega)), fun q => absurd q (by rw [e_end]; exact hpf), fR⟩
             refine jr_iload (pc := 82) h dX9_readBlock_82 rfl ?_
             refine jr_iload (pc := 84) h dX9_readBlock_84 rfl ?_
             refine jr_ishr (pc := 86) h dX9_readBlock_86 ?_
             refine jr_iconst (pc := 87) h dX9_readBlock_87 ?_
             refine jr_iand (pc := 88) h dX9_readBlock_88 ?_
             rw [bit_sI hMK.1 (by omega)]
             refine jr_iconst (pc := 89) h dX9_readBlock_89 ?_
             refine jr_icmp_ne (pc := 90) h 98 dX9_readBlock_90 (by decide) (by omega) (by omega) (fun c_90 => ?_) (fun c_90 => ?_)
             · first | have d_90 := bz_0.mp c_90 | have d_90 := bz_1.mp c_90 | skip
               exact K98 _ _ _ hX hgk (by
                 by_cases q : (snP bs 2 p5).2.1 7 = 0
                 · have h1 := hsn q
                   have : tlQ bs ct tc p5 = (snP bs 2 p5).2 := by
                     unfold tlQ
                     rw [if_neg (fun h => by have := h1.2.2.2.2 h.2; omega)]
                   rw [this]; exact hTR
                 · have : tlQ bs ct tc p5 = (snP bs 2 p5).2 := by unfold tlQ; rw [if_neg (fun h => q h.1)]
                   rw [this]
                   exact hTR) (by
                 rcases (show tlQ bs ct tc p5 = flP 3 (snP bs 2 p5).2 ∨ tlQ bs ct tc p5 = (snP bs 2 p5).2 by unfold tlQ; split; exact Or.inl rfl; exact Or.inr rfl) with e | e <;> rw [e]
                 · exact flP_O (snP_O hPO5) (by omega)
                 · exact snP_O hPO5) hMF fR
             · first | have d_90 := bz_0.mp c_90 | have d_90 := bz_1.mp c_90 | skip
               refine jr_aload_n (pc := 93) h dX9_readBlock_93 rfl ?_
               refine jr_iconst (pc := 94) h dX9_readBlock_94 ?_
               refine iv_X9_126 (pc := 95) h hl hR dX9_readBlock_95 ⟨(Nat.le_of_ble_eq_true rfl), (Nat.le_of_ble_eq_true rfl), (Nat.le_of_ble_eq_true rfl), (Nat.le_of_ble_eq_true rfl)⟩ (Nat.le_of_ble_eq_true rfl) (by assumption) (by omega) (s_X9_wrong hX (p := (snP bs 2 p5).2) (k := 3) hTR hPO (by omega)) (fun v_95 n_95 M_95 hn_95 hp => ?_)
               obtain ⟨⟨rfl, rfl⟩, g1, w1, hX, hg1, hTR, f9⟩ := hp
               have fR := fr_tr fR (fr_mo f9 (fun k q => Or.inl q))
               have hgk := gkp_t hgk hg1
               have hMF := MF_fr hMF f9 (Nat.le_refl _) (fun k h1 h2 q => by have := q.1; have := q.2; omega)
               obtain ⟨hnm, hOm, hBm⟩ := id hX
               have hOm : M_95 m = jdO 9 (fX9 m _ _ fl (.ref f2)) := hOm
               obtain ⟨hnf, hOf, hAf⟩ := id hMF
               have hA16 : M_95 (f2 + 16) = jdA 20 (A1 16) := hAf 16 (by omega) (by omega)
               have hA17 : M_95 (f2 + 17) = jdA 20 (A1 17) := hAf 17 (by omega) (by omega)
               exact K98 _ _ _ hX hgk (by
                 by_cases q : (snP bs 2 p5).2.1 7 = 0
                 · have h1 := hsn q
                   have : tlQ bs ct tc p5 = flP 3 (snP bs 2 p5).2 := by
                     unfold tlQ
                     rw [if_pos ⟨q, h1.2.2.2.1 (by omega)⟩]
                   rw [this]; exact hTR
                 · have : tlQ bs ct tc p5 = (snP bs 2 p5).2 := by unfold tlQ; rw [if_neg (fun h => q h.1)]
                   rw [this]
                   rw [show flP 3 (snP bs 2 p5).2 = (snP bs 2 p5).2 from if_neg q] at hTR; exact hTR) (by
                 rcases (show tlQ bs ct tc p5 = flP 3 (snP bs 2 p5).2 ∨ tlQ bs ct tc p5 = (snP bs 2 p5).2 by unfold tlQ; split; exact Or.inl rfl; exact Or.inr rfl) with e | e <;> rw [e]
                 · exact flP_O (snP_O hPO5) (by omega)
                 · exact snP_O hPO5) hMF fR
       refine lp _ 0 0 _ _ (up (up (up (opT ct td 7) (c_ix ct 7 0) v1) (c_ix ct 7 1) v2) (c_ix ct 7 2) v3) p4 A _ _ _ hX hgk hTR hPO hpe hMF fR t3.symm ⟨LKI_0 t3, fun j a b => by omega, fun j a b => ⟨tz _ (by omega) (by omega), tz _ (by omega) (by omega)⟩⟩ ⟨by omega, fun k a b => ?_⟩ (OUT_up (OUT_up (OUT_up OUT_op (by omega) hcS.1 (by omega)) (by omega) hcS.1 (by omega)) (by omega) hcS.1 (by omega)) (rn_up (rn_up (rn_up (rn_op hFIr) (by omega)) (by omega)) (by omega)) ⟨t0, t1, t2⟩ (fun _ _ _ => rfl) (fun _ _ => ⟨rfl, rfl⟩) (fun j hj => by omega) (K12_t hk0.2.2 (K12_t hk1.2.1 (K12_t hk2.2.1 (K12_t hk3.2.1 hk4.2)))) ?_ (Nat.lt_succ_self _)
       · refine ⟨fun q => ?_, fun ⟨i, h1, h2, h3⟩ => by omega⟩
         exfalso
         unfold bitI at q
         rw [Int.zero_ediv] at q
         omega
       · unfold ln_7
         rw [hv1, hk2.2.2.1, hk3.2.2.1, ← ep4, ← ep3, ← ep2, ← ep1, hk0.2.1]
         rfl)
