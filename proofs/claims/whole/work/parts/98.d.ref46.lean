/-! 98.d: the reference: all lines -/
theorem FR_K {p p' : TS} {ct td gF : Nat → Int} {A : Nat → Nat → Int} (h : FR p ct td gF A) (hK : K12 p p') : FR p' ct td gF A := by
  obtain ⟨h1, h2, h3, h4, h5, h6, h7⟩ := h
  exact ⟨h1, h2, h3, NR_K h4 hK rfl (fun _ _ => rfl), NI_K h5 hK (Int.le_refl _) (Int.le_refl _), h6, by rw [hK.2]; exact h7⟩
theorem rdR_f {bs : Nat → Int} {r : TS × (Nat → Int) × (Nat → Int)} (h : r.1.1 7 ≠ 0) : ∀ k : Nat, rdR bs k r = r
  | 0 => rfl
  | k + 1 => by rw [rdR, if_neg h]
theorem rdR_1 {bs : Nat → Int} {r : TS × (Nat → Int) × (Nat → Int)} {k : Nat} (h : r.1.1 7 = 0) (hs : sgIs bs 59 (tlnP bs r.2.1 r.2.2 (resI bs r.1.1) r.1).1) : rdR bs (k + 1) r = rdR bs k (nxP bs (tlnP bs r.2.1 r.2.2 (resI bs r.1.1) r.1).1, (tlnP bs r.2.1 r.2.2 (resI bs r.1.1) r.1).2) := by
  rw [rdR, if_pos h, if_neg (by have := hs.2.1; omega)]
  unfold esP
  rw [if_neg (fun q => q hs.1), if_pos hs.2]
theorem rdR_0 {bs : Nat → Int} {r : TS × (Nat → Int) × (Nat → Int)} {k : Nat} (h : r.1.1 7 = 0) (hs : ¬ sgIs bs 59 (tlnP bs r.2.1 r.2.2 (resI bs r.1.1) r.1).1) : rdR bs (k + 1) r = ((if (tlnP bs r.2.1 r.2.2 (resI bs r.1.1) r.1).1.1 4 = 0 then (tlnP bs r.2.1 r.2.2 (resI bs r.1.1) r.1).1 else flP 1 (tlnP bs r.2.1 r.2.2 (resI bs r.1.1) r.1).1), (tlnP bs r.2.1 r.2.2 (resI bs r.1.1) r.1).2) := by
  rw [rdR, if_pos h]
  generalize tlnP bs r.2.1 r.2.2 (resI bs r.1.1) r.1 = t at *
  by_cases q4 : t.1.1 4 = 0
  · rw [if_pos q4, if_pos q4]
  · rw [if_neg q4, if_neg q4]
    have e : esP bs 59 t.1 = flP 1 t.1 := by
      unfold esP
      by_cases q7 : t.1.1 7 = 0
      · rw [if_neg (fun q => q q7), if_neg (fun q => hs ⟨q7, q⟩)]
      · rw [if_pos q7]
        unfold flP
        rw [if_neg q7]
    rw [e]
    exact rdR_f (flP_x (by omega)) k
set_option maxHeartbeats 1000000 in
set_option maxRecDepth 20000 in
theorem s_X9_readFlight {l : Launch} {n : Nat} {M : jdM} {m f2 : Nat} {g : Nat → Int} {w : Int} {fl : Value} {B : Nat → Nat → Int} (hX : MX M n m g w fl (.ref f2) B) {bs : Nat → Int} (hbt : ∀ j, j < 900 → B 1 j = bs j) (hbb : ∀ j, -128 ≤ bs j ∧ bs j ≤ 127) {p : TS} (hTR : TR bs p g w) (hPO : PO p) {gF : Nat → Int} {A : Nat → Nat → Int} (hMF : MF M n f2 gF A) (hsep : f2 + 30 < m ∨ m + 12 < f2) (hRB : RB gF A) {ct td : Nat → Int} (hFR : FR p ct td gF A) (q7 : p.1 7 = 0) (hmo : p.1 2 ≤ p.1 3 ∧ SG p) {k : Nat} (hk9 : p.1 1 + 1 ≤ k + p.1 2) : Ct l yX9_readFlight cX9_readFlight 2 none rX9_readFlight [.ref m] n M (fun vv n' M' => (vv = none ∧ n = n') ∧ ∃ g' w' gF' A', MX M' n m g' w' fl (.ref f2) B ∧ gkp g g' ∧ TR bs (rdQ (rdR bs k (p, ct, td))) g' w' ∧ PO (rdQ (rdR bs k (p, ct, td))) ∧ MF M' n f2 gF' A' ∧ ((rdQ (rdR bs k (p, ct, td))).1 7 = 0 → (FR (rdQ (rdR bs k (p, ct, td))) (rdR bs k (p, ct, td)).2.1 (rdR bs k (p, ct, td)).2.2 gF' A' ∧ 1 ≤ (rdR bs k (p, ct, td)).2.1 0 ∧ 1 ≤ (rdR bs k (p, ct, td)).2.1 1 ∧ 1 ≤ (rdR bs k (p, ct, td)).2.1 2 ∧ 1 ≤ (rdR bs k (p, ct, td)).2.1 5)) ∧ fr (RFS m f2) M M') := by
  refine Ct_of [some (.ref m), none] (by decide) (Nat.le_of_ble_eq_true rfl) rfl (fun κ hl h hR hRt hmn hn0 => ?_)
  have h : Ok κ RX9 cX9_readFlight 2 none := h
  obtain ⟨hnm, hOm, hBm⟩ := id hX
  have hOm : M m = jdO 9 (fX9 m _ _ fl (.ref f2)) := hOm
  obtain ⟨hnf, hOf, hAf⟩ := id hMF
  refine jr_iconst (pc := 0) h dX9_readFlight_0 ?_
  refine jr_istore_n (pc := 1) h [_, _] dX9_readFlight_1 (by decide) rfl ?_
  have K33 : ∀ (P : TS) (ct1 td1 gF1 : Nat → Int) (A1 : Nat → Nat → Int) (g1 : Nat → Int) (w1 : Int) (M1 : jdM) (u1 : Option Value), (MX M1 n m g1 w1 fl (.ref f2) B) → (gkp g g1) → (TR bs P g1 w1) → (PO P) → (MF M1 n f2 gF1 A1) → (fr (RFS m f2) M M1) → (RB gF1 A1) → (Imp (P.1 7 = 0) (FR P ct1 td1 gF1 A1)) → ((rdR bs k (p, ct, td)) = (P, ct1, td1)) → J κ 2 0 0 n 33 [some (.ref m), u1] [] M1 := by
    intro P ct1 td1 gF1 A1 g1 w1 M1 u1 hX hgk hTR hPO hMF fR hRB hFR hfin
    obtain ⟨hnm, hOm, hBm⟩ := id hX
    have hOm : M1 m = jdO 9 (fX9 m _ _ fl (.ref f2)) := hOm
    obtain ⟨hnf, hOf, hAf⟩ := id hMF
    have hcb := hRB.2.1
    have h0b := hRB.2.2.1
    have h3b := hRB.2.2.2.1
    refine jr_aload_n (pc := 33) h dX9_readFlight_33 rfl ?_
    refine gf_X9_174 (pc := 34) h dX9_readFlight_34 (by assumption) (by omega) ?_
    refine gf_X9_205 (pc := 37) h dX9_readFlight_37 (by assumption) (by omega) ?_
    refine jr_if_eq (pc := 40) h 74 dX9_readFlight_40 (by decide) (by omega) (fun c_40 => ?_) (fun c_40 => ?_)
    · first | have d_40 := bz_0.mp c_40 | have d_40 := bz_1.mp c_40 | skip
      refine jr_aload_n (pc := 74) h dX9_readFlight_74 rfl ?_
      refine jr_bipush (pc := 75) h dX9_readFlight_75 bp_6 ?_
      refine iv_X9_126 (pc := 77) h hl hR dX9_readFlight_77 ⟨(Nat.le_of_ble_eq_true rfl), (Nat.le_of_ble_eq_true rfl), (Nat.le_of_ble_eq_true rfl), (Nat.le_of_ble_eq_true rfl)⟩ (Nat.le_of_ble_eq_true rfl) (by assumption) (by omega) (s_X9_wrong hX (p := P) (k := 6) hTR hPO (by omega)) (fun v_77 n_77 M_77 hn_77 hp => ?_)
      obtain ⟨⟨rfl, rfl⟩, g1, w1, hX, hg1, hTR, f9⟩ := hp
      have fR := fr_tr fR (fr_mo f9 (fun k q => Or.inl q))
      have hgk := gkp_t hgk hg1
      have hMF := MF_fr hMF f9 (Nat.le_refl _) (fun k h1 h2 q => by have := q.1; have := q.2; omega)
      obtain ⟨hnm, hOm, hBm⟩ := id hX
      have hOm : M_77 m = jdO 9 (fX9 m _ _ fl (.ref f2)) := hOm
      obtain ⟨hnf, hOf, hAf⟩ := id hMF
      replace hPO := flP_O (k := 6) hPO (by omega)
      refine jr_vret (pc := 80) h hRt dX9_readFlight_80 (Nat.le_of_ble_eq_true rfl) (Nat.le_of_ble_eq_true rfl) ?_
      (rw [hfin]
       have hz : rdQ (P, ct1, td1) = flP 6 P := by
         unfold rdQ
         by_cases q7 : P.1 7 = 0
         · obtain ⟨h1, h2, h3, h4, h5, h6, h7⟩ := hFR q7
           obtain ⟨z0, z1, z2, z3⟩ := h6
           have c0 := h3.1 0 (by omega)
           have c1 := h3.1 1 (by omega)
           rw [show (jtab 0).2.2 0 = 1 from rfl] at c0
           rw [show (jtab 0).2.2 1 = 1 from rfl] at c1
           have e2 : gF1 5 = ct1 2 := h2.1
           have e5 : gF1 8 = ct1 5 := h2.2.2.2.1
           have g0 : gF1 0 = 0 ↔ ct1 0 = 0 := by
             constructor
             · intro q
               refine Classical.byContradiction (fun q2 => ?_)
               have q3 : ct1 0 = 1 := by omega
               have := (h3.2.1 0 0 (by omega) (by omega) (by omega)).1 rfl
               have := (z1 q3).1
               omega
             · exact z0
           have g3 : gF1 3 = -1 ↔ ct1 1 = 0 := by
             constructor
             · intro q
               refine Classical.byContradiction (fun q2 => ?_)
               have q3 : ct1 1 = 1 := by omega
               have := (z3 q3).1
               have := (c_getr h3.2.2.2 1 0 0).1
               omega
             · exact z2
           rw [if_pos (by show ct1 0 = 0 ∨ ct1 1 = 0 ∨ ct1 2 = 0 ∨ ct1 5 = 0; omega)]
         · have : flP 6 P = P := if_neg q7
           rw [this]
           split
           · rfl
           · rfl
       exact ⟨⟨rfl, rfl⟩, _, _, _, _, hX, hgk, (by rw [hz]; exact hTR), (by rw [hz]; exact hPO), hMF, fun q => absurd q (by rw [hz]; exact flP_x (by omega)), fR⟩)
    · first | have d_40 := bz_0.mp c_40 | have d_40 := bz_1.mp c_40 | skip
      refine jr_aload_n (pc := 43) h dX9_readFlight_43 rfl ?_
      refine gf_X9_174 (pc := 44) h dX9_readFlight_44 (by assumption) (by omega) ?_
      refine gf_X9_208 (pc := 47) h dX9_readFlight_47 (by assumption) (by omega) ?_
      refine jr_iconst (pc := 50) h dX9_readFlight_50 ?_
      refine jr_icmp_eq (pc := 51) h 74 dX9_readFlight_51 (by decide) (by omega) (by omega) (fun c_51 => ?_) (fun c_51 => ?_)
      · first | have d_51 := bz_0.mp c_51 | have d_51 := bz_1.mp c_51 | skip
        refine jr_aload_n (pc := 74) h dX9_readFlight_74 rfl ?_
        refine jr_bipush (pc := 75) h dX9_readFlight_75 bp_6 ?_
        refine iv_X9_126 (pc := 77) h hl hR dX9_readFlight_77 ⟨(Nat.le_of_ble_eq_true rfl), (Nat.le_of_ble_eq_true rfl), (Nat.le_of_ble_eq_true rfl), (Nat.le_of_ble_eq_true rfl)⟩ (Nat.le_of_ble_eq_true rfl) (by assumption) (by omega) (s_X9_wrong hX (p := P) (k := 6) hTR hPO (by omega)) (fun v_77 n_77 M_77 hn_77 hp => ?_)
        obtain ⟨⟨rfl, rfl⟩, g1, w1, hX, hg1, hTR, f9⟩ := hp
        have fR := fr_tr fR (fr_mo f9 (fun k q => Or.inl q))
        have hgk := gkp_t hgk hg1
        have hMF := MF_fr hMF f9 (Nat.le_refl _) (fun k h1 h2 q => by have := q.1; have := q.2; omega)
        obtain ⟨hnm, hOm, hBm⟩ := id hX
        have hOm : M_77 m = jdO 9 (fX9 m _ _ fl (.ref f2)) := hOm
        obtain ⟨hnf, hOf, hAf⟩ := id hMF
        replace hPO := flP_O (k := 6) hPO (by omega)
        refine jr_vret (pc := 80) h hRt dX9_readFlight_80 (Nat.le_of_ble_eq_true rfl) (Nat.le_of_ble_eq_true rfl) ?_
        (rw [hfin]
         have hz : rdQ (P, ct1, td1) = flP 6 P := by
           unfold rdQ
           by_cases q7 : P.1 7 = 0
           · obtain ⟨h1, h2, h3, h4, h5, h6, h7⟩ := hFR q7
             obtain ⟨z0, z1, z2, z3⟩ := h6
             have c0 := h3.1 0 (by omega)
             have c1 := h3.1 1 (by omega)
             rw [show (jtab 0).2.2 0 = 1 from rfl] at c0
             rw [show (jtab 0).2.2 1 = 1 from rfl] at c1
             have e2 : gF1 5 = ct1 2 := h2.1
             have e5 : gF1 8 = ct1 5 := h2.2.2.2.1
             have g0 : gF1 0 = 0 ↔ ct1 0 = 0 := by
               constructor
               · intro q
                 refine Classical.byContradiction (fun q2 => ?_)
                 have q3 : ct1 0 = 1 := by omega
                 have := (h3.2.1 0 0 (by omega) (by omega) (by omega)).1 rfl
                 have := (z1 q3).1
                 omega
               · exact z0
             have g3 : gF1 3 = -1 ↔ ct1 1 = 0 := by
               constructor
               · intro q
                 refine Classical.byContradiction (fun q2 => ?_)
                 have q3 : ct1 1 = 1 := by omega
                 have := (z3 q3).1
                 have := (c_getr h3.2.2.2 1 0 0).1
                 omega
               · exact z2
             rw [if_pos (by show ct1 0 = 0 ∨ ct1 1 = 0 ∨ ct1 2 = 0 ∨ ct1 5 = 0; omega)]
           · have : flP 6 P = P := if_neg q7
             rw [this]
             split
             · rfl
             · rfl
         exact ⟨⟨rfl, rfl⟩, _, _, _, _, hX, hgk, (by rw [hz]; exact hTR), (by rw [hz]; exact hPO), hMF, fun q => absurd q (by rw [hz]; exact flP_x (by omega)), fR⟩)
      · first | have d_51 := bz_0.mp c_51 | have d_51 := bz_1.mp c_51 | skip
        refine jr_aload_n (pc := 54) h dX9_readFlight_54 rfl ?_
        refine gf_X9_174 (pc := 55) h dX9_readFlight_55 (by assumption) (by omega) ?_
        refine gf_X9_211 (pc := 58) h dX9_readFlight_58 (by assumption) (by omega) ?_
        refine jr_if_eq (pc := 61) h 74 dX9_readFlight_61 (by decide) (by omega) (fun c_61 => ?_) (fun c_61 => ?_)
        · first | have d_61 := bz_0.mp c_61 | have d_61 := bz_1.mp c_61 | skip
          refine jr_aload_n (pc := 74) h dX9_readFlight_74 rfl ?_
          refine jr_bipush (pc := 75) h dX9_readFlight_75 bp_6 ?_
          refine iv_X9_126 (pc := 77) h hl hR dX9_readFlight_77 ⟨(Nat.le_of_ble_eq_true rfl), (Nat.le_of_ble_eq_true rfl), (Nat.le_of_ble_eq_true rfl), (Nat.le_of_ble_eq_true rfl)⟩ (Nat.le_of_ble_eq_true rfl) (by assumption) (by omega) (s_X9_wrong hX (p := P) (k := 6) hTR hPO (by omega)) (fun v_77 n_77 M_77 hn_77 hp => ?_)
          obtain ⟨⟨rfl, rfl⟩, g1, w1, hX, hg1, hTR, f9⟩ := hp
          have fR := fr_tr fR (fr_mo f9 (fun k q => Or.inl q))
          have hgk := gkp_t hgk hg1
          have hMF := MF_fr hMF f9 (Nat.le_refl _) (fun k h1 h2 q => by have := q.1; have := q.2; omega)
          obtain ⟨hnm, hOm, hBm⟩ := id hX
          have hOm : M_77 m = jdO 9 (fX9 m _ _ fl (.ref f2)) := hOm
          obtain ⟨hnf, hOf, hAf⟩ := id hMF
          replace hPO := flP_O (k := 6) hPO (by omega)
          refine jr_vret (pc := 80) h hRt dX9_readFlight_80 (Nat.le_of_ble_eq_true rfl) (Nat.le_of_ble_eq_true rfl) ?_
          (rw [hfin]
           have hz : rdQ (P, ct1, td1) = flP 6 P := by
             unfold rdQ
             by_cases q7 : P.1 7 = 0
             · obtain ⟨h1, h2, h3, h4, h5, h6, h7⟩ := hFR q7
               obtain ⟨z0, z1, z2, z3⟩ := h6
               have c0 := h3.1 0 (by omega)
               have c1 := h3.1 1 (by omega)
               rw [show (jtab 0).2.2 0 = 1 from rfl] at c0
               rw [show (jtab 0).2.2 1 = 1 from rfl] at c1
               have e2 : gF1 5 = ct1 2 := h2.1
               have e5 : gF1 8 = ct1 5 := h2.2.2.2.1
               have g0 : gF1 0 = 0 ↔ ct1 0 = 0 := by
                 constructor
                 · intro q
                   refine Classical.byContradiction (fun q2 => ?_)
                   have q3 : ct1 0 = 1 := by omega
                   have := (h3.2.1 0 0 (by omega) (by omega) (by omega)).1 rfl
                   have := (z1 q3).1
                   omega
                 · exact z0
               have g3 : gF1 3 = -1 ↔ ct1 1 = 0 := by
                 constructor
                 · intro q
                   refine Classical.byContradiction (fun q2 => ?_)
                   have q3 : ct1 1 = 1 := by omega
                   have := (z3 q3).1
                   have := (c_getr h3.2.2.2 1 0 0).1
                   omega
                 · exact z2
               rw [if_pos (by show ct1 0 = 0 ∨ ct1 1 = 0 ∨ ct1 2 = 0 ∨ ct1 5 = 0; omega)]
             · have : flP 6 P = P := if_neg q7
               rw [this]
               split
               · rfl
               · rfl
           exact ⟨⟨rfl, rfl⟩, _, _, _, _, hX, hgk, (by rw [hz]; exact hTR), (by rw [hz]; exact hPO), hMF, fun q => absurd q (by rw [hz]; exact flP_x (by omega)), fR⟩)
        · first | have d_61 := bz_0.mp c_61 | have d_61 := bz_1.mp c_61 | skip
          refine jr_aload_n (pc := 64) h dX9_readFlight_64 rfl ?_
          refine gf_X9_174 (pc := 65) h dX9_readFlight_65 (by assumption) (by omega) ?_
          refine gf_X9_214 (pc := 68) h dX9_readFlight_68 (by assumption) (by omega) ?_
          refine jr_if_ne (pc := 71) h 80 dX9_readFlight_71 (by decide) (by omega) (fun c_71 => ?_) (fun c_71 => ?_)
          · first | have d_71 := bz_0.mp c_71 | have d_71 := bz_1.mp c_71 | skip
            refine jr_vret (pc := 80) h hRt dX9_readFlight_80 (Nat.le_of_ble_eq_true rfl) (Nat.le_of_ble_eq_true rfl) ?_
            (rw [hfin]
             have hz : rdQ (P, ct1, td1) = P := by
               unfold rdQ
               by_cases q7 : P.1 7 = 0
               · obtain ⟨h1, h2, h3, h4, h5, h6, h7⟩ := hFR q7
                 obtain ⟨z0, z1, z2, z3⟩ := h6
                 have c0 := h3.1 0 (by omega)
                 have c1 := h3.1 1 (by omega)
                 rw [show (jtab 0).2.2 0 = 1 from rfl] at c0
                 rw [show (jtab 0).2.2 1 = 1 from rfl] at c1
                 have e2 : gF1 5 = ct1 2 := h2.1
                 have e5 : gF1 8 = ct1 5 := h2.2.2.2.1
                 have g0 : gF1 0 = 0 ↔ ct1 0 = 0 := by
                   constructor
                   · intro q
                     refine Classical.byContradiction (fun q2 => ?_)
                     have q3 : ct1 0 = 1 := by omega
                     have := (h3.2.1 0 0 (by omega) (by omega) (by omega)).1 rfl
                     have := (z1 q3).1
                     omega
                   · exact z0
                 have g3 : gF1 3 = -1 ↔ ct1 1 = 0 := by
                   constructor
                   · intro q
                     refine Classical.byContradiction (fun q2 => ?_)
                     have q3 : ct1 1 = 1 := by omega
                     have := (z3 q3).1
                     have := (c_getr h3.2.2.2 1 0 0).1
                     omega
                   · exact z2
                 rw [if_neg (by show ¬ (ct1 0 = 0 ∨ ct1 1 = 0 ∨ ct1 2 = 0 ∨ ct1 5 = 0); omega)]
               · split
                 · exact if_neg q7
                 · rfl
             refine ⟨⟨rfl, rfl⟩, _, _, _, _, hX, hgk, (by rw [hz]; exact hTR), (by rw [hz]; exact hPO), hMF, fun q => ?_, fR⟩
             rw [hz] at q ⊢
             have hf := hFR q
             have hn : ¬ (ct1 0 = 0 ∨ ct1 1 = 0 ∨ ct1 2 = 0 ∨ ct1 5 = 0) := fun h => by
               have e : rdQ (P, ct1, td1) = flP 6 P := if_pos h
               rw [hz] at e
               rw [e] at q
               exact flP_x (by omega) q
             have hl := hf.2.2.1.1
             have l0 := hl 0 (by omega)
             have l1 := hl 1 (by omega)
             have l2 := hl 2 (by omega)
             have l5 := hl 5 (by omega)
             exact ⟨hf, by show 1 ≤ ct1 0; omega, by show 1 ≤ ct1 1; omega, by show 1 ≤ ct1 2; omega, by show 1 ≤ ct1 5; omega⟩)
          · first | have d_71 := bz_0.mp c_71 | have d_71 := bz_1.mp c_71 | skip
            refine jr_aload_n (pc := 74) h dX9_readFlight_74 rfl ?_
            refine jr_bipush (pc := 75) h dX9_readFlight_75 bp_6 ?_
            refine iv_X9_126 (pc := 77) h hl hR dX9_readFlight_77 ⟨(Nat.le_of_ble_eq_true rfl), (Nat.le_of_ble_eq_true rfl), (Nat.le_of_ble_eq_true rfl), (Nat.le_of_ble_eq_true rfl)⟩ (Nat.le_of_ble_eq_true rfl) (by assumption) (by omega) (s_X9_wrong hX (p := P) (k := 6) hTR hPO (by omega)) (fun v_77 n_77 M_77 hn_77 hp => ?_)
            obtain ⟨⟨rfl, rfl⟩, g1, w1, hX, hg1, hTR, f9⟩ := hp
            have fR := fr_tr fR (fr_mo f9 (fun k q => Or.inl q))
            have hgk := gkp_t hgk hg1
            have hMF := MF_fr hMF f9 (Nat.le_refl _) (fun k h1 h2 q => by have := q.1; have := q.2; omega)
            obtain ⟨hnm, hOm, hBm⟩ := id hX
            have hOm : M_77 m = jdO 9 (fX9 m _ _ fl (.ref f2)) := hOm
            obtain ⟨hnf, hOf, hAf⟩ := id hMF
            replace hPO := flP_O (k := 6) hPO (by omega)
            refine jr_vret (pc := 80) h hRt dX9_readFlight_80 (Nat.le_of_ble_eq_true rfl) (Nat.le_of_ble_eq_true rfl) ?_
            (rw [hfin]
             have hz : rdQ (P, ct1, td1) = flP 6 P := by
               unfold rdQ
               by_cases q7 : P.1 7 = 0
               · obtain ⟨h1, h2, h3, h4, h5, h6, h7⟩ := hFR q7
                 obtain ⟨z0, z1, z2, z3⟩ := h6
                 have c0 := h3.1 0 (by omega)
                 have c1 := h3.1 1 (by omega)
                 rw [show (jtab 0).2.2 0 = 1 from rfl] at c0
                 rw [show (jtab 0).2.2 1 = 1 from rfl] at c1
                 have e2 : gF1 5 = ct1 2 := h2.1
                 have e5 : gF1 8 = ct1 5 := h2.2.2.2.1
                 have g0 : gF1 0 = 0 ↔ ct1 0 = 0 := by
                   constructor
                   · intro q
                     refine Classical.byContradiction (fun q2 => ?_)
                     have q3 : ct1 0 = 1 := by omega
                     have := (h3.2.1 0 0 (by omega) (by omega) (by omega)).1 rfl
                     have := (z1 q3).1
                     omega
                   · exact z0
                 have g3 : gF1 3 = -1 ↔ ct1 1 = 0 := by
                   constructor
                   · intro q
                     refine Classical.byContradiction (fun q2 => ?_)
                     have q3 : ct1 1 = 1 := by omega
                     have := (z3 q3).1
                     have := (c_getr h3.2.2.2 1 0 0).1
                     omega
                   · exact z2
                 rw [if_pos (by show ct1 0 = 0 ∨ ct1 1 = 0 ∨ ct1 2 = 0 ∨ ct1 5 = 0; omega)]
               · have : flP 6 P = P := if_neg q7
                 rw [this]
                 split
                 · rfl
                 · rfl
             exact ⟨⟨rfl, rfl⟩, _, _, _, _, hX, hgk, (by rw [hz]; exact hTR), (by rw [hz]; exact hPO), hMF, fun q => absurd q (by rw [hz]; exact flP_x (by omega)), fR⟩)
  have K2 : ∀ (P : TS) (ct1 td1 gF1 : Nat → Int) (A1 : Nat → Nat → Int) (g1 : Nat → Int) (w1 : Int) (M1 : jdM), (MX M1 n m g1 w1 fl (.ref f2) B) → (gkp g g1) → (TR bs P g1 w1) → (PO P) → (MF M1 n f2 gF1 A1) → (fr (RFS m f2) M M1) → (RB gF1 A1) → (Imp (P.1 7 = 0) (FR P ct1 td1 gF1 A1)) → ((rdR bs k (p, ct, td)) = ((if P.1 4 = 0 then P else flP 1 P), ct1, td1)) → J κ 2 0 0 n 2 [some (.ref m), some (jI 0)] [] M1 := by
    intro P ct1 td1 gF1 A1 g1 w1 M1 hX hgk hTR hPO hMF fR hRB hFR hfin
    obtain ⟨hnm, hOm, hBm⟩ := id hX
    have hOm : M1 m = jdO 9 (fX9 m _ _ fl (.ref f2)) := hOm
    obtain ⟨hnf, hOf, hAf⟩ := id hMF
    refine jr_iload_n (pc := 2) h dX9_readFlight_2 rfl ?_
    refine jr_if_eq (pc := 3) h 20 dX9_readFlight_3 (by decide) (by omega) (fun c_3 => ?_) (fun c_3 => ?_)
    · first | have d_3 := bz_0.mp c_3 | have d_3 := bz_1.mp c_3 | skip
      have h5 := TR_5 hTR hPO
      refine jr_aload_n (pc := 20) h dX9_readFlight_20 rfl ?_
      refine gf_X9_80 (pc := 21) h dX9_readFlight_21 (by assumption) (by omega) ?_
      refine jr_iconst (pc := 24) h dX9_readFlight_24 ?_
      refine jr_icmp_eq (pc := 25) h 33 dX9_readFlight_25 (by decide) (by omega) (by omega) (fun c_25 => ?_) (fun c_25 => ?_)
      · first | have d_25 := bz_0.mp c_25 | have d_25 := bz_1.mp c_25 | skip
        have q7 : P.1 7 = 0 := Classical.byContradiction (fun q => by have := h5.1.2 q; omega)
        have q4 := (h5.2.1 q7).2.1.1 (by omega)
        exact K33 P ct1 td1 gF1 A1 _ _ _ _ hX hgk hTR hPO hMF fR hRB hFR (by rw [hfin, if_pos q4])
      · first | have d_25 := bz_0.mp c_25 | have d_25 := bz_1.mp c_25 | skip
        refine jr_aload_n (pc := 28) h dX9_readFlight_28 rfl ?_
        refine jr_iconst (pc := 29) h dX9_readFlight_29 ?_
        refine iv_X9_126 (pc := 30) h hl hR dX9_readFlight_30 ⟨(Nat.le_of_ble_eq_true rfl), (Nat.le_of_ble_eq_true rfl), (Nat.le_of_ble_eq_true rfl), (Nat.le_of_ble_eq_true rfl)⟩ (Nat.le_of_ble_eq_true rfl) (by assumption) (by omega) (s_X9_wrong hX (p := P) (k := 1) hTR hPO (by omega)) (fun v_30 n_30 M_30 hn_30 hp => ?_)
        obtain ⟨⟨rfl, rfl⟩, g1, w1, hX, hg1, hTR, f9⟩ := hp
        have fR := fr_tr fR (fr_mo f9 (fun k q => Or.inl q))
        have hgk := gkp_t hgk hg1
        have hMF := MF_fr hMF f9 (Nat.le_refl _) (fun k h1 h2 q => by have := q.1; have := q.2; omega)
        obtain ⟨hnm, hOm, hBm⟩ := id hX
        have hOm : M_30 m = jdO 9 (fX9 m _ _ fl (.ref f2)) := hOm
        obtain ⟨hnf, hOf, hAf⟩ := id hMF
        refine K33 (flP 1 P) ct1 td1 gF1 A1 _ _ _ _ hX hgk hTR (flP_O hPO (by omega)) hMF fR hRB (fun q => absurd q (flP_x (by omega))) ?_
        rw [hfin]
        by_cases q4 : P.1 4 = 0
        · rw [if_pos q4]
          have q7 : P.1 7 ≠ 0 := fun q => by have := (h5.2.1 q).2.1.2 q4; omega
          rw [show flP 1 P = P from if_neg q7]
        · rw [if_neg q4]
    · first | have d_3 := bz_0.mp c_3 | have d_3 := bz_1.mp c_3 | skip
      exfalso
      omega
  have lp : ∀ (dq : Nat) (kk : Nat) (p1 : TS) (ct1 : Nat → Int) (td1 : Nat → Int) (gF1 : Nat → Int) (A1 : Nat → Nat → Int) (g1 : Nat → Int) (w1 : Int) (M1 : jdM), (MX M1 n m g1 w1 fl (.ref f2) B) → (gkp g g1) → (TR bs p1 g1 w1) → (PO p1) → (MF M1 n f2 gF1 A1) → (fr (RFS m f2) M M1) → (RB gF1 A1) → (FR p1 ct1 td1 gF1 A1) → (p1.1 7 = 0) → (p1.1 2 ≤ p1.1 3 ∧ SG p1) → (p1.1 1 + 1 ≤ kk + p1.1 2) → ((rdR bs k (p, ct, td)) = rdR bs kk (p1, ct1, td1)) → ((kk : Int)).toNat < dq → J κ 2 0 0 n 2 [some (.ref m), some (jI 1)] [] M1 := by
    intro dq
    induction dq with
    | zero => intro kk p1 ct1 td1 gF1 A1 g1 w1 M1 hX hgk hTR hPO hMF fR hRB hFR q7 hmo hk9 hfin hd; omega
    | succ dq ih =>
      intro kk p1 ct1 td1 gF1 A1 g1 w1 M1 hX hgk hTR hPO hMF fR hRB hFR q7 hmo hk9 hfin hd
      obtain ⟨hnm, hOm, hBm⟩ := id hX
      have hOm : M1 m = jdO 9 (fX9 m _ _ fl (.ref f2)) := hOm
      obtain ⟨hnf, hOf, hAf⟩ := id hMF
      have htr := hTR.1.2.2.1
      have hsz1 := hTR.1.2.1
      have hsz2 := hgk 7 (by omega)
      have hkp : 1 ≤ kk := by have := hmo.1; omega
      refine jr_iload_n (pc := 2) h dX9_readFlight_2 rfl ?_
      refine jr_if_eq (pc := 3) h 20 dX9_readFlight_3 (by decide) (by omega) (fun c_3 => ?_) (fun c_3 => ?_)
      · first | have d_3 := bz_0.mp c_3 | have d_3 := bz_1.mp c_3 | skip
        exfalso
        omega
      · first | have d_3 := bz_0.mp c_3 | have d_3 := bz_1.mp c_3 | skip
        refine jr_aload_n (pc := 6) h dX9_readFlight_6 rfl ?_
        refine iv_X9_199 (pc := 7) h hl hR dX9_readFlight_7 ⟨(Nat.le_of_ble_eq_true rfl), (Nat.le_of_ble_eq_true rfl), (Nat.le_of_ble_eq_true rfl), (Nat.le_of_ble_eq_true rfl)⟩ (Nat.le_of_ble_eq_true rfl) (by assumption) (by omega) (s_X9_readLine hX hbt hbb hTR hPO hMF hsep hRB hFR q7) (fun v_7 n_7 M_7 hn_7 hp => ?_)
        have hlim8 : ∀ s : Nat, s < 13 → 0 ≤ ct1 s ∧ ct1 s ≤ 8 := fun s hs => by have a := hFR.2.2.1.1 s hs; have b := lim_8 s hs; omega
        obtain ⟨⟨rfl, rfl⟩, g1, w1, gF1, A1, hX, hg1, hTR, hMF, hRB, hFRn, f9⟩ := hp
        have fR := fr_tr fR f9
        have hgk := gkp_t hgk hg1
        obtain ⟨hnm, hOm, hBm⟩ := id hX
        have hOm : M_7 m = jdO 9 (fX9 m _ _ fl (.ref f2)) := hOm
        obtain ⟨hnf, hOf, hAf⟩ := id hMF
        have hPO2 : PO (tlnP bs ct1 td1 (resI bs p1.1) p1).1 := tln_O hPO hlim8
        have hFR2 : Imp ((tlnP bs ct1 td1 (resI bs p1.1) p1).1.1 7 = 0) (FR (tlnP bs ct1 td1 (resI bs p1.1) p1).1 (tlnP bs ct1 td1 (resI bs p1.1) p1).2.1 (tlnP bs ct1 td1 (resI bs p1.1) p1).2.2 gF1 A1) := hFRn
        clear hFRn
        refine jr_aload_n (pc := 10) h dX9_readFlight_10 rfl ?_
        refine jr_bipush (pc := 11) h dX9_readFlight_11 bp_59 ?_
        refine iv_X9_202 (pc := 13) h hl hR dX9_readFlight_13 ⟨(Nat.le_of_ble_eq_true rfl), (Nat.le_of_ble_eq_true rfl), (Nat.le_of_ble_eq_true rfl), (Nat.le_of_ble_eq_true rfl)⟩ (Nat.le_of_ble_eq_true rfl) (by assumption) (by omega) (s_X9_eatsSign hX hbt hbb (p := (tlnP bs ct1 td1 (resI bs p1.1) p1).1) hTR hPO2 (c := 59) (by omega)) (fun v_13 n_13 M_13 hn_13 hp => ?_)
        obtain ⟨⟨rfl, rfl⟩, g1, w1, hX, hg1, hTR, f9⟩ := hp
        have fR := fr_tr fR (fr_mo f9 (fun k q => Or.inl q))
        have hgk := gkp_t hgk hg1
        have hMF := MF_fr hMF f9 (Nat.le_refl _) (fun k h1 h2 q => by have := q.1; have := q.2; omega)
        obtain ⟨hnm, hOm, hBm⟩ := id hX
        have hOm : M_13 m = jdO 9 (fX9 m _ _ fl (.ref f2)) := hOm
        obtain ⟨hnf, hOf, hAf⟩ := id hMF
        refine jr_istore_n (pc := 16) h [_, _] dX9_readFlight_16 (by decide) rfl ?_
        refine jr_goto (pc := 17) h 2 dX9_readFlight_17 (by decide) ?_
        obtain ⟨k9, ek9⟩ : ∃ j : Nat, kk = j + 1 := ⟨kk - 1, by omega⟩
        subst ek9
        by_cases hsg : sgIs bs 59 (tlnP bs ct1 td1 (resI bs p1.1) p1).1
        · have e1 : esB bs 59 (tlnP bs ct1 td1 (resI bs p1.1) p1).1 = nxP bs (tlnP bs ct1 td1 (resI bs p1.1) p1).1 := by unfold esB; rw [if_pos hsg]
          rw [e1] at hTR
          rw [bz_t hsg]
          have hm1 := tln_mo hsg.1 hmo
          have hm2 := mo_nx (bs := bs) hm1.2
          have hz2 := hTR.1.2.1
          have hz3 := hgk 7 (by omega)
          have e3' : (tlnP bs ct1 td1 (resI bs p1.1) p1).1.1 3 ≤ (nxP bs (tlnP bs ct1 td1 (resI bs p1.1) p1).1).1 2 := nxP_ge
          have hsn : (tlnP bs ct1 td1 (resI bs p1.1) p1).1.1 2 + 1 ≤ (tlnP bs ct1 td1 (resI bs p1.1) p1).1.1 3 := hm1.2.2 hsg.2.1
          exact ih k9 _ _ _ _ _ _ _ _ hX hgk hTR (nxP_O hPO2) hMF fR hRB (FR_K (hFR2 hsg.1) K12_nx) (by rw [nxP_7]; exact hsg.1) hm2.2 (by omega) (by rw [hfin]; exact rdR_1 (r := (p1, ct1, td1)) q7 hsg) (by omega)
        · have e1 : esB bs 59 (tlnP bs ct1 td1 (resI bs p1.1) p1).1 = (tlnP bs ct1 td1 (resI bs p1.1) p1).1 := by unfold esB; rw [if_neg hsg]
          rw [e1] at hTR
          rw [bz_f hsg]
          exact K2 _ _ _ _ _ _ _ _ hX hgk hTR hPO2 hMF fR hRB hFR2 (by rw [hfin]; exact rdR_0 (r := (p1, ct1, td1)) q7 hsg)
  exact lp _ k p ct td gF A g w M hX gkp_r hTR hPO hMF fr_rf hRB hFR q7 hmo hk9 rfl (Nat.lt_succ_self _)
