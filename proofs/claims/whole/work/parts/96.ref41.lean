/-! 96: the reference: trolleys told -/
theorem fnR_ex {nm : Nat → Int} {w : Int} : ∀ (d i : Nat), fnR nm w i d ≠ -1 ↔ ∃ j : Nat, i ≤ j ∧ j < i + d ∧ nm j = w
  | 0, i => by
    rw [fnR]
    exact ⟨fun h => absurd rfl h, fun ⟨j, h1, h2, _⟩ => by omega⟩
  | d + 1, i => by
    rw [fnR]
    by_cases q : nm i = w
    · rw [if_pos q]
      exact ⟨fun _ => ⟨i, Nat.le_refl _, by omega, q⟩, fun _ => by omega⟩
    · rw [if_neg q, fnR_ex d (i + 1)]
      constructor
      · rintro ⟨j, h1, h2, h3⟩
        exact ⟨j, by omega, by omega, h3⟩
      · rintro ⟨j, h1, h2, h3⟩
        by_cases qq : j = i
        · subst qq; exact absurd h3 q
        · exact ⟨j, by omega, by omega, h3⟩
theorem fnI_ex {nm : Nat → Int} {w c : Int} (hc : 0 ≤ c) : fnI nm w c ≠ -1 ↔ ∃ j : Nat, (j : Int) < c ∧ nm j = w := by
  unfold fnI
  rw [fnR_ex]
  constructor
  · rintro ⟨j, h1, h2, h3⟩
    exact ⟨j, by omega, h3⟩
  · rintro ⟨j, h2, h3⟩
    exact ⟨j, by omega, by omega, h3⟩
theorem trP_no {bs ct td : Nat → Int} {p : TS} (h3 : ¬ (p.1 7 = 0 ∧ wordIs bs p.1 3)) (h4 : ¬ (p.1 7 = 0 ∧ wordIs bs p.1 4)) : (trP bs ct td p).2 = flP 1 p := by
  unfold trP
  by_cases q : p.1 7 = 0
  · rw [if_neg (fun q' => q' q), if_neg (fun q' => h3 ⟨q, q'⟩), if_neg (fun q' => h4 ⟨q, q'⟩)]
  · rw [if_pos q]
    unfold flP
    rw [if_neg q]
theorem trP_3 {bs ct td : Nat → Int} {p : TS} (h3 : p.1 7 = 0 ∧ wordIs bs p.1 3) : trP bs ct td p = trA bs ct td p 1 := by
  unfold trP
  rw [if_neg (fun q' => q' h3.1), if_pos h3.2]
theorem trP_4 {bs ct td : Nat → Int} {p : TS} (h4 : p.1 7 = 0 ∧ wordIs bs p.1 4) : trP bs ct td p = trA bs ct td p 0 := by
  unfold trP
  have n3 : ¬ wordIs bs p.1 3 := fun q => by
    have a : p.1 3 - p.1 2 = 4 := q.2.1
    have b : p.1 3 - p.1 2 = 5 := h4.2.2.1
    omega
  rw [if_neg (fun q' => q' h4.1), if_neg n3, if_pos h4.2]
theorem trA_d {bs ct td : Nat → Int} {p : TS} {s : Int} (h : ∃ i : Int, 0 ≤ i ∧ i < ct 5 ∧ c_get td 5 i 0 = s) : trA bs ct td p s = (s, flP 3 p) := by
  unfold trA
  rw [if_pos h]
theorem trA_n {bs ct td : Nat → Int} {p : TS} {s : Int} (h : ¬ ∃ i : Int, 0 ≤ i ∧ i < ct 5 ∧ c_get td 5 i 0 = s) : trA bs ct td p s = (s, nxP bs p) := by
  unfold trA
  rw [if_neg h]
theorem xP_f_tr {bs ct td : Nat → Int} {p : TS} (h : p.1 7 ≠ 0) : (trP bs ct td p).2 = p := by
  unfold trP
  rw [if_pos h]
set_option maxHeartbeats 1000000 in
set_option maxRecDepth 20000 in
theorem s_X8_trolleyAt_r {l : Launch} {n : Nat} {M : jdM} {f2 : Nat} {gF : Nat → Int} {A : Nat → Nat → Int} (hMF : MF M n f2 gF A) (hg8 : 0 ≤ gF 8 ∧ gF 8 ≤ 2) (h8 : ∀ i : Nat, i < 2 → 0 ≤ A 8 i ∧ A 8 i ≤ 1) {x : Int} (hx : -2147483648 ≤ x ∧ x < 2147483648) : Ct l yX8_trolleyAt cX8_trolleyAt 3 (some .int) rX8_trolleyAt [.ref f2, jI x] n M (fun vv n' M' => (vv = some (jI (fnI (A 8) x (gF 8))) ∧ n = n' ∧ M = M') ∧ (-1) ≤ (fnI (A 8) x (gF 8)) ∧ (fnI (A 8) x (gF 8)) ≤ 1) := by
  refine Ct_of [some (.ref f2), some (jI x), none] (by decide) (Nat.le_of_ble_eq_true rfl) rfl (fun κ hl h hR hRt hmn hn0 => ?_)
  have h : Ok κ RX8 cX8_trolleyAt 3 (some .int) := h
  obtain ⟨hnf, hOf, hAf⟩ := id hMF
  have hA8 : M (f2 + 8) = jdA 2 (A 8) := hAf 8 (by omega) (by omega)
  refine jr_iconst (pc := 0) h dX8_trolleyAt_0 ?_
  refine jr_istore_n (pc := 1) h [_, _, _] dX8_trolleyAt_1 (by decide) rfl ?_
  have loop : ∀ (dq : Nat) (i : Int), (0 ≤ i ∧ i ≤ gF 8) → (fnI (A 8) x (gF 8) = fnR (A 8) x i.toNat (gF 8 - i).toNat) → (20 - i).toNat < dq → J κ 3 0 0 n 2 [some (.ref f2), some (jI x), some (jI i)] [] M := by
    intro dq
    induction dq with
    | zero => intro i hi hr hd; omega
    | succ dq ih =>
      intro i hi hr hd
      have h8i := h8 i.toNat
      refine jr_iload_n (pc := 2) h dX8_trolleyAt_2 rfl ?_
      refine jr_aload_n (pc := 3) h dX8_trolleyAt_3 rfl ?_
      refine gf_X8_133 (pc := 4) h dX8_trolleyAt_4 (by assumption) (by omega) ?_
      refine jr_icmp_ge (pc := 7) h 28 dX8_trolleyAt_7 (by decide) (by omega) (by omega) (fun c_7 => ?_) (fun c_7 => ?_)
      · skip
        refine jr_iconst (pc := 28) h dX8_trolleyAt_28 ?_
        refine jr_iret (pc := 29) h hRt dX8_trolleyAt_29 rfl (Nat.le_of_ble_eq_true rfl) (Nat.le_of_ble_eq_true rfl) ?_
        first
        | (rw [hr, show (gF 8 - i).toNat = (gF 8 - (i + 1)).toNat + 1 by omega, fnR, if_pos (by omega)]; exact ⟨⟨ji_c (by omega), rfl, rfl⟩, by omega⟩)
        | (rw [hr, show (gF 8 - i).toNat = 0 by omega, fnR]; exact ⟨⟨rfl, rfl, rfl⟩, by omega⟩)
      · skip
        refine jr_aload_n (pc := 10) h dX8_trolleyAt_10 rfl ?_
        refine gf_X8_37 (pc := 11) h dX8_trolleyAt_11 (by assumption) (by omega) ?_
        refine jr_iload_n (pc := 14) h dX8_trolleyAt_14 rfl ?_
        refine jr_iald (pc := 15) h dX8_trolleyAt_15 (by assumption) (by omega) (by omega) ?_
        refine jr_iload_n (pc := 16) h dX8_trolleyAt_16 rfl ?_
        refine jr_icmp_ne (pc := 17) h 22 dX8_trolleyAt_17 (by decide) (by omega) (by omega) (fun c_17 => ?_) (fun c_17 => ?_)
        · skip
          refine jr_iinc (pc := 22) h [_, _, _] dX8_trolleyAt_22 (by decide) rfl rfl ?_
          refine jr_goto (pc := 25) h 2 dX8_trolleyAt_25 (by decide) ?_
          refine ih _ (by omega) ?_ (by omega)
          rw [hr, show (gF 8 - i).toNat = (gF 8 - (i + 1)).toNat + 1 by omega, fnR, if_neg (by omega), show (i + 1).toNat = i.toNat + 1 by omega]
        · skip
          refine jr_iload_n (pc := 20) h dX8_trolleyAt_20 rfl ?_
          refine jr_iret (pc := 21) h hRt dX8_trolleyAt_21 rfl (Nat.le_of_ble_eq_true rfl) (Nat.le_of_ble_eq_true rfl) ?_
          first
          | (rw [hr, show (gF 8 - i).toNat = (gF 8 - (i + 1)).toNat + 1 by omega, fnR, if_pos (by omega)]; exact ⟨⟨ji_c (by omega), rfl, rfl⟩, by omega⟩)
          | (rw [hr, show (gF 8 - i).toNat = 0 by omega, fnR]; exact ⟨⟨rfl, rfl, rfl⟩, by omega⟩)
  exact loop _ _ (by omega) (by unfold fnI; rw [Int.sub_zero]; rfl) (Nat.lt_succ_self _)
set_option maxHeartbeats 1000000 in
set_option maxRecDepth 20000 in
theorem s_X9_readTrolley {l : Launch} {n : Nat} {M : jdM} {m f2 : Nat} {g : Nat → Int} {w : Int} {fl : Value} {B : Nat → Nat → Int} (hX : MX M n m g w fl (.ref f2) B) {bs : Nat → Int} (hbt : ∀ j, j < 900 → B 1 j = bs j) (hbb : ∀ j, -128 ≤ bs j ∧ bs j ≤ 127) {p : TS} (hTR : TR bs p g w) (hPO : PO p) {gF : Nat → Int} {A : Nat → Nat → Int} (hMF : MF M n f2 gF A) (hsep : f2 + 30 < m ∨ m + 12 < f2) (hRB : RB gF A) {ct td : Nat → Int} (hFR : FR p ct td gF A) (q7 : p.1 7 = 0) (q4 : p.1 4 = 1) : Ct l yX9_readTrolley cX9_readTrolley 4 none rX9_readTrolley [.ref m] n M (fun vv n' M' => (vv = none ∧ n = n') ∧ ∃ g' w' gF' A', MX M' n m g' w' fl (.ref f2) B ∧ gkp g g' ∧ TR bs (tlnP bs ct td 5 p).1 g' w' ∧ MF M' n f2 gF' A' ∧ RB gF' A' ∧ ((tlnP bs ct td 5 p).1.1 7 = 0 → FR (tlnP bs ct td 5 p).1 (tlnP bs ct td 5 p).2.1 (tlnP bs ct td 5 p).2.2 gF' A') ∧ fr (RFS m f2) M M') := by
  refine Ct_of [some (.ref m), none, none, none] (by decide) (Nat.le_of_ble_eq_true rfl) rfl (fun κ hl h hR hRt hmn hn0 => ?_)
  have h : Ok κ RX9 cX9_readTrolley 4 none := h
  obtain ⟨hnm, hOm, hBm⟩ := id hX
  have hOm : M m = jdO 9 (fX9 m _ _ fl (.ref f2)) := hOm
  obtain ⟨hnf, hOf, hAf⟩ := id hMF
  have fR : fr (RFS m f2) M M := fr_rf
  have hgk : gkp g g := gkp_r
  have hNB := hRB.1
  obtain ⟨hcb, h0b, h3b, h8b⟩ := hRB.2
  have hNRp := hFR.2.2.2.1
  have hNIp := hFR.2.2.2.2.1
  have hcnt := hFR.2.2.2.2.2.2
  obtain ⟨k5, k6, k7, k8, k9, k10, k11, k12, k13, k14, k15⟩ := hFR.2.1
  have hNBc := hNB.1
  refine jr_aload_n (pc := 0) h dX9_readTrolley_0 rfl ?_
  refine jr_aload_n (pc := 1) h dX9_readTrolley_1 rfl ?_
  refine gf_X9_174 (pc := 2) h dX9_readTrolley_2 (by assumption) (by omega) ?_
  refine gf_X9_214 (pc := 5) h dX9_readTrolley_5 (by assumption) (by omega) ?_
  refine jr_iconst (pc := 8) h dX9_readTrolley_8 ?_
  refine iv_X9_274 (pc := 9) h hl hR dX9_readTrolley_9 ⟨(Nat.le_of_ble_eq_true rfl), (Nat.le_of_ble_eq_true rfl), (Nat.le_of_ble_eq_true rfl), (Nat.le_of_ble_eq_true rfl)⟩ (Nat.le_of_ble_eq_true rfl) (by assumption) (by omega) (s_X9_begins hX hbt hbb hTR hPO q7 q4 (x := gF 8) (y := 2) (by omega) (by omega)) (fun v_9 n_9 M_9 hn_9 hp => ?_)
  obtain ⟨⟨rfl, rfl⟩, g1, w1, hX, hg1, hTR, f9⟩ := hp
  have fR := fr_tr fR (fr_mo f9 (fun k q => Or.inl q))
  have hgk := gkp_t hgk hg1
  have hMF := MF_fr hMF f9 (Nat.le_refl _) (fun k h1 h2 q => by have := q.1; have := q.2; omega)
  obtain ⟨p0, ep0⟩ : ∃ z, (if gF 8 = 2 then flP 5 p else nxP bs p) = z := ⟨_, rfl⟩
  rw [ep0] at hTR
  have hc0 : (ct 5 = 2 ∧ p0 = flP 5 p) ∨ (ct 5 < 2 ∧ p0 = nxP bs p) := by
    rw [← ep0]
    by_cases q : gF 8 = 2
    · rw [if_pos q]; exact Or.inl ⟨by omega, rfl⟩
    · rw [if_neg q]; exact Or.inr ⟨by omega, rfl⟩
  replace hPO : PO p0 := by
    rcases hc0 with ⟨-, e⟩ | ⟨-, e⟩ <;> rw [e]
    · exact flP_O hPO (by omega)
    · exact nxP_O hPO
  have hok0 : Imp (OKp p0) (ct 5 < 2 ∧ p0 = nxP bs p ∧ K12 p p0) := fun q => by
    rcases hc0 with ⟨-, e⟩ | ⟨h9, e⟩
    · rw [e] at q; exact absurd q (flP_x (by omega))
    · exact ⟨h9, e, by rw [e]; exact K12_nx⟩
  have hNRc : Imp (p0.1 7 = 0) (NR p0 gF A) := fun q => NR_K hNRp (hok0 q).2.2 rfl (fun _ _ => rfl)
  have hNIc : Imp (p0.1 7 = 0) (NI p0 ct) := fun q => NI_K hNIp (hok0 q).2.2 (Int.le_refl _) (Int.le_refl _)
  obtain ⟨hnm, hOm, hBm⟩ := id hX
  have hOm : M_9 m = jdO 9 (fX9 m _ _ fl (.ref f2)) := hOm
  obtain ⟨hnf, hOf, hAf⟩ := id hMF
  
  refine jr_aload_n (pc := 12) h dX9_readTrolley_12 rfl ?_
  refine jr_iconst (pc := 13) h dX9_readTrolley_13 ?_
  refine jr_aload_n (pc := 14) h dX9_readTrolley_14 rfl ?_
  refine gf_X9_174 (pc := 15) h dX9_readTrolley_15 (by assumption) (by omega) ?_
  refine gf_X9_214 (pc := 18) h dX9_readTrolley_18 (by assumption) (by omega) ?_
  refine iv_X9_278 (pc := 21) h hl hR dX9_readTrolley_21 ⟨(Nat.le_of_ble_eq_true rfl), (Nat.le_of_ble_eq_true rfl), (Nat.le_of_ble_eq_true rfl), (Nat.le_of_ble_eq_true rfl)⟩ (Nat.le_of_ble_eq_true rfl) (by assumption) (by omega) (s_X9_readFresh hX hbt hbb (p := p0) hTR hPO hMF hsep hNB hNRc (s := 5) (x := 1) (y := gF 8) (by omega) rfl (by omega) (by omega) (fun q => by have := hok0 q; have h12 := this.2.2.2; omega)) (fun v_21 n_21 M_21 hn_21 hp => ?_)
  obtain ⟨⟨rfl, rfl⟩, g1, w1, gF1, A1, hX, hg1, hTR, hMF, hNB, hNRc, hgo, hAo, f9⟩ := hp
  have fR := fr_tr fR f9
  have hgk := gkp_t hgk hg1
  rw [k8] at hTR hNRc
  obtain ⟨p1, ep1⟩ : ∃ z, nnP bs 5 (ct 5) p0 = z := ⟨_, rfl⟩
  rw [ep1] at hTR hNRc
  replace hPO : PO p1 := by rw [← ep1]; exact nnP_O hPO (by omega) (by omega)
  replace hNRc : Imp (p1.1 7 = 0) (NR p1 gF1 A1) := hNRc
  have hNIc : Imp (p1.1 7 = 0) (NI p1 (up ct 5 (ct 5 + 1))) := fun q => by
    rw [← ep1] at q ⊢
    have h9 := ok_nn q
    rw [h9.2.2]
    exact NI_nm (hNIc h9.1) (fun q => absurd q (by decide)) (fun _ => by rw [up_eq]; omega) (by rw [up_ne (by omega)]; omega) (by rw [up_eq]; omega)
  have hok1 : Imp (OKp p1) (OKp p0 ∧ p0.1 12 < 16 ∧ p1 = nxP bs (nmP 5 (ct 5) p0)) := fun q => by
    rw [← ep1] at q ⊢
    exact ok_nn q
  have hf1 : Imp (p0.1 7 ≠ 0) (p1 = p0) := fun q => by rw [← ep1]; exact xP_f_nn q
  have hRB1 : RB gF1 A1 := ⟨hNB, by rw [hgo 5 (by omega), hgo 6 (by omega), hgo 7 (by omega), hgo 8 (by omega), hgo 9 (by omega), hgo 10 (by omega), hgo 11 (by omega), hgo 12 (by omega), hgo 13 (by omega), hgo 14 (by omega), hgo 15 (by omega)]; exact hRB.2.1, by rw [hgo 0 (by omega)]; exact hRB.2.2.1, by rw [hgo 3 (by omega)]; exact hRB.2.2.2.1, by rw [hAo 8 (by omega)]; exact hRB.2.2.2.2⟩
  obtain ⟨hnm, hOm, hBm⟩ := id hX
  have hOm : M_21 m = jdO 9 (fX9 m _ _ fl (.ref f2)) := hOm
  obtain ⟨hnf, hOf, hAf⟩ := id hMF
  
  have hg8r := hRB1.2.1.2.2.2.1
  have K85 : ∀ (v2 : Int) (u2 u3 : Option Value) (g1 : Nat → Int) (w1 : Int) (M1 : jdM) (p2 : TS), MX M1 n m g1 w1 fl (.ref f2) B → gkp g g1 → TR bs p2 g1 w1 → PO p2 → MF M1 n f2 gF1 A1 → fr (RFS m f2) M M1 → (trP bs ct (opT ct td 5) p1).2 = p2 → Imp (OKp p2) (OKp p1 ∧ K12 p1 p2 ∧ v2 = (trP bs ct (opT ct td 5) p1).1 ∧ (0 ≤ v2 ∧ v2 ≤ 1)) → Imp (OKp p2) (∀ i : Int, 0 ≤ i → i < ct 5 → c_get td 5 i 0 ≠ v2) → J κ 4 (0 + rX9_begins.cells + rX9_readFresh.cells) (0 + rX9_begins.slots + rX9_readFresh.slots) n 85 [some (.ref m), some (jI v2), u2, u3] [] M1 := by
    intro v2 u2 u3 g1 w1 M1 p2 hX hgk hTR hPO hMF fR ep2 hok2 hnd
    have hf2 : Imp (p1.1 7 ≠ 0) (p2 = p1) := fun q => by rw [← ep2]; exact xP_f_tr q
    have hNRc : Imp (p2.1 7 = 0) (NR p2 gF1 A1) := fun q => NR_K (hNRc (hok2 q).1) (hok2 q).2.1 rfl (fun _ _ => rfl)
    have hNIc : Imp (p2.1 7 = 0) (NI p2 (up ct 5 (ct 5 + 1))) := fun q => NI_K (hNIc (hok2 q).1) (hok2 q).2.1 (Int.le_refl _) (Int.le_refl _)
    obtain ⟨hnm, hOm, hBm⟩ := id hX
    have hOm : M1 m = jdO 9 (fX9 m _ _ fl (.ref f2)) := hOm
    obtain ⟨hnf, hOf, hAf⟩ := id hMF
    
    refine jr_aload_n (pc := 85) h dX9_readTrolley_85 rfl ?_
    refine jr_ldcwS (pc := 86) h 48 (by decide) ⟨rfl, rfl⟩ dX9_readTrolley_86 ?_
    refine jr_iconst (pc := 89) h dX9_readTrolley_89 ?_
    refine jr_bipush (pc := 90) h dX9_readTrolley_90 bp_14 ?_
    refine iv_X9_257 (pc := 92) h hl hR dX9_readTrolley_92 ⟨(Nat.le_of_ble_eq_true rfl), (Nat.le_of_ble_eq_true rfl), (Nat.le_of_ble_eq_true rfl), (Nat.le_of_ble_eq_true rfl)⟩ (Nat.le_of_ble_eq_true rfl) (by assumption) (by omega) (s_X9_readPart hX hbt hbb (p := p2) (k := 48) (x := 1) (y := 14) hTR hPO (by omega) (by omega) (by omega) (by omega)) (fun v_92 n_92 M_92 hn_92 hp => ?_)
    obtain ⟨v3, ⟨rfl, rfl⟩, hvr3, hve3, g1, w1, hX, hg1, hTR, f9⟩ := hp
    have fR := fr_tr fR (fr_mo f9 (fun k q => Or.inl q))
    have hgk := gkp_t hgk hg1
    have hMF := MF_fr hMF f9 (Nat.le_refl _) (fun k h1 h2 q => by have := q.1; have := q.2; omega)
    rw [lb_c (show jtxt 48 = jtxt 5 from rfl)] at hve3 hTR
    obtain ⟨p3, ep3⟩ : ∃ z, (lbP bs 5 1 14 p2).2 = z := ⟨_, rfl⟩
    rw [ep3] at hTR hve3
    replace hPO : PO p3 := by rw [← ep3]; exact (fun h => ehP_O (ewP_O h)) hPO
    have hok3 : Imp (OKp p3) (OKp p2 ∧ K12 p2 p3 ∧ v3 = (lbP bs 5 1 14 p2).1 ∧ (1 ≤ v3 ∧ v3 ≤ 14)) := fun q => by
      have e := hve3 q
      rw [← ep3] at q ⊢
      have h9 := ok_lb q
      rw [e]
      exact ⟨h9.1, h9.2.2, rfl, h9.2.1⟩
    clear hve3
    have hf3 : Imp (p2.1 7 ≠ 0) (p3 = p2) := fun q => by rw [← ep3]; exact xP_f_lb q
    have hNRc : Imp (p3.1 7 = 0) (NR p3 gF1 A1) := fun q => NR_K (hNRc (hok3 q).1) (hok3 q).2.1 rfl (fun _ _ => rfl)
    have hNIc : Imp (p3.1 7 = 0) (NI p3 (up ct 5 (ct 5 + 1))) := fun q => NI_K (hNIc (hok3 q).1) (hok3 q).2.1 (Int.le_refl _) (Int.le_refl _)
    obtain ⟨hnm, hOm, hBm⟩ := id hX
    have hOm : M_92 m = jdO 9 (fX9 m _ _ fl (.ref f2)) := hOm
    obtain ⟨hnf, hOf, hAf⟩ := id hMF
    
    have h5r := (TR_5 hTR hPO).2.2
    refine jr_istore_n (pc := 95) h [_, _, _, _] dX9_readTrolley_95 (by decide) rfl ?_
    refine jr_aload_n (pc := 96) h dX9_readTrolley_96 rfl ?_
    refine jr_ldcwS (pc := 97) h 49 (by decide) ⟨rfl, rfl⟩ dX9_readTrolley_97 ?_
    refine jr_bipush (pc := 100) h dX9_readTrolley_100 bp_8 ?_
    refine jr_bipush (pc := 102) h dX9_readTrolley_102 bp_40 ?_
    refine iv_X9_257 (pc := 104) h hl hR dX9_readTrolley_104 ⟨(Nat.le_of_ble_eq_true rfl), (Nat.le_of_ble_eq_true rfl), (Nat.le_of_ble_eq_true rfl), (Nat.le_of_ble_eq_true rfl)⟩ (Nat.le_of_ble_eq_true rfl) (by assumption) (by omega) (s_X9_readPart hX hbt hbb (p := p3) (k := 49) (x := 8) (y := 40) hTR hPO (by omega) (by omega) (by omega) (by omega)) (fun v_104 n_104 M_104 hn_104 hp => ?_)
    obtain ⟨v4, ⟨rfl, rfl⟩, hvr4, hve4, g1, w1, hX, hg1, hTR, f9⟩ := hp
    have fR := fr_tr fR (fr_mo f9 (fun k q => Or.inl q))
    have hgk := gkp_t hgk hg1
    have hMF := MF_fr hMF f9 (Nat.le_refl _) (fun k h1 h2 q => by have := q.1; have := q.2; omega)
    rw [lb_c (show jtxt 49 = jtxt 6 from rfl)] at hve4 hTR
    obtain ⟨p4, ep4⟩ : ∃ z, (lbP bs 6 8 40 p3).2 = z := ⟨_, rfl⟩
    rw [ep4] at hTR hve4
    replace hPO : PO p4 := by rw [← ep4]; exact (fun h => ehP_O (ewP_O h)) hPO
    have hok4 : Imp (OKp p4) (OKp p3 ∧ K12 p3 p4 ∧ v4 = (lbP bs 6 8 40 p3).1 ∧ (8 ≤ v4 ∧ v4 ≤ 40)) := fun q => by
      have e := hve4 q
      rw [← ep4] at q ⊢
      have h9 := ok_lb q
      rw [e]
      exact ⟨h9.1, h9.2.2, rfl, h9.2.1⟩
    clear hve4
    have hf4 : Imp (p3.1 7 ≠ 0) (p4 = p3) := fun q => by rw [← ep4]; exact xP_f_lb q
    have hNRc : Imp (p4.1 7 = 0) (NR p4 gF1 A1) := fun q => NR_K (hNRc (hok4 q).1) (hok4 q).2.1 rfl (fun _ _ => rfl)
    have hNIc : Imp (p4.1 7 = 0) (NI p4 (up ct 5 (ct 5 + 1))) := fun q => NI_K (hNIc (hok4 q).1) (hok4 q).2.1 (Int.le_refl _) (Int.le_refl _)
    obtain ⟨hnm, hOm, hBm⟩ := id hX
    have hOm : M_104 m = jdO 9 (fX9 m _ _ fl (.ref f2)) := hOm
    obtain ⟨hnf, hOf, hAf⟩ := id hMF
    
    have h5r := (TR_5 hTR hPO).2.2
    refine jr_istore_n (pc := 107) h [_, _, _, _] dX9_readTrolley_107 (by decide) rfl ?_
    refine jr_aload_n (pc := 108) h dX9_readTrolley_108 rfl ?_
    refine gf_X9_80 (pc := 109) h dX9_readTrolley_109 (by assumption) (by omega) ?_
    refine jr_iconst (pc := 112) h dX9_readTrolley_112 ?_
    refine jr_icmp_ne (pc := 113) h 117 dX9_readTrolley_113 (by decide) (by omega) (by omega) (fun c_113 => ?_) (fun c_113 => ?_)
    · first | have d_113 := bz_0.mp c_113 | have d_113 := bz_1.mp c_113 | skip
      have h57 := (TR_5 hTR hPO).1
      have hpe : p4.1 7 = 0 := Classical.byContradiction (fun q => by have := h57.2 q; omega)
      have hk4 := hok4 hpe
      have hk3 := hok3 hk4.1
      have hk2 := hok2 hk3.1
      have hk1 := hok1 hk2.1
      have hk0 := hok0 hk1.1
      have hl0 := hk0.1
      have hr2 := hk2.2.2.2
      have hv2 := hk2.2.2.1
      have hr3 := hk3.2.2.2
      have hv3 := hk3.2.2.1
      have hr4 := hk4.2.2.2
      have hv4 := hk4.2.2.1
      have g5o := hgo 5 (by omega)
      have g6o := hgo 6 (by omega)
      have g7o := hgo 7 (by omega)
      have g8o := hgo 8 (by omega)
      have g9o := hgo 9 (by omega)
      have g10o := hgo 10 (by omega)
      have g11o := hgo 11 (by omega)
      have g12o := hgo 12 (by omega)
      have g13o := hgo 13 (by omega)
      have g14o := hgo 14 (by omega)
      have g15o := hgo 15 (by omega)
      have hA8 : M_104 (f2 + 8) = jdA 2 (A1 8) := hAf 8 (by omega) (by omega)
      have hA9 : M_104 (f2 + 9) = jdA 2 (A1 9) := hAf 9 (by omega) (by omega)
      have hA10 : M_104 (f2 + 10) = jdA 2 (A1 10) := hAf 10 (by omega) (by omega)
      refine jr_aload_n (pc := 117) h dX9_readTrolley_117 rfl ?_
      refine gf_X9_174 (pc := 118) h dX9_readTrolley_118 (by assumption) (by omega) ?_
      refine gf_X9_326 (pc := 121) h dX9_readTrolley_121 (by assumption) (by omega) ?_
      refine jr_aload_n (pc := 124) h dX9_readTrolley_124 rfl ?_
      refine gf_X9_174 (pc := 125) h dX9_readTrolley_125 (by assumption) (by omega) ?_
      refine gf_X9_214 (pc := 128) h dX9_readTrolley_128 (by assumption) (by omega) ?_
      refine jr_iload_n (pc := 131) h dX9_readTrolley_131 rfl ?_
      refine jr_iast (pc := 132) h dX9_readTrolley_132 hA8 (by omega) (by omega) ?_
      refine jm_gen (fun M2 hM2 => ?_)
      have hMF := MF_A (i := 8) hMF hM2 (by omega)
      have f9 : fr (MFS f2) _ M2 := fr_up (S := MFS f2) hM2 ⟨by omega, by omega⟩
      have hX := MX_fr hX f9 (Nat.le_refl _) (fun k h1 h2 q => by have := q.1; have := q.2; omega)
      have fR := fr_tr fR (fr_mo f9 (fun k q => Or.inr q))
      obtain ⟨hnm, hOm, hBm⟩ := id hX
      have hOm : M2 m = jdO 9 (fX9 m _ _ fl (.ref f2)) := hOm
      obtain ⟨hnf, hOf, hAf⟩ := id hMF
      have hA9 : M2 (f2 + 9) = jdA 2 (A1 9) := hAf 9 (by omega) (by omega)
      have hA10 : M2 (f2 + 10) = jdA 2 (A1 10) := hAf 10 (by omega) (by omega)
      refine jr_aload_n (pc := 133) h dX9_readTrolley_133 rfl ?_
      refine gf_X9_174 (pc := 134) h dX9_readTrolley_134 (by assumption) (by omega) ?_
      refine gf_X9_329 (pc := 137) h dX9_readTrolley_137 (by assumption) (by omega) ?_
      refine jr_aload_n (pc := 140) h dX9_readTrolley_140 rfl ?_
      refine gf_X9_174 (pc := 141) h dX9_readTrolley_141 (by assumption) (by omega) ?_
      refine gf_X9_214 (pc := 144) h dX9_readTrolley_144 (by assumption) (by omega) ?_
      refine jr_iload_n (pc := 147) h dX9_readTrolley_147 rfl ?_
      refine jr_iast (pc := 148) h dX9_readTrolley_148 hA9 (by omega) (by omega) ?_
      refine jm_gen (fun M2 hM2 => ?_)
      have hMF := MF_A (i := 9) hMF hM2 (by omega)
      have f9 : fr (MFS f2) _ M2 := fr_up (S := MFS f2) hM2 ⟨by omega, by omega⟩
      have hX := MX_fr hX f9 (Nat.le_refl _) (fun k h1 h2 q => by have := q.1; have := q.2; omega)
      have fR := fr_tr fR (fr_mo f9 (fun k q => Or.inr q))
      obtain ⟨hnm, hOm, hBm⟩ := id hX
      have hOm : M2 m = jdO 9 (fX9 m _ _ fl (.ref f2)) := hOm
      obtain ⟨hnf, hOf, hAf⟩ := id hMF
      have hA10 : M2 (f2 + 10) = jdA 2 (A1 10) := hAf 10 (by omega) (by omega)
      refine jr_aload_n (pc := 149) h dX9_readTrolley_149 rfl ?_
      refine gf_X9_174 (pc := 150) h dX9_readTrolley_150 (by assumption) (by omega) ?_
      refine gf_X9_331 (pc := 153) h dX9_readTrolley_153 (by assumption) (by omega) ?_
      refine jr_aload_n (pc := 156) h dX9_readTrolley_156 rfl ?_
      refine gf_X9_174 (pc := 157) h dX9_readTrolley_157 (by assumption) (by omega) ?_
      refine gf_X9_214 (pc := 160) h dX9_readTrolley_160 (by assumption) (by omega) ?_
      refine jr_iload_n (pc := 163) h dX9_readTrolley_163 rfl ?_
      refine jr_iast (pc := 164) h dX9_readTrolley_164 hA10 (by omega) (by omega) ?_
      refine jm_gen (fun M2 hM2 => ?_)
      have hMF := MF_A (i := 10) hMF hM2 (by omega)
      have f9 : fr (MFS f2) _ M2 := fr_up (S := MFS f2) hM2 ⟨by omega, by omega⟩
      have hX := MX_fr hX f9 (Nat.le_refl _) (fun k h1 h2 q => by have := q.1; have := q.2; omega)
      have fR := fr_tr fR (fr_mo f9 (fun k q => Or.inr q))
      obtain ⟨hnm, hOm, hBm⟩ := id hX
      have hOm : M2 m = jdO 9 (fX9 m _ _ fl (.ref f2)) := hOm
      obtain ⟨hnf, hOf, hAf⟩ := id hMF
      
      refine jr_aload_n (pc := 165) h dX9_readTrolley_165 rfl ?_
      refine gf_X9_174 (pc := 166) h dX9_readTrolley_166 (by assumption) (by omega) ?_
      refine jr_dup (pc := 169) h dX9_readTrolley_169 rfl ?_
      refine gf_X9_214 (pc := 170) h dX9_readTrolley_170 (by assumption) (by omega) ?_
      refine jr_iconst (pc := 173) h dX9_readTrolley_173 ?_
      refine jr_iadd (pc := 174) h dX9_readTrolley_174 ?_
      refine pf_X9_214 (pc := 175) h dX9_readTrolley_175 hOf (by omega) ?_
      refine jm_gen (fun M2 hM2 => ?_)
      rw [fX8_8] at hM2
      have hMF := MF_g hMF hM2
      have f9 : fr (MFS f2) _ M2 := fr_up (S := MFS f2) hM2 ⟨by omega, by omega⟩
      have hX := MX_fr hX f9 (Nat.le_refl _) (fun k h1 h2 q => by have := q.1; have := q.2; omega)
      have fR := fr_tr fR (fr_mo f9 (fun k q => Or.inr q))
      obtain ⟨hnm, hOm, hBm⟩ := id hX
      have hOm : M2 m = jdO 9 (fX9 m _ _ fl (.ref f2)) := hOm
      obtain ⟨hnf, hOf, hAf⟩ := id hMF
      refine jr_vret (pc := 178) h hRt dX9_readTrolley_178 (Nat.le_of_ble_eq_true rfl) (Nat.le_of_ble_eq_true rfl) ?_
      have hcS : 0 ≤ ct (Int.toNat 5) ∧ ct (Int.toNat 5) < 8 := by show 0 ≤ ct 5 ∧ ct 5 < 8; omega
      have hFIr := hFR.2.2.1.2.2.2
      have e_ln : lnP bs ct (nxP bs p) (opT ct td 5) 5 = (p4, (up (up (up (opT ct td 5) (c_ix ct 5 0) v2) (c_ix ct 5 1) v3) (c_ix ct 5 2) v4)) := by
        show ln_5 bs ct (nnP bs 5 (ct 5) (nxP bs p)) (opT ct td 5) = _
        unfold ln_5
        rw [hk2.2.2.1, hk3.2.2.1, hk4.2.2.1, ← ep4, ← ep3, ← ep2, ← ep1, hk0.2.1]
      have e_tln : tlnP bs ct td 5 p = (p4, up ct 5 (ct 5 + 1), (up (up (up (opT ct td 5) (c_ix ct 5 0) v2) (c_ix ct 5 1) v3) (c_ix ct 5 2) v4)) := by
        rw [tln_1 (by omega) (by show ¬ (2 : Int) ≤ ct 5; omega), e_ln]
        unfold tlnC
        show (p4, (if p4.1 7 = 0 then up ct 5 (ct 5 + 1) else ct), (up (up (up (opT ct td 5) (c_ix ct 5 0) v2) (c_ix ct 5 1) v3) (c_ix ct 5 2) v4)) = _
        rw [if_pos hpe]
      have t0 : c_get (up (up (up (opT ct td 5) (c_ix ct 5 0) v2) (c_ix ct 5 1) v3) (c_ix ct 5 2) v4) 5 (ct 5) 0 = v2 := (gn_ne (by omega) hcS rfl (by omega) (by omega) (by omega)).trans ((gn_ne (by omega) hcS rfl (by omega) (by omega) (by omega)).trans (gn_eq (by omega) hcS rfl (by omega)))
      have t1 : c_get (up (up (up (opT ct td 5) (c_ix ct 5 0) v2) (c_ix ct 5 1) v3) (c_ix ct 5 2) v4) 5 (ct 5) 1 = v3 := (gn_ne (by omega) hcS rfl (by omega) (by omega) (by omega)).trans (gn_eq (by omega) hcS rfl (by omega))
      have t2 : c_get (up (up (up (opT ct td 5) (c_ix ct 5 0) v2) (c_ix ct 5 1) v3) (c_ix ct 5 2) v4) 5 (ct 5) 2 = v4 := gn_eq (by omega) hcS rfl (by omega)
      rw [e_tln]
      refine ⟨⟨rfl, rfl⟩, _, _, _, _, hX, hgk, hTR, hMF, ?_, fun _ => ?_, fR⟩
      · refine RB_up (k := 8) hRB1 ⟨by omega, by omega⟩ (by show gF1 8 < 2; omega) (fun i hi => by
          rw [up_ne (by omega), up_ne (by omega), up_eq]
          by_cases q : i = (gF1 8).toNat
          · rw [q, up_eq]; omega
          · rw [up_ne q]; exact hRB1.2.2.2.2 i hi) (fun j hj => by rw [up_ne (by omega), up_ne (by omega), up_ne (by omega)])
      · show FR p4 (up ct 5 (ct 5 + 1)) (up (up (up (opT ct td 5) (c_ix ct 5 0) v2) (c_ix ct 5 1) v3) (c_ix ct 5 2) v4) _ _
        refine FR_upd (s := 5) hFR ⟨by omega, by omega⟩ (by show ct 5 < 2; omega) (OUT_up (OUT_up (OUT_up OUT_op (by omega) hcS.1 (by omega)) (by omega) hcS.1 (by omega)) (by omega) hcS.1 (by omega)) (rn_up (rn_up (rn_up (rn_op hFIr) (by omega)) (by omega)) (by omega)) ?_ (fun _ i h1 h2 => by rw [t0]; exact hnd hk3.1 i h1 h2) (fun j h1 h2 h3 => by
          have hA9 := hAo j h2
          rw [up_ne (fun e => h3 (by rw [e]; rfl)), up_ne (fun e => h3 (by rw [e]; rfl)), up_ne (fun e => h3 (by rw [e]; rfl)), hA9]) ⟨fun q => absurd q (by decide), fun q => absurd q (by decide), fun q => absurd q (by decide), fun _ => ⟨by rw [t0]; show up (A1 8) (gF1 8).toNat v2 = up (A 8) (ct 5).toNat v2; rw [hAo 8 (by omega), hgo 8 (by omega), k8], by rw [t1]; show up (A1 9) (gF1 8).toNat v3 = up (A 9) (ct 5).toNat v3; rw [hAo 9 (by omega), hgo 8 (by omega), k8], by rw [t2]; show up (A1 10) (gF1 8).toNat v4 = up (A 10) (ct 5).toNat v4; rw [hAo 10 (by omega), hgo 8 (by omega), k8]⟩, fun q => absurd q (by decide), fun q => absurd q (by decide), fun q => absurd q (by decide), fun q => absurd q (by decide), fun q => absurd q (by decide), fun q => absurd q (by decide), fun q => absurd q (by decide)⟩ (by show up gF1 8 (gF1 8 + 1) 8 = gF 8 + 1; rw [up_eq, hgo 8 (by omega)]) (fun j hj hne => by rw [up_ne (by omega), hgo j (by omega)]) (NR_K (hNRc hpe) K12_r (up_ne (by omega)) (fun j hj => by rw [up_ne (by omega), up_ne (by omega), up_ne (by omega)])) (NI_K (hNIc hpe) K12_r (Int.le_refl _) (Int.le_refl _)) ?_
        · refine ⟨fun q => ?_, fun q => ?_, fun q => ?_, fun q => ?_, fun q => ?_, fun q => ?_, fun q => ?_, fun q => ?_, fun q => ?_, fun q => ?_, fun q => ?_, fun q => ?_, fun q => ?_⟩ <;> first | (exfalso; omega) | (rw [t0, t1, t2]; omega)
        · rw [if_pos (by omega)]
          have e12 : p1.1 12 = p0.1 12 + 1 := by rw [hk1.2.2, K12_nx.2]; show up p0.1 12 (p0.1 12 + 1) 12 = _; rw [up_eq]
          have e0 := hk0.2.2.2
          have x2 := hk2.2.1.2
          have x3 := hk3.2.1.2
          have x4 := hk4.2.1.2
          omega
    · first | have d_113 := bz_0.mp c_113 | have d_113 := bz_1.mp c_113 | skip
      refine jr_vret (pc := 116) h hRt dX9_readTrolley_116 (Nat.le_of_ble_eq_true rfl) (Nat.le_of_ble_eq_true rfl) ?_
      have h57 := (TR_5 hTR hPO).1
      have hpf : p4.1 7 ≠ 0 := h57.1 (by omega)
      have e_end : (tlnP bs ct td 5 p).1 = p4 := by
        rcases hc0 with ⟨hlm, e0⟩ | ⟨hlm, e0⟩
        · have hb0 : p0.1 7 ≠ 0 := by rw [e0]; exact flP_x (by omega)
          have e1 := hf1 hb0
          have hb1 : p1.1 7 ≠ 0 := by rw [e1]; exact hb0
          have e2 := hf2 hb1
          have hb2 : p2.1 7 ≠ 0 := by rw [e2]; exact hb1
          have e3 := hf3 hb2
          have hb3 : p3.1 7 ≠ 0 := by rw [e3]; exact hb2
          have e4 := hf4 hb3
          have hb4 : p4.1 7 ≠ 0 := by rw [e4]; exact hb3
          rw [tln_0 (by omega) (by show (2 : Int) ≤ ct 5; omega)]
          show flP 5 p = p4
          rw [e4, e3, e2, e1, e0]
        · rw [tln_1 (by omega) (by show ¬ (2 : Int) ≤ ct 5; omega)]
          show (ln_5 bs ct (nnP bs 5 (ct 5) (nxP bs p)) (opT ct td 5)).1 = p4
          rw [← ep4, ← ep3, ← ep2, ← ep1, e0]
          unfold ln_5
          rfl
      exact ⟨⟨rfl, rfl⟩, _, _, _, _, hX, hgk, (by rw [e_end]; exact hTR), hMF, hRB1, fun q => absurd q (by rw [e_end]; exact hpf), fR⟩
  have h5r := (TR_5 hTR hPO).2.2
  refine jr_aload_n (pc := 24) h dX9_readTrolley_24 rfl ?_
  refine jr_ldcwS (pc := 25) h 46 (by decide) ⟨rfl, rfl⟩ dX9_readTrolley_25 ?_
  refine iv_X9_119 (pc := 28) h hl hR dX9_readTrolley_28 ⟨(Nat.le_of_ble_eq_true rfl), (Nat.le_of_ble_eq_true rfl), (Nat.le_of_ble_eq_true rfl), (Nat.le_of_ble_eq_true rfl)⟩ (Nat.le_of_ble_eq_true rfl) (by assumption) (by omega) (s_X9_isWord_t hX hTR hPO (k := 46) (by omega) (by omega)) (fun v_28 n_28 M_28 hn_28 hp => ?_)
  obtain ⟨⟨rfl, rfl, rfl⟩, gr_28⟩ := hp
  rw [bz_iff (show (p1.1 7 = 0 ∧ wordIs bs p1.1 46) ↔ (p1.1 7 = 0 ∧ wordIs bs p1.1 4) by rw [wi_c (show jtxt 46 = jtxt 4 from rfl)])] at gr_28 ⊢
  refine jr_if_eq (pc := 31) h 38 dX9_readTrolley_31 (by decide) (by omega) (fun c_31 => ?_) (fun c_31 => ?_)
  · first | have d_31 := bz_0.mp c_31 | have d_31 := bz_1.mp c_31 | skip
    refine jr_aload_n (pc := 38) h dX9_readTrolley_38 rfl ?_
    refine jr_ldcwS (pc := 39) h 47 (by decide) ⟨rfl, rfl⟩ dX9_readTrolley_39 ?_
    refine iv_X9_119 (pc := 42) h hl hR dX9_readTrolley_42 ⟨(Nat.le_of_ble_eq_true rfl), (Nat.le_of_ble_eq_true rfl), (Nat.le_of_ble_eq_true rfl), (Nat.le_of_ble_eq_true rfl)⟩ (Nat.le_of_ble_eq_true rfl) (by assumption) (by omega) (s_X9_isWord_t hX hTR hPO (k := 47) (by omega) (by omega)) (fun v_42 n_42 M_42 hn_42 hp => ?_)
    obtain ⟨⟨rfl, rfl, rfl⟩, gr_42⟩ := hp
    rw [bz_iff (show (p1.1 7 = 0 ∧ wordIs bs p1.1 47) ↔ (p1.1 7 = 0 ∧ wordIs bs p1.1 3) by rw [wi_c (show jtxt 47 = jtxt 3 from rfl)])] at gr_42 ⊢
    refine jr_if_eq (pc := 45) h 52 dX9_readTrolley_45 (by decide) (by omega) (fun c_45 => ?_) (fun c_45 => ?_)
    · first | have d_45 := bz_0.mp c_45 | have d_45 := bz_1.mp c_45 | skip
      refine jr_iconst (pc := 52) h dX9_readTrolley_52 ?_
      refine jr_istore_n (pc := 53) h [_, _, _, _] dX9_readTrolley_53 (by decide) rfl ?_
      refine jr_iload_n (pc := 54) h dX9_readTrolley_54 rfl ?_
      refine jr_iconst (pc := 55) h dX9_readTrolley_55 ?_
      refine jr_icmp_ne (pc := 56) h 64 dX9_readTrolley_56 (by decide) (by omega) (by omega) (fun c_56 => ?_) (fun c_56 => ?_)
      · first | have d_56 := bz_0.mp c_56 | have d_56 := bz_1.mp c_56 | skip
        exfalso
        omega
      · first | have d_56 := bz_0.mp c_56 | have d_56 := bz_1.mp c_56 | skip
        skip
        refine jr_aload_n (pc := 59) h dX9_readTrolley_59 rfl ?_
        refine jr_iconst (pc := 60) h dX9_readTrolley_60 ?_
        refine iv_X9_126 (pc := 61) h hl hR dX9_readTrolley_61 ⟨(Nat.le_of_ble_eq_true rfl), (Nat.le_of_ble_eq_true rfl), (Nat.le_of_ble_eq_true rfl), (Nat.le_of_ble_eq_true rfl)⟩ (Nat.le_of_ble_eq_true rfl) (by assumption) (by omega) (s_X9_wrong hX (p := p1) (k := 1) hTR hPO (by omega)) (fun v_61 n_61 M_61 hn_61 hp => ?_)
        obtain ⟨⟨rfl, rfl⟩, g1, w1, hX, hg1, hTR, f9⟩ := hp
        have fR := fr_tr fR (fr_mo f9 (fun k q => Or.inl q))
        have hgk := gkp_t hgk hg1
        have hMF := MF_fr hMF f9 (Nat.le_refl _) (fun k h1 h2 q => by have := q.1; have := q.2; omega)
        obtain ⟨hnm, hOm, hBm⟩ := id hX
        have hOm : M_61 m = jdO 9 (fX9 m _ _ fl (.ref f2)) := hOm
        obtain ⟨hnf, hOf, hAf⟩ := id hMF
        
        replace hPO := flP_O (k := 1) hPO (by omega)
        skip
        refine jr_aload_n (pc := 64) h dX9_readTrolley_64 rfl ?_
        refine gf_X9_174 (pc := 65) h dX9_readTrolley_65 (by assumption) (by omega) ?_
        refine jr_iload_n (pc := 68) h dX9_readTrolley_68 rfl ?_
        refine iv_X9_319 (pc := 69) h hl hR dX9_readTrolley_69 ⟨(Nat.le_of_ble_eq_true rfl), (Nat.le_of_ble_eq_true rfl), (Nat.le_of_ble_eq_true rfl), (Nat.le_of_ble_eq_true rfl)⟩ (Nat.le_of_ble_eq_true rfl) (by assumption) (by omega) (s_X8_trolleyAt_r hMF hg8r hRB1.2.2.2.2 (by omega)) (fun v_69 n_69 M_69 hn_69 hp => ?_)
        obtain ⟨⟨rfl, rfl, rfl⟩, gr_69⟩ := hp
        have hfe := fnI_ex (nm := A1 8) (w := -1) (c := gF1 8) hg8r.1
        refine jr_iconst (pc := 72) h dX9_readTrolley_72 ?_
        refine jr_icmp_eq (pc := 73) h 81 dX9_readTrolley_73 (by decide) (by omega) (by omega) (fun c_73 => ?_) (fun c_73 => ?_)
        · first | have d_73 := bz_0.mp c_73 | have d_73 := bz_1.mp c_73 | skip
          refine jr_aload_n (pc := 81) h dX9_readTrolley_81 rfl ?_
          refine iv_X9_123 (pc := 82) h hl hR dX9_readTrolley_82 ⟨(Nat.le_of_ble_eq_true rfl), (Nat.le_of_ble_eq_true rfl), (Nat.le_of_ble_eq_true rfl), (Nat.le_of_ble_eq_true rfl)⟩ (Nat.le_of_ble_eq_true rfl) (by assumption) (by omega) (s_X9_goesOn hX hbt hbb (p := (flP 1 p1)) hTR hPO (fun q => absurd q (flP_x (by omega)))) (fun v_82 n_82 M_82 hn_82 hp => ?_)
          obtain ⟨⟨rfl, rfl⟩, g1, w1, hX, hg1, hTR, f9⟩ := hp
          have fR := fr_tr fR (fr_mo f9 (fun k q => Or.inl q))
          have hgk := gkp_t hgk hg1
          have hMF := MF_fr hMF f9 (Nat.le_refl _) (fun k h1 h2 q => by have := q.1; have := q.2; omega)
          obtain ⟨hnm, hOm, hBm⟩ := id hX
          have hOm : M_82 m = jdO 9 (fX9 m _ _ fl (.ref f2)) := hOm
          obtain ⟨hnf, hOf, hAf⟩ := id hMF
          
          have e9 : (trP bs ct (opT ct td 5) p1).2 = goP bs (flP 1 p1) := by
            rw [trP_no d_45 d_31]
            skip
            exact (goP_1 (flP_x (by omega))).symm
          exact K85 _ _ _ _ _ _ _ hX hgk hTR (goP_O hPO) hMF fR e9 (fun q => absurd q (by rw [goP_1 (flP_x (by omega))]; exact flP_x (by omega))) (fun q => absurd q (by rw [goP_1 (flP_x (by omega))]; exact flP_x (by omega)))
        · first | have d_73 := bz_0.mp c_73 | have d_73 := bz_1.mp c_73 | skip
          refine jr_aload_n (pc := 76) h dX9_readTrolley_76 rfl ?_
          refine jr_iconst (pc := 77) h dX9_readTrolley_77 ?_
          refine iv_X9_126 (pc := 78) h hl hR dX9_readTrolley_78 ⟨(Nat.le_of_ble_eq_true rfl), (Nat.le_of_ble_eq_true rfl), (Nat.le_of_ble_eq_true rfl), (Nat.le_of_ble_eq_true rfl)⟩ (Nat.le_of_ble_eq_true rfl) (by assumption) (by omega) (s_X9_wrong hX (p := (flP 1 p1)) (k := 3) hTR hPO (by omega)) (fun v_78 n_78 M_78 hn_78 hp => ?_)
          obtain ⟨⟨rfl, rfl⟩, g1, w1, hX, hg1, hTR, f9⟩ := hp
          have fR := fr_tr fR (fr_mo f9 (fun k q => Or.inl q))
          have hgk := gkp_t hgk hg1
          have hMF := MF_fr hMF f9 (Nat.le_refl _) (fun k h1 h2 q => by have := q.1; have := q.2; omega)
          obtain ⟨hnm, hOm, hBm⟩ := id hX
          have hOm : M_78 m = jdO 9 (fX9 m _ _ fl (.ref f2)) := hOm
          obtain ⟨hnf, hOf, hAf⟩ := id hMF
          
          replace hPO := flP_O (k := 3) hPO (by omega)
          refine jr_aload_n (pc := 81) h dX9_readTrolley_81 rfl ?_
          refine iv_X9_123 (pc := 82) h hl hR dX9_readTrolley_82 ⟨(Nat.le_of_ble_eq_true rfl), (Nat.le_of_ble_eq_true rfl), (Nat.le_of_ble_eq_true rfl), (Nat.le_of_ble_eq_true rfl)⟩ (Nat.le_of_ble_eq_true rfl) (by assumption) (by omega) (s_X9_goesOn hX hbt hbb (p := (flP 3 (flP 1 p1))) hTR hPO (fun q => absurd q (flP_x (by omega)))) (fun v_82 n_82 M_82 hn_82 hp => ?_)
          obtain ⟨⟨rfl, rfl⟩, g1, w1, hX, hg1, hTR, f9⟩ := hp
          have fR := fr_tr fR (fr_mo f9 (fun k q => Or.inl q))
          have hgk := gkp_t hgk hg1
          have hMF := MF_fr hMF f9 (Nat.le_refl _) (fun k h1 h2 q => by have := q.1; have := q.2; omega)
          obtain ⟨hnm, hOm, hBm⟩ := id hX
          have hOm : M_82 m = jdO 9 (fX9 m _ _ fl (.ref f2)) := hOm
          obtain ⟨hnf, hOf, hAf⟩ := id hMF
          
          have e9 : (trP bs ct (opT ct td 5) p1).2 = goP bs (flP 3 (flP 1 p1)) := by
            rw [trP_no d_45 d_31]
            rw [flP_f (by omega)]
            exact (goP_1 (flP_x (by omega))).symm
          exact K85 _ _ _ _ _ _ _ hX hgk hTR (goP_O hPO) hMF fR e9 (fun q => absurd q (by rw [flP_f (by omega)]; rw [goP_1 (flP_x (by omega))]; exact flP_x (by omega))) (fun q => absurd q (by rw [flP_f (by omega)]; rw [goP_1 (flP_x (by omega))]; exact flP_x (by omega)))
    · first | have d_45 := bz_0.mp c_45 | have d_45 := bz_1.mp c_45 | skip
      refine jr_iconst (pc := 48) h dX9_readTrolley_48 ?_
      refine jr_goto (pc := 49) h 53 dX9_readTrolley_49 (by decide) ?_
      refine jr_istore_n (pc := 53) h [_, _, _, _] dX9_readTrolley_53 (by decide) rfl ?_
      refine jr_iload_n (pc := 54) h dX9_readTrolley_54 rfl ?_
      refine jr_iconst (pc := 55) h dX9_readTrolley_55 ?_
      refine jr_icmp_ne (pc := 56) h 64 dX9_readTrolley_56 (by decide) (by omega) (by omega) (fun c_56 => ?_) (fun c_56 => ?_)
      · first | have d_56 := bz_0.mp c_56 | have d_56 := bz_1.mp c_56 | skip
        skip
        refine jr_aload_n (pc := 64) h dX9_readTrolley_64 rfl ?_
        refine gf_X9_174 (pc := 65) h dX9_readTrolley_65 (by assumption) (by omega) ?_
        refine jr_iload_n (pc := 68) h dX9_readTrolley_68 rfl ?_
        refine iv_X9_319 (pc := 69) h hl hR dX9_readTrolley_69 ⟨(Nat.le_of_ble_eq_true rfl), (Nat.le_of_ble_eq_true rfl), (Nat.le_of_ble_eq_true rfl), (Nat.le_of_ble_eq_true rfl)⟩ (Nat.le_of_ble_eq_true rfl) (by assumption) (by omega) (s_X8_trolleyAt_r hMF hg8r hRB1.2.2.2.2 (by omega)) (fun v_69 n_69 M_69 hn_69 hp => ?_)
        obtain ⟨⟨rfl, rfl, rfl⟩, gr_69⟩ := hp
        have hfe := fnI_ex (nm := A1 8) (w := 1) (c := gF1 8) hg8r.1
        refine jr_iconst (pc := 72) h dX9_readTrolley_72 ?_
        refine jr_icmp_eq (pc := 73) h 81 dX9_readTrolley_73 (by decide) (by omega) (by omega) (fun c_73 => ?_) (fun c_73 => ?_)
        · first | have d_73 := bz_0.mp c_73 | have d_73 := bz_1.mp c_73 | skip
          refine jr_aload_n (pc := 81) h dX9_readTrolley_81 rfl ?_
          refine iv_X9_123 (pc := 82) h hl hR dX9_readTrolley_82 ⟨(Nat.le_of_ble_eq_true rfl), (Nat.le_of_ble_eq_true rfl), (Nat.le_of_ble_eq_true rfl), (Nat.le_of_ble_eq_true rfl)⟩ (Nat.le_of_ble_eq_true rfl) (by assumption) (by omega) (s_X9_goesOn hX hbt hbb (p := p1) hTR hPO (fun _ => wi_4 d_45.2)) (fun v_82 n_82 M_82 hn_82 hp => ?_)
          obtain ⟨⟨rfl, rfl⟩, g1, w1, hX, hg1, hTR, f9⟩ := hp
          have fR := fr_tr fR (fr_mo f9 (fun k q => Or.inl q))
          have hgk := gkp_t hgk hg1
          have hMF := MF_fr hMF f9 (Nat.le_refl _) (fun k h1 h2 q => by have := q.1; have := q.2; omega)
          obtain ⟨hnm, hOm, hBm⟩ := id hX
          have hOm : M_82 m = jdO 9 (fX9 m _ _ fl (.ref f2)) := hOm
          obtain ⟨hnf, hOf, hAf⟩ := id hMF
          
          have hex : (∃ i : Int, 0 ≤ i ∧ i < ct 5 ∧ c_get (opT ct td 5) 5 i 0 = 1) ↔ fnI (A1 8) 1 (gF1 8) ≠ -1 := by
            rw [hfe, hgo 8 (by omega), k8, hAo 8 (by omega)]
            constructor
            · rintro ⟨i, h1, h2, h3⟩
              refine ⟨i.toNat, by omega, ?_⟩
              rw [(hFR.1.2.2.2.1 i.toNat (by omega)).1, show ((i.toNat : Nat) : Int) = i by omega]
              exact (get_keep (td := td) (td' := opT ct td 5) (s' := 5) (i := i) (x := 0) (ct := ct) (s := 5) (by omega) (by show 0 ≤ ct 5 ∧ ct 5 < 8; omega) OUT_op (fun q => by have q2 : i = ct 5 := q.2; omega)).symm.trans h3
            · rintro ⟨j, h2, h3⟩
              refine ⟨j, by omega, h2, ?_⟩
              rw [(hFR.1.2.2.2.1 j h2).1] at h3
              exact (get_keep (td := td) (td' := opT ct td 5) (s' := 5) (i := (j : Int)) (x := 0) (ct := ct) (s := 5) (by omega) (by show 0 ≤ ct 5 ∧ ct 5 < 8; omega) OUT_op (fun q => by have q2 : (j : Int) = ct 5 := q.2; omega)).trans h3
          have hne : ¬ (∃ i : Int, 0 ≤ i ∧ i < ct 5 ∧ c_get (opT ct td 5) 5 i 0 = 1) := fun q => by have := hex.1 q; contradiction
          have e8 : trP bs ct (opT ct td 5) p1 = (1, nxP bs p1) := by rw [trP_3 d_45, trA_n hne]
          have e9 : (trP bs ct (opT ct td 5) p1).2 = goP bs p1 := by rw [e8, goP_0 d_45.1]
          refine K85 _ _ _ _ _ _ _ hX hgk hTR (goP_O hPO) hMF fR e9 (fun q => ⟨d_45.1, by rw [goP_0 d_45.1]; exact K12_nx, by rw [e8], by omega⟩) (fun q i h1 h2 h3 => hne ⟨i, h1, h2, ?_⟩)
          exact (get_keep (td := td) (td' := opT ct td 5) (s' := 5) (i := i) (x := 0) (ct := ct) (s := 5) (by omega) (by show 0 ≤ ct 5 ∧ ct 5 < 8; omega) OUT_op (fun q => by have q2 : i = ct 5 := q.2; omega)).trans h3
        · first | have d_73 := bz_0.mp c_73 | have d_73 := bz_1.mp c_73 | skip
          refine jr_aload_n (pc := 76) h dX9_readTrolley_76 rfl ?_
          refine jr_iconst (pc := 77) h dX9_readTrolley_77 ?_
          refine iv_X9_126 (pc := 78) h hl hR dX9_readTrolley_78 ⟨(Nat.le_of_ble_eq_true rfl), (Nat.le_of_ble_eq_true rfl), (Nat.le_of_ble_eq_true rfl), (Nat.le_of_ble_eq_true rfl)⟩ (Nat.le_of_ble_eq_true rfl) (by assumption) (by omega) (s_X9_wrong hX (p := p1) (k := 3) hTR hPO (by omega)) (fun v_78 n_78 M_78 hn_78 hp => ?_)
          obtain ⟨⟨rfl, rfl⟩, g1, w1, hX, hg1, hTR, f9⟩ := hp
          have fR := fr_tr fR (fr_mo f9 (fun k q => Or.inl q))
          have hgk := gkp_t hgk hg1
          have hMF := MF_fr hMF f9 (Nat.le_refl _) (fun k h1 h2 q => by have := q.1; have := q.2; omega)
          obtain ⟨hnm, hOm, hBm⟩ := id hX
          have hOm : M_78 m = jdO 9 (fX9 m _ _ fl (.ref f2)) := hOm
          obtain ⟨hnf, hOf, hAf⟩ := id hMF
          
          replace hPO := flP_O (k := 3) hPO (by omega)
          refine jr_aload_n (pc := 81) h dX9_readTrolley_81 rfl ?_
          refine iv_X9_123 (pc := 82) h hl hR dX9_readTrolley_82 ⟨(Nat.le_of_ble_eq_true rfl), (Nat.le_of_ble_eq_true rfl), (Nat.le_of_ble_eq_true rfl), (Nat.le_of_ble_eq_true rfl)⟩ (Nat.le_of_ble_eq_true rfl) (by assumption) (by omega) (s_X9_goesOn hX hbt hbb (p := (flP 3 p1)) hTR hPO (fun q => absurd q (flP_x (by omega)))) (fun v_82 n_82 M_82 hn_82 hp => ?_)
          obtain ⟨⟨rfl, rfl⟩, g1, w1, hX, hg1, hTR, f9⟩ := hp
          have fR := fr_tr fR (fr_mo f9 (fun k q => Or.inl q))
          have hgk := gkp_t hgk hg1
          have hMF := MF_fr hMF f9 (Nat.le_refl _) (fun k h1 h2 q => by have := q.1; have := q.2; omega)
          obtain ⟨hnm, hOm, hBm⟩ := id hX
          have hOm : M_82 m = jdO 9 (fX9 m _ _ fl (.ref f2)) := hOm
          obtain ⟨hnf, hOf, hAf⟩ := id hMF
          
          have hex : (∃ i : Int, 0 ≤ i ∧ i < ct 5 ∧ c_get (opT ct td 5) 5 i 0 = 1) ↔ fnI (A1 8) 1 (gF1 8) ≠ -1 := by
            rw [hfe, hgo 8 (by omega), k8, hAo 8 (by omega)]
            constructor
            · rintro ⟨i, h1, h2, h3⟩
              refine ⟨i.toNat, by omega, ?_⟩
              rw [(hFR.1.2.2.2.1 i.toNat (by omega)).1, show ((i.toNat : Nat) : Int) = i by omega]
              exact (get_keep (td := td) (td' := opT ct td 5) (s' := 5) (i := i) (x := 0) (ct := ct) (s := 5) (by omega) (by show 0 ≤ ct 5 ∧ ct 5 < 8; omega) OUT_op (fun q => by have q2 : i = ct 5 := q.2; omega)).symm.trans h3
            · rintro ⟨j, h2, h3⟩
              refine ⟨j, by omega, h2, ?_⟩
              rw [(hFR.1.2.2.2.1 j h2).1] at h3
              exact (get_keep (td := td) (td' := opT ct td 5) (s' := 5) (i := (j : Int)) (x := 0) (ct := ct) (s := 5) (by omega) (by show 0 ≤ ct 5 ∧ ct 5 < 8; omega) OUT_op (fun q => by have q2 : (j : Int) = ct 5 := q.2; omega)).trans h3
          have hne : (∃ i : Int, 0 ≤ i ∧ i < ct 5 ∧ c_get (opT ct td 5) 5 i 0 = 1) := hex.2 (by assumption)
          have e8 : trP bs ct (opT ct td 5) p1 = (1, flP 3 p1) := by rw [trP_3 d_45, trA_d hne]
          have e9 : (trP bs ct (opT ct td 5) p1).2 = goP bs (flP 3 p1) := by rw [e8, goP_1 (flP_x (by omega))]
          exact K85 _ _ _ _ _ _ _ hX hgk hTR (goP_O hPO) hMF fR e9 (fun q => absurd q (by rw [goP_1 (flP_x (by omega))]; exact flP_x (by omega))) (fun q => absurd q (by rw [goP_1 (flP_x (by omega))]; exact flP_x (by omega)))
      · first | have d_56 := bz_0.mp c_56 | have d_56 := bz_1.mp c_56 | skip
        exfalso
        omega
  · first | have d_31 := bz_0.mp c_31 | have d_31 := bz_1.mp c_31 | skip
    refine jr_iconst (pc := 34) h dX9_readTrolley_34 ?_
    refine jr_goto (pc := 35) h 53 dX9_readTrolley_35 (by decide) ?_
    refine jr_istore_n (pc := 53) h [_, _, _, _] dX9_readTrolley_53 (by decide) rfl ?_
    refine jr_iload_n (pc := 54) h dX9_readTrolley_54 rfl ?_
    refine jr_iconst (pc := 55) h dX9_readTrolley_55 ?_
    refine jr_icmp_ne (pc := 56) h 64 dX9_readTrolley_56 (by decide) (by omega) (by omega) (fun c_56 => ?_) (fun c_56 => ?_)
    · first | have d_56 := bz_0.mp c_56 | have d_56 := bz_1.mp c_56 | skip
      skip
      refine jr_aload_n (pc := 64) h dX9_readTrolley_64 rfl ?_
      refine gf_X9_174 (pc := 65) h dX9_readTrolley_65 (by assumption) (by omega) ?_
      refine jr_iload_n (pc := 68) h dX9_readTrolley_68 rfl ?_
      refine iv_X9_319 (pc := 69) h hl hR dX9_readTrolley_69 ⟨(Nat.le_of_ble_eq_true rfl), (Nat.le_of_ble_eq_true rfl), (Nat.le_of_ble_eq_true rfl), (Nat.le_of_ble_eq_true rfl)⟩ (Nat.le_of_ble_eq_true rfl) (by assumption) (by omega) (s_X8_trolleyAt_r hMF hg8r hRB1.2.2.2.2 (by omega)) (fun v_69 n_69 M_69 hn_69 hp => ?_)
      obtain ⟨⟨rfl, rfl, rfl⟩, gr_69⟩ := hp
      have hfe := fnI_ex (nm := A1 8) (w := 0) (c := gF1 8) hg8r.1
      refine jr_iconst (pc := 72) h dX9_readTrolley_72 ?_
      refine jr_icmp_eq (pc := 73) h 81 dX9_readTrolley_73 (by decide) (by omega) (by omega) (fun c_73 => ?_) (fun c_73 => ?_)
      · first | have d_73 := bz_0.mp c_73 | have d_73 := bz_1.mp c_73 | skip
        refine jr_aload_n (pc := 81) h dX9_readTrolley_81 rfl ?_
        refine iv_X9_123 (pc := 82) h hl hR dX9_readTrolley_82 ⟨(Nat.le_of_ble_eq_true rfl), (Nat.le_of_ble_eq_true rfl), (Nat.le_of_ble_eq_true rfl), (Nat.le_of_ble_eq_true rfl)⟩ (Nat.le_of_ble_eq_true rfl) (by assumption) (by omega) (s_X9_goesOn hX hbt hbb (p := p1) hTR hPO (fun _ => wi_4 d_31.2)) (fun v_82 n_82 M_82 hn_82 hp => ?_)
        obtain ⟨⟨rfl, rfl⟩, g1, w1, hX, hg1, hTR, f9⟩ := hp
        have fR := fr_tr fR (fr_mo f9 (fun k q => Or.inl q))
        have hgk := gkp_t hgk hg1
        have hMF := MF_fr hMF f9 (Nat.le_refl _) (fun k h1 h2 q => by have := q.1; have := q.2; omega)
        obtain ⟨hnm, hOm, hBm⟩ := id hX
        have hOm : M_82 m = jdO 9 (fX9 m _ _ fl (.ref f2)) := hOm
        obtain ⟨hnf, hOf, hAf⟩ := id hMF
        
        have hex : (∃ i : Int, 0 ≤ i ∧ i < ct 5 ∧ c_get (opT ct td 5) 5 i 0 = 0) ↔ fnI (A1 8) 0 (gF1 8) ≠ -1 := by
          rw [hfe, hgo 8 (by omega), k8, hAo 8 (by omega)]
          constructor
          · rintro ⟨i, h1, h2, h3⟩
            refine ⟨i.toNat, by omega, ?_⟩
            rw [(hFR.1.2.2.2.1 i.toNat (by omega)).1, show ((i.toNat : Nat) : Int) = i by omega]
            exact (get_keep (td := td) (td' := opT ct td 5) (s' := 5) (i := i) (x := 0) (ct := ct) (s := 5) (by omega) (by show 0 ≤ ct 5 ∧ ct 5 < 8; omega) OUT_op (fun q => by have q2 : i = ct 5 := q.2; omega)).symm.trans h3
          · rintro ⟨j, h2, h3⟩
            refine ⟨j, by omega, h2, ?_⟩
            rw [(hFR.1.2.2.2.1 j h2).1] at h3
            exact (get_keep (td := td) (td' := opT ct td 5) (s' := 5) (i := (j : Int)) (x := 0) (ct := ct) (s := 5) (by omega) (by show 0 ≤ ct 5 ∧ ct 5 < 8; omega) OUT_op (fun q => by have q2 : (j : Int) = ct 5 := q.2; omega)).trans h3
        have hne : ¬ (∃ i : Int, 0 ≤ i ∧ i < ct 5 ∧ c_get (opT ct td 5) 5 i 0 = 0) := fun q => by have := hex.1 q; contradiction
        have e8 : trP bs ct (opT ct td 5) p1 = (0, nxP bs p1) := by rw [trP_4 d_31, trA_n hne]
        have e9 : (trP bs ct (opT ct td 5) p1).2 = goP bs p1 := by rw [e8, goP_0 d_31.1]
        refine K85 _ _ _ _ _ _ _ hX hgk hTR (goP_O hPO) hMF fR e9 (fun q => ⟨d_31.1, by rw [goP_0 d_31.1]; exact K12_nx, by rw [e8], by omega⟩) (fun q i h1 h2 h3 => hne ⟨i, h1, h2, ?_⟩)
        exact (get_keep (td := td) (td' := opT ct td 5) (s' := 5) (i := i) (x := 0) (ct := ct) (s := 5) (by omega) (by show 0 ≤ ct 5 ∧ ct 5 < 8; omega) OUT_op (fun q => by have q2 : i = ct 5 := q.2; omega)).trans h3
      · first | have d_73 := bz_0.mp c_73 | have d_73 := bz_1.mp c_73 | skip
        refine jr_aload_n (pc := 76) h dX9_readTrolley_76 rfl ?_
        refine jr_iconst (pc := 77) h dX9_readTrolley_77 ?_
        refine iv_X9_126 (pc := 78) h hl hR dX9_readTrolley_78 ⟨(Nat.le_of_ble_eq_true rfl), (Nat.le_of_ble_eq_true rfl), (Nat.le_of_ble_eq_true rfl), (Nat.le_of_ble_eq_true rfl)⟩ (Nat.le_of_ble_eq_true rfl) (by assumption) (by omega) (s_X9_wrong hX (p := p1) (k := 3) hTR hPO (by omega)) (fun v_78 n_78 M_78 hn_78 hp => ?_)
        obtain ⟨⟨rfl, rfl⟩, g1, w1, hX, hg1, hTR, f9⟩ := hp
        have fR := fr_tr fR (fr_mo f9 (fun k q => Or.inl q))
        have hgk := gkp_t hgk hg1
        have hMF := MF_fr hMF f9 (Nat.le_refl _) (fun k h1 h2 q => by have := q.1; have := q.2; omega)
        obtain ⟨hnm, hOm, hBm⟩ := id hX
        have hOm : M_78 m = jdO 9 (fX9 m _ _ fl (.ref f2)) := hOm
        obtain ⟨hnf, hOf, hAf⟩ := id hMF
        
        replace hPO := flP_O (k := 3) hPO (by omega)
        refine jr_aload_n (pc := 81) h dX9_readTrolley_81 rfl ?_
        refine iv_X9_123 (pc := 82) h hl hR dX9_readTrolley_82 ⟨(Nat.le_of_ble_eq_true rfl), (Nat.le_of_ble_eq_true rfl), (Nat.le_of_ble_eq_true rfl), (Nat.le_of_ble_eq_true rfl)⟩ (Nat.le_of_ble_eq_true rfl) (by assumption) (by omega) (s_X9_goesOn hX hbt hbb (p := (flP 3 p1)) hTR hPO (fun q => absurd q (flP_x (by omega)))) (fun v_82 n_82 M_82 hn_82 hp => ?_)
        obtain ⟨⟨rfl, rfl⟩, g1, w1, hX, hg1, hTR, f9⟩ := hp
        have fR := fr_tr fR (fr_mo f9 (fun k q => Or.inl q))
        have hgk := gkp_t hgk hg1
        have hMF := MF_fr hMF f9 (Nat.le_refl _) (fun k h1 h2 q => by have := q.1; have := q.2; omega)
        obtain ⟨hnm, hOm, hBm⟩ := id hX
        have hOm : M_82 m = jdO 9 (fX9 m _ _ fl (.ref f2)) := hOm
        obtain ⟨hnf, hOf, hAf⟩ := id hMF
        
        have hex : (∃ i : Int, 0 ≤ i ∧ i < ct 5 ∧ c_get (opT ct td 5) 5 i 0 = 0) ↔ fnI (A1 8) 0 (gF1 8) ≠ -1 := by
          rw [hfe, hgo 8 (by omega), k8, hAo 8 (by omega)]
          constructor
          · rintro ⟨i, h1, h2, h3⟩
            refine ⟨i.toNat, by omega, ?_⟩
            rw [(hFR.1.2.2.2.1 i.toNat (by omega)).1, show ((i.toNat : Nat) : Int) = i by omega]
            exact (get_keep (td := td) (td' := opT ct td 5) (s' := 5) (i := i) (x := 0) (ct := ct) (s := 5) (by omega) (by show 0 ≤ ct 5 ∧ ct 5 < 8; omega) OUT_op (fun q => by have q2 : i = ct 5 := q.2; omega)).symm.trans h3
          · rintro ⟨j, h2, h3⟩
            refine ⟨j, by omega, h2, ?_⟩
            rw [(hFR.1.2.2.2.1 j h2).1] at h3
            exact (get_keep (td := td) (td' := opT ct td 5) (s' := 5) (i := (j : Int)) (x := 0) (ct := ct) (s := 5) (by omega) (by show 0 ≤ ct 5 ∧ ct 5 < 8; omega) OUT_op (fun q => by have q2 : (j : Int) = ct 5 := q.2; omega)).trans h3
        have hne : (∃ i : Int, 0 ≤ i ∧ i < ct 5 ∧ c_get (opT ct td 5) 5 i 0 = 0) := hex.2 (by assumption)
        have e8 : trP bs ct (opT ct td 5) p1 = (0, flP 3 p1) := by rw [trP_4 d_31, trA_d hne]
        have e9 : (trP bs ct (opT ct td 5) p1).2 = goP bs (flP 3 p1) := by rw [e8, goP_1 (flP_x (by omega))]
        exact K85 _ _ _ _ _ _ _ hX hgk hTR (goP_O hPO) hMF fR e9 (fun q => absurd q (by rw [goP_1 (flP_x (by omega))]; exact flP_x (by omega))) (fun q => absurd q (by rw [goP_1 (flP_x (by omega))]; exact flP_x (by omega)))
    · first | have d_56 := bz_0.mp c_56 | have d_56 := bz_1.mp c_56 | skip
      exfalso
      omega
