/-! 91: the reference: names told and known, beginnings of lines -/
theorem snP_ok {bs : Nat → Int} {s : Int} {p : TS} (h : (snP bs s p).2.1 7 = 0) : (snP bs s p).2 = p ∧ p.1 7 = 0 ∧ p.1 4 = 1 ∧ resI bs p.1 = -1 := by
  by_cases q : p.1 7 = 0 ∧ p.1 4 = 1 ∧ resI bs p.1 = -1
  · by_cases q2 : fnI p.2.2.1 p.2.1 (p.1 12) = -1 ∨ p.2.2.2.1 (fnI p.2.2.1 p.2.1 (p.1 12)).toNat ≠ s
    · rw [snP_2 q q2] at h
      exact absurd h (flP_x (by omega))
    · exact ⟨by rw [snP_3 q q2], q⟩
  · rw [snP_1 q] at h
    exact absurd h (flP_x (by omega))
theorem enP_g {bs : Nat → Int} {s : Int} {p : TS} : enP bs s p = ((snP bs s p).1, goP bs (snP bs s p).2) := by
  unfold enP goP
  split
  · rfl
  · rfl
set_option maxHeartbeats 1000000 in
set_option maxRecDepth 20000 in
theorem s_X9_readKnown {l : Launch} {n : Nat} {M : jdM} {m f2 : Nat} {g : Nat → Int} {w : Int} {fl : Value} {B : Nat → Nat → Int} (hX : MX M n m g w fl (.ref f2) B) {bs : Nat → Int} (hbt : ∀ j, j < 900 → B 1 j = bs j) (hbb : ∀ j, -128 ≤ bs j ∧ bs j ≤ 127) {p : TS} (hTR : TR bs p g w) (hPO : PO p) {gF : Nat → Int} {A : Nat → Nat → Int} (hMF : MF M n f2 gF A) (hsep : f2 + 30 < m ∨ m + 12 < f2) (hNB : NB gF A) (hNR : p.1 7 = 0 → NR p gF A) {s x : Int} (hs : s = 2 ∨ s = 5) (hsx : x = nsR s) : Ct l yX9_readKnown cX9_readKnown 3 (some .int) rX9_readKnown [.ref m, jI x] n M (fun vv n' M' => ∃ v : Int, (vv = some (jI v) ∧ n = n') ∧ (0 ≤ v ∧ v ≤ 6) ∧ ((enP bs s p).2.1 7 = 0 → v = (enP bs s p).1) ∧ ∃ g' w', MX M' n m g' w' fl (.ref f2) B ∧ gkp g g' ∧ TR bs (enP bs s p).2 g' w' ∧ fr (MXf m) M M') := by
  refine Ct_of [some (.ref m), some (jI x), none] (by decide) (Nat.le_of_ble_eq_true rfl) rfl (fun κ hl h hR hRt hmn hn0 => ?_)
  have h : Ok κ RX9 cX9_readKnown 3 (some .int) := h
  obtain ⟨hnm, hOm, hBm⟩ := id hX
  have hOm : M m = jdO 9 (fX9 m _ _ fl (.ref f2)) := hOm
  have f1 : fr (MXf m) M M := fr_rf
  have hgk : gkp g g := gkp_r
  have hxr : x = 0 ∨ x = 1 := by
    rw [hsx]
    rcases hs with rfl | rfl
    · exact Or.inl rfl
    · exact Or.inr rfl
  refine jr_aload_n (pc := 0) h dX9_readKnown_0 rfl ?_
  refine jr_iload_n (pc := 1) h dX9_readKnown_1 rfl ?_
  refine iv_X9_196 (pc := 2) h hl hR dX9_readKnown_2 ⟨(Nat.le_of_ble_eq_true rfl), (Nat.le_of_ble_eq_true rfl), (Nat.le_of_ble_eq_true rfl), (Nat.le_of_ble_eq_true rfl)⟩ (Nat.le_of_ble_eq_true rfl) (by assumption) (by omega) (s_X9_known hX hbt hbb hTR hPO hMF hsep hNB hNR hs hsx) (fun v_2 n_2 M_2 hn_2 hp => ?_)
  obtain ⟨v9, ⟨rfl, rfl⟩, hvr, hve, g1, w1, hX, hg1, hTR, f9⟩ := hp
  have f1 := fr_tr f1 f9
  have hgk := gkp_t hgk hg1
  replace hPO := snP_O (bs := bs) (a := s) hPO
  obtain ⟨hnm, hOm, hBm⟩ := id hX
  refine jr_istore_n (pc := 5) h [_, _, _] dX9_readKnown_5 (by decide) rfl ?_
  refine jr_aload_n (pc := 6) h dX9_readKnown_6 rfl ?_
  refine iv_X9_123 (pc := 7) h hl hR dX9_readKnown_7 ⟨(Nat.le_of_ble_eq_true rfl), (Nat.le_of_ble_eq_true rfl), (Nat.le_of_ble_eq_true rfl), (Nat.le_of_ble_eq_true rfl)⟩ (Nat.le_of_ble_eq_true rfl) (by assumption) (by omega) (s_X9_goesOn hX hbt hbb (p := (snP bs s p).2) hTR hPO (fun q => by have := snP_ok q; rw [this.1, this.2.2.1]; omega)) (fun v_7 n_7 M_7 hn_7 hp => ?_)
  obtain ⟨⟨rfl, rfl⟩, g1, w1, hX, hg1, hTR, f9⟩ := hp
  have f1 := fr_tr f1 f9
  have hgk := gkp_t hgk hg1
  obtain ⟨hnm, hOm, hBm⟩ := id hX
  refine jr_iload_n (pc := 10) h dX9_readKnown_10 rfl ?_
  refine jr_iret (pc := 11) h hRt dX9_readKnown_11 rfl (Nat.le_of_ble_eq_true rfl) (Nat.le_of_ble_eq_true rfl) ?_
  rw [enP_g]
  refine ⟨_, ⟨rfl, rfl⟩, hvr, fun q => hve ?_, _, _, hX, hgk, hTR, f1⟩
  replace q : (goP bs (snP bs s p).2).1 7 = 0 := q
  refine Classical.byContradiction (fun q2 => ?_)
  rw [goP_1 q2] at q
  exact q2 q
def RFS (m f2 : Nat) : Nat → Prop := fun k => MXf m k ∨ MFS f2 k
def nmP (s x : Int) (p : TS) : TS := (up p.1 12 (p.1 12 + 1), p.2.1, up p.2.2.1 (p.1 12).toNat p.2.1, up p.2.2.2.1 (p.1 12).toNat s, up p.2.2.2.2 (p.1 12).toNat x)
theorem TR_nm {bs : Nat → Int} {p : TS} {g : Nat → Int} {w s x : Int} (h : TR bs p g w) : TR bs (nmP s x p) g w := h
theorem PO_nm {p : TS} {s x : Int} (h : PO p) (q4 : p.1 4 = 1) (hc : p.1 12 < 16) (hs : 0 ≤ s ∧ s ≤ 100) (hx : 0 ≤ x ∧ x ≤ 100) : PO (nmP s x p) := by
  obtain ⟨⟨a1, a2, a3, a4, a5, a6, a7, a8⟩, b1, b2, b3, b4⟩ := h
  refine ⟨⟨a1, a2, a3, a4, a5, ?_, a7, a8⟩, b1, fun i => ?_, fun i => ?_, fun i => ?_⟩
  · show 0 ≤ up p.1 12 (p.1 12 + 1) 12 ∧ up p.1 12 (p.1 12 + 1) 12 ≤ 16
    rw [up_eq]
    omega
  · show 0 ≤ up p.2.2.1 (p.1 12).toNat p.2.1 i ∧ up p.2.2.1 (p.1 12).toNat p.2.1 i < 9223372036854775808
    by_cases q : i = (p.1 12).toNat
    · rw [q, up_eq]; exact b1 q4
    · rw [up_ne q]; exact b2 i
  · show 0 ≤ up p.2.2.2.1 (p.1 12).toNat s i ∧ up p.2.2.2.1 (p.1 12).toNat s i ≤ 100
    by_cases q : i = (p.1 12).toNat
    · rw [q, up_eq]; exact hs
    · rw [up_ne q]; exact b3 i
  · show 0 ≤ up p.2.2.2.2 (p.1 12).toNat x i ∧ up p.2.2.2.2 (p.1 12).toNat x i ≤ 100
    by_cases q : i = (p.1 12).toNat
    · rw [q, up_eq]; exact hx
    · rw [up_ne q]; exact b4 i
theorem nnP_1 {bs : Nat → Int} {s x : Int} {p : TS} (h : ¬ (p.1 7 = 0 ∧ p.1 4 = 1 ∧ resI bs p.1 = -1)) : nnP bs s x p = flP 1 p := by
  unfold nnP
  by_cases q : p.1 7 = 0
  · rw [if_neg (fun q' => q' q), if_pos (by
      by_cases q4 : p.1 4 = 1
      · exact Or.inr (fun q5 => h ⟨q, q4, q5⟩)
      · exact Or.inl q4)]
  · rw [if_pos q]
    unfold flP
    rw [if_neg q]
theorem nnP_2 {bs : Nat → Int} {s x : Int} {p : TS} (h : p.1 7 = 0 ∧ p.1 4 = 1 ∧ resI bs p.1 = -1) (h2 : fnI p.2.2.1 p.2.1 (p.1 12) ≠ -1 ∨ 16 ≤ p.1 12) : nnP bs s x p = flP 3 p := by
  unfold nnP
  rw [if_neg (fun q' => q' h.1), if_neg (fun q => q.elim (fun q => q h.2.1) (fun q => q h.2.2)), if_pos h2]
theorem nnP_3 {bs : Nat → Int} {s x : Int} {p : TS} (h : p.1 7 = 0 ∧ p.1 4 = 1 ∧ resI bs p.1 = -1) (h2 : ¬ (fnI p.2.2.1 p.2.1 (p.1 12) ≠ -1 ∨ 16 ≤ p.1 12)) : nnP bs s x p = nxP bs (nmP s x p) := by
  unfold nnP
  rw [if_neg (fun q' => q' h.1), if_neg (fun q => q.elim (fun q => q h.2.1) (fun q => q h.2.2)), if_neg h2]
  rfl
theorem NR_nm {bs : Nat → Int} {p : TS} {g gF gF' : Nat → Int} {w s x : Int} {A A' : Nat → Nat → Int} (hR : NR p gF A) (hT : TR bs p g w) (hPO : PO p) (q : p.1 7 = 0) (q4 : p.1 4 = 1) (h16 : gF' 16 = gF 16 + 1) (a28 : A' 28 = up (A 28) (gF 16).toNat w) (a29 : A' 29 = up (A 29) (gF 16).toNat (nsR s)) (a30 : A' 30 = up (A 30) (gF 16).toNat x) : NR (nxP bs (nmP s x p)) gF' A' := by
  have e12 : (nxP bs (nmP s x p)).1 12 = p.1 12 + 1 := by
    show nxG bs (nmP s x p).1 12 = _
    unfold nxG nmP
    dsimp only
    rw [if_neg (by omega), if_neg (by omega), if_neg (by omega), if_neg (by omega), up_eq]
  have hc := hPO.1.2.2.2.2.2.1
  refine ⟨by rw [e12, h16, hR.1], fun i hi => ?_⟩
  rw [e12] at hi
  show wrel (up p.2.2.1 (p.1 12).toNat p.2.1 i) (A' 28 i) ∧ A' 29 i = nsR (up p.2.2.2.1 (p.1 12).toNat s i) ∧ A' 30 i = up p.2.2.2.2 (p.1 12).toNat x i
  rw [a28, a29, a30, hR.1]
  by_cases qi : i = (p.1 12).toNat
  · rw [qi, up_eq, up_eq, up_eq, up_eq, up_eq, up_eq]
    exact ⟨TR_r hT q q4, rfl, rfl⟩
  · rw [up_ne qi, up_ne qi, up_ne qi, up_ne qi, up_ne qi, up_ne qi]
    exact hR.2 i (by omega)
set_option maxHeartbeats 1000000 in
set_option maxRecDepth 20000 in
theorem s_X9_readFresh {l : Launch} {n : Nat} {M : jdM} {m f2 : Nat} {g : Nat → Int} {w : Int} {fl : Value} {B : Nat → Nat → Int} (hX : MX M n m g w fl (.ref f2) B) {bs : Nat → Int} (hbt : ∀ j, j < 900 → B 1 j = bs j) (hbb : ∀ j, -128 ≤ bs j ∧ bs j ≤ 127) {p : TS} (hTR : TR bs p g w) (hPO : PO p) {gF : Nat → Int} {A : Nat → Nat → Int} (hMF : MF M n f2 gF A) (hsep : f2 + 30 < m ∨ m + 12 < f2) (hNB : NB gF A) (hNR : p.1 7 = 0 → NR p gF A) {s x y : Int} (hs9 : 0 ≤ s ∧ s ≤ 100) (hsx : x = nsR s) (hxr : 0 ≤ x ∧ x ≤ 2) (hy : 0 ≤ y ∧ y ≤ 6) (h12 : p.1 7 = 0 → p.1 12 < 16) : Ct l yX9_readFresh cX9_readFresh 3 none rX9_readFresh [.ref m, jI x, jI y] n M (fun vv n' M' => (vv = none ∧ n = n') ∧ ∃ g' w' gF' A', MX M' n m g' w' fl (.ref f2) B ∧ gkp g g' ∧ TR bs (nnP bs s y p) g' w' ∧ MF M' n f2 gF' A' ∧ NB gF' A' ∧ ((nnP bs s y p).1 7 = 0 → NR (nnP bs s y p) gF' A') ∧ (∀ j, j ≠ 16 → gF' j = gF j) ∧ (∀ j, j < 28 → A' j = A j) ∧ fr (RFS m f2) M M') := by
  refine Ct_of [some (.ref m), some (jI x), some (jI y)] (by decide) (Nat.le_of_ble_eq_true rfl) rfl (fun κ hl h hR hRt hmn hn0 => ?_)
  have h : Ok κ RX9 cX9_readFresh 3 none := h
  obtain ⟨hnm, hOm, hBm⟩ := id hX
  have hOm : M m = jdO 9 (fX9 m _ _ fl (.ref f2)) := hOm
  obtain ⟨hnf, hOf, hAf⟩ := id hMF
  have hA28 : M (f2 + 28) = jdL 16 (A 28) := hAf 28 (by omega) (by omega)
  have hA29 : M (f2 + 29) = jdA 16 (A 29) := hAf 29 (by omega) (by omega)
  have hA30 : M (f2 + 30) = jdA 16 (A 30) := hAf 30 (by omega) (by omega)
  have fR : fr (RFS m f2) M M := fr_rf
  have hgk : gkp g g := gkp_r
  have hNBc := hNB.1
  refine jr_aload_n (pc := 0) h dX9_readFresh_0 rfl ?_
  refine iv_X9_170 (pc := 1) h hl hR dX9_readFresh_1 ⟨(Nat.le_of_ble_eq_true rfl), (Nat.le_of_ble_eq_true rfl), (Nat.le_of_ble_eq_true rfl), (Nat.le_of_ble_eq_true rfl)⟩ (Nat.le_of_ble_eq_true rfl) (by assumption) (by omega) (s_X9_isName hX hTR hPO) (fun v_1 n_1 M_1 hn_1 hp => ?_)
  obtain ⟨⟨rfl, rfl, rfl⟩, gr_1⟩ := hp
  refine jr_if_ne (pc := 4) h 12 dX9_readFresh_4 (by decide) (by omega) (fun c_4 => ?_) (fun c_4 => ?_)
  · have d_4 := bz_1.mp c_4
    have hNR7 := hNR d_4.1
    have hTR0 := hTR
    have hPO0 := hPO
    have hwr0 := hTR.1.2.2.2.2
    have hc16 := h12 d_4.1
    have eFF0 := NR_f hNR7 hTR d_4.1 d_4.2.1
    refine jr_aload_n (pc := 12) h dX9_readFresh_12 rfl ?_
    refine gf_X9_174 (pc := 13) h dX9_readFresh_13 (by assumption) (by omega) ?_
    refine jr_aload_n (pc := 16) h dX9_readFresh_16 rfl ?_
    refine gf_X9_99 (pc := 17) h dX9_readFresh_17 (by assumption) (by omega) ?_
    refine iv_X9_178 (pc := 20) h hl hR dX9_readFresh_20 ⟨(Nat.le_of_ble_eq_true rfl), (Nat.le_of_ble_eq_true rfl), (Nat.le_of_ble_eq_true rfl), (Nat.le_of_ble_eq_true rfl)⟩ (Nat.le_of_ble_eq_true rfl) (by assumption) (by omega) (s_X8_find hMF hNB hTR.1.2.2.2.2) (fun v_20 n_20 M_20 hn_20 hp => ?_)
    obtain ⟨⟨rfl, rfl, rfl⟩, gr_20⟩ := hp
    obtain ⟨F, eF⟩ : ∃ z, fnI (A 28) w (gF 16) = z := ⟨_, rfl⟩
    rw [eF] at gr_20 ⊢
    have hFb := fnI_b (nm := A 28) (w := w) (c := gF 16) hNBc.1
    rw [eF] at hFb
    have eFF := eFF0.trans eF
    have h12c := hNR7.1
    refine jr_iconst (pc := 23) h dX9_readFresh_23 ?_
    refine jr_icmp_eq (pc := 24) h 32 dX9_readFresh_24 (by decide) (by omega) (by omega) (fun c_24 => ?_) (fun c_24 => ?_)
    · first | have d_24 := bz_0.mp c_24 | have d_24 := bz_1.mp c_24 | skip
      have h57 := (TR_5 hTR hPO).1
      have h5r := (TR_5 hTR hPO).2.2
      first | have h5z := h57.2 (flP_x (by omega)) | have h5n : ¬ g 9 = 5 := fun e => h57.1 e d_4.1
      refine jr_aload_n (pc := 32) h dX9_readFresh_32 rfl ?_
      refine gf_X9_80 (pc := 33) h dX9_readFresh_33 (by assumption) (by omega) ?_
      refine jr_iconst (pc := 36) h dX9_readFresh_36 ?_
      refine jr_icmp_ne (pc := 37) h 41 dX9_readFresh_37 (by decide) (by omega) (by omega) (fun c_37 => ?_) (fun c_37 => ?_)
      · first | have d_37 := bz_0.mp c_37 | have d_37 := bz_1.mp c_37 | skip
        skip
        refine jr_aload_n (pc := 41) h dX9_readFresh_41 rfl ?_
        refine gf_X9_174 (pc := 42) h dX9_readFresh_42 (by assumption) (by omega) ?_
        refine gf_X9_184 (pc := 45) h dX9_readFresh_45 (by assumption) (by omega) ?_
        refine jr_aload_n (pc := 48) h dX9_readFresh_48 rfl ?_
        refine gf_X9_174 (pc := 49) h dX9_readFresh_49 (by assumption) (by omega) ?_
        refine gf_X9_187 (pc := 52) h dX9_readFresh_52 (by assumption) (by omega) ?_
        refine jr_aload_n (pc := 55) h dX9_readFresh_55 rfl ?_
        refine gf_X9_99 (pc := 56) h dX9_readFresh_56 (by assumption) (by omega) ?_
        refine jr_last (pc := 59) h dX9_readFresh_59 hA28 (by omega) (by omega) ?_
        refine jm_gen (fun M2 hM2 => ?_)
        have hMF := MF_A (i := 28) hMF hM2 (by omega)
        have f9 : fr (MFS f2) _ M2 := fr_up (S := MFS f2) hM2 ⟨by omega, by omega⟩
        have hX := MX_fr hX f9 (Nat.le_refl _) (fun k h1 h2 q => by have := q.1; have := q.2; omega)
        have fR := fr_tr fR (fr_mo f9 (fun k q => Or.inr q))
        obtain ⟨hnm, hOm, hBm⟩ := id hX
        have hOm : M2 m = jdO 9 (fX9 m _ _ fl (.ref f2)) := hOm
        obtain ⟨hnf, hOf, hAf⟩ := id hMF
        have hA29 : M2 (f2 + 29) = jdA 16 (A 29) := hAf 29 (by omega) (by omega)
        have hA30 : M2 (f2 + 30) = jdA 16 (A 30) := hAf 30 (by omega) (by omega)
        refine jr_aload_n (pc := 60) h dX9_readFresh_60 rfl ?_
        refine gf_X9_174 (pc := 61) h dX9_readFresh_61 (by assumption) (by omega) ?_
        refine gf_X9_190 (pc := 64) h dX9_readFresh_64 (by assumption) (by omega) ?_
        refine jr_aload_n (pc := 67) h dX9_readFresh_67 rfl ?_
        refine gf_X9_174 (pc := 68) h dX9_readFresh_68 (by assumption) (by omega) ?_
        refine gf_X9_187 (pc := 71) h dX9_readFresh_71 (by assumption) (by omega) ?_
        refine jr_iload_n (pc := 74) h dX9_readFresh_74 rfl ?_
        refine jr_iast (pc := 75) h dX9_readFresh_75 hA29 (by omega) (by omega) ?_
        refine jm_gen (fun M2 hM2 => ?_)
        have hMF := MF_A (i := 29) hMF hM2 (by omega)
        have f9 : fr (MFS f2) _ M2 := fr_up (S := MFS f2) hM2 ⟨by omega, by omega⟩
        have hX := MX_fr hX f9 (Nat.le_refl _) (fun k h1 h2 q => by have := q.1; have := q.2; omega)
        have fR := fr_tr fR (fr_mo f9 (fun k q => Or.inr q))
        obtain ⟨hnm, hOm, hBm⟩ := id hX
        have hOm : M2 m = jdO 9 (fX9 m _ _ fl (.ref f2)) := hOm
        obtain ⟨hnf, hOf, hAf⟩ := id hMF
        have hA30 : M2 (f2 + 30) = jdA 16 (A 30) := hAf 30 (by omega) (by omega)
        refine jr_aload_n (pc := 76) h dX9_readFresh_76 rfl ?_
        refine gf_X9_174 (pc := 77) h dX9_readFresh_77 (by assumption) (by omega) ?_
        refine gf_X9_193 (pc := 80) h dX9_readFresh_80 (by assumption) (by omega) ?_
        refine jr_aload_n (pc := 83) h dX9_readFresh_83 rfl ?_
        refine gf_X9_174 (pc := 84) h dX9_readFresh_84 (by assumption) (by omega) ?_
        refine gf_X9_187 (pc := 87) h dX9_readFresh_87 (by assumption) (by omega) ?_
        refine jr_iload_n (pc := 90) h dX9_readFresh_90 rfl ?_
        refine jr_iast (pc := 91) h dX9_readFresh_91 hA30 (by omega) (by omega) ?_
        refine jm_gen (fun M2 hM2 => ?_)
        have hMF := MF_A (i := 30) hMF hM2 (by omega)
        have f9 : fr (MFS f2) _ M2 := fr_up (S := MFS f2) hM2 ⟨by omega, by omega⟩
        have hX := MX_fr hX f9 (Nat.le_refl _) (fun k h1 h2 q => by have := q.1; have := q.2; omega)
        have fR := fr_tr fR (fr_mo f9 (fun k q => Or.inr q))
        obtain ⟨hnm, hOm, hBm⟩ := id hX
        have hOm : M2 m = jdO 9 (fX9 m _ _ fl (.ref f2)) := hOm
        obtain ⟨hnf, hOf, hAf⟩ := id hMF
        
        refine jr_aload_n (pc := 92) h dX9_readFresh_92 rfl ?_
        refine gf_X9_174 (pc := 93) h dX9_readFresh_93 (by assumption) (by omega) ?_
        refine jr_dup (pc := 96) h dX9_readFresh_96 rfl ?_
        refine gf_X9_187 (pc := 97) h dX9_readFresh_97 (by assumption) (by omega) ?_
        refine jr_iconst (pc := 100) h dX9_readFresh_100 ?_
        refine jr_iadd (pc := 101) h dX9_readFresh_101 ?_
        refine pf_X9_187 (pc := 102) h dX9_readFresh_102 hOf (by omega) ?_
        refine jm_gen (fun M2 hM2 => ?_)
        rw [fX8_16] at hM2
        have hMF := MF_g hMF hM2
        have f9 : fr (MFS f2) _ M2 := fr_up (S := MFS f2) hM2 ⟨by omega, by omega⟩
        have hX := MX_fr hX f9 (Nat.le_refl _) (fun k h1 h2 q => by have := q.1; have := q.2; omega)
        have fR := fr_tr fR (fr_mo f9 (fun k q => Or.inr q))
        obtain ⟨hnm, hOm, hBm⟩ := id hX
        have hOm : M2 m = jdO 9 (fX9 m _ _ fl (.ref f2)) := hOm
        obtain ⟨hnf, hOf, hAf⟩ := id hMF
        refine jr_aload_n (pc := 105) h dX9_readFresh_105 rfl ?_
        refine iv_X9_123 (pc := 106) h hl hR dX9_readFresh_106 ⟨(Nat.le_of_ble_eq_true rfl), (Nat.le_of_ble_eq_true rfl), (Nat.le_of_ble_eq_true rfl), (Nat.le_of_ble_eq_true rfl)⟩ (Nat.le_of_ble_eq_true rfl) (by assumption) (by omega) (s_X9_goesOn hX hbt hbb (p := nmP s y p) (TR_nm hTR) (PO_nm hPO d_4.2.1 hc16 hs9 (by omega)) (fun _ => by have : (nmP s y p).1 4 = p.1 4 := rfl; omega)) (fun v_106 n_106 M_106 hn_106 hp => ?_)
        obtain ⟨⟨rfl, rfl⟩, g1, w1, hX, hg1, hTR, f9⟩ := hp
        have fR := fr_tr fR (fr_mo f9 (fun k q => Or.inl q))
        have hgk := gkp_t hgk hg1
        have hMF := MF_fr hMF f9 (Nat.le_refl _) (fun k h1 h2 q => by have := q.1; have := q.2; omega)
        obtain ⟨hnm, hOm, hBm⟩ := id hX
        have hOm : M_106 m = jdO 9 (fX9 m _ _ fl (.ref f2)) := hOm
        obtain ⟨hnf, hOf, hAf⟩ := id hMF
        
        refine jr_vret (pc := 109) h hRt dX9_readFresh_109 (Nat.le_of_ble_eq_true rfl) (Nat.le_of_ble_eq_true rfl) ?_
        have hk9 : ¬ (fnI p.2.2.1 p.2.1 (p.1 12) ≠ -1 ∨ 16 ≤ p.1 12) := by rw [eFF]; omega
        have ee := nnP_3 (s := s) (x := y) d_4 hk9
        have ew : goP bs (nmP s y p) = nxP bs (nmP s y p) := goP_0 d_4.1
        rw [ew] at hTR
        refine ⟨⟨rfl, rfl⟩, _, _, _, _, hX, hgk, (by rw [ee]; exact hTR), hMF, ⟨?_, fun i hi => ?_⟩, fun _ => ?_, fun j hj => up_ne hj, fun j hj => ?_, fR⟩
        · rw [up_eq]; omega
        · have hn9 := hNB.2 i hi
          show (0 ≤ up (A 28) (gF 16).toNat w i ∧ up (A 28) (gF 16).toNat w i < 1099511627776) ∧ (0 ≤ up (A 29) (gF 16).toNat x i ∧ up (A 29) (gF 16).toNat x i ≤ 2) ∧ 0 ≤ up (A 30) (gF 16).toNat y i ∧ up (A 30) (gF 16).toNat y i ≤ 6
          by_cases q : i = (gF 16).toNat
          · rw [q, up_eq, up_eq, up_eq]; exact ⟨hwr0, by omega, hy⟩
          · rw [up_ne q, up_ne q, up_ne q]; exact hn9
        · rw [ee]
          exact NR_nm hNR7 hTR0 hPO0 d_4.1 d_4.2.1 up_eq (by rw [up_ne (by omega), up_ne (by omega), up_eq]) (by rw [up_ne (by omega), up_eq, hsx]) (by rw [up_eq])
        · rw [up_ne (by omega), up_ne (by omega), up_ne (by omega)]
      · first | have d_37 := bz_0.mp c_37 | have d_37 := bz_1.mp c_37 | skip
        refine jr_vret (pc := 40) h hRt dX9_readFresh_40 (Nat.le_of_ble_eq_true rfl) (Nat.le_of_ble_eq_true rfl) ?_
        first
        | (exfalso; omega)
        | (have hk9 : fnI p.2.2.1 p.2.1 (p.1 12) ≠ -1 ∨ 16 ≤ p.1 12 := by rw [eFF]; exact Or.inl (by omega)
           exact ⟨⟨rfl, rfl⟩, _, _, _, _, hX, hgk, (by rw [nnP_2 d_4 hk9]; exact hTR), hMF, hNB, fun q => absurd q (by rw [nnP_2 d_4 hk9]; exact flP_x (by omega)), fun _ _ => rfl, fun _ _ => rfl, fR⟩)
    · first | have d_24 := bz_0.mp c_24 | have d_24 := bz_1.mp c_24 | skip
      refine jr_aload_n (pc := 27) h dX9_readFresh_27 rfl ?_
      refine jr_iconst (pc := 28) h dX9_readFresh_28 ?_
      refine iv_X9_126 (pc := 29) h hl hR dX9_readFresh_29 ⟨(Nat.le_of_ble_eq_true rfl), (Nat.le_of_ble_eq_true rfl), (Nat.le_of_ble_eq_true rfl), (Nat.le_of_ble_eq_true rfl)⟩ (Nat.le_of_ble_eq_true rfl) (by assumption) (by omega) (s_X9_wrong hX (p := p) (k := 3) hTR hPO (by omega)) (fun v_29 n_29 M_29 hn_29 hp => ?_)
      obtain ⟨⟨rfl, rfl⟩, g1, w1, hX, hg1, hTR, f9⟩ := hp
      have fR := fr_tr fR (fr_mo f9 (fun k q => Or.inl q))
      have hgk := gkp_t hgk hg1
      have hMF := MF_fr hMF f9 (Nat.le_refl _) (fun k h1 h2 q => by have := q.1; have := q.2; omega)
      obtain ⟨hnm, hOm, hBm⟩ := id hX
      have hOm : M_29 m = jdO 9 (fX9 m _ _ fl (.ref f2)) := hOm
      obtain ⟨hnf, hOf, hAf⟩ := id hMF
      have hA28 : M_29 (f2 + 28) = jdL 16 (A 28) := hAf 28 (by omega) (by omega)
      have hA29 : M_29 (f2 + 29) = jdA 16 (A 29) := hAf 29 (by omega) (by omega)
      have hA30 : M_29 (f2 + 30) = jdA 16 (A 30) := hAf 30 (by omega) (by omega)
      replace hPO := flP_O (k := 3) hPO (by omega)
      have h57 := (TR_5 hTR hPO).1
      have h5r := (TR_5 hTR hPO).2.2
      first | have h5z := h57.2 (flP_x (by omega)) | have h5n : ¬ g 9 = 5 := fun e => h57.1 e d_4.1
      refine jr_aload_n (pc := 32) h dX9_readFresh_32 rfl ?_
      refine gf_X9_80 (pc := 33) h dX9_readFresh_33 (by assumption) (by omega) ?_
      refine jr_iconst (pc := 36) h dX9_readFresh_36 ?_
      refine jr_icmp_ne (pc := 37) h 41 dX9_readFresh_37 (by decide) (by omega) (by omega) (fun c_37 => ?_) (fun c_37 => ?_)
      · first | have d_37 := bz_0.mp c_37 | have d_37 := bz_1.mp c_37 | skip
        exfalso
        omega
      · first | have d_37 := bz_0.mp c_37 | have d_37 := bz_1.mp c_37 | skip
        refine jr_vret (pc := 40) h hRt dX9_readFresh_40 (Nat.le_of_ble_eq_true rfl) (Nat.le_of_ble_eq_true rfl) ?_
        first
        | (exfalso; omega)
        | (have hk9 : fnI p.2.2.1 p.2.1 (p.1 12) ≠ -1 ∨ 16 ≤ p.1 12 := by rw [eFF]; exact Or.inl (by omega)
           exact ⟨⟨rfl, rfl⟩, _, _, _, _, hX, hgk, (by rw [nnP_2 d_4 hk9]; exact hTR), hMF, hNB, fun q => absurd q (by rw [nnP_2 d_4 hk9]; exact flP_x (by omega)), fun _ _ => rfl, fun _ _ => rfl, fR⟩)
  · have d_4 := bz_0.mp c_4
    refine jr_aload_n (pc := 7) h dX9_readFresh_7 rfl ?_
    refine jr_iconst (pc := 8) h dX9_readFresh_8 ?_
    refine iv_X9_126 (pc := 9) h hl hR dX9_readFresh_9 ⟨(Nat.le_of_ble_eq_true rfl), (Nat.le_of_ble_eq_true rfl), (Nat.le_of_ble_eq_true rfl), (Nat.le_of_ble_eq_true rfl)⟩ (Nat.le_of_ble_eq_true rfl) (by assumption) (by omega) (s_X9_wrong hX (p := p) (k := 1) hTR hPO (by omega)) (fun v_9 n_9 M_9 hn_9 hp => ?_)
    obtain ⟨⟨rfl, rfl⟩, g1, w1, hX, hg1, hTR, f9⟩ := hp
    have fR := fr_tr fR (fr_mo f9 (fun k q => Or.inl q))
    have hgk := gkp_t hgk hg1
    have hMF := MF_fr hMF f9 (Nat.le_refl _) (fun k h1 h2 q => by have := q.1; have := q.2; omega)
    obtain ⟨hnm, hOm, hBm⟩ := id hX
    have hOm : M_9 m = jdO 9 (fX9 m _ _ fl (.ref f2)) := hOm
    obtain ⟨hnf, hOf, hAf⟩ := id hMF
    have hA28 : M_9 (f2 + 28) = jdL 16 (A 28) := hAf 28 (by omega) (by omega)
    have hA29 : M_9 (f2 + 29) = jdA 16 (A 29) := hAf 29 (by omega) (by omega)
    have hA30 : M_9 (f2 + 30) = jdA 16 (A 30) := hAf 30 (by omega) (by omega)
    replace hPO := flP_O (k := 1) hPO (by omega)
    refine jr_aload_n (pc := 12) h dX9_readFresh_12 rfl ?_
    refine gf_X9_174 (pc := 13) h dX9_readFresh_13 (by assumption) (by omega) ?_
    refine jr_aload_n (pc := 16) h dX9_readFresh_16 rfl ?_
    refine gf_X9_99 (pc := 17) h dX9_readFresh_17 (by assumption) (by omega) ?_
    refine iv_X9_178 (pc := 20) h hl hR dX9_readFresh_20 ⟨(Nat.le_of_ble_eq_true rfl), (Nat.le_of_ble_eq_true rfl), (Nat.le_of_ble_eq_true rfl), (Nat.le_of_ble_eq_true rfl)⟩ (Nat.le_of_ble_eq_true rfl) (by assumption) (by omega) (s_X8_find hMF hNB hTR.1.2.2.2.2) (fun v_20 n_20 M_20 hn_20 hp => ?_)
    obtain ⟨⟨rfl, rfl, rfl⟩, gr_20⟩ := hp
    obtain ⟨F, eF⟩ : ∃ z, fnI (A 28) w1 (gF 16) = z := ⟨_, rfl⟩
    rw [eF] at gr_20 ⊢
    refine jr_iconst (pc := 23) h dX9_readFresh_23 ?_
    refine jr_icmp_eq (pc := 24) h 32 dX9_readFresh_24 (by decide) (by omega) (by omega) (fun c_24 => ?_) (fun c_24 => ?_)
    · first | have d_24 := bz_0.mp c_24 | have d_24 := bz_1.mp c_24 | skip
      have h57 := (TR_5 hTR hPO).1
      have h5z := h57.2 (by first | exact flP_x (by omega) | (rw [flP_f (by omega)]; exact flP_x (by omega)))
      refine jr_aload_n (pc := 32) h dX9_readFresh_32 rfl ?_
      refine gf_X9_80 (pc := 33) h dX9_readFresh_33 (by assumption) (by omega) ?_
      refine jr_iconst (pc := 36) h dX9_readFresh_36 ?_
      refine jr_icmp_ne (pc := 37) h 41 dX9_readFresh_37 (by decide) (by omega) (by omega) (fun c_37 => ?_) (fun c_37 => ?_)
      · first | have d_37 := bz_0.mp c_37 | have d_37 := bz_1.mp c_37 | skip
        exfalso
        omega
      · first | have d_37 := bz_0.mp c_37 | have d_37 := bz_1.mp c_37 | skip
        refine jr_vret (pc := 40) h hRt dX9_readFresh_40 (Nat.le_of_ble_eq_true rfl) (Nat.le_of_ble_eq_true rfl) ?_
        first
        | (exfalso; omega)
        | (refine ⟨⟨rfl, rfl⟩, _, _, _, _, hX, hgk, (by rw [nnP_1 d_4]; first | exact hTR | (rw [flP_f (by omega)] at hTR; exact hTR)), hMF, hNB, fun q => absurd q (by rw [nnP_1 d_4]; exact flP_x (by omega)), fun _ _ => rfl, fun _ _ => rfl, fR⟩)
    · first | have d_24 := bz_0.mp c_24 | have d_24 := bz_1.mp c_24 | skip
      refine jr_aload_n (pc := 27) h dX9_readFresh_27 rfl ?_
      refine jr_iconst (pc := 28) h dX9_readFresh_28 ?_
      refine iv_X9_126 (pc := 29) h hl hR dX9_readFresh_29 ⟨(Nat.le_of_ble_eq_true rfl), (Nat.le_of_ble_eq_true rfl), (Nat.le_of_ble_eq_true rfl), (Nat.le_of_ble_eq_true rfl)⟩ (Nat.le_of_ble_eq_true rfl) (by assumption) (by omega) (s_X9_wrong hX (p := (flP 1 p)) (k := 3) hTR hPO (by omega)) (fun v_29 n_29 M_29 hn_29 hp => ?_)
      obtain ⟨⟨rfl, rfl⟩, g1, w1, hX, hg1, hTR, f9⟩ := hp
      have fR := fr_tr fR (fr_mo f9 (fun k q => Or.inl q))
      have hgk := gkp_t hgk hg1
      have hMF := MF_fr hMF f9 (Nat.le_refl _) (fun k h1 h2 q => by have := q.1; have := q.2; omega)
      obtain ⟨hnm, hOm, hBm⟩ := id hX
      have hOm : M_29 m = jdO 9 (fX9 m _ _ fl (.ref f2)) := hOm
      obtain ⟨hnf, hOf, hAf⟩ := id hMF
      have hA28 : M_29 (f2 + 28) = jdL 16 (A 28) := hAf 28 (by omega) (by omega)
      have hA29 : M_29 (f2 + 29) = jdA 16 (A 29) := hAf 29 (by omega) (by omega)
      have hA30 : M_29 (f2 + 30) = jdA 16 (A 30) := hAf 30 (by omega) (by omega)
      replace hPO := flP_O (k := 3) hPO (by omega)
      have h57 := (TR_5 hTR hPO).1
      have h5z := h57.2 (by first | exact flP_x (by omega) | (rw [flP_f (by omega)]; exact flP_x (by omega)))
      refine jr_aload_n (pc := 32) h dX9_readFresh_32 rfl ?_
      refine gf_X9_80 (pc := 33) h dX9_readFresh_33 (by assumption) (by omega) ?_
      refine jr_iconst (pc := 36) h dX9_readFresh_36 ?_
      refine jr_icmp_ne (pc := 37) h 41 dX9_readFresh_37 (by decide) (by omega) (by omega) (fun c_37 => ?_) (fun c_37 => ?_)
      · first | have d_37 := bz_0.mp c_37 | have d_37 := bz_1.mp c_37 | skip
        exfalso
        omega
      · first | have d_37 := bz_0.mp c_37 | have d_37 := bz_1.mp c_37 | skip
        refine jr_vret (pc := 40) h hRt dX9_readFresh_40 (Nat.le_of_ble_eq_true rfl) (Nat.le_of_ble_eq_true rfl) ?_
        first
        | (exfalso; omega)
        | (refine ⟨⟨rfl, rfl⟩, _, _, _, _, hX, hgk, (by rw [nnP_1 d_4]; first | exact hTR | (rw [flP_f (by omega)] at hTR; exact hTR)), hMF, hNB, fun q => absurd q (by rw [nnP_1 d_4]; exact flP_x (by omega)), fun _ _ => rfl, fun _ _ => rfl, fR⟩)
set_option maxHeartbeats 1000000 in
set_option maxRecDepth 20000 in
theorem s_X9_begins {l : Launch} {n : Nat} {M : jdM} {m : Nat} {g : Nat → Int} {w : Int} {fl rd : Value} {B : Nat → Nat → Int} (hX : MX M n m g w fl rd B) {bs : Nat → Int} (hbt : ∀ j, j < 900 → B 1 j = bs j) (hbb : ∀ j, -128 ≤ bs j ∧ bs j ≤ 127) {p : TS} (hTR : TR bs p g w) (hPO : PO p) (q7 : p.1 7 = 0) (q4 : p.1 4 = 1) {x y : Int} (hx : -2147483648 ≤ x ∧ x < 2147483648) (hy : -2147483648 ≤ y ∧ y < 2147483648) : Ct l yX9_begins cX9_begins 3 none rX9_begins [.ref m, jI x, jI y] n M (fun vv n' M' => (vv = none ∧ n = n') ∧ ∃ g' w', MX M' n m g' w' fl rd B ∧ gkp g g' ∧ TR bs (if x = y then flP 5 p else nxP bs p) g' w' ∧ fr (MXf m) M M') := by
  refine Ct_of [some (.ref m), some (jI x), some (jI y)] (by decide) (Nat.le_of_ble_eq_true rfl) rfl (fun κ hl h hR hRt hmn hn0 => ?_)
  have h : Ok κ RX9 cX9_begins 3 none := h
  obtain ⟨hnm, hOm, hBm⟩ := id hX
  have hOm : M m = jdO 9 (fX9 m _ _ fl rd) := hOm
  have f1 : fr (MXf m) M M := fr_rf
  have hgk : gkp g g := gkp_r
  refine jr_iload_n (pc := 0) h dX9_begins_0 rfl ?_
  refine jr_iload_n (pc := 1) h dX9_begins_1 rfl ?_
  refine jr_icmp_ne (pc := 2) h 10 dX9_begins_2 (by decide) (by omega) (by omega) (fun c_2 => ?_) (fun c_2 => ?_)
  · skip
    refine jr_aload_n (pc := 10) h dX9_begins_10 rfl ?_
    refine iv_X9_123 (pc := 11) h hl hR dX9_begins_11 ⟨(Nat.le_of_ble_eq_true rfl), (Nat.le_of_ble_eq_true rfl), (Nat.le_of_ble_eq_true rfl), (Nat.le_of_ble_eq_true rfl)⟩ (Nat.le_of_ble_eq_true rfl) (by assumption) (by omega) (s_X9_goesOn hX hbt hbb (p := p) hTR hPO (fun _ => by omega)) (fun v_11 n_11 M_11 hn_11 hp => ?_)
    obtain ⟨⟨rfl, rfl⟩, g1, w1, hX, hg1, hTR, f9⟩ := hp
    have f1 := fr_tr f1 f9
    have hgk := gkp_t hgk hg1
    obtain ⟨hnm, hOm, hBm⟩ := id hX
    refine jr_vret (pc := 14) h hRt dX9_begins_14 (Nat.le_of_ble_eq_true rfl) (Nat.le_of_ble_eq_true rfl) ?_
    rw [goP_0 q7] at hTR
    exact ⟨⟨rfl, rfl⟩, _, _, hX, hgk, (by rw [if_neg (by omega)]; exact hTR), f1⟩
  · skip
    refine jr_aload_n (pc := 5) h dX9_begins_5 rfl ?_
    refine jr_iconst (pc := 6) h dX9_begins_6 ?_
    refine iv_X9_126 (pc := 7) h hl hR dX9_begins_7 ⟨(Nat.le_of_ble_eq_true rfl), (Nat.le_of_ble_eq_true rfl), (Nat.le_of_ble_eq_true rfl), (Nat.le_of_ble_eq_true rfl)⟩ (Nat.le_of_ble_eq_true rfl) (by assumption) (by omega) (s_X9_wrong hX (p := p) hTR hPO (by omega)) (fun v_7 n_7 M_7 hn_7 hp => ?_)
    obtain ⟨⟨rfl, rfl⟩, g1, w1, hX, hg1, hTR, f9⟩ := hp
    have f1 := fr_tr f1 f9
    have hgk := gkp_t hgk hg1
    obtain ⟨hnm, hOm, hBm⟩ := id hX
    replace hPO := flP_O (k := 5) hPO (by omega)
    refine jr_aload_n (pc := 10) h dX9_begins_10 rfl ?_
    refine iv_X9_123 (pc := 11) h hl hR dX9_begins_11 ⟨(Nat.le_of_ble_eq_true rfl), (Nat.le_of_ble_eq_true rfl), (Nat.le_of_ble_eq_true rfl), (Nat.le_of_ble_eq_true rfl)⟩ (Nat.le_of_ble_eq_true rfl) (by assumption) (by omega) (s_X9_goesOn hX hbt hbb (p := flP 5 p) hTR hPO (fun q => absurd q (flP_x (by omega)))) (fun v_11 n_11 M_11 hn_11 hp => ?_)
    obtain ⟨⟨rfl, rfl⟩, g1, w1, hX, hg1, hTR, f9⟩ := hp
    have f1 := fr_tr f1 f9
    have hgk := gkp_t hgk hg1
    obtain ⟨hnm, hOm, hBm⟩ := id hX
    refine jr_vret (pc := 14) h hRt dX9_begins_14 (Nat.le_of_ble_eq_true rfl) (Nat.le_of_ble_eq_true rfl) ?_
    rw [goP_1 (flP_x (by omega))] at hTR
    exact ⟨⟨rfl, rfl⟩, _, _, hX, hgk, (by rw [if_pos (by omega)]; exact hTR), f1⟩
