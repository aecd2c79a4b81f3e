/-! 59: the reference: a row as it is served -/
def rbX (b0 : Nat → Int) (ρ τ : Nat) (w : Nat → Int) : Nat → Int := fun j =>
  if 10 * ρ + 3 ≤ j ∧ j < 10 * ρ + 6 then w (1 + (j - (10 * ρ + 3))) else if 10 * ρ + 6 ≤ j ∧ j < 10 * ρ + 10 then w (5 + (j - (10 * ρ + 6))) else if j = 410 + τ then w 0 else if 414 + 4 * τ ≤ j ∧ j < 414 + 4 * τ + 4 then w (9 + (j - (414 + 4 * τ))) else if j = 429 then w 13 else if 423 ≤ j ∧ j < 429 then w (14 + (j - 423)) else b0 j
theorem rbX_c {b0 w w' : Nat → Int} {ρ τ : Nat} (h : ∀ o, o ≠ 4 → o < 20 → w o = w' o) : rbX b0 ρ τ w = rbX b0 ρ τ w' := by
  funext j
  unfold rbX
  (repeat' split) <;> first | with_reducible rfl | (apply h <;> omega)
theorem rbX_f {b0 w : Nat → Int} {ρ τ o : Nat} {x : Int} (hρ : 1 ≤ ρ ∧ ρ ≤ 40) (hτ : τ ≤ 1) (ho : 1 ≤ o ∧ o < 4) : up (rbX b0 ρ τ w) (10 * ρ + 2 + o) x = rbX b0 ρ τ (up w o x) ∧ rbX b0 ρ τ w (10 * ρ + 2 + o) = w o := by
  refine ⟨?_, ?_⟩
  · funext j
    by_cases q : j = 10 * ρ + 2 + o
    · rw [q, up_eq]
      unfold rbX
      rw [if_pos (by omega), show 1 + (10 * ρ + 2 + o - (10 * ρ + 3)) = o by omega, up_eq]
    · rw [up_ne q]
      unfold rbX
      (repeat' split) <;> first | with_reducible rfl | (exact (up_ne (by omega)).symm)
  · unfold rbX
    rw [if_pos (by omega), show 1 + (10 * ρ + 2 + o - (10 * ρ + 3)) = o by omega]
theorem rbX_t {b0 w : Nat → Int} {ρ τ k : Nat} {x : Int} (hρ : 1 ≤ ρ ∧ ρ ≤ 40) (hτ : τ ≤ 1) (hk : k < 4) : up (rbX b0 ρ τ w) (10 * ρ + 6 + k) x = rbX b0 ρ τ (up w (5 + k) x) ∧ rbX b0 ρ τ w (10 * ρ + 6 + k) = w (5 + k) := by
  refine ⟨?_, ?_⟩
  · funext j
    by_cases q : j = 10 * ρ + 6 + k
    · rw [q, up_eq]
      unfold rbX
      rw [if_neg (by omega), if_pos (by omega), show 5 + (10 * ρ + 6 + k - (10 * ρ + 6)) = 5 + k by omega, up_eq]
    · rw [up_ne q]
      unfold rbX
      (repeat' split) <;> first | with_reducible rfl | (exact (up_ne (by omega)).symm)
  · unfold rbX
    rw [if_neg (by omega), if_pos (by omega), show 5 + (10 * ρ + 6 + k - (10 * ρ + 6)) = 5 + k by omega]
theorem rbX_s {b0 w : Nat → Int} {ρ τ : Nat} {x : Int} (hρ : 1 ≤ ρ ∧ ρ ≤ 40) (hτ : τ ≤ 1) : up (rbX b0 ρ τ w) (410 + τ) x = rbX b0 ρ τ (up w 0 x) ∧ rbX b0 ρ τ w (410 + τ) = w 0 := by
  refine ⟨?_, ?_⟩
  · funext j
    by_cases q : j = 410 + τ
    · rw [q, up_eq]
      unfold rbX
      rw [if_neg (by omega), if_neg (by omega), if_pos (Eq.refl _), up_eq]
    · rw [up_ne q]
      unfold rbX
      (repeat' split) <;> first | with_reducible rfl | (exact (up_ne (by omega)).symm) | (exfalso; omega)
  · unfold rbX
    rw [if_neg (by omega), if_neg (by omega), if_pos rfl]
theorem rbX_l {b0 w : Nat → Int} {ρ τ k : Nat} {x : Int} (hρ : 1 ≤ ρ ∧ ρ ≤ 40) (hτ : τ ≤ 1) (hk : k < 4) : up (rbX b0 ρ τ w) (414 + 4 * τ + k) x = rbX b0 ρ τ (up w (9 + k) x) ∧ rbX b0 ρ τ w (414 + 4 * τ + k) = w (9 + k) := by
  refine ⟨?_, ?_⟩
  · funext j
    by_cases q : j = 414 + 4 * τ + k
    · rw [q, up_eq]
      unfold rbX
      rw [if_neg (by omega), if_neg (by omega), if_neg (by omega), if_pos (by omega), show 9 + (414 + 4 * τ + k - (414 + 4 * τ)) = 9 + k by omega, up_eq]
    · rw [up_ne q]
      unfold rbX
      (repeat' split) <;> first | with_reducible rfl | (exact (up_ne (by omega)).symm)
  · unfold rbX
    rw [if_neg (by omega), if_neg (by omega), if_neg (by omega), if_pos (by omega), show 9 + (414 + 4 * τ + k - (414 + 4 * τ)) = 9 + k by omega]
theorem rbX_z {b0 w : Nat → Int} {ρ τ : Nat} {x : Int} (hρ : 1 ≤ ρ ∧ ρ ≤ 40) (hτ : τ ≤ 1) : up (rbX b0 ρ τ w) 429 x = rbX b0 ρ τ (up w 13 x) ∧ rbX b0 ρ τ w 429 = w 13 := by
  refine ⟨?_, ?_⟩
  · funext j
    by_cases q : j = 429
    · rw [q, up_eq]
      unfold rbX
      rw [if_neg (by omega), if_neg (by omega), if_neg (by omega), if_neg (by omega), if_pos rfl, up_eq]
    · rw [up_ne q]
      unfold rbX
      (repeat' split) <;> first | with_reducible rfl | (exact (up_ne (by omega)).symm)
  · unfold rbX
    rw [if_neg (by omega), if_neg (by omega), if_neg (by omega), if_neg (by omega), if_pos rfl]
theorem rbX_g {b0 w : Nat → Int} {ρ τ i : Nat} {x : Int} (hρ : 1 ≤ ρ ∧ ρ ≤ 40) (hτ : τ ≤ 1) (hi : i < 6) : up (rbX b0 ρ τ w) (423 + i) x = rbX b0 ρ τ (up w (14 + i) x) := by
  funext j
  by_cases q : j = 423 + i
  · rw [q, up_eq]
    unfold rbX
    rw [if_neg (by omega), if_neg (by omega), if_neg (by omega), if_neg (by omega), if_neg (by omega), if_pos (by omega), show 14 + (423 + i - 423) = 14 + i by omega, up_eq]
  · rw [up_ne q]
    unfold rbX
    (repeat' split) <;> first | with_reducible rfl | (exact (up_ne (by omega)).symm)
theorem hd4_r {w : Nat → Int} {k : Nat} {x : Int} (hk : k < 4) : ∀ o, o ≠ 4 → o < 20 → up (up (up w (9 + k) (w (9 + k) - 1)) (5 + k) (w (5 + k) + 1)) 0 (w 0 + x) o = hd4 k x w o := by
  intro o h4 _
  unfold hd4 hd3 hd2 hd1
  unfold up
  (repeat' split) <;> first | rfl | (exfalso; omega) | (subst_vars; first | rfl | (exfalso; omega))
theorem l2i_e {z : Int} : (Int64.ofInt z).toInt32 = Int32.ofInt z := Int64.toInt32_ofInt
set_option maxHeartbeats 1000000 in
set_option maxRecDepth 20000 in
theorem s_X9_leftOf {l : Launch} {n : Nat} {M : jdM} {m f : Nat} {g : Nat → Int} {wd : Int} {rd : Value} {B : Nat → Nat → Int} {b0 w : Nat → Int} {ρ τ : Nat} (hX : MX M n m g wd (.ref f) rd (up B 3 (rbX b0 ρ τ w))) {ct td bk si ld gf : Nat → Int} {A : Nat → Nat → Int} (hMF : MF M n f gf A) (hFM : FM ct td bk si ld gf A) (hsep : f + 30 < m ∨ m + 12 < f) (hρ : 1 ≤ ρ ∧ ρ ≤ 40) (hτ : τ ≤ 1) {k : Nat} (hk : k < 4) : Ct l yX9_leftOf cX9_leftOf 3 (some .int) rX9_leftOf [.ref m, jI (τ : Int), jI (k : Int)] n M (fun vv n' M' => vv = some (jI (w (9 + k))) ∧ n = n' ∧ M = M') := by
  refine Ct_of [some (.ref m), some (jI (τ : Int)), some (jI (k : Int))] (by decide) (Nat.le_of_ble_eq_true rfl) rfl (fun κ hl h hR hRt hmn hn0 => ?_)
  have h : Ok κ RX9 cX9_leftOf 3 (some .int) := h
  obtain ⟨hnm, hOm, hBm⟩ := id hX
  have hOm : M m = jdO 9 (fX9 m _ _ (.ref f) rd) := hOm
  have hB3 : M (m + 3) = jdA 431 (rbX b0 ρ τ w) := hBm 3 (by omega) (by omega)
  refine jr_aload_n (pc := 0) h dX9_leftOf_0 rfl ?_
  refine gf_X9_21 (pc := 1) h dX9_leftOf_1 (by assumption) (by omega) ?_
  refine jr_sipush (pc := 4) h dX9_leftOf_4 sp_414 ?_
  refine jr_iconst (pc := 7) h dX9_leftOf_7 ?_
  refine jr_iload_n (pc := 8) h dX9_leftOf_8 rfl ?_
  refine jr_imul (pc := 9) h dX9_leftOf_9 ?_
  refine jr_iadd (pc := 10) h dX9_leftOf_10 ?_
  refine jr_iload_n (pc := 11) h dX9_leftOf_11 rfl ?_
  refine jr_iadd (pc := 12) h dX9_leftOf_12 ?_
  refine jr_iald (pc := 13) h dX9_leftOf_13 (by assumption) (by omega) (by omega) ?_
  rw [show ((414 : Int) + 4 * (τ : Int) + (k : Int)).toNat = 414 + 4 * τ + k by omega, (rbX_l (x := 0) hρ hτ hk).2]
  refine jr_iret (pc := 14) h hRt dX9_leftOf_14 rfl (Nat.le_of_ble_eq_true rfl) (Nat.le_of_ble_eq_true rfl) ?_
  exact ⟨rfl, rfl, rfl⟩
set_option maxHeartbeats 1000000 in
set_option maxRecDepth 20000 in
theorem s_X9_hands {l : Launch} {n : Nat} {M : jdM} {m f : Nat} {g : Nat → Int} {wd : Int} {rd : Value} {B : Nat → Nat → Int} {b0 w : Nat → Int} {ρ τ : Nat} (hX : MX M n m g wd (.ref f) rd (up B 3 (rbX b0 ρ τ w))) {ct td bk si ld gf : Nat → Int} {A : Nat → Nat → Int} (hMF : MF M n f gf A) (hFM : FM ct td bk si ld gf A) (hsep : f + 30 < m ∨ m + 12 < f) (hρ : 1 ≤ ρ ∧ ρ ≤ 40) (hτ : τ ≤ 1) {k : Nat} (hk : (k : Int) < ct 2) (h0 : 0 ≤ w 0 ∧ w 0 ≤ 5900000) : Ct l yX9_hands cX9_hands 4 none rX9_hands [.ref m, jI (τ : Int), jI (ρ : Int), jI (k : Int)] n M (fun vv n' M' => (vv = none ∧ n = n') ∧ MX M' n m g wd (.ref f) rd (up B 3 (rbX b0 ρ τ (hdW ct td k w))) ∧ fr (MXf m) M M') := by
  refine Ct_of [some (.ref m), some (jI (τ : Int)), some (jI (ρ : Int)), some (jI (k : Int))] (by decide) (Nat.le_of_ble_eq_true rfl) rfl (fun κ hl h hR hRt hmn hn0 => ?_)
  have h : Ok κ RX9 cX9_hands 4 none := h
  obtain ⟨hnf, hOf, hAf⟩ := id hMF
  obtain ⟨⟨e0, e1, e2, e3, e4⟩, ⟨k5, k6, k7, k8, k9, k10, k11, k12, k13, k14, k15⟩, ⟨a2, a3, a4, a5, a6, a7, a8, a9, a10, a11, a12⟩, ⟨hlim, hLI, hends, hrt⟩, ⟨hbk, hld⟩, hc0, hc1, hc2, hc5⟩ := id hFM
  have l2 := hlim 2 (by omega)
  have l3 := hlim 3 (by omega)
  have l4 := hlim 4 (by omega)
  have l5 := hlim 5 (by omega)
  have l6 := hlim 6 (by omega)
  have l7 := hlim 7 (by omega)
  have l8 := hlim 8 (by omega)
  have l9 := hlim 9 (by omega)
  have l10 := hlim 10 (by omega)
  have l11 := hlim 11 (by omega)
  have l12 := hlim 12 (by omega)
  rw [show (jtab 0).2.2 2 = 4 from rfl] at l2
  rw [show (jtab 0).2.2 3 = 6 from rfl] at l3
  rw [show (jtab 0).2.2 4 = 6 from rfl] at l4
  rw [show (jtab 0).2.2 5 = 2 from rfl] at l5
  rw [show (jtab 0).2.2 6 = 8 from rfl] at l6
  rw [show (jtab 0).2.2 7 = 5 from rfl] at l7
  rw [show (jtab 0).2.2 8 = 6 from rfl] at l8
  rw [show (jtab 0).2.2 9 = 3 from rfl] at l9
  rw [show (jtab 0).2.2 10 = 3 from rfl] at l10
  rw [show (jtab 0).2.2 11 = 4 from rfl] at l11
  rw [show (jtab 0).2.2 12 = 4 from rfl] at l12
  have hk0 := hk
  replace hk : k < 4 := by omega
  obtain ⟨hnm, hOm, hBm⟩ := id hX
  have hOm : M m = jdO 9 (fX9 m _ _ (.ref f) rd) := hOm
  have hB3 : M (m + 3) = jdA 431 (rbX b0 ρ τ w) := hBm 3 (by omega) (by omega)
  have eL : ((414 : Int) + 4 * (τ : Int) + (k : Int)).toNat = 414 + 4 * τ + k := by omega
  have eT : ((10 : Int) * (ρ : Int) + 6 + (k : Int)).toNat = 10 * ρ + 6 + k := by omega
  have eS : ((410 : Int) + (τ : Int)).toNat = 410 + τ := by omega
  have eC : ((10 : Int) * (ρ : Int) + 5).toNat = 10 * ρ + 2 + 3 := by omega
  have hw60 := (hLI 0 0 (by omega) (by omega) (by omega)).1 rfl
  have r02 := c_getr hrt 0 0 2
  have r10 := c_getr hrt 1 0 0
  refine jr_aload_n (pc := 0) h dX9_hands_0 rfl ?_
  refine gf_X9_21 (pc := 1) h dX9_hands_1 (by assumption) (by omega) ?_
  refine jr_sipush (pc := 4) h dX9_hands_4 sp_414 ?_
  refine jr_iconst (pc := 7) h dX9_hands_7 ?_
  refine jr_iload_n (pc := 8) h dX9_hands_8 rfl ?_
  refine jr_imul (pc := 9) h dX9_hands_9 ?_
  refine jr_iadd (pc := 10) h dX9_hands_10 ?_
  refine jr_iload_n (pc := 11) h dX9_hands_11 rfl ?_
  refine jr_iadd (pc := 12) h dX9_hands_12 ?_
  refine jr_dup2 (pc := 13) h dX9_hands_13 rfl rfl ?_
  refine jr_iald (pc := 14) h dX9_hands_14 (by assumption) (by omega) (by omega) ?_
  refine jr_iconst (pc := 15) h dX9_hands_15 ?_
  refine jr_isub (pc := 16) h dX9_hands_16 ?_
  refine jr_iast (pc := 17) h dX9_hands_17 hB3 (by omega) (by omega) ?_
  refine jm_gen (fun M2 hM2 => ?_)
  rw [eL, (rbX_l (x := 0) hρ hτ hk).2, (rbX_l hρ hτ hk).1] at hM2
  have hX := MX_B (i := 3) hX hM2 (by omega)
  rw [up_up] at hX
  have f9 : fr (MXf m) _ M2 := fr_up (S := MXf m) hM2 ⟨by omega, by omega⟩
  have f1 := f9
  have hMF := MF_fr hMF f9 (Nat.le_refl _) (fun k h1 h2 q => by have := q.1; have := q.2; omega)
  obtain ⟨hnf, hOf, hAf⟩ := id hMF
  obtain ⟨hnm, hOm, hBm⟩ := id hX
  have hOm : M2 m = jdO 9 (fX9 m _ _ (.ref f) rd) := hOm
  have hB3 : M2 (m + 3) = jdA 431 (rbX b0 ρ τ (up w (9 + k) (w (9 + k) - 1))) := hBm 3 (by omega) (by omega)
  refine jr_aload_n (pc := 18) h dX9_hands_18 rfl ?_
  refine gf_X9_21 (pc := 19) h dX9_hands_19 (by assumption) (by omega) ?_
  refine jr_bipush (pc := 22) h dX9_hands_22 bp_10 ?_
  refine jr_iload_n (pc := 24) h dX9_hands_24 rfl ?_
  refine jr_imul (pc := 25) h dX9_hands_25 ?_
  refine jr_bipush (pc := 26) h dX9_hands_26 bp_6 ?_
  refine jr_iadd (pc := 28) h dX9_hands_28 ?_
  refine jr_iload_n (pc := 29) h dX9_hands_29 rfl ?_
  refine jr_iadd (pc := 30) h dX9_hands_30 ?_
  refine jr_dup2 (pc := 31) h dX9_hands_31 rfl rfl ?_
  refine jr_iald (pc := 32) h dX9_hands_32 (by assumption) (by omega) (by omega) ?_
  refine jr_iconst (pc := 33) h dX9_hands_33 ?_
  refine jr_iadd (pc := 34) h dX9_hands_34 ?_
  refine jr_iast (pc := 35) h dX9_hands_35 hB3 (by omega) (by omega) ?_
  refine jm_gen (fun M2 hM2 => ?_)
  rw [eT, (rbX_t (x := 0) hρ hτ hk).2, (rbX_t hρ hτ hk).1, up_ne (show 5 + k ≠ 9 + k by omega)] at hM2
  have hX := MX_B (i := 3) hX hM2 (by omega)
  rw [up_up] at hX
  have f9 : fr (MXf m) _ M2 := fr_up (S := MXf m) hM2 ⟨by omega, by omega⟩
  have f1 := fr_tr f1 f9
  have hMF := MF_fr hMF f9 (Nat.le_refl _) (fun k h1 h2 q => by have := q.1; have := q.2; omega)
  obtain ⟨hnf, hOf, hAf⟩ := id hMF
  obtain ⟨hnm, hOm, hBm⟩ := id hX
  have hOm : M2 m = jdO 9 (fX9 m _ _ (.ref f) rd) := hOm
  have hB3 : M2 (m + 3) = jdA 431 (rbX b0 ρ τ (up (up w (9 + k) (w (9 + k) - 1)) (5 + k) (w (5 + k) + 1))) := hBm 3 (by omega) (by omega)
  refine jr_aload_n (pc := 36) h dX9_hands_36 rfl ?_
  refine gf_X9_21 (pc := 37) h dX9_hands_37 (by assumption) (by omega) ?_
  refine jr_sipush (pc := 40) h dX9_hands_40 sp_410 ?_
  refine jr_iload_n (pc := 43) h dX9_hands_43 rfl ?_
  refine jr_iadd (pc := 44) h dX9_hands_44 ?_
  refine jr_dup2 (pc := 45) h dX9_hands_45 rfl rfl ?_
  refine jr_iald (pc := 46) h dX9_hands_46 (by assumption) (by omega) (by omega) ?_
  refine jr_aload_n (pc := 47) h dX9_hands_47 rfl ?_
  refine gf_X9_425 (pc := 48) h dX9_hands_48 (by assumption) (by omega) ?_
  refine gf_X9_267 (pc := 51) h dX9_hands_51 (by assumption) (by omega) ?_
  refine jr_iadd (pc := 54) h dX9_hands_54 ?_
  refine jr_iast (pc := 55) h dX9_hands_55 hB3 (by omega) (by omega) ?_
  refine jm_gen (fun M2 hM2 => ?_)
  rw [eS, (rbX_s (x := 0) hρ hτ).2, (rbX_s hρ hτ).1, up_ne (show 0 ≠ 5 + k by omega), up_ne (show 0 ≠ 9 + k by omega), e2, rbX_c (hd4_r hk)] at hM2
  have hX := MX_B (i := 3) hX hM2 (by omega)
  rw [up_up] at hX
  have f9 : fr (MXf m) _ M2 := fr_up (S := MXf m) hM2 ⟨by omega, by omega⟩
  have f1 := fr_tr f1 f9
  have hMF := MF_fr hMF f9 (Nat.le_refl _) (fun k h1 h2 q => by have := q.1; have := q.2; omega)
  obtain ⟨hnf, hOf, hAf⟩ := id hMF
  obtain ⟨hnm, hOm, hBm⟩ := id hX
  have hOm : M2 m = jdO 9 (fX9 m _ _ (.ref f) rd) := hOm
  have hB3 : M2 (m + 3) = jdA 431 (rbX b0 ρ τ (hd4 k (c_get td 0 0 2) w)) := hBm 3 (by omega) (by omega)
  refine jr_aload_n (pc := 56) h dX9_hands_56 rfl ?_
  refine jr_iload_n (pc := 57) h dX9_hands_57 rfl ?_
  refine jr_aload_n (pc := 58) h dX9_hands_58 rfl ?_
  refine gf_X9_21 (pc := 59) h dX9_hands_59 (by assumption) (by omega) ?_
  refine jr_sipush (pc := 62) h dX9_hands_62 sp_410 ?_
  refine jr_iload_n (pc := 65) h dX9_hands_65 rfl ?_
  refine jr_iadd (pc := 66) h dX9_hands_66 ?_
  refine jr_iald (pc := 67) h dX9_hands_67 hB3 (by omega) (by omega) ?_
  rw [eS, (rbX_s (x := 0) hρ hτ).2, hd4_0]
  refine jr_bipush (pc := 68) h dX9_hands_68 bp_60 ?_
  refine jr_idivp (pc := 70) h dX9_hands_70 (by omega) (by omega) ?_
  refine iv_X9_478 (pc := 71) h hl hR dX9_hands_71 ⟨(Nat.le_of_ble_eq_true rfl), (Nat.le_of_ble_eq_true rfl), (Nat.le_of_ble_eq_true rfl), (Nat.le_of_ble_eq_true rfl)⟩ (Nat.le_of_ble_eq_true rfl) (by assumption) (by omega) (s_X9_heatOf hX hMF hFM hsep (by omega) (by omega)) (fun v_71 n_71 M_71 hn_71 hp => ?_)
  obtain ⟨⟨rfl, rfl, rfl⟩, gr_71⟩ := hp
  refine jr_aload_n (pc := 74) h dX9_hands_74 rfl ?_
  refine gf_X9_425 (pc := 75) h dX9_hands_75 (by assumption) (by omega) ?_
  refine gf_X9_208 (pc := 78) h dX9_hands_78 (by assumption) (by omega) ?_
  refine jr_icmp_ge (pc := 81) h 99 dX9_hands_81 (by decide) (by omega) (by omega) (fun c_81 => ?_) (fun c_81 => ?_)
  · skip
    refine jr_vret (pc := 99) h hRt dX9_hands_99 (Nat.le_of_ble_eq_true rfl) (Nat.le_of_ble_eq_true rfl) ?_
    refine ⟨⟨rfl, rfl⟩, ?_, f1⟩
    unfold hdW
    first
    | (rw [if_pos (by omega)]; exact hX)
    | (rw [if_neg (by omega)]; exact hX)
  · skip
    refine jr_aload_n (pc := 84) h dX9_hands_84 rfl ?_
    refine gf_X9_21 (pc := 85) h dX9_hands_85 (by assumption) (by omega) ?_
    refine jr_bipush (pc := 88) h dX9_hands_88 bp_10 ?_
    refine jr_iload_n (pc := 90) h dX9_hands_90 rfl ?_
    refine jr_imul (pc := 91) h dX9_hands_91 ?_
    refine jr_iconst (pc := 92) h dX9_hands_92 ?_
    refine jr_iadd (pc := 93) h dX9_hands_93 ?_
    refine jr_dup2 (pc := 94) h dX9_hands_94 rfl rfl ?_
    refine jr_iald (pc := 95) h dX9_hands_95 (by assumption) (by omega) (by omega) ?_
    refine jr_iconst (pc := 96) h dX9_hands_96 ?_
    refine jr_iadd (pc := 97) h dX9_hands_97 ?_
    refine jr_iast (pc := 98) h dX9_hands_98 hB3 (by omega) (by omega) ?_
    refine jm_gen (fun M2 hM2 => ?_)
    rw [eC, (rbX_f (x := 0) hρ hτ (by omega)).2, (rbX_f hρ hτ (by omega)).1] at hM2
    have hX := MX_B (i := 3) hX hM2 (by omega)
    rw [up_up] at hX
    have f9 : fr (MXf m) _ M2 := fr_up (S := MXf m) hM2 ⟨by omega, by omega⟩
    have f1 := fr_tr f1 f9
    refine jr_vret (pc := 99) h hRt dX9_hands_99 (Nat.le_of_ble_eq_true rfl) (Nat.le_of_ble_eq_true rfl) ?_
    refine ⟨⟨rfl, rfl⟩, ?_, f1⟩
    unfold hdW
    first
    | (rw [if_pos (by omega)]; exact hX)
    | (rw [if_neg (by omega)]; exact hX)
set_option maxHeartbeats 1000000 in
set_option maxRecDepth 20000 in
theorem s_X9_drawn {l : Launch} {n : Nat} {M : jdM} {m f : Nat} {g : Nat → Int} {wd : Int} {rd : Value} {B : Nat → Nat → Int} {b0 w : Nat → Int} {ρ τ : Nat} (hX : MX M n m g wd (.ref f) rd (up B 3 (rbX b0 ρ τ w))) (hsep : f + 30 < m ∨ m + 12 < f) (hρ : 1 ≤ ρ ∧ ρ ≤ 40) (hτ : τ ≤ 1) {x : Int} (hx : 1 ≤ x ∧ x ≤ 10000) (hw13 : 0 ≤ w 13 ∧ w 13 ≤ 65536) : Ct l yX9_drawn cX9_drawn 2 (some .int) rX9_drawn [.ref m, jI x] n M (fun vv n' M' => (vv = some (jI (((75 * w 13 + 74) % 65537) % x)) ∧ n = n') ∧ MX M' n m g wd (.ref f) rd (up B 3 (rbX b0 ρ τ (up w 13 ((75 * w 13 + 74) % 65537)))) ∧ fr (MXf m) M M') := by
  refine Ct_of [some (.ref m), some (jI x)] (by decide) (Nat.le_of_ble_eq_true rfl) rfl (fun κ hl h hR hRt hmn hn0 => ?_)
  have h : Ok κ RX9 cX9_drawn 2 (some .int) := h
  obtain ⟨hnm, hOm, hBm⟩ := id hX
  have hOm : M m = jdO 9 (fX9 m _ _ (.ref f) rd) := hOm
  have hB3 : M (m + 3) = jdA 431 (rbX b0 ρ τ w) := hBm 3 (by omega) (by omega)
  refine jr_aload_n (pc := 0) h dX9_drawn_0 rfl ?_
  refine gf_X9_21 (pc := 1) h dX9_drawn_1 (by assumption) (by omega) ?_
  refine jr_sipush (pc := 4) h dX9_drawn_4 sp_429 ?_
  refine jr_ldc2 (pc := 7) h dX9_drawn_7 wm_940 ?_
  rw [show (75 : Int64) = Int64.ofInt 75 from by decide]
  refine jr_aload_n (pc := 10) h dX9_drawn_10 rfl ?_
  refine gf_X9_21 (pc := 11) h dX9_drawn_11 (by assumption) (by omega) ?_
  refine jr_sipush (pc := 14) h dX9_drawn_14 sp_429 ?_
  refine jr_iald (pc := 17) h (i := ((429 : Nat) : Int)) dX9_drawn_17 hB3 (by omega) (by omega) ?_
  rw [show (((429 : Nat) : Int)).toNat = 429 from rfl, (rbX_z (x := 0) hρ hτ).2]
  refine jr_i2l (pc := 18) h dX9_drawn_18 (by omega) ?_
  refine jr_lmul (pc := 19) h dX9_drawn_19 ?_
  refine jr_ldc2 (pc := 20) h dX9_drawn_20 wm_941 ?_
  rw [show (74 : Int64) = Int64.ofInt 74 from by decide]
  refine jr_ladd (pc := 23) h dX9_drawn_23 ?_
  refine jr_ldc2 (pc := 24) h dX9_drawn_24 wm_942 ?_
  rw [show (65537 : Int64) = Int64.ofInt 65537 from by decide]
  refine jr_lrem (pc := 27) h dX9_drawn_27 (by omega) (by omega) ?_
  refine jr_l2i (pc := 28) h dX9_drawn_28 ?_
  rw [l2i_e]
  refine jr_iast (pc := 29) h (i := ((429 : Nat) : Int)) dX9_drawn_29 hB3 (by omega) (by omega) ?_
  refine jm_gen (fun M2 hM2 => ?_)
  rw [show (((429 : Nat) : Int)).toNat = 429 from rfl, (rbX_z hρ hτ).1] at hM2
  have hX := MX_B (i := 3) hX hM2 (by omega)
  rw [up_up] at hX
  have f1 : fr (MXf m) _ M2 := fr_up (S := MXf m) hM2 ⟨by omega, by omega⟩
  obtain ⟨hnm, hOm, hBm⟩ := id hX
  have hOm : M2 m = jdO 9 (fX9 m _ _ (.ref f) rd) := hOm
  have hB3 : M2 (m + 3) = jdA 431 (rbX b0 ρ τ (up w 13 ((75 * w 13 + 74) % 65537))) := hBm 3 (by omega) (by omega)
  refine jr_aload_n (pc := 30) h dX9_drawn_30 rfl ?_
  refine gf_X9_21 (pc := 31) h dX9_drawn_31 (by assumption) (by omega) ?_
  refine jr_sipush (pc := 34) h dX9_drawn_34 sp_429 ?_
  refine jr_iald (pc := 37) h (i := ((429 : Nat) : Int)) dX9_drawn_37 hB3 (by omega) (by omega) ?_
  rw [show (((429 : Nat) : Int)).toNat = 429 from rfl, (rbX_z (x := 0) hρ hτ).2, up_eq]
  refine jr_iload_n (pc := 38) h dX9_drawn_38 rfl ?_
  refine jr_irem (pc := 39) h dX9_drawn_39 (by omega) (by omega) ?_
  refine jr_iret (pc := 40) h hRt dX9_drawn_40 rfl (Nat.le_of_ble_eq_true rfl) (Nat.le_of_ble_eq_true rfl) ?_
  exact ⟨⟨rfl, rfl⟩, hX, f1⟩
