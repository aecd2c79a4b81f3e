/-! 75: the reference: on which row -/
def onC (g fa : Nat → Int) (t s F i c : Int) : Prop := (c = -1 ∧ ∀ j, 1 ≤ j → j < i → ¬ onQ g fa t s j) ∨ ((1 ≤ c ∧ c < i) ∧ onQ g fa t s c ∧ ∀ j, 1 ≤ j → j < i → onQ g fa t s j → (F = 0 → j ≤ c) ∧ (F ≠ 0 → c ≤ j))
theorem onC_n {g fa : Nat → Int} {t s F i c : Int} (h : onC g fa t s F i c) (hn : ¬ onQ g fa t s i) : onC g fa t s F (i + 1) c := by
  rcases h with ⟨e, h⟩ | ⟨h1, h2, h3⟩
  · refine Or.inl ⟨e, fun j a b => ?_⟩
    by_cases q : j = i
    · rw [q]; exact hn
    · exact h j a (by omega)
  · refine Or.inr ⟨⟨h1.1, by omega⟩, h2, fun j a b hq => ?_⟩
    by_cases q : j = i
    · rw [q] at hq; exact absurd hq hn
    · exact h3 j a (by omega) hq
theorem onC_y {g fa : Nat → Int} {t s F i c : Int} (h : onC g fa t s F i c) (hq : onQ g fa t s i) (hi : 1 ≤ i) (hc : c = -1 ∨ F = 0 ∨ i < c) : onC g fa t s F (i + 1) i := by
  refine Or.inr ⟨⟨hi, by omega⟩, hq, fun j a b hj => ⟨fun _ => by omega, fun hF => ?_⟩⟩
  rcases h with ⟨e, h⟩ | ⟨h1, h2, h3⟩
  · by_cases q : j = i
    · omega
    · exact absurd hj (h j a (by omega))
  · omega
theorem onC_k {g fa : Nat → Int} {t s F i c : Int} (h : onC g fa t s F i c) (hc : c ≠ -1) (hF : F ≠ 0) : onC g fa t s F (i + 1) c := by
  rcases h with ⟨e, h⟩ | ⟨h1, h2, h3⟩
  · omega
  · refine Or.inr ⟨⟨h1.1, by omega⟩, h2, fun j a b hj => ⟨fun q => absurd q hF, fun _ => ?_⟩⟩
    by_cases q : j = i
    · omega
    · exact (h3 j a (by omega) hj).2 hF
set_option maxHeartbeats 1000000 in
set_option maxRecDepth 20000 in
theorem s_X9_rowOn {l : Launch} {n : Nat} {M : jdM} {m f : Nat} {g : Nat → Int} {wd : Int} {rd : Value} {B : Nat → Nat → Int} (hX : MX M n m g wd (.ref f) rd B) {ct td bk si ld gf : Nat → Int} {A : Nat → Nat → Int} (hMF : MF M n f gf A) (hFM : FM ct td bk si ld gf A) (hsep : f + 30 < m ∨ m + 12 < f) {g3 sp sk fa go : Nat → Int} (hRR : RRel ct td (g3, sp, sk, fa, go) (B 3)) (hRI : RI ct td (g3, sp, sk, fa, go)) (hR2 : RI2 ct td (g3, sp, sk, fa, go)) {t s : Int} (ht : 0 ≤ t ∧ t < ct 5) (hs : -2147483648 ≤ s ∧ s < 2147483648) : Ct l yX9_rowOn cX9_rowOn 6 (some .int) rX9_rowOn [.ref m, jI t, jI s] n M (fun vv n' M' => (vv = some (jI (c_on ct td g3 fa t s)) ∧ n = n' ∧ M = M') ∧ (-1) ≤ (c_on ct td g3 fa t s) ∧ (c_on ct td g3 fa t s) ≤ 40) := by
  refine Ct_of [some (.ref m), some (jI t), some (jI s), none, none, none] (by decide) (Nat.le_of_ble_eq_true rfl) rfl (fun κ hl h hR hRt hmn hn0 => ?_)
  have h : Ok κ RX9 cX9_rowOn 6 (some .int) := h
  obtain ⟨hnm, hOm, hBm⟩ := id hX
  have hOm : M m = jdO 9 (fX9 m _ _ (.ref f) rd) := hOm
  obtain ⟨hnf, hOf, hAf⟩ := id hMF
  obtain ⟨⟨e0, e1, e2, e3, e4⟩, ⟨k5, k6, k7, k8, k9, k10, k11, k12, k13, k14, k15⟩, ⟨a2, a3, a4, a5, a6, a7, a8, a9, a10, a11, a12⟩, ⟨hlim, hLI, hends, hrt⟩, ⟨hbk, hld⟩, hc0, hc1, hc2, hc5⟩ := id hFM
  have l2 := hlim 2 (by omega)
  have l3 := hlim 3 (by omega)
  have l4 := hlim 4 (by omega)
  have l5 := hlim 5 (by omega)
  have l6 := hlim 6 (by omega)
  have l7 := hlim 7 (by omega)
  have l8 := hlim 8 (by omega)
  have l9 := hlim 9 (by omega)
  have l10 := hlim 10 (by omega)
  have l11 := hlim 11 (by omega)
  have l12 := hlim 12 (by omega)
  rw [show (jtab 0).2.2 2 = 4 from rfl] at l2
  rw [show (jtab 0).2.2 3 = 6 from rfl] at l3
  rw [show (jtab 0).2.2 4 = 6 from rfl] at l4
  rw [show (jtab 0).2.2 5 = 2 from rfl] at l5
  rw [show (jtab 0).2.2 6 = 8 from rfl] at l6
  rw [show (jtab 0).2.2 7 = 5 from rfl] at l7
  rw [show (jtab 0).2.2 8 = 6 from rfl] at l8
  rw [show (jtab 0).2.2 9 = 3 from rfl] at l9
  rw [show (jtab 0).2.2 10 = 3 from rfl] at l10
  rw [show (jtab 0).2.2 11 = 4 from rfl] at l11
  rw [show (jtab 0).2.2 12 = 4 from rfl] at l12
  have hcr : 1 ≤ c_rows ct td ∧ c_rows ct td ≤ 40 := by
    have h9 := (hLI 0 0 (by omega) (by omega) (by omega)).1 rfl
    have e9 : c_rows ct td = c_get td 0 0 0 := by unfold c_rows; rw [if_neg (by omega)]
    omega
  have hB3 : M (m + 3) = jdA 431 (B 3) := hBm 3 (by omega) (by omega)
  obtain ⟨hrw, hsc, hwk, hsk9, h422, hgt, h429, h430⟩ := id hRR
  replace hsc : ∀ t, t < 2 → B 3 (410 + t) = sp t := hsc
  replace hwk : ∀ t : Nat, (t : Int) < ct 5 → B 3 (412 + t) = if c_get td 5 t 0 = 0 then g3 4 - 1 else c_rows ct td - g3 5 := hwk
  replace hsk9 : ∀ j, j < 8 → B 3 (414 + j) = sk j := hsk9
  replace h422 : B 3 422 = g3 6 := h422
  replace h429 : B 3 429 = g3 7 := h429
  replace hgt : ∀ i, i < 6 → B 3 (423 + i) = go i := hgt
  replace h430 : B 3 430 = c_rows ct td - (g3 5 - g3 4 + 1) := h430
  obtain ⟨h4r, hsr, hkr, hzr, h0r, hfr, htr, h2r, h451r⟩ := id hRI
  replace h4r : 1 ≤ g3 4 ∧ g3 4 ≤ g3 5 + 1 ∧ g3 5 ≤ c_rows ct td := h4r
  replace hsr : ∀ j, 0 ≤ sp j ∧ sp j ≤ 60000 + 22000 * (c_rows ct td - (g3 5 - g3 4 + 1)) := hsr
  replace hkr : ∀ j, 0 ≤ sk j ∧ sk j ≤ 9999 := hkr
  replace hzr : 0 ≤ g3 7 ∧ g3 7 ≤ 65536 := hzr
  replace h0r : ∀ ρ : Nat, g3 4 ≤ ρ → (ρ : Int) ≤ g3 5 → ∀ o, o < 11 → fa (11 * ρ + o) = 0 := h0r
  replace hfr : ∀ j, 0 ≤ fa j ∧ fa j ≤ 5000000 := hfr
  have hA8 : M (f + 8) = jdA 2 (A 8) := hAf 8 (by omega) (by omega)
  have hSV : SRV ct td g3 sp fa := SRV_of hR2 hRI hcr.2 l5.2
  have hcfr : ∀ a b : Int, 0 ≤ c_fact fa a b ∧ c_fact fa a b ≤ 5000000 := fun a b => by
    unfold c_fact
    split
    · exact hfr _
    · omega
  have hfc : ∀ i : Int, 0 ≤ i → i < ct 5 → 0 ≤ c_get td 5 i 0 ∧ c_get td 5 i 0 ≤ 1 := fun i a b => by
    have := ((hLI 5 i (by omega) a b).2.2.2.2.2.1 rfl).1
    have := c_getr hrt 5 i 0
    omega
  have g5t := (a5 t.toNat (by omega)).1
  rw [show ((t.toNat : Nat) : Int) = t by omega] at g5t
  have ft9 := hfc t ht.1 ht.2
  have est : B 3 (410 + t.toNat) = c_two sp t := by
    unfold c_two
    rw [if_pos (by omega)]
    exact hsc _ (by omega)
  have s9t := hsr t.toNat
  have ctw : 0 ≤ c_two sp t ∧ c_two sp t ≤ 5000000 := by
    unfold c_two
    rw [if_pos (by omega)]
    omega
  refine jr_iconst (pc := 0) h dX9_rowOn_0 ?_
  refine jr_istore_n (pc := 1) h [_, _, _, _, _, _] dX9_rowOn_1 (by decide) rfl ?_
  refine jr_iconst (pc := 2) h dX9_rowOn_2 ?_
  refine jr_istore (pc := 3) h [_, _, _, _, _, _] dX9_rowOn_3 (by decide) rfl ?_
  have loop : ∀ (dq : Nat) (c i : Int) (l5 : Option Value), ((1 ≤ i ∧ i ≤ c_rows ct td + 1) ∧ -1 ≤ c ∧ c < i) → (onC g3 fa t s (c_get td 5 t 0) i c) → (50 - i).toNat < dq → J κ 6 0 0 n 5 [some (.ref m), some (jI t), some (jI s), some (jI c), some (jI i), l5] [] M := by
    intro dq
    induction dq with
    | zero => intro c i l5 hi hC hd; omega
    | succ dq ih =>
      intro c i l5 hi hC hd
      refine jr_iload (pc := 5) h dX9_rowOn_5 rfl ?_
      refine jr_aload_n (pc := 7) h dX9_rowOn_7 rfl ?_
      refine gf_X9_425 (pc := 8) h dX9_rowOn_8 (by assumption) (by omega) ?_
      refine gf_X9_205 (pc := 11) h dX9_rowOn_11 (by assumption) (by omega) ?_
      refine jr_icmp_gt (pc := 14) h 109 dX9_rowOn_14 (by decide) (by omega) (by omega) (fun c_14 => ?_) (fun c_14 => ?_)
      · skip
        refine jr_iload_n (pc := 109) h dX9_rowOn_109 rfl ?_
        refine jr_iconst (pc := 110) h dX9_rowOn_110 ?_
        refine jr_icmp_eq (pc := 111) h 128 dX9_rowOn_111 (by decide) (by omega) (by omega) (fun c_111 => ?_) (fun c_111 => ?_)
        · skip
          refine jr_iconst (pc := 128) h dX9_rowOn_128 ?_
          refine jr_goto (pc := 129) h 133 dX9_rowOn_129 (by decide) ?_
          refine jr_iret (pc := 133) h hRt dX9_rowOn_133 rfl (Nat.le_of_ble_eq_true rfl) (Nat.le_of_ble_eq_true rfl) ?_
          have e9 := on_f (ct := ct) (td := td) (g := g3) (sp := sp) (fa := fa) (t := t) (s := s) (c := c) hSV hends hfc ht (by
            rcases hC with ⟨q1, q2⟩ | ⟨q1, q2, q3⟩
            · exact Or.inl ⟨q1, fun j a b => q2 j a (by omega)⟩
            · exact Or.inr ⟨⟨q1.1, by omega⟩, q2, fun j a b => q3 j a (by omega)⟩)
          first
          | (rw [e9, if_pos (by omega)]; exact ⟨⟨rfl, rfl, rfl⟩, by omega⟩)
          | (rw [e9, if_neg (by omega)]; exact ⟨⟨rfl, rfl, rfl⟩, by omega⟩)
        · skip
          refine jr_iload_n (pc := 114) h dX9_rowOn_114 rfl ?_
          refine jr_aload_n (pc := 115) h dX9_rowOn_115 rfl ?_
          refine gf_X9_21 (pc := 116) h dX9_rowOn_116 (by assumption) (by omega) ?_
          refine jr_sipush (pc := 119) h dX9_rowOn_119 sp_410 ?_
          refine jr_iload_n (pc := 122) h dX9_rowOn_122 rfl ?_
          refine jr_iadd (pc := 123) h dX9_rowOn_123 ?_
          refine jr_iald (pc := 124) h dX9_rowOn_124 hB3 (by omega) (by omega) ?_
          rw [show ((410 : Int) + t).toNat = 410 + t.toNat by omega, est]
          refine jr_icmp_lt (pc := 125) h 132 dX9_rowOn_125 (by decide) (by omega) (by omega) (fun c_125 => ?_) (fun c_125 => ?_)
          · skip
            refine jr_iload_n (pc := 132) h dX9_rowOn_132 rfl ?_
            refine jr_iret (pc := 133) h hRt dX9_rowOn_133 rfl (Nat.le_of_ble_eq_true rfl) (Nat.le_of_ble_eq_true rfl) ?_
            have e9 := on_f (ct := ct) (td := td) (g := g3) (sp := sp) (fa := fa) (t := t) (s := s) (c := c) hSV hends hfc ht (by
              rcases hC with ⟨q1, q2⟩ | ⟨q1, q2, q3⟩
              · exact Or.inl ⟨q1, fun j a b => q2 j a (by omega)⟩
              · exact Or.inr ⟨⟨q1.1, by omega⟩, q2, fun j a b => q3 j a (by omega)⟩)
            first
            | (rw [e9, if_pos (by omega)]; exact ⟨⟨rfl, rfl, rfl⟩, by omega⟩)
            | (rw [e9, if_neg (by omega)]; exact ⟨⟨rfl, rfl, rfl⟩, by omega⟩)
          · skip
            refine jr_iconst (pc := 128) h dX9_rowOn_128 ?_
            refine jr_goto (pc := 129) h 133 dX9_rowOn_129 (by decide) ?_
            refine jr_iret (pc := 133) h hRt dX9_rowOn_133 rfl (Nat.le_of_ble_eq_true rfl) (Nat.le_of_ble_eq_true rfl) ?_
            have e9 := on_f (ct := ct) (td := td) (g := g3) (sp := sp) (fa := fa) (t := t) (s := s) (c := c) hSV hends hfc ht (by
              rcases hC with ⟨q1, q2⟩ | ⟨q1, q2, q3⟩
              · exact Or.inl ⟨q1, fun j a b => q2 j a (by omega)⟩
              · exact Or.inr ⟨⟨q1.1, by omega⟩, q2, fun j a b => q3 j a (by omega)⟩)
            first
            | (rw [e9, if_pos (by omega)]; exact ⟨⟨rfl, rfl, rfl⟩, by omega⟩)
            | (rw [e9, if_neg (by omega)]; exact ⟨⟨rfl, rfl, rfl⟩, by omega⟩)
      · skip
        refine jr_aload_n (pc := 17) h dX9_rowOn_17 rfl ?_
        refine gf_X9_21 (pc := 18) h dX9_rowOn_18 (by assumption) (by omega) ?_
        refine jr_bipush (pc := 21) h dX9_rowOn_21 bp_10 ?_
        refine jr_iload (pc := 23) h dX9_rowOn_23 rfl ?_
        refine jr_imul (pc := 25) h dX9_rowOn_25 ?_
        refine jr_iconst (pc := 26) h dX9_rowOn_26 ?_
        refine jr_iadd (pc := 27) h dX9_rowOn_27 ?_
        refine jr_iald (pc := 28) h dX9_rowOn_28 hB3 (by omega) (by omega) ?_
        obtain ⟨bv, hbv, hb9, hbr⟩ : ∃ bv : Int, B 3 (10 * i + 0).toNat = bv ∧ (((i < g3 4 ∨ g3 5 < i) ∧ bv = c_fact fa i 0) ∨ (¬ (i < g3 4 ∨ g3 5 < i) ∧ bv = -1)) ∧ -1 ≤ bv ∧ bv ≤ 5000000 := by
          by_cases q : i < g3 4 ∨ g3 5 < i
          · refine ⟨_, rfl, Or.inl ⟨q, RR_f hRR (by omega) (by omega) (by omega) (Or.inl q)⟩, ?_⟩
            rw [RR_f hRR (by omega) (by omega) (by omega) (Or.inl q)]
            have := hcfr i 0
            show -1 ≤ c_fact fa i 0 ∧ c_fact fa i 0 ≤ 5000000
            omega
          · have e := (hrw i.toNat (by omega) (by omega)).2.1 ⟨by show g3 4 ≤ ((i.toNat : Nat) : Int); omega, by show ((i.toNat : Nat) : Int) ≤ g3 5; omega⟩
            refine ⟨-1, by rw [show (10 * i + 0).toNat = 10 * i.toNat by omega]; exact e, Or.inr ⟨q, rfl⟩, by omega⟩
        rw [hbv]
        have hc1 := hcfr i 1
        refine jr_iload_n (pc := 29) h dX9_rowOn_29 rfl ?_
        refine jr_icmp_ne (pc := 30) h 103 dX9_rowOn_30 (by decide) (by omega) (by omega) (fun c_30 => ?_) (fun c_30 => ?_)
        · skip
          refine jr_iinc (pc := 103) h [_, _, _, _, _, _] dX9_rowOn_103 (by decide) rfl rfl ?_
          refine jr_goto (pc := 106) h 5 dX9_rowOn_106 (by decide) ?_
          first
          | (refine ih _ _ _ (by omega) (onC_n hC (fun ⟨q1, q2, q3⟩ => by omega)) (by omega))
          | (refine ih _ _ _ (by omega) (onC_y hC ⟨by omega, by omega, by omega⟩ (by omega) (by omega)) (by omega))
          | (refine ih _ _ _ (by omega) (onC_k hC (by omega) (by omega)) (by omega))
          | (exfalso; omega)
        · skip
          refine jr_aload_n (pc := 33) h dX9_rowOn_33 rfl ?_
          refine gf_X9_21 (pc := 34) h dX9_rowOn_34 (by assumption) (by omega) ?_
          refine jr_bipush (pc := 37) h dX9_rowOn_37 bp_10 ?_
          refine jr_iload (pc := 39) h dX9_rowOn_39 rfl ?_
          refine jr_imul (pc := 41) h dX9_rowOn_41 ?_
          refine jr_iconst (pc := 42) h dX9_rowOn_42 ?_
          refine jr_iadd (pc := 43) h dX9_rowOn_43 ?_
          refine jr_iald (pc := 44) h dX9_rowOn_44 hB3 (by omega) (by omega) ?_
          have e1 : B 3 (10 * i + 1).toNat = c_fact fa i 1 := RR_f hRR (by omega) (by omega) (by omega) (Or.inl (by show i < g3 4 ∨ g3 5 < i; omega))
          rw [e1]
          refine jr_iload_n (pc := 45) h dX9_rowOn_45 rfl ?_
          refine jr_icmp_le (pc := 46) h 52 dX9_rowOn_46 (by decide) (by omega) (by omega) (fun c_46 => ?_) (fun c_46 => ?_)
          · skip
            refine jr_iload_n (pc := 52) h dX9_rowOn_52 rfl ?_
            refine jr_iconst (pc := 53) h dX9_rowOn_53 ?_
            refine jr_icmp_eq (pc := 54) h 84 dX9_rowOn_54 (by decide) (by omega) (by omega) (fun c_54 => ?_) (fun c_54 => ?_)
            · skip
              refine jr_iconst (pc := 84) h dX9_rowOn_84 ?_
              refine jr_goto (pc := 85) h 89 dX9_rowOn_85 (by decide) ?_
              refine jr_istore (pc := 89) h [_, _, _, _, _, _] dX9_rowOn_89 (by decide) rfl ?_
              refine jr_iload (pc := 91) h dX9_rowOn_91 rfl ?_
              refine jr_if_eq (pc := 93) h 101 dX9_rowOn_93 (by decide) (by omega) (fun c_93 => ?_) (fun c_93 => ?_)
              · skip
                refine jr_iload_n (pc := 101) h dX9_rowOn_101 rfl ?_
                refine jr_istore_n (pc := 102) h [_, _, _, _, _, _] dX9_rowOn_102 (by decide) rfl ?_
                refine jr_iinc (pc := 103) h [_, _, _, _, _, _] dX9_rowOn_103 (by decide) rfl rfl ?_
                refine jr_goto (pc := 106) h 5 dX9_rowOn_106 (by decide) ?_
                first
                | (refine ih _ _ _ (by omega) (onC_n hC (fun ⟨q1, q2, q3⟩ => by omega)) (by omega))
                | (refine ih _ _ _ (by omega) (onC_y hC ⟨by omega, by omega, by omega⟩ (by omega) (by omega)) (by omega))
                | (refine ih _ _ _ (by omega) (onC_k hC (by omega) (by omega)) (by omega))
                | (exfalso; omega)
              · skip
                refine jr_iload (pc := 96) h dX9_rowOn_96 rfl ?_
                refine jr_goto (pc := 98) h 102 dX9_rowOn_98 (by decide) ?_
                refine jr_istore_n (pc := 102) h [_, _, _, _, _, _] dX9_rowOn_102 (by decide) rfl ?_
                refine jr_iinc (pc := 103) h [_, _, _, _, _, _] dX9_rowOn_103 (by decide) rfl rfl ?_
                refine jr_goto (pc := 106) h 5 dX9_rowOn_106 (by decide) ?_
                first
                | (refine ih _ _ _ (by omega) (onC_n hC (fun ⟨q1, q2, q3⟩ => by omega)) (by omega))
                | (refine ih _ _ _ (by omega) (onC_y hC ⟨by omega, by omega, by omega⟩ (by omega) (by omega)) (by omega))
                | (refine ih _ _ _ (by omega) (onC_k hC (by omega) (by omega)) (by omega))
                | (exfalso; omega)
            · skip
              refine jr_aload_n (pc := 57) h dX9_rowOn_57 rfl ?_
              refine gf_X9_425 (pc := 58) h dX9_rowOn_58 (by assumption) (by omega) ?_
              refine gf_X9_326 (pc := 61) h dX9_rowOn_61 (by assumption) (by omega) ?_
              refine jr_iload_n (pc := 64) h dX9_rowOn_64 rfl ?_
              refine jr_iald (pc := 65) h dX9_rowOn_65 (by assumption) (by omega) (by omega) ?_
              rw [g5t]
              refine jr_if_ne (pc := 66) h 78 dX9_rowOn_66 (by decide) (by omega) (fun c_66 => ?_) (fun c_66 => ?_)
              · skip
                refine jr_iload (pc := 78) h dX9_rowOn_78 rfl ?_
                refine jr_iload_n (pc := 80) h dX9_rowOn_80 rfl ?_
                refine jr_icmp_ge (pc := 81) h 88 dX9_rowOn_81 (by decide) (by omega) (by omega) (fun c_81 => ?_) (fun c_81 => ?_)
                · skip
                  refine jr_iconst (pc := 88) h dX9_rowOn_88 ?_
                  refine jr_istore (pc := 89) h [_, _, _, _, _, _] dX9_rowOn_89 (by decide) rfl ?_
                  refine jr_iload (pc := 91) h dX9_rowOn_91 rfl ?_
                  refine jr_if_eq (pc := 93) h 101 dX9_rowOn_93 (by decide) (by omega) (fun c_93 => ?_) (fun c_93 => ?_)
                  · skip
                    refine jr_iload_n (pc := 101) h dX9_rowOn_101 rfl ?_
                    refine jr_istore_n (pc := 102) h [_, _, _, _, _, _] dX9_rowOn_102 (by decide) rfl ?_
                    refine jr_iinc (pc := 103) h [_, _, _, _, _, _] dX9_rowOn_103 (by decide) rfl rfl ?_
                    refine jr_goto (pc := 106) h 5 dX9_rowOn_106 (by decide) ?_
                    first
                    | (refine ih _ _ _ (by omega) (onC_n hC (fun ⟨q1, q2, q3⟩ => by omega)) (by omega))
                    | (refine ih _ _ _ (by omega) (onC_y hC ⟨by omega, by omega, by omega⟩ (by omega) (by omega)) (by omega))
                    | (refine ih _ _ _ (by omega) (onC_k hC (by omega) (by omega)) (by omega))
                    | (exfalso; omega)
                  · skip
                    refine jr_iload (pc := 96) h dX9_rowOn_96 rfl ?_
                    refine jr_goto (pc := 98) h 102 dX9_rowOn_98 (by decide) ?_
                    refine jr_istore_n (pc := 102) h [_, _, _, _, _, _] dX9_rowOn_102 (by decide) rfl ?_
                    refine jr_iinc (pc := 103) h [_, _, _, _, _, _] dX9_rowOn_103 (by decide) rfl rfl ?_
                    refine jr_goto (pc := 106) h 5 dX9_rowOn_106 (by decide) ?_
                    first
                    | (refine ih _ _ _ (by omega) (onC_n hC (fun ⟨q1, q2, q3⟩ => by omega)) (by omega))
                    | (refine ih _ _ _ (by omega) (onC_y hC ⟨by omega, by omega, by omega⟩ (by omega) (by omega)) (by omega))
                    | (refine ih _ _ _ (by omega) (onC_k hC (by omega) (by omega)) (by omega))
                    | (exfalso; omega)
                · skip
                  refine jr_iconst (pc := 84) h dX9_rowOn_84 ?_
                  refine jr_goto (pc := 85) h 89 dX9_rowOn_85 (by decide) ?_
                  refine jr_istore (pc := 89) h [_, _, _, _, _, _] dX9_rowOn_89 (by decide) rfl ?_
                  refine jr_iload (pc := 91) h dX9_rowOn_91 rfl ?_
                  refine jr_if_eq (pc := 93) h 101 dX9_rowOn_93 (by decide) (by omega) (fun c_93 => ?_) (fun c_93 => ?_)
                  · skip
                    refine jr_iload_n (pc := 101) h dX9_rowOn_101 rfl ?_
                    refine jr_istore_n (pc := 102) h [_, _, _, _, _, _] dX9_rowOn_102 (by decide) rfl ?_
                    refine jr_iinc (pc := 103) h [_, _, _, _, _, _] dX9_rowOn_103 (by decide) rfl rfl ?_
                    refine jr_goto (pc := 106) h 5 dX9_rowOn_106 (by decide) ?_
                    first
                    | (refine ih _ _ _ (by omega) (onC_n hC (fun ⟨q1, q2, q3⟩ => by omega)) (by omega))
                    | (refine ih _ _ _ (by omega) (onC_y hC ⟨by omega, by omega, by omega⟩ (by omega) (by omega)) (by omega))
                    | (refine ih _ _ _ (by omega) (onC_k hC (by omega) (by omega)) (by omega))
                    | (exfalso; omega)
                  · skip
                    refine jr_iload (pc := 96) h dX9_rowOn_96 rfl ?_
                    refine jr_goto (pc := 98) h 102 dX9_rowOn_98 (by decide) ?_
                    refine jr_istore_n (pc := 102) h [_, _, _, _, _, _] dX9_rowOn_102 (by decide) rfl ?_
                    refine jr_iinc (pc := 103) h [_, _, _, _, _, _] dX9_rowOn_103 (by decide) rfl rfl ?_
                    refine jr_goto (pc := 106) h 5 dX9_rowOn_106 (by decide) ?_
                    first
                    | (refine ih _ _ _ (by omega) (onC_n hC (fun ⟨q1, q2, q3⟩ => by omega)) (by omega))
                    | (refine ih _ _ _ (by omega) (onC_y hC ⟨by omega, by omega, by omega⟩ (by omega) (by omega)) (by omega))
                    | (refine ih _ _ _ (by omega) (onC_k hC (by omega) (by omega)) (by omega))
                    | (exfalso; omega)
              · skip
                refine jr_iload (pc := 69) h dX9_rowOn_69 rfl ?_
                refine jr_iload_n (pc := 71) h dX9_rowOn_71 rfl ?_
                refine jr_icmp_le (pc := 72) h 88 dX9_rowOn_72 (by decide) (by omega) (by omega) (fun c_72 => ?_) (fun c_72 => ?_)
                · skip
                  refine jr_iconst (pc := 88) h dX9_rowOn_88 ?_
                  refine jr_istore (pc := 89) h [_, _, _, _, _, _] dX9_rowOn_89 (by decide) rfl ?_
                  refine jr_iload (pc := 91) h dX9_rowOn_91 rfl ?_
                  refine jr_if_eq (pc := 93) h 101 dX9_rowOn_93 (by decide) (by omega) (fun c_93 => ?_) (fun c_93 => ?_)
                  · skip
                    refine jr_iload_n (pc := 101) h dX9_rowOn_101 rfl ?_
                    refine jr_istore_n (pc := 102) h [_, _, _, _, _, _] dX9_rowOn_102 (by decide) rfl ?_
                    refine jr_iinc (pc := 103) h [_, _, _, _, _, _] dX9_rowOn_103 (by decide) rfl rfl ?_
                    refine jr_goto (pc := 106) h 5 dX9_rowOn_106 (by decide) ?_
                    first
                    | (refine ih _ _ _ (by omega) (onC_n hC (fun ⟨q1, q2, q3⟩ => by omega)) (by omega))
                    | (refine ih _ _ _ (by omega) (onC_y hC ⟨by omega, by omega, by omega⟩ (by omega) (by omega)) (by omega))
                    | (refine ih _ _ _ (by omega) (onC_k hC (by omega) (by omega)) (by omega))
                    | (exfalso; omega)
                  · skip
                    refine jr_iload (pc := 96) h dX9_rowOn_96 rfl ?_
                    refine jr_goto (pc := 98) h 102 dX9_rowOn_98 (by decide) ?_
                    refine jr_istore_n (pc := 102) h [_, _, _, _, _, _] dX9_rowOn_102 (by decide) rfl ?_
                    refine jr_iinc (pc := 103) h [_, _, _, _, _, _] dX9_rowOn_103 (by decide) rfl rfl ?_
                    refine jr_goto (pc := 106) h 5 dX9_rowOn_106 (by decide) ?_
                    first
                    | (refine ih _ _ _ (by omega) (onC_n hC (fun ⟨q1, q2, q3⟩ => by omega)) (by omega))
                    | (refine ih _ _ _ (by omega) (onC_y hC ⟨by omega, by omega, by omega⟩ (by omega) (by omega)) (by omega))
                    | (refine ih _ _ _ (by omega) (onC_k hC (by omega) (by omega)) (by omega))
                    | (exfalso; omega)
                · skip
                  refine jr_goto (pc := 75) h 84 dX9_rowOn_75 (by decide) ?_
                  refine jr_iconst (pc := 84) h dX9_rowOn_84 ?_
                  refine jr_goto (pc := 85) h 89 dX9_rowOn_85 (by decide) ?_
                  refine jr_istore (pc := 89) h [_, _, _, _, _, _] dX9_rowOn_89 (by decide) rfl ?_
                  refine jr_iload (pc := 91) h dX9_rowOn_91 rfl ?_
                  refine jr_if_eq (pc := 93) h 101 dX9_rowOn_93 (by decide) (by omega) (fun c_93 => ?_) (fun c_93 => ?_)
                  · skip
                    refine jr_iload_n (pc := 101) h dX9_rowOn_101 rfl ?_
                    refine jr_istore_n (pc := 102) h [_, _, _, _, _, _] dX9_rowOn_102 (by decide) rfl ?_
                    refine jr_iinc (pc := 103) h [_, _, _, _, _, _] dX9_rowOn_103 (by decide) rfl rfl ?_
                    refine jr_goto (pc := 106) h 5 dX9_rowOn_106 (by decide) ?_
                    first
                    | (refine ih _ _ _ (by omega) (onC_n hC (fun ⟨q1, q2, q3⟩ => by omega)) (by omega))
                    | (refine ih _ _ _ (by omega) (onC_y hC ⟨by omega, by omega, by omega⟩ (by omega) (by omega)) (by omega))
                    | (refine ih _ _ _ (by omega) (onC_k hC (by omega) (by omega)) (by omega))
                    | (exfalso; omega)
                  · skip
                    refine jr_iload (pc := 96) h dX9_rowOn_96 rfl ?_
                    refine jr_goto (pc := 98) h 102 dX9_rowOn_98 (by decide) ?_
                    refine jr_istore_n (pc := 102) h [_, _, _, _, _, _] dX9_rowOn_102 (by decide) rfl ?_
                    refine jr_iinc (pc := 103) h [_, _, _, _, _, _] dX9_rowOn_103 (by decide) rfl rfl ?_
                    refine jr_goto (pc := 106) h 5 dX9_rowOn_106 (by decide) ?_
                    first
                    | (refine ih _ _ _ (by omega) (onC_n hC (fun ⟨q1, q2, q3⟩ => by omega)) (by omega))
                    | (refine ih _ _ _ (by omega) (onC_y hC ⟨by omega, by omega, by omega⟩ (by omega) (by omega)) (by omega))
                    | (refine ih _ _ _ (by omega) (onC_k hC (by omega) (by omega)) (by omega))
                    | (exfalso; omega)
          · skip
            refine jr_goto (pc := 49) h 103 dX9_rowOn_49 (by decide) ?_
            refine jr_iinc (pc := 103) h [_, _, _, _, _, _] dX9_rowOn_103 (by decide) rfl rfl ?_
            refine jr_goto (pc := 106) h 5 dX9_rowOn_106 (by decide) ?_
            first
            | (refine ih _ _ _ (by omega) (onC_n hC (fun ⟨q1, q2, q3⟩ => by omega)) (by omega))
            | (refine ih _ _ _ (by omega) (onC_y hC ⟨by omega, by omega, by omega⟩ (by omega) (by omega)) (by omega))
            | (refine ih _ _ _ (by omega) (onC_k hC (by omega) (by omega)) (by omega))
            | (exfalso; omega)
  exact loop _ _ _ _ (by omega) (Or.inl ⟨rfl, fun j a b => by omega⟩) (Nat.lt_succ_self _)
set_option maxHeartbeats 1000000 in
set_option maxRecDepth 20000 in
theorem s_X9_on {l : Launch} {n : Nat} {M : jdM} {m : Nat} {g : Nat → Int} {w : Int} {fl rd : Value} {B : Nat → Nat → Int} (hX : MX M n m g w fl rd B) {ct td bk si ld : Nat → Int} (hFX : FX M n m fl ct td bk si ld) {x y : Int} (hx : -2147483648 ≤ x ∧ x < 2147483648) (hy : -2147483648 ≤ y ∧ y < 2147483648)  {g3 sp sk fa go : Nat → Int} (hRR : RRel ct td (g3, sp, sk, fa, go) (B 3)) (hRI : RI ct td (g3, sp, sk, fa, go)) (hR2 : RI2 ct td (g3, sp, sk, fa, go)) : Ct l yX9_on cX9_on 4 (some .int) rX9_on [.ref m, jI x, jI y] n M (fun vv n' M' => (vv = some (jI (x_on ct td g3 fa x y).1) ∧ n = n') ∧ MX M' n m (rg g (x_on ct td g3 fa x y).2) w fl rd B ∧ fr (MXf m) M M') := by
  refine Ct_of [some (.ref m), some (jI x), some (jI y), none] (by decide) (Nat.le_of_ble_eq_true rfl) rfl (fun κ hl h hR hRt hmn hn0 => ?_)
  have h : Ok κ RX9 cX9_on 4 (some .int) := h
  obtain ⟨hnm, hOm, hBm⟩ := id hX
  have hOm : M m = jdO 9 (fX9 m _ _ fl rd) := hOm
  refine jr_aload_n (pc := 0) h dX9_on_0 rfl ?_
  refine jr_iconst (pc := 1) h dX9_on_1 ?_
  refine pf_X9_52 (pc := 2) h dX9_on_2 hOm (by omega) ?_
  refine jm_gen (fun M2 hM2 => ?_)
  rw [fX9_0] at hM2
  have hX := MX_o hX hM2
  have f9 : fr (MXf m) _ M2 := fr_up hM2 ⟨by omega, by omega⟩
  obtain ⟨hnm, hOm, hBm⟩ := id hX
  have f1 := f9
  have hFX := FX_fr hFX f9
  refine jr_aload_n (pc := 5) h dX9_on_5 rfl ?_
  refine jr_iload_n (pc := 6) h dX9_on_6 rfl ?_
  refine iv_X9_452 (pc := 7) h hl hR dX9_on_7 ⟨(Nat.le_of_ble_eq_true rfl), (Nat.le_of_ble_eq_true rfl), (Nat.le_of_ble_eq_true rfl), (Nat.le_of_ble_eq_true rfl)⟩ (Nat.le_of_ble_eq_true rfl) (by assumption) (by omega) (s_X9_isTrolley hX hFX (by omega)) (fun v_7 n_7 M_7 hn_7 hp => ?_)
  obtain ⟨⟨rfl, rfl, rfl⟩, gr_7⟩ := hp
  refine jr_if_ne (pc := 10) h 19 dX9_on_10 (by decide) (by omega) (fun c_10 => ?_) (fun c_10 => ?_)
  · first | have d_10 := bz_0.mp c_10 | have d_10 := bz_1.mp c_10 | skip
    refine jr_iload_n (pc := 19) h dX9_on_19 rfl ?_
    refine jr_iconst (pc := 20) h dX9_on_20 ?_
    refine jr_ldcw (pc := 21) h dX9_on_21 wm_1342 ?_
    rw [show (99999 : Int32) = Int32.ofInt 99999 from by decide]
    refine iv_X9_130 (pc := 24) h hl hR dX9_on_24 ⟨(Nat.le_of_ble_eq_true rfl), (Nat.le_of_ble_eq_true rfl), (Nat.le_of_ble_eq_true rfl), (Nat.le_of_ble_eq_true rfl)⟩ (Nat.le_of_ble_eq_true rfl) (s_X9_in (by omega) (by omega) (by omega)) (fun v_24 n_24 M_24 hn_24 hp => ?_)
    obtain ⟨⟨rfl, rfl, rfl⟩, gr_24⟩ := hp
    refine jr_if_ne (pc := 27) h 36 dX9_on_27 (by decide) (by omega) (fun c_27 => ?_) (fun c_27 => ?_)
    · first | have d_27 := bz_0.mp c_27 | have d_27 := bz_1.mp c_27 | skip
      have hr00 := fun (hz : ∀ j, ct j = 0) => rows0 (td := td) hz
      rcases hFX with ⟨rfl, hz⟩ | ⟨f, gf, A, rfl, hsep, hMF, hFM⟩
      · exfalso
        have z2 := hz 2
        have z5 := hz 5
        have zr := hr00 hz
        omega
      obtain ⟨hnf, hOf, hAf⟩ := id hMF
      obtain ⟨⟨e0, e1, e2, e3, e4⟩, ⟨k5, k6, k7, k8, k9, k10, k11, k12, k13, k14, k15⟩, ⟨a2, a3, a4, a5, a6, a7, a8, a9, a10, a11, a12⟩, ⟨hlim, hLI, hends, hrt⟩, ⟨hbk, hld⟩, hc0, hc1, hc2, hc5⟩ := id hFM
      have l2 := hlim 2 (by omega)
      have l3 := hlim 3 (by omega)
      have l4 := hlim 4 (by omega)
      have l5 := hlim 5 (by omega)
      have l6 := hlim 6 (by omega)
      have l7 := hlim 7 (by omega)
      have l8 := hlim 8 (by omega)
      have l9 := hlim 9 (by omega)
      have l10 := hlim 10 (by omega)
      have l11 := hlim 11 (by omega)
      have l12 := hlim 12 (by omega)
      rw [show (jtab 0).2.2 2 = 4 from rfl] at l2
      rw [show (jtab 0).2.2 3 = 6 from rfl] at l3
      rw [show (jtab 0).2.2 4 = 6 from rfl] at l4
      rw [show (jtab 0).2.2 5 = 2 from rfl] at l5
      rw [show (jtab 0).2.2 6 = 8 from rfl] at l6
      rw [show (jtab 0).2.2 7 = 5 from rfl] at l7
      rw [show (jtab 0).2.2 8 = 6 from rfl] at l8
      rw [show (jtab 0).2.2 9 = 3 from rfl] at l9
      rw [show (jtab 0).2.2 10 = 3 from rfl] at l10
      rw [show (jtab 0).2.2 11 = 4 from rfl] at l11
      rw [show (jtab 0).2.2 12 = 4 from rfl] at l12
      have hcr : 1 ≤ c_rows ct td ∧ c_rows ct td ≤ 40 := by
        have h9 := (hLI 0 0 (by omega) (by omega) (by omega)).1 rfl
        have e9 : c_rows ct td = c_get td 0 0 0 := by unfold c_rows; rw [if_neg (by omega)]
        omega
      refine jr_aload_n (pc := 36) h dX9_on_36 rfl ?_
      refine jr_iload_n (pc := 37) h dX9_on_37 rfl ?_
      refine jr_iload_n (pc := 38) h dX9_on_38 rfl ?_
      refine iv_X9_562 (pc := 39) h hl hR dX9_on_39 ⟨(Nat.le_of_ble_eq_true rfl), (Nat.le_of_ble_eq_true rfl), (Nat.le_of_ble_eq_true rfl), (Nat.le_of_ble_eq_true rfl)⟩ (Nat.le_of_ble_eq_true rfl) (by assumption) (by omega) (s_X9_rowOn hX hMF hFM hsep hRR hRI hR2 (by omega) (by omega)) (fun v_39 n_39 M_39 hn_39 hp => ?_)
      obtain ⟨⟨rfl, rfl, rfl⟩, gr_39⟩ := hp
      refine jr_istore_n (pc := 42) h [_, _, _, _] dX9_on_42 (by decide) rfl ?_
      refine jr_aload_n (pc := 43) h dX9_on_43 rfl ?_
      refine jr_iload_n (pc := 44) h dX9_on_44 rfl ?_
      refine jr_iconst (pc := 45) h dX9_on_45 ?_
      refine jr_icmp_ne (pc := 46) h 54 dX9_on_46 (by decide) (by omega) (by omega) (fun c_46 => ?_) (fun c_46 => ?_)
      · first | have d_46 := bz_0.mp c_46 | have d_46 := bz_1.mp c_46 | skip
        refine jr_iload_n (pc := 54) h dX9_on_54 rfl ?_
        refine iv_X9_62 (pc := 55) h hl hR dX9_on_55 ⟨(Nat.le_of_ble_eq_true rfl), (Nat.le_of_ble_eq_true rfl), (Nat.le_of_ble_eq_true rfl), (Nat.le_of_ble_eq_true rfl)⟩ (Nat.le_of_ble_eq_true rfl) (by assumption) (by omega) (s_X9_done hX) (fun v_55 n_55 M_55 hn_55 hp => ?_)
        obtain ⟨⟨rfl, rfl⟩, hX, f9⟩ := hp
        have f1 := fr_tr f1 f9
        obtain ⟨hnm, hOm, hBm⟩ := id hX
        refine jr_iret (pc := 58) h hRt dX9_on_58 rfl (Nat.le_of_ble_eq_true rfl) (Nat.le_of_ble_eq_true rfl) ?_
        refine lfA9 ?_ hX f1
        unfold x_on
        (repeat' split) <;> first | rfl | (exfalso; omega) | contradiction
      · first | have d_46 := bz_0.mp c_46 | have d_46 := bz_1.mp c_46 | skip
        refine jr_bipush (pc := 49) h dX9_on_49 bp_m2 ?_
        refine jr_goto (pc := 51) h 55 dX9_on_51 (by decide) ?_
        refine iv_X9_62 (pc := 55) h hl hR dX9_on_55 ⟨(Nat.le_of_ble_eq_true rfl), (Nat.le_of_ble_eq_true rfl), (Nat.le_of_ble_eq_true rfl), (Nat.le_of_ble_eq_true rfl)⟩ (Nat.le_of_ble_eq_true rfl) (by assumption) (by omega) (s_X9_done hX) (fun v_55 n_55 M_55 hn_55 hp => ?_)
        obtain ⟨⟨rfl, rfl⟩, hX, f9⟩ := hp
        have f1 := fr_tr f1 f9
        obtain ⟨hnm, hOm, hBm⟩ := id hX
        refine jr_iret (pc := 58) h hRt dX9_on_58 rfl (Nat.le_of_ble_eq_true rfl) (Nat.le_of_ble_eq_true rfl) ?_
        refine lfA9 ?_ hX f1
        unfold x_on
        (repeat' split) <;> first | rfl | (exfalso; omega) | contradiction
    · first | have d_27 := bz_0.mp c_27 | have d_27 := bz_1.mp c_27 | skip
      refine jr_aload_n (pc := 30) h dX9_on_30 rfl ?_
      refine jr_iconst (pc := 31) h dX9_on_31 ?_
      refine iv_X9_58 (pc := 32) h hl hR dX9_on_32 ⟨(Nat.le_of_ble_eq_true rfl), (Nat.le_of_ble_eq_true rfl), (Nat.le_of_ble_eq_true rfl), (Nat.le_of_ble_eq_true rfl)⟩ (Nat.le_of_ble_eq_true rfl) (by assumption) (by omega) (s_X9_refused hX) (fun v_32 n_32 M_32 hn_32 hp => ?_)
      obtain ⟨⟨rfl, rfl⟩, hX, f9⟩ := hp
      have f1 := fr_tr f1 f9
      obtain ⟨hnm, hOm, hBm⟩ := id hX
      refine jr_iret (pc := 35) h hRt dX9_on_35 rfl (Nat.le_of_ble_eq_true rfl) (Nat.le_of_ble_eq_true rfl) ?_
      refine lfA9 ?_ hX f1
      unfold x_on
      (repeat' split) <;> first | rfl | (exfalso; omega) | contradiction
  · first | have d_10 := bz_0.mp c_10 | have d_10 := bz_1.mp c_10 | skip
    refine jr_aload_n (pc := 13) h dX9_on_13 rfl ?_
    refine jr_iconst (pc := 14) h dX9_on_14 ?_
    refine iv_X9_58 (pc := 15) h hl hR dX9_on_15 ⟨(Nat.le_of_ble_eq_true rfl), (Nat.le_of_ble_eq_true rfl), (Nat.le_of_ble_eq_true rfl), (Nat.le_of_ble_eq_true rfl)⟩ (Nat.le_of_ble_eq_true rfl) (by assumption) (by omega) (s_X9_refused hX) (fun v_15 n_15 M_15 hn_15 hp => ?_)
    obtain ⟨⟨rfl, rfl⟩, hX, f9⟩ := hp
    have f1 := fr_tr f1 f9
    obtain ⟨hnm, hOm, hBm⟩ := id hX
    refine jr_iret (pc := 18) h hRt dX9_on_18 rfl (Nat.le_of_ble_eq_true rfl) (Nat.le_of_ble_eq_true rfl) ?_
    refine lfA9 ?_ hX f1
    unfold x_on
    (repeat' split) <;> first | rfl | (exfalso; omega) | contradiction
