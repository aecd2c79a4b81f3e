/-! 58: the reference: trays that go back -/
set_option maxHeartbeats 1000000 in
set_option maxRecDepth 20000 in
theorem s_X9_cleared {l : Launch} {n : Nat} {M : jdM} {m f : Nat} {g : Nat → Int} {w : Int} {rd : Value} {B : Nat → Nat → Int} (hX : MX M n m g w (.ref f) rd B) {ct td bk si ld gf : Nat → Int} {A : Nat → Nat → Int} (hMF : MF M n f gf A) (hFM : FM ct td bk si ld gf A) (hsep : f + 30 < m ∨ m + 12 < f) {fa : Nat → Int} (hdl : ∀ j, 0 ≤ B 2 j ∧ B 2 j ≤ 1000) (hTr : ∀ r k : Int, 1 ≤ r → r ≤ c_rows ct td → 0 ≤ k → k < ct 2 → B 3 (10 * r + 6 + k).toNat = c_fact fa r (7 + k) ∧ 0 ≤ c_fact fa r (7 + k) ∧ c_fact fa r (7 + k) ≤ 1000) {x : Int} (hx : 0 ≤ x ∧ x < ct 5) : Ct l yX9_cleared cX9_cleared 6 (some .int) rX9_cleared [.ref m, jI x] n M (fun vv n' M' => (vv = some (jI (c_tb ct td fa x).2.1) ∧ n = n') ∧ ∃ D1, (∀ j, 0 ≤ D1 j ∧ D1 j ≤ 1000) ∧ agr (c_cnt td x) D1 (c_tb ct td fa x).2.2 ∧ MX M' n m g w (.ref f) rd (up B 2 D1) ∧ fr (MXf m) M M') := by
  refine Ct_of [some (.ref m), some (jI x), none, none, none, none] (by decide) (Nat.le_of_ble_eq_true rfl) rfl (fun κ hl h hR hRt hmn hn0 => ?_)
  have h : Ok κ RX9 cX9_cleared 6 (some .int) := h
  obtain ⟨hnm, hOm, hBm⟩ := id hX
  have hOm : M m = jdO 9 (fX9 m _ _ (.ref f) rd) := hOm
  obtain ⟨hnf, hOf, hAf⟩ := id hMF
  obtain ⟨⟨e0, e1, e2, e3, e4⟩, ⟨k5, k6, k7, k8, k9, k10, k11, k12, k13, k14, k15⟩, ⟨a2, a3, a4, a5, a6, a7, a8, a9, a10, a11, a12⟩, ⟨hlim, hLI, hends, hrt⟩, ⟨hbk, hld⟩, hc0, hc1, hc2, hc5⟩ := id hFM
  have l2 := hlim 2 (by omega)
  have l3 := hlim 3 (by omega)
  have l4 := hlim 4 (by omega)
  have l5 := hlim 5 (by omega)
  have l6 := hlim 6 (by omega)
  have l7 := hlim 7 (by omega)
  have l8 := hlim 8 (by omega)
  have l9 := hlim 9 (by omega)
  have l10 := hlim 10 (by omega)
  have l11 := hlim 11 (by omega)
  have l12 := hlim 12 (by omega)
  rw [show (jtab 0).2.2 2 = 4 from rfl] at l2
  rw [show (jtab 0).2.2 3 = 6 from rfl] at l3
  rw [show (jtab 0).2.2 4 = 6 from rfl] at l4
  rw [show (jtab 0).2.2 5 = 2 from rfl] at l5
  rw [show (jtab 0).2.2 6 = 8 from rfl] at l6
  rw [show (jtab 0).2.2 7 = 5 from rfl] at l7
  rw [show (jtab 0).2.2 8 = 6 from rfl] at l8
  rw [show (jtab 0).2.2 9 = 3 from rfl] at l9
  rw [show (jtab 0).2.2 10 = 3 from rfl] at l10
  rw [show (jtab 0).2.2 11 = 4 from rfl] at l11
  rw [show (jtab 0).2.2 12 = 4 from rfl] at l12
  have hcr : 1 ≤ c_rows ct td ∧ c_rows ct td ≤ 40 := by
    have h9 := (hLI 0 0 (by omega) (by omega) (by omega)).1 rfl
    have e9 : c_rows ct td = c_get td 0 0 0 := by unfold c_rows; rw [if_neg (by omega)]
    omega
  have g5 := a5 x.toNat (by omega)
  rw [show ((x.toNat : Nat) : Int) = x by omega] at g5
  have r51 := c_getr hrt 5 x 1
  have r52 := c_getr hrt 5 x 2
  have h51 := ((hLI 5 x (by omega) (by omega) (by omega)).2.2.2.2.2.1 rfl)
  have ecn : c_cnt td x = c_get td 5 x 1 := by unfold c_cnt; omega
  have hcn : 0 ≤ c_cnt td x := by omega
  have rloop : ∀ (dqr : Nat) (v r : Int) (u4 : Option Value) (u5 : Option Value) (M1 : jdM) (D1 : Nat → Int), (1 ≤ r ∧ r ≤ c_rows ct td + 1) → (MX M1 n m g w (.ref f) rd (up B 2 D1)) → (MF M1 n f gf A) → (fr (MXf m) M M1) → (∀ j, 0 ≤ D1 j ∧ D1 j ≤ 1000) → (agr (c_cnt td x) D1 (foldS (fun s r => foldS (fun s k => foldS (tkS (c_cnt td x) (c_get td 2 k 0)) s (c_fact fa (1 + r) (7 + k)).toNat) s (ct 2).toNat) ((0 : Int), (0 : Int), fun _ : Nat => c_get td 5 x 2) (r - 1).toNat).2.2) → ((foldS (fun s r => foldS (fun s k => foldS (tkS (c_cnt td x) (c_get td 2 k 0)) s (c_fact fa (1 + r) (7 + k)).toNat) s (ct 2).toNat) ((0 : Int), (0 : Int), fun _ : Nat => c_get td 5 x 2) (r - 1).toNat).1 = 0) → (v = (foldS (fun s r => foldS (fun s k => foldS (tkS (c_cnt td x) (c_get td 2 k 0)) s (c_fact fa (1 + r) (7 + k)).toNat) s (ct 2).toNat) ((0 : Int), (0 : Int), fun _ : Nat => c_get td 5 x 2) (r - 1).toNat).2.1) → (50 - r).toNat < dqr → J κ 6 0 0 n 9 [some (.ref m), some (jI x), some (jI v), some (jI r), u4, u5] [] M1 := by
    intro dqr
    induction dqr with
    | zero => intro v r u4 u5 M1 D1 hr hX1 hMF f1 hD1 ha1 hs0 hv hd; omega
    | succ dqr ihr =>
      intro v r u4 u5 M1 D1 hr hX1 hMF f1 hD1 ha1 hs0 hv hd
      have hdR := hd
      obtain ⟨hnm, hOm, hBm⟩ := id hX1
      have hB3 : M1 (m + 3) = jdA 431 (B 3) := hBm 3 (by omega) (by omega)
      obtain ⟨hnf, hOf, hAf⟩ := id hMF
      obtain ⟨⟨e0, e1, e2, e3, e4⟩, ⟨k5, k6, k7, k8, k9, k10, k11, k12, k13, k14, k15⟩, ⟨a2, a3, a4, a5, a6, a7, a8, a9, a10, a11, a12⟩, ⟨hlim, hLI, hends, hrt⟩, ⟨hbk, hld⟩, hc0, hc1, hc2, hc5⟩ := id hFM
      have l2 := hlim 2 (by omega)
      have l3 := hlim 3 (by omega)
      have l4 := hlim 4 (by omega)
      have l5 := hlim 5 (by omega)
      have l6 := hlim 6 (by omega)
      have l7 := hlim 7 (by omega)
      have l8 := hlim 8 (by omega)
      have l9 := hlim 9 (by omega)
      have l10 := hlim 10 (by omega)
      have l11 := hlim 11 (by omega)
      have l12 := hlim 12 (by omega)
      rw [show (jtab 0).2.2 2 = 4 from rfl] at l2
      rw [show (jtab 0).2.2 3 = 6 from rfl] at l3
      rw [show (jtab 0).2.2 4 = 6 from rfl] at l4
      rw [show (jtab 0).2.2 5 = 2 from rfl] at l5
      rw [show (jtab 0).2.2 6 = 8 from rfl] at l6
      rw [show (jtab 0).2.2 7 = 5 from rfl] at l7
      rw [show (jtab 0).2.2 8 = 6 from rfl] at l8
      rw [show (jtab 0).2.2 9 = 3 from rfl] at l9
      rw [show (jtab 0).2.2 10 = 3 from rfl] at l10
      rw [show (jtab 0).2.2 11 = 4 from rfl] at l11
      rw [show (jtab 0).2.2 12 = 4 from rfl] at l12
      have hcr : 1 ≤ c_rows ct td ∧ c_rows ct td ≤ 40 := by
        have h9 := (hLI 0 0 (by omega) (by omega) (by omega)).1 rfl
        have e9 : c_rows ct td = c_get td 0 0 0 := by unfold c_rows; rw [if_neg (by omega)]
        omega
      refine jr_iload_n (pc := 9) h dX9_cleared_9 rfl ?_
      refine jr_aload_n (pc := 10) h dX9_cleared_10 rfl ?_
      refine gf_X9_425 (pc := 11) h dX9_cleared_11 (by assumption) (by omega) ?_
      refine gf_X9_205 (pc := 14) h dX9_cleared_14 (by assumption) (by omega) ?_
      refine jr_icmp_gt (pc := 17) h 90 dX9_cleared_17 (by decide) (by omega) (by omega) (fun c_17 => ?_) (fun c_17 => ?_)
      · skip
        refine jr_iload_n (pc := 90) h dX9_cleared_90 rfl ?_
        refine jr_iret (pc := 91) h hRt dX9_cleared_91 rfl (Nat.le_of_ble_eq_true rfl) (Nat.le_of_ble_eq_true rfl) ?_
        have er : c_tb ct td fa x = (foldS (fun s r => foldS (fun s k => foldS (tkS (c_cnt td x) (c_get td 2 k 0)) s (c_fact fa (1 + r) (7 + k)).toNat) s (ct 2).toNat) ((0 : Int), (0 : Int), fun _ : Nat => c_get td 5 x 2) (r - 1).toNat) := by
          unfold c_tb
          rw [show (r - 1).toNat = (c_rows ct td).toNat by omega]
        rw [er]
        exact ⟨⟨ji_c hv, rfl⟩, D1, hD1, ha1, hX1, f1⟩
      · skip
        refine jr_iconst (pc := 20) h dX9_cleared_20 ?_
        refine jr_istore (pc := 21) h [_, _, _, _, _, _] dX9_cleared_21 (by decide) rfl ?_
        have kloop : ∀ (dqk : Nat) (v k : Int) (u5 : Option Value) (M1 : jdM) (D1 : Nat → Int), (0 ≤ k ∧ k ≤ ct 2) → (MX M1 n m g w (.ref f) rd (up B 2 D1)) → (MF M1 n f gf A) → (fr (MXf m) M M1) → (∀ j, 0 ≤ D1 j ∧ D1 j ≤ 1000) → (agr (c_cnt td x) D1 (foldS (fun s k => foldS (tkS (c_cnt td x) (c_get td 2 k 0)) s (c_fact fa (1 + (r - 1)) (7 + k)).toNat) (foldS (fun s r => foldS (fun s k => foldS (tkS (c_cnt td x) (c_get td 2 k 0)) s (c_fact fa (1 + r) (7 + k)).toNat) s (ct 2).toNat) ((0 : Int), (0 : Int), fun _ : Nat => c_get td 5 x 2) (r - 1).toNat) k.toNat).2.2) → ((foldS (fun s k => foldS (tkS (c_cnt td x) (c_get td 2 k 0)) s (c_fact fa (1 + (r - 1)) (7 + k)).toNat) (foldS (fun s r => foldS (fun s k => foldS (tkS (c_cnt td x) (c_get td 2 k 0)) s (c_fact fa (1 + r) (7 + k)).toNat) s (ct 2).toNat) ((0 : Int), (0 : Int), fun _ : Nat => c_get td 5 x 2) (r - 1).toNat) k.toNat).1 = 0) → (v = (foldS (fun s k => foldS (tkS (c_cnt td x) (c_get td 2 k 0)) s (c_fact fa (1 + (r - 1)) (7 + k)).toNat) (foldS (fun s r => foldS (fun s k => foldS (tkS (c_cnt td x) (c_get td 2 k 0)) s (c_fact fa (1 + r) (7 + k)).toNat) s (ct 2).toNat) ((0 : Int), (0 : Int), fun _ : Nat => c_get td 5 x 2) (r - 1).toNat) k.toNat).2.1) → (10 - k).toNat < dqk → J κ 6 0 0 n 23 [some (.ref m), some (jI x), some (jI v), some (jI r), some (jI k), u5] [] M1 := by
          intro dqk
          induction dqk with
          | zero => intro v k u5 M1 D1 hk hX1 hMF f1 hD1 ha1 hs0 hv hd; omega
          | succ dqk ihk =>
            intro v k u5 M1 D1 hk hX1 hMF f1 hD1 ha1 hs0 hv hd
            have hdK := hd
            obtain ⟨hnm, hOm, hBm⟩ := id hX1
            have hB3 : M1 (m + 3) = jdA 431 (B 3) := hBm 3 (by omega) (by omega)
            obtain ⟨hnf, hOf, hAf⟩ := id hMF
            obtain ⟨⟨e0, e1, e2, e3, e4⟩, ⟨k5, k6, k7, k8, k9, k10, k11, k12, k13, k14, k15⟩, ⟨a2, a3, a4, a5, a6, a7, a8, a9, a10, a11, a12⟩, ⟨hlim, hLI, hends, hrt⟩, ⟨hbk, hld⟩, hc0, hc1, hc2, hc5⟩ := id hFM
            have l2 := hlim 2 (by omega)
            have l3 := hlim 3 (by omega)
            have l4 := hlim 4 (by omega)
            have l5 := hlim 5 (by omega)
            have l6 := hlim 6 (by omega)
            have l7 := hlim 7 (by omega)
            have l8 := hlim 8 (by omega)
            have l9 := hlim 9 (by omega)
            have l10 := hlim 10 (by omega)
            have l11 := hlim 11 (by omega)
            have l12 := hlim 12 (by omega)
            rw [show (jtab 0).2.2 2 = 4 from rfl] at l2
            rw [show (jtab 0).2.2 3 = 6 from rfl] at l3
            rw [show (jtab 0).2.2 4 = 6 from rfl] at l4
            rw [show (jtab 0).2.2 5 = 2 from rfl] at l5
            rw [show (jtab 0).2.2 6 = 8 from rfl] at l6
            rw [show (jtab 0).2.2 7 = 5 from rfl] at l7
            rw [show (jtab 0).2.2 8 = 6 from rfl] at l8
            rw [show (jtab 0).2.2 9 = 3 from rfl] at l9
            rw [show (jtab 0).2.2 10 = 3 from rfl] at l10
            rw [show (jtab 0).2.2 11 = 4 from rfl] at l11
            rw [show (jtab 0).2.2 12 = 4 from rfl] at l12
            have hcr : 1 ≤ c_rows ct td ∧ c_rows ct td ≤ 40 := by
              have h9 := (hLI 0 0 (by omega) (by omega) (by omega)).1 rfl
              have e9 : c_rows ct td = c_get td 0 0 0 := by unfold c_rows; rw [if_neg (by omega)]
              omega
            refine jr_iload (pc := 23) h dX9_cleared_23 rfl ?_
            refine jr_aload_n (pc := 25) h dX9_cleared_25 rfl ?_
            refine gf_X9_425 (pc := 26) h dX9_cleared_26 (by assumption) (by omega) ?_
            refine gf_X9_211 (pc := 29) h dX9_cleared_29 (by assumption) (by omega) ?_
            refine jr_icmp_ge (pc := 32) h 84 dX9_cleared_32 (by decide) (by omega) (by omega) (fun c_32 => ?_) (fun c_32 => ?_)
            · skip
              refine jr_iinc (pc := 84) h [_, _, _, _, _, _] dX9_cleared_84 (by decide) rfl rfl ?_
              refine jr_goto (pc := 87) h 9 dX9_cleared_87 (by decide) ?_
              have e9 : foldS (fun s r => foldS (fun s k => foldS (tkS (c_cnt td x) (c_get td 2 k 0)) s (c_fact fa (1 + r) (7 + k)).toNat) s (ct 2).toNat) ((0 : Int), (0 : Int), fun _ : Nat => c_get td 5 x 2) (r + 1 - 1).toNat = (foldS (fun s k => foldS (tkS (c_cnt td x) (c_get td 2 k 0)) s (c_fact fa (1 + (r - 1)) (7 + k)).toNat) (foldS (fun s r => foldS (fun s k => foldS (tkS (c_cnt td x) (c_get td 2 k 0)) s (c_fact fa (1 + r) (7 + k)).toNat) s (ct 2).toNat) ((0 : Int), (0 : Int), fun _ : Nat => c_get td 5 x 2) (r - 1).toNat) k.toNat) := by
                rw [show r + 1 - 1 = r - 1 + 1 by omega, foldS_s (by omega), show k.toNat = (ct 2).toNat by omega]
              refine ihr _ _ _ _ _ _ (by omega) hX1 hMF f1 hD1 ?_ ?_ ?_ (by have := hdR; omega)
              · rw [e9]; exact ha1
              · rw [e9]; exact hs0
              · rw [e9]; exact hv
            · skip
              have htr := hTr r k (by omega) (by omega) (by omega) (by omega)
              rw [show r = 1 + (r - 1) by omega] at htr
              refine jr_aload_n (pc := 35) h dX9_cleared_35 rfl ?_
              refine gf_X9_21 (pc := 36) h dX9_cleared_36 (by assumption) (by omega) ?_
              refine jr_bipush (pc := 39) h dX9_cleared_39 bp_10 ?_
              refine jr_iload_n (pc := 41) h dX9_cleared_41 rfl ?_
              refine jr_imul (pc := 42) h dX9_cleared_42 ?_
              refine jr_bipush (pc := 43) h dX9_cleared_43 bp_6 ?_
              refine jr_iadd (pc := 45) h dX9_cleared_45 ?_
              refine jr_iload (pc := 46) h dX9_cleared_46 rfl ?_
              refine jr_iadd (pc := 48) h dX9_cleared_48 ?_
              skip
              refine jr_iald (pc := 49) h dX9_cleared_49 (by assumption) (by omega) (by omega) ?_
              rw [show B 3 (10 * r + 6 + k).toNat = (c_fact fa (1 + (r - 1)) (7 + k)) from by have h9 := htr.1; rw [show (10 * (1 + (r - 1)) + 6 + k).toNat = (10 * r + 6 + k).toNat by omega] at h9; exact h9]
              refine jr_istore (pc := 50) h [_, _, _, _, _, _] dX9_cleared_50 (by decide) rfl ?_
              have inner : ∀ (dqi : Nat) (v i : Int) (M1 : jdM) (D1 : Nat → Int), (0 ≤ i ∧ i ≤ (c_fact fa (1 + (r - 1)) (7 + k))) → (MX M1 n m g w (.ref f) rd (up B 2 D1)) → (MF M1 n f gf A) → (fr (MXf m) M M1) → (∀ j, 0 ≤ D1 j ∧ D1 j ≤ 1000) → (agr (c_cnt td x) D1 (foldS (tkS (c_cnt td x) (c_get td 2 k 0)) (foldS (fun s k => foldS (tkS (c_cnt td x) (c_get td 2 k 0)) s (c_fact fa (1 + (r - 1)) (7 + k)).toNat) (foldS (fun s r => foldS (fun s k => foldS (tkS (c_cnt td x) (c_get td 2 k 0)) s (c_fact fa (1 + r) (7 + k)).toNat) s (ct 2).toNat) ((0 : Int), (0 : Int), fun _ : Nat => c_get td 5 x 2) (r - 1).toNat) k.toNat) ((c_fact fa (1 + (r - 1)) (7 + k)) - i).toNat).2.2) → ((foldS (tkS (c_cnt td x) (c_get td 2 k 0)) (foldS (fun s k => foldS (tkS (c_cnt td x) (c_get td 2 k 0)) s (c_fact fa (1 + (r - 1)) (7 + k)).toNat) (foldS (fun s r => foldS (fun s k => foldS (tkS (c_cnt td x) (c_get td 2 k 0)) s (c_fact fa (1 + r) (7 + k)).toNat) s (ct 2).toNat) ((0 : Int), (0 : Int), fun _ : Nat => c_get td 5 x 2) (r - 1).toNat) k.toNat) ((c_fact fa (1 + (r - 1)) (7 + k)) - i).toNat).1 = 0) → (v = (foldS (tkS (c_cnt td x) (c_get td 2 k 0)) (foldS (fun s k => foldS (tkS (c_cnt td x) (c_get td 2 k 0)) s (c_fact fa (1 + (r - 1)) (7 + k)).toNat) (foldS (fun s r => foldS (fun s k => foldS (tkS (c_cnt td x) (c_get td 2 k 0)) s (c_fact fa (1 + r) (7 + k)).toNat) s (ct 2).toNat) ((0 : Int), (0 : Int), fun _ : Nat => c_get td 5 x 2) (r - 1).toNat) k.toNat) ((c_fact fa (1 + (r - 1)) (7 + k)) - i).toNat).2.1) → (i).toNat < dqi → J κ 6 0 0 n 52 [some (.ref m), some (jI x), some (jI v), some (jI r), some (jI k), some (jI i)] [] M1 := by
                intro dqi
                induction dqi with
                | zero => intro v i M1 D1 hi hX1 hMF f1 hD1 ha1 hs0 hv hd; omega
                | succ dqi ihi =>
                  intro v i M1 D1 hi hX1 hMF f1 hD1 ha1 hs0 hv hd
                  obtain ⟨hnm, hOm, hBm⟩ := id hX1
                  obtain ⟨hnf, hOf, hAf⟩ := id hMF
                  obtain ⟨⟨e0, e1, e2, e3, e4⟩, ⟨k5, k6, k7, k8, k9, k10, k11, k12, k13, k14, k15⟩, ⟨a2, a3, a4, a5, a6, a7, a8, a9, a10, a11, a12⟩, ⟨hlim, hLI, hends, hrt⟩, ⟨hbk, hld⟩, hc0, hc1, hc2, hc5⟩ := id hFM
                  have l2 := hlim 2 (by omega)
                  have l3 := hlim 3 (by omega)
                  have l4 := hlim 4 (by omega)
                  have l5 := hlim 5 (by omega)
                  have l6 := hlim 6 (by omega)
                  have l7 := hlim 7 (by omega)
                  have l8 := hlim 8 (by omega)
                  have l9 := hlim 9 (by omega)
                  have l10 := hlim 10 (by omega)
                  have l11 := hlim 11 (by omega)
                  have l12 := hlim 12 (by omega)
                  rw [show (jtab 0).2.2 2 = 4 from rfl] at l2
                  rw [show (jtab 0).2.2 3 = 6 from rfl] at l3
                  rw [show (jtab 0).2.2 4 = 6 from rfl] at l4
                  rw [show (jtab 0).2.2 5 = 2 from rfl] at l5
                  rw [show (jtab 0).2.2 6 = 8 from rfl] at l6
                  rw [show (jtab 0).2.2 7 = 5 from rfl] at l7
                  rw [show (jtab 0).2.2 8 = 6 from rfl] at l8
                  rw [show (jtab 0).2.2 9 = 3 from rfl] at l9
                  rw [show (jtab 0).2.2 10 = 3 from rfl] at l10
                  rw [show (jtab 0).2.2 11 = 4 from rfl] at l11
                  rw [show (jtab 0).2.2 12 = 4 from rfl] at l12
                  refine jr_iload (pc := 52) h dX9_cleared_52 rfl ?_
                  refine jr_if_le (pc := 54) h 78 dX9_cleared_54 (by decide) (by omega) (fun c_54 => ?_) (fun c_54 => ?_)
                  · first | have d_54 := bz_0.mp c_54 | have d_54 := bz_1.mp c_54 | skip
                    refine jr_iinc (pc := 78) h [_, _, _, _, _, _] dX9_cleared_78 (by decide) rfl rfl ?_
                    refine jr_goto (pc := 81) h 23 dX9_cleared_81 (by decide) ?_
                    have e9 : foldS (fun s k => foldS (tkS (c_cnt td x) (c_get td 2 k 0)) s (c_fact fa (1 + (r - 1)) (7 + k)).toNat) (foldS (fun s r => foldS (fun s k => foldS (tkS (c_cnt td x) (c_get td 2 k 0)) s (c_fact fa (1 + r) (7 + k)).toNat) s (ct 2).toNat) ((0 : Int), (0 : Int), fun _ : Nat => c_get td 5 x 2) (r - 1).toNat) (k + 1).toNat = (foldS (tkS (c_cnt td x) (c_get td 2 k 0)) (foldS (fun s k => foldS (tkS (c_cnt td x) (c_get td 2 k 0)) s (c_fact fa (1 + (r - 1)) (7 + k)).toNat) (foldS (fun s r => foldS (fun s k => foldS (tkS (c_cnt td x) (c_get td 2 k 0)) s (c_fact fa (1 + r) (7 + k)).toNat) s (ct 2).toNat) ((0 : Int), (0 : Int), fun _ : Nat => c_get td 5 x 2) (r - 1).toNat) k.toNat) ((c_fact fa (1 + (r - 1)) (7 + k)) - i).toNat) := by
                      rw [foldS_s (by omega), show ((c_fact fa (1 + (r - 1)) (7 + k)) - i).toNat = (c_fact fa (1 + (r - 1)) (7 + k)).toNat by omega]
                    refine ihk _ _ _ _ _ (by omega) hX1 hMF f1 hD1 ?_ ?_ ?_ (by have := hdK; omega)
                    · rw [e9]; exact ha1
                    · rw [e9]; exact hs0
                    · rw [e9]; exact hv
                  · first | have d_54 := bz_0.mp c_54 | have d_54 := bz_1.mp c_54 | skip
                    refine jr_aload_n (pc := 57) h dX9_cleared_57 rfl ?_
                    refine jr_iload_n (pc := 58) h dX9_cleared_58 rfl ?_
                    refine jr_iload (pc := 59) h dX9_cleared_59 rfl ?_
                    refine iv_X9_458 (pc := 61) h hl hR dX9_cleared_61 ⟨(Nat.le_of_ble_eq_true rfl), (Nat.le_of_ble_eq_true rfl), (Nat.le_of_ble_eq_true rfl), (Nat.le_of_ble_eq_true rfl)⟩ (Nat.le_of_ble_eq_true rfl) (by assumption) (by omega) (s_X9_goesIn hX1 hMF hFM hsep (by omega) (by omega) (fun j => by rw [show up B 2 D1 2 = D1 from up_eq]; exact ⟨by have := (hD1 j).1; omega, (hD1 j).2⟩)) (fun v_61 n_61 M_61 hn_61 hp => ?_)
                    obtain ⟨⟨rfl, rfl⟩, hX2, f9⟩ := hp
                    have f1 := fr_tr f1 f9
                    have hMF := MF_fr hMF f9 (Nat.le_refl _) (fun k h1 h2 q => by have := q.1; have := q.2; omega)
                    rw [up_up, show up B 2 D1 2 = D1 from up_eq] at hX2
                    rw [show up B 2 D1 2 = D1 from up_eq, ← ecn]
                    rw [← ecn] at hX2
                    have gs := gi_step (sh := c_get td 2 k 0) (i := (c_fact fa (1 + (r - 1)) (7 + k)) - i) hcn ha1 hs0
                    have gb := giD_b (cnt := c_cnt td x) (sh := c_get td 2 k 0) (c_getr hrt 2 k 0).1 hD1
                    have gr_61 := bz_r (¬ ffd D1 (c_get td 2 k 0) 0 (c_cnt td x).toNat < 0)
                    refine jr_if_ne (pc := 64) h 69 dX9_cleared_64 (by decide) (by omega) (fun c_64 => ?_) (fun c_64 => ?_)
                    · first | have d_64 := bz_0.mp c_64 | have d_64 := bz_1.mp c_64 | skip
                      refine jr_iinc (pc := 69) h [_, _, _, _, _, _] dX9_cleared_69 (by decide) rfl rfl ?_
                      refine jr_iinc (pc := 72) h [_, _, _, _, _, _] dX9_cleared_72 (by decide) rfl rfl ?_
                      refine jr_goto (pc := 75) h 52 dX9_cleared_75 (by decide) ?_
                      have en : ((c_fact fa (1 + (r - 1)) (7 + k)) - (i + -1)).toNat = ((c_fact fa (1 + (r - 1)) (7 + k)) - i + 1).toNat := by omega
                      have d9 : ¬ ffd D1 (c_get td 2 k 0) 0 (c_cnt td x).toNat < 0 := d_64
                      refine ihi _ _ _ _ (by omega) hX2 hMF f1 gb ?_ ?_ ?_ (by omega)
                      · rw [en, foldS_s (by omega)]
                        exact gs.1
                      · rw [en, foldS_s (by omega)]
                        exact gs.2.1.mpr d9
                      · rw [en, foldS_s (by omega), gs.2.2, if_neg d9, ← hv]
                    · first | have d_64 := bz_0.mp c_64 | have d_64 := bz_1.mp c_64 | skip
                      refine jr_iload_n (pc := 67) h dX9_cleared_67 rfl ?_
                      refine jr_iret (pc := 68) h hRt dX9_cleared_68 rfl (Nat.le_of_ble_eq_true rfl) (Nat.le_of_ble_eq_true rfl) ?_
                      have d9 : ffd D1 (c_get td 2 k 0) 0 (c_cnt td x).toNat < 0 := Classical.not_not.mp d_64
                      have hno : (tkS (c_cnt td x) (c_get td 2 k 0) (foldS (tkS (c_cnt td x) (c_get td 2 k 0)) (foldS (fun s k => foldS (tkS (c_cnt td x) (c_get td 2 k 0)) s (c_fact fa (1 + (r - 1)) (7 + k)).toNat) (foldS (fun s r => foldS (fun s k => foldS (tkS (c_cnt td x) (c_get td 2 k 0)) s (c_fact fa (1 + r) (7 + k)).toNat) s (ct 2).toNat) ((0 : Int), (0 : Int), fun _ : Nat => c_get td 5 x 2) (r - 1).toNat) k.toNat) ((c_fact fa (1 + (r - 1)) (7 + k)) - i).toNat) ((c_fact fa (1 + (r - 1)) (7 + k)) - i)).1 ≠ 0 := fun q => (gs.2.1.mp q) d9
                      have eno : tkS (c_cnt td x) (c_get td 2 k 0) (foldS (tkS (c_cnt td x) (c_get td 2 k 0)) (foldS (fun s k => foldS (tkS (c_cnt td x) (c_get td 2 k 0)) s (c_fact fa (1 + (r - 1)) (7 + k)).toNat) (foldS (fun s r => foldS (fun s k => foldS (tkS (c_cnt td x) (c_get td 2 k 0)) s (c_fact fa (1 + r) (7 + k)).toNat) s (ct 2).toNat) ((0 : Int), (0 : Int), fun _ : Nat => c_get td 5 x 2) (r - 1).toNat) k.toNat) ((c_fact fa (1 + (r - 1)) (7 + k)) - i).toNat) ((c_fact fa (1 + (r - 1)) (7 + k)) - i) = (1, (foldS (tkS (c_cnt td x) (c_get td 2 k 0)) (foldS (fun s k => foldS (tkS (c_cnt td x) (c_get td 2 k 0)) s (c_fact fa (1 + (r - 1)) (7 + k)).toNat) (foldS (fun s r => foldS (fun s k => foldS (tkS (c_cnt td x) (c_get td 2 k 0)) s (c_fact fa (1 + r) (7 + k)).toNat) s (ct 2).toNat) ((0 : Int), (0 : Int), fun _ : Nat => c_get td 5 x 2) (r - 1).toNat) k.toNat) ((c_fact fa (1 + (r - 1)) (7 + k)) - i).toNat).2.1, (foldS (tkS (c_cnt td x) (c_get td 2 k 0)) (foldS (fun s k => foldS (tkS (c_cnt td x) (c_get td 2 k 0)) s (c_fact fa (1 + (r - 1)) (7 + k)).toNat) (foldS (fun s r => foldS (fun s k => foldS (tkS (c_cnt td x) (c_get td 2 k 0)) s (c_fact fa (1 + r) (7 + k)).toNat) s (ct 2).toNat) ((0 : Int), (0 : Int), fun _ : Nat => c_get td 5 x 2) (r - 1).toNat) k.toNat) ((c_fact fa (1 + (r - 1)) (7 + k)) - i).toNat).2.2) := tkS_no hs0 (by rw [← gi_ff (sh := c_get td 2 k 0) hcn ha1]; exact d9)
                      have h1 : foldS (tkS (c_cnt td x) (c_get td 2 k 0)) (foldS (fun s k => foldS (tkS (c_cnt td x) (c_get td 2 k 0)) s (c_fact fa (1 + (r - 1)) (7 + k)).toNat) (foldS (fun s r => foldS (fun s k => foldS (tkS (c_cnt td x) (c_get td 2 k 0)) s (c_fact fa (1 + r) (7 + k)).toNat) s (ct 2).toNat) ((0 : Int), (0 : Int), fun _ : Nat => c_get td 5 x 2) (r - 1).toNat) k.toNat) (c_fact fa (1 + (r - 1)) (7 + k)).toNat = (1, (foldS (tkS (c_cnt td x) (c_get td 2 k 0)) (foldS (fun s k => foldS (tkS (c_cnt td x) (c_get td 2 k 0)) s (c_fact fa (1 + (r - 1)) (7 + k)).toNat) (foldS (fun s r => foldS (fun s k => foldS (tkS (c_cnt td x) (c_get td 2 k 0)) s (c_fact fa (1 + r) (7 + k)).toNat) s (ct 2).toNat) ((0 : Int), (0 : Int), fun _ : Nat => c_get td 5 x 2) (r - 1).toNat) k.toNat) ((c_fact fa (1 + (r - 1)) (7 + k)) - i).toNat).2.1, (foldS (tkS (c_cnt td x) (c_get td 2 k 0)) (foldS (fun s k => foldS (tkS (c_cnt td x) (c_get td 2 k 0)) s (c_fact fa (1 + (r - 1)) (7 + k)).toNat) (foldS (fun s r => foldS (fun s k => foldS (tkS (c_cnt td x) (c_get td 2 k 0)) s (c_fact fa (1 + r) (7 + k)).toNat) s (ct 2).toNat) ((0 : Int), (0 : Int), fun _ : Nat => c_get td 5 x 2) (r - 1).toNat) k.toNat) ((c_fact fa (1 + (r - 1)) (7 + k)) - i).toNat).2.2) := foldS_stop (j := ((c_fact fa (1 + (r - 1)) (7 + k)) - i + 1).toNat) (by rw [foldS_s (by omega)]; exact eno) (fun i => tkS_stop (by simp) i) (by omega)
                      have h2 : foldS (fun s k => foldS (tkS (c_cnt td x) (c_get td 2 k 0)) s (c_fact fa (1 + (r - 1)) (7 + k)).toNat) (foldS (fun s r => foldS (fun s k => foldS (tkS (c_cnt td x) (c_get td 2 k 0)) s (c_fact fa (1 + r) (7 + k)).toNat) s (ct 2).toNat) ((0 : Int), (0 : Int), fun _ : Nat => c_get td 5 x 2) (r - 1).toNat) (ct 2).toNat = (1, (foldS (tkS (c_cnt td x) (c_get td 2 k 0)) (foldS (fun s k => foldS (tkS (c_cnt td x) (c_get td 2 k 0)) s (c_fact fa (1 + (r - 1)) (7 + k)).toNat) (foldS (fun s r => foldS (fun s k => foldS (tkS (c_cnt td x) (c_get td 2 k 0)) s (c_fact fa (1 + r) (7 + k)).toNat) s (ct 2).toNat) ((0 : Int), (0 : Int), fun _ : Nat => c_get td 5 x 2) (r - 1).toNat) k.toNat) ((c_fact fa (1 + (r - 1)) (7 + k)) - i).toNat).2.1, (foldS (tkS (c_cnt td x) (c_get td 2 k 0)) (foldS (fun s k => foldS (tkS (c_cnt td x) (c_get td 2 k 0)) s (c_fact fa (1 + (r - 1)) (7 + k)).toNat) (foldS (fun s r => foldS (fun s k => foldS (tkS (c_cnt td x) (c_get td 2 k 0)) s (c_fact fa (1 + r) (7 + k)).toNat) s (ct 2).toNat) ((0 : Int), (0 : Int), fun _ : Nat => c_get td 5 x 2) (r - 1).toNat) k.toNat) ((c_fact fa (1 + (r - 1)) (7 + k)) - i).toNat).2.2) := foldS_stop (j := (k + 1).toNat) (by rw [foldS_s (by omega)]; exact h1) (fun i => foldS_st (fun i => tkS_stop (by simp) i)) (by omega)
                      have h3 : c_tb ct td fa x = (1, (foldS (tkS (c_cnt td x) (c_get td 2 k 0)) (foldS (fun s k => foldS (tkS (c_cnt td x) (c_get td 2 k 0)) s (c_fact fa (1 + (r - 1)) (7 + k)).toNat) (foldS (fun s r => foldS (fun s k => foldS (tkS (c_cnt td x) (c_get td 2 k 0)) s (c_fact fa (1 + r) (7 + k)).toNat) s (ct 2).toNat) ((0 : Int), (0 : Int), fun _ : Nat => c_get td 5 x 2) (r - 1).toNat) k.toNat) ((c_fact fa (1 + (r - 1)) (7 + k)) - i).toNat).2.1, (foldS (tkS (c_cnt td x) (c_get td 2 k 0)) (foldS (fun s k => foldS (tkS (c_cnt td x) (c_get td 2 k 0)) s (c_fact fa (1 + (r - 1)) (7 + k)).toNat) (foldS (fun s r => foldS (fun s k => foldS (tkS (c_cnt td x) (c_get td 2 k 0)) s (c_fact fa (1 + r) (7 + k)).toNat) s (ct 2).toNat) ((0 : Int), (0 : Int), fun _ : Nat => c_get td 5 x 2) (r - 1).toNat) k.toNat) ((c_fact fa (1 + (r - 1)) (7 + k)) - i).toNat).2.2) := foldS_stop (j := (r - 1 + 1).toNat) (by rw [foldS_s (by omega)]; exact h2) (fun i => foldS_st (fun i => foldS_st (fun i => tkS_stop (by simp) i))) (by omega)
                      have g1 := gs.1
                      rw [eno] at g1
                      refine ⟨⟨?_, rfl⟩, _, gb, ?_, hX2, f1⟩
                      · rw [h3, hv]
                      · rw [h3]
                        exact g1
              exact inner _ _ _ _ _ (by omega) hX1 hMF f1 hD1 (by
                rw [show ((c_fact fa (1 + (r - 1)) (7 + k)) - (c_fact fa (1 + (r - 1)) (7 + k))).toNat = 0 by omega]
                exact ha1) (by
                rw [show ((c_fact fa (1 + (r - 1)) (7 + k)) - (c_fact fa (1 + (r - 1)) (7 + k))).toNat = 0 by omega]
                exact hs0) (by
                rw [show ((c_fact fa (1 + (r - 1)) (7 + k)) - (c_fact fa (1 + (r - 1)) (7 + k))).toNat = 0 by omega]
                exact hv) (Nat.lt_succ_self _)
        exact kloop _ _ _ _ _ _ (by omega) hX1 hMF f1 hD1 ha1 hs0 hv (Nat.lt_succ_self _)
  refine jr_aload_n (pc := 0) h dX9_cleared_0 rfl ?_
  refine jr_iload_n (pc := 1) h dX9_cleared_1 rfl ?_
  refine iv_X9_455 (pc := 2) h hl hR dX9_cleared_2 ⟨(Nat.le_of_ble_eq_true rfl), (Nat.le_of_ble_eq_true rfl), (Nat.le_of_ble_eq_true rfl), (Nat.le_of_ble_eq_true rfl)⟩ (Nat.le_of_ble_eq_true rfl) (by assumption) (by omega) (s_X9_empties hX hMF hFM hsep (by omega)) (fun v_2 n_2 M_2 hn_2 hp => ?_)
  obtain ⟨⟨rfl, rfl⟩, hX, f9⟩ := hp
  have f1 := f9
  have hMF := MF_fr hMF f9 (Nat.le_refl _) (fun k h1 h2 q => by have := q.1; have := q.2; omega)
  have g5 := a5 x.toNat (by omega)
  rw [show ((x.toNat : Nat) : Int) = x by omega] at g5
  have r51 := c_getr hrt 5 x 1
  have r52 := c_getr hrt 5 x 2
  have h51 := ((hLI 5 x (by omega) (by omega) (by omega)).2.2.2.2.2.1 rfl)
  have ecn : c_cnt td x = c_get td 5 x 1 := by unfold c_cnt; omega
  have hcn : 0 ≤ c_cnt td x := by omega
  obtain ⟨D0, eD0⟩ : ∃ D0, (fun j : Nat => if j < 14 then (if (j : Int) < c_get td 5 x 1 then c_get td 5 x 2 else 0) else B 2 j) = D0 := ⟨_, rfl⟩
  rw [eD0] at hX
  have hD0 : ∀ j, 0 ≤ D0 j ∧ D0 j ≤ 1000 := fun j => by
    rw [← eD0]
    have := hdl j
    show 0 ≤ (if j < 14 then (if (j : Int) < c_get td 5 x 1 then c_get td 5 x 2 else 0) else B 2 j) ∧ (if j < 14 then (if (j : Int) < c_get td 5 x 1 then c_get td 5 x 2 else 0) else B 2 j) ≤ 1000
    split
    · split <;> omega
    · exact this
  have ha0 : agr (c_cnt td x) D0 (fun _ => c_get td 5 x 2) := fun j hj => by
    rw [← eD0]
    show (if j < 14 then (if (j : Int) < c_get td 5 x 1 then c_get td 5 x 2 else 0) else B 2 j) = c_get td 5 x 2
    rw [if_pos (by omega), if_pos (by omega)]
  refine jr_iconst (pc := 5) h dX9_cleared_5 ?_
  refine jr_istore_n (pc := 6) h [_, _, _, _, _, _] dX9_cleared_6 (by decide) rfl ?_
  refine jr_iconst (pc := 7) h dX9_cleared_7 ?_
  refine jr_istore_n (pc := 8) h [_, _, _, _, _, _] dX9_cleared_8 (by decide) rfl ?_
  exact rloop _ _ _ _ _ _ _ (by omega) hX hMF f1 hD0 ha0 rfl rfl (Nat.lt_succ_self _)
set_option maxHeartbeats 1000000 in
set_option maxRecDepth 20000 in
theorem s_X9_clear {l : Launch} {n : Nat} {M : jdM} {m : Nat} {g : Nat → Int} {w : Int} {fl rd : Value} {B : Nat → Nat → Int} (hX : MX M n m g w fl rd B) {ct td bk si ld : Nat → Int} (hFX : FX M n m fl ct td bk si ld) {fa : Nat → Int} (hdl : ∀ j, 0 ≤ B 2 j ∧ B 2 j ≤ 1000) (hTr : ∀ r k : Int, 1 ≤ r → r ≤ c_rows ct td → 0 ≤ k → k < ct 2 → B 3 (10 * r + 6 + k).toNat = c_fact fa r (7 + k) ∧ 0 ≤ c_fact fa r (7 + k) ∧ c_fact fa r (7 + k) ≤ 1000) {x : Int} (hx : -2147483648 ≤ x ∧ x < 2147483648) : Ct l yX9_clear cX9_clear 2 (some .int) rX9_clear [.ref m, jI x] n M (fun vv n' M' => (vv = some (jI (x_clear ct td fa x).1) ∧ n = n') ∧ ∃ D1, (∀ j, 0 ≤ D1 j ∧ D1 j ≤ 1000) ∧ MX M' n m (rg g (x_clear ct td fa x).2) w fl rd (up B 2 D1) ∧ fr (MXf m) M M') := by
  refine Ct_of [some (.ref m), some (jI x)] (by decide) (Nat.le_of_ble_eq_true rfl) rfl (fun κ hl h hR hRt hmn hn0 => ?_)
  have h : Ok κ RX9 cX9_clear 2 (some .int) := h
  obtain ⟨hnm, hOm, hBm⟩ := id hX
  have hOm : M m = jdO 9 (fX9 m _ _ fl rd) := hOm
  refine jr_aload_n (pc := 0) h dX9_clear_0 rfl ?_
  refine jr_iconst (pc := 1) h dX9_clear_1 ?_
  refine pf_X9_52 (pc := 2) h dX9_clear_2 hOm (by omega) ?_
  refine jm_gen (fun M2 hM2 => ?_)
  rw [fX9_0] at hM2
  have hX := MX_o hX hM2
  have f9 : fr (MXf m) _ M2 := fr_up hM2 ⟨by omega, by omega⟩
  obtain ⟨hnm, hOm, hBm⟩ := id hX
  have f1 := f9
  have hFX := FX_fr hFX f9
  refine jr_aload_n (pc := 5) h dX9_clear_5 rfl ?_
  refine jr_iload_n (pc := 6) h dX9_clear_6 rfl ?_
  refine iv_X9_452 (pc := 7) h hl hR dX9_clear_7 ⟨(Nat.le_of_ble_eq_true rfl), (Nat.le_of_ble_eq_true rfl), (Nat.le_of_ble_eq_true rfl), (Nat.le_of_ble_eq_true rfl)⟩ (Nat.le_of_ble_eq_true rfl) (by assumption) (by omega) (s_X9_isTrolley hX hFX (by omega)) (fun v_7 n_7 M_7 hn_7 hp => ?_)
  obtain ⟨⟨rfl, rfl, rfl⟩, gr_7⟩ := hp
  refine jr_if_eq (pc := 10) h 25 dX9_clear_10 (by decide) (by omega) (fun c_10 => ?_) (fun c_10 => ?_)
  · first | have d_10 := bz_0.mp c_10 | have d_10 := bz_1.mp c_10 | skip
    refine jr_aload_n (pc := 25) h dX9_clear_25 rfl ?_
    refine jr_iconst (pc := 26) h dX9_clear_26 ?_
    refine iv_X9_58 (pc := 27) h hl hR dX9_clear_27 ⟨(Nat.le_of_ble_eq_true rfl), (Nat.le_of_ble_eq_true rfl), (Nat.le_of_ble_eq_true rfl), (Nat.le_of_ble_eq_true rfl)⟩ (Nat.le_of_ble_eq_true rfl) (by assumption) (by omega) (s_X9_refused hX) (fun v_27 n_27 M_27 hn_27 hp => ?_)
    obtain ⟨⟨rfl, rfl⟩, hX, f9⟩ := hp
    have f1 := fr_tr f1 f9
    obtain ⟨hnm, hOm, hBm⟩ := id hX
    refine jr_iret (pc := 30) h hRt dX9_clear_30 rfl (Nat.le_of_ble_eq_true rfl) (Nat.le_of_ble_eq_true rfl) ?_
    first
    | (refine lfA9D hD1 ?_ hX f1
       unfold x_clear
       (repeat' split) <;> first | rfl | (exfalso; omega) | contradiction)
    | (refine lfA9D (D1 := B 2) hdl ?_ (by rw [show up B 2 (B 2) = B from up_id rfl]; exact hX) f1
       unfold x_clear
       (repeat' split) <;> first | rfl | (exfalso; omega) | contradiction)
  · first | have d_10 := bz_0.mp c_10 | have d_10 := bz_1.mp c_10 | skip
    have hr00 := fun (hz : ∀ j, ct j = 0) => rows0 (td := td) hz
    rcases hFX with ⟨rfl, hz⟩ | ⟨f, gf, A, rfl, hsep, hMF, hFM⟩
    · exfalso
      have z2 := hz 2
      have z5 := hz 5
      have zr := hr00 hz
      omega
    obtain ⟨hnf, hOf, hAf⟩ := id hMF
    obtain ⟨⟨e0, e1, e2, e3, e4⟩, ⟨k5, k6, k7, k8, k9, k10, k11, k12, k13, k14, k15⟩, ⟨a2, a3, a4, a5, a6, a7, a8, a9, a10, a11, a12⟩, ⟨hlim, hLI, hends, hrt⟩, ⟨hbk, hld⟩, hc0, hc1, hc2, hc5⟩ := id hFM
    have l2 := hlim 2 (by omega)
    have l3 := hlim 3 (by omega)
    have l4 := hlim 4 (by omega)
    have l5 := hlim 5 (by omega)
    have l6 := hlim 6 (by omega)
    have l7 := hlim 7 (by omega)
    have l8 := hlim 8 (by omega)
    have l9 := hlim 9 (by omega)
    have l10 := hlim 10 (by omega)
    have l11 := hlim 11 (by omega)
    have l12 := hlim 12 (by omega)
    rw [show (jtab 0).2.2 2 = 4 from rfl] at l2
    rw [show (jtab 0).2.2 3 = 6 from rfl] at l3
    rw [show (jtab 0).2.2 4 = 6 from rfl] at l4
    rw [show (jtab 0).2.2 5 = 2 from rfl] at l5
    rw [show (jtab 0).2.2 6 = 8 from rfl] at l6
    rw [show (jtab 0).2.2 7 = 5 from rfl] at l7
    rw [show (jtab 0).2.2 8 = 6 from rfl] at l8
    rw [show (jtab 0).2.2 9 = 3 from rfl] at l9
    rw [show (jtab 0).2.2 10 = 3 from rfl] at l10
    rw [show (jtab 0).2.2 11 = 4 from rfl] at l11
    rw [show (jtab 0).2.2 12 = 4 from rfl] at l12
    have hcr : 1 ≤ c_rows ct td ∧ c_rows ct td ≤ 40 := by
      have h9 := (hLI 0 0 (by omega) (by omega) (by omega)).1 rfl
      have e9 : c_rows ct td = c_get td 0 0 0 := by unfold c_rows; rw [if_neg (by omega)]
      omega
    refine jr_aload_n (pc := 13) h dX9_clear_13 rfl ?_
    refine jr_aload_n (pc := 14) h dX9_clear_14 rfl ?_
    refine jr_iload_n (pc := 15) h dX9_clear_15 rfl ?_
    refine iv_X9_572 (pc := 16) h hl hR dX9_clear_16 ⟨(Nat.le_of_ble_eq_true rfl), (Nat.le_of_ble_eq_true rfl), (Nat.le_of_ble_eq_true rfl), (Nat.le_of_ble_eq_true rfl)⟩ (Nat.le_of_ble_eq_true rfl) (by assumption) (by omega) (s_X9_cleared hX hMF hFM hsep hdl hTr (by omega)) (fun v_16 n_16 M_16 hn_16 hp => ?_)
    obtain ⟨⟨rfl, rfl⟩, D1, hD1, ha1, hX, f9⟩ := hp
    have f1 := fr_tr f1 f9
    obtain ⟨hnm, hOm, hBm⟩ := id hX
    have hMF := MF_fr hMF f9 (Nat.le_refl _) (fun k h1 h2 q => by have := q.1; have := q.2; omega)
    refine iv_X9_62 (pc := 19) h hl hR dX9_clear_19 ⟨(Nat.le_of_ble_eq_true rfl), (Nat.le_of_ble_eq_true rfl), (Nat.le_of_ble_eq_true rfl), (Nat.le_of_ble_eq_true rfl)⟩ (Nat.le_of_ble_eq_true rfl) (by assumption) (by omega) (s_X9_done hX) (fun v_19 n_19 M_19 hn_19 hp => ?_)
    obtain ⟨⟨rfl, rfl⟩, hX, f9⟩ := hp
    have f1 := fr_tr f1 f9
    obtain ⟨hnm, hOm, hBm⟩ := id hX
    refine jr_goto (pc := 22) h 30 dX9_clear_22 (by decide) ?_
    refine jr_iret (pc := 30) h hRt dX9_clear_30 rfl (Nat.le_of_ble_eq_true rfl) (Nat.le_of_ble_eq_true rfl) ?_
    first
    | (refine lfA9D hD1 ?_ hX f1
       unfold x_clear
       (repeat' split) <;> first | rfl | (exfalso; omega) | contradiction)
    | (refine lfA9D (D1 := B 2) hdl ?_ (by rw [show up B 2 (B 2) = B from up_id rfl]; exact hX) f1
       unfold x_clear
       (repeat' split) <;> first | rfl | (exfalso; omega) | contradiction)
set_option maxHeartbeats 1000000 in
set_option maxRecDepth 20000 in
theorem s_X9_room {l : Launch} {n : Nat} {M : jdM} {m : Nat} {g : Nat → Int} {w : Int} {fl rd : Value} {B : Nat → Nat → Int} (hX : MX M n m g w fl rd B) {ct td bk si ld : Nat → Int} (hFX : FX M n m fl ct td bk si ld) {fa : Nat → Int} (hdl : ∀ j, 0 ≤ B 2 j ∧ B 2 j ≤ 1000) (hTr : ∀ r k : Int, 1 ≤ r → r ≤ c_rows ct td → 0 ≤ k → k < ct 2 → B 3 (10 * r + 6 + k).toNat = c_fact fa r (7 + k) ∧ 0 ≤ c_fact fa r (7 + k) ∧ c_fact fa r (7 + k) ≤ 1000) {x y : Int} (hx : -2147483648 ≤ x ∧ x < 2147483648) (hy : -2147483648 ≤ y ∧ y < 2147483648) : Ct l yX9_room cX9_room 3 (some .int) rX9_room [.ref m, jI x, jI y] n M (fun vv n' M' => (vv = some (jI (x_room ct td fa x y).1) ∧ n = n') ∧ ∃ D1, (∀ j, 0 ≤ D1 j ∧ D1 j ≤ 1000) ∧ MX M' n m (rg g (x_room ct td fa x y).2) w fl rd (up B 2 D1) ∧ fr (MXf m) M M') := by
  refine Ct_of [some (.ref m), some (jI x), some (jI y)] (by decide) (Nat.le_of_ble_eq_true rfl) rfl (fun κ hl h hR hRt hmn hn0 => ?_)
  have h : Ok κ RX9 cX9_room 3 (some .int) := h
  obtain ⟨hnm, hOm, hBm⟩ := id hX
  have hOm : M m = jdO 9 (fX9 m _ _ fl rd) := hOm
  refine jr_aload_n (pc := 0) h dX9_room_0 rfl ?_
  refine jr_iconst (pc := 1) h dX9_room_1 ?_
  refine pf_X9_52 (pc := 2) h dX9_room_2 hOm (by omega) ?_
  refine jm_gen (fun M2 hM2 => ?_)
  rw [fX9_0] at hM2
  have hX := MX_o hX hM2
  have f9 : fr (MXf m) _ M2 := fr_up hM2 ⟨by omega, by omega⟩
  obtain ⟨hnm, hOm, hBm⟩ := id hX
  have f1 := f9
  have hFX := FX_fr hFX f9
  refine jr_aload_n (pc := 5) h dX9_room_5 rfl ?_
  refine jr_iload_n (pc := 6) h dX9_room_6 rfl ?_
  refine iv_X9_452 (pc := 7) h hl hR dX9_room_7 ⟨(Nat.le_of_ble_eq_true rfl), (Nat.le_of_ble_eq_true rfl), (Nat.le_of_ble_eq_true rfl), (Nat.le_of_ble_eq_true rfl)⟩ (Nat.le_of_ble_eq_true rfl) (by assumption) (by omega) (s_X9_isTrolley hX hFX (by omega)) (fun v_7 n_7 M_7 hn_7 hp => ?_)
  obtain ⟨⟨rfl, rfl, rfl⟩, gr_7⟩ := hp
  refine jr_if_eq (pc := 10) h 30 dX9_room_10 (by decide) (by omega) (fun c_10 => ?_) (fun c_10 => ?_)
  · first | have d_10 := bz_0.mp c_10 | have d_10 := bz_1.mp c_10 | skip
    refine jr_aload_n (pc := 30) h dX9_room_30 rfl ?_
    refine jr_iconst (pc := 31) h dX9_room_31 ?_
    refine iv_X9_58 (pc := 32) h hl hR dX9_room_32 ⟨(Nat.le_of_ble_eq_true rfl), (Nat.le_of_ble_eq_true rfl), (Nat.le_of_ble_eq_true rfl), (Nat.le_of_ble_eq_true rfl)⟩ (Nat.le_of_ble_eq_true rfl) (by assumption) (by omega) (s_X9_refused hX) (fun v_32 n_32 M_32 hn_32 hp => ?_)
    obtain ⟨⟨rfl, rfl⟩, hX, f9⟩ := hp
    have f1 := fr_tr f1 f9
    obtain ⟨hnm, hOm, hBm⟩ := id hX
    refine jr_iret (pc := 35) h hRt dX9_room_35 rfl (Nat.le_of_ble_eq_true rfl) (Nat.le_of_ble_eq_true rfl) ?_
    first
    | (refine lfA9D hD1 ?_ hX f1
       unfold x_room
       (repeat' split) <;> first | rfl | (exfalso; omega) | contradiction)
    | (refine lfA9D (D1 := B 2) hdl ?_ (by rw [show up B 2 (B 2) = B from up_id rfl]; exact hX) f1
       unfold x_room
       (repeat' split) <;> first | rfl | (exfalso; omega) | contradiction)
  · first | have d_10 := bz_0.mp c_10 | have d_10 := bz_1.mp c_10 | skip
    have hr00 := fun (hz : ∀ j, ct j = 0) => rows0 (td := td) hz
    rcases hFX with ⟨rfl, hz⟩ | ⟨f, gf, A, rfl, hsep, hMF, hFM⟩
    · exfalso
      have z2 := hz 2
      have z5 := hz 5
      have zr := hr00 hz
      omega
    obtain ⟨hnf, hOf, hAf⟩ := id hMF
    obtain ⟨⟨e0, e1, e2, e3, e4⟩, ⟨k5, k6, k7, k8, k9, k10, k11, k12, k13, k14, k15⟩, ⟨a2, a3, a4, a5, a6, a7, a8, a9, a10, a11, a12⟩, ⟨hlim, hLI, hends, hrt⟩, ⟨hbk, hld⟩, hc0, hc1, hc2, hc5⟩ := id hFM
    have l2 := hlim 2 (by omega)
    have l3 := hlim 3 (by omega)
    have l4 := hlim 4 (by omega)
    have l5 := hlim 5 (by omega)
    have l6 := hlim 6 (by omega)
    have l7 := hlim 7 (by omega)
    have l8 := hlim 8 (by omega)
    have l9 := hlim 9 (by omega)
    have l10 := hlim 10 (by omega)
    have l11 := hlim 11 (by omega)
    have l12 := hlim 12 (by omega)
    rw [show (jtab 0).2.2 2 = 4 from rfl] at l2
    rw [show (jtab 0).2.2 3 = 6 from rfl] at l3
    rw [show (jtab 0).2.2 4 = 6 from rfl] at l4
    rw [show (jtab 0).2.2 5 = 2 from rfl] at l5
    rw [show (jtab 0).2.2 6 = 8 from rfl] at l6
    rw [show (jtab 0).2.2 7 = 5 from rfl] at l7
    rw [show (jtab 0).2.2 8 = 6 from rfl] at l8
    rw [show (jtab 0).2.2 9 = 3 from rfl] at l9
    rw [show (jtab 0).2.2 10 = 3 from rfl] at l10
    rw [show (jtab 0).2.2 11 = 4 from rfl] at l11
    rw [show (jtab 0).2.2 12 = 4 from rfl] at l12
    have hcr : 1 ≤ c_rows ct td ∧ c_rows ct td ≤ 40 := by
      have h9 := (hLI 0 0 (by omega) (by omega) (by omega)).1 rfl
      have e9 : c_rows ct td = c_get td 0 0 0 := by unfold c_rows; rw [if_neg (by omega)]
      omega
    have hA9 : M2 (f + 9) = jdA 2 (A 9) := hAf 9 (by omega) (by omega)
    have g5 := a5 x.toNat (by omega)
    rw [show ((x.toNat : Nat) : Int) = x by omega] at g5
    have r51 := c_getr hrt 5 x 1
    have r52 := c_getr hrt 5 x 2
    have h51 := ((hLI 5 x (by omega) (by omega) (by omega)).2.2.2.2.2.1 rfl)
    refine jr_iload_n (pc := 13) h dX9_room_13 rfl ?_
    refine jr_if_lt (pc := 14) h 30 dX9_room_14 (by decide) (by omega) (fun c_14 => ?_) (fun c_14 => ?_)
    · first | have d_14 := bz_0.mp c_14 | have d_14 := bz_1.mp c_14 | skip
      refine jr_aload_n (pc := 30) h dX9_room_30 rfl ?_
      refine jr_iconst (pc := 31) h dX9_room_31 ?_
      refine iv_X9_58 (pc := 32) h hl hR dX9_room_32 ⟨(Nat.le_of_ble_eq_true rfl), (Nat.le_of_ble_eq_true rfl), (Nat.le_of_ble_eq_true rfl), (Nat.le_of_ble_eq_true rfl)⟩ (Nat.le_of_ble_eq_true rfl) (by assumption) (by omega) (s_X9_refused hX) (fun v_32 n_32 M_32 hn_32 hp => ?_)
      obtain ⟨⟨rfl, rfl⟩, hX, f9⟩ := hp
      have f1 := fr_tr f1 f9
      obtain ⟨hnm, hOm, hBm⟩ := id hX
      refine jr_iret (pc := 35) h hRt dX9_room_35 rfl (Nat.le_of_ble_eq_true rfl) (Nat.le_of_ble_eq_true rfl) ?_
      first
      | (refine lfA9D hD1 ?_ hX f1
         unfold x_room
         (repeat' split) <;> first | rfl | (exfalso; omega) | contradiction)
      | (refine lfA9D (D1 := B 2) hdl ?_ (by rw [show up B 2 (B 2) = B from up_id rfl]; exact hX) f1
         unfold x_room
         (repeat' split) <;> first | rfl | (exfalso; omega) | contradiction)
    · first | have d_14 := bz_0.mp c_14 | have d_14 := bz_1.mp c_14 | skip
      refine jr_iload_n (pc := 17) h dX9_room_17 rfl ?_
      refine jr_aload_n (pc := 18) h dX9_room_18 rfl ?_
      refine gf_X9_425 (pc := 19) h dX9_room_19 (by assumption) (by omega) ?_
      refine gf_X9_329 (pc := 22) h dX9_room_22 (by assumption) (by omega) ?_
      refine jr_iload_n (pc := 25) h dX9_room_25 rfl ?_
      refine jr_iald (pc := 26) h dX9_room_26 (by assumption) (by omega) (by omega) ?_
      refine jr_icmp_lt (pc := 27) h 36 dX9_room_27 (by decide) (by omega) (by omega) (fun c_27 => ?_) (fun c_27 => ?_)
      · first | have d_27 := bz_0.mp c_27 | have d_27 := bz_1.mp c_27 | skip
        refine jr_aload_n (pc := 36) h dX9_room_36 rfl ?_
        refine jr_iload_n (pc := 37) h dX9_room_37 rfl ?_
        refine iv_X9_572 (pc := 38) h hl hR dX9_room_38 ⟨(Nat.le_of_ble_eq_true rfl), (Nat.le_of_ble_eq_true rfl), (Nat.le_of_ble_eq_true rfl), (Nat.le_of_ble_eq_true rfl)⟩ (Nat.le_of_ble_eq_true rfl) (by assumption) (by omega) (s_X9_cleared hX hMF hFM hsep hdl hTr (by omega)) (fun v_38 n_38 M_38 hn_38 hp => ?_)
        obtain ⟨⟨rfl, rfl⟩, D1, hD1, ha1, hX, f9⟩ := hp
        have f1 := fr_tr f1 f9
        obtain ⟨hnm, hOm, hBm⟩ := id hX
        have hMF := MF_fr hMF f9 (Nat.le_refl _) (fun k h1 h2 q => by have := q.1; have := q.2; omega)
        refine jr_pop (pc := 41) h dX9_room_41 rfl ?_
        refine jr_aload_n (pc := 42) h dX9_room_42 rfl ?_
        refine jr_aload_n (pc := 43) h dX9_room_43 rfl ?_
        refine gf_X9_17 (pc := 44) h dX9_room_44 (by assumption) (by omega) ?_
        refine jr_iload_n (pc := 47) h dX9_room_47 rfl ?_
        have hB2 : M_38 (m + 2) = jdA 14 D1 := hBm 2 (by omega) (by omega)
        have ecn : c_cnt td x = c_get td 5 x 1 := by unfold c_cnt; omega
        have hcn : 0 ≤ c_cnt td x := by omega
        have hy9 := ha1 y.toNat (by omega)
        refine jr_iald (pc := 48) h dX9_room_48 (by assumption) (by omega) (by omega) ?_
        rw [hy9]
        refine iv_X9_62 (pc := 49) h hl hR dX9_room_49 ⟨(Nat.le_of_ble_eq_true rfl), (Nat.le_of_ble_eq_true rfl), (Nat.le_of_ble_eq_true rfl), (Nat.le_of_ble_eq_true rfl)⟩ (Nat.le_of_ble_eq_true rfl) (by assumption) (by omega) (s_X9_done hX) (fun v_49 n_49 M_49 hn_49 hp => ?_)
        obtain ⟨⟨rfl, rfl⟩, hX, f9⟩ := hp
        have f1 := fr_tr f1 f9
        obtain ⟨hnm, hOm, hBm⟩ := id hX
        refine jr_iret (pc := 52) h hRt dX9_room_52 rfl (Nat.le_of_ble_eq_true rfl) (Nat.le_of_ble_eq_true rfl) ?_
        first
        | (refine lfA9D hD1 ?_ hX f1
           unfold x_room
           (repeat' split) <;> first | rfl | (exfalso; omega) | contradiction)
        | (refine lfA9D (D1 := B 2) hdl ?_ (by rw [show up B 2 (B 2) = B from up_id rfl]; exact hX) f1
           unfold x_room
           (repeat' split) <;> first | rfl | (exfalso; omega) | contradiction)
      · first | have d_27 := bz_0.mp c_27 | have d_27 := bz_1.mp c_27 | skip
        refine jr_aload_n (pc := 30) h dX9_room_30 rfl ?_
        refine jr_iconst (pc := 31) h dX9_room_31 ?_
        refine iv_X9_58 (pc := 32) h hl hR dX9_room_32 ⟨(Nat.le_of_ble_eq_true rfl), (Nat.le_of_ble_eq_true rfl), (Nat.le_of_ble_eq_true rfl), (Nat.le_of_ble_eq_true rfl)⟩ (Nat.le_of_ble_eq_true rfl) (by assumption) (by omega) (s_X9_refused hX) (fun v_32 n_32 M_32 hn_32 hp => ?_)
        obtain ⟨⟨rfl, rfl⟩, hX, f9⟩ := hp
        have f1 := fr_tr f1 f9
        obtain ⟨hnm, hOm, hBm⟩ := id hX
        refine jr_iret (pc := 35) h hRt dX9_room_35 rfl (Nat.le_of_ble_eq_true rfl) (Nat.le_of_ble_eq_true rfl) ?_
        first
        | (refine lfA9D hD1 ?_ hX f1
           unfold x_room
           (repeat' split) <;> first | rfl | (exfalso; omega) | contradiction)
        | (refine lfA9D (D1 := B 2) hdl ?_ (by rw [show up B 2 (B 2) = B from up_id rfl]; exact hX) f1
           unfold x_room
           (repeat' split) <;> first | rfl | (exfalso; omega) | contradiction)
