/-! 83: the reference: selling -/
theorem up_cm {α : Type} {f : Nat → α} {i j : Nat} {a b : α} (h : i ≠ j) : up (up f i a) j b = up (up f j b) i a := by
  funext k
  unfold up
  by_cases q : k = j
  · rw [if_pos q, if_neg (by omega), if_pos q]
  · rw [if_neg q]
    by_cases q2 : k = i
    · rw [if_pos q2, if_pos q2]
    · rw [if_neg q2, if_neg q2, if_neg q]
theorem lfSl {M M' : jdM} {n m : Nat} {g G : Nat → Int} {w : Int} {fl rd : Value} {B B1 : Nat → Nat → Int} {Y : Int × Int × (Nat → Int) × (Nat → Int) × (Nat → Int)} {v t : Int} {tg' tk' tr' : Nat → Int} (e : Y = (v, t, tg', tk', tr')) (hG : G = rg (up g 26 (tg' 2)) t) (h8 : B1 8 = tk') (h9 : B1 9 = tr') (hB : ∀ j, j ≠ 8 → j ≠ 9 → j ≠ 10 → j ≠ 11 → B1 j = B j) (hX : MX M' n m G w fl rd B1) (f : fr (MXf m) M M') : (some (jI v) = some (jI Y.1) ∧ n = n) ∧ ∃ B', MX M' n m (rg (up g 26 (Y.2.2.1 2)) Y.2.1) w fl rd B' ∧ B' 8 = Y.2.2.2.1 ∧ B' 9 = Y.2.2.2.2 ∧ (∀ j, j ≠ 8 → j ≠ 9 → j ≠ 10 → j ≠ 11 → B' j = B j) ∧ fr (MXf m) M M' := by
  subst e hG
  exact ⟨⟨rfl, rfl⟩, B1, hX, h8, h9, hB, f⟩
theorem rg_26 {g : Nat → Int} {t z : Int} (h : g 26 = z) : up (up (up g 0 0) 1 t) 2 (-1) = rg (up g 26 z) t := by
  subst h
  rw [up_self]
  rfl
theorem rg_26' {g : Nat → Int} {t z : Int} : up (up (up (up g 0 0) 26 z) 1 t) 2 (-1) = rg (up g 26 z) t := by
  unfold rg
  rw [up_cm (f := g) (i := 0) (j := 26) (by omega)]
set_option maxHeartbeats 2000000 in
set_option maxRecDepth 20000 in
theorem s_X9_sell {l : Launch} {n : Nat} {M : jdM} {m : Nat} {g : Nat → Int} {w : Int} {fl rd : Value} {B : Nat → Nat → Int} (hX : MX M n m g w fl rd B) {ct td bk si ld : Nat → Int} (hFX : FX M n m fl ct td bk si ld) {tg : Nat → Int} (hnt : g 26 = tg 2) (hB8r : ∀ j : Nat, 0 ≤ B 8 j ∧ B 8 j ≤ 99) {x y : Int} (hx : -2147483648 ≤ x ∧ x < 2147483648) (hy : -2147483648 ≤ y ∧ y < 2147483648) : Ct l yX9_sell cX9_sell 6 (some .int) rX9_sell [.ref m, jI x, jI y] n M (fun vv n' M' => (vv = some (jI (y_sell ct td tg (B 8) (B 9) x y).1) ∧ n = n') ∧ ∃ B', MX M' n m (rg (up g 26 ((y_sell ct td tg (B 8) (B 9) x y).2.2.1 2)) (y_sell ct td tg (B 8) (B 9) x y).2.1) w fl rd B' ∧ B' 8 = (y_sell ct td tg (B 8) (B 9) x y).2.2.2.1 ∧ B' 9 = (y_sell ct td tg (B 8) (B 9) x y).2.2.2.2 ∧ (∀ j, j ≠ 8 → j ≠ 9 → j ≠ 10 → j ≠ 11 → B' j = B j) ∧ fr (MXf m) M M') := by
  refine Ct_of [some (.ref m), some (jI x), some (jI y), none, none, none] (by decide) (Nat.le_of_ble_eq_true rfl) rfl (fun κ hl h hR hRt hmn hn0 => ?_)
  have h : Ok κ RX9 cX9_sell 6 (some .int) := h
  rcases hFX with ⟨rfl, hz⟩ | ⟨f, gf, A, rfl, hsep, hMF, hFM⟩
  · skip
    have hr0 := rows0 (td := td) hz
    have z2 := hz 2
    have z5 := hz 5
    obtain ⟨hnm, hOm, hBm⟩ := id hX
    have hOm : M m = jdO 9 (fX9 m _ _ .null rd) := hOm
    have z12 := hz 12
    refine jr_aload_n (pc := 0) h dX9_sell_0 rfl ?_
    refine jr_iconst (pc := 1) h dX9_sell_1 ?_
    refine pf_X9_52 (pc := 2) h dX9_sell_2 hOm (by omega) ?_
    refine jm_gen (fun M2 hM2 => ?_)
    rw [fX9_0] at hM2
    have hX := MX_o hX hM2
    have f9 : fr (MXf m) _ M2 := fr_up hM2 ⟨by omega, by omega⟩
    obtain ⟨hnm, hOm, hBm⟩ := id hX
    have f1 := f9
    refine jr_aload_n (pc := 5) h dX9_sell_5 rfl ?_
    refine gf_X9_425 (pc := 6) h dX9_sell_6 (by assumption) (by omega) ?_
    refine jr_ifnullN (pc := 9) h 27 dX9_sell_9 (by decide) ?_
    refine jr_aload_n (pc := 27) h dX9_sell_27 rfl ?_
    refine jr_iconst (pc := 28) h dX9_sell_28 ?_
    refine iv_X9_58 (pc := 29) h hl hR dX9_sell_29 ⟨(Nat.le_of_ble_eq_true rfl), (Nat.le_of_ble_eq_true rfl), (Nat.le_of_ble_eq_true rfl), (Nat.le_of_ble_eq_true rfl)⟩ (Nat.le_of_ble_eq_true rfl) (by assumption) (by omega) (s_X9_refused hX) (fun v_29 n_29 M_29 hn_29 hp => ?_)
    obtain ⟨⟨rfl, rfl⟩, hX, f9⟩ := hp
    have f1 := fr_tr f1 f9
    obtain ⟨hnm, hOm, hBm⟩ := id hX
    refine jr_iret (pc := 32) h hRt dX9_sell_32 rfl (Nat.le_of_ble_eq_true rfl) (Nat.le_of_ble_eq_true rfl) ?_
    refine lfSl (tg' := tg) (tk' := B 8) (tr' := B 9) (v := -1) (t := 1) ?_ (rg_26 hnt) rfl rfl (fun _ _ _ _ _ => rfl) hX f1
    · unfold y_sell
      (repeat' split) <;> first | rfl | (exfalso; omega) | contradiction
  · skip
    obtain ⟨hnm, hOm, hBm⟩ := id hX
    have hOm : M m = jdO 9 (fX9 m _ _ (.ref f) rd) := hOm
    refine jr_aload_n (pc := 0) h dX9_sell_0 rfl ?_
    refine jr_iconst (pc := 1) h dX9_sell_1 ?_
    refine pf_X9_52 (pc := 2) h dX9_sell_2 hOm (by omega) ?_
    refine jm_gen (fun M2 hM2 => ?_)
    rw [fX9_0] at hM2
    have hX := MX_o hX hM2
    have f9 : fr (MXf m) _ M2 := fr_up hM2 ⟨by omega, by omega⟩
    obtain ⟨hnm, hOm, hBm⟩ := id hX
    have f1 := f9
    have hMF := MF_fr hMF f9 (Nat.le_refl _) (fun k h1 h2 q => by have := q.1; have := q.2; omega)
    obtain ⟨hnf, hOf, hAf⟩ := id hMF
    obtain ⟨⟨e0, e1, e2, e3, e4⟩, ⟨k5, k6, k7, k8, k9, k10, k11, k12, k13, k14, k15⟩, ⟨a2, a3, a4, a5, a6, a7, a8, a9, a10, a11, a12⟩, ⟨hlim, hLI, hends, hrt⟩, ⟨hbk, hld⟩, hc0, hc1, hc2, hc5⟩ := id hFM
    have l2 := hlim 2 (by omega)
    have l3 := hlim 3 (by omega)
    have l4 := hlim 4 (by omega)
    have l5 := hlim 5 (by omega)
    have l6 := hlim 6 (by omega)
    have l7 := hlim 7 (by omega)
    have l8 := hlim 8 (by omega)
    have l9 := hlim 9 (by omega)
    have l10 := hlim 10 (by omega)
    have l11 := hlim 11 (by omega)
    have l12 := hlim 12 (by omega)
    rw [show (jtab 0).2.2 2 = 4 from rfl] at l2
    rw [show (jtab 0).2.2 3 = 6 from rfl] at l3
    rw [show (jtab 0).2.2 4 = 6 from rfl] at l4
    rw [show (jtab 0).2.2 5 = 2 from rfl] at l5
    rw [show (jtab 0).2.2 6 = 8 from rfl] at l6
    rw [show (jtab 0).2.2 7 = 5 from rfl] at l7
    rw [show (jtab 0).2.2 8 = 6 from rfl] at l8
    rw [show (jtab 0).2.2 9 = 3 from rfl] at l9
    rw [show (jtab 0).2.2 10 = 3 from rfl] at l10
    rw [show (jtab 0).2.2 11 = 4 from rfl] at l11
    rw [show (jtab 0).2.2 12 = 4 from rfl] at l12
    have hcr : 1 ≤ c_rows ct td ∧ c_rows ct td ≤ 40 := by
      have h9 := (hLI 0 0 (by omega) (by omega) (by omega)).1 rfl
      have e9 : c_rows ct td = c_get td 0 0 0 := by unfold c_rows; rw [if_neg (by omega)]
      omega
    have hA26 : M2 (f + 26) = jdA 4 (A 26) := hAf 26 (by omega) (by omega)
    have hB8 : M2 (m + 8) = jdA 6 (B 8) := hBm 8 (by omega) (by omega)
    refine jr_aload_n (pc := 5) h dX9_sell_5 rfl ?_
    refine gf_X9_425 (pc := 6) h dX9_sell_6 (by assumption) (by omega) ?_
    refine jr_ifnull (pc := 9) h dX9_sell_9 ?_
    refine jr_iload_n (pc := 12) h dX9_sell_12 rfl ?_
    refine jr_if_lt (pc := 13) h 27 dX9_sell_13 (by decide) (by omega) (fun c_13 => ?_) (fun c_13 => ?_)
    · first | have d_13 := bz_0.mp c_13 | have d_13 := bz_1.mp c_13 | skip
      refine jr_aload_n (pc := 27) h dX9_sell_27 rfl ?_
      refine jr_iconst (pc := 28) h dX9_sell_28 ?_
      refine iv_X9_58 (pc := 29) h hl hR dX9_sell_29 ⟨(Nat.le_of_ble_eq_true rfl), (Nat.le_of_ble_eq_true rfl), (Nat.le_of_ble_eq_true rfl), (Nat.le_of_ble_eq_true rfl)⟩ (Nat.le_of_ble_eq_true rfl) (by assumption) (by omega) (s_X9_refused hX) (fun v_29 n_29 M_29 hn_29 hp => ?_)
      obtain ⟨⟨rfl, rfl⟩, hX, f9⟩ := hp
      have f1 := fr_tr f1 f9
      obtain ⟨hnm, hOm, hBm⟩ := id hX
      refine jr_iret (pc := 32) h hRt dX9_sell_32 rfl (Nat.le_of_ble_eq_true rfl) (Nat.le_of_ble_eq_true rfl) ?_
      refine lfSl (tg' := tg) (tk' := B 8) (tr' := B 9) (v := -1) (t := 1) ?_ (rg_26 hnt) rfl rfl (fun _ _ _ _ _ => rfl) hX f1
      · unfold y_sell
        (repeat' split) <;> first | rfl | (exfalso; omega) | contradiction
    · first | have d_13 := bz_0.mp c_13 | have d_13 := bz_1.mp c_13 | skip
      refine jr_iload_n (pc := 16) h dX9_sell_16 rfl ?_
      refine jr_aload_n (pc := 17) h dX9_sell_17 rfl ?_
      refine gf_X9_425 (pc := 18) h dX9_sell_18 (by assumption) (by omega) ?_
      refine gf_X9_411 (pc := 21) h dX9_sell_21 (by assumption) (by omega) ?_
      refine jr_icmp_lt (pc := 24) h 33 dX9_sell_24 (by decide) (by omega) (by omega) (fun c_24 => ?_) (fun c_24 => ?_)
      · first | have d_24 := bz_0.mp c_24 | have d_24 := bz_1.mp c_24 | skip
        refine jr_iload_n (pc := 33) h dX9_sell_33 rfl ?_
        have hprx := ((hLI 12 x (by omega) (by omega) (by omega)).2.2.2.2.2.2.2.2.2.2.2.2 rfl)
        have g12 := a12 x.toNat (by omega)
        rw [show ((x.toNat : Nat) : Int) = x by omega] at g12
        refine iv_X9_591 (pc := 34) h hl hR dX9_sell_34 ⟨(Nat.le_of_ble_eq_true rfl), (Nat.le_of_ble_eq_true rfl), (Nat.le_of_ble_eq_true rfl), (Nat.le_of_ble_eq_true rfl)⟩ (Nat.le_of_ble_eq_true rfl) (s_X9_coinOf (by omega)) (fun v_34 n_34 M_34 hn_34 hp => ?_)
        obtain ⟨⟨rfl, rfl, rfl⟩, gr_34⟩ := hp
        refine jr_istore_n (pc := 37) h [_, _, _, _, _, _] dX9_sell_37 (by decide) rfl ?_
        refine jr_iload_n (pc := 38) h dX9_sell_38 rfl ?_
        refine jr_iconst (pc := 39) h dX9_sell_39 ?_
        refine jr_icmp_ne (pc := 40) h 55 dX9_sell_40 (by decide) (by omega) (by omega) (fun c_40 => ?_) (fun c_40 => ?_)
        · first | have d_40 := bz_0.mp c_40 | have d_40 := bz_1.mp c_40 | skip
          refine jr_iload_n (pc := 55) h dX9_sell_55 rfl ?_
          refine jr_aload_n (pc := 56) h dX9_sell_56 rfl ?_
          refine gf_X9_425 (pc := 57) h dX9_sell_57 (by assumption) (by omega) ?_
          refine gf_X9_416 (pc := 60) h dX9_sell_60 (by assumption) (by omega) ?_
          refine jr_iload_n (pc := 63) h dX9_sell_63 rfl ?_
          refine jr_iald (pc := 64) h dX9_sell_64 hA26 (by omega) (by omega) ?_
          rw [g12]
          have hyc : 1 ≤ y ∧ y ≤ 100 := by
            by_cases q : coinI y = -1
            · omega
            · have := coinI_v q; omega
          refine jr_isub (pc := 65) h dX9_sell_65 ?_
          refine jr_istore (pc := 66) h [_, _, _, _, _, _] dX9_sell_66 (by decide) rfl ?_
          refine jr_iload (pc := 68) h dX9_sell_68 rfl ?_
          refine jr_if_ge (pc := 70) h 79 dX9_sell_70 (by decide) (by omega) (fun c_70 => ?_) (fun c_70 => ?_)
          · first | have d_70 := bz_0.mp c_70 | have d_70 := bz_1.mp c_70 | skip
            refine jr_iload_n (pc := 79) h dX9_sell_79 rfl ?_
            refine jr_iconst (pc := 80) h dX9_sell_80 ?_
            refine jr_icmp_eq (pc := 81) h 95 dX9_sell_81 (by decide) (by omega) (by omega) (fun c_81 => ?_) (fun c_81 => ?_)
            · first | have d_81 := bz_0.mp c_81 | have d_81 := bz_1.mp c_81 | skip
              refine jr_aload_n (pc := 95) h dX9_sell_95 rfl ?_
              refine jr_iload (pc := 96) h dX9_sell_96 rfl ?_
              refine iv_X9_600 (pc := 98) h hl hR dX9_sell_98 ⟨(Nat.le_of_ble_eq_true rfl), (Nat.le_of_ble_eq_true rfl), (Nat.le_of_ble_eq_true rfl), (Nat.le_of_ble_eq_true rfl)⟩ (Nat.le_of_ble_eq_true rfl) (by assumption) (by omega) (s_X9_gives hX hB8r (a := y - c_get td 12 x 0) (by omega)) (fun v_98 n_98 M_98 hn_98 hp => ?_)
              obtain ⟨⟨rfl, rfl⟩, b11, b10, hX, hgv, f9⟩ := hp
              have gr_98 := bz_r (mnC (B 8) 6 (y - c_get td 12 x 0) < 1000)
              have f1 := fr_tr f1 f9
              obtain ⟨hnm, hOm, hBm⟩ := id hX
              have hOm : M_98 m = jdO 9 (fX9 m _ _ (.ref f) rd) := hOm
              refine jr_if_ne (pc := 101) h 111 dX9_sell_101 (by decide) (by omega) (fun c_101 => ?_) (fun c_101 => ?_)
              · first | have d_101 := bz_0.mp c_101 | have d_101 := bz_1.mp c_101 | skip
                refine jr_iconst (pc := 111) h dX9_sell_111 ?_
                refine jr_istore (pc := 112) h [_, _, _, _, _, _] dX9_sell_112 (by decide) rfl ?_
                have hs8 := hB8r (coinI y).toNat
                obtain ⟨a9, ea9⟩ : ∃ z, y - c_get td 12 x 0 = z := ⟨_, rfl⟩
                rw [ea9] at hgv d_101 ⊢
                have loop : ∀ (dq : Nat) (i : Int) (M1 : jdM) (B1 : Nat → Nat → Int), (0 ≤ i ∧ i ≤ 6) → (MX M1 n m (up g 0 0) w (.ref f) rd B1) → (fr (MXf m) M M1) → (∀ j, j ≠ 8 → j ≠ 9 → j ≠ 10 → j ≠ 11 → B1 j = B j) → (∀ j : Nat, j < 6 → B1 10 j = gbC (B 8) a9 j) → (B1 8 = (fun j : Nat => if (j : Int) < i then B 8 j - gbC (B 8) a9 j else B 8 j)) → (B1 9 = (fun j : Nat => if (j : Int) < i then gbC (B 8) a9 j else B 9 j)) → (6 - i).toNat < dq → J κ 6 0 0 n 114 [some (.ref m), some (jI x), some (jI y), some (jI (coinI y)), some (jI a9), some (jI i)] [] M1 := by
                  intro dq
                  induction dq with
                  | zero => intro i M1 B1 hi hX f1 hBo h10 h8 h9 hd; omega
                  | succ dq ih =>
                    intro i M1 B1 hi hX f1 hBo h10 h8 h9 hd
                    obtain ⟨hnm, hOm, hBm⟩ := id hX
                    have hOm : M1 m = jdO 9 (fX9 m _ _ (.ref f) rd) := hOm
                    have hB8 : M1 (m + 8) = jdA 6 (B1 8) := hBm 8 (by omega) (by omega)
                    have hB9 : M1 (m + 9) = jdA 6 (B1 9) := hBm 9 (by omega) (by omega)
                    have hB10 : M1 (m + 10) = jdA 6 (B1 10) := hBm 10 (by omega) (by omega)
                    refine jr_iload (pc := 114) h dX9_sell_114 rfl ?_
                    refine jr_bipush (pc := 116) h dX9_sell_116 bp_6 ?_
                    refine jr_icmp_ge (pc := 118) h 158 dX9_sell_118 (by decide) (by omega) (by omega) (fun c_118 => ?_) (fun c_118 => ?_)
                    · first | have d_118 := bz_0.mp c_118 | have d_118 := bz_1.mp c_118 | skip
                      refine jr_iload_n (pc := 158) h dX9_sell_158 rfl ?_
                      refine jr_iconst (pc := 159) h dX9_sell_159 ?_
                      refine jr_icmp_eq (pc := 160) h 176 dX9_sell_160 (by decide) (by omega) (by omega) (fun c_160 => ?_) (fun c_160 => ?_)
                      · first | have d_160 := bz_0.mp c_160 | have d_160 := bz_1.mp c_160 | skip
                        refine jr_aload_n (pc := 176) h dX9_sell_176 rfl ?_
                        refine jr_dup (pc := 177) h dX9_sell_177 rfl ?_
                        refine gf_X9_603 (pc := 178) h dX9_sell_178 (by assumption) (by omega) ?_
                        refine jr_iconst (pc := 181) h dX9_sell_181 ?_
                        refine jr_iadd (pc := 182) h dX9_sell_182 ?_
                        refine pf_X9_603 (pc := 183) h dX9_sell_183 hOm (by omega) ?_
                        refine jm_gen (fun M2 hM2 => ?_)
                        rw [fX9_26] at hM2
                        have hX := MX_o hX hM2
                        have f9 : fr (MXf m) _ M2 := fr_up hM2 ⟨by omega, by omega⟩
                        obtain ⟨hnm, hOm, hBm⟩ := id hX
                        have f1 := fr_tr f1 f9
                        skip
                        refine jr_aload_n (pc := 186) h dX9_sell_186 rfl ?_
                        refine jr_iload (pc := 187) h dX9_sell_187 rfl ?_
                        refine iv_X9_62 (pc := 189) h hl hR dX9_sell_189 ⟨(Nat.le_of_ble_eq_true rfl), (Nat.le_of_ble_eq_true rfl), (Nat.le_of_ble_eq_true rfl), (Nat.le_of_ble_eq_true rfl)⟩ (Nat.le_of_ble_eq_true rfl) (by assumption) (by omega) (s_X9_done hX) (fun v_189 n_189 M_189 hn_189 hp => ?_)
                        obtain ⟨⟨rfl, rfl⟩, hX, f9⟩ := hp
                        have f1 := fr_tr f1 f9
                        obtain ⟨hnm, hOm, hBm⟩ := id hX
                        refine jr_iret (pc := 192) h hRt dX9_sell_192 rfl (Nat.le_of_ble_eq_true rfl) (Nat.le_of_ble_eq_true rfl) ?_
                        have e8 : B1 8 = gbSk (B 8) a9 (-1) := by
                          rw [h8]
                          funext j
                          unfold gbSk
                          by_cases q : (j : Int) < i
                          · rw [if_pos q, if_pos (by omega)]
                          · rw [if_neg q, if_neg (by omega)]
                        have e9 : B1 9 = gbRt (B 8) (B 9) a9 (-1) := by
                          rw [h9]
                          funext j
                          unfold gbRt
                          by_cases q : (j : Int) < i
                          · rw [if_pos q, if_pos (by omega)]
                          · rw [if_neg q, if_neg (by omega)]
                        first
                        | (have hcn : coinI y = -1 := by omega
                           refine lfSl (tg' := up tg 2 (tg 2 + 1)) (tk' := gbSk (B 8) a9 (-1)) (tr' := gbRt (B 8) (B 9) a9 (-1)) (v := a9) (t := 0) ?_ ?_ e8 e9 hBo hX f1
                           · unfold y_sell
                             rw [ea9, if_pos (by omega), if_neg (by omega), if_neg (by omega), if_neg (by omega), if_neg (by omega), if_neg (by omega)]
                           · rw [up_eq, ← hnt]
                             rw [show up g 0 0 26 = g 26 from up_ne (by omega)]
                             exact rg_26')
                        | (have hcn : ¬ coinI y = -1 := by omega
                           refine lfSl (tg' := tg) (tk' := up (gbSk (B 8) a9 (-1)) (coinI y).toNat (gbSk (B 8) a9 (-1) (coinI y).toNat + 1)) (tr' := gbRt (B 8) (B 9) a9 (-1)) (v := a9) (t := 0) ?_ (rg_26 hnt) ?_ ?_ ?_ hX f1
                           · unfold y_sell
                             rw [ea9, if_pos (by omega), if_neg (by omega), if_neg (by omega), if_neg (by omega), if_pos (by omega), if_pos (by omega)]
                           · rw [up_eq, e8]
                           · rw [up_ne (by omega), e9]
                           · intro j q1 q2 q3 q4
                             rw [up_ne q1]; exact hBo j q1 q2 q3 q4)
                      · first | have d_160 := bz_0.mp c_160 | have d_160 := bz_1.mp c_160 | skip
                        have hB8 := hB8
                        refine jr_aload_n (pc := 163) h dX9_sell_163 rfl ?_
                        refine gf_X9_37 (pc := 164) h dX9_sell_164 (by assumption) (by omega) ?_
                        refine jr_iload_n (pc := 167) h dX9_sell_167 rfl ?_
                        refine jr_dup2 (pc := 168) h dX9_sell_168 rfl rfl ?_
                        refine jr_iald (pc := 169) h dX9_sell_169 (by assumption) (by omega) (by omega) ?_
                        refine jr_iconst (pc := 170) h dX9_sell_170 ?_
                        refine jr_iadd (pc := 171) h dX9_sell_171 ?_
                        refine jr_iast (pc := 172) h dX9_sell_172 hB8 (by omega) (by omega) ?_
                        refine jm_gen (fun M3 hM3 => ?_)
                        have hX := MX_B (i := 8) hX hM3 (by omega)
                        have f9 : fr (MXf m) _ M3 := fr_up (S := MXf m) hM3 ⟨by omega, by omega⟩
                        have f1 := fr_tr f1 f9
                        obtain ⟨hnm, hOm, hBm⟩ := id hX
                        have hOm : M3 m = jdO 9 (fX9 m _ _ (.ref f) rd) := hOm
                        refine jr_goto (pc := 173) h 186 dX9_sell_173 (by decide) ?_
                        skip
                        refine jr_aload_n (pc := 186) h dX9_sell_186 rfl ?_
                        refine jr_iload (pc := 187) h dX9_sell_187 rfl ?_
                        refine iv_X9_62 (pc := 189) h hl hR dX9_sell_189 ⟨(Nat.le_of_ble_eq_true rfl), (Nat.le_of_ble_eq_true rfl), (Nat.le_of_ble_eq_true rfl), (Nat.le_of_ble_eq_true rfl)⟩ (Nat.le_of_ble_eq_true rfl) (by assumption) (by omega) (s_X9_done hX) (fun v_189 n_189 M_189 hn_189 hp => ?_)
                        obtain ⟨⟨rfl, rfl⟩, hX, f9⟩ := hp
                        have f1 := fr_tr f1 f9
                        obtain ⟨hnm, hOm, hBm⟩ := id hX
                        refine jr_iret (pc := 192) h hRt dX9_sell_192 rfl (Nat.le_of_ble_eq_true rfl) (Nat.le_of_ble_eq_true rfl) ?_
                        have e8 : B1 8 = gbSk (B 8) a9 (-1) := by
                          rw [h8]
                          funext j
                          unfold gbSk
                          by_cases q : (j : Int) < i
                          · rw [if_pos q, if_pos (by omega)]
                          · rw [if_neg q, if_neg (by omega)]
                        have e9 : B1 9 = gbRt (B 8) (B 9) a9 (-1) := by
                          rw [h9]
                          funext j
                          unfold gbRt
                          by_cases q : (j : Int) < i
                          · rw [if_pos q, if_pos (by omega)]
                          · rw [if_neg q, if_neg (by omega)]
                        first
                        | (have hcn : coinI y = -1 := by omega
                           refine lfSl (tg' := up tg 2 (tg 2 + 1)) (tk' := gbSk (B 8) a9 (-1)) (tr' := gbRt (B 8) (B 9) a9 (-1)) (v := a9) (t := 0) ?_ ?_ e8 e9 hBo hX f1
                           · unfold y_sell
                             rw [ea9, if_pos (by omega), if_neg (by omega), if_neg (by omega), if_neg (by omega), if_neg (by omega), if_neg (by omega)]
                           · rw [up_eq, ← hnt]
                             rw [show up g 0 0 26 = g 26 from up_ne (by omega)]
                             exact rg_26')
                        | (have hcn : ¬ coinI y = -1 := by omega
                           refine lfSl (tg' := tg) (tk' := up (gbSk (B 8) a9 (-1)) (coinI y).toNat (gbSk (B 8) a9 (-1) (coinI y).toNat + 1)) (tr' := gbRt (B 8) (B 9) a9 (-1)) (v := a9) (t := 0) ?_ (rg_26 hnt) ?_ ?_ ?_ hX f1
                           · unfold y_sell
                             rw [ea9, if_pos (by omega), if_neg (by omega), if_neg (by omega), if_neg (by omega), if_pos (by omega), if_pos (by omega)]
                           · rw [up_eq, e8]
                           · rw [up_ne (by omega), e9]
                           · intro j q1 q2 q3 q4
                             rw [up_ne q1]; exact hBo j q1 q2 q3 q4)
                    · first | have d_118 := bz_0.mp c_118 | have d_118 := bz_1.mp c_118 | skip
                      refine jr_aload_n (pc := 121) h dX9_sell_121 rfl ?_
                      refine gf_X9_40 (pc := 122) h dX9_sell_122 (by assumption) (by omega) ?_
                      refine jr_iload (pc := 125) h dX9_sell_125 rfl ?_
                      refine jr_aload_n (pc := 127) h dX9_sell_127 rfl ?_
                      refine gf_X9_43 (pc := 128) h dX9_sell_128 (by assumption) (by omega) ?_
                      refine jr_iload (pc := 131) h dX9_sell_131 rfl ?_
                      refine jr_iald (pc := 133) h dX9_sell_133 (by assumption) (by omega) (by omega) ?_
                      refine jr_iast (pc := 134) h dX9_sell_134 hB9 (by omega) (by omega) ?_
                      refine jm_gen (fun M3 hM3 => ?_)
                      have hX := MX_B (i := 9) hX hM3 (by omega)
                      have f9 : fr (MXf m) _ M3 := fr_up (S := MXf m) hM3 ⟨by omega, by omega⟩
                      have f1 := fr_tr f1 f9
                      obtain ⟨hnm, hOm, hBm⟩ := id hX
                      have hOm : M3 m = jdO 9 (fX9 m _ _ (.ref f) rd) := hOm
                      have hB8 : M3 (m + 8) = jdA 6 (B1 8) := hBm 8 (by omega) (by omega)
                      have hB10 : M3 (m + 10) = jdA 6 (B1 10) := hBm 10 (by omega) (by omega)
                      refine jr_aload_n (pc := 135) h dX9_sell_135 rfl ?_
                      refine gf_X9_37 (pc := 136) h dX9_sell_136 (by assumption) (by omega) ?_
                      refine jr_iload (pc := 139) h dX9_sell_139 rfl ?_
                      refine jr_dup2 (pc := 141) h dX9_sell_141 rfl rfl ?_
                      refine jr_iald (pc := 142) h dX9_sell_142 (by assumption) (by omega) (by omega) ?_
                      refine jr_aload_n (pc := 143) h dX9_sell_143 rfl ?_
                      refine gf_X9_43 (pc := 144) h dX9_sell_144 (by assumption) (by omega) ?_
                      refine jr_iload (pc := 147) h dX9_sell_147 rfl ?_
                      refine jr_iald (pc := 149) h dX9_sell_149 (by assumption) (by omega) (by omega) ?_
                      refine jr_isub (pc := 150) h dX9_sell_150 ?_
                      refine jr_iast (pc := 151) h dX9_sell_151 hB8 (by omega) (by omega) ?_
                      refine jm_gen (fun M3 hM3 => ?_)
                      have hX := MX_B (i := 8) hX hM3 (by omega)
                      have f9 : fr (MXf m) _ M3 := fr_up (S := MXf m) hM3 ⟨by omega, by omega⟩
                      have f1 := fr_tr f1 f9
                      obtain ⟨hnm, hOm, hBm⟩ := id hX
                      have hOm : M3 m = jdO 9 (fX9 m _ _ (.ref f) rd) := hOm
                      refine jr_iinc (pc := 152) h [_, _, _, _, _, _] dX9_sell_152 (by decide) rfl rfl ?_
                      refine jr_goto (pc := 155) h 114 dX9_sell_155 (by decide) ?_
                      refine ih _ _ _ (by omega) hX f1 ?_ ?_ ?_ ?_ (by omega)
                      · intro j q1 q2 q3 q4
                        rw [up_ne q1, up_ne q2]; exact hBo j q1 q2 q3 q4
                      · intro j hj
                        rw [up_ne (by omega), up_ne (by omega)]; exact h10 j hj
                      · rw [up_eq]
                        funext j
                        try dsimp only
                        by_cases q : j = i.toNat
                        · rw [q, up_eq, if_pos (by omega), h8, h10 _ (by omega)]
                          try dsimp only
                          rw [if_neg (by omega)]
                        · rw [up_ne q, h8]
                          try dsimp only
                          by_cases q2 : (j : Int) < i
                          · rw [if_pos q2, if_pos (by omega)]
                          · rw [if_neg q2, if_neg (by omega)]
                      · rw [up_ne (by omega), up_eq]
                        funext j
                        try dsimp only
                        by_cases q : j = i.toNat
                        · rw [q, up_eq, if_pos (by omega), h10 _ (by omega)]
                        · rw [up_ne q, h9]
                          try dsimp only
                          by_cases q2 : (j : Int) < i
                          · rw [if_pos q2, if_pos (by omega)]
                          · rw [if_neg q2, if_neg (by omega)]
                refine loop _ _ _ _ (by omega) hX f1 (fun j q1 q2 q3 q4 => by rw [up_ne q3, up_ne q4]) (fun j hj => by rw [up_eq]; exact hgv (by omega) j hj) ?_ ?_ (Nat.lt_succ_self _)
                · funext j; (try dsimp only); rw [if_neg (by omega), up_ne (by omega), up_ne (by omega)]
                · funext j; (try dsimp only); rw [if_neg (by omega), up_ne (by omega), up_ne (by omega)]
              · first | have d_101 := bz_0.mp c_101 | have d_101 := bz_1.mp c_101 | skip
                refine jr_aload_n (pc := 104) h dX9_sell_104 rfl ?_
                refine jr_bipush (pc := 105) h dX9_sell_105 bp_6 ?_
                refine iv_X9_58 (pc := 107) h hl hR dX9_sell_107 ⟨(Nat.le_of_ble_eq_true rfl), (Nat.le_of_ble_eq_true rfl), (Nat.le_of_ble_eq_true rfl), (Nat.le_of_ble_eq_true rfl)⟩ (Nat.le_of_ble_eq_true rfl) (by assumption) (by omega) (s_X9_refused hX) (fun v_107 n_107 M_107 hn_107 hp => ?_)
                obtain ⟨⟨rfl, rfl⟩, hX, f9⟩ := hp
                have f1 := fr_tr f1 f9
                obtain ⟨hnm, hOm, hBm⟩ := id hX
                refine jr_iret (pc := 110) h hRt dX9_sell_110 rfl (Nat.le_of_ble_eq_true rfl) (Nat.le_of_ble_eq_true rfl) ?_
                first
                | (refine lfSl (tg' := tg) (tk' := B 8) (tr' := B 9) (v := -1) (t := 6) ?_ (rg_26 hnt) rfl rfl (fun _ _ _ _ _ => rfl) hX f1
                   unfold y_sell
                   rw [if_pos (by omega), if_neg (by omega), if_neg (by omega), if_pos (by omega)])
                | (refine lfSl (B1 := up (up B 11 b11) 10 b10) (tg' := tg) (tk' := B 8) (tr' := B 9) (v := -1) (t := 6) ?_ (rg_26 hnt) rfl rfl (fun j q1 q2 q3 q4 => by rw [up_ne q3, up_ne q4]) hX f1
                   unfold y_sell
                   rw [if_pos (by omega), if_neg (by omega), if_neg (by omega), if_pos (by omega)])
            · first | have d_81 := bz_0.mp c_81 | have d_81 := bz_1.mp c_81 | skip
              refine jr_aload_n (pc := 84) h dX9_sell_84 rfl ?_
              have hs8 := hB8r (coinI y).toNat
              refine gf_X9_37 (pc := 85) h dX9_sell_85 (by assumption) (by omega) ?_
              refine jr_iload_n (pc := 88) h dX9_sell_88 rfl ?_
              refine jr_iald (pc := 89) h dX9_sell_89 (by assumption) (by omega) (by omega) ?_
              refine jr_bipush (pc := 90) h dX9_sell_90 bp_99 ?_
              refine jr_icmp_eq (pc := 92) h 104 dX9_sell_92 (by decide) (by omega) (by omega) (fun c_92 => ?_) (fun c_92 => ?_)
              · first | have d_92 := bz_0.mp c_92 | have d_92 := bz_1.mp c_92 | skip
                refine jr_aload_n (pc := 104) h dX9_sell_104 rfl ?_
                refine jr_bipush (pc := 105) h dX9_sell_105 bp_6 ?_
                refine iv_X9_58 (pc := 107) h hl hR dX9_sell_107 ⟨(Nat.le_of_ble_eq_true rfl), (Nat.le_of_ble_eq_true rfl), (Nat.le_of_ble_eq_true rfl), (Nat.le_of_ble_eq_true rfl)⟩ (Nat.le_of_ble_eq_true rfl) (by assumption) (by omega) (s_X9_refused hX) (fun v_107 n_107 M_107 hn_107 hp => ?_)
                obtain ⟨⟨rfl, rfl⟩, hX, f9⟩ := hp
                have f1 := fr_tr f1 f9
                obtain ⟨hnm, hOm, hBm⟩ := id hX
                refine jr_iret (pc := 110) h hRt dX9_sell_110 rfl (Nat.le_of_ble_eq_true rfl) (Nat.le_of_ble_eq_true rfl) ?_
                first
                | (refine lfSl (tg' := tg) (tk' := B 8) (tr' := B 9) (v := -1) (t := 6) ?_ (rg_26 hnt) rfl rfl (fun _ _ _ _ _ => rfl) hX f1
                   unfold y_sell
                   rw [if_pos (by omega), if_neg (by omega), if_neg (by omega), if_pos (by omega)])
                | (refine lfSl (B1 := up (up B 11 b11) 10 b10) (tg' := tg) (tk' := B 8) (tr' := B 9) (v := -1) (t := 6) ?_ (rg_26 hnt) rfl rfl (fun j q1 q2 q3 q4 => by rw [up_ne q3, up_ne q4]) hX f1
                   unfold y_sell
                   rw [if_pos (by omega), if_neg (by omega), if_neg (by omega), if_pos (by omega)])
              · first | have d_92 := bz_0.mp c_92 | have d_92 := bz_1.mp c_92 | skip
                refine jr_aload_n (pc := 95) h dX9_sell_95 rfl ?_
                refine jr_iload (pc := 96) h dX9_sell_96 rfl ?_
                refine iv_X9_600 (pc := 98) h hl hR dX9_sell_98 ⟨(Nat.le_of_ble_eq_true rfl), (Nat.le_of_ble_eq_true rfl), (Nat.le_of_ble_eq_true rfl), (Nat.le_of_ble_eq_true rfl)⟩ (Nat.le_of_ble_eq_true rfl) (by assumption) (by omega) (s_X9_gives hX hB8r (a := y - c_get td 12 x 0) (by omega)) (fun v_98 n_98 M_98 hn_98 hp => ?_)
                obtain ⟨⟨rfl, rfl⟩, b11, b10, hX, hgv, f9⟩ := hp
                have gr_98 := bz_r (mnC (B 8) 6 (y - c_get td 12 x 0) < 1000)
                have f1 := fr_tr f1 f9
                obtain ⟨hnm, hOm, hBm⟩ := id hX
                have hOm : M_98 m = jdO 9 (fX9 m _ _ (.ref f) rd) := hOm
                refine jr_if_ne (pc := 101) h 111 dX9_sell_101 (by decide) (by omega) (fun c_101 => ?_) (fun c_101 => ?_)
                · first | have d_101 := bz_0.mp c_101 | have d_101 := bz_1.mp c_101 | skip
                  refine jr_iconst (pc := 111) h dX9_sell_111 ?_
                  refine jr_istore (pc := 112) h [_, _, _, _, _, _] dX9_sell_112 (by decide) rfl ?_
                  have hs8 := hB8r (coinI y).toNat
                  obtain ⟨a9, ea9⟩ : ∃ z, y - c_get td 12 x 0 = z := ⟨_, rfl⟩
                  rw [ea9] at hgv d_101 ⊢
                  have loop : ∀ (dq : Nat) (i : Int) (M1 : jdM) (B1 : Nat → Nat → Int), (0 ≤ i ∧ i ≤ 6) → (MX M1 n m (up g 0 0) w (.ref f) rd B1) → (fr (MXf m) M M1) → (∀ j, j ≠ 8 → j ≠ 9 → j ≠ 10 → j ≠ 11 → B1 j = B j) → (∀ j : Nat, j < 6 → B1 10 j = gbC (B 8) a9 j) → (B1 8 = (fun j : Nat => if (j : Int) < i then B 8 j - gbC (B 8) a9 j else B 8 j)) → (B1 9 = (fun j : Nat => if (j : Int) < i then gbC (B 8) a9 j else B 9 j)) → (6 - i).toNat < dq → J κ 6 0 0 n 114 [some (.ref m), some (jI x), some (jI y), some (jI (coinI y)), some (jI a9), some (jI i)] [] M1 := by
                    intro dq
                    induction dq with
                    | zero => intro i M1 B1 hi hX f1 hBo h10 h8 h9 hd; omega
                    | succ dq ih =>
                      intro i M1 B1 hi hX f1 hBo h10 h8 h9 hd
                      obtain ⟨hnm, hOm, hBm⟩ := id hX
                      have hOm : M1 m = jdO 9 (fX9 m _ _ (.ref f) rd) := hOm
                      have hB8 : M1 (m + 8) = jdA 6 (B1 8) := hBm 8 (by omega) (by omega)
                      have hB9 : M1 (m + 9) = jdA 6 (B1 9) := hBm 9 (by omega) (by omega)
                      have hB10 : M1 (m + 10) = jdA 6 (B1 10) := hBm 10 (by omega) (by omega)
                      refine jr_iload (pc := 114) h dX9_sell_114 rfl ?_
                      refine jr_bipush (pc := 116) h dX9_sell_116 bp_6 ?_
                      refine jr_icmp_ge (pc := 118) h 158 dX9_sell_118 (by decide) (by omega) (by omega) (fun c_118 => ?_) (fun c_118 => ?_)
                      · first | have d_118 := bz_0.mp c_118 | have d_118 := bz_1.mp c_118 | skip
                        refine jr_iload_n (pc := 158) h dX9_sell_158 rfl ?_
                        refine jr_iconst (pc := 159) h dX9_sell_159 ?_
                        refine jr_icmp_eq (pc := 160) h 176 dX9_sell_160 (by decide) (by omega) (by omega) (fun c_160 => ?_) (fun c_160 => ?_)
                        · first | have d_160 := bz_0.mp c_160 | have d_160 := bz_1.mp c_160 | skip
                          refine jr_aload_n (pc := 176) h dX9_sell_176 rfl ?_
                          refine jr_dup (pc := 177) h dX9_sell_177 rfl ?_
                          refine gf_X9_603 (pc := 178) h dX9_sell_178 (by assumption) (by omega) ?_
                          refine jr_iconst (pc := 181) h dX9_sell_181 ?_
                          refine jr_iadd (pc := 182) h dX9_sell_182 ?_
                          refine pf_X9_603 (pc := 183) h dX9_sell_183 hOm (by omega) ?_
                          refine jm_gen (fun M2 hM2 => ?_)
                          rw [fX9_26] at hM2
                          have hX := MX_o hX hM2
                          have f9 : fr (MXf m) _ M2 := fr_up hM2 ⟨by omega, by omega⟩
                          obtain ⟨hnm, hOm, hBm⟩ := id hX
                          have f1 := fr_tr f1 f9
                          skip
                          refine jr_aload_n (pc := 186) h dX9_sell_186 rfl ?_
                          refine jr_iload (pc := 187) h dX9_sell_187 rfl ?_
                          refine iv_X9_62 (pc := 189) h hl hR dX9_sell_189 ⟨(Nat.le_of_ble_eq_true rfl), (Nat.le_of_ble_eq_true rfl), (Nat.le_of_ble_eq_true rfl), (Nat.le_of_ble_eq_true rfl)⟩ (Nat.le_of_ble_eq_true rfl) (by assumption) (by omega) (s_X9_done hX) (fun v_189 n_189 M_189 hn_189 hp => ?_)
                          obtain ⟨⟨rfl, rfl⟩, hX, f9⟩ := hp
                          have f1 := fr_tr f1 f9
                          obtain ⟨hnm, hOm, hBm⟩ := id hX
                          refine jr_iret (pc := 192) h hRt dX9_sell_192 rfl (Nat.le_of_ble_eq_true rfl) (Nat.le_of_ble_eq_true rfl) ?_
                          have e8 : B1 8 = gbSk (B 8) a9 (-1) := by
                            rw [h8]
                            funext j
                            unfold gbSk
                            by_cases q : (j : Int) < i
                            · rw [if_pos q, if_pos (by omega)]
                            · rw [if_neg q, if_neg (by omega)]
                          have e9 : B1 9 = gbRt (B 8) (B 9) a9 (-1) := by
                            rw [h9]
                            funext j
                            unfold gbRt
                            by_cases q : (j : Int) < i
                            · rw [if_pos q, if_pos (by omega)]
                            · rw [if_neg q, if_neg (by omega)]
                          first
                          | (have hcn : coinI y = -1 := by omega
                             refine lfSl (tg' := up tg 2 (tg 2 + 1)) (tk' := gbSk (B 8) a9 (-1)) (tr' := gbRt (B 8) (B 9) a9 (-1)) (v := a9) (t := 0) ?_ ?_ e8 e9 hBo hX f1
                             · unfold y_sell
                               rw [ea9, if_pos (by omega), if_neg (by omega), if_neg (by omega), if_neg (by omega), if_neg (by omega), if_neg (by omega)]
                             · rw [up_eq, ← hnt]
                               rw [show up g 0 0 26 = g 26 from up_ne (by omega)]
                               exact rg_26')
                          | (have hcn : ¬ coinI y = -1 := by omega
                             refine lfSl (tg' := tg) (tk' := up (gbSk (B 8) a9 (-1)) (coinI y).toNat (gbSk (B 8) a9 (-1) (coinI y).toNat + 1)) (tr' := gbRt (B 8) (B 9) a9 (-1)) (v := a9) (t := 0) ?_ (rg_26 hnt) ?_ ?_ ?_ hX f1
                             · unfold y_sell
                               rw [ea9, if_pos (by omega), if_neg (by omega), if_neg (by omega), if_neg (by omega), if_pos (by omega), if_pos (by omega)]
                             · rw [up_eq, e8]
                             · rw [up_ne (by omega), e9]
                             · intro j q1 q2 q3 q4
                               rw [up_ne q1]; exact hBo j q1 q2 q3 q4)
                        · first | have d_160 := bz_0.mp c_160 | have d_160 := bz_1.mp c_160 | skip
                          have hB8 := hB8
                          refine jr_aload_n (pc := 163) h dX9_sell_163 rfl ?_
                          refine gf_X9_37 (pc := 164) h dX9_sell_164 (by assumption) (by omega) ?_
                          refine jr_iload_n (pc := 167) h dX9_sell_167 rfl ?_
                          refine jr_dup2 (pc := 168) h dX9_sell_168 rfl rfl ?_
                          refine jr_iald (pc := 169) h dX9_sell_169 (by assumption) (by omega) (by omega) ?_
                          refine jr_iconst (pc := 170) h dX9_sell_170 ?_
                          refine jr_iadd (pc := 171) h dX9_sell_171 ?_
                          refine jr_iast (pc := 172) h dX9_sell_172 hB8 (by omega) (by omega) ?_
                          refine jm_gen (fun M3 hM3 => ?_)
                          have hX := MX_B (i := 8) hX hM3 (by omega)
                          have f9 : fr (MXf m) _ M3 := fr_up (S := MXf m) hM3 ⟨by omega, by omega⟩
                          have f1 := fr_tr f1 f9
                          obtain ⟨hnm, hOm, hBm⟩ := id hX
                          have hOm : M3 m = jdO 9 (fX9 m _ _ (.ref f) rd) := hOm
                          refine jr_goto (pc := 173) h 186 dX9_sell_173 (by decide) ?_
                          skip
                          refine jr_aload_n (pc := 186) h dX9_sell_186 rfl ?_
                          refine jr_iload (pc := 187) h dX9_sell_187 rfl ?_
                          refine iv_X9_62 (pc := 189) h hl hR dX9_sell_189 ⟨(Nat.le_of_ble_eq_true rfl), (Nat.le_of_ble_eq_true rfl), (Nat.le_of_ble_eq_true rfl), (Nat.le_of_ble_eq_true rfl)⟩ (Nat.le_of_ble_eq_true rfl) (by assumption) (by omega) (s_X9_done hX) (fun v_189 n_189 M_189 hn_189 hp => ?_)
                          obtain ⟨⟨rfl, rfl⟩, hX, f9⟩ := hp
                          have f1 := fr_tr f1 f9
                          obtain ⟨hnm, hOm, hBm⟩ := id hX
                          refine jr_iret (pc := 192) h hRt dX9_sell_192 rfl (Nat.le_of_ble_eq_true rfl) (Nat.le_of_ble_eq_true rfl) ?_
                          have e8 : B1 8 = gbSk (B 8) a9 (-1) := by
                            rw [h8]
                            funext j
                            unfold gbSk
                            by_cases q : (j : Int) < i
                            · rw [if_pos q, if_pos (by omega)]
                            · rw [if_neg q, if_neg (by omega)]
                          have e9 : B1 9 = gbRt (B 8) (B 9) a9 (-1) := by
                            rw [h9]
                            funext j
                            unfold gbRt
                            by_cases q : (j : Int) < i
                            · rw [if_pos q, if_pos (by omega)]
                            · rw [if_neg q, if_neg (by omega)]
                          first
                          | (have hcn : coinI y = -1 := by omega
                             refine lfSl (tg' := up tg 2 (tg 2 + 1)) (tk' := gbSk (B 8) a9 (-1)) (tr' := gbRt (B 8) (B 9) a9 (-1)) (v := a9) (t := 0) ?_ ?_ e8 e9 hBo hX f1
                             · unfold y_sell
                               rw [ea9, if_pos (by omega), if_neg (by omega), if_neg (by omega), if_neg (by omega), if_neg (by omega), if_neg (by omega)]
                             · rw [up_eq, ← hnt]
                               rw [show up g 0 0 26 = g 26 from up_ne (by omega)]
                               exact rg_26')
                          | (have hcn : ¬ coinI y = -1 := by omega
                             refine lfSl (tg' := tg) (tk' := up (gbSk (B 8) a9 (-1)) (coinI y).toNat (gbSk (B 8) a9 (-1) (coinI y).toNat + 1)) (tr' := gbRt (B 8) (B 9) a9 (-1)) (v := a9) (t := 0) ?_ (rg_26 hnt) ?_ ?_ ?_ hX f1
                             · unfold y_sell
                               rw [ea9, if_pos (by omega), if_neg (by omega), if_neg (by omega), if_neg (by omega), if_pos (by omega), if_pos (by omega)]
                             · rw [up_eq, e8]
                             · rw [up_ne (by omega), e9]
                             · intro j q1 q2 q3 q4
                               rw [up_ne q1]; exact hBo j q1 q2 q3 q4)
                      · first | have d_118 := bz_0.mp c_118 | have d_118 := bz_1.mp c_118 | skip
                        refine jr_aload_n (pc := 121) h dX9_sell_121 rfl ?_
                        refine gf_X9_40 (pc := 122) h dX9_sell_122 (by assumption) (by omega) ?_
                        refine jr_iload (pc := 125) h dX9_sell_125 rfl ?_
                        refine jr_aload_n (pc := 127) h dX9_sell_127 rfl ?_
                        refine gf_X9_43 (pc := 128) h dX9_sell_128 (by assumption) (by omega) ?_
                        refine jr_iload (pc := 131) h dX9_sell_131 rfl ?_
                        refine jr_iald (pc := 133) h dX9_sell_133 (by assumption) (by omega) (by omega) ?_
                        refine jr_iast (pc := 134) h dX9_sell_134 hB9 (by omega) (by omega) ?_
                        refine jm_gen (fun M3 hM3 => ?_)
                        have hX := MX_B (i := 9) hX hM3 (by omega)
                        have f9 : fr (MXf m) _ M3 := fr_up (S := MXf m) hM3 ⟨by omega, by omega⟩
                        have f1 := fr_tr f1 f9
                        obtain ⟨hnm, hOm, hBm⟩ := id hX
                        have hOm : M3 m = jdO 9 (fX9 m _ _ (.ref f) rd) := hOm
                        have hB8 : M3 (m + 8) = jdA 6 (B1 8) := hBm 8 (by omega) (by omega)
                        have hB10 : M3 (m + 10) = jdA 6 (B1 10) := hBm 10 (by omega) (by omega)
                        refine jr_aload_n (pc := 135) h dX9_sell_135 rfl ?_
                        refine gf_X9_37 (pc := 136) h dX9_sell_136 (by assumption) (by omega) ?_
                        refine jr_iload (pc := 139) h dX9_sell_139 rfl ?_
                        refine jr_dup2 (pc := 141) h dX9_sell_141 rfl rfl ?_
                        refine jr_iald (pc := 142) h dX9_sell_142 (by assumption) (by omega) (by omega) ?_
                        refine jr_aload_n (pc := 143) h dX9_sell_143 rfl ?_
                        refine gf_X9_43 (pc := 144) h dX9_sell_144 (by assumption) (by omega) ?_
                        refine jr_iload (pc := 147) h dX9_sell_147 rfl ?_
                        refine jr_iald (pc := 149) h dX9_sell_149 (by assumption) (by omega) (by omega) ?_
                        refine jr_isub (pc := 150) h dX9_sell_150 ?_
                        refine jr_iast (pc := 151) h dX9_sell_151 hB8 (by omega) (by omega) ?_
                        refine jm_gen (fun M3 hM3 => ?_)
                        have hX := MX_B (i := 8) hX hM3 (by omega)
                        have f9 : fr (MXf m) _ M3 := fr_up (S := MXf m) hM3 ⟨by omega, by omega⟩
                        have f1 := fr_tr f1 f9
                        obtain ⟨hnm, hOm, hBm⟩ := id hX
                        have hOm : M3 m = jdO 9 (fX9 m _ _ (.ref f) rd) := hOm
                        refine jr_iinc (pc := 152) h [_, _, _, _, _, _] dX9_sell_152 (by decide) rfl rfl ?_
                        refine jr_goto (pc := 155) h 114 dX9_sell_155 (by decide) ?_
                        refine ih _ _ _ (by omega) hX f1 ?_ ?_ ?_ ?_ (by omega)
                        · intro j q1 q2 q3 q4
                          rw [up_ne q1, up_ne q2]; exact hBo j q1 q2 q3 q4
                        · intro j hj
                          rw [up_ne (by omega), up_ne (by omega)]; exact h10 j hj
                        · rw [up_eq]
                          funext j
                          try dsimp only
                          by_cases q : j = i.toNat
                          · rw [q, up_eq, if_pos (by omega), h8, h10 _ (by omega)]
                            try dsimp only
                            rw [if_neg (by omega)]
                          · rw [up_ne q, h8]
                            try dsimp only
                            by_cases q2 : (j : Int) < i
                            · rw [if_pos q2, if_pos (by omega)]
                            · rw [if_neg q2, if_neg (by omega)]
                        · rw [up_ne (by omega), up_eq]
                          funext j
                          try dsimp only
                          by_cases q : j = i.toNat
                          · rw [q, up_eq, if_pos (by omega), h10 _ (by omega)]
                          · rw [up_ne q, h9]
                            try dsimp only
                            by_cases q2 : (j : Int) < i
                            · rw [if_pos q2, if_pos (by omega)]
                            · rw [if_neg q2, if_neg (by omega)]
                  refine loop _ _ _ _ (by omega) hX f1 (fun j q1 q2 q3 q4 => by rw [up_ne q3, up_ne q4]) (fun j hj => by rw [up_eq]; exact hgv (by omega) j hj) ?_ ?_ (Nat.lt_succ_self _)
                  · funext j; (try dsimp only); rw [if_neg (by omega), up_ne (by omega), up_ne (by omega)]
                  · funext j; (try dsimp only); rw [if_neg (by omega), up_ne (by omega), up_ne (by omega)]
                · first | have d_101 := bz_0.mp c_101 | have d_101 := bz_1.mp c_101 | skip
                  refine jr_aload_n (pc := 104) h dX9_sell_104 rfl ?_
                  refine jr_bipush (pc := 105) h dX9_sell_105 bp_6 ?_
                  refine iv_X9_58 (pc := 107) h hl hR dX9_sell_107 ⟨(Nat.le_of_ble_eq_true rfl), (Nat.le_of_ble_eq_true rfl), (Nat.le_of_ble_eq_true rfl), (Nat.le_of_ble_eq_true rfl)⟩ (Nat.le_of_ble_eq_true rfl) (by assumption) (by omega) (s_X9_refused hX) (fun v_107 n_107 M_107 hn_107 hp => ?_)
                  obtain ⟨⟨rfl, rfl⟩, hX, f9⟩ := hp
                  have f1 := fr_tr f1 f9
                  obtain ⟨hnm, hOm, hBm⟩ := id hX
                  refine jr_iret (pc := 110) h hRt dX9_sell_110 rfl (Nat.le_of_ble_eq_true rfl) (Nat.le_of_ble_eq_true rfl) ?_
                  first
                  | (refine lfSl (tg' := tg) (tk' := B 8) (tr' := B 9) (v := -1) (t := 6) ?_ (rg_26 hnt) rfl rfl (fun _ _ _ _ _ => rfl) hX f1
                     unfold y_sell
                     rw [if_pos (by omega), if_neg (by omega), if_neg (by omega), if_pos (by omega)])
                  | (refine lfSl (B1 := up (up B 11 b11) 10 b10) (tg' := tg) (tk' := B 8) (tr' := B 9) (v := -1) (t := 6) ?_ (rg_26 hnt) rfl rfl (fun j q1 q2 q3 q4 => by rw [up_ne q3, up_ne q4]) hX f1
                     unfold y_sell
                     rw [if_pos (by omega), if_neg (by omega), if_neg (by omega), if_pos (by omega)])
          · first | have d_70 := bz_0.mp c_70 | have d_70 := bz_1.mp c_70 | skip
            refine jr_aload_n (pc := 73) h dX9_sell_73 rfl ?_
            refine jr_iconst (pc := 74) h dX9_sell_74 ?_
            refine iv_X9_58 (pc := 75) h hl hR dX9_sell_75 ⟨(Nat.le_of_ble_eq_true rfl), (Nat.le_of_ble_eq_true rfl), (Nat.le_of_ble_eq_true rfl), (Nat.le_of_ble_eq_true rfl)⟩ (Nat.le_of_ble_eq_true rfl) (by assumption) (by omega) (s_X9_refused hX) (fun v_75 n_75 M_75 hn_75 hp => ?_)
            obtain ⟨⟨rfl, rfl⟩, hX, f9⟩ := hp
            have f1 := fr_tr f1 f9
            obtain ⟨hnm, hOm, hBm⟩ := id hX
            refine jr_iret (pc := 78) h hRt dX9_sell_78 rfl (Nat.le_of_ble_eq_true rfl) (Nat.le_of_ble_eq_true rfl) ?_
            refine lfSl (tg' := tg) (tk' := B 8) (tr' := B 9) (v := -1) (t := 5) ?_ (rg_26 hnt) rfl rfl (fun _ _ _ _ _ => rfl) hX f1
            · unfold y_sell
              (repeat' split) <;> first | rfl | (exfalso; omega) | contradiction
        · first | have d_40 := bz_0.mp c_40 | have d_40 := bz_1.mp c_40 | skip
          refine jr_iload_n (pc := 43) h dX9_sell_43 rfl ?_
          refine jr_bipush (pc := 44) h dX9_sell_44 bp_100 ?_
          refine jr_icmp_eq (pc := 46) h 55 dX9_sell_46 (by decide) (by omega) (by omega) (fun c_46 => ?_) (fun c_46 => ?_)
          · first | have d_46 := bz_0.mp c_46 | have d_46 := bz_1.mp c_46 | skip
            refine jr_iload_n (pc := 55) h dX9_sell_55 rfl ?_
            refine jr_aload_n (pc := 56) h dX9_sell_56 rfl ?_
            refine gf_X9_425 (pc := 57) h dX9_sell_57 (by assumption) (by omega) ?_
            refine gf_X9_416 (pc := 60) h dX9_sell_60 (by assumption) (by omega) ?_
            refine jr_iload_n (pc := 63) h dX9_sell_63 rfl ?_
            refine jr_iald (pc := 64) h dX9_sell_64 hA26 (by omega) (by omega) ?_
            rw [g12]
            have hyc : 1 ≤ y ∧ y ≤ 100 := by
              by_cases q : coinI y = -1
              · omega
              · have := coinI_v q; omega
            refine jr_isub (pc := 65) h dX9_sell_65 ?_
            refine jr_istore (pc := 66) h [_, _, _, _, _, _] dX9_sell_66 (by decide) rfl ?_
            refine jr_iload (pc := 68) h dX9_sell_68 rfl ?_
            refine jr_if_ge (pc := 70) h 79 dX9_sell_70 (by decide) (by omega) (fun c_70 => ?_) (fun c_70 => ?_)
            · first | have d_70 := bz_0.mp c_70 | have d_70 := bz_1.mp c_70 | skip
              refine jr_iload_n (pc := 79) h dX9_sell_79 rfl ?_
              refine jr_iconst (pc := 80) h dX9_sell_80 ?_
              refine jr_icmp_eq (pc := 81) h 95 dX9_sell_81 (by decide) (by omega) (by omega) (fun c_81 => ?_) (fun c_81 => ?_)
              · first | have d_81 := bz_0.mp c_81 | have d_81 := bz_1.mp c_81 | skip
                refine jr_aload_n (pc := 95) h dX9_sell_95 rfl ?_
                refine jr_iload (pc := 96) h dX9_sell_96 rfl ?_
                refine iv_X9_600 (pc := 98) h hl hR dX9_sell_98 ⟨(Nat.le_of_ble_eq_true rfl), (Nat.le_of_ble_eq_true rfl), (Nat.le_of_ble_eq_true rfl), (Nat.le_of_ble_eq_true rfl)⟩ (Nat.le_of_ble_eq_true rfl) (by assumption) (by omega) (s_X9_gives hX hB8r (a := y - c_get td 12 x 0) (by omega)) (fun v_98 n_98 M_98 hn_98 hp => ?_)
                obtain ⟨⟨rfl, rfl⟩, b11, b10, hX, hgv, f9⟩ := hp
                have gr_98 := bz_r (mnC (B 8) 6 (y - c_get td 12 x 0) < 1000)
                have f1 := fr_tr f1 f9
                obtain ⟨hnm, hOm, hBm⟩ := id hX
                have hOm : M_98 m = jdO 9 (fX9 m _ _ (.ref f) rd) := hOm
                refine jr_if_ne (pc := 101) h 111 dX9_sell_101 (by decide) (by omega) (fun c_101 => ?_) (fun c_101 => ?_)
                · first | have d_101 := bz_0.mp c_101 | have d_101 := bz_1.mp c_101 | skip
                  refine jr_iconst (pc := 111) h dX9_sell_111 ?_
                  refine jr_istore (pc := 112) h [_, _, _, _, _, _] dX9_sell_112 (by decide) rfl ?_
                  have hs8 := hB8r (coinI y).toNat
                  obtain ⟨a9, ea9⟩ : ∃ z, y - c_get td 12 x 0 = z := ⟨_, rfl⟩
                  rw [ea9] at hgv d_101 ⊢
                  have loop : ∀ (dq : Nat) (i : Int) (M1 : jdM) (B1 : Nat → Nat → Int), (0 ≤ i ∧ i ≤ 6) → (MX M1 n m (up g 0 0) w (.ref f) rd B1) → (fr (MXf m) M M1) → (∀ j, j ≠ 8 → j ≠ 9 → j ≠ 10 → j ≠ 11 → B1 j = B j) → (∀ j : Nat, j < 6 → B1 10 j = gbC (B 8) a9 j) → (B1 8 = (fun j : Nat => if (j : Int) < i then B 8 j - gbC (B 8) a9 j else B 8 j)) → (B1 9 = (fun j : Nat => if (j : Int) < i then gbC (B 8) a9 j else B 9 j)) → (6 - i).toNat < dq → J κ 6 0 0 n 114 [some (.ref m), some (jI x), some (jI y), some (jI (coinI y)), some (jI a9), some (jI i)] [] M1 := by
                    intro dq
                    induction dq with
                    | zero => intro i M1 B1 hi hX f1 hBo h10 h8 h9 hd; omega
                    | succ dq ih =>
                      intro i M1 B1 hi hX f1 hBo h10 h8 h9 hd
                      obtain ⟨hnm, hOm, hBm⟩ := id hX
                      have hOm : M1 m = jdO 9 (fX9 m _ _ (.ref f) rd) := hOm
                      have hB8 : M1 (m + 8) = jdA 6 (B1 8) := hBm 8 (by omega) (by omega)
                      have hB9 : M1 (m + 9) = jdA 6 (B1 9) := hBm 9 (by omega) (by omega)
                      have hB10 : M1 (m + 10) = jdA 6 (B1 10) := hBm 10 (by omega) (by omega)
                      refine jr_iload (pc := 114) h dX9_sell_114 rfl ?_
                      refine jr_bipush (pc := 116) h dX9_sell_116 bp_6 ?_
                      refine jr_icmp_ge (pc := 118) h 158 dX9_sell_118 (by decide) (by omega) (by omega) (fun c_118 => ?_) (fun c_118 => ?_)
                      · first | have d_118 := bz_0.mp c_118 | have d_118 := bz_1.mp c_118 | skip
                        refine jr_iload_n (pc := 158) h dX9_sell_158 rfl ?_
                        refine jr_iconst (pc := 159) h dX9_sell_159 ?_
                        refine jr_icmp_eq (pc := 160) h 176 dX9_sell_160 (by decide) (by omega) (by omega) (fun c_160 => ?_) (fun c_160 => ?_)
                        · first | have d_160 := bz_0.mp c_160 | have d_160 := bz_1.mp c_160 | skip
                          refine jr_aload_n (pc := 176) h dX9_sell_176 rfl ?_
                          refine jr_dup (pc := 177) h dX9_sell_177 rfl ?_
                          refine gf_X9_603 (pc := 178) h dX9_sell_178 (by assumption) (by omega) ?_
                          refine jr_iconst (pc := 181) h dX9_sell_181 ?_
                          refine jr_iadd (pc := 182) h dX9_sell_182 ?_
                          refine pf_X9_603 (pc := 183) h dX9_sell_183 hOm (by omega) ?_
                          refine jm_gen (fun M2 hM2 => ?_)
                          rw [fX9_26] at hM2
                          have hX := MX_o hX hM2
                          have f9 : fr (MXf m) _ M2 := fr_up hM2 ⟨by omega, by omega⟩
                          obtain ⟨hnm, hOm, hBm⟩ := id hX
                          have f1 := fr_tr f1 f9
                          skip
                          refine jr_aload_n (pc := 186) h dX9_sell_186 rfl ?_
                          refine jr_iload (pc := 187) h dX9_sell_187 rfl ?_
                          refine iv_X9_62 (pc := 189) h hl hR dX9_sell_189 ⟨(Nat.le_of_ble_eq_true rfl), (Nat.le_of_ble_eq_true rfl), (Nat.le_of_ble_eq_true rfl), (Nat.le_of_ble_eq_true rfl)⟩ (Nat.le_of_ble_eq_true rfl) (by assumption) (by omega) (s_X9_done hX) (fun v_189 n_189 M_189 hn_189 hp => ?_)
                          obtain ⟨⟨rfl, rfl⟩, hX, f9⟩ := hp
                          have f1 := fr_tr f1 f9
                          obtain ⟨hnm, hOm, hBm⟩ := id hX
                          refine jr_iret (pc := 192) h hRt dX9_sell_192 rfl (Nat.le_of_ble_eq_true rfl) (Nat.le_of_ble_eq_true rfl) ?_
                          have e8 : B1 8 = gbSk (B 8) a9 (-1) := by
                            rw [h8]
                            funext j
                            unfold gbSk
                            by_cases q : (j : Int) < i
                            · rw [if_pos q, if_pos (by omega)]
                            · rw [if_neg q, if_neg (by omega)]
                          have e9 : B1 9 = gbRt (B 8) (B 9) a9 (-1) := by
                            rw [h9]
                            funext j
                            unfold gbRt
                            by_cases q : (j : Int) < i
                            · rw [if_pos q, if_pos (by omega)]
                            · rw [if_neg q, if_neg (by omega)]
                          first
                          | (have hcn : coinI y = -1 := by omega
                             refine lfSl (tg' := up tg 2 (tg 2 + 1)) (tk' := gbSk (B 8) a9 (-1)) (tr' := gbRt (B 8) (B 9) a9 (-1)) (v := a9) (t := 0) ?_ ?_ e8 e9 hBo hX f1
                             · unfold y_sell
                               rw [ea9, if_pos (by omega), if_neg (by omega), if_neg (by omega), if_neg (by omega), if_neg (by omega), if_neg (by omega)]
                             · rw [up_eq, ← hnt]
                               rw [show up g 0 0 26 = g 26 from up_ne (by omega)]
                               exact rg_26')
                          | (have hcn : ¬ coinI y = -1 := by omega
                             refine lfSl (tg' := tg) (tk' := up (gbSk (B 8) a9 (-1)) (coinI y).toNat (gbSk (B 8) a9 (-1) (coinI y).toNat + 1)) (tr' := gbRt (B 8) (B 9) a9 (-1)) (v := a9) (t := 0) ?_ (rg_26 hnt) ?_ ?_ ?_ hX f1
                             · unfold y_sell
                               rw [ea9, if_pos (by omega), if_neg (by omega), if_neg (by omega), if_neg (by omega), if_pos (by omega), if_pos (by omega)]
                             · rw [up_eq, e8]
                             · rw [up_ne (by omega), e9]
                             · intro j q1 q2 q3 q4
                               rw [up_ne q1]; exact hBo j q1 q2 q3 q4)
                        · first | have d_160 := bz_0.mp c_160 | have d_160 := bz_1.mp c_160 | skip
                          have hB8 := hB8
                          refine jr_aload_n (pc := 163) h dX9_sell_163 rfl ?_
                          refine gf_X9_37 (pc := 164) h dX9_sell_164 (by assumption) (by omega) ?_
                          refine jr_iload_n (pc := 167) h dX9_sell_167 rfl ?_
                          refine jr_dup2 (pc := 168) h dX9_sell_168 rfl rfl ?_
                          refine jr_iald (pc := 169) h dX9_sell_169 (by assumption) (by omega) (by omega) ?_
                          refine jr_iconst (pc := 170) h dX9_sell_170 ?_
                          refine jr_iadd (pc := 171) h dX9_sell_171 ?_
                          refine jr_iast (pc := 172) h dX9_sell_172 hB8 (by omega) (by omega) ?_
                          refine jm_gen (fun M3 hM3 => ?_)
                          have hX := MX_B (i := 8) hX hM3 (by omega)
                          have f9 : fr (MXf m) _ M3 := fr_up (S := MXf m) hM3 ⟨by omega, by omega⟩
                          have f1 := fr_tr f1 f9
                          obtain ⟨hnm, hOm, hBm⟩ := id hX
                          have hOm : M3 m = jdO 9 (fX9 m _ _ (.ref f) rd) := hOm
                          refine jr_goto (pc := 173) h 186 dX9_sell_173 (by decide) ?_
                          skip
                          refine jr_aload_n (pc := 186) h dX9_sell_186 rfl ?_
                          refine jr_iload (pc := 187) h dX9_sell_187 rfl ?_
                          refine iv_X9_62 (pc := 189) h hl hR dX9_sell_189 ⟨(Nat.le_of_ble_eq_true rfl), (Nat.le_of_ble_eq_true rfl), (Nat.le_of_ble_eq_true rfl), (Nat.le_of_ble_eq_true rfl)⟩ (Nat.le_of_ble_eq_true rfl) (by assumption) (by omega) (s_X9_done hX) (fun v_189 n_189 M_189 hn_189 hp => ?_)
                          obtain ⟨⟨rfl, rfl⟩, hX, f9⟩ := hp
                          have f1 := fr_tr f1 f9
                          obtain ⟨hnm, hOm, hBm⟩ := id hX
                          refine jr_iret (pc := 192) h hRt dX9_sell_192 rfl (Nat.le_of_ble_eq_true rfl) (Nat.le_of_ble_eq_true rfl) ?_
                          have e8 : B1 8 = gbSk (B 8) a9 (-1) := by
                            rw [h8]
                            funext j
                            unfold gbSk
                            by_cases q : (j : Int) < i
                            · rw [if_pos q, if_pos (by omega)]
                            · rw [if_neg q, if_neg (by omega)]
                          have e9 : B1 9 = gbRt (B 8) (B 9) a9 (-1) := by
                            rw [h9]
                            funext j
                            unfold gbRt
                            by_cases q : (j : Int) < i
                            · rw [if_pos q, if_pos (by omega)]
                            · rw [if_neg q, if_neg (by omega)]
                          first
                          | (have hcn : coinI y = -1 := by omega
                             refine lfSl (tg' := up tg 2 (tg 2 + 1)) (tk' := gbSk (B 8) a9 (-1)) (tr' := gbRt (B 8) (B 9) a9 (-1)) (v := a9) (t := 0) ?_ ?_ e8 e9 hBo hX f1
                             · unfold y_sell
                               rw [ea9, if_pos (by omega), if_neg (by omega), if_neg (by omega), if_neg (by omega), if_neg (by omega), if_neg (by omega)]
                             · rw [up_eq, ← hnt]
                               rw [show up g 0 0 26 = g 26 from up_ne (by omega)]
                               exact rg_26')
                          | (have hcn : ¬ coinI y = -1 := by omega
                             refine lfSl (tg' := tg) (tk' := up (gbSk (B 8) a9 (-1)) (coinI y).toNat (gbSk (B 8) a9 (-1) (coinI y).toNat + 1)) (tr' := gbRt (B 8) (B 9) a9 (-1)) (v := a9) (t := 0) ?_ (rg_26 hnt) ?_ ?_ ?_ hX f1
                             · unfold y_sell
                               rw [ea9, if_pos (by omega), if_neg (by omega), if_neg (by omega), if_neg (by omega), if_pos (by omega), if_pos (by omega)]
                             · rw [up_eq, e8]
                             · rw [up_ne (by omega), e9]
                             · intro j q1 q2 q3 q4
                               rw [up_ne q1]; exact hBo j q1 q2 q3 q4)
                      · first | have d_118 := bz_0.mp c_118 | have d_118 := bz_1.mp c_118 | skip
                        refine jr_aload_n (pc := 121) h dX9_sell_121 rfl ?_
                        refine gf_X9_40 (pc := 122) h dX9_sell_122 (by assumption) (by omega) ?_
                        refine jr_iload (pc := 125) h dX9_sell_125 rfl ?_
                        refine jr_aload_n (pc := 127) h dX9_sell_127 rfl ?_
                        refine gf_X9_43 (pc := 128) h dX9_sell_128 (by assumption) (by omega) ?_
                        refine jr_iload (pc := 131) h dX9_sell_131 rfl ?_
                        refine jr_iald (pc := 133) h dX9_sell_133 (by assumption) (by omega) (by omega) ?_
                        refine jr_iast (pc := 134) h dX9_sell_134 hB9 (by omega) (by omega) ?_
                        refine jm_gen (fun M3 hM3 => ?_)
                        have hX := MX_B (i := 9) hX hM3 (by omega)
                        have f9 : fr (MXf m) _ M3 := fr_up (S := MXf m) hM3 ⟨by omega, by omega⟩
                        have f1 := fr_tr f1 f9
                        obtain ⟨hnm, hOm, hBm⟩ := id hX
                        have hOm : M3 m = jdO 9 (fX9 m _ _ (.ref f) rd) := hOm
                        have hB8 : M3 (m + 8) = jdA 6 (B1 8) := hBm 8 (by omega) (by omega)
                        have hB10 : M3 (m + 10) = jdA 6 (B1 10) := hBm 10 (by omega) (by omega)
                        refine jr_aload_n (pc := 135) h dX9_sell_135 rfl ?_
                        refine gf_X9_37 (pc := 136) h dX9_sell_136 (by assumption) (by omega) ?_
                        refine jr_iload (pc := 139) h dX9_sell_139 rfl ?_
                        refine jr_dup2 (pc := 141) h dX9_sell_141 rfl rfl ?_
                        refine jr_iald (pc := 142) h dX9_sell_142 (by assumption) (by omega) (by omega) ?_
                        refine jr_aload_n (pc := 143) h dX9_sell_143 rfl ?_
                        refine gf_X9_43 (pc := 144) h dX9_sell_144 (by assumption) (by omega) ?_
                        refine jr_iload (pc := 147) h dX9_sell_147 rfl ?_
                        refine jr_iald (pc := 149) h dX9_sell_149 (by assumption) (by omega) (by omega) ?_
                        refine jr_isub (pc := 150) h dX9_sell_150 ?_
                        refine jr_iast (pc := 151) h dX9_sell_151 hB8 (by omega) (by omega) ?_
                        refine jm_gen (fun M3 hM3 => ?_)
                        have hX := MX_B (i := 8) hX hM3 (by omega)
                        have f9 : fr (MXf m) _ M3 := fr_up (S := MXf m) hM3 ⟨by omega, by omega⟩
                        have f1 := fr_tr f1 f9
                        obtain ⟨hnm, hOm, hBm⟩ := id hX
                        have hOm : M3 m = jdO 9 (fX9 m _ _ (.ref f) rd) := hOm
                        refine jr_iinc (pc := 152) h [_, _, _, _, _, _] dX9_sell_152 (by decide) rfl rfl ?_
                        refine jr_goto (pc := 155) h 114 dX9_sell_155 (by decide) ?_
                        refine ih _ _ _ (by omega) hX f1 ?_ ?_ ?_ ?_ (by omega)
                        · intro j q1 q2 q3 q4
                          rw [up_ne q1, up_ne q2]; exact hBo j q1 q2 q3 q4
                        · intro j hj
                          rw [up_ne (by omega), up_ne (by omega)]; exact h10 j hj
                        · rw [up_eq]
                          funext j
                          try dsimp only
                          by_cases q : j = i.toNat
                          · rw [q, up_eq, if_pos (by omega), h8, h10 _ (by omega)]
                            try dsimp only
                            rw [if_neg (by omega)]
                          · rw [up_ne q, h8]
                            try dsimp only
                            by_cases q2 : (j : Int) < i
                            · rw [if_pos q2, if_pos (by omega)]
                            · rw [if_neg q2, if_neg (by omega)]
                        · rw [up_ne (by omega), up_eq]
                          funext j
                          try dsimp only
                          by_cases q : j = i.toNat
                          · rw [q, up_eq, if_pos (by omega), h10 _ (by omega)]
                          · rw [up_ne q, h9]
                            try dsimp only
                            by_cases q2 : (j : Int) < i
                            · rw [if_pos q2, if_pos (by omega)]
                            · rw [if_neg q2, if_neg (by omega)]
                  refine loop _ _ _ _ (by omega) hX f1 (fun j q1 q2 q3 q4 => by rw [up_ne q3, up_ne q4]) (fun j hj => by rw [up_eq]; exact hgv (by omega) j hj) ?_ ?_ (Nat.lt_succ_self _)
                  · funext j; (try dsimp only); rw [if_neg (by omega), up_ne (by omega), up_ne (by omega)]
                  · funext j; (try dsimp only); rw [if_neg (by omega), up_ne (by omega), up_ne (by omega)]
                · first | have d_101 := bz_0.mp c_101 | have d_101 := bz_1.mp c_101 | skip
                  refine jr_aload_n (pc := 104) h dX9_sell_104 rfl ?_
                  refine jr_bipush (pc := 105) h dX9_sell_105 bp_6 ?_
                  refine iv_X9_58 (pc := 107) h hl hR dX9_sell_107 ⟨(Nat.le_of_ble_eq_true rfl), (Nat.le_of_ble_eq_true rfl), (Nat.le_of_ble_eq_true rfl), (Nat.le_of_ble_eq_true rfl)⟩ (Nat.le_of_ble_eq_true rfl) (by assumption) (by omega) (s_X9_refused hX) (fun v_107 n_107 M_107 hn_107 hp => ?_)
                  obtain ⟨⟨rfl, rfl⟩, hX, f9⟩ := hp
                  have f1 := fr_tr f1 f9
                  obtain ⟨hnm, hOm, hBm⟩ := id hX
                  refine jr_iret (pc := 110) h hRt dX9_sell_110 rfl (Nat.le_of_ble_eq_true rfl) (Nat.le_of_ble_eq_true rfl) ?_
                  first
                  | (refine lfSl (tg' := tg) (tk' := B 8) (tr' := B 9) (v := -1) (t := 6) ?_ (rg_26 hnt) rfl rfl (fun _ _ _ _ _ => rfl) hX f1
                     unfold y_sell
                     rw [if_pos (by omega), if_neg (by omega), if_neg (by omega), if_pos (by omega)])
                  | (refine lfSl (B1 := up (up B 11 b11) 10 b10) (tg' := tg) (tk' := B 8) (tr' := B 9) (v := -1) (t := 6) ?_ (rg_26 hnt) rfl rfl (fun j q1 q2 q3 q4 => by rw [up_ne q3, up_ne q4]) hX f1
                     unfold y_sell
                     rw [if_pos (by omega), if_neg (by omega), if_neg (by omega), if_pos (by omega)])
              · first | have d_81 := bz_0.mp c_81 | have d_81 := bz_1.mp c_81 | skip
                refine jr_aload_n (pc := 84) h dX9_sell_84 rfl ?_
                have hs8 := hB8r (coinI y).toNat
                refine gf_X9_37 (pc := 85) h dX9_sell_85 (by assumption) (by omega) ?_
                refine jr_iload_n (pc := 88) h dX9_sell_88 rfl ?_
                refine jr_iald (pc := 89) h dX9_sell_89 (by assumption) (by omega) (by omega) ?_
                refine jr_bipush (pc := 90) h dX9_sell_90 bp_99 ?_
                refine jr_icmp_eq (pc := 92) h 104 dX9_sell_92 (by decide) (by omega) (by omega) (fun c_92 => ?_) (fun c_92 => ?_)
                · first | have d_92 := bz_0.mp c_92 | have d_92 := bz_1.mp c_92 | skip
                  refine jr_aload_n (pc := 104) h dX9_sell_104 rfl ?_
                  refine jr_bipush (pc := 105) h dX9_sell_105 bp_6 ?_
                  refine iv_X9_58 (pc := 107) h hl hR dX9_sell_107 ⟨(Nat.le_of_ble_eq_true rfl), (Nat.le_of_ble_eq_true rfl), (Nat.le_of_ble_eq_true rfl), (Nat.le_of_ble_eq_true rfl)⟩ (Nat.le_of_ble_eq_true rfl) (by assumption) (by omega) (s_X9_refused hX) (fun v_107 n_107 M_107 hn_107 hp => ?_)
                  obtain ⟨⟨rfl, rfl⟩, hX, f9⟩ := hp
                  have f1 := fr_tr f1 f9
                  obtain ⟨hnm, hOm, hBm⟩ := id hX
                  refine jr_iret (pc := 110) h hRt dX9_sell_110 rfl (Nat.le_of_ble_eq_true rfl) (Nat.le_of_ble_eq_true rfl) ?_
                  first
                  | (refine lfSl (tg' := tg) (tk' := B 8) (tr' := B 9) (v := -1) (t := 6) ?_ (rg_26 hnt) rfl rfl (fun _ _ _ _ _ => rfl) hX f1
                     unfold y_sell
                     rw [if_pos (by omega), if_neg (by omega), if_neg (by omega), if_pos (by omega)])
                  | (refine lfSl (B1 := up (up B 11 b11) 10 b10) (tg' := tg) (tk' := B 8) (tr' := B 9) (v := -1) (t := 6) ?_ (rg_26 hnt) rfl rfl (fun j q1 q2 q3 q4 => by rw [up_ne q3, up_ne q4]) hX f1
                     unfold y_sell
                     rw [if_pos (by omega), if_neg (by omega), if_neg (by omega), if_pos (by omega)])
                · first | have d_92 := bz_0.mp c_92 | have d_92 := bz_1.mp c_92 | skip
                  refine jr_aload_n (pc := 95) h dX9_sell_95 rfl ?_
                  refine jr_iload (pc := 96) h dX9_sell_96 rfl ?_
                  refine iv_X9_600 (pc := 98) h hl hR dX9_sell_98 ⟨(Nat.le_of_ble_eq_true rfl), (Nat.le_of_ble_eq_true rfl), (Nat.le_of_ble_eq_true rfl), (Nat.le_of_ble_eq_true rfl)⟩ (Nat.le_of_ble_eq_true rfl) (by assumption) (by omega) (s_X9_gives hX hB8r (a := y - c_get td 12 x 0) (by omega)) (fun v_98 n_98 M_98 hn_98 hp => ?_)
                  obtain ⟨⟨rfl, rfl⟩, b11, b10, hX, hgv, f9⟩ := hp
                  have gr_98 := bz_r (mnC (B 8) 6 (y - c_get td 12 x 0) < 1000)
                  have f1 := fr_tr f1 f9
                  obtain ⟨hnm, hOm, hBm⟩ := id hX
                  have hOm : M_98 m = jdO 9 (fX9 m _ _ (.ref f) rd) := hOm
                  refine jr_if_ne (pc := 101) h 111 dX9_sell_101 (by decide) (by omega) (fun c_101 => ?_) (fun c_101 => ?_)
                  · first | have d_101 := bz_0.mp c_101 | have d_101 := bz_1.mp c_101 | skip
                    refine jr_iconst (pc := 111) h dX9_sell_111 ?_
                    refine jr_istore (pc := 112) h [_, _, _, _, _, _] dX9_sell_112 (by decide) rfl ?_
                    have hs8 := hB8r (coinI y).toNat
                    obtain ⟨a9, ea9⟩ : ∃ z, y - c_get td 12 x 0 = z := ⟨_, rfl⟩
                    rw [ea9] at hgv d_101 ⊢
                    have loop : ∀ (dq : Nat) (i : Int) (M1 : jdM) (B1 : Nat → Nat → Int), (0 ≤ i ∧ i ≤ 6) → (MX M1 n m (up g 0 0) w (.ref f) rd B1) → (fr (MXf m) M M1) → (∀ j, j ≠ 8 → j ≠ 9 → j ≠ 10 → j ≠ 11 → B1 j = B j) → (∀ j : Nat, j < 6 → B1 10 j = gbC (B 8) a9 j) → (B1 8 = (fun j : Nat => if (j : Int) < i then B 8 j - gbC (B 8) a9 j else B 8 j)) → (B1 9 = (fun j : Nat => if (j : Int) < i then gbC (B 8) a9 j else B 9 j)) → (6 - i).toNat < dq → J κ 6 0 0 n 114 [some (.ref m), some (jI x), some (jI y), some (jI (coinI y)), some (jI a9), some (jI i)] [] M1 := by
                      intro dq
                      induction dq with
                      | zero => intro i M1 B1 hi hX f1 hBo h10 h8 h9 hd; omega
                      | succ dq ih =>
                        intro i M1 B1 hi hX f1 hBo h10 h8 h9 hd
                        obtain ⟨hnm, hOm, hBm⟩ := id hX
                        have hOm : M1 m = jdO 9 (fX9 m _ _ (.ref f) rd) := hOm
                        have hB8 : M1 (m + 8) = jdA 6 (B1 8) := hBm 8 (by omega) (by omega)
                        have hB9 : M1 (m + 9) = jdA 6 (B1 9) := hBm 9 (by omega) (by omega)
                        have hB10 : M1 (m + 10) = jdA 6 (B1 10) := hBm 10 (by omega) (by omega)
                        refine jr_iload (pc := 114) h dX9_sell_114 rfl ?_
                        refine jr_bipush (pc := 116) h dX9_sell_116 bp_6 ?_
                        refine jr_icmp_ge (pc := 118) h 158 dX9_sell_118 (by decide) (by omega) (by omega) (fun c_118 => ?_) (fun c_118 => ?_)
                        · first | have d_118 := bz_0.mp c_118 | have d_118 := bz_1.mp c_118 | skip
                          refine jr_iload_n (pc := 158) h dX9_sell_158 rfl ?_
                          refine jr_iconst (pc := 159) h dX9_sell_159 ?_
                          refine jr_icmp_eq (pc := 160) h 176 dX9_sell_160 (by decide) (by omega) (by omega) (fun c_160 => ?_) (fun c_160 => ?_)
                          · first | have d_160 := bz_0.mp c_160 | have d_160 := bz_1.mp c_160 | skip
                            refine jr_aload_n (pc := 176) h dX9_sell_176 rfl ?_
                            refine jr_dup (pc := 177) h dX9_sell_177 rfl ?_
                            refine gf_X9_603 (pc := 178) h dX9_sell_178 (by assumption) (by omega) ?_
                            refine jr_iconst (pc := 181) h dX9_sell_181 ?_
                            refine jr_iadd (pc := 182) h dX9_sell_182 ?_
                            refine pf_X9_603 (pc := 183) h dX9_sell_183 hOm (by omega) ?_
                            refine jm_gen (fun M2 hM2 => ?_)
                            rw [fX9_26] at hM2
                            have hX := MX_o hX hM2
                            have f9 : fr (MXf m) _ M2 := fr_up hM2 ⟨by omega, by omega⟩
                            obtain ⟨hnm, hOm, hBm⟩ := id hX
                            have f1 := fr_tr f1 f9
                            skip
                            refine jr_aload_n (pc := 186) h dX9_sell_186 rfl ?_
                            refine jr_iload (pc := 187) h dX9_sell_187 rfl ?_
                            refine iv_X9_62 (pc := 189) h hl hR dX9_sell_189 ⟨(Nat.le_of_ble_eq_true rfl), (Nat.le_of_ble_eq_true rfl), (Nat.le_of_ble_eq_true rfl), (Nat.le_of_ble_eq_true rfl)⟩ (Nat.le_of_ble_eq_true rfl) (by assumption) (by omega) (s_X9_done hX) (fun v_189 n_189 M_189 hn_189 hp => ?_)
                            obtain ⟨⟨rfl, rfl⟩, hX, f9⟩ := hp
                            have f1 := fr_tr f1 f9
                            obtain ⟨hnm, hOm, hBm⟩ := id hX
                            refine jr_iret (pc := 192) h hRt dX9_sell_192 rfl (Nat.le_of_ble_eq_true rfl) (Nat.le_of_ble_eq_true rfl) ?_
                            have e8 : B1 8 = gbSk (B 8) a9 (-1) := by
                              rw [h8]
                              funext j
                              unfold gbSk
                              by_cases q : (j : Int) < i
                              · rw [if_pos q, if_pos (by omega)]
                              · rw [if_neg q, if_neg (by omega)]
                            have e9 : B1 9 = gbRt (B 8) (B 9) a9 (-1) := by
                              rw [h9]
                              funext j
                              unfold gbRt
                              by_cases q : (j : Int) < i
                              · rw [if_pos q, if_pos (by omega)]
                              · rw [if_neg q, if_neg (by omega)]
                            first
                            | (have hcn : coinI y = -1 := by omega
                               refine lfSl (tg' := up tg 2 (tg 2 + 1)) (tk' := gbSk (B 8) a9 (-1)) (tr' := gbRt (B 8) (B 9) a9 (-1)) (v := a9) (t := 0) ?_ ?_ e8 e9 hBo hX f1
                               · unfold y_sell
                                 rw [ea9, if_pos (by omega), if_neg (by omega), if_neg (by omega), if_neg (by omega), if_neg (by omega), if_neg (by omega)]
                               · rw [up_eq, ← hnt]
                                 rw [show up g 0 0 26 = g 26 from up_ne (by omega)]
                                 exact rg_26')
                            | (have hcn : ¬ coinI y = -1 := by omega
                               refine lfSl (tg' := tg) (tk' := up (gbSk (B 8) a9 (-1)) (coinI y).toNat (gbSk (B 8) a9 (-1) (coinI y).toNat + 1)) (tr' := gbRt (B 8) (B 9) a9 (-1)) (v := a9) (t := 0) ?_ (rg_26 hnt) ?_ ?_ ?_ hX f1
                               · unfold y_sell
                                 rw [ea9, if_pos (by omega), if_neg (by omega), if_neg (by omega), if_neg (by omega), if_pos (by omega), if_pos (by omega)]
                               · rw [up_eq, e8]
                               · rw [up_ne (by omega), e9]
                               · intro j q1 q2 q3 q4
                                 rw [up_ne q1]; exact hBo j q1 q2 q3 q4)
                          · first | have d_160 := bz_0.mp c_160 | have d_160 := bz_1.mp c_160 | skip
                            have hB8 := hB8
                            refine jr_aload_n (pc := 163) h dX9_sell_163 rfl ?_
                            refine gf_X9_37 (pc := 164) h dX9_sell_164 (by assumption) (by omega) ?_
                            refine jr_iload_n (pc := 167) h dX9_sell_167 rfl ?_
                            refine jr_dup2 (pc := 168) h dX9_sell_168 rfl rfl ?_
                            refine jr_iald (pc := 169) h dX9_sell_169 (by assumption) (by omega) (by omega) ?_
                            refine jr_iconst (pc := 170) h dX9_sell_170 ?_
                            refine jr_iadd (pc := 171) h dX9_sell_171 ?_
                            refine jr_iast (pc := 172) h dX9_sell_172 hB8 (by omega) (by omega) ?_
                            refine jm_gen (fun M3 hM3 => ?_)
                            have hX := MX_B (i := 8) hX hM3 (by omega)
                            have f9 : fr (MXf m) _ M3 := fr_up (S := MXf m) hM3 ⟨by omega, by omega⟩
                            have f1 := fr_tr f1 f9
                            obtain ⟨hnm, hOm, hBm⟩ := id hX
                            have hOm : M3 m = jdO 9 (fX9 m _ _ (.ref f) rd) := hOm
                            refine jr_goto (pc := 173) h 186 dX9_sell_173 (by decide) ?_
                            skip
                            refine jr_aload_n (pc := 186) h dX9_sell_186 rfl ?_
                            refine jr_iload (pc := 187) h dX9_sell_187 rfl ?_
                            refine iv_X9_62 (pc := 189) h hl hR dX9_sell_189 ⟨(Nat.le_of_ble_eq_true rfl), (Nat.le_of_ble_eq_true rfl), (Nat.le_of_ble_eq_true rfl), (Nat.le_of_ble_eq_true rfl)⟩ (Nat.le_of_ble_eq_true rfl) (by assumption) (by omega) (s_X9_done hX) (fun v_189 n_189 M_189 hn_189 hp => ?_)
                            obtain ⟨⟨rfl, rfl⟩, hX, f9⟩ := hp
                            have f1 := fr_tr f1 f9
                            obtain ⟨hnm, hOm, hBm⟩ := id hX
                            refine jr_iret (pc := 192) h hRt dX9_sell_192 rfl (Nat.le_of_ble_eq_true rfl) (Nat.le_of_ble_eq_true rfl) ?_
                            have e8 : B1 8 = gbSk (B 8) a9 (-1) := by
                              rw [h8]
                              funext j
                              unfold gbSk
                              by_cases q : (j : Int) < i
                              · rw [if_pos q, if_pos (by omega)]
                              · rw [if_neg q, if_neg (by omega)]
                            have e9 : B1 9 = gbRt (B 8) (B 9) a9 (-1) := by
                              rw [h9]
                              funext j
                              unfold gbRt
                              by_cases q : (j : Int) < i
                              · rw [if_pos q, if_pos (by omega)]
                              · rw [if_neg q, if_neg (by omega)]
                            first
                            | (have hcn : coinI y = -1 := by omega
                               refine lfSl (tg' := up tg 2 (tg 2 + 1)) (tk' := gbSk (B 8) a9 (-1)) (tr' := gbRt (B 8) (B 9) a9 (-1)) (v := a9) (t := 0) ?_ ?_ e8 e9 hBo hX f1
                               · unfold y_sell
                                 rw [ea9, if_pos (by omega), if_neg (by omega), if_neg (by omega), if_neg (by omega), if_neg (by omega), if_neg (by omega)]
                               · rw [up_eq, ← hnt]
                                 rw [show up g 0 0 26 = g 26 from up_ne (by omega)]
                                 exact rg_26')
                            | (have hcn : ¬ coinI y = -1 := by omega
                               refine lfSl (tg' := tg) (tk' := up (gbSk (B 8) a9 (-1)) (coinI y).toNat (gbSk (B 8) a9 (-1) (coinI y).toNat + 1)) (tr' := gbRt (B 8) (B 9) a9 (-1)) (v := a9) (t := 0) ?_ (rg_26 hnt) ?_ ?_ ?_ hX f1
                               · unfold y_sell
                                 rw [ea9, if_pos (by omega), if_neg (by omega), if_neg (by omega), if_neg (by omega), if_pos (by omega), if_pos (by omega)]
                               · rw [up_eq, e8]
                               · rw [up_ne (by omega), e9]
                               · intro j q1 q2 q3 q4
                                 rw [up_ne q1]; exact hBo j q1 q2 q3 q4)
                        · first | have d_118 := bz_0.mp c_118 | have d_118 := bz_1.mp c_118 | skip
                          refine jr_aload_n (pc := 121) h dX9_sell_121 rfl ?_
                          refine gf_X9_40 (pc := 122) h dX9_sell_122 (by assumption) (by omega) ?_
                          refine jr_iload (pc := 125) h dX9_sell_125 rfl ?_
                          refine jr_aload_n (pc := 127) h dX9_sell_127 rfl ?_
                          refine gf_X9_43 (pc := 128) h dX9_sell_128 (by assumption) (by omega) ?_
                          refine jr_iload (pc := 131) h dX9_sell_131 rfl ?_
                          refine jr_iald (pc := 133) h dX9_sell_133 (by assumption) (by omega) (by omega) ?_
                          refine jr_iast (pc := 134) h dX9_sell_134 hB9 (by omega) (by omega) ?_
                          refine jm_gen (fun M3 hM3 => ?_)
                          have hX := MX_B (i := 9) hX hM3 (by omega)
                          have f9 : fr (MXf m) _ M3 := fr_up (S := MXf m) hM3 ⟨by omega, by omega⟩
                          have f1 := fr_tr f1 f9
                          obtain ⟨hnm, hOm, hBm⟩ := id hX
                          have hOm : M3 m = jdO 9 (fX9 m _ _ (.ref f) rd) := hOm
                          have hB8 : M3 (m + 8) = jdA 6 (B1 8) := hBm 8 (by omega) (by omega)
                          have hB10 : M3 (m + 10) = jdA 6 (B1 10) := hBm 10 (by omega) (by omega)
                          refine jr_aload_n (pc := 135) h dX9_sell_135 rfl ?_
                          refine gf_X9_37 (pc := 136) h dX9_sell_136 (by assumption) (by omega) ?_
                          refine jr_iload (pc := 139) h dX9_sell_139 rfl ?_
                          refine jr_dup2 (pc := 141) h dX9_sell_141 rfl rfl ?_
                          refine jr_iald (pc := 142) h dX9_sell_142 (by assumption) (by omega) (by omega) ?_
                          refine jr_aload_n (pc := 143) h dX9_sell_143 rfl ?_
                          refine gf_X9_43 (pc := 144) h dX9_sell_144 (by assumption) (by omega) ?_
                          refine jr_iload (pc := 147) h dX9_sell_147 rfl ?_
                          refine jr_iald (pc := 149) h dX9_sell_149 (by assumption) (by omega) (by omega) ?_
                          refine jr_isub (pc := 150) h dX9_sell_150 ?_
                          refine jr_iast (pc := 151) h dX9_sell_151 hB8 (by omega) (by omega) ?_
                          refine jm_gen (fun M3 hM3 => ?_)
                          have hX := MX_B (i := 8) hX hM3 (by omega)
                          have f9 : fr (MXf m) _ M3 := fr_up (S := MXf m) hM3 ⟨by omega, by omega⟩
                          have f1 := fr_tr f1 f9
                          obtain ⟨hnm, hOm, hBm⟩ := id hX
                          have hOm : M3 m = jdO 9 (fX9 m _ _ (.ref f) rd) := hOm
                          refine jr_iinc (pc := 152) h [_, _, _, _, _, _] dX9_sell_152 (by decide) rfl rfl ?_
                          refine jr_goto (pc := 155) h 114 dX9_sell_155 (by decide) ?_
                          refine ih _ _ _ (by omega) hX f1 ?_ ?_ ?_ ?_ (by omega)
                          · intro j q1 q2 q3 q4
                            rw [up_ne q1, up_ne q2]; exact hBo j q1 q2 q3 q4
                          · intro j hj
                            rw [up_ne (by omega), up_ne (by omega)]; exact h10 j hj
                          · rw [up_eq]
                            funext j
                            try dsimp only
                            by_cases q : j = i.toNat
                            · rw [q, up_eq, if_pos (by omega), h8, h10 _ (by omega)]
                              try dsimp only
                              rw [if_neg (by omega)]
                            · rw [up_ne q, h8]
                              try dsimp only
                              by_cases q2 : (j : Int) < i
                              · rw [if_pos q2, if_pos (by omega)]
                              · rw [if_neg q2, if_neg (by omega)]
                          · rw [up_ne (by omega), up_eq]
                            funext j
                            try dsimp only
                            by_cases q : j = i.toNat
                            · rw [q, up_eq, if_pos (by omega), h10 _ (by omega)]
                            · rw [up_ne q, h9]
                              try dsimp only
                              by_cases q2 : (j : Int) < i
                              · rw [if_pos q2, if_pos (by omega)]
                              · rw [if_neg q2, if_neg (by omega)]
                    refine loop _ _ _ _ (by omega) hX f1 (fun j q1 q2 q3 q4 => by rw [up_ne q3, up_ne q4]) (fun j hj => by rw [up_eq]; exact hgv (by omega) j hj) ?_ ?_ (Nat.lt_succ_self _)
                    · funext j; (try dsimp only); rw [if_neg (by omega), up_ne (by omega), up_ne (by omega)]
                    · funext j; (try dsimp only); rw [if_neg (by omega), up_ne (by omega), up_ne (by omega)]
                  · first | have d_101 := bz_0.mp c_101 | have d_101 := bz_1.mp c_101 | skip
                    refine jr_aload_n (pc := 104) h dX9_sell_104 rfl ?_
                    refine jr_bipush (pc := 105) h dX9_sell_105 bp_6 ?_
                    refine iv_X9_58 (pc := 107) h hl hR dX9_sell_107 ⟨(Nat.le_of_ble_eq_true rfl), (Nat.le_of_ble_eq_true rfl), (Nat.le_of_ble_eq_true rfl), (Nat.le_of_ble_eq_true rfl)⟩ (Nat.le_of_ble_eq_true rfl) (by assumption) (by omega) (s_X9_refused hX) (fun v_107 n_107 M_107 hn_107 hp => ?_)
                    obtain ⟨⟨rfl, rfl⟩, hX, f9⟩ := hp
                    have f1 := fr_tr f1 f9
                    obtain ⟨hnm, hOm, hBm⟩ := id hX
                    refine jr_iret (pc := 110) h hRt dX9_sell_110 rfl (Nat.le_of_ble_eq_true rfl) (Nat.le_of_ble_eq_true rfl) ?_
                    first
                    | (refine lfSl (tg' := tg) (tk' := B 8) (tr' := B 9) (v := -1) (t := 6) ?_ (rg_26 hnt) rfl rfl (fun _ _ _ _ _ => rfl) hX f1
                       unfold y_sell
                       rw [if_pos (by omega), if_neg (by omega), if_neg (by omega), if_pos (by omega)])
                    | (refine lfSl (B1 := up (up B 11 b11) 10 b10) (tg' := tg) (tk' := B 8) (tr' := B 9) (v := -1) (t := 6) ?_ (rg_26 hnt) rfl rfl (fun j q1 q2 q3 q4 => by rw [up_ne q3, up_ne q4]) hX f1
                       unfold y_sell
                       rw [if_pos (by omega), if_neg (by omega), if_neg (by omega), if_pos (by omega)])
            · first | have d_70 := bz_0.mp c_70 | have d_70 := bz_1.mp c_70 | skip
              refine jr_aload_n (pc := 73) h dX9_sell_73 rfl ?_
              refine jr_iconst (pc := 74) h dX9_sell_74 ?_
              refine iv_X9_58 (pc := 75) h hl hR dX9_sell_75 ⟨(Nat.le_of_ble_eq_true rfl), (Nat.le_of_ble_eq_true rfl), (Nat.le_of_ble_eq_true rfl), (Nat.le_of_ble_eq_true rfl)⟩ (Nat.le_of_ble_eq_true rfl) (by assumption) (by omega) (s_X9_refused hX) (fun v_75 n_75 M_75 hn_75 hp => ?_)
              obtain ⟨⟨rfl, rfl⟩, hX, f9⟩ := hp
              have f1 := fr_tr f1 f9
              obtain ⟨hnm, hOm, hBm⟩ := id hX
              refine jr_iret (pc := 78) h hRt dX9_sell_78 rfl (Nat.le_of_ble_eq_true rfl) (Nat.le_of_ble_eq_true rfl) ?_
              refine lfSl (tg' := tg) (tk' := B 8) (tr' := B 9) (v := -1) (t := 5) ?_ (rg_26 hnt) rfl rfl (fun _ _ _ _ _ => rfl) hX f1
              · unfold y_sell
                (repeat' split) <;> first | rfl | (exfalso; omega) | contradiction
          · first | have d_46 := bz_0.mp c_46 | have d_46 := bz_1.mp c_46 | skip
            refine jr_aload_n (pc := 49) h dX9_sell_49 rfl ?_
            refine jr_iconst (pc := 50) h dX9_sell_50 ?_
            refine iv_X9_58 (pc := 51) h hl hR dX9_sell_51 ⟨(Nat.le_of_ble_eq_true rfl), (Nat.le_of_ble_eq_true rfl), (Nat.le_of_ble_eq_true rfl), (Nat.le_of_ble_eq_true rfl)⟩ (Nat.le_of_ble_eq_true rfl) (by assumption) (by omega) (s_X9_refused hX) (fun v_51 n_51 M_51 hn_51 hp => ?_)
            obtain ⟨⟨rfl, rfl⟩, hX, f9⟩ := hp
            have f1 := fr_tr f1 f9
            obtain ⟨hnm, hOm, hBm⟩ := id hX
            refine jr_iret (pc := 54) h hRt dX9_sell_54 rfl (Nat.le_of_ble_eq_true rfl) (Nat.le_of_ble_eq_true rfl) ?_
            refine lfSl (tg' := tg) (tk' := B 8) (tr' := B 9) (v := -1) (t := 2) ?_ (rg_26 hnt) rfl rfl (fun _ _ _ _ _ => rfl) hX f1
            · unfold y_sell
              (repeat' split) <;> first | rfl | (exfalso; omega) | contradiction
      · first | have d_24 := bz_0.mp c_24 | have d_24 := bz_1.mp c_24 | skip
        refine jr_aload_n (pc := 27) h dX9_sell_27 rfl ?_
        refine jr_iconst (pc := 28) h dX9_sell_28 ?_
        refine iv_X9_58 (pc := 29) h hl hR dX9_sell_29 ⟨(Nat.le_of_ble_eq_true rfl), (Nat.le_of_ble_eq_true rfl), (Nat.le_of_ble_eq_true rfl), (Nat.le_of_ble_eq_true rfl)⟩ (Nat.le_of_ble_eq_true rfl) (by assumption) (by omega) (s_X9_refused hX) (fun v_29 n_29 M_29 hn_29 hp => ?_)
        obtain ⟨⟨rfl, rfl⟩, hX, f9⟩ := hp
        have f1 := fr_tr f1 f9
        obtain ⟨hnm, hOm, hBm⟩ := id hX
        refine jr_iret (pc := 32) h hRt dX9_sell_32 rfl (Nat.le_of_ble_eq_true rfl) (Nat.le_of_ble_eq_true rfl) ?_
        refine lfSl (tg' := tg) (tk' := B 8) (tr' := B 9) (v := -1) (t := 1) ?_ (rg_26 hnt) rfl rfl (fun _ _ _ _ _ => rfl) hX f1
        · unfold y_sell
          (repeat' split) <;> first | rfl | (exfalso; omega) | contradiction
