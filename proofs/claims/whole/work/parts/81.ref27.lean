/-! 81: the reference: change -/
theorem sumZ_split {f : Int → Int} {a : Nat} : ∀ {b : Nat}, sumZ f (a + b) = sumZ f a + sumZ (fun i => f (a + i)) b
  | 0 => by show sumZ f a = sumZ f a + 0; omega
  | b + 1 => by
    rw [← Nat.add_assoc, sumZ, sumZ, sumZ_split (b := b), show ((a + b : Nat) : Int) = (a : Int) + (b : Int) by omega]
    omega
theorem wayC_s {sk : Nat → Int} {c : Nat} {p : Int} (hv : 1 ≤ cv c) (hs : 0 ≤ sk c) (hp : 0 ≤ p) : wayC sk (c + 1) p = sumZ (fun k => wayC sk c (p - k * cv c)) (min (sk c) (p / cv c) + 1).toNat := by
  rw [wayC]
  generalize hvv : cv c = v at hv
  have q0 : 0 ≤ p / v := Int.ediv_nonneg hp (by omega)
  by_cases q : v * (sk c + 1) ≤ p
  · rw [if_pos q]
    have q1 : sk c + 1 ≤ p / v := (Int.le_ediv_iff_mul_le (by omega)).2 (by rw [Int.mul_comm]; exact q)
    have q2 : (p - v * (sk c + 1)) / v = p / v - (sk c + 1) := by
      rw [show p - v * (sk c + 1) = p + (-(sk c + 1)) * v by rw [Int.neg_mul, Int.mul_comm]; omega, Int.add_mul_ediv_right _ _ (by omega)]
      omega
    unfold unb
    rw [q2, show min (sk c) (p / v) = sk c by omega, show (p / v + 1).toNat = (sk c + 1).toNat + (p / v - (sk c + 1) + 1).toNat by omega, sumZ_split]
    have e : sumZ (fun k => wayC sk c (p - v * (sk c + 1) - k * v)) (p / v - (sk c + 1) + 1).toNat = sumZ (fun i => wayC sk c (p - (((sk c + 1).toNat : Int) + i) * v)) (p / v - (sk c + 1) + 1).toNat := by
      refine sumZ_cong (fun i _ _ => ?_)
      show wayC sk c _ = wayC sk c _
      congr 1
      rw [show (((sk c + 1).toNat : Nat) : Int) = sk c + 1 by omega, Int.add_mul (sk c + 1), Int.mul_comm v]
      omega
    rw [e]
    omega
  · rw [if_neg q]
    have q1 : ¬ sk c + 1 ≤ p / v := fun h => q (by rw [Int.mul_comm]; exact (Int.le_ediv_iff_mul_le (by omega)).1 h)
    unfold unb
    rw [show min (sk c) (p / v) = p / v by omega]
set_option maxHeartbeats 1000000 in
set_option maxRecDepth 20000 in
theorem s_X9_change {l : Launch} {n : Nat} {M : jdM} {m : Nat} {g : Nat → Int} {w : Int} {fl rd : Value} {B : Nat → Nat → Int} (hX : MX M n m g w fl rd B) {a : Int} (ha : -2147483648 ≤ a ∧ a < 2147483648) (hB8r : ∀ j : Nat, j < 6 → 0 ≤ B 8 j ∧ B 8 j ≤ 99) : Ct l yX9_change cX9_change 5 (some .int) rX9_change [.ref m, jI a] n M (fun vv n' M' => (vv = some (jI (if 0 ≤ a ∧ a ≤ 199 then wayC (B 8) 6 a else -1)) ∧ n = n') ∧ ∃ b', MX M' n m (rg g (if 0 ≤ a ∧ a ≤ 199 then 0 else 2)) w fl rd (up B 12 b') ∧ fr (MXf m) M M') := by
  refine Ct_of [some (.ref m), some (jI a), none, none, none] (by decide) (Nat.le_of_ble_eq_true rfl) rfl (fun κ hl h hR hRt hmn hn0 => ?_)
  have h : Ok κ RX9 cX9_change 5 (some .int) := h
  obtain ⟨hnm, hOm, hBm⟩ := id hX
  have hOm : M m = jdO 9 (fX9 m _ _ fl rd) := hOm
  refine jr_aload_n (pc := 0) h dX9_change_0 rfl ?_
  refine jr_iconst (pc := 1) h dX9_change_1 ?_
  refine pf_X9_52 (pc := 2) h dX9_change_2 hOm (by omega) ?_
  refine jm_gen (fun M2 hM2 => ?_)
  rw [fX9_0] at hM2
  have hX := MX_o hX hM2
  have f9 : fr (MXf m) _ M2 := fr_up hM2 ⟨by omega, by omega⟩
  obtain ⟨hnm, hOm, hBm⟩ := id hX
  have f1 := f9
  refine jr_iload_n (pc := 5) h dX9_change_5 rfl ?_
  refine jr_iconst (pc := 6) h dX9_change_6 ?_
  refine jr_sipush (pc := 7) h dX9_change_7 sp_199 ?_
  refine iv_X9_130 (pc := 10) h hl hR dX9_change_10 ⟨(Nat.le_of_ble_eq_true rfl), (Nat.le_of_ble_eq_true rfl), (Nat.le_of_ble_eq_true rfl), (Nat.le_of_ble_eq_true rfl)⟩ (Nat.le_of_ble_eq_true rfl) (s_X9_in (by omega) (by omega) (by omega)) (fun v_10 n_10 M_10 hn_10 hp => ?_)
  obtain ⟨⟨rfl, rfl, rfl⟩, gr_10⟩ := hp
  refine jr_if_ne (pc := 13) h 22 dX9_change_13 (by decide) (by omega) (fun c_13 => ?_) (fun c_13 => ?_)
  · first | have d_13 := bz_0.mp c_13 | have d_13 := bz_1.mp c_13 | skip
    refine jr_iconst (pc := 22) h dX9_change_22 ?_
    refine jr_istore_n (pc := 23) h [_, _, _, _, _] dX9_change_23 (by decide) rfl ?_
    have lp0 : ∀ (dq0 : Nat) (i : Int) (M1 : jdM) (b0 : Nat → Int), (0 ≤ i ∧ i ≤ a + 1) → (MX M1 n m (up g 0 0) w fl rd (up B 12 b0)) → (fr (MXf m) M M1) → (∀ j : Nat, (j : Int) < i → b0 j = if j = 0 then 1 else 0) → (300 - i).toNat < dq0 → J κ 5 0 0 n 24 [some (.ref m), some (jI a), some (jI i), none, none] [] M1 := by
      intro dq0
      induction dq0 with
      | zero => intro i M1 b0 hi hX f1 hb0 hd; omega
      | succ dq0 ih0 =>
        intro i M1 b0 hi hX f1 hb0 hd
        obtain ⟨hnm, hOm, hBm⟩ := id hX
        have hOm : M1 m = jdO 9 (fX9 m _ _ fl rd) := hOm
        have hB12 : M1 (m + 12) = jdA 200 b0 := hBm 12 (by omega) (by omega)
        have hB8 : M1 (m + 8) = jdA 6 (B 8) := hBm 8 (by omega) (by omega)
        refine jr_iload_n (pc := 24) h dX9_change_24 rfl ?_
        refine jr_iload_n (pc := 25) h dX9_change_25 rfl ?_
        refine jr_icmp_gt (pc := 26) h 50 dX9_change_26 (by decide) (by omega) (by omega) (fun c_26 => ?_) (fun c_26 => ?_)
        · skip
          refine jr_iconst (pc := 50) h dX9_change_50 ?_
          refine jr_istore_n (pc := 51) h [_, _, _, _, _] dX9_change_51 (by decide) rfl ?_
          have lp1 : ∀ (dq1 : Nat) (i : Int) (l3 : Option Value) (l4 : Option Value) (M1 : jdM) (b1 : Nat → Int), (0 ≤ i ∧ i ≤ 6) → (MX M1 n m (up g 0 0) w fl rd (up B 12 b1)) → (fr (MXf m) M M1) → (∀ j : Nat, (j : Int) ≤ a → b1 j = wayC (B 8) i.toNat j) → (6 - i).toNat < dq1 → J κ 5 0 0 n 52 [some (.ref m), some (jI a), some (jI i), l3, l4] [] M1 := by
            intro dq1
            induction dq1 with
            | zero => intro i l3 l4 M1 b1 hi hX f1 hb1 hd; omega
            | succ dq1 ih1 =>
              intro i l3 l4 M1 b1 hi hX f1 hb1 hd
              obtain ⟨hnm, hOm, hBm⟩ := id hX
              have hOm : M1 m = jdO 9 (fX9 m _ _ fl rd) := hOm
              have hB12 : M1 (m + 12) = jdA 200 b1 := hBm 12 (by omega) (by omega)
              have hB8 : M1 (m + 8) = jdA 6 (B 8) := hBm 8 (by omega) (by omega)
              refine jr_iload_n (pc := 52) h dX9_change_52 rfl ?_
              refine jr_bipush (pc := 53) h dX9_change_53 bp_6 ?_
              refine jr_icmp_ge (pc := 55) h 130 dX9_change_55 (by decide) (by omega) (by omega) (fun c_55 => ?_) (fun c_55 => ?_)
              · skip
                refine jr_aload_n (pc := 130) h dX9_change_130 rfl ?_
                refine jr_aload_n (pc := 131) h dX9_change_131 rfl ?_
                refine gf_X9_49 (pc := 132) h dX9_change_132 (by assumption) (by omega) ?_
                refine jr_iload_n (pc := 135) h dX9_change_135 rfl ?_
                skip
                refine jr_iald (pc := 136) h dX9_change_136 (by assumption) (by omega) (by omega) ?_
                rw [hb1 _ (by omega), show i.toNat = 6 by omega, show ((a.toNat : Nat) : Int) = a by omega]
                refine iv_X9_62 (pc := 137) h hl hR dX9_change_137 ⟨(Nat.le_of_ble_eq_true rfl), (Nat.le_of_ble_eq_true rfl), (Nat.le_of_ble_eq_true rfl), (Nat.le_of_ble_eq_true rfl)⟩ (Nat.le_of_ble_eq_true rfl) (by assumption) (by omega) (s_X9_done hX) (fun v_137 n_137 M_137 hn_137 hp => ?_)
                obtain ⟨⟨rfl, rfl⟩, hX, f9⟩ := hp
                have f1 := fr_tr f1 f9
                obtain ⟨hnm, hOm, hBm⟩ := id hX
                refine jr_iret (pc := 140) h hRt dX9_change_140 rfl (Nat.le_of_ble_eq_true rfl) (Nat.le_of_ble_eq_true rfl) ?_
                rw [if_pos (by omega), if_pos (by omega)]
                exact ⟨⟨rfl, rfl⟩, b1, hX, f1⟩
              · skip
                refine jr_iload_n (pc := 58) h dX9_change_58 rfl ?_
                refine jr_istore_n (pc := 59) h [_, _, _, _, _] dX9_change_59 (by decide) rfl ?_
                have hcv := cv_b (i := i) (by omega)
                have hii : ((i.toNat : Nat) : Int) = i := by omega
                have lp2 : ∀ (dq2 : Nat) (p : Int) (l4 : Option Value) (M1 : jdM) (b2 : Nat → Int), (0 ≤ p ∧ p ≤ a) → (MX M1 n m (up g 0 0) w fl rd (up B 12 b2)) → (fr (MXf m) M M1) → (∀ j : Nat, (j : Int) ≤ a → b2 j = if p < (j : Int) then wayC (B 8) (i.toNat + 1) j else wayC (B 8) i.toNat j) → (p).toNat < dq2 → J κ 5 0 0 n 60 [some (.ref m), some (jI a), some (jI i), some (jI p), l4] [] M1 := by
                  intro dq2
                  induction dq2 with
                  | zero => intro p l4 M1 b2 hp hX f1 hb2 hd; omega
                  | succ dq2 ih2 =>
                    intro p l4 M1 b2 hp hX f1 hb2 hd
                    obtain ⟨hnm, hOm, hBm⟩ := id hX
                    have hOm : M1 m = jdO 9 (fX9 m _ _ fl rd) := hOm
                    have hB12 : M1 (m + 12) = jdA 200 b2 := hBm 12 (by omega) (by omega)
                    have hB8 : M1 (m + 8) = jdA 6 (B 8) := hBm 8 (by omega) (by omega)
                    refine jr_iload_n (pc := 60) h dX9_change_60 rfl ?_
                    refine jr_if_le (pc := 61) h 124 dX9_change_61 (by decide) (by omega) (fun c_61 => ?_) (fun c_61 => ?_)
                    · skip
                      refine jr_iinc (pc := 124) h [_, _, _, _, _] dX9_change_124 (by decide) rfl rfl ?_
                      refine jr_goto (pc := 127) h 52 dX9_change_127 (by decide) ?_
                      refine ih1 _ _ _ _ _ (by omega) hX f1 (fun j hj => ?_) (by omega)
                      rw [hb2 j hj, show (i + 1).toNat = i.toNat + 1 by omega]
                      by_cases q : p < (j : Int)
                      · rw [if_pos q]
                      · rw [if_neg q, show (j : Int) = 0 by omega, wayC_s (by rw [hii]; omega) (by have := hB8r i.toNat (by omega); omega) (by omega), hii, Int.zero_ediv, show min (B 8 i.toNat) 0 = 0 by have := hB8r i.toNat (by omega); omega]
                        show _ = 0 + wayC (B 8) i.toNat (0 - ((0 : Nat) : Int) * cv i)
                        rw [show (0 : Int) - ((0 : Nat) : Int) * cv i = 0 by rw [show ((0 : Nat) : Int) = 0 from rfl, Int.zero_mul]; omega]
                        omega
                    · skip
                      refine jr_iconst (pc := 64) h dX9_change_64 ?_
                      refine jr_istore (pc := 65) h [_, _, _, _, _] dX9_change_65 (by decide) rfl ?_
                      have lp3 : ∀ (dq3 : Nat) (k : Int) (M1 : jdM) (b3 : Nat → Int), ((1 ≤ k ∧ k - 1 ≤ B 8 i.toNat) ∧ k * cv i - cv i ≤ p) → (MX M1 n m (up g 0 0) w fl rd (up B 12 b3)) → (fr (MXf m) M M1) → (∀ j : Nat, (j : Int) ≤ a → b3 j = if j = p.toNat then sumZ (fun k => wayC (B 8) i.toNat (p - k * cv i)) k.toNat else if p < (j : Int) then wayC (B 8) (i.toNat + 1) j else wayC (B 8) i.toNat j) → (200 - k).toNat < dq3 → J κ 5 0 0 n 67 [some (.ref m), some (jI a), some (jI i), some (jI p), some (jI k)] [] M1 := by
                        intro dq3
                        induction dq3 with
                        | zero => intro k M1 b3 hk hX f1 hb3 hd; omega
                        | succ dq3 ih3 =>
                          intro k M1 b3 hk hX f1 hb3 hd
                          obtain ⟨hnm, hOm, hBm⟩ := id hX
                          have hOm : M1 m = jdO 9 (fX9 m _ _ fl rd) := hOm
                          have hB12 : M1 (m + 12) = jdA 200 b3 := hBm 12 (by omega) (by omega)
                          have hB8 : M1 (m + 8) = jdA 6 (B 8) := hBm 8 (by omega) (by omega)
                          refine jr_iload (pc := 67) h dX9_change_67 rfl ?_
                          refine jr_aload_n (pc := 69) h dX9_change_69 rfl ?_
                          refine gf_X9_37 (pc := 70) h dX9_change_70 (by assumption) (by omega) ?_
                          refine jr_iload_n (pc := 73) h dX9_change_73 rfl ?_
                          refine jr_iald (pc := 74) h dX9_change_74 (by assumption) (by omega) (by omega) ?_
                          have hs8 := hB8r i.toNat (by omega)
                          refine jr_icmp_gt (pc := 75) h 118 dX9_change_75 (by decide) (by omega) (by omega) (fun c_75 => ?_) (fun c_75 => ?_)
                          · skip
                            refine jr_iinc (pc := 118) h [_, _, _, _, _] dX9_change_118 (by decide) rfl rfl ?_
                            refine jr_goto (pc := 121) h 60 dX9_change_121 (by decide) ?_
                            have hkm : k = min (B 8 i.toNat) (p / cv i) + 1 := by
                              have h1 : k - 1 ≤ p / cv i := (Int.le_ediv_iff_mul_le (by omega)).2 (by rw [Int.sub_mul, Int.one_mul]; omega)
                              have h2 : k * cv i ≤ p ∨ ¬ k ≤ p / cv i := by
                                by_cases q : k * cv i ≤ p
                                · exact Or.inl q
                                · exact Or.inr (fun h => q ((Int.le_ediv_iff_mul_le (by omega)).1 h))
                              omega
                            refine ih2 _ _ _ _ (by omega) hX f1 (fun j hj => ?_) (by omega)
                            rw [hb3 j hj]
                            by_cases q : j = p.toNat
                            · rw [if_pos q, if_pos (by omega), wayC_s (by rw [hii]; omega) (by have := hB8r i.toNat (by omega); omega) (by omega), hii, show (j : Int) = p by omega, ← hkm]
                            · rw [if_neg q]
                              by_cases q2 : p < (j : Int)
                              · rw [if_pos q2, if_pos (by omega)]
                              · rw [if_neg q2, if_neg (by omega)]
                          · skip
                            refine jr_iload (pc := 78) h dX9_change_78 rfl ?_
                            refine jr_iload_n (pc := 80) h dX9_change_80 rfl ?_
                            refine iv_X9_588 (pc := 81) h hl hR dX9_change_81 ⟨(Nat.le_of_ble_eq_true rfl), (Nat.le_of_ble_eq_true rfl), (Nat.le_of_ble_eq_true rfl), (Nat.le_of_ble_eq_true rfl)⟩ (Nat.le_of_ble_eq_true rfl) (s_X9_valueOf (by omega)) (fun v_81 n_81 M_81 hn_81 hp => ?_)
                            obtain ⟨⟨rfl, rfl, rfl⟩, gr_81⟩ := hp
                            have hmv := mulb (a := k) (b := cv i) (A := 100) (B := 50) (by omega) ⟨by omega, hcv.2⟩
                            have hmv2 := Int.mul_nonneg (show 0 ≤ k - 1 by omega) (show 0 ≤ cv i by omega)
                            rw [Int.sub_mul, Int.one_mul] at hmv2
                            have hk1 : (k + 1) * cv i = k * cv i + cv i := by rw [Int.add_mul, Int.one_mul]
                            refine jr_imul (pc := 84) h dX9_change_84 ?_
                            refine jr_iload_n (pc := 85) h dX9_change_85 rfl ?_
                            refine jr_icmp_gt (pc := 86) h 118 dX9_change_86 (by decide) (by omega) (by omega) (fun c_86 => ?_) (fun c_86 => ?_)
                            · skip
                              refine jr_iinc (pc := 118) h [_, _, _, _, _] dX9_change_118 (by decide) rfl rfl ?_
                              refine jr_goto (pc := 121) h 60 dX9_change_121 (by decide) ?_
                              have hkm : k = min (B 8 i.toNat) (p / cv i) + 1 := by
                                have h1 : k - 1 ≤ p / cv i := (Int.le_ediv_iff_mul_le (by omega)).2 (by rw [Int.sub_mul, Int.one_mul]; omega)
                                have h2 : k * cv i ≤ p ∨ ¬ k ≤ p / cv i := by
                                  by_cases q : k * cv i ≤ p
                                  · exact Or.inl q
                                  · exact Or.inr (fun h => q ((Int.le_ediv_iff_mul_le (by omega)).1 h))
                                omega
                              refine ih2 _ _ _ _ (by omega) hX f1 (fun j hj => ?_) (by omega)
                              rw [hb3 j hj]
                              by_cases q : j = p.toNat
                              · rw [if_pos q, if_pos (by omega), wayC_s (by rw [hii]; omega) (by have := hB8r i.toNat (by omega); omega) (by omega), hii, show (j : Int) = p by omega, ← hkm]
                              · rw [if_neg q]
                                by_cases q2 : p < (j : Int)
                                · rw [if_pos q2, if_pos (by omega)]
                                · rw [if_neg q2, if_neg (by omega)]
                            · skip
                              refine jr_aload_n (pc := 89) h dX9_change_89 rfl ?_
                              refine gf_X9_49 (pc := 90) h dX9_change_90 (by assumption) (by omega) ?_
                              refine jr_iload_n (pc := 93) h dX9_change_93 rfl ?_
                              refine jr_dup2 (pc := 94) h dX9_change_94 rfl rfl ?_
                              refine jr_iald (pc := 95) h dX9_change_95 (by assumption) (by omega) (by omega) ?_
                              refine jr_aload_n (pc := 96) h dX9_change_96 rfl ?_
                              refine gf_X9_49 (pc := 97) h dX9_change_97 (by assumption) (by omega) ?_
                              refine jr_iload_n (pc := 100) h dX9_change_100 rfl ?_
                              refine jr_iload (pc := 101) h dX9_change_101 rfl ?_
                              refine jr_iload_n (pc := 103) h dX9_change_103 rfl ?_
                              refine iv_X9_588 (pc := 104) h hl hR dX9_change_104 ⟨(Nat.le_of_ble_eq_true rfl), (Nat.le_of_ble_eq_true rfl), (Nat.le_of_ble_eq_true rfl), (Nat.le_of_ble_eq_true rfl)⟩ (Nat.le_of_ble_eq_true rfl) (s_X9_valueOf (by omega)) (fun v_104 n_104 M_104 hn_104 hp => ?_)
                              obtain ⟨⟨rfl, rfl, rfl⟩, gr_104⟩ := hp
                              refine jr_imul (pc := 107) h dX9_change_107 ?_
                              refine jr_isub (pc := 108) h dX9_change_108 ?_
                              refine jr_iald (pc := 109) h dX9_change_109 (by assumption) (by omega) (by omega) ?_
                              refine jr_iadd (pc := 110) h dX9_change_110 ?_
                              refine jr_iast (pc := 111) h dX9_change_111 hB12 (by omega) (by omega) ?_
                              refine jm_gen (fun M3 hM3 => ?_)
                              have hX := MX_B (i := 12) hX hM3 (by omega)
                              rw [up_up] at hX
                              have f9 : fr (MXf m) _ M3 := fr_up (S := MXf m) hM3 ⟨by omega, by omega⟩
                              have f1 := fr_tr f1 f9
                              refine jr_iinc (pc := 112) h [_, _, _, _, _] dX9_change_112 (by decide) rfl rfl ?_
                              refine jr_goto (pc := 115) h 67 dX9_change_115 (by decide) ?_
                              refine ih3 _ _ _ (by omega) hX f1 (fun j hj => ?_) (by omega)
                              by_cases q : j = p.toNat
                              · rw [q, up_eq, if_pos rfl, hb3 _ (by omega), if_pos rfl, hb3 _ (by omega), if_neg (by omega), if_neg (by omega), sumZ_s (by omega)]
                                rw [show (((p - k * cv i).toNat : Nat) : Int) = p - k * cv i by omega]
                              · rw [up_ne q, hb3 j hj, if_neg q, if_neg q]
                      refine lp3 _ _ _ _ (by have := hB8r i.toNat (by omega); omega) hX f1 (fun j hj => ?_) (Nat.lt_succ_self _)
                      rw [hb2 j hj]
                      by_cases q : j = p.toNat
                      · rw [if_pos q, if_neg (by omega)]
                        show _ = 0 + wayC (B 8) i.toNat (p - ((0 : Nat) : Int) * cv i)
                        rw [show p - ((0 : Nat) : Int) * cv i = (j : Int) by rw [show ((0 : Nat) : Int) = 0 from rfl, Int.zero_mul]; omega]
                        omega
                      · rw [if_neg q]
                exact lp2 _ _ _ _ _ (by omega) hX f1 (fun j hj => by rw [if_neg (by omega)]; exact hb1 j hj) (Nat.lt_succ_self _)
          refine lp1 _ _ _ _ _ _ (by omega) hX f1 (fun j hj => ?_) (Nat.lt_succ_self _)
          rw [hb0 j (by omega)]
          show _ = if (j : Int) = 0 then (1 : Int) else 0
          by_cases q : j = 0
          · rw [if_pos q, if_pos (by omega)]
          · rw [if_neg q, if_neg (by omega)]
        · skip
          refine jr_aload_n (pc := 29) h dX9_change_29 rfl ?_
          refine gf_X9_49 (pc := 30) h dX9_change_30 (by assumption) (by omega) ?_
          refine jr_iload_n (pc := 33) h dX9_change_33 rfl ?_
          refine jr_iload_n (pc := 34) h dX9_change_34 rfl ?_
          refine jr_if_ne (pc := 35) h 42 dX9_change_35 (by decide) (by omega) (fun c_35 => ?_) (fun c_35 => ?_)
          · skip
            refine jr_iconst (pc := 42) h dX9_change_42 ?_
            refine jr_iast (pc := 43) h dX9_change_43 hB12 (by omega) (by omega) ?_
            refine jm_gen (fun M3 hM3 => ?_)
            have hX := MX_B (i := 12) hX hM3 (by omega)
            rw [up_up] at hX
            have f9 : fr (MXf m) _ M3 := fr_up (S := MXf m) hM3 ⟨by omega, by omega⟩
            have f1 := fr_tr f1 f9
            refine jr_iinc (pc := 44) h [_, _, _, _, _] dX9_change_44 (by decide) rfl rfl ?_
            refine jr_goto (pc := 47) h 24 dX9_change_47 (by decide) ?_
            refine ih0 _ _ _ (by omega) hX f1 (fun j hj => ?_) (by omega)
            by_cases q : j = i.toNat
            · rw [q, up_eq]
              first
              | (rw [if_pos (by omega)])
              | (rw [if_neg (by omega)])
            · rw [up_ne q]; exact hb0 j (by omega)
          · skip
            refine jr_iconst (pc := 38) h dX9_change_38 ?_
            refine jr_goto (pc := 39) h 43 dX9_change_39 (by decide) ?_
            refine jr_iast (pc := 43) h dX9_change_43 hB12 (by omega) (by omega) ?_
            refine jm_gen (fun M3 hM3 => ?_)
            have hX := MX_B (i := 12) hX hM3 (by omega)
            rw [up_up] at hX
            have f9 : fr (MXf m) _ M3 := fr_up (S := MXf m) hM3 ⟨by omega, by omega⟩
            have f1 := fr_tr f1 f9
            refine jr_iinc (pc := 44) h [_, _, _, _, _] dX9_change_44 (by decide) rfl rfl ?_
            refine jr_goto (pc := 47) h 24 dX9_change_47 (by decide) ?_
            refine ih0 _ _ _ (by omega) hX f1 (fun j hj => ?_) (by omega)
            by_cases q : j = i.toNat
            · rw [q, up_eq]
              first
              | (rw [if_pos (by omega)])
              | (rw [if_neg (by omega)])
            · rw [up_ne q]; exact hb0 j (by omega)
    exact lp0 _ _ _ (B 12) (by omega) (by rw [up_self]; exact hX) f1 (fun j hj => by omega) (Nat.lt_succ_self _)
  · first | have d_13 := bz_0.mp c_13 | have d_13 := bz_1.mp c_13 | skip
    refine jr_aload_n (pc := 16) h dX9_change_16 rfl ?_
    refine jr_iconst (pc := 17) h dX9_change_17 ?_
    refine iv_X9_58 (pc := 18) h hl hR dX9_change_18 ⟨(Nat.le_of_ble_eq_true rfl), (Nat.le_of_ble_eq_true rfl), (Nat.le_of_ble_eq_true rfl), (Nat.le_of_ble_eq_true rfl)⟩ (Nat.le_of_ble_eq_true rfl) (by assumption) (by omega) (s_X9_refused hX) (fun v_18 n_18 M_18 hn_18 hp => ?_)
    obtain ⟨⟨rfl, rfl⟩, hX, f9⟩ := hp
    have f1 := fr_tr f1 f9
    obtain ⟨hnm, hOm, hBm⟩ := id hX
    refine jr_iret (pc := 21) h hRt dX9_change_21 rfl (Nat.le_of_ble_eq_true rfl) (Nat.le_of_ble_eq_true rfl) ?_
    rw [if_neg (by omega), if_neg (by omega)]
    exact ⟨⟨rfl, rfl⟩, B 12, by rw [up_self]; exact hX, f1⟩
