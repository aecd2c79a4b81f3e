/-! 21: Till: in how many ways -/
theorem sumZ_front (f : Int → Int) : ∀ k : Nat, sumZ f (k + 1) = f 0 + sumZ (fun i => f (i + 1)) k
  | 0 => by simp [sumZ]
  | k + 1 => by
    rw [sumZ, sumZ_front f k]
    simp only [sumZ]
    have : ((k + 1 : Nat) : Int) = (k : Int) + 1 := by omega
    rw [this]
    omega
/-- the ways with any number of a coin of value v -/
def unb (F : Int → Int) (v p : Int) : Int := sumZ (fun k => F (p - k * v)) (p / v + 1).toNat
theorem unb_lo {F : Int → Int} {v p : Int} (hp : 0 ≤ p ∧ p < v) : unb F v p = F p := by
  unfold unb
  rw [show p / v = 0 from Int.ediv_eq_zero_of_lt hp.1 hp.2]
  show sumZ _ 1 = _
  simp [sumZ]
theorem unb_s {F : Int → Int} {v p : Int} (hv : 0 < v) (hp : v ≤ p) : unb F v p = F p + unb F v (p - v) := by
  have h1 : p / v = (p - v) / v + 1 := by
    have := Int.add_mul_ediv_right (p - v) 1 (show v ≠ 0 by omega)
    rw [Int.one_mul, show p - v + v = p by omega] at this
    exact this
  have h2 : 0 ≤ (p - v) / v := Int.ediv_nonneg (by omega) (by omega)
  unfold unb
  rw [h1, show ((p - v) / v + 1 + 1).toNat = ((p - v) / v + 1).toNat + 1 by omega, sumZ_front]
  congr 1
  · simp
  · refine sumZ_cong (fun i _ _ => ?_)
    congr 1
    rw [Int.add_mul, Int.one_mul]
    omega
def wayC (sk : Nat → Int) : Nat → Int → Int
  | 0, p => if p = 0 then 1 else 0
  | c + 1, p => if cv c * (sk c + 1) ≤ p then unb (wayC sk c) (cv c) p - unb (wayC sk c) (cv c) (p - cv c * (sk c + 1)) else unb (wayC sk c) (cv c) p
set_option maxHeartbeats 1000000 in
set_option maxRecDepth 20000 in
theorem s_X5_waysToGive {l : Launch} {n : Nat} {M : jdM} {b : Nat} {g sk rt wf : Nat → Int} {fc : Nat → Nat → Int} (hTi : Ti M n b g sk rt fc wf) (hsk : ∀ j : Nat, 0 ≤ sk j ∧ sk j ≤ 100000) {a : Int} (ha : 0 ≤ a ∧ a ≤ 199) : Ct l yX5_waysToGive cX5_waysToGive 6 (some .int) rX5_waysToGive [.ref b, jI a] n M (fun vv n' M' => (vv = some (jI (wayC sk 6 a)) ∧ n = n') ∧ ∃ wf', Ti M' n b g sk rt fc wf' ∧ fr (TiS b) M M') := by
  refine Ct_of [some (.ref b), some (jI a), none, none, none, none] (by decide) (Nat.le_of_ble_eq_true rfl) rfl (fun κ hl h hR hRt hmn hn0 => ?_)
  have h : Ok κ RX5 cX5_waysToGive 6 (some .int) := h
  obtain ⟨hnb, hOb, hSb, hRb, hFb, hGb, hWb⟩ := id hTi
  refine jr_iload_n (pc := 0) h dX5_waysToGive_0 rfl ?_
  refine jr_if_lt (pc := 1) h 11 dX5_waysToGive_1 (by decide) (by omega) (fun c_1 => ?_) (fun c_1 => ?_)
  · skip
    exfalso; omega
  · skip
    refine jr_iload_n (pc := 4) h dX5_waysToGive_4 rfl ?_
    refine jr_sipush (pc := 5) h dX5_waysToGive_5 sp_199 ?_
    refine jr_icmp_le (pc := 8) h 13 dX5_waysToGive_8 (by decide) (by omega) (by omega) (fun c_8 => ?_) (fun c_8 => ?_)
    · skip
      refine jr_aload_n (pc := 13) h dX5_waysToGive_13 rfl ?_
      refine gf_X5_23 (pc := 14) h dX5_waysToGive_14 (by assumption) (by omega) ?_
      refine jr_iconst (pc := 17) h dX5_waysToGive_17 ?_
      refine iv_X5_50 (pc := 18) h hl hR dX5_waysToGive_18 ⟨(Nat.le_of_ble_eq_true rfl), (Nat.le_of_ble_eq_true rfl), (Nat.le_of_ble_eq_true rfl), (Nat.le_of_ble_eq_true rfl)⟩ (Nat.le_of_ble_eq_true rfl) (s_J7_fill_53178 (by assumption) (by omega) (by omega)) (fun v_18 n_18 M_18 hn_18 hp => ?_)
      obtain ⟨rfl, rfl, hM18⟩ := hp
      have hT1 := Ti_wf hTi hM18
      have hf18 : fr (TiS b) M M_18 := fr_up hM18 ⟨by omega, by omega⟩
      obtain ⟨hnb, hOb, hSb, hRb, hFb, hGb, hWb⟩ := id hT1
      refine jr_aload_n (pc := 21) h dX5_waysToGive_21 rfl ?_
      refine gf_X5_23 (pc := 22) h dX5_waysToGive_22 (by assumption) (by omega) ?_
      refine jr_iconst (pc := 25) h dX5_waysToGive_25 ?_
      refine jr_iconst (pc := 26) h dX5_waysToGive_26 ?_
      refine jr_iast (pc := 27) h dX5_waysToGive_27 (by assumption) (by omega) (by omega) ?_
      refine jm_gen (fun M2 hM2 => ?_)
      refine jr_iconst (pc := 28) h dX5_waysToGive_28 ?_
      refine jr_istore_n (pc := 29) h [_, _, _, _, _, _] dX5_waysToGive_29 (by decide) rfl ?_
      have loop : ∀ (dq : Nat) (i : Int) (u3 : Option Value) (u4 : Option Value) (u5 : Option Value) (M1 : jdM) (wf1 : Nat → Int), (0 ≤ i ∧ i ≤ 6) → (Ti M1 n b g sk rt fc wf1) → (fr (TiS b) M M1) → (∀ z : Nat, (z : Int) ≤ a → wf1 z = wayC sk i.toNat z) → (10 - i).toNat < dq → J κ 6 0 0 n 30 [some (.ref b), some (jI a), some (jI i), u3, u4, u5] [] M1 := by
        intro dq
        induction dq with
        | zero => intro i u3 u4 u5 M1 wf1 hi hT1 hf1 hw1 hd; omega
        | succ dq ih =>
          intro i u3 u4 u5 M1 wf1 hi hT1 hf1 hw1 hd
          obtain ⟨hnb, hOb, hSb, hRb, hFb, hGb, hWb⟩ := id hT1
          refine jr_iload_n (pc := 30) h dX5_waysToGive_30 rfl ?_
          refine jr_bipush (pc := 31) h dX5_waysToGive_31 bp_6 ?_
          refine jr_icmp_ge (pc := 33) h 130 dX5_waysToGive_33 (by decide) (by omega) (by omega) (fun c_33 => ?_) (fun c_33 => ?_)
          · skip
            refine jr_aload_n (pc := 130) h dX5_waysToGive_130 rfl ?_
            refine gf_X5_23 (pc := 131) h dX5_waysToGive_131 (by assumption) (by omega) ?_
            refine jr_iload_n (pc := 134) h dX5_waysToGive_134 rfl ?_
            refine jr_iald (pc := 135) h dX5_waysToGive_135 (by assumption) (by omega) (by omega) ?_
            refine jr_iret (pc := 136) h hRt dX5_waysToGive_136 rfl (Nat.le_of_ble_eq_true rfl) (Nat.le_of_ble_eq_true rfl) ?_
            have ei : i = 6 := by omega
            subst ei
            refine ⟨⟨ji_c ?_, rfl⟩, wf1, hT1, hf1⟩
            rw [hw1 a.toNat (by omega), show ((a.toNat : Nat) : Int) = a by omega]; rfl
          · skip
            refine jr_getsN (pc := 36) h (host := "TwoTrolleys") 2 (by decide) (by decide +kernel) dX5_waysToGive_36 ?_
            refine jr_iload_n (pc := 39) h dX5_waysToGive_39 rfl ?_
            refine jr_tabld (pc := 40) h 2 (by decide) dX5_waysToGive_40 ⟨by omega, by show _ < ((6 : Nat) : Int); omega, by omega⟩ ?_
            have cb := cv_b (i := i) (by omega)
            change J κ 6 0 0 n (40 + 1) _ (jI (cv i) :: _) _
            refine jr_istore_n (pc := 41) h [_, _, _, _, _, _] dX5_waysToGive_41 (by decide) rfl ?_
            refine jr_iload_n (pc := 42) h dX5_waysToGive_42 rfl ?_
            refine jr_istore (pc := 43) h [_, _, _, _, _, _] dX5_waysToGive_43 (by decide) rfl ?_
            have lb : ∀ (dqb : Nat) (p : Int) (u5 : Option Value) (M1 : jdM) (wf1 : Nat → Int), (cv i ≤ p ∧ (p = cv i ∨ p ≤ a + 1)) → (Ti M1 n b g sk rt fc wf1) → (fr (TiS b) M M1) → (∀ z : Nat, (z : Int) ≤ a → wf1 z = if (z : Int) < p then unb (wayC sk i.toNat) (cv i) z else wayC sk i.toNat z) → (500 - p).toNat < dqb → J κ 6 0 0 n 45 [some (.ref b), some (jI a), some (jI i), some (jI (cv i)), some (jI p), u5] [] M1 := by
              intro dqb
              induction dqb with
              | zero => intro p u5 M1 wf1 hp2 hT1 hf1 hw1 hd; omega
              | succ dqb ihb =>
                intro p u5 M1 wf1 hp2 hT1 hf1 hw1 hd
                obtain ⟨hnb, hOb, hSb, hRb, hFb, hGb, hWb⟩ := id hT1
                refine jr_iload (pc := 45) h dX5_waysToGive_45 rfl ?_
                refine jr_iload_n (pc := 47) h dX5_waysToGive_47 rfl ?_
                refine jr_icmp_gt (pc := 48) h 76 dX5_waysToGive_48 (by decide) (by omega) (by omega) (fun c_48 => ?_) (fun c_48 => ?_)
                · skip
                  refine jr_iload_n (pc := 76) h dX5_waysToGive_76 rfl ?_
                  refine jr_aload_n (pc := 77) h dX5_waysToGive_77 rfl ?_
                  refine gf_X5_9 (pc := 78) h dX5_waysToGive_78 (by assumption) (by omega) ?_
                  refine jr_iload_n (pc := 81) h dX5_waysToGive_81 rfl ?_
                  refine jr_iald (pc := 82) h dX5_waysToGive_82 (by assumption) (by omega) (by omega) ?_
                  refine jr_iconst (pc := 83) h dX5_waysToGive_83 ?_
                  refine jr_iadd (pc := 84) h dX5_waysToGive_84 ?_
                  refine jr_imul (pc := 85) h dX5_waysToGive_85 ?_
                  skip
                  refine jr_istore (pc := 86) h [_, _, _, _, _, _] dX5_waysToGive_86 (by decide) rfl ?_
                  refine jr_iload_n (pc := 88) h dX5_waysToGive_88 rfl ?_
                  refine jr_istore (pc := 89) h [_, _, _, _, _, _] dX5_waysToGive_89 (by decide) rfl ?_
                  have msk := hsk i.toNat
                  have hT1b := mulb (A := 50) (B := 100001) (a := cv i) (b := sk i.toNat + 1) (by omega) (by omega)
                  obtain ⟨T, hT⟩ : ∃ T, T = cv i * (sk i.toNat + 1) := ⟨_, rfl⟩
                  have hTv : cv i ≤ T := by rw [hT, Int.mul_add, Int.mul_one]; have := Int.mul_nonneg (show 0 ≤ cv i by omega) msk.1; omega
                  rw [← hT] at hT1b ⊢
                  have lc : ∀ (dqc : Nat) (p : Int) (M1 : jdM) (wf1 : Nat → Int), (-1 ≤ p ∧ p ≤ a ∧ T ≤ p + 1 ∨ (p = a ∧ a < T)) → (Ti M1 n b g sk rt fc wf1) → (fr (TiS b) M M1) → (∀ z : Nat, (z : Int) ≤ a → wf1 z = if p < (z : Int) then wayC sk (i.toNat + 1) z else unb (wayC sk i.toNat) (cv i) z) → (p + 1).toNat < dqc → J κ 6 0 0 n 91 [some (.ref b), some (jI a), some (jI i), some (jI (cv i)), some (jI T), some (jI p)] [] M1 := by
                    intro dqc
                    induction dqc with
                    | zero => intro p M1 wf1 hp3 hT1 hf1 hw1 hd; omega
                    | succ dqc ihc =>
                      intro p M1 wf1 hp3 hT1 hf1 hw1 hd
                      obtain ⟨hnb, hOb, hSb, hRb, hFb, hGb, hWb⟩ := id hT1
                      refine jr_iload (pc := 91) h dX5_waysToGive_91 rfl ?_
                      refine jr_iload (pc := 93) h dX5_waysToGive_93 rfl ?_
                      refine jr_icmp_lt (pc := 95) h 124 dX5_waysToGive_95 (by decide) (by omega) (by omega) (fun c_95 => ?_) (fun c_95 => ?_)
                      · skip
                        refine jr_iinc (pc := 124) h [_, _, _, _, _, _] dX5_waysToGive_124 (by decide) rfl rfl ?_
                        refine jr_goto (pc := 127) h 30 dX5_waysToGive_127 (by decide) ?_
                        refine ih _ _ _ _ M1 _ (by omega) hT1 hf1 ?_ (by omega)
                        intro z hz
                        rw [hw1 z hz, show (i + 1).toNat = i.toNat + 1 by omega]
                        by_cases q2 : p < (z : Int)
                        · rw [if_pos q2]
                        · rw [if_neg q2, show wayC sk (i.toNat + 1) z = if cv i.toNat * (sk i.toNat + 1) ≤ z then unb (wayC sk i.toNat) (cv i.toNat) z - unb (wayC sk i.toNat) (cv i.toNat) (z - cv i.toNat * (sk i.toNat + 1)) else unb (wayC sk i.toNat) (cv i.toNat) z from rfl, show ((i.toNat : Nat) : Int) = i by omega, ← hT, if_neg (by omega)]
                      · skip
                        refine jr_aload_n (pc := 98) h dX5_waysToGive_98 rfl ?_
                        refine gf_X5_23 (pc := 99) h dX5_waysToGive_99 (by assumption) (by omega) ?_
                        refine jr_iload (pc := 102) h dX5_waysToGive_102 rfl ?_
                        refine jr_dup2 (pc := 104) h dX5_waysToGive_104 rfl rfl ?_
                        refine jr_iald (pc := 105) h dX5_waysToGive_105 (by assumption) (by omega) (by omega) ?_
                        refine jr_aload_n (pc := 106) h dX5_waysToGive_106 rfl ?_
                        refine gf_X5_23 (pc := 107) h dX5_waysToGive_107 (by assumption) (by omega) ?_
                        refine jr_iload (pc := 110) h dX5_waysToGive_110 rfl ?_
                        refine jr_iload (pc := 112) h dX5_waysToGive_112 rfl ?_
                        refine jr_isub (pc := 114) h dX5_waysToGive_114 ?_
                        refine jr_iald (pc := 115) h dX5_waysToGive_115 (by assumption) (by omega) (by omega) ?_
                        refine jr_isub (pc := 116) h dX5_waysToGive_116 ?_
                        refine jr_iast (pc := 117) h dX5_waysToGive_117 (by assumption) (by omega) (by omega) ?_
                        refine jm_gen (fun M3 hM3 => ?_)
                        refine jr_iinc (pc := 118) h [_, _, _, _, _, _] dX5_waysToGive_118 (by decide) rfl rfl ?_
                        refine jr_goto (pc := 121) h 91 dX5_waysToGive_121 (by decide) ?_
                        refine ihc _ M3 _ (by omega) (Ti_wf hT1 hM3) (fr_tr hf1 (fr_up hM3 ⟨by omega, by omega⟩)) ?_ (by omega)
                        intro z hz
                        by_cases q : z = p.toNat
                        · rw [q, up_eq, hw1 p.toNat (by omega), hw1 (p - T).toNat (by omega), if_neg (by omega), if_neg (by omega), if_pos (by omega), show ((p.toNat : Nat) : Int) = p by omega, show (((p - T).toNat : Nat) : Int) = p - T by omega]
                          rw [show wayC sk (i.toNat + 1) p = if cv i.toNat * (sk i.toNat + 1) ≤ p then unb (wayC sk i.toNat) (cv i.toNat) p - unb (wayC sk i.toNat) (cv i.toNat) (p - cv i.toNat * (sk i.toNat + 1)) else unb (wayC sk i.toNat) (cv i.toNat) p from rfl, show ((i.toNat : Nat) : Int) = i by omega, ← hT, if_pos (by omega)]
                        · rw [up_ne q, hw1 z hz]
                          by_cases q2 : p < (z : Int)
                          · rw [if_pos q2, if_pos (by omega)]
                          · rw [if_neg q2, if_neg (by omega)]
                  exact lc _ _ M1 wf1 (by omega) hT1 hf1 (fun z hz => by rw [hw1 z hz, if_pos (by omega), if_neg (by omega)]) (Nat.lt_succ_self _)
                · skip
                  refine jr_aload_n (pc := 51) h dX5_waysToGive_51 rfl ?_
                  refine gf_X5_23 (pc := 52) h dX5_waysToGive_52 (by assumption) (by omega) ?_
                  refine jr_iload (pc := 55) h dX5_waysToGive_55 rfl ?_
                  refine jr_dup2 (pc := 57) h dX5_waysToGive_57 rfl rfl ?_
                  refine jr_iald (pc := 58) h dX5_waysToGive_58 (by assumption) (by omega) (by omega) ?_
                  refine jr_aload_n (pc := 59) h dX5_waysToGive_59 rfl ?_
                  refine gf_X5_23 (pc := 60) h dX5_waysToGive_60 (by assumption) (by omega) ?_
                  refine jr_iload (pc := 63) h dX5_waysToGive_63 rfl ?_
                  refine jr_iload_n (pc := 65) h dX5_waysToGive_65 rfl ?_
                  refine jr_isub (pc := 66) h dX5_waysToGive_66 ?_
                  refine jr_iald (pc := 67) h dX5_waysToGive_67 (by assumption) (by omega) (by omega) ?_
                  refine jr_iadd (pc := 68) h dX5_waysToGive_68 ?_
                  refine jr_iast (pc := 69) h dX5_waysToGive_69 (by assumption) (by omega) (by omega) ?_
                  refine jm_gen (fun M2 hM2 => ?_)
                  refine jr_iinc (pc := 70) h [_, _, _, _, _, _] dX5_waysToGive_70 (by decide) rfl rfl ?_
                  refine jr_goto (pc := 73) h 45 dX5_waysToGive_73 (by decide) ?_
                  refine ihb _ _ M2 _ (by omega) (Ti_wf hT1 hM2) (fr_tr hf1 (fr_up hM2 ⟨by omega, by omega⟩)) ?_ (by omega)
                  intro z hz
                  by_cases q : z = p.toNat
                  · rw [q, up_eq, hw1 p.toNat (by omega), hw1 (p - cv i).toNat (by omega), if_neg (by omega), if_pos (by omega), if_pos (by omega), show ((p.toNat : Nat) : Int) = p by omega, show (((p - cv i).toNat : Nat) : Int) = p - cv i by omega, unb_s (p := p) (by omega) (by omega)]
                  · rw [up_ne q, hw1 z hz]
                    by_cases q2 : (z : Int) < p
                    · rw [if_pos q2, if_pos (by omega)]
                    · rw [if_neg q2, if_neg (by omega)]
            exact lb _ _ _ M1 wf1 (by omega) hT1 hf1 (fun z hz => by
              rw [hw1 z hz]
              by_cases q : (z : Int) < cv i
              · rw [if_pos q, unb_lo (by omega)]
              · rw [if_neg q]) (Nat.lt_succ_self _)
      refine loop _ _ _ _ _ M2 _ (by omega) (Ti_wf hT1 hM2) (fr_tr hf18 (fr_up hM2 ⟨by omega, by omega⟩)) ?_ (Nat.lt_succ_self _)
      intro z hz
      have hz2 : z < 200 := by omega
      show up _ 0 _ z = if (z : Int) = 0 then 1 else 0
      by_cases h0 : z = 0
      · rw [h0, up_eq]; rfl
      · rw [up_ne h0, if_pos hz2, if_neg (by omega)]
    · skip
      exfalso; omega
