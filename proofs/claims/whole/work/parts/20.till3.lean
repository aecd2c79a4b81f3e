/-! 20: Till: giving back -/
def gbR (sk : Nat → Int) (c : Nat) (w : Int) : Nat → Int
  | 0 => 0
  | k + 1 => if mnC sk (c + 1) w < (k + 1) + mnC sk c (w - (k + 1) * cv c) then gbR sk c w k else k + 1
def gbM (sk : Nat → Int) (c : Nat) (w : Int) : Int := gbR sk c w (min (sk c) (w / cv c)).toNat
def gbRest (sk : Nat → Int) (a : Int) : Nat → Int
  | 0 => a
  | k + 1 => gbRest sk a k - gbM sk (5 - k) (gbRest sk a k) * cv ((5 - k : Nat) : Int)
def gbC (sk : Nat → Int) (a : Int) (c : Nat) : Int := gbM sk c (gbRest sk a (5 - c))
theorem gbR_r {sk : Nat → Int} {c : Nat} {w : Int} : ∀ k : Nat, 0 ≤ gbR sk c w k ∧ gbR sk c w k ≤ k
  | 0 => by simp [gbR]
  | k + 1 => by
    have := gbR_r (sk := sk) (c := c) (w := w) k
    rw [gbR]
    split <;> omega
theorem gbR_t {sk : Nat → Int} {c : Nat} {w m : Int} (h : 0 < m) (hp : mnC sk (c + 1) w < m + mnC sk c (w - m * cv c)) : gbR sk c w m.toNat = gbR sk c w (m - 1).toNat := by
  obtain ⟨k, hk⟩ : ∃ k, m.toNat = k + 1 := ⟨m.toNat - 1, by omega⟩
  have e : m = (k : Int) + 1 := by omega
  rw [hk, gbR, show (m - 1).toNat = k by omega, if_pos (by rw [← e]; exact hp)]
theorem gbR_f {sk : Nat → Int} {c : Nat} {w m : Int} (h : 0 < m) (hp : ¬ mnC sk (c + 1) w < m + mnC sk c (w - m * cv c)) : gbR sk c w m.toNat = m := by
  obtain ⟨k, hk⟩ : ∃ k, m.toNat = k + 1 := ⟨m.toNat - 1, by omega⟩
  have e : m = (k : Int) + 1 := by omega
  rw [hk, gbR, if_neg (by rw [← e]; exact hp), e]
theorem gbM_r {sk : Nat → Int} (hsk : ∀ j : Nat, 0 ≤ sk j ∧ sk j ≤ 100000) {c : Nat} (hc : c < 6) {w : Int} (hw : 0 ≤ w) : 0 ≤ gbM sk c w ∧ gbM sk c w ≤ sk c ∧ gbM sk c w ≤ w / cv c := by
  have h1 := gbR_r (sk := sk) (c := c) (w := w) (min (sk c) (w / cv c)).toNat
  have h2 := cv_b (i := (c : Int)) (by omega)
  have h3 : 0 ≤ w / cv c := Int.ediv_nonneg hw (by omega)
  have h4 := hsk c
  unfold gbM
  omega
theorem gbRest_r {sk : Nat → Int} (hsk : ∀ j : Nat, 0 ≤ sk j ∧ sk j ≤ 100000) {a : Int} (ha : 0 ≤ a) : ∀ k : Nat, 0 ≤ gbRest sk a k ∧ gbRest sk a k ≤ a
  | 0 => ⟨ha, Int.le_refl _⟩
  | k + 1 => by
    have h := gbRest_r hsk ha k
    have h1 := gbM_r hsk (c := 5 - k) (by omega) h.1
    have h2 := cv_mul (i := ((5 - k : Nat) : Int)) (x := gbRest sk a k) (m := gbM sk (5 - k) (gbRest sk a k)) (by omega) h.1 ⟨h1.1, h1.2.2⟩
    rw [gbRest]
    omega
def gbSk (sk : Nat → Int) (a i : Int) : Nat → Int := fun j => if i < (j : Int) ∧ j < 6 then sk j - gbC sk a j else sk j
def gbRt (sk rt : Nat → Int) (a i : Int) : Nat → Int := fun j => if i < (j : Int) ∧ j < 6 then gbC sk a j else rt j
theorem gbSk_r {sk : Nat → Int} (hsk : ∀ j : Nat, 0 ≤ sk j ∧ sk j ≤ 100000) {a : Int} (ha : 0 ≤ a) (i : Int) : ∀ j : Nat, 0 ≤ gbSk sk a i j ∧ gbSk sk a i j ≤ 100000 := by
  intro j
  have h0 := hsk j
  unfold gbSk
  split
  · rename_i q
    have h := gbRest_r hsk ha (5 - j)
    have h1 := gbM_r hsk (c := j) q.2 h.1
    unfold gbC
    omega
  · exact h0
set_option maxHeartbeats 1000000 in
set_option maxRecDepth 20000 in
theorem s_X5_giveBack {l : Launch} {n : Nat} {M : jdM} {b : Nat} {g sk rt wf : Nat → Int} {fc : Nat → Nat → Int} (hTi : Ti M n b g sk rt fc wf) (hsk : ∀ j : Nat, 0 ≤ sk j ∧ sk j ≤ 100000) {a : Int} (ha : 0 ≤ a ∧ a ≤ 99) : Ct l yX5_giveBack cX5_giveBack 5 (some .boolean) rX5_giveBack [.ref b, jI a] n M (fun vv n' M' => (vv = some (jI (bz (mnC sk 6 a < 1000))) ∧ n = n') ∧ ∃ fc' sk' rt', Ti M' n b g sk' rt' fc' wf ∧ fr (TiS b) M M' ∧ (mnC sk 6 a < 1000 → sk' = gbSk sk a (-1) ∧ rt' = gbRt sk rt a (-1)) ∧ (¬ mnC sk 6 a < 1000 → sk' = sk ∧ rt' = rt)) := by
  refine Ct_of [some (.ref b), some (jI a), none, none, none] (by decide) (Nat.le_of_ble_eq_true rfl) rfl (fun κ hl h hR hRt hmn hn0 => ?_)
  have h : Ok κ RX5 cX5_giveBack 5 (some .boolean) := h
  obtain ⟨hnb, hOb, hSb, hRb, hFb, hGb, hWb⟩ := id hTi
  refine jr_iload_n (pc := 0) h dX5_giveBack_0 rfl ?_
  refine jr_if_lt (pc := 1) h 10 dX5_giveBack_1 (by decide) (by omega) (fun c_1 => ?_) (fun c_1 => ?_)
  · skip
    exfalso; omega
  · skip
    refine jr_iload_n (pc := 4) h dX5_giveBack_4 rfl ?_
    refine jr_bipush (pc := 5) h dX5_giveBack_5 bp_100 ?_
    refine jr_icmp_lt (pc := 7) h 12 dX5_giveBack_7 (by decide) (by omega) (by omega) (fun c_7 => ?_) (fun c_7 => ?_)
    · skip
      refine jr_aload_n (pc := 12) h dX5_giveBack_12 rfl ?_
      refine jr_iload_n (pc := 13) h dX5_giveBack_13 rfl ?_
      refine iv_X5_37 (pc := 14) h hl hR dX5_giveBack_14 ⟨(Nat.le_of_ble_eq_true rfl), (Nat.le_of_ble_eq_true rfl), (Nat.le_of_ble_eq_true rfl), (Nat.le_of_ble_eq_true rfl)⟩ (Nat.le_of_ble_eq_true rfl) (by assumption) (by omega) (s_X5_countFewest hTi hsk (by omega)) (fun v_14 n_14 M_14 hn_14 hp => ?_)
      obtain ⟨rfl, rfl, fc1, hT1, hf1, hfc⟩ := hp
      obtain ⟨hnb, hOb, hSb, hRb, hFb, hGb, hWb⟩ := id hT1
      have hG6 := hGb 6 (by omega)
      have e25 : fc1 6 a.toNat = mnC sk 6 a := by
        have := hfc 6 (by omega) a.toNat (by omega)
        rw [this, show ((a.toNat : Nat) : Int) = a by omega]
      have mb6 := mnC_b (fun j => (hsk j).1) 6 a
      refine jr_aload_n (pc := 17) h dX5_giveBack_17 rfl ?_
      refine gf_X5_20 (pc := 18) h dX5_giveBack_18 (by assumption) (by omega) ?_
      refine jr_bipush (pc := 21) h dX5_giveBack_21 bp_6 ?_
      refine jr_aald5 (pc := 23) h (b + 4 + 6) dX5_giveBack_23 (by assumption) (by omega) (by omega) rfl ?_
      refine jr_iload_n (pc := 24) h dX5_giveBack_24 rfl ?_
      refine jr_iald (pc := 25) h dX5_giveBack_25 (by assumption) (by omega) (by omega) ?_
      rw [e25]
      refine jr_sipush (pc := 26) h dX5_giveBack_26 sp_1000 ?_
      refine jr_icmp_lt (pc := 29) h 34 dX5_giveBack_29 (by decide) (by omega) (by omega) (fun c_29 => ?_) (fun c_29 => ?_)
      · skip
        refine jr_iload_n (pc := 34) h dX5_giveBack_34 rfl ?_
        refine jr_istore_n (pc := 35) h [_, _, _, _, _] dX5_giveBack_35 (by decide) rfl ?_
        refine jr_iconst (pc := 36) h dX5_giveBack_36 ?_
        refine jr_istore_n (pc := 37) h [_, _, _, _, _] dX5_giveBack_37 (by decide) rfl ?_
        have hlt : mnC sk 6 a < 1000 := by omega
        have hM14 := hf1
        have loop : ∀ (dq : Nat) (w i : Int) (u : Option Value) (M1 : jdM), (-1 ≤ i ∧ i ≤ 5) → (Ti M1 n b g (gbSk sk a i) (gbRt sk rt a i) fc1 wf) → (fr (TiS b) M M1) → (w = gbRest sk a (5 - i).toNat) → (i + 1).toNat < dq → J κ 5 0 0 n 38 [some (.ref b), some (jI a), some (jI w), some (jI i), u] [] M1 := by
          intro dq
          induction dq with
          | zero => intro w i u M1 hi hT1 hf1 hw hd; omega
          | succ dq ih =>
            intro w i u M1 hi hT1 hf1 hw hd
            obtain ⟨hnb, hOb, hSb, hRb, hFb, hGb, hWb⟩ := id hT1
            have hwr := gbRest_r hsk ha.1 (5 - i).toNat
            rw [← hw] at hwr
            refine jr_iload_n (pc := 38) h dX5_giveBack_38 rfl ?_
            refine jr_if_lt (pc := 39) h 130 dX5_giveBack_39 (by decide) (by omega) (fun c_39 => ?_) (fun c_39 => ?_)
            · skip
              refine jr_iconst (pc := 130) h dX5_giveBack_130 ?_
              refine jr_iret (pc := 131) h hRt dX5_giveBack_131 rfl (Nat.le_of_ble_eq_true rfl) (Nat.le_of_ble_eq_true rfl) ?_
              have ei : i = -1 := by omega
              subst ei
              exact ⟨⟨ji_c (bz_t hlt).symm, rfl⟩, fc1, gbSk sk a (-1), gbRt sk rt a (-1), hT1, hf1, fun _ => ⟨rfl, rfl⟩, fun h => absurd hlt h⟩
            · skip
              refine jr_aload_n (pc := 42) h dX5_giveBack_42 rfl ?_
              refine jr_iload_n (pc := 43) h dX5_giveBack_43 rfl ?_
              refine jr_iload_n (pc := 44) h dX5_giveBack_44 rfl ?_
              refine iv_X5_41 (pc := 45) h hl hR dX5_giveBack_45 ⟨(Nat.le_of_ble_eq_true rfl), (Nat.le_of_ble_eq_true rfl), (Nat.le_of_ble_eq_true rfl), (Nat.le_of_ble_eq_true rfl)⟩ (Nat.le_of_ble_eq_true rfl) (by assumption) (by omega) (s_X5_most hT1 (by omega) (by omega) (gbSk_r hsk ha.1 i)) (fun v_45 n_45 M_45 hn_45 hp => ?_)
              obtain ⟨⟨rfl, rfl, rfl⟩, gr_45⟩ := hp
              have e1 : gbSk sk a i i.toNat = sk i.toNat := by unfold gbSk; rw [if_neg (by omega)]
              rw [e1] at gr_45 ⊢
              refine jr_istore (pc := 48) h [_, _, _, _, _] dX5_giveBack_48 (by decide) rfl ?_
              have cb := cv_b (i := i) (by omega)
              have mq : 0 ≤ w / cv i := Int.ediv_nonneg (by omega) (by omega)
              have msk := hsk i.toNat
              have mle := Int.ediv_le_self (a := w) (cv i) (by omega)
              have after : 0 ≤ gbM sk i.toNat w → gbM sk i.toNat w ≤ (min (sk i.toNat) (w / cv i)) → J κ 5 0 0 n 94 [some (.ref b), some (jI a), some (jI w), some (jI i), some (jI (gbM sk i.toNat w))] [] M1 := by
                intro hm1 hm3
                refine jr_aload_n (pc := 94) h dX5_giveBack_94 rfl ?_
                refine gf_X5_15 (pc := 95) h dX5_giveBack_95 (by assumption) (by omega) ?_
                refine jr_iload_n (pc := 98) h dX5_giveBack_98 rfl ?_
                refine jr_iload (pc := 99) h dX5_giveBack_99 rfl ?_
                refine jr_iast (pc := 101) h dX5_giveBack_101 (by assumption) (by omega) (by omega) ?_
                refine jm_gen (fun M2 hM2 => ?_)
                have eC : gbC sk a i.toNat = gbM sk i.toNat w := by unfold gbC; rw [hw, show 5 - i.toNat = (5 - i).toNat by omega]
                have eR : up (gbRt sk rt a i) i.toNat (gbM sk i.toNat w) = gbRt sk rt a (i + -1) := by
                  funext j
                  by_cases q : j = i.toNat
                  · rw [q, up_eq]; unfold gbRt; rw [if_pos (by omega), eC]
                  · rw [up_ne q]; unfold gbRt
                    by_cases q2 : i < (j : Int) ∧ j < 6
                    · rw [if_pos q2, if_pos (by omega)]
                    · rw [if_neg q2, if_neg (by omega)]
                have hT2 := Ti_rt (M1 := M2) hT1 (rt' := gbRt sk rt a (i + -1)) (by rw [hM2, ← eR])
                obtain ⟨hnb, hOb, hSb, hRb, hFb, hGb, hWb⟩ := id hT2
                refine jr_aload_n (pc := 102) h dX5_giveBack_102 rfl ?_
                refine gf_X5_9 (pc := 103) h dX5_giveBack_103 (by assumption) (by omega) ?_
                refine jr_iload_n (pc := 106) h dX5_giveBack_106 rfl ?_
                refine jr_dup2 (pc := 107) h dX5_giveBack_107 rfl rfl ?_
                refine jr_iald (pc := 108) h dX5_giveBack_108 (by assumption) (by omega) (by omega) ?_
                refine jr_iload (pc := 109) h dX5_giveBack_109 rfl ?_
                refine jr_isub (pc := 111) h dX5_giveBack_111 ?_
                refine jr_iast (pc := 112) h dX5_giveBack_112 (by assumption) (by omega) (by omega) ?_
                refine jm_gen (fun M3 hM3 => ?_)
                have eS : up (gbSk sk a i) i.toNat (gbSk sk a i i.toNat - gbM sk i.toNat w) = gbSk sk a (i + -1) := by
                  funext j
                  by_cases q : j = i.toNat
                  · rw [q, up_eq]; unfold gbSk; rw [if_neg (by omega), if_pos (by omega), eC]
                  · rw [up_ne q]; unfold gbSk
                    by_cases q2 : i < (j : Int) ∧ j < 6
                    · rw [if_pos q2, if_pos (by omega)]
                    · rw [if_neg q2, if_neg (by omega)]
                have hT3 := Ti_sk (M1 := M3) hT2 (sk' := gbSk sk a (i + -1)) (by rw [hM3, ← eS])
                refine jr_iload_n (pc := 113) h dX5_giveBack_113 rfl ?_
                refine jr_iload (pc := 114) h dX5_giveBack_114 rfl ?_
                refine jr_getsN (pc := 116) h (host := "TwoTrolleys") 2 (by decide) (by decide +kernel) dX5_giveBack_116 ?_
                refine jr_iload_n (pc := 119) h dX5_giveBack_119 rfl ?_
                refine jr_tabld (pc := 120) h 2 (by decide) dX5_giveBack_120 ⟨by omega, by show _ < ((6 : Nat) : Int); omega, by omega⟩ ?_
                change J κ 5 0 0 n (120 + 1) _ (jI (cv i) :: _) _
                refine jr_imul (pc := 121) h dX5_giveBack_121 ?_
                refine jr_isub (pc := 122) h dX5_giveBack_122 ?_
                refine jr_istore_n (pc := 123) h [_, _, _, _, _] dX5_giveBack_123 (by decide) rfl ?_
                refine jr_iinc (pc := 124) h [_, _, _, _, _] dX5_giveBack_124 (by decide) rfl rfl ?_
                refine jr_goto (pc := 127) h 38 dX5_giveBack_127 (by decide) ?_
                refine ih _ _ _ M3 (by omega) hT3 ?_ ?_ (by omega)
                · exact fr_tr hf1 (fr_tr (fr_up hM2 ⟨by omega, by omega⟩) (fr_up hM3 ⟨by omega, by omega⟩))
                · rw [show (5 - (i + -1)).toNat = (5 - i).toNat + 1 by omega, gbRest, show 5 - (5 - i).toNat = i.toNat by omega, ← hw, show ((i.toNat : Nat) : Int) = i by omega]
              have inner : ∀ (dq2 : Nat) (m : Int), (0 ≤ m ∧ m ≤ (min (sk i.toNat) (w / cv i))) → (gbR sk i.toNat w m.toNat = gbM sk i.toNat w) → (m).toNat < dq2 → J κ 5 0 0 n 50 [some (.ref b), some (jI a), some (jI w), some (jI i), some (jI m)] [] M1 := by
                intro dq2
                induction dq2 with
                | zero => intro m hm hm2 hd; omega
                | succ dq2 ih2 =>
                  intro m hm hm2 hd
                  refine jr_iload (pc := 50) h dX5_giveBack_50 rfl ?_
                  refine jr_if_le (pc := 52) h 94 dX5_giveBack_52 (by decide) (by omega) (fun c_52 => ?_) (fun c_52 => ?_)
                  · skip
                    have em : m = gbM sk i.toNat w := by
                      rw [← hm2]
                      first
                        | (rw [gbR_f (by omega) (by rw [show ((i.toNat : Nat) : Int) = i by omega]; omega)])
                        | (have e0 : m = 0 := by omega
                           rw [e0]; rfl)
                    subst em
                    exact after hm.1 hm.2
                  · skip
                    have cm := cv_mul (i := i) (x := w) (m := m) (by omega) (by omega) (by omega)
                    have hGi := hGb i.toNat (by omega)
                    have hGj := hGb (i + 1).toNat (by omega)
                    have e74 : fc1 i.toNat (w - m * cv i).toNat = mnC sk i.toNat (w - m * cv i) := by
                      have := hfc i.toNat (by omega) (w - m * cv i).toNat (by omega)
                      rw [this, show (((w - m * cv i).toNat : Nat) : Int) = w - m * cv i by omega]
                    have e85 : fc1 (i + 1).toNat w.toNat = mnC sk (i.toNat + 1) w := by
                      have := hfc (i + 1).toNat (by omega) w.toNat (by omega)
                      rw [this, show ((w.toNat : Nat) : Int) = w by omega, show (i + 1).toNat = i.toNat + 1 by omega]
                    have mb1 := mnC_b (fun j => (hsk j).1) i.toNat (w - m * cv i)
                    have mb2 := mnC_b (fun j => (hsk j).1) (i.toNat + 1) w
                    refine jr_iload (pc := 55) h dX5_giveBack_55 rfl ?_
                    refine jr_aload_n (pc := 57) h dX5_giveBack_57 rfl ?_
                    refine gf_X5_20 (pc := 58) h dX5_giveBack_58 (by assumption) (by omega) ?_
                    refine jr_iload_n (pc := 61) h dX5_giveBack_61 rfl ?_
                    refine jr_aald5 (pc := 62) h (b + 4 + (i).toNat) dX5_giveBack_62 (by assumption) (by omega) (by omega) (by exact if_pos (by omega)) ?_
                    refine jr_iload_n (pc := 63) h dX5_giveBack_63 rfl ?_
                    refine jr_iload (pc := 64) h dX5_giveBack_64 rfl ?_
                    refine jr_getsN (pc := 66) h (host := "TwoTrolleys") 2 (by decide) (by decide +kernel) dX5_giveBack_66 ?_
                    refine jr_iload_n (pc := 69) h dX5_giveBack_69 rfl ?_
                    refine jr_tabld (pc := 70) h 2 (by decide) dX5_giveBack_70 ⟨by omega, by show _ < ((6 : Nat) : Int); omega, by omega⟩ ?_
                    change J κ 5 0 0 n (70 + 1) _ (jI (cv i) :: _) _
                    refine jr_imul (pc := 71) h dX5_giveBack_71 ?_
                    refine jr_isub (pc := 72) h dX5_giveBack_72 ?_
                    refine jr_iald (pc := 73) h dX5_giveBack_73 (by assumption) (by omega) (by omega) ?_
                    rw [e74]
                    refine jr_iadd (pc := 74) h dX5_giveBack_74 ?_
                    refine jr_aload_n (pc := 75) h dX5_giveBack_75 rfl ?_
                    refine gf_X5_20 (pc := 76) h dX5_giveBack_76 (by assumption) (by omega) ?_
                    refine jr_iload_n (pc := 79) h dX5_giveBack_79 rfl ?_
                    refine jr_iconst (pc := 80) h dX5_giveBack_80 ?_
                    refine jr_iadd (pc := 81) h dX5_giveBack_81 ?_
                    refine jr_aald5 (pc := 82) h (b + 4 + (i + 1).toNat) dX5_giveBack_82 (by assumption) (by omega) (by omega) (by exact if_pos (by omega)) ?_
                    refine jr_iload_n (pc := 83) h dX5_giveBack_83 rfl ?_
                    refine jr_iald (pc := 84) h dX5_giveBack_84 (by assumption) (by omega) (by omega) ?_
                    rw [e85]
                    refine jr_icmp_le (pc := 85) h 94 dX5_giveBack_85 (by decide) (by omega) (by omega) (fun c_85 => ?_) (fun c_85 => ?_)
                    · skip
                      have em : m = gbM sk i.toNat w := by
                        rw [← hm2]
                        first
                          | (rw [gbR_f (by omega) (by rw [show ((i.toNat : Nat) : Int) = i by omega]; omega)])
                          | (have e0 : m = 0 := by omega
                             rw [e0]; rfl)
                      subst em
                      exact after hm.1 hm.2
                    · skip
                      refine jr_iinc (pc := 88) h [_, _, _, _, _] dX5_giveBack_88 (by decide) rfl rfl ?_
                      refine jr_goto (pc := 91) h 50 dX5_giveBack_91 (by decide) ?_
                      refine ih2 _ (by omega) ?_ (by omega)
                      rw [← hm2, show m + -1 = m - 1 by omega]
                      exact (gbR_t (m := m) (by omega) (by rw [show ((i.toNat : Nat) : Int) = i by omega]; omega)).symm
              exact inner _ _ (by omega) (by unfold gbM; rw [show ((i.toNat : Nat) : Int) = i by omega]) (Nat.lt_succ_self _)
        refine loop _ _ _ _ M_14 (by omega) ?_ hf1 rfl (Nat.lt_succ_self _)
        have e1 : gbSk sk a 5 = sk := funext (fun j => if_neg (by omega))
        have e2 : gbRt sk rt a 5 = rt := funext (fun j => if_neg (by omega))
        rw [e1, e2]; exact hT1
      · skip
        refine jr_iconst (pc := 32) h dX5_giveBack_32 ?_
        refine jr_iret (pc := 33) h hRt dX5_giveBack_33 rfl (Nat.le_of_ble_eq_true rfl) (Nat.le_of_ble_eq_true rfl) ?_
        exact ⟨⟨ji_c (bz_f (by omega)).symm, rfl⟩, fc1, sk, rt, hT1, hf1, fun h => absurd h (by omega), fun _ => ⟨rfl, rfl⟩⟩
    · skip
      exfalso; omega
