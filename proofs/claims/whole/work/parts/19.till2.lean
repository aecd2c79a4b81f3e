/-! 19: Till: fewest coins, giving back, ways -/
/-- the least of k + F (p - k v), k up to a number, 1000 at most -/
def mnF (F : Int → Int) (v p : Int) : Nat → Int
  | 0 => min 1000 (F p)
  | k + 1 => min (mnF F v p k) ((k + 1) + F (p - (k + 1) * v))
theorem mnF_le {F : Int → Int} {v p : Int} : ∀ k : Nat, mnF F v p k ≤ 1000
  | 0 => by unfold mnF; omega
  | k + 1 => by have := mnF_le (F := F) (v := v) (p := p) k; unfold mnF; omega
theorem mnF_s {F : Int → Int} {v p i : Int} (h : 0 < i) : mnF F v p i.toNat = min (mnF F v p (i - 1).toNat) (i + F (p - i * v)) := by
  obtain ⟨k, hk⟩ : ∃ k, i.toNat = k + 1 := ⟨i.toNat - 1, by omega⟩
  have e : i = (k : Int) + 1 := by omega
  rw [hk, mnF, show (i - 1).toNat = k by omega, e]
def mnC (sk : Nat → Int) : Nat → Int → Int
  | 0, p => if p = 0 then 0 else 1000
  | c + 1, p => mnF (mnC sk c) (cv c) p (min (sk c) (p / cv c)).toNat
theorem mnC_b {sk : Nat → Int} (hsk : ∀ j : Nat, 0 ≤ sk j) : ∀ (c : Nat) (p : Int), 0 ≤ mnC sk c p ∧ mnC sk c p ≤ 1000
  | 0, p => by unfold mnC; split <;> omega
  | c + 1, p => by
    have h : ∀ k : Nat, 0 ≤ mnF (mnC sk c) (cv c) p k := by
      intro k
      induction k with
      | zero => have := mnC_b hsk c p; unfold mnF; omega
      | succ k ih => have := mnC_b hsk c (p - (k + 1) * cv c); unfold mnF; omega
    unfold mnC
    exact ⟨h _, mnF_le _⟩
/-- rows 0 .. c are right up to a sum -/
def fcOk (sk : Nat → Int) (fc : Nat → Nat → Int) (c s : Int) : Prop := ∀ i : Nat, (i : Int) ≤ c → ∀ p : Nat, (p : Int) ≤ s → fc i p = mnC sk i p
theorem cv_mul {i x m : Int} (hi : 0 ≤ i ∧ i < 6) (hx : 0 ≤ x) (hm : 0 ≤ m ∧ m ≤ x / cv i) : 0 ≤ m * cv i ∧ m * cv i ≤ x := by
  have hc := cv_b hi
  refine ⟨Int.mul_nonneg hm.1 (by omega), ?_⟩
  calc m * cv i ≤ (x / cv i) * cv i := Int.mul_le_mul_of_nonneg_right hm.2 (by omega)
    _ ≤ x := Int.ediv_mul_le x (by omega)
set_option maxHeartbeats 1000000 in
set_option maxRecDepth 20000 in
theorem s_X5_countFewest {l : Launch} {n : Nat} {M : jdM} {b : Nat} {g sk rt wf : Nat → Int} {fc : Nat → Nat → Int} (hTi : Ti M n b g sk rt fc wf) (hsk : ∀ j : Nat, 0 ≤ sk j ∧ sk j ≤ 100000) {a : Int} (ha : 0 ≤ a ∧ a ≤ 99) : Ct l yX5_countFewest cX5_countFewest 6 none rX5_countFewest [.ref b, jI a] n M (fun vv n' M' => vv = none ∧ n = n' ∧ ∃ fc', Ti M' n b g sk rt fc' wf ∧ fr (TiS b) M M' ∧ fcOk sk fc' 6 a) := by
  refine Ct_of [some (.ref b), some (jI a), none, none, none, none] (by decide) (Nat.le_of_ble_eq_true rfl) rfl (fun κ hl h hR hRt hmn hn0 => ?_)
  have h : Ok κ RX5 cX5_countFewest 6 none := h
  obtain ⟨hnb, hOb, hSb, hRb, hFb, hGb, hWb⟩ := id hTi
  have loop : ∀ (dq : Nat) (i : Int) (u3 : Option Value) (u4 : Option Value) (u5 : Option Value) (M1 : jdM) (fc1 : Nat → Nat → Int), (0 ≤ i ∧ i ≤ 6) → (Ti M1 n b g sk rt fc1 wf) → (fr (TiS b) M M1) → (fcOk sk fc1 i a) → (10 - i).toNat < dq → J κ 6 0 0 n 23 [some (.ref b), some (jI a), some (jI i), u3, u4, u5] [] M1 := by
    intro dq
    induction dq with
    | zero => intro i u3 u4 u5 M1 fc1 hi hT1 hf1 hfc hd; omega
    | succ dq ih =>
      intro i u3 u4 u5 M1 fc1 hi hT1 hf1 hfc hd
      obtain ⟨hnb, hOb, hSb, hRb, hFb, hGb, hWb⟩ := id hT1
      refine jr_iload_n (pc := 23) h dX5_countFewest_23 rfl ?_
      refine jr_bipush (pc := 24) h dX5_countFewest_24 bp_6 ?_
      refine jr_icmp_ge (pc := 26) h 111 dX5_countFewest_26 (by decide) (by omega) (by omega) (fun c_26 => ?_) (fun c_26 => ?_)
      · skip
        refine jr_vret (pc := 111) h hRt dX5_countFewest_111 (Nat.le_of_ble_eq_true rfl) (Nat.le_of_ble_eq_true rfl) ?_
        have ei : i = 6 := by omega
        subst ei
        exact ⟨rfl, rfl, fc1, hT1, hf1, hfc⟩
      · skip
        refine jr_iconst (pc := 29) h dX5_countFewest_29 ?_
        refine jr_istore_n (pc := 30) h [_, _, _, _, _, _] dX5_countFewest_30 (by decide) rfl ?_
        have mid : ∀ (dq2 : Nat) (p : Int) (u4 : Option Value) (u5 : Option Value) (M1 : jdM) (fc1 : Nat → Nat → Int), (0 ≤ p ∧ p ≤ a + 1) → (Ti M1 n b g sk rt fc1 wf) → (fr (TiS b) M M1) → (fcOk sk fc1 i a) → (∀ q : Nat, (q : Int) < p → fc1 (i + 1).toNat q = mnC sk (i + 1).toNat q) → (200 - p).toNat < dq2 → J κ 6 0 0 n 31 [some (.ref b), some (jI a), some (jI i), some (jI p), u4, u5] [] M1 := by
          intro dq2
          induction dq2 with
          | zero => intro p u4 u5 M1 fc1 hp2 hT1 hf1 hfc hrow hd; omega
          | succ dq2 ih2 =>
            intro p u4 u5 M1 fc1 hp2 hT1 hf1 hfc hrow hd
            obtain ⟨hnb, hOb, hSb, hRb, hFb, hGb, hWb⟩ := id hT1
            refine jr_iload_n (pc := 31) h dX5_countFewest_31 rfl ?_
            refine jr_iload_n (pc := 32) h dX5_countFewest_32 rfl ?_
            refine jr_icmp_gt (pc := 33) h 105 dX5_countFewest_33 (by decide) (by omega) (by omega) (fun c_33 => ?_) (fun c_33 => ?_)
            · skip
              refine jr_iinc (pc := 105) h [_, _, _, _, _, _] dX5_countFewest_105 (by decide) rfl rfl ?_
              refine jr_goto (pc := 108) h 23 dX5_countFewest_108 (by decide) ?_
              refine ih _ _ _ _ M1 fc1 (by omega) hT1 hf1 ?_ (by omega)
              intro j hj q hq
              by_cases hji : (j : Int) ≤ i
              · exact hfc j hji q hq
              · have ej : j = (i + 1).toNat := by omega
                rw [ej]; exact hrow q (by omega)
            · skip
              refine jr_sipush (pc := 36) h dX5_countFewest_36 sp_1000 ?_
              refine jr_istore (pc := 39) h [_, _, _, _, _, _] dX5_countFewest_39 (by decide) rfl ?_
              refine jr_aload_n (pc := 41) h dX5_countFewest_41 rfl ?_
              refine jr_iload_n (pc := 42) h dX5_countFewest_42 rfl ?_
              refine jr_iload_n (pc := 43) h dX5_countFewest_43 rfl ?_
              refine iv_X5_41 (pc := 44) h hl hR dX5_countFewest_44 ⟨(Nat.le_of_ble_eq_true rfl), (Nat.le_of_ble_eq_true rfl), (Nat.le_of_ble_eq_true rfl), (Nat.le_of_ble_eq_true rfl)⟩ (Nat.le_of_ble_eq_true rfl) (by assumption) (by omega) (s_X5_most hT1 (by omega) (by omega) hsk) (fun v_44 n_44 M_44 hn_44 hp => ?_)
              obtain ⟨⟨rfl, rfl, rfl⟩, gr_44⟩ := hp
              refine jr_istore (pc := 47) h [_, _, _, _, _, _] dX5_countFewest_47 (by decide) rfl ?_
              have cb := cv_b (i := i) (by omega)
              have mq : 0 ≤ p / cv i := Int.ediv_nonneg (by omega) (by omega)
              have msk := hsk i.toNat
              have inner : ∀ (dq3 : Nat) (x m : Int), (-1 ≤ m ∧ m ≤ (min (sk i.toNat) (p / cv i))) → (0 ≤ x ∧ x ≤ 1000) → (0 ≤ m → min x (mnF (mnC sk i.toNat) (cv i) p m.toNat) = (mnF (mnC sk i.toNat) (cv i) p (min (sk i.toNat) (p / cv i)).toNat)) → (m < 0 → x = (mnF (mnC sk i.toNat) (cv i) p (min (sk i.toNat) (p / cv i)).toNat)) → (m + 1).toNat < dq3 → J κ 6 0 0 n 49 [some (.ref b), some (jI a), some (jI i), some (jI p), some (jI x), some (jI m)] [] M1 := by
                intro dq3
                induction dq3 with
                | zero => intro x m hm hxr hz hz0 hd; omega
                | succ dq3 ih3 =>
                  intro x m hm hxr hz hz0 hd
                  refine jr_iload (pc := 49) h dX5_countFewest_49 rfl ?_
                  refine jr_if_lt (pc := 51) h 87 dX5_countFewest_51 (by decide) (by omega) (fun c_51 => ?_) (fun c_51 => ?_)
                  · skip
                    refine jr_aload_n (pc := 87) h dX5_countFewest_87 rfl ?_
                    refine gf_X5_20 (pc := 88) h dX5_countFewest_88 (by assumption) (by omega) ?_
                    refine jr_iload_n (pc := 91) h dX5_countFewest_91 rfl ?_
                    refine jr_iconst (pc := 92) h dX5_countFewest_92 ?_
                    refine jr_iadd (pc := 93) h dX5_countFewest_93 ?_
                    refine jr_aald5 (pc := 94) h (b + 4 + (i + 1).toNat) dX5_countFewest_94 (by assumption) (by omega) (by omega) (by exact if_pos (by omega)) ?_
                    have hGj := hGb (i + 1).toNat (by omega)
                    refine jr_iload_n (pc := 95) h dX5_countFewest_95 rfl ?_
                    refine jr_iload (pc := 96) h dX5_countFewest_96 rfl ?_
                    refine jr_iast (pc := 98) h dX5_countFewest_98 (by assumption) (by omega) (by omega) ?_
                    refine jm_gen (fun M4 hM4 => ?_)
                    have hT4 := Ti_fc (i + 1).toNat (by omega) hT1 hM4
                    have hf4 : fr (TiS b) M1 M4 := fr_up hM4 ⟨by omega, by omega⟩
                    refine jr_iinc (pc := 99) h [_, _, _, _, _, _] dX5_countFewest_99 (by decide) rfl rfl ?_
                    refine jr_goto (pc := 102) h 31 dX5_countFewest_102 (by decide) ?_
                    refine ih2 _ _ _ M4 _ (by omega) hT4 (fr_tr hf1 hf4) ?_ ?_ (by omega)
                    · intro j hj q hq; rw [up_ne (by omega)]; exact hfc j hj q hq
                    · intro q hq
                      rw [up_eq]
                      by_cases hqp : q = p.toNat
                      · rw [hqp, up_eq, hz0 (by omega)]; show _ = mnC sk (i + 1).toNat _; rw [show (i + 1).toNat = i.toNat + 1 by omega, mnC, show ((p.toNat : Nat) : Int) = p by omega, show ((i.toNat : Nat) : Int) = i by omega]
                      · rw [up_ne hqp]; exact hrow q (by omega)
                  · skip
                    have cm := cv_mul (i := i) (x := p) (m := m) (by omega) (by omega) (by omega)
                    have hGi := hGb i.toNat (by omega)
                    have e75 : fc1 i.toNat (p - m * cv i).toNat = mnC sk i.toNat (p - m * cv i) := by
                      have := hfc i.toNat (by omega) (p - m * cv i).toNat (by omega)
                      rw [this, show (((p - m * cv i).toNat : Nat) : Int) = p - m * cv i by omega]
                    have mb := mnC_b (fun j => (hsk j).1) i.toNat (p - m * cv i)
                    refine jr_iload (pc := 54) h dX5_countFewest_54 rfl ?_
                    refine jr_iload (pc := 56) h dX5_countFewest_56 rfl ?_
                    refine jr_aload_n (pc := 58) h dX5_countFewest_58 rfl ?_
                    refine gf_X5_20 (pc := 59) h dX5_countFewest_59 (by assumption) (by omega) ?_
                    refine jr_iload_n (pc := 62) h dX5_countFewest_62 rfl ?_
                    refine jr_aald5 (pc := 63) h (b + 4 + (i).toNat) dX5_countFewest_63 (by assumption) (by omega) (by omega) (by exact if_pos (by omega)) ?_
                    refine jr_iload_n (pc := 64) h dX5_countFewest_64 rfl ?_
                    refine jr_iload (pc := 65) h dX5_countFewest_65 rfl ?_
                    refine jr_getsN (pc := 67) h (host := "TwoTrolleys") 2 (by decide) (by decide +kernel) dX5_countFewest_67 ?_
                    refine jr_iload_n (pc := 70) h dX5_countFewest_70 rfl ?_
                    refine jr_tabld (pc := 71) h 2 (by decide) dX5_countFewest_71 ⟨by omega, by show _ < ((6 : Nat) : Int); omega, by omega⟩ ?_
                    change J κ 6 0 0 n (71 + 1) _ (jI (cv i) :: _) _
                    refine jr_imul (pc := 72) h dX5_countFewest_72 ?_
                    refine jr_isub (pc := 73) h dX5_countFewest_73 ?_
                    refine jr_iald (pc := 74) h dX5_countFewest_74 (by assumption) (by omega) (by omega) ?_
                    rw [e75]
                    refine jr_iadd (pc := 75) h dX5_countFewest_75 ?_
                    refine im_X5_45 (pc := 76) h hR dX5_countFewest_76 ⟨(Nat.le_of_ble_eq_true rfl), (Nat.le_of_ble_eq_true rfl), (Nat.le_of_ble_eq_true rfl), (Nat.le_of_ble_eq_true rfl)⟩ (by omega) (by omega) ?_
                    refine jr_istore (pc := 79) h [_, _, _, _, _, _] dX5_countFewest_79 (by decide) rfl ?_
                    refine jr_iinc (pc := 81) h [_, _, _, _, _, _] dX5_countFewest_81 (by decide) rfl rfl ?_
                    refine jr_goto (pc := 84) h 49 dX5_countFewest_84 (by decide) ?_
                    refine ih3 _ _ (by omega) (by omega) ?_ ?_ (by omega)
                    · intro h; have := hz (by omega); rw [mnF_s (by omega)] at this; rw [show m + -1 = m - 1 by omega]; omega
                    · intro h; have e0 : m = 0 := by omega
                      have this := hz (by omega)
                      rw [e0] at this mb ⊢
                      have this2 : min x (min 1000 (mnC sk i.toNat p)) = (mnF (mnC sk i.toNat) (cv i) p (min (sk i.toNat) (p / cv i)).toNat) := this
                      rw [Int.zero_mul, Int.sub_zero] at mb ⊢
                      omega
              exact inner _ _ _ (by omega) (by omega) (fun _ => by have := mnF_le (F := mnC sk i.toNat) (v := cv i) (p := p) (min (sk i.toNat) (p / cv i)).toNat; omega) (fun h => by omega) (Nat.lt_succ_self _)
        exact mid _ _ _ _ M1 fc1 (by omega) hT1 hf1 hfc (fun q hq => by omega) (Nat.lt_succ_self _)
  refine jr_aload_n (pc := 0) h dX5_countFewest_0 rfl ?_
  refine gf_X5_20 (pc := 1) h dX5_countFewest_1 (by assumption) (by omega) ?_
  refine jr_iconst (pc := 4) h dX5_countFewest_4 ?_
  refine jr_aald5 (pc := 5) h (b + 4 + 0) dX5_countFewest_5 (by assumption) (by omega) (by omega) rfl ?_
  refine jr_sipush (pc := 6) h dX5_countFewest_6 sp_1000 ?_
  refine iv_X5_50 (pc := 9) h hl hR dX5_countFewest_9 ⟨(Nat.le_of_ble_eq_true rfl), (Nat.le_of_ble_eq_true rfl), (Nat.le_of_ble_eq_true rfl), (Nat.le_of_ble_eq_true rfl)⟩ (Nat.le_of_ble_eq_true rfl) (s_J7_fill_53178 (hGb 0 (by omega)) (by omega) (by omega)) (fun v_9 n_9 M_9 hn_9 hp => ?_)
  obtain ⟨rfl, rfl, hM9⟩ := hp
  have hT9 := Ti_fc 0 (by omega) hTi hM9
  have hf9 : fr (TiS b) M M_9 := fr_up hM9 ⟨by omega, by omega⟩
  obtain ⟨hnb, hOb, hSb, hRb, hFb, hGb, hWb⟩ := id hT9
  have hG0 := hGb 0 (by omega)
  refine jr_aload_n (pc := 12) h dX5_countFewest_12 rfl ?_
  refine gf_X5_20 (pc := 13) h dX5_countFewest_13 (by assumption) (by omega) ?_
  refine jr_iconst (pc := 16) h dX5_countFewest_16 ?_
  refine jr_aald5 (pc := 17) h (b + 4 + 0) dX5_countFewest_17 (by assumption) (by omega) (by omega) rfl ?_
  refine jr_iconst (pc := 18) h dX5_countFewest_18 ?_
  refine jr_iconst (pc := 19) h dX5_countFewest_19 ?_
  refine jr_iast (pc := 20) h dX5_countFewest_20 (by assumption) (by omega) (by omega) ?_
  refine jm_gen (fun M2 hM2 => ?_)
  refine jr_iconst (pc := 21) h dX5_countFewest_21 ?_
  refine jr_istore_n (pc := 22) h [_, _, _, _, _, _] dX5_countFewest_22 (by decide) rfl ?_
  have hT2 := Ti_fc 0 (by omega) hT9 hM2
  refine loop _ _ _ _ _ M2 _ (by omega) hT2 (fr_tr hf9 (fr_up hM2 ⟨by omega, by omega⟩)) ?_ (Nat.lt_succ_self _)
  intro j hj q hq
  have ej : j = 0 := by omega
  subst ej
  have hq2 : q < 100 := by omega
  rw [up_eq]
  show up _ 0 _ q = if (q : Int) = 0 then 0 else 1000
  by_cases h0 : q = 0
  · rw [h0, up_eq]; rfl
  · rw [up_ne h0, if_neg (by omega), up_eq, if_pos hq2]
