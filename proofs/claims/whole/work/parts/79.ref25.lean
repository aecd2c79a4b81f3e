/-! 79: the reference: coins and small asks -/
set_option maxHeartbeats 1000000 in
set_option maxRecDepth 20000 in
theorem s_X9_valueOf {l : Launch} {n : Nat} {M : jdM} {x : Int} (hx : 0 ≤ x ∧ x < 6) : Ct l yX9_valueOf cX9_valueOf 1 (some .int) rX9_valueOf [jI x] n M (fun vv n' M' => (vv = some (jI (cv x)) ∧ n = n' ∧ M = M') ∧ (1) ≤ (cv x) ∧ (cv x) ≤ 50) := by
  refine Ct_of [some (jI x)] (by decide) (Nat.le_of_ble_eq_true rfl) rfl (fun κ hl h hR hRt hmn hn0 => ?_)
  have h : Ok κ RX9 cX9_valueOf 1 (some .int) := h
  have hx9 : x = 0 ∨ x = 1 ∨ x = 2 ∨ x = 3 ∨ x = 4 ∨ x = 5 := by omega
  rcases hx9 with rfl | rfl | rfl | rfl | rfl | rfl
  · skip
    refine jr_iload_n (pc := 0) h dX9_valueOf_0 rfl ?_
    refine jr_tableIn (pc := 1) h (x := 0) (off := 35) 36 dX9_valueOf_1 (by omega) (by omega) (by omega) rfl (by decide) ?_
    refine jr_iconst (pc := 36) h dX9_valueOf_36 ?_
    refine jr_iret (pc := 37) h hRt dX9_valueOf_37 rfl (Nat.le_of_ble_eq_true rfl) (Nat.le_of_ble_eq_true rfl) ?_
    refine ⟨⟨ji_c ?_, rfl, rfl⟩, by decide⟩
    decide
  · skip
    refine jr_iload_n (pc := 0) h dX9_valueOf_0 rfl ?_
    refine jr_tableIn (pc := 1) h (x := 1) (off := 37) 38 dX9_valueOf_1 (by omega) (by omega) (by omega) rfl (by decide) ?_
    refine jr_iconst (pc := 38) h dX9_valueOf_38 ?_
    refine jr_iret (pc := 39) h hRt dX9_valueOf_39 rfl (Nat.le_of_ble_eq_true rfl) (Nat.le_of_ble_eq_true rfl) ?_
    refine ⟨⟨ji_c ?_, rfl, rfl⟩, by decide⟩
    decide
  · skip
    refine jr_iload_n (pc := 0) h dX9_valueOf_0 rfl ?_
    refine jr_tableIn (pc := 1) h (x := 2) (off := 39) 40 dX9_valueOf_1 (by omega) (by omega) (by omega) rfl (by decide) ?_
    refine jr_iconst (pc := 40) h dX9_valueOf_40 ?_
    refine jr_iret (pc := 41) h hRt dX9_valueOf_41 rfl (Nat.le_of_ble_eq_true rfl) (Nat.le_of_ble_eq_true rfl) ?_
    refine ⟨⟨ji_c ?_, rfl, rfl⟩, by decide⟩
    decide
  · skip
    refine jr_iload_n (pc := 0) h dX9_valueOf_0 rfl ?_
    refine jr_tableIn (pc := 1) h (x := 3) (off := 41) 42 dX9_valueOf_1 (by omega) (by omega) (by omega) rfl (by decide) ?_
    refine jr_bipush (pc := 42) h dX9_valueOf_42 bp_10 ?_
    refine jr_iret (pc := 44) h hRt dX9_valueOf_44 rfl (Nat.le_of_ble_eq_true rfl) (Nat.le_of_ble_eq_true rfl) ?_
    refine ⟨⟨ji_c ?_, rfl, rfl⟩, by decide⟩
    decide
  · skip
    refine jr_iload_n (pc := 0) h dX9_valueOf_0 rfl ?_
    refine jr_tableIn (pc := 1) h (x := 4) (off := 44) 45 dX9_valueOf_1 (by omega) (by omega) (by omega) rfl (by decide) ?_
    refine jr_bipush (pc := 45) h dX9_valueOf_45 bp_20 ?_
    refine jr_iret (pc := 47) h hRt dX9_valueOf_47 rfl (Nat.le_of_ble_eq_true rfl) (Nat.le_of_ble_eq_true rfl) ?_
    refine ⟨⟨ji_c ?_, rfl, rfl⟩, by decide⟩
    decide
  · skip
    refine jr_iload_n (pc := 0) h dX9_valueOf_0 rfl ?_
    refine jr_tableOut (pc := 1) h (x := 5) 48 dX9_valueOf_1 (by omega) (by omega) (by decide) ?_
    refine jr_bipush (pc := 48) h dX9_valueOf_48 bp_50 ?_
    refine jr_iret (pc := 50) h hRt dX9_valueOf_50 rfl (Nat.le_of_ble_eq_true rfl) (Nat.le_of_ble_eq_true rfl) ?_
    refine ⟨⟨ji_c ?_, rfl, rfl⟩, by decide⟩
    decide
set_option maxHeartbeats 1000000 in
set_option maxRecDepth 20000 in
theorem s_X9_coinOf {l : Launch} {n : Nat} {M : jdM} {x : Int} (hx : -2147483648 ≤ x ∧ x < 2147483648) : Ct l yX9_coinOf cX9_coinOf 2 (some .int) rX9_coinOf [jI x] n M (fun vv n' M' => (vv = some (jI (coinI x)) ∧ n = n' ∧ M = M') ∧ (-1) ≤ (coinI x) ∧ (coinI x) ≤ 5) := by
  refine Ct_of [some (jI x), none] (by decide) (Nat.le_of_ble_eq_true rfl) rfl (fun κ hl h hR hRt hmn hn0 => ?_)
  have h : Ok κ RX9 cX9_coinOf 2 (some .int) := h
  refine jr_iconst (pc := 0) h dX9_coinOf_0 ?_
  refine jr_istore_n (pc := 1) h [_, _] dX9_coinOf_1 (by decide) rfl ?_
  have loop : ∀ (dq : Nat) (i : Int), (0 ≤ i ∧ i ≤ 6) → (coinI x = coinR x i (6 - i).toNat) → (6 - i).toNat < dq → J κ 2 0 0 n 2 [some (jI x), some (jI i)] [] M := by
    intro dq
    induction dq with
    | zero => intro i hi hc hd; omega
    | succ dq ih =>
      intro i hi hc hd
      refine jr_iload_n (pc := 2) h dX9_coinOf_2 rfl ?_
      refine jr_bipush (pc := 3) h dX9_coinOf_3 bp_6 ?_
      refine jr_icmp_ge (pc := 5) h 24 dX9_coinOf_5 (by decide) (by omega) (by omega) (fun c_5 => ?_) (fun c_5 => ?_)
      · skip
        refine jr_iconst (pc := 24) h dX9_coinOf_24 ?_
        refine jr_iret (pc := 25) h hRt dX9_coinOf_25 rfl (Nat.le_of_ble_eq_true rfl) (Nat.le_of_ble_eq_true rfl) ?_
        have e9 : coinI x = -1 := by
          rw [hc, show (6 - i).toNat = 0 by omega, coinR]
        rw [e9]
        exact ⟨⟨rfl, rfl, rfl⟩, by omega⟩
      · skip
        refine jr_iload_n (pc := 8) h dX9_coinOf_8 rfl ?_
        refine iv_X9_588 (pc := 9) h hl hR dX9_coinOf_9 ⟨(Nat.le_of_ble_eq_true rfl), (Nat.le_of_ble_eq_true rfl), (Nat.le_of_ble_eq_true rfl), (Nat.le_of_ble_eq_true rfl)⟩ (Nat.le_of_ble_eq_true rfl) (s_X9_valueOf (by omega)) (fun v_9 n_9 M_9 hn_9 hp => ?_)
        obtain ⟨⟨rfl, rfl, rfl⟩, gr_9⟩ := hp
        refine jr_iload_n (pc := 12) h dX9_coinOf_12 rfl ?_
        refine jr_icmp_ne (pc := 13) h 18 dX9_coinOf_13 (by decide) (by omega) (by omega) (fun c_13 => ?_) (fun c_13 => ?_)
        · skip
          refine jr_iinc (pc := 18) h [_, _] dX9_coinOf_18 (by decide) rfl rfl ?_
          refine jr_goto (pc := 21) h 2 dX9_coinOf_21 (by decide) ?_
          refine ih _ (by omega) ?_ (by omega)
          rw [hc, show (6 - i).toNat = (6 - (i + 1)).toNat + 1 by omega, coinR, if_neg (by omega)]
        · skip
          refine jr_iload_n (pc := 16) h dX9_coinOf_16 rfl ?_
          refine jr_iret (pc := 17) h hRt dX9_coinOf_17 rfl (Nat.le_of_ble_eq_true rfl) (Nat.le_of_ble_eq_true rfl) ?_
          have e9 : coinI x = i := by
            rw [hc, show (6 - i).toNat = (6 - (i + 1)).toNat + 1 by omega, coinR, if_pos (by omega)]
          rw [e9]
          exact ⟨⟨rfl, rfl, rfl⟩, by omega⟩
  exact loop _ _ (by omega) rfl (Nat.lt_succ_self _)
set_option maxHeartbeats 1000000 in
set_option maxRecDepth 20000 in
theorem s_X9_coins {l : Launch} {n : Nat} {M : jdM} {m : Nat} {g : Nat → Int} {w : Int} {fl rd : Value} {B : Nat → Nat → Int} (hX : MX M n m g w fl rd B) : Ct l yX9_coins cX9_coins 3 (some .int) rX9_coins [.ref m] n M (fun vv n' M' => (vv = some (jI (sumZ (fun i => cv i * B 8 i.toNat) 6)) ∧ n = n') ∧ MX M' n m (up g 0 0) w fl rd B ∧ fr (MXf m) M M') := by
  refine Ct_of [some (.ref m), none, none] (by decide) (Nat.le_of_ble_eq_true rfl) rfl (fun κ hl h hR hRt hmn hn0 => ?_)
  have h : Ok κ RX9 cX9_coins 3 (some .int) := h
  obtain ⟨hnm, hOm, hBm⟩ := id hX
  have hOm : M m = jdO 9 (fX9 m _ _ fl rd) := hOm
  refine jr_aload_n (pc := 0) h dX9_coins_0 rfl ?_
  refine jr_iconst (pc := 1) h dX9_coins_1 ?_
  refine pf_X9_52 (pc := 2) h dX9_coins_2 hOm (by omega) ?_
  refine jm_gen (fun M2 hM2 => ?_)
  rw [fX9_0] at hM2
  have hX := MX_o hX hM2
  have f9 : fr (MXf m) _ M2 := fr_up hM2 ⟨by omega, by omega⟩
  obtain ⟨hnm, hOm, hBm⟩ := id hX
  have f1 := f9
  have hB8 : M2 (m + 8) = jdA 6 (B 8) := hBm 8 (by omega) (by omega)
  refine jr_iconst (pc := 5) h dX9_coins_5 ?_
  refine jr_istore_n (pc := 6) h [_, _, _] dX9_coins_6 (by decide) rfl ?_
  refine jr_iconst (pc := 7) h dX9_coins_7 ?_
  refine jr_istore_n (pc := 8) h [_, _, _] dX9_coins_8 (by decide) rfl ?_
  have loop : ∀ (dq : Nat) (v i : Int), (0 ≤ i ∧ i ≤ 6) → (v = sumZ (fun i => cv i * B 8 i.toNat) i.toNat) → (6 - i).toNat < dq → J κ 3 0 0 n 9 [some (.ref m), some (jI v), some (jI i)] [] M2 := by
    intro dq
    induction dq with
    | zero => intro v i hi hv hd; omega
    | succ dq ih =>
      intro v i hi hv hd
      refine jr_iload_n (pc := 9) h dX9_coins_9 rfl ?_
      refine jr_bipush (pc := 10) h dX9_coins_10 bp_6 ?_
      refine jr_icmp_ge (pc := 12) h 35 dX9_coins_12 (by decide) (by omega) (by omega) (fun c_12 => ?_) (fun c_12 => ?_)
      · skip
        refine jr_iload_n (pc := 35) h dX9_coins_35 rfl ?_
        refine jr_iret (pc := 36) h hRt dX9_coins_36 rfl (Nat.le_of_ble_eq_true rfl) (Nat.le_of_ble_eq_true rfl) ?_
        have e9 : sumZ (fun i => cv i * B 8 i.toNat) 6 = v := by
          rw [hv, show i.toNat = 6 by omega]
        rw [e9]
        exact ⟨⟨rfl, rfl⟩, hX, f1⟩
      · skip
        refine jr_iload_n (pc := 15) h dX9_coins_15 rfl ?_
        refine jr_aload_n (pc := 16) h dX9_coins_16 rfl ?_
        refine gf_X9_37 (pc := 17) h dX9_coins_17 (by assumption) (by omega) ?_
        refine jr_iload_n (pc := 20) h dX9_coins_20 rfl ?_
        refine jr_iald (pc := 21) h dX9_coins_21 (by assumption) (by omega) (by omega) ?_
        refine jr_iload_n (pc := 22) h dX9_coins_22 rfl ?_
        refine iv_X9_588 (pc := 23) h hl hR dX9_coins_23 ⟨(Nat.le_of_ble_eq_true rfl), (Nat.le_of_ble_eq_true rfl), (Nat.le_of_ble_eq_true rfl), (Nat.le_of_ble_eq_true rfl)⟩ (Nat.le_of_ble_eq_true rfl) (s_X9_valueOf (by omega)) (fun v_23 n_23 M_23 hn_23 hp => ?_)
        obtain ⟨⟨rfl, rfl, rfl⟩, gr_23⟩ := hp
        refine jr_imul (pc := 26) h dX9_coins_26 ?_
        refine jr_iadd (pc := 27) h dX9_coins_27 ?_
        refine jr_istore_n (pc := 28) h [_, _, _] dX9_coins_28 (by decide) rfl ?_
        refine jr_iinc (pc := 29) h [_, _, _] dX9_coins_29 (by decide) rfl rfl ?_
        refine jr_goto (pc := 32) h 9 dX9_coins_32 (by decide) ?_
        refine ih _ _ (by omega) ?_ (by omega)
        rw [sumZ_s (by omega), ← hv, Int.mul_comm]
  exact loop _ _ _ (by omega) rfl (Nat.lt_succ_self _)
set_option maxHeartbeats 1000000 in
set_option maxRecDepth 20000 in
theorem s_X9_trouble {l : Launch} {n : Nat} {M : jdM} {m : Nat} {g : Nat → Int} {w : Int} {fl rd : Value} {B : Nat → Nat → Int} (hX : MX M n m g w fl rd B) : Ct l yX9_trouble cX9_trouble 1 (some .int) rX9_trouble [.ref m] n M (fun vv n' M' => (vv = some (jI (g 1)) ∧ n = n') ∧ MX M' n m (up g 0 0) w fl rd B ∧ fr (MXf m) M M') := by
  refine Ct_of [some (.ref m)] (by decide) (Nat.le_of_ble_eq_true rfl) rfl (fun κ hl h hR hRt hmn hn0 => ?_)
  have h : Ok κ RX9 cX9_trouble 1 (some .int) := h
  obtain ⟨hnm, hOm, hBm⟩ := id hX
  have hOm : M m = jdO 9 (fX9 m _ _ fl rd) := hOm
  refine jr_aload_n (pc := 0) h dX9_trouble_0 rfl ?_
  refine jr_iconst (pc := 1) h dX9_trouble_1 ?_
  refine pf_X9_52 (pc := 2) h dX9_trouble_2 hOm (by omega) ?_
  refine jm_gen (fun M2 hM2 => ?_)
  rw [fX9_0] at hM2
  have hX := MX_o hX hM2
  have f9 : fr (MXf m) _ M2 := fr_up hM2 ⟨by omega, by omega⟩
  obtain ⟨hnm, hOm, hBm⟩ := id hX
  have f1 := f9
  refine jr_aload_n (pc := 5) h dX9_trouble_5 rfl ?_
  refine gf_X9_55 (pc := 6) h dX9_trouble_6 (by assumption) (by omega) ?_
  refine jr_iret (pc := 9) h hRt dX9_trouble_9 rfl (Nat.le_of_ble_eq_true rfl) (Nat.le_of_ble_eq_true rfl) ?_
  refine ⟨⟨?_, rfl⟩, hX, f1⟩
  exact congrArg (fun z => some (jI z)) (up_ne (by omega))
set_option maxHeartbeats 1000000 in
set_option maxRecDepth 20000 in
theorem s_X9_fault {l : Launch} {n : Nat} {M : jdM} {m : Nat} {g : Nat → Int} {w : Int} {fl rd : Value} {B : Nat → Nat → Int} (hX : MX M n m g w fl rd B) : Ct l yX9_fault cX9_fault 1 (some .int) rX9_fault [.ref m] n M (fun vv n' M' => (vv = some (jI (g 13)) ∧ n = n') ∧ MX M' n m (up g 0 0) w fl rd B ∧ fr (MXf m) M M') := by
  refine Ct_of [some (.ref m)] (by decide) (Nat.le_of_ble_eq_true rfl) rfl (fun κ hl h hR hRt hmn hn0 => ?_)
  have h : Ok κ RX9 cX9_fault 1 (some .int) := h
  obtain ⟨hnm, hOm, hBm⟩ := id hX
  have hOm : M m = jdO 9 (fX9 m _ _ fl rd) := hOm
  refine jr_aload_n (pc := 0) h dX9_fault_0 rfl ?_
  refine jr_iconst (pc := 1) h dX9_fault_1 ?_
  refine pf_X9_52 (pc := 2) h dX9_fault_2 hOm (by omega) ?_
  refine jm_gen (fun M2 hM2 => ?_)
  rw [fX9_0] at hM2
  have hX := MX_o hX hM2
  have f9 : fr (MXf m) _ M2 := fr_up hM2 ⟨by omega, by omega⟩
  obtain ⟨hnm, hOm, hBm⟩ := id hX
  have f1 := f9
  refine jr_aload_n (pc := 5) h dX9_fault_5 rfl ?_
  refine gf_X9_109 (pc := 6) h dX9_fault_6 (by assumption) (by omega) ?_
  refine jr_iret (pc := 9) h hRt dX9_fault_9 rfl (Nat.le_of_ble_eq_true rfl) (Nat.le_of_ble_eq_true rfl) ?_
  refine ⟨⟨?_, rfl⟩, hX, f1⟩
  exact congrArg (fun z => some (jI z)) (up_ne (by omega))
set_option maxHeartbeats 1000000 in
set_option maxRecDepth 20000 in
theorem s_X9_where {l : Launch} {n : Nat} {M : jdM} {m : Nat} {g : Nat → Int} {w : Int} {fl rd : Value} {B : Nat → Nat → Int} (hX : MX M n m g w fl rd B) : Ct l yX9_where cX9_where 1 (some .int) rX9_where [.ref m] n M (fun vv n' M' => (vv = some (jI (g 2)) ∧ n = n') ∧ MX M' n m (up g 0 0) w fl rd B ∧ fr (MXf m) M M') := by
  refine Ct_of [some (.ref m)] (by decide) (Nat.le_of_ble_eq_true rfl) rfl (fun κ hl h hR hRt hmn hn0 => ?_)
  have h : Ok κ RX9 cX9_where 1 (some .int) := h
  obtain ⟨hnm, hOm, hBm⟩ := id hX
  have hOm : M m = jdO 9 (fX9 m _ _ fl rd) := hOm
  refine jr_aload_n (pc := 0) h dX9_where_0 rfl ?_
  refine jr_iconst (pc := 1) h dX9_where_1 ?_
  refine pf_X9_52 (pc := 2) h dX9_where_2 hOm (by omega) ?_
  refine jm_gen (fun M2 hM2 => ?_)
  rw [fX9_0] at hM2
  have hX := MX_o hX hM2
  have f9 : fr (MXf m) _ M2 := fr_up hM2 ⟨by omega, by omega⟩
  obtain ⟨hnm, hOm, hBm⟩ := id hX
  have f1 := f9
  refine jr_aload_n (pc := 5) h dX9_where_5 rfl ?_
  refine gf_X9_9 (pc := 6) h dX9_where_6 (by assumption) (by omega) ?_
  refine jr_iret (pc := 9) h hRt dX9_where_9 rfl (Nat.le_of_ble_eq_true rfl) (Nat.le_of_ble_eq_true rfl) ?_
  refine ⟨⟨?_, rfl⟩, hX, f1⟩
  exact congrArg (fun z => some (jI z)) (up_ne (by omega))
set_option maxHeartbeats 1000000 in
set_option maxRecDepth 20000 in
theorem s_X9_given {l : Launch} {n : Nat} {M : jdM} {m : Nat} {g : Nat → Int} {w : Int} {fl rd : Value} {B : Nat → Nat → Int} (hX : MX M n m g w fl rd B) {ct td bk si ld : Nat → Int} (hFX : FX M n m fl ct td bk si ld) {x : Int} (hx : -2147483648 ≤ x ∧ x < 2147483648)  : Ct l yX9_given cX9_given 2 (some .int) rX9_given [.ref m, jI x] n M (fun vv n' M' => (vv = some (jI (x_given (B 9) x).1) ∧ n = n') ∧ MX M' n m (rg g (x_given (B 9) x).2) w fl rd B ∧ fr (MXf m) M M') := by
  refine Ct_of [some (.ref m), some (jI x)] (by decide) (Nat.le_of_ble_eq_true rfl) rfl (fun κ hl h hR hRt hmn hn0 => ?_)
  have h : Ok κ RX9 cX9_given 2 (some .int) := h
  obtain ⟨hnm, hOm, hBm⟩ := id hX
  have hOm : M m = jdO 9 (fX9 m _ _ fl rd) := hOm
  refine jr_aload_n (pc := 0) h dX9_given_0 rfl ?_
  refine jr_iconst (pc := 1) h dX9_given_1 ?_
  refine pf_X9_52 (pc := 2) h dX9_given_2 hOm (by omega) ?_
  refine jm_gen (fun M2 hM2 => ?_)
  rw [fX9_0] at hM2
  have hX := MX_o hX hM2
  have f9 : fr (MXf m) _ M2 := fr_up hM2 ⟨by omega, by omega⟩
  obtain ⟨hnm, hOm, hBm⟩ := id hX
  have f1 := f9
  have hFX := FX_fr hFX f9
  have hB9 : M2 (m + 9) = jdA 6 (B 9) := hBm 9 (by omega) (by omega)
  refine jr_iload_n (pc := 5) h dX9_given_5 rfl ?_
  refine iv_X9_591 (pc := 6) h hl hR dX9_given_6 ⟨(Nat.le_of_ble_eq_true rfl), (Nat.le_of_ble_eq_true rfl), (Nat.le_of_ble_eq_true rfl), (Nat.le_of_ble_eq_true rfl)⟩ (Nat.le_of_ble_eq_true rfl) (s_X9_coinOf (by omega)) (fun v_6 n_6 M_6 hn_6 hp => ?_)
  obtain ⟨⟨rfl, rfl, rfl⟩, gr_6⟩ := hp
  refine jr_iconst (pc := 9) h dX9_given_9 ?_
  refine jr_icmp_ne (pc := 10) h 21 dX9_given_10 (by decide) (by omega) (by omega) (fun c_10 => ?_) (fun c_10 => ?_)
  · first | have d_10 := bz_0.mp c_10 | have d_10 := bz_1.mp c_10 | skip
    refine jr_aload_n (pc := 21) h dX9_given_21 rfl ?_
    refine jr_aload_n (pc := 22) h dX9_given_22 rfl ?_
    refine gf_X9_40 (pc := 23) h dX9_given_23 (by assumption) (by omega) ?_
    refine jr_iload_n (pc := 26) h dX9_given_26 rfl ?_
    refine iv_X9_591 (pc := 27) h hl hR dX9_given_27 ⟨(Nat.le_of_ble_eq_true rfl), (Nat.le_of_ble_eq_true rfl), (Nat.le_of_ble_eq_true rfl), (Nat.le_of_ble_eq_true rfl)⟩ (Nat.le_of_ble_eq_true rfl) (s_X9_coinOf (by omega)) (fun v_27 n_27 M_27 hn_27 hp => ?_)
    obtain ⟨⟨rfl, rfl, rfl⟩, gr_27⟩ := hp
    refine jr_iald (pc := 30) h dX9_given_30 (by assumption) (by omega) (by omega) ?_
    refine iv_X9_62 (pc := 31) h hl hR dX9_given_31 ⟨(Nat.le_of_ble_eq_true rfl), (Nat.le_of_ble_eq_true rfl), (Nat.le_of_ble_eq_true rfl), (Nat.le_of_ble_eq_true rfl)⟩ (Nat.le_of_ble_eq_true rfl) (by assumption) (by omega) (s_X9_done hX) (fun v_31 n_31 M_31 hn_31 hp => ?_)
    obtain ⟨⟨rfl, rfl⟩, hX, f9⟩ := hp
    have f1 := fr_tr f1 f9
    obtain ⟨hnm, hOm, hBm⟩ := id hX
    refine jr_iret (pc := 34) h hRt dX9_given_34 rfl (Nat.le_of_ble_eq_true rfl) (Nat.le_of_ble_eq_true rfl) ?_
    refine lfA9 ?_ hX f1
    unfold x_given
    (repeat' split) <;> first | rfl | (exfalso; omega) | contradiction
  · first | have d_10 := bz_0.mp c_10 | have d_10 := bz_1.mp c_10 | skip
    refine jr_aload_n (pc := 13) h dX9_given_13 rfl ?_
    refine jr_iconst (pc := 14) h dX9_given_14 ?_
    refine iv_X9_58 (pc := 15) h hl hR dX9_given_15 ⟨(Nat.le_of_ble_eq_true rfl), (Nat.le_of_ble_eq_true rfl), (Nat.le_of_ble_eq_true rfl), (Nat.le_of_ble_eq_true rfl)⟩ (Nat.le_of_ble_eq_true rfl) (by assumption) (by omega) (s_X9_refused hX) (fun v_15 n_15 M_15 hn_15 hp => ?_)
    obtain ⟨⟨rfl, rfl⟩, hX, f9⟩ := hp
    have f1 := fr_tr f1 f9
    obtain ⟨hnm, hOm, hBm⟩ := id hX
    refine jr_goto (pc := 18) h 34 dX9_given_18 (by decide) ?_
    refine jr_iret (pc := 34) h hRt dX9_given_34 rfl (Nat.le_of_ble_eq_true rfl) (Nat.le_of_ble_eq_true rfl) ?_
    refine lfA9 ?_ hX f1
    unfold x_given
    (repeat' split) <;> first | rfl | (exfalso; omega) | contradiction
