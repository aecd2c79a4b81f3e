/-! 11: Flight: heat, belts, meeting, former flights -/
theorem c_later {ct td : Nat → Int} (r : ∀ j, 0 ≤ td j ∧ td j ≤ 999) (k m : Int) (hm : 0 ≤ m) : 0 ≤ c_late ct td k m ∧ c_late ct td k m ≤ m := by
  unfold c_late
  refine foldZ_inv (P := fun a => 0 ≤ a ∧ a ≤ m) ⟨Int.le_refl _, hm⟩ (fun a i h _ _ => ?_)
  have := c_getr r 3 i 1
  constructor <;> (split <;> omega)
theorem c_degb {ct td : Nat → Int} (r : ∀ j, 0 ≤ td j ∧ td j ≤ 999) (k m : Int) (hm : 0 ≤ m ∧ m ≤ 100000) : 0 ≤ c_get td 1 0 1 * (m - c_late ct td k m) ∧ c_get td 1 0 1 * (m - c_late ct td k m) ≤ 99900000 := by
  have h := c_later (ct := ct) r k m hm.1
  exact mulb (A := 999) (B := 100000) (c_getr r 1 0 1) (by omega)
theorem c_belr {ct td : Nat → Int} (r : ∀ j, 0 ≤ td j ∧ td j ≤ 999) (k : Nat) (x : Int) (hx : 0 ≤ x ∧ x ≤ 10000000) : 0 ≤ foldZ (c_bel1 td) x k ∧ foldZ (c_bel1 td) x k ≤ 10000000 := by
  refine foldZ_inv (P := fun a => 0 ≤ a ∧ a ≤ 10000000) hx (fun a i h _ _ => ?_)
  have := c_getr r 9 i 1
  show 0 ≤ c_bel1 td a i ∧ c_bel1 td a i ≤ 10000000
  unfold c_bel1
  split <;> omega
set_option maxHeartbeats 2000000 in
set_option maxRecDepth 20000 in
theorem s_X1_latestBlock {l : Launch} {n : Nat} {M : jdM} {f : Nat} {ct td bk si ld : Nat → Int} (hF : Fl M n f ct td bk si ld) {a : Int} (ha : -2147483648 ≤ a ∧ a < 2147483648) : Ct l yX1_latestBlock cX1_latestBlock 3 (some .int) rX1_latestBlock [.ref f, jI a] n M (fun vv n' M' => (vv = some (jI (lastZ (fun i => c_get td 7 i 0 ≤ a ∧ a ≤ c_get td 7 i 1) (ct 7).toNat)) ∧ n = n' ∧ M = M') ∧ (-1) ≤ (lastZ (fun i => c_get td 7 i 0 ≤ a ∧ a ≤ c_get td 7 i 1) (ct 7).toNat) ∧ (lastZ (fun i => c_get td 7 i 0 ≤ a ∧ a ≤ c_get td 7 i 1) (ct 7).toNat) ≤ 8) := by
  refine Ct_of [some (.ref f), some (jI a), none] (by decide) (Nat.le_of_ble_eq_true rfl) rfl (fun κ hl h hR hRt hmn hn0 => ?_)
  have h : Ok κ RX1 cX1_latestBlock 3 (some .int) := h
  obtain ⟨hn, hO, hA, hB, hC, hD, hE, rA, rB, r0, rC, rD, rE⟩ := id hF
  have a7 := rA 7
  have lr := lastZ_r (fun i => c_get td 7 i 0 ≤ a ∧ a ≤ c_get td 7 i 1) (ct 7).toNat
  have loop : ∀ (dq : Nat) (i : Int), (-1 ≤ i ∧ i < ct 7) → (lastZ (fun i => c_get td 7 i 0 ≤ a ∧ a ≤ c_get td 7 i 1) (ct 7).toNat = lastZ (fun i => c_get td 7 i 0 ≤ a ∧ a ≤ c_get td 7 i 1) (i + 1).toNat) → (i + 1).toNat < dq → J κ 3 0 0 n 10 [some (.ref f), some (jI a), some (jI i)] [] M := by
    intro dq
    induction dq with
    | zero => intro i hi hx hd; omega
    | succ dq ih =>
      intro i hi hx hd
      refine jr_iload_n (pc := 10) h dX1_latestBlock_10 rfl ?_
      refine jr_if_lt (pc := 11) h 46 dX1_latestBlock_11 (by decide) (by omega) (fun c_11 => ?_) (fun c_11 => ?_)
      · skip
        refine jr_iconst (pc := 46) h dX1_latestBlock_46 ?_
        refine jr_iret (pc := 47) h hRt dX1_latestBlock_47 rfl (Nat.le_of_ble_eq_true rfl) (Nat.le_of_ble_eq_true rfl) ?_
        refine ⟨⟨ji_c ?_, rfl, rfl⟩, by omega⟩
        rw [hx, show (i + 1).toNat = 0 by omega, lastZ]
      · skip
        refine jr_iload_n (pc := 14) h dX1_latestBlock_14 rfl ?_
        refine jr_aload_n (pc := 15) h dX1_latestBlock_15 rfl ?_
        refine jr_bipush (pc := 16) h dX1_latestBlock_16 bp_7 ?_
        refine jr_iload_n (pc := 18) h dX1_latestBlock_18 rfl ?_
        refine jr_iconst (pc := 19) h dX1_latestBlock_19 ?_
        refine iv_X1_48 (pc := 20) h hl hR dX1_latestBlock_20 ⟨(Nat.le_of_ble_eq_true rfl), (Nat.le_of_ble_eq_true rfl), (Nat.le_of_ble_eq_true rfl), (Nat.le_of_ble_eq_true rfl)⟩ (Nat.le_of_ble_eq_true rfl) (by assumption) (by omega) (s_X1_get hF (by omega) (by omega) (by omega)) (fun v_20 n_20 M_20 hn_20 hp => ?_)
        obtain ⟨⟨rfl, rfl, rfl⟩, gr_20⟩ := hp
        refine jr_icmp_lt (pc := 23) h 40 dX1_latestBlock_23 (by decide) (by omega) (by omega) (fun c_23 => ?_) (fun c_23 => ?_)
        · skip
          refine jr_iinc (pc := 40) h [_, _, _] dX1_latestBlock_40 (by decide) rfl rfl ?_
          refine jr_goto (pc := 43) h 10 dX1_latestBlock_43 (by decide) ?_
          refine ih _ (by omega) ?_ (by omega)
          rw [hx, lastZ_f (by omega) (by omega), show i + -1 + 1 = i by omega]
        · skip
          refine jr_iload_n (pc := 26) h dX1_latestBlock_26 rfl ?_
          refine jr_aload_n (pc := 27) h dX1_latestBlock_27 rfl ?_
          refine jr_bipush (pc := 28) h dX1_latestBlock_28 bp_7 ?_
          refine jr_iload_n (pc := 30) h dX1_latestBlock_30 rfl ?_
          refine jr_iconst (pc := 31) h dX1_latestBlock_31 ?_
          refine iv_X1_48 (pc := 32) h hl hR dX1_latestBlock_32 ⟨(Nat.le_of_ble_eq_true rfl), (Nat.le_of_ble_eq_true rfl), (Nat.le_of_ble_eq_true rfl), (Nat.le_of_ble_eq_true rfl)⟩ (Nat.le_of_ble_eq_true rfl) (by assumption) (by omega) (s_X1_get hF (by omega) (by omega) (by omega)) (fun v_32 n_32 M_32 hn_32 hp => ?_)
          obtain ⟨⟨rfl, rfl, rfl⟩, gr_32⟩ := hp
          refine jr_icmp_gt (pc := 35) h 40 dX1_latestBlock_35 (by decide) (by omega) (by omega) (fun c_35 => ?_) (fun c_35 => ?_)
          · skip
            refine jr_iinc (pc := 40) h [_, _, _] dX1_latestBlock_40 (by decide) rfl rfl ?_
            refine jr_goto (pc := 43) h 10 dX1_latestBlock_43 (by decide) ?_
            refine ih _ (by omega) ?_ (by omega)
            rw [hx, lastZ_f (by omega) (by omega), show i + -1 + 1 = i by omega]
          · skip
            refine jr_iload_n (pc := 38) h dX1_latestBlock_38 rfl ?_
            refine jr_iret (pc := 39) h hRt dX1_latestBlock_39 rfl (Nat.le_of_ble_eq_true rfl) (Nat.le_of_ble_eq_true rfl) ?_
            refine ⟨⟨ji_c ?_, rfl, rfl⟩, by omega⟩
            rw [hx, lastZ_t (by omega) ⟨by omega, by omega⟩]
  refine jr_aload_n (pc := 0) h dX1_latestBlock_0 rfl ?_
  refine gf_X1_9 (pc := 1) h dX1_latestBlock_1 (by assumption) (by omega) ?_
  refine jr_bipush (pc := 4) h dX1_latestBlock_4 bp_7 ?_
  refine jr_ialdc (pc := 6) h (7 : Nat) rfl dX1_latestBlock_6 (by assumption) (by omega) (by decide) ?_
  refine jr_iconst (pc := 7) h dX1_latestBlock_7 ?_
  refine jr_isub (pc := 8) h dX1_latestBlock_8 ?_
  refine jr_istore_n (pc := 9) h [_, _, _] dX1_latestBlock_9 (by decide) rfl ?_
  exact loop _ _ (by omega) (by rw [show ct 7 - 1 + 1 = ct 7 by omega]) (Nat.lt_succ_self _)
set_option maxHeartbeats 2000000 in
set_option maxRecDepth 20000 in
theorem s_X1_degrees {l : Launch} {n : Nat} {M : jdM} {f : Nat} {ct td bk si ld : Nat → Int} (hF : Fl M n f ct td bk si ld) {a b : Int} (ha : -2147483648 ≤ a ∧ a < 2147483648) (hb : 0 ≤ b ∧ b ≤ 100000) : Ct l yX1_degrees cX1_degrees 6 (some .int) rX1_degrees [.ref f, jI a, jI b] n M (fun vv n' M' => (vv = some (jI (c_deg ct td a b)) ∧ n = n' ∧ M = M') ∧ (-99900000) ≤ (c_deg ct td a b) ∧ (c_deg ct td a b) ≤ 999) := by
  refine Ct_of [some (.ref f), some (jI a), some (jI b), none, none, none] (by decide) (Nat.le_of_ble_eq_true rfl) rfl (fun κ hl h hR hRt hmn hn0 => ?_)
  have h : Ok κ RX1 cX1_degrees 6 (some .int) := h
  obtain ⟨hn, hO, hA, hB, hC, hD, hE, rA, rB, r0, rC, rD, rE⟩ := id hF
  have a3 := rA 3
  have lb := c_degb (ct := ct) rB a b hb
  have g9 := c_getr rB 2 a 1
  have loop : ∀ (dq : Nat) (x i : Int) (u : Option Value), (0 ≤ i ∧ i ≤ ct 3) → (x = foldZ (fun y i => if c_get td 3 i 0 = a ∧ c_get td 3 i 1 ≤ b ∧ y < c_get td 3 i 1 then c_get td 3 i 1 else y) 0 i.toNat) → (0 ≤ x ∧ x ≤ 999) → (8 - i).toNat < dq → J κ 6 0 0 n 5 [some (.ref f), some (jI a), some (jI b), some (jI x), some (jI i), u] [] M := by
    intro dq
    induction dq with
    | zero => intro x i u hi hx hb2 hd; omega
    | succ dq ih =>
      intro x i u hi hx hb2 hd
      refine jr_iload (pc := 5) h dX1_degrees_5 rfl ?_
      refine jr_aload_n (pc := 7) h dX1_degrees_7 rfl ?_
      refine gf_X1_9 (pc := 8) h dX1_degrees_8 (by assumption) (by omega) ?_
      refine jr_iconst (pc := 11) h dX1_degrees_11 ?_
      refine jr_ialdc (pc := 12) h (3 : Nat) rfl dX1_degrees_12 (by assumption) (by omega) (by decide) ?_
      refine jr_icmp_ge (pc := 13) h 59 dX1_degrees_13 (by decide) (by omega) (by omega) (fun c_13 => ?_) (fun c_13 => ?_)
      · skip
        refine jr_aload_n (pc := 59) h dX1_degrees_59 rfl ?_
        refine jr_iconst (pc := 60) h dX1_degrees_60 ?_
        refine jr_iload_n (pc := 61) h dX1_degrees_61 rfl ?_
        refine jr_iconst (pc := 62) h dX1_degrees_62 ?_
        refine iv_X1_48 (pc := 63) h hl hR dX1_degrees_63 ⟨(Nat.le_of_ble_eq_true rfl), (Nat.le_of_ble_eq_true rfl), (Nat.le_of_ble_eq_true rfl), (Nat.le_of_ble_eq_true rfl)⟩ (Nat.le_of_ble_eq_true rfl) (by assumption) (by omega) (s_X1_get hF (by omega) (by omega) (by omega)) (fun v_63 n_63 M_63 hn_63 hp => ?_)
        obtain ⟨⟨rfl, rfl, rfl⟩, gr_63⟩ := hp
        refine jr_aload_n (pc := 66) h dX1_degrees_66 rfl ?_
        refine jr_iconst (pc := 67) h dX1_degrees_67 ?_
        refine jr_iconst (pc := 68) h dX1_degrees_68 ?_
        refine jr_iconst (pc := 69) h dX1_degrees_69 ?_
        refine iv_X1_48 (pc := 70) h hl hR dX1_degrees_70 ⟨(Nat.le_of_ble_eq_true rfl), (Nat.le_of_ble_eq_true rfl), (Nat.le_of_ble_eq_true rfl), (Nat.le_of_ble_eq_true rfl)⟩ (Nat.le_of_ble_eq_true rfl) (by assumption) (by omega) (s_X1_get hF (by omega) (by omega) (by omega)) (fun v_70 n_70 M_70 hn_70 hp => ?_)
        obtain ⟨⟨rfl, rfl, rfl⟩, gr_70⟩ := hp
        refine jr_iload_n (pc := 73) h dX1_degrees_73 rfl ?_
        refine jr_iload_n (pc := 74) h dX1_degrees_74 rfl ?_
        refine jr_isub (pc := 75) h dX1_degrees_75 ?_
        refine jr_imul (pc := 76) h dX1_degrees_76 ?_
        refine jr_bipush (pc := 77) h dX1_degrees_77 bp_10 ?_
        refine jr_idivp (pc := 79) h dX1_degrees_79 (by rw [show x = c_late ct td a b by rw [hx, show i = ct 3 by omega]; rfl]; omega) (by omega) ?_
        refine jr_isub (pc := 80) h dX1_degrees_80 ?_
        refine jr_iret (pc := 81) h hRt dX1_degrees_81 rfl (Nat.le_of_ble_eq_true rfl) (Nat.le_of_ble_eq_true rfl) ?_
        have e : x = c_late ct td a b := by rw [hx, show i = ct 3 by omega]; rfl
        rw [e]
        have := Int.ediv_nonneg (a := c_get td 1 0 1 * (b - c_late ct td a b)) (b := 10) (by omega) (by omega)
        have := Int.ediv_le_self (a := c_get td 1 0 1 * (b - c_late ct td a b)) 10 (by omega)
        exact ⟨⟨rfl, rfl, rfl⟩, by unfold c_deg; omega⟩
      · skip
        refine jr_aload_n (pc := 16) h dX1_degrees_16 rfl ?_
        refine jr_iconst (pc := 17) h dX1_degrees_17 ?_
        refine jr_iload (pc := 18) h dX1_degrees_18 rfl ?_
        refine jr_iconst (pc := 20) h dX1_degrees_20 ?_
        refine iv_X1_48 (pc := 21) h hl hR dX1_degrees_21 ⟨(Nat.le_of_ble_eq_true rfl), (Nat.le_of_ble_eq_true rfl), (Nat.le_of_ble_eq_true rfl), (Nat.le_of_ble_eq_true rfl)⟩ (Nat.le_of_ble_eq_true rfl) (by assumption) (by omega) (s_X1_get hF (by omega) (by omega) (by omega)) (fun v_21 n_21 M_21 hn_21 hp => ?_)
        obtain ⟨⟨rfl, rfl, rfl⟩, gr_21⟩ := hp
        refine jr_istore (pc := 24) h [_, _, _, _, _, _] dX1_degrees_24 (by decide) rfl ?_
        refine jr_aload_n (pc := 26) h dX1_degrees_26 rfl ?_
        refine jr_iconst (pc := 27) h dX1_degrees_27 ?_
        refine jr_iload (pc := 28) h dX1_degrees_28 rfl ?_
        refine jr_iconst (pc := 30) h dX1_degrees_30 ?_
        refine iv_X1_48 (pc := 31) h hl hR dX1_degrees_31 ⟨(Nat.le_of_ble_eq_true rfl), (Nat.le_of_ble_eq_true rfl), (Nat.le_of_ble_eq_true rfl), (Nat.le_of_ble_eq_true rfl)⟩ (Nat.le_of_ble_eq_true rfl) (by assumption) (by omega) (s_X1_get hF (by omega) (by omega) (by omega)) (fun v_31 n_31 M_31 hn_31 hp => ?_)
        obtain ⟨⟨rfl, rfl, rfl⟩, gr_31⟩ := hp
        refine jr_iload_n (pc := 34) h dX1_degrees_34 rfl ?_
        refine jr_icmp_ne (pc := 35) h 53 dX1_degrees_35 (by decide) (by omega) (by omega) (fun c_35 => ?_) (fun c_35 => ?_)
        · skip
          refine jr_iinc (pc := 53) h [_, _, _, _, _, _] dX1_degrees_53 (by decide) rfl rfl ?_
          refine jr_goto (pc := 56) h 5 dX1_degrees_56 (by decide) ?_
          refine ih _ _ _ (by omega) ?_ (by omega) (by omega)
          rw [foldZ_s (by omega), ← hx]
          first | rw [if_pos (by omega)] | rw [if_neg (by omega)]
        · skip
          refine jr_iload (pc := 38) h dX1_degrees_38 rfl ?_
          refine jr_iload_n (pc := 40) h dX1_degrees_40 rfl ?_
          refine jr_icmp_gt (pc := 41) h 53 dX1_degrees_41 (by decide) (by omega) (by omega) (fun c_41 => ?_) (fun c_41 => ?_)
          · skip
            refine jr_iinc (pc := 53) h [_, _, _, _, _, _] dX1_degrees_53 (by decide) rfl rfl ?_
            refine jr_goto (pc := 56) h 5 dX1_degrees_56 (by decide) ?_
            refine ih _ _ _ (by omega) ?_ (by omega) (by omega)
            rw [foldZ_s (by omega), ← hx]
            first | rw [if_pos (by omega)] | rw [if_neg (by omega)]
          · skip
            refine jr_iload (pc := 44) h dX1_degrees_44 rfl ?_
            refine jr_iload_n (pc := 46) h dX1_degrees_46 rfl ?_
            refine jr_icmp_le (pc := 47) h 53 dX1_degrees_47 (by decide) (by omega) (by omega) (fun c_47 => ?_) (fun c_47 => ?_)
            · skip
              refine jr_iinc (pc := 53) h [_, _, _, _, _, _] dX1_degrees_53 (by decide) rfl rfl ?_
              refine jr_goto (pc := 56) h 5 dX1_degrees_56 (by decide) ?_
              refine ih _ _ _ (by omega) ?_ (by omega) (by omega)
              rw [foldZ_s (by omega), ← hx]
              first | rw [if_pos (by omega)] | rw [if_neg (by omega)]
            · skip
              refine jr_iload (pc := 50) h dX1_degrees_50 rfl ?_
              refine jr_istore_n (pc := 52) h [_, _, _, _, _, _] dX1_degrees_52 (by decide) rfl ?_
              refine jr_iinc (pc := 53) h [_, _, _, _, _, _] dX1_degrees_53 (by decide) rfl rfl ?_
              refine jr_goto (pc := 56) h 5 dX1_degrees_56 (by decide) ?_
              refine ih _ _ _ (by omega) ?_ (by omega) (by omega)
              rw [foldZ_s (by omega), ← hx]
              first | rw [if_pos (by omega)] | rw [if_neg (by omega)]
  refine jr_iconst (pc := 0) h dX1_degrees_0 ?_
  refine jr_istore_n (pc := 1) h [_, _, _, _, _, _] dX1_degrees_1 (by decide) rfl ?_
  refine jr_iconst (pc := 2) h dX1_degrees_2 ?_
  refine jr_istore (pc := 3) h [_, _, _, _, _, _] dX1_degrees_3 (by decide) rfl ?_
  exact loop _ _ _ _ (by omega) rfl (by omega) (Nat.lt_succ_self _)
set_option maxHeartbeats 1000000 in
set_option maxRecDepth 20000 in
theorem s_X1_isCold {l : Launch} {n : Nat} {M : jdM} {f : Nat} {ct td bk si ld : Nat → Int} (hF : Fl M n f ct td bk si ld) {a b : Int} (ha : -2147483648 ≤ a ∧ a < 2147483648) (hb : 0 ≤ b ∧ b ≤ 100000) : Ct l yX1_isCold cX1_isCold 3 (some .boolean) rX1_isCold [.ref f, jI a, jI b] n M (fun vv n' M' => (vv = some (jI (bz (c_deg ct td a b < c_get td 1 0 0))) ∧ n = n' ∧ M = M') ∧ (0) ≤ (bz (c_deg ct td a b < c_get td 1 0 0)) ∧ (bz (c_deg ct td a b < c_get td 1 0 0)) ≤ 1) := by
  refine Ct_of [some (.ref f), some (jI a), some (jI b)] (by decide) (Nat.le_of_ble_eq_true rfl) rfl (fun κ hl h hR hRt hmn hn0 => ?_)
  have h : Ok κ RX1 cX1_isCold 3 (some .boolean) := h
  obtain ⟨hn, hO, hA, hB, hC, hD, hE, rA, rB, r0, rC, rD, rE⟩ := id hF
  refine jr_aload_n (pc := 0) h dX1_isCold_0 rfl ?_
  refine jr_iload_n (pc := 1) h dX1_isCold_1 rfl ?_
  refine jr_iload_n (pc := 2) h dX1_isCold_2 rfl ?_
  refine iv_X1_80 (pc := 3) h hl hR dX1_isCold_3 ⟨(Nat.le_of_ble_eq_true rfl), (Nat.le_of_ble_eq_true rfl), (Nat.le_of_ble_eq_true rfl), (Nat.le_of_ble_eq_true rfl)⟩ (Nat.le_of_ble_eq_true rfl) (by assumption) (by omega) (s_X1_degrees hF (by omega) (by omega)) (fun v_3 n_3 M_3 hn_3 hp => ?_)
  obtain ⟨⟨rfl, rfl, rfl⟩, gr_3⟩ := hp
  refine jr_aload_n (pc := 6) h dX1_isCold_6 rfl ?_
  refine jr_iconst (pc := 7) h dX1_isCold_7 ?_
  refine jr_iconst (pc := 8) h dX1_isCold_8 ?_
  refine jr_iconst (pc := 9) h dX1_isCold_9 ?_
  refine iv_X1_48 (pc := 10) h hl hR dX1_isCold_10 ⟨(Nat.le_of_ble_eq_true rfl), (Nat.le_of_ble_eq_true rfl), (Nat.le_of_ble_eq_true rfl), (Nat.le_of_ble_eq_true rfl)⟩ (Nat.le_of_ble_eq_true rfl) (by assumption) (by omega) (s_X1_get hF (by omega) (by omega) (by omega)) (fun v_10 n_10 M_10 hn_10 hp => ?_)
  obtain ⟨⟨rfl, rfl, rfl⟩, gr_10⟩ := hp
  refine jr_icmp_ge (pc := 13) h 20 dX1_isCold_13 (by decide) (by omega) (by omega) (fun c_13 => ?_) (fun c_13 => ?_)
  · skip
    refine jr_iconst (pc := 20) h dX1_isCold_20 ?_
    refine jr_iret (pc := 21) h hRt dX1_isCold_21 rfl (Nat.le_of_ble_eq_true rfl) (Nat.le_of_ble_eq_true rfl) ?_
    refine ⟨⟨ji_c ?_, rfl, rfl⟩, bz_r _⟩
    first | rw [bz_t (by omega)] | rw [bz_f (by omega)]
  · skip
    refine jr_iconst (pc := 16) h dX1_isCold_16 ?_
    refine jr_goto (pc := 17) h 21 dX1_isCold_17 (by decide) ?_
    refine jr_iret (pc := 21) h hRt dX1_isCold_21 rfl (Nat.le_of_ble_eq_true rfl) (Nat.le_of_ble_eq_true rfl) ?_
    refine ⟨⟨ji_c ?_, rfl, rfl⟩, bz_r _⟩
    first | rw [bz_t (by omega)] | rw [bz_f (by omega)]
set_option maxHeartbeats 2000000 in
set_option maxRecDepth 20000 in
theorem s_X1_beltsBegunWithin {l : Launch} {n : Nat} {M : jdM} {f : Nat} {ct td bk si ld : Nat → Int} (hF : Fl M n f ct td bk si ld) {a b : Int} (ha : -2147483648 ≤ a ∧ a < 2147483648) (hb : -2147483648 ≤ b ∧ b < 2147483648) : Ct l yX1_beltsBegunWithin cX1_beltsBegunWithin 6 (some .int) rX1_beltsBegunWithin [.ref f, jI a, jI b] n M (fun vv n' M' => (vv = some (jI (c_begun ct td a b)) ∧ n = n' ∧ M = M') ∧ (0) ≤ (c_begun ct td a b) ∧ (c_begun ct td a b) ≤ 8) := by
  refine Ct_of [some (.ref f), some (jI a), some (jI b), none, none, none] (by decide) (Nat.le_of_ble_eq_true rfl) rfl (fun κ hl h hR hRt hmn hn0 => ?_)
  have h : Ok κ RX1 cX1_beltsBegunWithin 6 (some .int) := h
  obtain ⟨hn, hO, hA, hB, hC, hD, hE, rA, rB, r0, rC, rD, rE⟩ := id hF
  have a9 := rA 9
  have loop : ∀ (dq : Nat) (x i : Int) (u : Option Value), (0 ≤ i ∧ i ≤ ct 9) → (x = sumZ (fun i => if a < c_get td 9 i 0 * 60 ∧ c_get td 9 i 0 * 60 < b then 1 else 0) i.toNat) → (0 ≤ x ∧ x ≤ i) → (8 - i).toNat < dq → J κ 6 0 0 n 5 [some (.ref f), some (jI a), some (jI b), some (jI x), some (jI i), u] [] M := by
    intro dq
    induction dq with
    | zero => intro x i u hi hx hb2 hd; omega
    | succ dq ih =>
      intro x i u hi hx hb2 hd
      refine jr_iload (pc := 5) h dX1_beltsBegunWithin_5 rfl ?_
      refine jr_aload_n (pc := 7) h dX1_beltsBegunWithin_7 rfl ?_
      refine gf_X1_9 (pc := 8) h dX1_beltsBegunWithin_8 (by assumption) (by omega) ?_
      refine jr_bipush (pc := 11) h dX1_beltsBegunWithin_11 bp_9 ?_
      refine jr_ialdc (pc := 13) h (9 : Nat) rfl dX1_beltsBegunWithin_13 (by assumption) (by omega) (by decide) ?_
      refine jr_icmp_ge (pc := 14) h 52 dX1_beltsBegunWithin_14 (by decide) (by omega) (by omega) (fun c_14 => ?_) (fun c_14 => ?_)
      · skip
        refine jr_iload_n (pc := 52) h dX1_beltsBegunWithin_52 rfl ?_
        refine jr_iret (pc := 53) h hRt dX1_beltsBegunWithin_53 rfl (Nat.le_of_ble_eq_true rfl) (Nat.le_of_ble_eq_true rfl) ?_
        have e : i = ct 9 := by omega
        refine ⟨⟨ji_c ?_, rfl, rfl⟩, ?_⟩
        · rw [hx, e]; rfl
        · unfold c_begun; rw [← e, ← hx]; omega
      · skip
        refine jr_aload_n (pc := 17) h dX1_beltsBegunWithin_17 rfl ?_
        refine jr_bipush (pc := 18) h dX1_beltsBegunWithin_18 bp_9 ?_
        refine jr_iload (pc := 20) h dX1_beltsBegunWithin_20 rfl ?_
        refine jr_iconst (pc := 22) h dX1_beltsBegunWithin_22 ?_
        refine iv_X1_48 (pc := 23) h hl hR dX1_beltsBegunWithin_23 ⟨(Nat.le_of_ble_eq_true rfl), (Nat.le_of_ble_eq_true rfl), (Nat.le_of_ble_eq_true rfl), (Nat.le_of_ble_eq_true rfl)⟩ (Nat.le_of_ble_eq_true rfl) (by assumption) (by omega) (s_X1_get hF (by omega) (by omega) (by omega)) (fun v_23 n_23 M_23 hn_23 hp => ?_)
        obtain ⟨⟨rfl, rfl, rfl⟩, gr_23⟩ := hp
        refine jr_bipush (pc := 26) h dX1_beltsBegunWithin_26 bp_60 ?_
        refine jr_imul (pc := 28) h dX1_beltsBegunWithin_28 ?_
        refine jr_istore (pc := 29) h [_, _, _, _, _, _] dX1_beltsBegunWithin_29 (by decide) rfl ?_
        refine jr_iload (pc := 31) h dX1_beltsBegunWithin_31 rfl ?_
        refine jr_iload_n (pc := 33) h dX1_beltsBegunWithin_33 rfl ?_
        refine jr_icmp_le (pc := 34) h 46 dX1_beltsBegunWithin_34 (by decide) (by omega) (by omega) (fun c_34 => ?_) (fun c_34 => ?_)
        · skip
          refine jr_iinc (pc := 46) h [_, _, _, _, _, _] dX1_beltsBegunWithin_46 (by decide) rfl rfl ?_
          refine jr_goto (pc := 49) h 5 dX1_beltsBegunWithin_49 (by decide) ?_
          refine ih _ _ _ (by omega) ?_ (by omega) (by omega)
          rw [sumZ_s (by omega), hx]
          first | rw [if_pos (by omega)] | rw [if_neg (by omega)]
          all_goals (try omega)
        · skip
          refine jr_iload (pc := 37) h dX1_beltsBegunWithin_37 rfl ?_
          refine jr_iload_n (pc := 39) h dX1_beltsBegunWithin_39 rfl ?_
          refine jr_icmp_ge (pc := 40) h 46 dX1_beltsBegunWithin_40 (by decide) (by omega) (by omega) (fun c_40 => ?_) (fun c_40 => ?_)
          · skip
            refine jr_iinc (pc := 46) h [_, _, _, _, _, _] dX1_beltsBegunWithin_46 (by decide) rfl rfl ?_
            refine jr_goto (pc := 49) h 5 dX1_beltsBegunWithin_49 (by decide) ?_
            refine ih _ _ _ (by omega) ?_ (by omega) (by omega)
            rw [sumZ_s (by omega), hx]
            first | rw [if_pos (by omega)] | rw [if_neg (by omega)]
            all_goals (try omega)
          · skip
            refine jr_iinc (pc := 43) h [_, _, _, _, _, _] dX1_beltsBegunWithin_43 (by decide) rfl rfl ?_
            refine jr_iinc (pc := 46) h [_, _, _, _, _, _] dX1_beltsBegunWithin_46 (by decide) rfl rfl ?_
            refine jr_goto (pc := 49) h 5 dX1_beltsBegunWithin_49 (by decide) ?_
            refine ih _ _ _ (by omega) ?_ (by omega) (by omega)
            rw [sumZ_s (by omega), hx]
            first | rw [if_pos (by omega)] | rw [if_neg (by omega)]
            all_goals (try omega)
  refine jr_iconst (pc := 0) h dX1_beltsBegunWithin_0 ?_
  refine jr_istore_n (pc := 1) h [_, _, _, _, _, _] dX1_beltsBegunWithin_1 (by decide) rfl ?_
  refine jr_iconst (pc := 2) h dX1_beltsBegunWithin_2 ?_
  refine jr_istore (pc := 3) h [_, _, _, _, _, _] dX1_beltsBegunWithin_3 (by decide) rfl ?_
  exact loop _ _ _ _ (by omega) rfl (by omega) (Nat.lt_succ_self _)
set_option maxHeartbeats 1000000 in
set_option maxRecDepth 20000 in
theorem s_X1_secondsFor {l : Launch} {n : Nat} {M : jdM} {f : Nat} {ct td bk si ld : Nat → Int} (hF : Fl M n f ct td bk si ld) {a b : Int} (ha : 1 ≤ a ∧ a ≤ 1000) (hb : -1000 ≤ b ∧ b ≤ 1000) : Ct l yX1_secondsFor cX1_secondsFor 4 (some .int) rX1_secondsFor [.ref f, jI a, jI b] n M (fun vv n' M' => (vv = some (jI (c_sf td si a b)) ∧ n = n' ∧ M = M') ∧ (0) ≤ (c_sf td si a b) ∧ (c_sf td si a b) ≤ 3000000) := by
  refine Ct_of [some (.ref f), some (jI a), some (jI b), none] (by decide) (Nat.le_of_ble_eq_true rfl) rfl (fun κ hl h hR hRt hmn hn0 => ?_)
  have h : Ok κ RX1 cX1_secondsFor 4 (some .int) := h
  obtain ⟨hn, hO, hA, hB, hC, hD, hE, rA, rB, r0, rC, rD, rE⟩ := id hF
  have b1 := mulb (A := 999) (B := 360) (c_getr rB 0 0 2) (c_swr rD a b ha.1)
  have b2 := mulb (A := 999) (B := 2000) (c_getr rB 0 0 1) (b := max 0 (b - a)) (by omega)
  refine jr_iconst (pc := 0) h dX1_secondsFor_0 ?_
  refine jr_iload_n (pc := 1) h dX1_secondsFor_1 rfl ?_
  refine jr_iload_n (pc := 2) h dX1_secondsFor_2 rfl ?_
  refine jr_isub (pc := 3) h dX1_secondsFor_3 ?_
  refine im_X1_58 (pc := 4) h hR dX1_secondsFor_4 ⟨(Nat.le_of_ble_eq_true rfl), (Nat.le_of_ble_eq_true rfl), (Nat.le_of_ble_eq_true rfl), (Nat.le_of_ble_eq_true rfl)⟩ (by omega) (by omega) ?_
  refine jr_istore_n (pc := 7) h [_, _, _, _] dX1_secondsFor_7 (by decide) rfl ?_
  refine jr_aload_n (pc := 8) h dX1_secondsFor_8 rfl ?_
  refine iv_X1_86 (pc := 9) h hl hR dX1_secondsFor_9 ⟨(Nat.le_of_ble_eq_true rfl), (Nat.le_of_ble_eq_true rfl), (Nat.le_of_ble_eq_true rfl), (Nat.le_of_ble_eq_true rfl)⟩ (Nat.le_of_ble_eq_true rfl) (by assumption) (by omega) (s_X1_serve hF) (fun v_9 n_9 M_9 hn_9 hp => ?_)
  obtain ⟨⟨rfl, rfl, rfl⟩, gr_9⟩ := hp
  refine jr_aload_n (pc := 12) h dX1_secondsFor_12 rfl ?_
  refine jr_iload_n (pc := 13) h dX1_secondsFor_13 rfl ?_
  refine jr_iload_n (pc := 14) h dX1_secondsFor_14 rfl ?_
  refine iv_X1_89 (pc := 15) h hl hR dX1_secondsFor_15 ⟨(Nat.le_of_ble_eq_true rfl), (Nat.le_of_ble_eq_true rfl), (Nat.le_of_ble_eq_true rfl), (Nat.le_of_ble_eq_true rfl)⟩ (Nat.le_of_ble_eq_true rfl) (by assumption) (by omega) (s_X1_sittingWithin hF (by omega) (by omega)) (fun v_15 n_15 M_15 hn_15 hp => ?_)
  obtain ⟨⟨rfl, rfl, rfl⟩, gr_15⟩ := hp
  refine jr_imul (pc := 18) h dX1_secondsFor_18 ?_
  refine jr_aload_n (pc := 19) h dX1_secondsFor_19 rfl ?_
  refine iv_X1_92 (pc := 20) h hl hR dX1_secondsFor_20 ⟨(Nat.le_of_ble_eq_true rfl), (Nat.le_of_ble_eq_true rfl), (Nat.le_of_ble_eq_true rfl), (Nat.le_of_ble_eq_true rfl)⟩ (Nat.le_of_ble_eq_true rfl) (by assumption) (by omega) (s_X1_walk hF) (fun v_20 n_20 M_20 hn_20 hp => ?_)
  obtain ⟨⟨rfl, rfl, rfl⟩, gr_20⟩ := hp
  refine jr_iload_n (pc := 23) h dX1_secondsFor_23 rfl ?_
  refine jr_imul (pc := 24) h dX1_secondsFor_24 ?_
  refine jr_iadd (pc := 25) h dX1_secondsFor_25 ?_
  refine jr_iret (pc := 26) h hRt dX1_secondsFor_26 rfl (Nat.le_of_ble_eq_true rfl) (Nat.le_of_ble_eq_true rfl) ?_
  exact ⟨⟨rfl, rfl, rfl⟩, by unfold c_sf; omega⟩
set_option maxHeartbeats 1000000 in
set_option maxRecDepth 20000 in
theorem s_X1_secondsMeetingAt {l : Launch} {n : Nat} {M : jdM} {f : Nat} {ct td bk si ld : Nat → Int} (hF : Fl M n f ct td bk si ld) {a : Int} (ha : 0 ≤ a ∧ a ≤ 500) : Ct l yX1_secondsMeetingAt cX1_secondsMeetingAt 2 (some .int) rX1_secondsMeetingAt [.ref f, jI a] n M (fun vv n' M' => (vv = some (jI (c_sec ct td si a)) ∧ n = n' ∧ M = M') ∧ (0) ≤ (c_sec ct td si a) ∧ (c_sec ct td si a) ≤ 3000000) := by
  refine Ct_of [some (.ref f), some (jI a)] (by decide) (Nat.le_of_ble_eq_true rfl) rfl (fun κ hl h hR hRt hmn hn0 => ?_)
  have h : Ok κ RX1 cX1_secondsMeetingAt 2 (some .int) := h
  obtain ⟨hn, hO, hA, hB, hC, hD, hE, rA, rB, r0, rC, rD, rE⟩ := id hF
  have a5 := rA 5
  refine jr_aload_n (pc := 0) h dX1_secondsMeetingAt_0 rfl ?_
  refine gf_X1_9 (pc := 1) h dX1_secondsMeetingAt_1 (by assumption) (by omega) ?_
  refine jr_iconst (pc := 4) h dX1_secondsMeetingAt_4 ?_
  refine jr_ialdc (pc := 5) h (5 : Nat) rfl dX1_secondsMeetingAt_5 (by assumption) (by omega) (by decide) ?_
  refine jr_iconst (pc := 6) h dX1_secondsMeetingAt_6 ?_
  refine jr_icmp_ge (pc := 7) h 20 dX1_secondsMeetingAt_7 (by decide) (by omega) (by omega) (fun c_7 => ?_) (fun c_7 => ?_)
  · skip
    refine jr_aload_n (pc := 20) h dX1_secondsMeetingAt_20 rfl ?_
    refine jr_iconst (pc := 21) h dX1_secondsMeetingAt_21 ?_
    refine jr_iload_n (pc := 22) h dX1_secondsMeetingAt_22 rfl ?_
    refine iv_X1_83 (pc := 23) h hl hR dX1_secondsMeetingAt_23 ⟨(Nat.le_of_ble_eq_true rfl), (Nat.le_of_ble_eq_true rfl), (Nat.le_of_ble_eq_true rfl), (Nat.le_of_ble_eq_true rfl)⟩ (Nat.le_of_ble_eq_true rfl) (by assumption) (by omega) (s_X1_secondsFor hF (by omega) (by omega)) (fun v_23 n_23 M_23 hn_23 hp => ?_)
    obtain ⟨⟨rfl, rfl, rfl⟩, gr_23⟩ := hp
    refine jr_aload_n (pc := 26) h dX1_secondsMeetingAt_26 rfl ?_
    refine jr_iload_n (pc := 27) h dX1_secondsMeetingAt_27 rfl ?_
    refine jr_iconst (pc := 28) h dX1_secondsMeetingAt_28 ?_
    refine jr_iadd (pc := 29) h dX1_secondsMeetingAt_29 ?_
    refine jr_aload_n (pc := 30) h dX1_secondsMeetingAt_30 rfl ?_
    refine iv_X1_67 (pc := 31) h hl hR dX1_secondsMeetingAt_31 ⟨(Nat.le_of_ble_eq_true rfl), (Nat.le_of_ble_eq_true rfl), (Nat.le_of_ble_eq_true rfl), (Nat.le_of_ble_eq_true rfl)⟩ (Nat.le_of_ble_eq_true rfl) (by assumption) (by omega) (s_X1_rows hF) (fun v_31 n_31 M_31 hn_31 hp => ?_)
    obtain ⟨⟨rfl, rfl, rfl⟩, gr_31⟩ := hp
    refine iv_X1_83 (pc := 34) h hl hR dX1_secondsMeetingAt_34 ⟨(Nat.le_of_ble_eq_true rfl), (Nat.le_of_ble_eq_true rfl), (Nat.le_of_ble_eq_true rfl), (Nat.le_of_ble_eq_true rfl)⟩ (Nat.le_of_ble_eq_true rfl) (by assumption) (by omega) (s_X1_secondsFor hF (by omega) (by omega)) (fun v_34 n_34 M_34 hn_34 hp => ?_)
    obtain ⟨⟨rfl, rfl, rfl⟩, gr_34⟩ := hp
    refine im_X1_58 (pc := 37) h hR dX1_secondsMeetingAt_37 ⟨(Nat.le_of_ble_eq_true rfl), (Nat.le_of_ble_eq_true rfl), (Nat.le_of_ble_eq_true rfl), (Nat.le_of_ble_eq_true rfl)⟩ (by omega) (by omega) ?_
    refine jr_iret (pc := 40) h hRt dX1_secondsMeetingAt_40 rfl (Nat.le_of_ble_eq_true rfl) (Nat.le_of_ble_eq_true rfl) ?_
    refine ⟨⟨ji_c ?_, rfl, rfl⟩, ?_⟩
    · unfold c_sec
      first | rw [if_pos (by omega)] | rw [if_neg (by omega)]
    · unfold c_sec
      first | rw [if_pos (by omega)] | rw [if_neg (by omega)]
      omega
  · skip
    refine jr_aload_n (pc := 10) h dX1_secondsMeetingAt_10 rfl ?_
    refine jr_iconst (pc := 11) h dX1_secondsMeetingAt_11 ?_
    refine jr_aload_n (pc := 12) h dX1_secondsMeetingAt_12 rfl ?_
    refine iv_X1_67 (pc := 13) h hl hR dX1_secondsMeetingAt_13 ⟨(Nat.le_of_ble_eq_true rfl), (Nat.le_of_ble_eq_true rfl), (Nat.le_of_ble_eq_true rfl), (Nat.le_of_ble_eq_true rfl)⟩ (Nat.le_of_ble_eq_true rfl) (by assumption) (by omega) (s_X1_rows hF) (fun v_13 n_13 M_13 hn_13 hp => ?_)
    obtain ⟨⟨rfl, rfl, rfl⟩, gr_13⟩ := hp
    refine iv_X1_83 (pc := 16) h hl hR dX1_secondsMeetingAt_16 ⟨(Nat.le_of_ble_eq_true rfl), (Nat.le_of_ble_eq_true rfl), (Nat.le_of_ble_eq_true rfl), (Nat.le_of_ble_eq_true rfl)⟩ (Nat.le_of_ble_eq_true rfl) (by assumption) (by omega) (s_X1_secondsFor hF (by omega) (by omega)) (fun v_16 n_16 M_16 hn_16 hp => ?_)
    obtain ⟨⟨rfl, rfl, rfl⟩, gr_16⟩ := hp
    refine jr_iret (pc := 19) h hRt dX1_secondsMeetingAt_19 rfl (Nat.le_of_ble_eq_true rfl) (Nat.le_of_ble_eq_true rfl) ?_
    refine ⟨⟨ji_c ?_, rfl, rfl⟩, ?_⟩
    · unfold c_sec
      first | rw [if_pos (by omega)] | rw [if_neg (by omega)]
    · unfold c_sec
      first | rw [if_pos (by omega)] | rw [if_neg (by omega)]
      omega
set_option maxHeartbeats 2000000 in
set_option maxRecDepth 20000 in
theorem s_X1_behindBelts {l : Launch} {n : Nat} {M : jdM} {f : Nat} {ct td bk si ld : Nat → Int} (hF : Fl M n f ct td bk si ld) {a : Int} (ha : 0 ≤ a ∧ a ≤ 10000000) : Ct l yX1_behindBelts cX1_behindBelts 6 (some .int) rX1_behindBelts [.ref f, jI a] n M (fun vv n' M' => (vv = some (jI (c_bel ct td a)) ∧ n = n' ∧ M = M') ∧ (0) ≤ (c_bel ct td a) ∧ (c_bel ct td a) ≤ 10000000) := by
  refine Ct_of [some (.ref f), some (jI a), none, none, none, none] (by decide) (Nat.le_of_ble_eq_true rfl) rfl (fun κ hl h hR hRt hmn hn0 => ?_)
  have h : Ok κ RX1 cX1_behindBelts 6 (some .int) := h
  obtain ⟨hn, hO, hA, hB, hC, hD, hE, rA, rB, r0, rC, rD, rE⟩ := id hF
  have a9 := rA 9
  have loop : ∀ (dq : Nat) (x p : Int) (u : Option Value) (u1 : Option Value), (0 ≤ p ∧ p ≤ ct 9) → (x = foldZ (fun y _ => c_belP ct td y) a p.toNat) → (0 ≤ x ∧ x ≤ 10000000) → (8 - p).toNat < dq → J κ 6 0 0 n 4 [some (.ref f), some (jI a), some (jI x), some (jI p), u, u1] [] M := by
    intro dq
    induction dq with
    | zero => intro x p u u1 hi hx hb2 hd; omega
    | succ dq ih =>
      intro x p u u1 hi hx hb2 hd
      refine jr_iload_n (pc := 4) h dX1_behindBelts_4 rfl ?_
      refine jr_aload_n (pc := 5) h dX1_behindBelts_5 rfl ?_
      refine gf_X1_9 (pc := 6) h dX1_behindBelts_6 (by assumption) (by omega) ?_
      refine jr_bipush (pc := 9) h dX1_behindBelts_9 bp_9 ?_
      refine jr_ialdc (pc := 11) h (9 : Nat) rfl dX1_behindBelts_11 (by assumption) (by omega) (by decide) ?_
      refine jr_icmp_ge (pc := 12) h 89 dX1_behindBelts_12 (by decide) (by omega) (by omega) (fun c_12 => ?_) (fun c_12 => ?_)
      · skip
        refine jr_iload_n (pc := 89) h dX1_behindBelts_89 rfl ?_
        refine jr_iret (pc := 90) h hRt dX1_behindBelts_90 rfl (Nat.le_of_ble_eq_true rfl) (Nat.le_of_ble_eq_true rfl) ?_
        have e : x = c_bel ct td a := by rw [hx, show p = ct 9 by omega]; rfl
        rw [e] at hb2 ⊢
        exact ⟨⟨rfl, rfl, rfl⟩, hb2⟩
      · skip
        refine jr_iconst (pc := 15) h dX1_behindBelts_15 ?_
        refine jr_istore (pc := 16) h [_, _, _, _, _, _] dX1_behindBelts_16 (by decide) rfl ?_
        have inner : ∀ (d2 : Nat) (y i : Int) (u2 : Option Value), (0 ≤ i ∧ i ≤ ct 9) → (y = foldZ (c_bel1 td) x i.toNat) → (0 ≤ y ∧ y ≤ 10000000) → (8 - i).toNat < d2 → J κ 6 0 0 n 18 [some (.ref f), some (jI a), some (jI y), some (jI p), some (jI i), u2] [] M := by
          intro d2
          induction d2 with
          | zero => intro y i u2 hi2 hy hb3 hd; omega
          | succ d2 ih2 =>
            intro y i u2 hi2 hy hb3 hd
            refine jr_iload (pc := 18) h dX1_behindBelts_18 rfl ?_
            refine jr_aload_n (pc := 20) h dX1_behindBelts_20 rfl ?_
            refine gf_X1_9 (pc := 21) h dX1_behindBelts_21 (by assumption) (by omega) ?_
            refine jr_bipush (pc := 24) h dX1_behindBelts_24 bp_9 ?_
            refine jr_ialdc (pc := 26) h (9 : Nat) rfl dX1_behindBelts_26 (by assumption) (by omega) (by decide) ?_
            refine jr_icmp_ge (pc := 27) h 83 dX1_behindBelts_27 (by decide) (by omega) (by omega) (fun c_27 => ?_) (fun c_27 => ?_)
            · skip
              refine jr_iinc (pc := 83) h [_, _, _, _, _, _] dX1_behindBelts_83 (by decide) rfl rfl ?_
              refine jr_goto (pc := 86) h 4 dX1_behindBelts_86 (by decide) ?_
              refine ih _ _ _ _ (by omega) ?_ (by omega) (by omega)
              rw [foldZ_s (by omega), ← hx]
              unfold c_belP
              rw [hy, show i = ct 9 by omega]
            · skip
              refine jr_iload_n (pc := 30) h dX1_behindBelts_30 rfl ?_
              refine jr_bipush (pc := 31) h dX1_behindBelts_31 bp_60 ?_
              refine jr_idivp (pc := 33) h dX1_behindBelts_33 (by omega) (by omega) ?_
              refine jr_istore (pc := 34) h [_, _, _, _, _, _] dX1_behindBelts_34 (by decide) rfl ?_
              refine jr_iload (pc := 36) h dX1_behindBelts_36 rfl ?_
              refine jr_aload_n (pc := 38) h dX1_behindBelts_38 rfl ?_
              refine jr_bipush (pc := 39) h dX1_behindBelts_39 bp_9 ?_
              refine jr_iload (pc := 41) h dX1_behindBelts_41 rfl ?_
              refine jr_iconst (pc := 43) h dX1_behindBelts_43 ?_
              refine iv_X1_48 (pc := 44) h hl hR dX1_behindBelts_44 ⟨(Nat.le_of_ble_eq_true rfl), (Nat.le_of_ble_eq_true rfl), (Nat.le_of_ble_eq_true rfl), (Nat.le_of_ble_eq_true rfl)⟩ (Nat.le_of_ble_eq_true rfl) (by assumption) (by omega) (s_X1_get hF (by omega) (by omega) (by omega)) (fun v_44 n_44 M_44 hn_44 hp => ?_)
              obtain ⟨⟨rfl, rfl, rfl⟩, gr_44⟩ := hp
              refine jr_icmp_lt (pc := 47) h 77 dX1_behindBelts_47 (by decide) (by omega) (by omega) (fun c_47 => ?_) (fun c_47 => ?_)
              · skip
                refine jr_iinc (pc := 77) h [_, _, _, _, _, _] dX1_behindBelts_77 (by decide) rfl rfl ?_
                refine jr_goto (pc := 80) h 18 dX1_behindBelts_80 (by decide) ?_
                refine ih2 _ _ _ (by omega) ?_ ?_ (by omega)
                · rw [foldZ_s (by omega), ← hy]
                  unfold c_bel1
                  first | rw [if_pos (by omega)] | rw [if_neg (by omega)]
                · omega
              · skip
                refine jr_iload (pc := 50) h dX1_behindBelts_50 rfl ?_
                refine jr_aload_n (pc := 52) h dX1_behindBelts_52 rfl ?_
                refine jr_bipush (pc := 53) h dX1_behindBelts_53 bp_9 ?_
                refine jr_iload (pc := 55) h dX1_behindBelts_55 rfl ?_
                refine jr_iconst (pc := 57) h dX1_behindBelts_57 ?_
                refine iv_X1_48 (pc := 58) h hl hR dX1_behindBelts_58 ⟨(Nat.le_of_ble_eq_true rfl), (Nat.le_of_ble_eq_true rfl), (Nat.le_of_ble_eq_true rfl), (Nat.le_of_ble_eq_true rfl)⟩ (Nat.le_of_ble_eq_true rfl) (by assumption) (by omega) (s_X1_get hF (by omega) (by omega) (by omega)) (fun v_58 n_58 M_58 hn_58 hp => ?_)
                obtain ⟨⟨rfl, rfl, rfl⟩, gr_58⟩ := hp
                refine jr_icmp_ge (pc := 61) h 77 dX1_behindBelts_61 (by decide) (by omega) (by omega) (fun c_61 => ?_) (fun c_61 => ?_)
                · skip
                  refine jr_iinc (pc := 77) h [_, _, _, _, _, _] dX1_behindBelts_77 (by decide) rfl rfl ?_
                  refine jr_goto (pc := 80) h 18 dX1_behindBelts_80 (by decide) ?_
                  refine ih2 _ _ _ (by omega) ?_ ?_ (by omega)
                  · rw [foldZ_s (by omega), ← hy]
                    unfold c_bel1
                    first | rw [if_pos (by omega)] | rw [if_neg (by omega)]
                  · omega
                · skip
                  refine jr_aload_n (pc := 64) h dX1_behindBelts_64 rfl ?_
                  refine jr_bipush (pc := 65) h dX1_behindBelts_65 bp_9 ?_
                  refine jr_iload (pc := 67) h dX1_behindBelts_67 rfl ?_
                  refine jr_iconst (pc := 69) h dX1_behindBelts_69 ?_
                  refine iv_X1_48 (pc := 70) h hl hR dX1_behindBelts_70 ⟨(Nat.le_of_ble_eq_true rfl), (Nat.le_of_ble_eq_true rfl), (Nat.le_of_ble_eq_true rfl), (Nat.le_of_ble_eq_true rfl)⟩ (Nat.le_of_ble_eq_true rfl) (by assumption) (by omega) (s_X1_get hF (by omega) (by omega) (by omega)) (fun v_70 n_70 M_70 hn_70 hp => ?_)
                  obtain ⟨⟨rfl, rfl, rfl⟩, gr_70⟩ := hp
                  refine jr_bipush (pc := 73) h dX1_behindBelts_73 bp_60 ?_
                  refine jr_imul (pc := 75) h dX1_behindBelts_75 ?_
                  refine jr_istore_n (pc := 76) h [_, _, _, _, _, _] dX1_behindBelts_76 (by decide) rfl ?_
                  refine jr_iinc (pc := 77) h [_, _, _, _, _, _] dX1_behindBelts_77 (by decide) rfl rfl ?_
                  refine jr_goto (pc := 80) h 18 dX1_behindBelts_80 (by decide) ?_
                  refine ih2 _ _ _ (by omega) ?_ ?_ (by omega)
                  · rw [foldZ_s (by omega), ← hy]
                    unfold c_bel1
                    first | rw [if_pos (by omega)] | rw [if_neg (by omega)]
                  · omega
        exact inner _ _ _ _ (by omega) rfl (by omega) (Nat.lt_succ_self _)
  refine jr_iload_n (pc := 0) h dX1_behindBelts_0 rfl ?_
  refine jr_istore_n (pc := 1) h [_, _, _, _, _, _] dX1_behindBelts_1 (by decide) rfl ?_
  refine jr_iconst (pc := 2) h dX1_behindBelts_2 ?_
  refine jr_istore_n (pc := 3) h [_, _, _, _, _, _] dX1_behindBelts_3 (by decide) rfl ?_
  exact loop _ _ _ _ _ (by omega) rfl (by omega) (Nat.lt_succ_self _)
set_option maxHeartbeats 2000000 in
set_option maxRecDepth 20000 in
theorem s_X1_formerLoad {l : Launch} {n : Nat} {M : jdM} {f : Nat} {ct td bk si ld : Nat → Int} (hF : Fl M n f ct td bk si ld) {a m : Int} (ha : -2147483648 ≤ a ∧ a < 2147483648) (hm : -2147483648 ≤ m ∧ m < 2147483648) : Ct l yX1_formerLoad cX1_formerLoad 8 (some .int) rX1_formerLoad [.ref f, jI a, jI m] n M (fun vv n' M' => (vv = some (jI (c_former ct td si a m)) ∧ n = n' ∧ M = M') ∧ (-1) ≤ (c_former ct td si a m) ∧ (c_former ct td si a m) ≤ 1000000) := by
  refine Ct_of [some (.ref f), some (jI a), some (jI m), none, none, none, none, none] (by decide) (Nat.le_of_ble_eq_true rfl) rfl (fun κ hl h hR hRt hmn hn0 => ?_)
  have h : Ok κ RX1 cX1_formerLoad 8 (some .int) := h
  obtain ⟨hn, hO, hA, hB, hC, hD, hE, rA, rB, r0, rC, rD, rE⟩ := id hF
  have a4 := rA 4
  have se := c_swr rD 1 (c_rows ct td) (by omega)
  have re : -1 ≤ c_former ct td si a m ∧ c_former ct td si a m ≤ 1000000 := by
    unfold c_former
    refine foldZ_inv (P := fun b => -1 ≤ b ∧ b ≤ 1000000) (by omega) (fun b i hb _ _ => ?_)
    have g1 := c_getr rB 4 i 2
    have g2 := mulb (A := 360) (B := 999) se (c_getr rB 4 i 1)
    show -1 ≤ c_fl1 td _ a m b i ∧ c_fl1 td _ a m b i ≤ 1000000
    have q1 := Int.ediv_nonneg (a := c_sw si 1 (c_rows ct td) * c_get td 4 i 1 + c_get td 4 i 2 - 1) (b := c_get td 4 i 2)
    have q2 := Int.ediv_le_self (a := c_sw si 1 (c_rows ct td) * c_get td 4 i 1 + c_get td 4 i 2 - 1) (c_get td 4 i 2)
    unfold c_fl1
    split <;> omega
  have loop : ∀ (dq : Nat) (x i : Int) (u : Option Value) (u1 : Option Value), (0 ≤ i ∧ i ≤ ct 4) → (x = foldZ (c_fl1 td (c_sw si 1 (c_rows ct td)) a m) (-1) i.toNat) → (-1 ≤ x ∧ x ≤ 1000000) → (8 - i).toNat < dq → J κ 8 0 0 n 16 [some (.ref f), some (jI a), some (jI m), some (jI x), some (jI (c_sw si 1 (c_rows ct td))), some (jI i), u, u1] [] M := by
    intro dq
    induction dq with
    | zero => intro x i u u1 hi hx hb2 hd; omega
    | succ dq ih =>
      intro x i u u1 hi hx hb2 hd
      refine jr_iload (pc := 16) h dX1_formerLoad_16 rfl ?_
      refine jr_aload_n (pc := 18) h dX1_formerLoad_18 rfl ?_
      refine gf_X1_9 (pc := 19) h dX1_formerLoad_19 (by assumption) (by omega) ?_
      refine jr_iconst (pc := 22) h dX1_formerLoad_22 ?_
      refine jr_ialdc (pc := 23) h (4 : Nat) rfl dX1_formerLoad_23 (by assumption) (by omega) (by decide) ?_
      refine jr_icmp_ge (pc := 24) h 108 dX1_formerLoad_24 (by decide) (by omega) (by omega) (fun c_24 => ?_) (fun c_24 => ?_)
      · skip
        refine jr_iload_n (pc := 108) h dX1_formerLoad_108 rfl ?_
        refine jr_iret (pc := 109) h hRt dX1_formerLoad_109 rfl (Nat.le_of_ble_eq_true rfl) (Nat.le_of_ble_eq_true rfl) ?_
        have e : x = c_former ct td si a m := by rw [hx, show i = ct 4 by omega]; rfl
        rw [e]
        exact ⟨⟨rfl, rfl, rfl⟩, re⟩
      · skip
        refine jr_aload_n (pc := 27) h dX1_formerLoad_27 rfl ?_
        refine jr_iconst (pc := 28) h dX1_formerLoad_28 ?_
        refine jr_iload (pc := 29) h dX1_formerLoad_29 rfl ?_
        refine jr_iconst (pc := 31) h dX1_formerLoad_31 ?_
        refine iv_X1_48 (pc := 32) h hl hR dX1_formerLoad_32 ⟨(Nat.le_of_ble_eq_true rfl), (Nat.le_of_ble_eq_true rfl), (Nat.le_of_ble_eq_true rfl), (Nat.le_of_ble_eq_true rfl)⟩ (Nat.le_of_ble_eq_true rfl) (by assumption) (by omega) (s_X1_get hF (by omega) (by omega) (by omega)) (fun v_32 n_32 M_32 hn_32 hp => ?_)
        obtain ⟨⟨rfl, rfl, rfl⟩, gr_32⟩ := hp
        refine jr_istore (pc := 35) h [_, _, _, _, _, _, _, _] dX1_formerLoad_35 (by decide) rfl ?_
        refine jr_aload_n (pc := 37) h dX1_formerLoad_37 rfl ?_
        refine jr_iconst (pc := 38) h dX1_formerLoad_38 ?_
        refine jr_iload (pc := 39) h dX1_formerLoad_39 rfl ?_
        refine jr_iconst (pc := 41) h dX1_formerLoad_41 ?_
        refine iv_X1_48 (pc := 42) h hl hR dX1_formerLoad_42 ⟨(Nat.le_of_ble_eq_true rfl), (Nat.le_of_ble_eq_true rfl), (Nat.le_of_ble_eq_true rfl), (Nat.le_of_ble_eq_true rfl)⟩ (Nat.le_of_ble_eq_true rfl) (by assumption) (by omega) (s_X1_get hF (by omega) (by omega) (by omega)) (fun v_42 n_42 M_42 hn_42 hp => ?_)
        obtain ⟨⟨rfl, rfl, rfl⟩, gr_42⟩ := hp
        refine jr_iload_n (pc := 45) h dX1_formerLoad_45 rfl ?_
        refine jr_icmp_ne (pc := 46) h 102 dX1_formerLoad_46 (by decide) (by omega) (by omega) (fun c_46 => ?_) (fun c_46 => ?_)
        · skip
          refine jr_iinc (pc := 102) h [_, _, _, _, _, _, _, _] dX1_formerLoad_102 (by decide) rfl rfl ?_
          refine jr_goto (pc := 105) h 16 dX1_formerLoad_105 (by decide) ?_
          refine ih _ _ _ _ (by omega) ?_ ?_ (by omega)
          · rw [foldZ_s (by omega), ← hx]
            unfold c_fl1
            first | rw [if_pos (by omega)] | rw [if_neg (by omega)]
          · have q1 := Int.ediv_nonneg (a := c_sw si 1 (c_rows ct td) * c_get td 4 i 1 + c_get td 4 i 2 - 1) (b := c_get td 4 i 2)
            have q2 := Int.ediv_le_self (a := c_sw si 1 (c_rows ct td) * c_get td 4 i 1 + c_get td 4 i 2 - 1) (c_get td 4 i 2)
            have g2 := mulb (A := 360) (B := 999) se (c_getr rB 4 i 1)
            omega
        · skip
          refine jr_iload (pc := 49) h dX1_formerLoad_49 rfl ?_
          refine jr_if_le (pc := 51) h 102 dX1_formerLoad_51 (by decide) (by omega) (fun c_51 => ?_) (fun c_51 => ?_)
          · skip
            refine jr_iinc (pc := 102) h [_, _, _, _, _, _, _, _] dX1_formerLoad_102 (by decide) rfl rfl ?_
            refine jr_goto (pc := 105) h 16 dX1_formerLoad_105 (by decide) ?_
            refine ih _ _ _ _ (by omega) ?_ ?_ (by omega)
            · rw [foldZ_s (by omega), ← hx]
              unfold c_fl1
              first | rw [if_pos (by omega)] | rw [if_neg (by omega)]
            · have q1 := Int.ediv_nonneg (a := c_sw si 1 (c_rows ct td) * c_get td 4 i 1 + c_get td 4 i 2 - 1) (b := c_get td 4 i 2)
              have q2 := Int.ediv_le_self (a := c_sw si 1 (c_rows ct td) * c_get td 4 i 1 + c_get td 4 i 2 - 1) (c_get td 4 i 2)
              have g2 := mulb (A := 360) (B := 999) se (c_getr rB 4 i 1)
              omega
          · skip
            refine jr_iload (pc := 54) h dX1_formerLoad_54 rfl ?_
            refine jr_aload_n (pc := 56) h dX1_formerLoad_56 rfl ?_
            refine jr_iconst (pc := 57) h dX1_formerLoad_57 ?_
            refine jr_iload (pc := 58) h dX1_formerLoad_58 rfl ?_
            refine jr_iconst (pc := 60) h dX1_formerLoad_60 ?_
            refine iv_X1_48 (pc := 61) h hl hR dX1_formerLoad_61 ⟨(Nat.le_of_ble_eq_true rfl), (Nat.le_of_ble_eq_true rfl), (Nat.le_of_ble_eq_true rfl), (Nat.le_of_ble_eq_true rfl)⟩ (Nat.le_of_ble_eq_true rfl) (by assumption) (by omega) (s_X1_get hF (by omega) (by omega) (by omega)) (fun v_61 n_61 M_61 hn_61 hp => ?_)
            obtain ⟨⟨rfl, rfl, rfl⟩, gr_61⟩ := hp
            refine jr_imul (pc := 64) h dX1_formerLoad_64 ?_
            refine jr_iload (pc := 65) h dX1_formerLoad_65 rfl ?_
            refine jr_iadd (pc := 67) h dX1_formerLoad_67 ?_
            refine jr_iconst (pc := 68) h dX1_formerLoad_68 ?_
            refine jr_isub (pc := 69) h dX1_formerLoad_69 ?_
            refine jr_iload (pc := 70) h dX1_formerLoad_70 rfl ?_
            refine jr_idivp (pc := 72) h dX1_formerLoad_72 (by have := mulb (A := 360) (B := 999) se (c_getr rB 4 i 1); omega) (by omega) ?_
            refine jr_istore (pc := 73) h [_, _, _, _, _, _, _, _] dX1_formerLoad_73 (by decide) rfl ?_
            refine jr_iload_n (pc := 75) h dX1_formerLoad_75 rfl ?_
            refine jr_iconst (pc := 76) h dX1_formerLoad_76 ?_
            refine jr_icmp_eq (pc := 77) h 99 dX1_formerLoad_77 (by decide) (by omega) (by omega) (fun c_77 => ?_) (fun c_77 => ?_)
            · skip
              refine jr_iload (pc := 99) h dX1_formerLoad_99 rfl ?_
              refine jr_istore_n (pc := 101) h [_, _, _, _, _, _, _, _] dX1_formerLoad_101 (by decide) rfl ?_
              refine jr_iinc (pc := 102) h [_, _, _, _, _, _, _, _] dX1_formerLoad_102 (by decide) rfl rfl ?_
              refine jr_goto (pc := 105) h 16 dX1_formerLoad_105 (by decide) ?_
              refine ih _ _ _ _ (by omega) ?_ ?_ (by omega)
              · rw [foldZ_s (by omega), ← hx]
                unfold c_fl1
                first | rw [if_pos (by omega)] | rw [if_neg (by omega)]
              · have q1 := Int.ediv_nonneg (a := c_sw si 1 (c_rows ct td) * c_get td 4 i 1 + c_get td 4 i 2 - 1) (b := c_get td 4 i 2)
                have q2 := Int.ediv_le_self (a := c_sw si 1 (c_rows ct td) * c_get td 4 i 1 + c_get td 4 i 2 - 1) (c_get td 4 i 2)
                have g2 := mulb (A := 360) (B := 999) se (c_getr rB 4 i 1)
                omega
            · skip
              refine jr_iload_n (pc := 80) h dX1_formerLoad_80 rfl ?_
              refine jr_if_eq (pc := 81) h 93 dX1_formerLoad_81 (by decide) (by omega) (fun c_81 => ?_) (fun c_81 => ?_)
              · skip
                refine jr_iload (pc := 93) h dX1_formerLoad_93 rfl ?_
                refine jr_iload_n (pc := 95) h dX1_formerLoad_95 rfl ?_
                refine jr_icmp_ge (pc := 96) h 102 dX1_formerLoad_96 (by decide) (by have q1 := Int.ediv_nonneg (a := c_sw si 1 (c_rows ct td) * c_get td 4 i 1 + c_get td 4 i 2 - 1) (b := c_get td 4 i 2); have q2 := Int.ediv_le_self (a := c_sw si 1 (c_rows ct td) * c_get td 4 i 1 + c_get td 4 i 2 - 1) (c_get td 4 i 2); have g2 := mulb (A := 360) (B := 999) se (c_getr rB 4 i 1); omega) (by have q1 := Int.ediv_nonneg (a := c_sw si 1 (c_rows ct td) * c_get td 4 i 1 + c_get td 4 i 2 - 1) (b := c_get td 4 i 2); have q2 := Int.ediv_le_self (a := c_sw si 1 (c_rows ct td) * c_get td 4 i 1 + c_get td 4 i 2 - 1) (c_get td 4 i 2); have g2 := mulb (A := 360) (B := 999) se (c_getr rB 4 i 1); omega) (fun c_96 => ?_) (fun c_96 => ?_)
                · skip
                  refine jr_iinc (pc := 102) h [_, _, _, _, _, _, _, _] dX1_formerLoad_102 (by decide) rfl rfl ?_
                  refine jr_goto (pc := 105) h 16 dX1_formerLoad_105 (by decide) ?_
                  refine ih _ _ _ _ (by omega) ?_ ?_ (by omega)
                  · rw [foldZ_s (by omega), ← hx]
                    unfold c_fl1
                    first | rw [if_pos (by omega)] | rw [if_neg (by omega)]
                  · have q1 := Int.ediv_nonneg (a := c_sw si 1 (c_rows ct td) * c_get td 4 i 1 + c_get td 4 i 2 - 1) (b := c_get td 4 i 2)
                    have q2 := Int.ediv_le_self (a := c_sw si 1 (c_rows ct td) * c_get td 4 i 1 + c_get td 4 i 2 - 1) (c_get td 4 i 2)
                    have g2 := mulb (A := 360) (B := 999) se (c_getr rB 4 i 1)
                    omega
                · skip
                  refine jr_iload (pc := 99) h dX1_formerLoad_99 rfl ?_
                  refine jr_istore_n (pc := 101) h [_, _, _, _, _, _, _, _] dX1_formerLoad_101 (by decide) rfl ?_
                  refine jr_iinc (pc := 102) h [_, _, _, _, _, _, _, _] dX1_formerLoad_102 (by decide) rfl rfl ?_
                  refine jr_goto (pc := 105) h 16 dX1_formerLoad_105 (by decide) ?_
                  refine ih _ _ _ _ (by omega) ?_ ?_ (by omega)
                  · rw [foldZ_s (by omega), ← hx]
                    unfold c_fl1
                    first | rw [if_pos (by omega)] | rw [if_neg (by omega)]
                  · have q1 := Int.ediv_nonneg (a := c_sw si 1 (c_rows ct td) * c_get td 4 i 1 + c_get td 4 i 2 - 1) (b := c_get td 4 i 2)
                    have q2 := Int.ediv_le_self (a := c_sw si 1 (c_rows ct td) * c_get td 4 i 1 + c_get td 4 i 2 - 1) (c_get td 4 i 2)
                    have g2 := mulb (A := 360) (B := 999) se (c_getr rB 4 i 1)
                    omega
              · skip
                refine jr_iload (pc := 84) h dX1_formerLoad_84 rfl ?_
                refine jr_iload_n (pc := 86) h dX1_formerLoad_86 rfl ?_
                refine jr_icmp_le (pc := 87) h 102 dX1_formerLoad_87 (by decide) (by have q1 := Int.ediv_nonneg (a := c_sw si 1 (c_rows ct td) * c_get td 4 i 1 + c_get td 4 i 2 - 1) (b := c_get td 4 i 2); have q2 := Int.ediv_le_self (a := c_sw si 1 (c_rows ct td) * c_get td 4 i 1 + c_get td 4 i 2 - 1) (c_get td 4 i 2); have g2 := mulb (A := 360) (B := 999) se (c_getr rB 4 i 1); omega) (by have q1 := Int.ediv_nonneg (a := c_sw si 1 (c_rows ct td) * c_get td 4 i 1 + c_get td 4 i 2 - 1) (b := c_get td 4 i 2); have q2 := Int.ediv_le_self (a := c_sw si 1 (c_rows ct td) * c_get td 4 i 1 + c_get td 4 i 2 - 1) (c_get td 4 i 2); have g2 := mulb (A := 360) (B := 999) se (c_getr rB 4 i 1); omega) (fun c_87 => ?_) (fun c_87 => ?_)
                · skip
                  refine jr_iinc (pc := 102) h [_, _, _, _, _, _, _, _] dX1_formerLoad_102 (by decide) rfl rfl ?_
                  refine jr_goto (pc := 105) h 16 dX1_formerLoad_105 (by decide) ?_
                  refine ih _ _ _ _ (by omega) ?_ ?_ (by omega)
                  · rw [foldZ_s (by omega), ← hx]
                    unfold c_fl1
                    first | rw [if_pos (by omega)] | rw [if_neg (by omega)]
                  · have q1 := Int.ediv_nonneg (a := c_sw si 1 (c_rows ct td) * c_get td 4 i 1 + c_get td 4 i 2 - 1) (b := c_get td 4 i 2)
                    have q2 := Int.ediv_le_self (a := c_sw si 1 (c_rows ct td) * c_get td 4 i 1 + c_get td 4 i 2 - 1) (c_get td 4 i 2)
                    have g2 := mulb (A := 360) (B := 999) se (c_getr rB 4 i 1)
                    omega
                · skip
                  refine jr_goto (pc := 90) h 99 dX1_formerLoad_90 (by decide) ?_
                  refine jr_iload (pc := 99) h dX1_formerLoad_99 rfl ?_
                  refine jr_istore_n (pc := 101) h [_, _, _, _, _, _, _, _] dX1_formerLoad_101 (by decide) rfl ?_
                  refine jr_iinc (pc := 102) h [_, _, _, _, _, _, _, _] dX1_formerLoad_102 (by decide) rfl rfl ?_
                  refine jr_goto (pc := 105) h 16 dX1_formerLoad_105 (by decide) ?_
                  refine ih _ _ _ _ (by omega) ?_ ?_ (by omega)
                  · rw [foldZ_s (by omega), ← hx]
                    unfold c_fl1
                    first | rw [if_pos (by omega)] | rw [if_neg (by omega)]
                  · have q1 := Int.ediv_nonneg (a := c_sw si 1 (c_rows ct td) * c_get td 4 i 1 + c_get td 4 i 2 - 1) (b := c_get td 4 i 2)
                    have q2 := Int.ediv_le_self (a := c_sw si 1 (c_rows ct td) * c_get td 4 i 1 + c_get td 4 i 2 - 1) (c_get td 4 i 2)
                    have g2 := mulb (A := 360) (B := 999) se (c_getr rB 4 i 1)
                    omega
  refine jr_iconst (pc := 0) h dX1_formerLoad_0 ?_
  refine jr_istore_n (pc := 1) h [_, _, _, _, _, _, _, _] dX1_formerLoad_1 (by decide) rfl ?_
  refine jr_aload_n (pc := 2) h dX1_formerLoad_2 rfl ?_
  refine jr_iconst (pc := 3) h dX1_formerLoad_3 ?_
  refine jr_aload_n (pc := 4) h dX1_formerLoad_4 rfl ?_
  refine iv_X1_67 (pc := 5) h hl hR dX1_formerLoad_5 ⟨(Nat.le_of_ble_eq_true rfl), (Nat.le_of_ble_eq_true rfl), (Nat.le_of_ble_eq_true rfl), (Nat.le_of_ble_eq_true rfl)⟩ (Nat.le_of_ble_eq_true rfl) (by assumption) (by omega) (s_X1_rows hF) (fun v_5 n_5 M_5 hn_5 hp => ?_)
  obtain ⟨⟨rfl, rfl, rfl⟩, gr_5⟩ := hp
  refine iv_X1_89 (pc := 8) h hl hR dX1_formerLoad_8 ⟨(Nat.le_of_ble_eq_true rfl), (Nat.le_of_ble_eq_true rfl), (Nat.le_of_ble_eq_true rfl), (Nat.le_of_ble_eq_true rfl)⟩ (Nat.le_of_ble_eq_true rfl) (by assumption) (by omega) (s_X1_sittingWithin hF (by omega) (by omega)) (fun v_8 n_8 M_8 hn_8 hp => ?_)
  obtain ⟨⟨rfl, rfl, rfl⟩, gr_8⟩ := hp
  refine jr_istore (pc := 11) h [_, _, _, _, _, _, _, _] dX1_formerLoad_11 (by decide) rfl ?_
  refine jr_iconst (pc := 13) h dX1_formerLoad_13 ?_
  refine jr_istore (pc := 14) h [_, _, _, _, _, _, _, _] dX1_formerLoad_14 (by decide) rfl ?_
  exact loop _ _ _ _ _ (by omega) rfl (by omega) (Nat.lt_succ_self _)
set_option maxHeartbeats 2000000 in
set_option maxRecDepth 20000 in
theorem s_X1_lackingMeetingAt {l : Launch} {n : Nat} {M : jdM} {f : Nat} {ct td bk si ld : Nat → Int} (hF : Fl M n f ct td bk si ld) {a : Int} (ha : 0 ≤ a ∧ a ≤ 500) : Ct l yX1_lackingMeetingAt cX1_lackingMeetingAt 7 (some .int) rX1_lackingMeetingAt [.ref f, jI a] n M (fun vv n' M' => (vv = some (jI (c_lack ct td si ld a)) ∧ n = n' ∧ M = M') ∧ (0) ≤ (c_lack ct td si ld a) ∧ (c_lack ct td si ld a) ≤ 10000) := by
  refine Ct_of [some (.ref f), some (jI a), none, none, none, none, none] (by decide) (Nat.le_of_ble_eq_true rfl) rfl (fun κ hl h hR hRt hmn hn0 => ?_)
  have h : Ok κ RX1 cX1_lackingMeetingAt 7 (some .int) := h
  obtain ⟨hn, hO, hA, hB, hC, hD, hE, rA, rB, r0, rC, rD, rE⟩ := id hF
  have a5 := rA 5
  have loop : ∀ (dq : Nat) (x t : Int) (u : Option Value) (u1 : Option Value) (u2 : Option Value), (0 ≤ t ∧ t ≤ ct 5) → (x = sumZ (fun t => c_lack1 ct td si ld a t) t.toNat) → (0 ≤ x ∧ x ≤ 1000 * t) → (8 - t).toNat < dq → J κ 7 0 0 n 4 [some (.ref f), some (jI a), some (jI x), some (jI t), u, u1, u2] [] M := by
    intro dq
    induction dq with
    | zero => intro x t u u1 u2 hi hx hb2 hd; omega
    | succ dq ih =>
      intro x t u u1 u2 hi hx hb2 hd
      refine jr_iload_n (pc := 4) h dX1_lackingMeetingAt_4 rfl ?_
      refine jr_aload_n (pc := 5) h dX1_lackingMeetingAt_5 rfl ?_
      refine gf_X1_9 (pc := 6) h dX1_lackingMeetingAt_6 (by assumption) (by omega) ?_
      refine jr_iconst (pc := 9) h dX1_lackingMeetingAt_9 ?_
      refine jr_ialdc (pc := 10) h (5 : Nat) rfl dX1_lackingMeetingAt_10 (by assumption) (by omega) (by decide) ?_
      refine jr_icmp_ge (pc := 11) h 103 dX1_lackingMeetingAt_11 (by decide) (by omega) (by omega) (fun c_11 => ?_) (fun c_11 => ?_)
      · skip
        refine jr_iload_n (pc := 103) h dX1_lackingMeetingAt_103 rfl ?_
        refine jr_iret (pc := 104) h hRt dX1_lackingMeetingAt_104 rfl (Nat.le_of_ble_eq_true rfl) (Nat.le_of_ble_eq_true rfl) ?_
        have e : t = ct 5 := by omega
        refine ⟨⟨ji_c ?_, rfl, rfl⟩, ?_⟩
        · rw [hx, e]; rfl
        · unfold c_lack; rw [← e, ← hx]; omega
      · skip
        refine jr_aload_n (pc := 14) h dX1_lackingMeetingAt_14 rfl ?_
        refine gf_X1_9 (pc := 15) h dX1_lackingMeetingAt_15 (by assumption) (by omega) ?_
        refine jr_iconst (pc := 18) h dX1_lackingMeetingAt_18 ?_
        refine jr_ialdc (pc := 19) h (5 : Nat) rfl dX1_lackingMeetingAt_19 (by assumption) (by omega) (by decide) ?_
        refine jr_iconst (pc := 20) h dX1_lackingMeetingAt_20 ?_
        refine jr_icmp_ge (pc := 21) h 28 dX1_lackingMeetingAt_21 (by decide) (by omega) (by omega) (fun c_21 => ?_) (fun c_21 => ?_)
        · skip
          refine jr_iconst (pc := 28) h dX1_lackingMeetingAt_28 ?_
          refine jr_istore (pc := 29) h [_, _, _, _, _, _, _] dX1_lackingMeetingAt_29 (by decide) rfl ?_
          refine jr_iload (pc := 31) h dX1_lackingMeetingAt_31 rfl ?_
          refine jr_if_ne (pc := 33) h 44 dX1_lackingMeetingAt_33 (by decide) (by omega) (fun c_33 => ?_) (fun c_33 => ?_)
          · skip
            refine jr_iconst (pc := 44) h dX1_lackingMeetingAt_44 ?_
            refine jr_goto (pc := 45) h 51 dX1_lackingMeetingAt_45 (by decide) ?_
            refine jr_istore (pc := 51) h [_, _, _, _, _, _, _] dX1_lackingMeetingAt_51 (by decide) rfl ?_
            refine jr_iload (pc := 53) h dX1_lackingMeetingAt_53 rfl ?_
            refine jr_if_ne (pc := 55) h 66 dX1_lackingMeetingAt_55 (by decide) (by omega) (fun c_55 => ?_) (fun c_55 => ?_)
            · skip
              refine jr_aload_n (pc := 66) h dX1_lackingMeetingAt_66 rfl ?_
              refine iv_X1_67 (pc := 67) h hl hR dX1_lackingMeetingAt_67 ⟨(Nat.le_of_ble_eq_true rfl), (Nat.le_of_ble_eq_true rfl), (Nat.le_of_ble_eq_true rfl), (Nat.le_of_ble_eq_true rfl)⟩ (Nat.le_of_ble_eq_true rfl) (by assumption) (by omega) (s_X1_rows hF) (fun v_67 n_67 M_67 hn_67 hp => ?_)
              obtain ⟨⟨rfl, rfl, rfl⟩, gr_67⟩ := hp
              refine jr_goto (pc := 70) h 74 dX1_lackingMeetingAt_70 (by decide) ?_
              refine jr_istore (pc := 74) h [_, _, _, _, _, _, _] dX1_lackingMeetingAt_74 (by decide) rfl ?_
              refine jr_iload_n (pc := 76) h dX1_lackingMeetingAt_76 rfl ?_
              refine jr_iconst (pc := 77) h dX1_lackingMeetingAt_77 ?_
              refine jr_aload_n (pc := 78) h dX1_lackingMeetingAt_78 rfl ?_
              refine jr_iload (pc := 79) h dX1_lackingMeetingAt_79 rfl ?_
              refine jr_iload (pc := 81) h dX1_lackingMeetingAt_81 rfl ?_
              refine iv_X1_89 (pc := 83) h hl hR dX1_lackingMeetingAt_83 ⟨(Nat.le_of_ble_eq_true rfl), (Nat.le_of_ble_eq_true rfl), (Nat.le_of_ble_eq_true rfl), (Nat.le_of_ble_eq_true rfl)⟩ (Nat.le_of_ble_eq_true rfl) (by assumption) (by omega) (s_X1_sittingWithin hF (by omega) (by omega)) (fun v_83 n_83 M_83 hn_83 hp => ?_)
              obtain ⟨⟨rfl, rfl, rfl⟩, gr_83⟩ := hp
              refine jr_aload_n (pc := 86) h dX1_lackingMeetingAt_86 rfl ?_
              refine jr_iload_n (pc := 87) h dX1_lackingMeetingAt_87 rfl ?_
              refine iv_X1_98 (pc := 88) h hl hR dX1_lackingMeetingAt_88 ⟨(Nat.le_of_ble_eq_true rfl), (Nat.le_of_ble_eq_true rfl), (Nat.le_of_ble_eq_true rfl), (Nat.le_of_ble_eq_true rfl)⟩ (Nat.le_of_ble_eq_true rfl) (by assumption) (by omega) (s_X1_loadOfTrolley hF (by omega)) (fun v_88 n_88 M_88 hn_88 hp => ?_)
              obtain ⟨⟨rfl, rfl, rfl⟩, gr_88⟩ := hp
              refine jr_isub (pc := 91) h dX1_lackingMeetingAt_91 ?_
              refine im_X1_58 (pc := 92) h hR dX1_lackingMeetingAt_92 ⟨(Nat.le_of_ble_eq_true rfl), (Nat.le_of_ble_eq_true rfl), (Nat.le_of_ble_eq_true rfl), (Nat.le_of_ble_eq_true rfl)⟩ (by omega) (by omega) ?_
              refine jr_iadd (pc := 95) h dX1_lackingMeetingAt_95 ?_
              refine jr_istore_n (pc := 96) h [_, _, _, _, _, _, _] dX1_lackingMeetingAt_96 (by decide) rfl ?_
              refine jr_iinc (pc := 97) h [_, _, _, _, _, _, _] dX1_lackingMeetingAt_97 (by decide) rfl rfl ?_
              refine jr_goto (pc := 100) h 4 dX1_lackingMeetingAt_100 (by decide) ?_
              refine ih _ _ _ _ _ (by omega) ?_ (by omega) (by omega)
              rw [sumZ_s (by omega), hx]
              congr 1
              have b0 := bz_0 (P := c_get td 5 t 0 = 0)
              first
                | (exfalso; omega)
                | (unfold c_lack1; (first | rw [if_pos (by omega)] | rw [if_neg (by omega)]); (first | rw [if_pos (by omega)] | rw [if_neg (by omega)]))
            · skip
              refine jr_aload_n (pc := 58) h dX1_lackingMeetingAt_58 rfl ?_
              refine jr_iload_n (pc := 59) h dX1_lackingMeetingAt_59 rfl ?_
              refine iv_X1_95 (pc := 60) h hl hR dX1_lackingMeetingAt_60 ⟨(Nat.le_of_ble_eq_true rfl), (Nat.le_of_ble_eq_true rfl), (Nat.le_of_ble_eq_true rfl), (Nat.le_of_ble_eq_true rfl)⟩ (Nat.le_of_ble_eq_true rfl) (by assumption) (by omega) (s_X1_isFront hF (by omega)) (fun v_60 n_60 M_60 hn_60 hp => ?_)
              obtain ⟨⟨rfl, rfl, rfl⟩, gr_60⟩ := hp
              refine jr_if_ne (pc := 63) h 73 dX1_lackingMeetingAt_63 (by decide) (by omega) (fun c_63 => ?_) (fun c_63 => ?_)
              · skip
                refine jr_iload_n (pc := 73) h dX1_lackingMeetingAt_73 rfl ?_
                refine jr_istore (pc := 74) h [_, _, _, _, _, _, _] dX1_lackingMeetingAt_74 (by decide) rfl ?_
                refine jr_iload_n (pc := 76) h dX1_lackingMeetingAt_76 rfl ?_
                refine jr_iconst (pc := 77) h dX1_lackingMeetingAt_77 ?_
                refine jr_aload_n (pc := 78) h dX1_lackingMeetingAt_78 rfl ?_
                refine jr_iload (pc := 79) h dX1_lackingMeetingAt_79 rfl ?_
                refine jr_iload (pc := 81) h dX1_lackingMeetingAt_81 rfl ?_
                refine iv_X1_89 (pc := 83) h hl hR dX1_lackingMeetingAt_83 ⟨(Nat.le_of_ble_eq_true rfl), (Nat.le_of_ble_eq_true rfl), (Nat.le_of_ble_eq_true rfl), (Nat.le_of_ble_eq_true rfl)⟩ (Nat.le_of_ble_eq_true rfl) (by assumption) (by omega) (s_X1_sittingWithin hF (by omega) (by omega)) (fun v_83 n_83 M_83 hn_83 hp => ?_)
                obtain ⟨⟨rfl, rfl, rfl⟩, gr_83⟩ := hp
                refine jr_aload_n (pc := 86) h dX1_lackingMeetingAt_86 rfl ?_
                refine jr_iload_n (pc := 87) h dX1_lackingMeetingAt_87 rfl ?_
                refine iv_X1_98 (pc := 88) h hl hR dX1_lackingMeetingAt_88 ⟨(Nat.le_of_ble_eq_true rfl), (Nat.le_of_ble_eq_true rfl), (Nat.le_of_ble_eq_true rfl), (Nat.le_of_ble_eq_true rfl)⟩ (Nat.le_of_ble_eq_true rfl) (by assumption) (by omega) (s_X1_loadOfTrolley hF (by omega)) (fun v_88 n_88 M_88 hn_88 hp => ?_)
                obtain ⟨⟨rfl, rfl, rfl⟩, gr_88⟩ := hp
                refine jr_isub (pc := 91) h dX1_lackingMeetingAt_91 ?_
                refine im_X1_58 (pc := 92) h hR dX1_lackingMeetingAt_92 ⟨(Nat.le_of_ble_eq_true rfl), (Nat.le_of_ble_eq_true rfl), (Nat.le_of_ble_eq_true rfl), (Nat.le_of_ble_eq_true rfl)⟩ (by omega) (by omega) ?_
                refine jr_iadd (pc := 95) h dX1_lackingMeetingAt_95 ?_
                refine jr_istore_n (pc := 96) h [_, _, _, _, _, _, _] dX1_lackingMeetingAt_96 (by decide) rfl ?_
                refine jr_iinc (pc := 97) h [_, _, _, _, _, _, _] dX1_lackingMeetingAt_97 (by decide) rfl rfl ?_
                refine jr_goto (pc := 100) h 4 dX1_lackingMeetingAt_100 (by decide) ?_
                refine ih _ _ _ _ _ (by omega) ?_ (by omega) (by omega)
                rw [sumZ_s (by omega), hx]
                congr 1
                have b0 := bz_0 (P := c_get td 5 t 0 = 0)
                first
                  | (exfalso; omega)
                  | (unfold c_lack1; (first | rw [if_pos (by omega)] | rw [if_neg (by omega)]); (first | rw [if_pos (by omega)] | rw [if_neg (by omega)]))
              · skip
                refine jr_aload_n (pc := 66) h dX1_lackingMeetingAt_66 rfl ?_
                refine iv_X1_67 (pc := 67) h hl hR dX1_lackingMeetingAt_67 ⟨(Nat.le_of_ble_eq_true rfl), (Nat.le_of_ble_eq_true rfl), (Nat.le_of_ble_eq_true rfl), (Nat.le_of_ble_eq_true rfl)⟩ (Nat.le_of_ble_eq_true rfl) (by assumption) (by omega) (s_X1_rows hF) (fun v_67 n_67 M_67 hn_67 hp => ?_)
                obtain ⟨⟨rfl, rfl, rfl⟩, gr_67⟩ := hp
                refine jr_goto (pc := 70) h 74 dX1_lackingMeetingAt_70 (by decide) ?_
                refine jr_istore (pc := 74) h [_, _, _, _, _, _, _] dX1_lackingMeetingAt_74 (by decide) rfl ?_
                refine jr_iload_n (pc := 76) h dX1_lackingMeetingAt_76 rfl ?_
                refine jr_iconst (pc := 77) h dX1_lackingMeetingAt_77 ?_
                refine jr_aload_n (pc := 78) h dX1_lackingMeetingAt_78 rfl ?_
                refine jr_iload (pc := 79) h dX1_lackingMeetingAt_79 rfl ?_
                refine jr_iload (pc := 81) h dX1_lackingMeetingAt_81 rfl ?_
                refine iv_X1_89 (pc := 83) h hl hR dX1_lackingMeetingAt_83 ⟨(Nat.le_of_ble_eq_true rfl), (Nat.le_of_ble_eq_true rfl), (Nat.le_of_ble_eq_true rfl), (Nat.le_of_ble_eq_true rfl)⟩ (Nat.le_of_ble_eq_true rfl) (by assumption) (by omega) (s_X1_sittingWithin hF (by omega) (by omega)) (fun v_83 n_83 M_83 hn_83 hp => ?_)
                obtain ⟨⟨rfl, rfl, rfl⟩, gr_83⟩ := hp
                refine jr_aload_n (pc := 86) h dX1_lackingMeetingAt_86 rfl ?_
                refine jr_iload_n (pc := 87) h dX1_lackingMeetingAt_87 rfl ?_
                refine iv_X1_98 (pc := 88) h hl hR dX1_lackingMeetingAt_88 ⟨(Nat.le_of_ble_eq_true rfl), (Nat.le_of_ble_eq_true rfl), (Nat.le_of_ble_eq_true rfl), (Nat.le_of_ble_eq_true rfl)⟩ (Nat.le_of_ble_eq_true rfl) (by assumption) (by omega) (s_X1_loadOfTrolley hF (by omega)) (fun v_88 n_88 M_88 hn_88 hp => ?_)
                obtain ⟨⟨rfl, rfl, rfl⟩, gr_88⟩ := hp
                refine jr_isub (pc := 91) h dX1_lackingMeetingAt_91 ?_
                refine im_X1_58 (pc := 92) h hR dX1_lackingMeetingAt_92 ⟨(Nat.le_of_ble_eq_true rfl), (Nat.le_of_ble_eq_true rfl), (Nat.le_of_ble_eq_true rfl), (Nat.le_of_ble_eq_true rfl)⟩ (by omega) (by omega) ?_
                refine jr_iadd (pc := 95) h dX1_lackingMeetingAt_95 ?_
                refine jr_istore_n (pc := 96) h [_, _, _, _, _, _, _] dX1_lackingMeetingAt_96 (by decide) rfl ?_
                refine jr_iinc (pc := 97) h [_, _, _, _, _, _, _] dX1_lackingMeetingAt_97 (by decide) rfl rfl ?_
                refine jr_goto (pc := 100) h 4 dX1_lackingMeetingAt_100 (by decide) ?_
                refine ih _ _ _ _ _ (by omega) ?_ (by omega) (by omega)
                rw [sumZ_s (by omega), hx]
                congr 1
                have b0 := bz_0 (P := c_get td 5 t 0 = 0)
                first
                  | (exfalso; omega)
                  | (unfold c_lack1; (first | rw [if_pos (by omega)] | rw [if_neg (by omega)]); (first | rw [if_pos (by omega)] | rw [if_neg (by omega)]))
          · skip
            refine jr_aload_n (pc := 36) h dX1_lackingMeetingAt_36 rfl ?_
            refine jr_iload_n (pc := 37) h dX1_lackingMeetingAt_37 rfl ?_
            refine iv_X1_95 (pc := 38) h hl hR dX1_lackingMeetingAt_38 ⟨(Nat.le_of_ble_eq_true rfl), (Nat.le_of_ble_eq_true rfl), (Nat.le_of_ble_eq_true rfl), (Nat.le_of_ble_eq_true rfl)⟩ (Nat.le_of_ble_eq_true rfl) (by assumption) (by omega) (s_X1_isFront hF (by omega)) (fun v_38 n_38 M_38 hn_38 hp => ?_)
            obtain ⟨⟨rfl, rfl, rfl⟩, gr_38⟩ := hp
            refine jr_if_eq (pc := 41) h 48 dX1_lackingMeetingAt_41 (by decide) (by omega) (fun c_41 => ?_) (fun c_41 => ?_)
            · skip
              refine jr_iload_n (pc := 48) h dX1_lackingMeetingAt_48 rfl ?_
              refine jr_iconst (pc := 49) h dX1_lackingMeetingAt_49 ?_
              refine jr_iadd (pc := 50) h dX1_lackingMeetingAt_50 ?_
              refine jr_istore (pc := 51) h [_, _, _, _, _, _, _] dX1_lackingMeetingAt_51 (by decide) rfl ?_
              refine jr_iload (pc := 53) h dX1_lackingMeetingAt_53 rfl ?_
              refine jr_if_ne (pc := 55) h 66 dX1_lackingMeetingAt_55 (by decide) (by omega) (fun c_55 => ?_) (fun c_55 => ?_)
              · skip
                refine jr_aload_n (pc := 66) h dX1_lackingMeetingAt_66 rfl ?_
                refine iv_X1_67 (pc := 67) h hl hR dX1_lackingMeetingAt_67 ⟨(Nat.le_of_ble_eq_true rfl), (Nat.le_of_ble_eq_true rfl), (Nat.le_of_ble_eq_true rfl), (Nat.le_of_ble_eq_true rfl)⟩ (Nat.le_of_ble_eq_true rfl) (by assumption) (by omega) (s_X1_rows hF) (fun v_67 n_67 M_67 hn_67 hp => ?_)
                obtain ⟨⟨rfl, rfl, rfl⟩, gr_67⟩ := hp
                refine jr_goto (pc := 70) h 74 dX1_lackingMeetingAt_70 (by decide) ?_
                refine jr_istore (pc := 74) h [_, _, _, _, _, _, _] dX1_lackingMeetingAt_74 (by decide) rfl ?_
                refine jr_iload_n (pc := 76) h dX1_lackingMeetingAt_76 rfl ?_
                refine jr_iconst (pc := 77) h dX1_lackingMeetingAt_77 ?_
                refine jr_aload_n (pc := 78) h dX1_lackingMeetingAt_78 rfl ?_
                refine jr_iload (pc := 79) h dX1_lackingMeetingAt_79 rfl ?_
                refine jr_iload (pc := 81) h dX1_lackingMeetingAt_81 rfl ?_
                refine iv_X1_89 (pc := 83) h hl hR dX1_lackingMeetingAt_83 ⟨(Nat.le_of_ble_eq_true rfl), (Nat.le_of_ble_eq_true rfl), (Nat.le_of_ble_eq_true rfl), (Nat.le_of_ble_eq_true rfl)⟩ (Nat.le_of_ble_eq_true rfl) (by assumption) (by omega) (s_X1_sittingWithin hF (by omega) (by omega)) (fun v_83 n_83 M_83 hn_83 hp => ?_)
                obtain ⟨⟨rfl, rfl, rfl⟩, gr_83⟩ := hp
                refine jr_aload_n (pc := 86) h dX1_lackingMeetingAt_86 rfl ?_
                refine jr_iload_n (pc := 87) h dX1_lackingMeetingAt_87 rfl ?_
                refine iv_X1_98 (pc := 88) h hl hR dX1_lackingMeetingAt_88 ⟨(Nat.le_of_ble_eq_true rfl), (Nat.le_of_ble_eq_true rfl), (Nat.le_of_ble_eq_true rfl), (Nat.le_of_ble_eq_true rfl)⟩ (Nat.le_of_ble_eq_true rfl) (by assumption) (by omega) (s_X1_loadOfTrolley hF (by omega)) (fun v_88 n_88 M_88 hn_88 hp => ?_)
                obtain ⟨⟨rfl, rfl, rfl⟩, gr_88⟩ := hp
                refine jr_isub (pc := 91) h dX1_lackingMeetingAt_91 ?_
                refine im_X1_58 (pc := 92) h hR dX1_lackingMeetingAt_92 ⟨(Nat.le_of_ble_eq_true rfl), (Nat.le_of_ble_eq_true rfl), (Nat.le_of_ble_eq_true rfl), (Nat.le_of_ble_eq_true rfl)⟩ (by omega) (by omega) ?_
                refine jr_iadd (pc := 95) h dX1_lackingMeetingAt_95 ?_
                refine jr_istore_n (pc := 96) h [_, _, _, _, _, _, _] dX1_lackingMeetingAt_96 (by decide) rfl ?_
                refine jr_iinc (pc := 97) h [_, _, _, _, _, _, _] dX1_lackingMeetingAt_97 (by decide) rfl rfl ?_
                refine jr_goto (pc := 100) h 4 dX1_lackingMeetingAt_100 (by decide) ?_
                refine ih _ _ _ _ _ (by omega) ?_ (by omega) (by omega)
                rw [sumZ_s (by omega), hx]
                congr 1
                have b0 := bz_0 (P := c_get td 5 t 0 = 0)
                first
                  | (exfalso; omega)
                  | (unfold c_lack1; (first | rw [if_pos (by omega)] | rw [if_neg (by omega)]); (first | rw [if_pos (by omega)] | rw [if_neg (by omega)]))
              · skip
                refine jr_aload_n (pc := 58) h dX1_lackingMeetingAt_58 rfl ?_
                refine jr_iload_n (pc := 59) h dX1_lackingMeetingAt_59 rfl ?_
                refine iv_X1_95 (pc := 60) h hl hR dX1_lackingMeetingAt_60 ⟨(Nat.le_of_ble_eq_true rfl), (Nat.le_of_ble_eq_true rfl), (Nat.le_of_ble_eq_true rfl), (Nat.le_of_ble_eq_true rfl)⟩ (Nat.le_of_ble_eq_true rfl) (by assumption) (by omega) (s_X1_isFront hF (by omega)) (fun v_60 n_60 M_60 hn_60 hp => ?_)
                obtain ⟨⟨rfl, rfl, rfl⟩, gr_60⟩ := hp
                refine jr_if_ne (pc := 63) h 73 dX1_lackingMeetingAt_63 (by decide) (by omega) (fun c_63 => ?_) (fun c_63 => ?_)
                · skip
                  refine jr_iload_n (pc := 73) h dX1_lackingMeetingAt_73 rfl ?_
                  refine jr_istore (pc := 74) h [_, _, _, _, _, _, _] dX1_lackingMeetingAt_74 (by decide) rfl ?_
                  refine jr_iload_n (pc := 76) h dX1_lackingMeetingAt_76 rfl ?_
                  refine jr_iconst (pc := 77) h dX1_lackingMeetingAt_77 ?_
                  refine jr_aload_n (pc := 78) h dX1_lackingMeetingAt_78 rfl ?_
                  refine jr_iload (pc := 79) h dX1_lackingMeetingAt_79 rfl ?_
                  refine jr_iload (pc := 81) h dX1_lackingMeetingAt_81 rfl ?_
                  refine iv_X1_89 (pc := 83) h hl hR dX1_lackingMeetingAt_83 ⟨(Nat.le_of_ble_eq_true rfl), (Nat.le_of_ble_eq_true rfl), (Nat.le_of_ble_eq_true rfl), (Nat.le_of_ble_eq_true rfl)⟩ (Nat.le_of_ble_eq_true rfl) (by assumption) (by omega) (s_X1_sittingWithin hF (by omega) (by omega)) (fun v_83 n_83 M_83 hn_83 hp => ?_)
                  obtain ⟨⟨rfl, rfl, rfl⟩, gr_83⟩ := hp
                  refine jr_aload_n (pc := 86) h dX1_lackingMeetingAt_86 rfl ?_
                  refine jr_iload_n (pc := 87) h dX1_lackingMeetingAt_87 rfl ?_
                  refine iv_X1_98 (pc := 88) h hl hR dX1_lackingMeetingAt_88 ⟨(Nat.le_of_ble_eq_true rfl), (Nat.le_of_ble_eq_true rfl), (Nat.le_of_ble_eq_true rfl), (Nat.le_of_ble_eq_true rfl)⟩ (Nat.le_of_ble_eq_true rfl) (by assumption) (by omega) (s_X1_loadOfTrolley hF (by omega)) (fun v_88 n_88 M_88 hn_88 hp => ?_)
                  obtain ⟨⟨rfl, rfl, rfl⟩, gr_88⟩ := hp
                  refine jr_isub (pc := 91) h dX1_lackingMeetingAt_91 ?_
                  refine im_X1_58 (pc := 92) h hR dX1_lackingMeetingAt_92 ⟨(Nat.le_of_ble_eq_true rfl), (Nat.le_of_ble_eq_true rfl), (Nat.le_of_ble_eq_true rfl), (Nat.le_of_ble_eq_true rfl)⟩ (by omega) (by omega) ?_
                  refine jr_iadd (pc := 95) h dX1_lackingMeetingAt_95 ?_
                  refine jr_istore_n (pc := 96) h [_, _, _, _, _, _, _] dX1_lackingMeetingAt_96 (by decide) rfl ?_
                  refine jr_iinc (pc := 97) h [_, _, _, _, _, _, _] dX1_lackingMeetingAt_97 (by decide) rfl rfl ?_
                  refine jr_goto (pc := 100) h 4 dX1_lackingMeetingAt_100 (by decide) ?_
                  refine ih _ _ _ _ _ (by omega) ?_ (by omega) (by omega)
                  rw [sumZ_s (by omega), hx]
                  congr 1
                  have b0 := bz_0 (P := c_get td 5 t 0 = 0)
                  first
                    | (exfalso; omega)
                    | (unfold c_lack1; (first | rw [if_pos (by omega)] | rw [if_neg (by omega)]); (first | rw [if_pos (by omega)] | rw [if_neg (by omega)]))
                · skip
                  refine jr_aload_n (pc := 66) h dX1_lackingMeetingAt_66 rfl ?_
                  refine iv_X1_67 (pc := 67) h hl hR dX1_lackingMeetingAt_67 ⟨(Nat.le_of_ble_eq_true rfl), (Nat.le_of_ble_eq_true rfl), (Nat.le_of_ble_eq_true rfl), (Nat.le_of_ble_eq_true rfl)⟩ (Nat.le_of_ble_eq_true rfl) (by assumption) (by omega) (s_X1_rows hF) (fun v_67 n_67 M_67 hn_67 hp => ?_)
                  obtain ⟨⟨rfl, rfl, rfl⟩, gr_67⟩ := hp
                  refine jr_goto (pc := 70) h 74 dX1_lackingMeetingAt_70 (by decide) ?_
                  refine jr_istore (pc := 74) h [_, _, _, _, _, _, _] dX1_lackingMeetingAt_74 (by decide) rfl ?_
                  refine jr_iload_n (pc := 76) h dX1_lackingMeetingAt_76 rfl ?_
                  refine jr_iconst (pc := 77) h dX1_lackingMeetingAt_77 ?_
                  refine jr_aload_n (pc := 78) h dX1_lackingMeetingAt_78 rfl ?_
                  refine jr_iload (pc := 79) h dX1_lackingMeetingAt_79 rfl ?_
                  refine jr_iload (pc := 81) h dX1_lackingMeetingAt_81 rfl ?_
                  refine iv_X1_89 (pc := 83) h hl hR dX1_lackingMeetingAt_83 ⟨(Nat.le_of_ble_eq_true rfl), (Nat.le_of_ble_eq_true rfl), (Nat.le_of_ble_eq_true rfl), (Nat.le_of_ble_eq_true rfl)⟩ (Nat.le_of_ble_eq_true rfl) (by assumption) (by omega) (s_X1_sittingWithin hF (by omega) (by omega)) (fun v_83 n_83 M_83 hn_83 hp => ?_)
                  obtain ⟨⟨rfl, rfl, rfl⟩, gr_83⟩ := hp
                  refine jr_aload_n (pc := 86) h dX1_lackingMeetingAt_86 rfl ?_
                  refine jr_iload_n (pc := 87) h dX1_lackingMeetingAt_87 rfl ?_
                  refine iv_X1_98 (pc := 88) h hl hR dX1_lackingMeetingAt_88 ⟨(Nat.le_of_ble_eq_true rfl), (Nat.le_of_ble_eq_true rfl), (Nat.le_of_ble_eq_true rfl), (Nat.le_of_ble_eq_true rfl)⟩ (Nat.le_of_ble_eq_true rfl) (by assumption) (by omega) (s_X1_loadOfTrolley hF (by omega)) (fun v_88 n_88 M_88 hn_88 hp => ?_)
                  obtain ⟨⟨rfl, rfl, rfl⟩, gr_88⟩ := hp
                  refine jr_isub (pc := 91) h dX1_lackingMeetingAt_91 ?_
                  refine im_X1_58 (pc := 92) h hR dX1_lackingMeetingAt_92 ⟨(Nat.le_of_ble_eq_true rfl), (Nat.le_of_ble_eq_true rfl), (Nat.le_of_ble_eq_true rfl), (Nat.le_of_ble_eq_true rfl)⟩ (by omega) (by omega) ?_
                  refine jr_iadd (pc := 95) h dX1_lackingMeetingAt_95 ?_
                  refine jr_istore_n (pc := 96) h [_, _, _, _, _, _, _] dX1_lackingMeetingAt_96 (by decide) rfl ?_
                  refine jr_iinc (pc := 97) h [_, _, _, _, _, _, _] dX1_lackingMeetingAt_97 (by decide) rfl rfl ?_
                  refine jr_goto (pc := 100) h 4 dX1_lackingMeetingAt_100 (by decide) ?_
                  refine ih _ _ _ _ _ (by omega) ?_ (by omega) (by omega)
                  rw [sumZ_s (by omega), hx]
                  congr 1
                  have b0 := bz_0 (P := c_get td 5 t 0 = 0)
                  first
                    | (exfalso; omega)
                    | (unfold c_lack1; (first | rw [if_pos (by omega)] | rw [if_neg (by omega)]); (first | rw [if_pos (by omega)] | rw [if_neg (by omega)]))
            · skip
              refine jr_iconst (pc := 44) h dX1_lackingMeetingAt_44 ?_
              refine jr_goto (pc := 45) h 51 dX1_lackingMeetingAt_45 (by decide) ?_
              refine jr_istore (pc := 51) h [_, _, _, _, _, _, _] dX1_lackingMeetingAt_51 (by decide) rfl ?_
              refine jr_iload (pc := 53) h dX1_lackingMeetingAt_53 rfl ?_
              refine jr_if_ne (pc := 55) h 66 dX1_lackingMeetingAt_55 (by decide) (by omega) (fun c_55 => ?_) (fun c_55 => ?_)
              · skip
                refine jr_aload_n (pc := 66) h dX1_lackingMeetingAt_66 rfl ?_
                refine iv_X1_67 (pc := 67) h hl hR dX1_lackingMeetingAt_67 ⟨(Nat.le_of_ble_eq_true rfl), (Nat.le_of_ble_eq_true rfl), (Nat.le_of_ble_eq_true rfl), (Nat.le_of_ble_eq_true rfl)⟩ (Nat.le_of_ble_eq_true rfl) (by assumption) (by omega) (s_X1_rows hF) (fun v_67 n_67 M_67 hn_67 hp => ?_)
                obtain ⟨⟨rfl, rfl, rfl⟩, gr_67⟩ := hp
                refine jr_goto (pc := 70) h 74 dX1_lackingMeetingAt_70 (by decide) ?_
                refine jr_istore (pc := 74) h [_, _, _, _, _, _, _] dX1_lackingMeetingAt_74 (by decide) rfl ?_
                refine jr_iload_n (pc := 76) h dX1_lackingMeetingAt_76 rfl ?_
                refine jr_iconst (pc := 77) h dX1_lackingMeetingAt_77 ?_
                refine jr_aload_n (pc := 78) h dX1_lackingMeetingAt_78 rfl ?_
                refine jr_iload (pc := 79) h dX1_lackingMeetingAt_79 rfl ?_
                refine jr_iload (pc := 81) h dX1_lackingMeetingAt_81 rfl ?_
                refine iv_X1_89 (pc := 83) h hl hR dX1_lackingMeetingAt_83 ⟨(Nat.le_of_ble_eq_true rfl), (Nat.le_of_ble_eq_true rfl), (Nat.le_of_ble_eq_true rfl), (Nat.le_of_ble_eq_true rfl)⟩ (Nat.le_of_ble_eq_true rfl) (by assumption) (by omega) (s_X1_sittingWithin hF (by omega) (by omega)) (fun v_83 n_83 M_83 hn_83 hp => ?_)
                obtain ⟨⟨rfl, rfl, rfl⟩, gr_83⟩ := hp
                refine jr_aload_n (pc := 86) h dX1_lackingMeetingAt_86 rfl ?_
                refine jr_iload_n (pc := 87) h dX1_lackingMeetingAt_87 rfl ?_
                refine iv_X1_98 (pc := 88) h hl hR dX1_lackingMeetingAt_88 ⟨(Nat.le_of_ble_eq_true rfl), (Nat.le_of_ble_eq_true rfl), (Nat.le_of_ble_eq_true rfl), (Nat.le_of_ble_eq_true rfl)⟩ (Nat.le_of_ble_eq_true rfl) (by assumption) (by omega) (s_X1_loadOfTrolley hF (by omega)) (fun v_88 n_88 M_88 hn_88 hp => ?_)
                obtain ⟨⟨rfl, rfl, rfl⟩, gr_88⟩ := hp
                refine jr_isub (pc := 91) h dX1_lackingMeetingAt_91 ?_
                refine im_X1_58 (pc := 92) h hR dX1_lackingMeetingAt_92 ⟨(Nat.le_of_ble_eq_true rfl), (Nat.le_of_ble_eq_true rfl), (Nat.le_of_ble_eq_true rfl), (Nat.le_of_ble_eq_true rfl)⟩ (by omega) (by omega) ?_
                refine jr_iadd (pc := 95) h dX1_lackingMeetingAt_95 ?_
                refine jr_istore_n (pc := 96) h [_, _, _, _, _, _, _] dX1_lackingMeetingAt_96 (by decide) rfl ?_
                refine jr_iinc (pc := 97) h [_, _, _, _, _, _, _] dX1_lackingMeetingAt_97 (by decide) rfl rfl ?_
                refine jr_goto (pc := 100) h 4 dX1_lackingMeetingAt_100 (by decide) ?_
                refine ih _ _ _ _ _ (by omega) ?_ (by omega) (by omega)
                rw [sumZ_s (by omega), hx]
                congr 1
                have b0 := bz_0 (P := c_get td 5 t 0 = 0)
                first
                  | (exfalso; omega)
                  | (unfold c_lack1; (first | rw [if_pos (by omega)] | rw [if_neg (by omega)]); (first | rw [if_pos (by omega)] | rw [if_neg (by omega)]))
              · skip
                refine jr_aload_n (pc := 58) h dX1_lackingMeetingAt_58 rfl ?_
                refine jr_iload_n (pc := 59) h dX1_lackingMeetingAt_59 rfl ?_
                refine iv_X1_95 (pc := 60) h hl hR dX1_lackingMeetingAt_60 ⟨(Nat.le_of_ble_eq_true rfl), (Nat.le_of_ble_eq_true rfl), (Nat.le_of_ble_eq_true rfl), (Nat.le_of_ble_eq_true rfl)⟩ (Nat.le_of_ble_eq_true rfl) (by assumption) (by omega) (s_X1_isFront hF (by omega)) (fun v_60 n_60 M_60 hn_60 hp => ?_)
                obtain ⟨⟨rfl, rfl, rfl⟩, gr_60⟩ := hp
                refine jr_if_ne (pc := 63) h 73 dX1_lackingMeetingAt_63 (by decide) (by omega) (fun c_63 => ?_) (fun c_63 => ?_)
                · skip
                  refine jr_iload_n (pc := 73) h dX1_lackingMeetingAt_73 rfl ?_
                  refine jr_istore (pc := 74) h [_, _, _, _, _, _, _] dX1_lackingMeetingAt_74 (by decide) rfl ?_
                  refine jr_iload_n (pc := 76) h dX1_lackingMeetingAt_76 rfl ?_
                  refine jr_iconst (pc := 77) h dX1_lackingMeetingAt_77 ?_
                  refine jr_aload_n (pc := 78) h dX1_lackingMeetingAt_78 rfl ?_
                  refine jr_iload (pc := 79) h dX1_lackingMeetingAt_79 rfl ?_
                  refine jr_iload (pc := 81) h dX1_lackingMeetingAt_81 rfl ?_
                  refine iv_X1_89 (pc := 83) h hl hR dX1_lackingMeetingAt_83 ⟨(Nat.le_of_ble_eq_true rfl), (Nat.le_of_ble_eq_true rfl), (Nat.le_of_ble_eq_true rfl), (Nat.le_of_ble_eq_true rfl)⟩ (Nat.le_of_ble_eq_true rfl) (by assumption) (by omega) (s_X1_sittingWithin hF (by omega) (by omega)) (fun v_83 n_83 M_83 hn_83 hp => ?_)
                  obtain ⟨⟨rfl, rfl, rfl⟩, gr_83⟩ := hp
                  refine jr_aload_n (pc := 86) h dX1_lackingMeetingAt_86 rfl ?_
                  refine jr_iload_n (pc := 87) h dX1_lackingMeetingAt_87 rfl ?_
                  refine iv_X1_98 (pc := 88) h hl hR dX1_lackingMeetingAt_88 ⟨(Nat.le_of_ble_eq_true rfl), (Nat.le_of_ble_eq_true rfl), (Nat.le_of_ble_eq_true rfl), (Nat.le_of_ble_eq_true rfl)⟩ (Nat.le_of_ble_eq_true rfl) (by assumption) (by omega) (s_X1_loadOfTrolley hF (by omega)) (fun v_88 n_88 M_88 hn_88 hp => ?_)
                  obtain ⟨⟨rfl, rfl, rfl⟩, gr_88⟩ := hp
                  refine jr_isub (pc := 91) h dX1_lackingMeetingAt_91 ?_
                  refine im_X1_58 (pc := 92) h hR dX1_lackingMeetingAt_92 ⟨(Nat.le_of_ble_eq_true rfl), (Nat.le_of_ble_eq_true rfl), (Nat.le_of_ble_eq_true rfl), (Nat.le_of_ble_eq_true rfl)⟩ (by omega) (by omega) ?_
                  refine jr_iadd (pc := 95) h dX1_lackingMeetingAt_95 ?_
                  refine jr_istore_n (pc := 96) h [_, _, _, _, _, _, _] dX1_lackingMeetingAt_96 (by decide) rfl ?_
                  refine jr_iinc (pc := 97) h [_, _, _, _, _, _, _] dX1_lackingMeetingAt_97 (by decide) rfl rfl ?_
                  refine jr_goto (pc := 100) h 4 dX1_lackingMeetingAt_100 (by decide) ?_
                  refine ih _ _ _ _ _ (by omega) ?_ (by omega) (by omega)
                  rw [sumZ_s (by omega), hx]
                  congr 1
                  have b0 := bz_0 (P := c_get td 5 t 0 = 0)
                  first
                    | (exfalso; omega)
                    | (unfold c_lack1; (first | rw [if_pos (by omega)] | rw [if_neg (by omega)]); (first | rw [if_pos (by omega)] | rw [if_neg (by omega)]))
                · skip
                  refine jr_aload_n (pc := 66) h dX1_lackingMeetingAt_66 rfl ?_
                  refine iv_X1_67 (pc := 67) h hl hR dX1_lackingMeetingAt_67 ⟨(Nat.le_of_ble_eq_true rfl), (Nat.le_of_ble_eq_true rfl), (Nat.le_of_ble_eq_true rfl), (Nat.le_of_ble_eq_true rfl)⟩ (Nat.le_of_ble_eq_true rfl) (by assumption) (by omega) (s_X1_rows hF) (fun v_67 n_67 M_67 hn_67 hp => ?_)
                  obtain ⟨⟨rfl, rfl, rfl⟩, gr_67⟩ := hp
                  refine jr_goto (pc := 70) h 74 dX1_lackingMeetingAt_70 (by decide) ?_
                  refine jr_istore (pc := 74) h [_, _, _, _, _, _, _] dX1_lackingMeetingAt_74 (by decide) rfl ?_
                  refine jr_iload_n (pc := 76) h dX1_lackingMeetingAt_76 rfl ?_
                  refine jr_iconst (pc := 77) h dX1_lackingMeetingAt_77 ?_
                  refine jr_aload_n (pc := 78) h dX1_lackingMeetingAt_78 rfl ?_
                  refine jr_iload (pc := 79) h dX1_lackingMeetingAt_79 rfl ?_
                  refine jr_iload (pc := 81) h dX1_lackingMeetingAt_81 rfl ?_
                  refine iv_X1_89 (pc := 83) h hl hR dX1_lackingMeetingAt_83 ⟨(Nat.le_of_ble_eq_true rfl), (Nat.le_of_ble_eq_true rfl), (Nat.le_of_ble_eq_true rfl), (Nat.le_of_ble_eq_true rfl)⟩ (Nat.le_of_ble_eq_true rfl) (by assumption) (by omega) (s_X1_sittingWithin hF (by omega) (by omega)) (fun v_83 n_83 M_83 hn_83 hp => ?_)
                  obtain ⟨⟨rfl, rfl, rfl⟩, gr_83⟩ := hp
                  refine jr_aload_n (pc := 86) h dX1_lackingMeetingAt_86 rfl ?_
                  refine jr_iload_n (pc := 87) h dX1_lackingMeetingAt_87 rfl ?_
                  refine iv_X1_98 (pc := 88) h hl hR dX1_lackingMeetingAt_88 ⟨(Nat.le_of_ble_eq_true rfl), (Nat.le_of_ble_eq_true rfl), (Nat.le_of_ble_eq_true rfl), (Nat.le_of_ble_eq_true rfl)⟩ (Nat.le_of_ble_eq_true rfl) (by assumption) (by omega) (s_X1_loadOfTrolley hF (by omega)) (fun v_88 n_88 M_88 hn_88 hp => ?_)
                  obtain ⟨⟨rfl, rfl, rfl⟩, gr_88⟩ := hp
                  refine jr_isub (pc := 91) h dX1_lackingMeetingAt_91 ?_
                  refine im_X1_58 (pc := 92) h hR dX1_lackingMeetingAt_92 ⟨(Nat.le_of_ble_eq_true rfl), (Nat.le_of_ble_eq_true rfl), (Nat.le_of_ble_eq_true rfl), (Nat.le_of_ble_eq_true rfl)⟩ (by omega) (by omega) ?_
                  refine jr_iadd (pc := 95) h dX1_lackingMeetingAt_95 ?_
                  refine jr_istore_n (pc := 96) h [_, _, _, _, _, _, _] dX1_lackingMeetingAt_96 (by decide) rfl ?_
                  refine jr_iinc (pc := 97) h [_, _, _, _, _, _, _] dX1_lackingMeetingAt_97 (by decide) rfl rfl ?_
                  refine jr_goto (pc := 100) h 4 dX1_lackingMeetingAt_100 (by decide) ?_
                  refine ih _ _ _ _ _ (by omega) ?_ (by omega) (by omega)
                  rw [sumZ_s (by omega), hx]
                  congr 1
                  have b0 := bz_0 (P := c_get td 5 t 0 = 0)
                  first
                    | (exfalso; omega)
                    | (unfold c_lack1; (first | rw [if_pos (by omega)] | rw [if_neg (by omega)]); (first | rw [if_pos (by omega)] | rw [if_neg (by omega)]))
        · skip
          refine jr_iconst (pc := 24) h dX1_lackingMeetingAt_24 ?_
          refine jr_goto (pc := 25) h 29 dX1_lackingMeetingAt_25 (by decide) ?_
          refine jr_istore (pc := 29) h [_, _, _, _, _, _, _] dX1_lackingMeetingAt_29 (by decide) rfl ?_
          refine jr_iload (pc := 31) h dX1_lackingMeetingAt_31 rfl ?_
          refine jr_if_ne (pc := 33) h 44 dX1_lackingMeetingAt_33 (by decide) (by omega) (fun c_33 => ?_) (fun c_33 => ?_)
          · skip
            refine jr_iconst (pc := 44) h dX1_lackingMeetingAt_44 ?_
            refine jr_goto (pc := 45) h 51 dX1_lackingMeetingAt_45 (by decide) ?_
            refine jr_istore (pc := 51) h [_, _, _, _, _, _, _] dX1_lackingMeetingAt_51 (by decide) rfl ?_
            refine jr_iload (pc := 53) h dX1_lackingMeetingAt_53 rfl ?_
            refine jr_if_ne (pc := 55) h 66 dX1_lackingMeetingAt_55 (by decide) (by omega) (fun c_55 => ?_) (fun c_55 => ?_)
            · skip
              refine jr_aload_n (pc := 66) h dX1_lackingMeetingAt_66 rfl ?_
              refine iv_X1_67 (pc := 67) h hl hR dX1_lackingMeetingAt_67 ⟨(Nat.le_of_ble_eq_true rfl), (Nat.le_of_ble_eq_true rfl), (Nat.le_of_ble_eq_true rfl), (Nat.le_of_ble_eq_true rfl)⟩ (Nat.le_of_ble_eq_true rfl) (by assumption) (by omega) (s_X1_rows hF) (fun v_67 n_67 M_67 hn_67 hp => ?_)
              obtain ⟨⟨rfl, rfl, rfl⟩, gr_67⟩ := hp
              refine jr_goto (pc := 70) h 74 dX1_lackingMeetingAt_70 (by decide) ?_
              refine jr_istore (pc := 74) h [_, _, _, _, _, _, _] dX1_lackingMeetingAt_74 (by decide) rfl ?_
              refine jr_iload_n (pc := 76) h dX1_lackingMeetingAt_76 rfl ?_
              refine jr_iconst (pc := 77) h dX1_lackingMeetingAt_77 ?_
              refine jr_aload_n (pc := 78) h dX1_lackingMeetingAt_78 rfl ?_
              refine jr_iload (pc := 79) h dX1_lackingMeetingAt_79 rfl ?_
              refine jr_iload (pc := 81) h dX1_lackingMeetingAt_81 rfl ?_
              refine iv_X1_89 (pc := 83) h hl hR dX1_lackingMeetingAt_83 ⟨(Nat.le_of_ble_eq_true rfl), (Nat.le_of_ble_eq_true rfl), (Nat.le_of_ble_eq_true rfl), (Nat.le_of_ble_eq_true rfl)⟩ (Nat.le_of_ble_eq_true rfl) (by assumption) (by omega) (s_X1_sittingWithin hF (by omega) (by omega)) (fun v_83 n_83 M_83 hn_83 hp => ?_)
              obtain ⟨⟨rfl, rfl, rfl⟩, gr_83⟩ := hp
              refine jr_aload_n (pc := 86) h dX1_lackingMeetingAt_86 rfl ?_
              refine jr_iload_n (pc := 87) h dX1_lackingMeetingAt_87 rfl ?_
              refine iv_X1_98 (pc := 88) h hl hR dX1_lackingMeetingAt_88 ⟨(Nat.le_of_ble_eq_true rfl), (Nat.le_of_ble_eq_true rfl), (Nat.le_of_ble_eq_true rfl), (Nat.le_of_ble_eq_true rfl)⟩ (Nat.le_of_ble_eq_true rfl) (by assumption) (by omega) (s_X1_loadOfTrolley hF (by omega)) (fun v_88 n_88 M_88 hn_88 hp => ?_)
              obtain ⟨⟨rfl, rfl, rfl⟩, gr_88⟩ := hp
              refine jr_isub (pc := 91) h dX1_lackingMeetingAt_91 ?_
              refine im_X1_58 (pc := 92) h hR dX1_lackingMeetingAt_92 ⟨(Nat.le_of_ble_eq_true rfl), (Nat.le_of_ble_eq_true rfl), (Nat.le_of_ble_eq_true rfl), (Nat.le_of_ble_eq_true rfl)⟩ (by omega) (by omega) ?_
              refine jr_iadd (pc := 95) h dX1_lackingMeetingAt_95 ?_
              refine jr_istore_n (pc := 96) h [_, _, _, _, _, _, _] dX1_lackingMeetingAt_96 (by decide) rfl ?_
              refine jr_iinc (pc := 97) h [_, _, _, _, _, _, _] dX1_lackingMeetingAt_97 (by decide) rfl rfl ?_
              refine jr_goto (pc := 100) h 4 dX1_lackingMeetingAt_100 (by decide) ?_
              refine ih _ _ _ _ _ (by omega) ?_ (by omega) (by omega)
              rw [sumZ_s (by omega), hx]
              congr 1
              have b0 := bz_0 (P := c_get td 5 t 0 = 0)
              first
                | (exfalso; omega)
                | (unfold c_lack1; (first | rw [if_pos (by omega)] | rw [if_neg (by omega)]); (first | rw [if_pos (by omega)] | rw [if_neg (by omega)]))
            · skip
              refine jr_aload_n (pc := 58) h dX1_lackingMeetingAt_58 rfl ?_
              refine jr_iload_n (pc := 59) h dX1_lackingMeetingAt_59 rfl ?_
              refine iv_X1_95 (pc := 60) h hl hR dX1_lackingMeetingAt_60 ⟨(Nat.le_of_ble_eq_true rfl), (Nat.le_of_ble_eq_true rfl), (Nat.le_of_ble_eq_true rfl), (Nat.le_of_ble_eq_true rfl)⟩ (Nat.le_of_ble_eq_true rfl) (by assumption) (by omega) (s_X1_isFront hF (by omega)) (fun v_60 n_60 M_60 hn_60 hp => ?_)
              obtain ⟨⟨rfl, rfl, rfl⟩, gr_60⟩ := hp
              refine jr_if_ne (pc := 63) h 73 dX1_lackingMeetingAt_63 (by decide) (by omega) (fun c_63 => ?_) (fun c_63 => ?_)
              · skip
                refine jr_iload_n (pc := 73) h dX1_lackingMeetingAt_73 rfl ?_
                refine jr_istore (pc := 74) h [_, _, _, _, _, _, _] dX1_lackingMeetingAt_74 (by decide) rfl ?_
                refine jr_iload_n (pc := 76) h dX1_lackingMeetingAt_76 rfl ?_
                refine jr_iconst (pc := 77) h dX1_lackingMeetingAt_77 ?_
                refine jr_aload_n (pc := 78) h dX1_lackingMeetingAt_78 rfl ?_
                refine jr_iload (pc := 79) h dX1_lackingMeetingAt_79 rfl ?_
                refine jr_iload (pc := 81) h dX1_lackingMeetingAt_81 rfl ?_
                refine iv_X1_89 (pc := 83) h hl hR dX1_lackingMeetingAt_83 ⟨(Nat.le_of_ble_eq_true rfl), (Nat.le_of_ble_eq_true rfl), (Nat.le_of_ble_eq_true rfl), (Nat.le_of_ble_eq_true rfl)⟩ (Nat.le_of_ble_eq_true rfl) (by assumption) (by omega) (s_X1_sittingWithin hF (by omega) (by omega)) (fun v_83 n_83 M_83 hn_83 hp => ?_)
                obtain ⟨⟨rfl, rfl, rfl⟩, gr_83⟩ := hp
                refine jr_aload_n (pc := 86) h dX1_lackingMeetingAt_86 rfl ?_
                refine jr_iload_n (pc := 87) h dX1_lackingMeetingAt_87 rfl ?_
                refine iv_X1_98 (pc := 88) h hl hR dX1_lackingMeetingAt_88 ⟨(Nat.le_of_ble_eq_true rfl), (Nat.le_of_ble_eq_true rfl), (Nat.le_of_ble_eq_true rfl), (Nat.le_of_ble_eq_true rfl)⟩ (Nat.le_of_ble_eq_true rfl) (by assumption) (by omega) (s_X1_loadOfTrolley hF (by omega)) (fun v_88 n_88 M_88 hn_88 hp => ?_)
                obtain ⟨⟨rfl, rfl, rfl⟩, gr_88⟩ := hp
                refine jr_isub (pc := 91) h dX1_lackingMeetingAt_91 ?_
                refine im_X1_58 (pc := 92) h hR dX1_lackingMeetingAt_92 ⟨(Nat.le_of_ble_eq_true rfl), (Nat.le_of_ble_eq_true rfl), (Nat.le_of_ble_eq_true rfl), (Nat.le_of_ble_eq_true rfl)⟩ (by omega) (by omega) ?_
                refine jr_iadd (pc := 95) h dX1_lackingMeetingAt_95 ?_
                refine jr_istore_n (pc := 96) h [_, _, _, _, _, _, _] dX1_lackingMeetingAt_96 (by decide) rfl ?_
                refine jr_iinc (pc := 97) h [_, _, _, _, _, _, _] dX1_lackingMeetingAt_97 (by decide) rfl rfl ?_
                refine jr_goto (pc := 100) h 4 dX1_lackingMeetingAt_100 (by decide) ?_
                refine ih _ _ _ _ _ (by omega) ?_ (by omega) (by omega)
                rw [sumZ_s (by omega), hx]
                congr 1
                have b0 := bz_0 (P := c_get td 5 t 0 = 0)
                first
                  | (exfalso; omega)
                  | (unfold c_lack1; (first | rw [if_pos (by omega)] | rw [if_neg (by omega)]); (first | rw [if_pos (by omega)] | rw [if_neg (by omega)]))
              · skip
                refine jr_aload_n (pc := 66) h dX1_lackingMeetingAt_66 rfl ?_
                refine iv_X1_67 (pc := 67) h hl hR dX1_lackingMeetingAt_67 ⟨(Nat.le_of_ble_eq_true rfl), (Nat.le_of_ble_eq_true rfl), (Nat.le_of_ble_eq_true rfl), (Nat.le_of_ble_eq_true rfl)⟩ (Nat.le_of_ble_eq_true rfl) (by assumption) (by omega) (s_X1_rows hF) (fun v_67 n_67 M_67 hn_67 hp => ?_)
                obtain ⟨⟨rfl, rfl, rfl⟩, gr_67⟩ := hp
                refine jr_goto (pc := 70) h 74 dX1_lackingMeetingAt_70 (by decide) ?_
                refine jr_istore (pc := 74) h [_, _, _, _, _, _, _] dX1_lackingMeetingAt_74 (by decide) rfl ?_
                refine jr_iload_n (pc := 76) h dX1_lackingMeetingAt_76 rfl ?_
                refine jr_iconst (pc := 77) h dX1_lackingMeetingAt_77 ?_
                refine jr_aload_n (pc := 78) h dX1_lackingMeetingAt_78 rfl ?_
                refine jr_iload (pc := 79) h dX1_lackingMeetingAt_79 rfl ?_
                refine jr_iload (pc := 81) h dX1_lackingMeetingAt_81 rfl ?_
                refine iv_X1_89 (pc := 83) h hl hR dX1_lackingMeetingAt_83 ⟨(Nat.le_of_ble_eq_true rfl), (Nat.le_of_ble_eq_true rfl), (Nat.le_of_ble_eq_true rfl), (Nat.le_of_ble_eq_true rfl)⟩ (Nat.le_of_ble_eq_true rfl) (by assumption) (by omega) (s_X1_sittingWithin hF (by omega) (by omega)) (fun v_83 n_83 M_83 hn_83 hp => ?_)
                obtain ⟨⟨rfl, rfl, rfl⟩, gr_83⟩ := hp
                refine jr_aload_n (pc := 86) h dX1_lackingMeetingAt_86 rfl ?_
                refine jr_iload_n (pc := 87) h dX1_lackingMeetingAt_87 rfl ?_
                refine iv_X1_98 (pc := 88) h hl hR dX1_lackingMeetingAt_88 ⟨(Nat.le_of_ble_eq_true rfl), (Nat.le_of_ble_eq_true rfl), (Nat.le_of_ble_eq_true rfl), (Nat.le_of_ble_eq_true rfl)⟩ (Nat.le_of_ble_eq_true rfl) (by assumption) (by omega) (s_X1_loadOfTrolley hF (by omega)) (fun v_88 n_88 M_88 hn_88 hp => ?_)
                obtain ⟨⟨rfl, rfl, rfl⟩, gr_88⟩ := hp
                refine jr_isub (pc := 91) h dX1_lackingMeetingAt_91 ?_
                refine im_X1_58 (pc := 92) h hR dX1_lackingMeetingAt_92 ⟨(Nat.le_of_ble_eq_true rfl), (Nat.le_of_ble_eq_true rfl), (Nat.le_of_ble_eq_true rfl), (Nat.le_of_ble_eq_true rfl)⟩ (by omega) (by omega) ?_
                refine jr_iadd (pc := 95) h dX1_lackingMeetingAt_95 ?_
                refine jr_istore_n (pc := 96) h [_, _, _, _, _, _, _] dX1_lackingMeetingAt_96 (by decide) rfl ?_
                refine jr_iinc (pc := 97) h [_, _, _, _, _, _, _] dX1_lackingMeetingAt_97 (by decide) rfl rfl ?_
                refine jr_goto (pc := 100) h 4 dX1_lackingMeetingAt_100 (by decide) ?_
                refine ih _ _ _ _ _ (by omega) ?_ (by omega) (by omega)
                rw [sumZ_s (by omega), hx]
                congr 1
                have b0 := bz_0 (P := c_get td 5 t 0 = 0)
                first
                  | (exfalso; omega)
                  | (unfold c_lack1; (first | rw [if_pos (by omega)] | rw [if_neg (by omega)]); (first | rw [if_pos (by omega)] | rw [if_neg (by omega)]))
          · skip
            refine jr_aload_n (pc := 36) h dX1_lackingMeetingAt_36 rfl ?_
            refine jr_iload_n (pc := 37) h dX1_lackingMeetingAt_37 rfl ?_
            refine iv_X1_95 (pc := 38) h hl hR dX1_lackingMeetingAt_38 ⟨(Nat.le_of_ble_eq_true rfl), (Nat.le_of_ble_eq_true rfl), (Nat.le_of_ble_eq_true rfl), (Nat.le_of_ble_eq_true rfl)⟩ (Nat.le_of_ble_eq_true rfl) (by assumption) (by omega) (s_X1_isFront hF (by omega)) (fun v_38 n_38 M_38 hn_38 hp => ?_)
            obtain ⟨⟨rfl, rfl, rfl⟩, gr_38⟩ := hp
            refine jr_if_eq (pc := 41) h 48 dX1_lackingMeetingAt_41 (by decide) (by omega) (fun c_41 => ?_) (fun c_41 => ?_)
            · skip
              refine jr_iload_n (pc := 48) h dX1_lackingMeetingAt_48 rfl ?_
              refine jr_iconst (pc := 49) h dX1_lackingMeetingAt_49 ?_
              refine jr_iadd (pc := 50) h dX1_lackingMeetingAt_50 ?_
              refine jr_istore (pc := 51) h [_, _, _, _, _, _, _] dX1_lackingMeetingAt_51 (by decide) rfl ?_
              refine jr_iload (pc := 53) h dX1_lackingMeetingAt_53 rfl ?_
              refine jr_if_ne (pc := 55) h 66 dX1_lackingMeetingAt_55 (by decide) (by omega) (fun c_55 => ?_) (fun c_55 => ?_)
              · skip
                refine jr_aload_n (pc := 66) h dX1_lackingMeetingAt_66 rfl ?_
                refine iv_X1_67 (pc := 67) h hl hR dX1_lackingMeetingAt_67 ⟨(Nat.le_of_ble_eq_true rfl), (Nat.le_of_ble_eq_true rfl), (Nat.le_of_ble_eq_true rfl), (Nat.le_of_ble_eq_true rfl)⟩ (Nat.le_of_ble_eq_true rfl) (by assumption) (by omega) (s_X1_rows hF) (fun v_67 n_67 M_67 hn_67 hp => ?_)
                obtain ⟨⟨rfl, rfl, rfl⟩, gr_67⟩ := hp
                refine jr_goto (pc := 70) h 74 dX1_lackingMeetingAt_70 (by decide) ?_
                refine jr_istore (pc := 74) h [_, _, _, _, _, _, _] dX1_lackingMeetingAt_74 (by decide) rfl ?_
                refine jr_iload_n (pc := 76) h dX1_lackingMeetingAt_76 rfl ?_
                refine jr_iconst (pc := 77) h dX1_lackingMeetingAt_77 ?_
                refine jr_aload_n (pc := 78) h dX1_lackingMeetingAt_78 rfl ?_
                refine jr_iload (pc := 79) h dX1_lackingMeetingAt_79 rfl ?_
                refine jr_iload (pc := 81) h dX1_lackingMeetingAt_81 rfl ?_
                refine iv_X1_89 (pc := 83) h hl hR dX1_lackingMeetingAt_83 ⟨(Nat.le_of_ble_eq_true rfl), (Nat.le_of_ble_eq_true rfl), (Nat.le_of_ble_eq_true rfl), (Nat.le_of_ble_eq_true rfl)⟩ (Nat.le_of_ble_eq_true rfl) (by assumption) (by omega) (s_X1_sittingWithin hF (by omega) (by omega)) (fun v_83 n_83 M_83 hn_83 hp => ?_)
                obtain ⟨⟨rfl, rfl, rfl⟩, gr_83⟩ := hp
                refine jr_aload_n (pc := 86) h dX1_lackingMeetingAt_86 rfl ?_
                refine jr_iload_n (pc := 87) h dX1_lackingMeetingAt_87 rfl ?_
                refine iv_X1_98 (pc := 88) h hl hR dX1_lackingMeetingAt_88 ⟨(Nat.le_of_ble_eq_true rfl), (Nat.le_of_ble_eq_true rfl), (Nat.le_of_ble_eq_true rfl), (Nat.le_of_ble_eq_true rfl)⟩ (Nat.le_of_ble_eq_true rfl) (by assumption) (by omega) (s_X1_loadOfTrolley hF (by omega)) (fun v_88 n_88 M_88 hn_88 hp => ?_)
                obtain ⟨⟨rfl, rfl, rfl⟩, gr_88⟩ := hp
                refine jr_isub (pc := 91) h dX1_lackingMeetingAt_91 ?_
                refine im_X1_58 (pc := 92) h hR dX1_lackingMeetingAt_92 ⟨(Nat.le_of_ble_eq_true rfl), (Nat.le_of_ble_eq_true rfl), (Nat.le_of_ble_eq_true rfl), (Nat.le_of_ble_eq_true rfl)⟩ (by omega) (by omega) ?_
                refine jr_iadd (pc := 95) h dX1_lackingMeetingAt_95 ?_
                refine jr_istore_n (pc := 96) h [_, _, _, _, _, _, _] dX1_lackingMeetingAt_96 (by decide) rfl ?_
                refine jr_iinc (pc := 97) h [_, _, _, _, _, _, _] dX1_lackingMeetingAt_97 (by decide) rfl rfl ?_
                refine jr_goto (pc := 100) h 4 dX1_lackingMeetingAt_100 (by decide) ?_
                refine ih _ _ _ _ _ (by omega) ?_ (by omega) (by omega)
                rw [sumZ_s (by omega), hx]
                congr 1
                have b0 := bz_0 (P := c_get td 5 t 0 = 0)
                first
                  | (exfalso; omega)
                  | (unfold c_lack1; (first | rw [if_pos (by omega)] | rw [if_neg (by omega)]); (first | rw [if_pos (by omega)] | rw [if_neg (by omega)]))
              · skip
                refine jr_aload_n (pc := 58) h dX1_lackingMeetingAt_58 rfl ?_
                refine jr_iload_n (pc := 59) h dX1_lackingMeetingAt_59 rfl ?_
                refine iv_X1_95 (pc := 60) h hl hR dX1_lackingMeetingAt_60 ⟨(Nat.le_of_ble_eq_true rfl), (Nat.le_of_ble_eq_true rfl), (Nat.le_of_ble_eq_true rfl), (Nat.le_of_ble_eq_true rfl)⟩ (Nat.le_of_ble_eq_true rfl) (by assumption) (by omega) (s_X1_isFront hF (by omega)) (fun v_60 n_60 M_60 hn_60 hp => ?_)
                obtain ⟨⟨rfl, rfl, rfl⟩, gr_60⟩ := hp
                refine jr_if_ne (pc := 63) h 73 dX1_lackingMeetingAt_63 (by decide) (by omega) (fun c_63 => ?_) (fun c_63 => ?_)
                · skip
                  refine jr_iload_n (pc := 73) h dX1_lackingMeetingAt_73 rfl ?_
                  refine jr_istore (pc := 74) h [_, _, _, _, _, _, _] dX1_lackingMeetingAt_74 (by decide) rfl ?_
                  refine jr_iload_n (pc := 76) h dX1_lackingMeetingAt_76 rfl ?_
                  refine jr_iconst (pc := 77) h dX1_lackingMeetingAt_77 ?_
                  refine jr_aload_n (pc := 78) h dX1_lackingMeetingAt_78 rfl ?_
                  refine jr_iload (pc := 79) h dX1_lackingMeetingAt_79 rfl ?_
                  refine jr_iload (pc := 81) h dX1_lackingMeetingAt_81 rfl ?_
                  refine iv_X1_89 (pc := 83) h hl hR dX1_lackingMeetingAt_83 ⟨(Nat.le_of_ble_eq_true rfl), (Nat.le_of_ble_eq_true rfl), (Nat.le_of_ble_eq_true rfl), (Nat.le_of_ble_eq_true rfl)⟩ (Nat.le_of_ble_eq_true rfl) (by assumption) (by omega) (s_X1_sittingWithin hF (by omega) (by omega)) (fun v_83 n_83 M_83 hn_83 hp => ?_)
                  obtain ⟨⟨rfl, rfl, rfl⟩, gr_83⟩ := hp
                  refine jr_aload_n (pc := 86) h dX1_lackingMeetingAt_86 rfl ?_
                  refine jr_iload_n (pc := 87) h dX1_lackingMeetingAt_87 rfl ?_
                  refine iv_X1_98 (pc := 88) h hl hR dX1_lackingMeetingAt_88 ⟨(Nat.le_of_ble_eq_true rfl), (Nat.le_of_ble_eq_true rfl), (Nat.le_of_ble_eq_true rfl), (Nat.le_of_ble_eq_true rfl)⟩ (Nat.le_of_ble_eq_true rfl) (by assumption) (by omega) (s_X1_loadOfTrolley hF (by omega)) (fun v_88 n_88 M_88 hn_88 hp => ?_)
                  obtain ⟨⟨rfl, rfl, rfl⟩, gr_88⟩ := hp
                  refine jr_isub (pc := 91) h dX1_lackingMeetingAt_91 ?_
                  refine im_X1_58 (pc := 92) h hR dX1_lackingMeetingAt_92 ⟨(Nat.le_of_ble_eq_true rfl), (Nat.le_of_ble_eq_true rfl), (Nat.le_of_ble_eq_true rfl), (Nat.le_of_ble_eq_true rfl)⟩ (by omega) (by omega) ?_
                  refine jr_iadd (pc := 95) h dX1_lackingMeetingAt_95 ?_
                  refine jr_istore_n (pc := 96) h [_, _, _, _, _, _, _] dX1_lackingMeetingAt_96 (by decide) rfl ?_
                  refine jr_iinc (pc := 97) h [_, _, _, _, _, _, _] dX1_lackingMeetingAt_97 (by decide) rfl rfl ?_
                  refine jr_goto (pc := 100) h 4 dX1_lackingMeetingAt_100 (by decide) ?_
                  refine ih _ _ _ _ _ (by omega) ?_ (by omega) (by omega)
                  rw [sumZ_s (by omega), hx]
                  congr 1
                  have b0 := bz_0 (P := c_get td 5 t 0 = 0)
                  first
                    | (exfalso; omega)
                    | (unfold c_lack1; (first | rw [if_pos (by omega)] | rw [if_neg (by omega)]); (first | rw [if_pos (by omega)] | rw [if_neg (by omega)]))
                · skip
                  refine jr_aload_n (pc := 66) h dX1_lackingMeetingAt_66 rfl ?_
                  refine iv_X1_67 (pc := 67) h hl hR dX1_lackingMeetingAt_67 ⟨(Nat.le_of_ble_eq_true rfl), (Nat.le_of_ble_eq_true rfl), (Nat.le_of_ble_eq_true rfl), (Nat.le_of_ble_eq_true rfl)⟩ (Nat.le_of_ble_eq_true rfl) (by assumption) (by omega) (s_X1_rows hF) (fun v_67 n_67 M_67 hn_67 hp => ?_)
                  obtain ⟨⟨rfl, rfl, rfl⟩, gr_67⟩ := hp
                  refine jr_goto (pc := 70) h 74 dX1_lackingMeetingAt_70 (by decide) ?_
                  refine jr_istore (pc := 74) h [_, _, _, _, _, _, _] dX1_lackingMeetingAt_74 (by decide) rfl ?_
                  refine jr_iload_n (pc := 76) h dX1_lackingMeetingAt_76 rfl ?_
                  refine jr_iconst (pc := 77) h dX1_lackingMeetingAt_77 ?_
                  refine jr_aload_n (pc := 78) h dX1_lackingMeetingAt_78 rfl ?_
                  refine jr_iload (pc := 79) h dX1_lackingMeetingAt_79 rfl ?_
                  refine jr_iload (pc := 81) h dX1_lackingMeetingAt_81 rfl ?_
                  refine iv_X1_89 (pc := 83) h hl hR dX1_lackingMeetingAt_83 ⟨(Nat.le_of_ble_eq_true rfl), (Nat.le_of_ble_eq_true rfl), (Nat.le_of_ble_eq_true rfl), (Nat.le_of_ble_eq_true rfl)⟩ (Nat.le_of_ble_eq_true rfl) (by assumption) (by omega) (s_X1_sittingWithin hF (by omega) (by omega)) (fun v_83 n_83 M_83 hn_83 hp => ?_)
                  obtain ⟨⟨rfl, rfl, rfl⟩, gr_83⟩ := hp
                  refine jr_aload_n (pc := 86) h dX1_lackingMeetingAt_86 rfl ?_
                  refine jr_iload_n (pc := 87) h dX1_lackingMeetingAt_87 rfl ?_
                  refine iv_X1_98 (pc := 88) h hl hR dX1_lackingMeetingAt_88 ⟨(Nat.le_of_ble_eq_true rfl), (Nat.le_of_ble_eq_true rfl), (Nat.le_of_ble_eq_true rfl), (Nat.le_of_ble_eq_true rfl)⟩ (Nat.le_of_ble_eq_true rfl) (by assumption) (by omega) (s_X1_loadOfTrolley hF (by omega)) (fun v_88 n_88 M_88 hn_88 hp => ?_)
                  obtain ⟨⟨rfl, rfl, rfl⟩, gr_88⟩ := hp
                  refine jr_isub (pc := 91) h dX1_lackingMeetingAt_91 ?_
                  refine im_X1_58 (pc := 92) h hR dX1_lackingMeetingAt_92 ⟨(Nat.le_of_ble_eq_true rfl), (Nat.le_of_ble_eq_true rfl), (Nat.le_of_ble_eq_true rfl), (Nat.le_of_ble_eq_true rfl)⟩ (by omega) (by omega) ?_
                  refine jr_iadd (pc := 95) h dX1_lackingMeetingAt_95 ?_
                  refine jr_istore_n (pc := 96) h [_, _, _, _, _, _, _] dX1_lackingMeetingAt_96 (by decide) rfl ?_
                  refine jr_iinc (pc := 97) h [_, _, _, _, _, _, _] dX1_lackingMeetingAt_97 (by decide) rfl rfl ?_
                  refine jr_goto (pc := 100) h 4 dX1_lackingMeetingAt_100 (by decide) ?_
                  refine ih _ _ _ _ _ (by omega) ?_ (by omega) (by omega)
                  rw [sumZ_s (by omega), hx]
                  congr 1
                  have b0 := bz_0 (P := c_get td 5 t 0 = 0)
                  first
                    | (exfalso; omega)
                    | (unfold c_lack1; (first | rw [if_pos (by omega)] | rw [if_neg (by omega)]); (first | rw [if_pos (by omega)] | rw [if_neg (by omega)]))
            · skip
              refine jr_iconst (pc := 44) h dX1_lackingMeetingAt_44 ?_
              refine jr_goto (pc := 45) h 51 dX1_lackingMeetingAt_45 (by decide) ?_
              refine jr_istore (pc := 51) h [_, _, _, _, _, _, _] dX1_lackingMeetingAt_51 (by decide) rfl ?_
              refine jr_iload (pc := 53) h dX1_lackingMeetingAt_53 rfl ?_
              refine jr_if_ne (pc := 55) h 66 dX1_lackingMeetingAt_55 (by decide) (by omega) (fun c_55 => ?_) (fun c_55 => ?_)
              · skip
                refine jr_aload_n (pc := 66) h dX1_lackingMeetingAt_66 rfl ?_
                refine iv_X1_67 (pc := 67) h hl hR dX1_lackingMeetingAt_67 ⟨(Nat.le_of_ble_eq_true rfl), (Nat.le_of_ble_eq_true rfl), (Nat.le_of_ble_eq_true rfl), (Nat.le_of_ble_eq_true rfl)⟩ (Nat.le_of_ble_eq_true rfl) (by assumption) (by omega) (s_X1_rows hF) (fun v_67 n_67 M_67 hn_67 hp => ?_)
                obtain ⟨⟨rfl, rfl, rfl⟩, gr_67⟩ := hp
                refine jr_goto (pc := 70) h 74 dX1_lackingMeetingAt_70 (by decide) ?_
                refine jr_istore (pc := 74) h [_, _, _, _, _, _, _] dX1_lackingMeetingAt_74 (by decide) rfl ?_
                refine jr_iload_n (pc := 76) h dX1_lackingMeetingAt_76 rfl ?_
                refine jr_iconst (pc := 77) h dX1_lackingMeetingAt_77 ?_
                refine jr_aload_n (pc := 78) h dX1_lackingMeetingAt_78 rfl ?_
                refine jr_iload (pc := 79) h dX1_lackingMeetingAt_79 rfl ?_
                refine jr_iload (pc := 81) h dX1_lackingMeetingAt_81 rfl ?_
                refine iv_X1_89 (pc := 83) h hl hR dX1_lackingMeetingAt_83 ⟨(Nat.le_of_ble_eq_true rfl), (Nat.le_of_ble_eq_true rfl), (Nat.le_of_ble_eq_true rfl), (Nat.le_of_ble_eq_true rfl)⟩ (Nat.le_of_ble_eq_true rfl) (by assumption) (by omega) (s_X1_sittingWithin hF (by omega) (by omega)) (fun v_83 n_83 M_83 hn_83 hp => ?_)
                obtain ⟨⟨rfl, rfl, rfl⟩, gr_83⟩ := hp
                refine jr_aload_n (pc := 86) h dX1_lackingMeetingAt_86 rfl ?_
                refine jr_iload_n (pc := 87) h dX1_lackingMeetingAt_87 rfl ?_
                refine iv_X1_98 (pc := 88) h hl hR dX1_lackingMeetingAt_88 ⟨(Nat.le_of_ble_eq_true rfl), (Nat.le_of_ble_eq_true rfl), (Nat.le_of_ble_eq_true rfl), (Nat.le_of_ble_eq_true rfl)⟩ (Nat.le_of_ble_eq_true rfl) (by assumption) (by omega) (s_X1_loadOfTrolley hF (by omega)) (fun v_88 n_88 M_88 hn_88 hp => ?_)
                obtain ⟨⟨rfl, rfl, rfl⟩, gr_88⟩ := hp
                refine jr_isub (pc := 91) h dX1_lackingMeetingAt_91 ?_
                refine im_X1_58 (pc := 92) h hR dX1_lackingMeetingAt_92 ⟨(Nat.le_of_ble_eq_true rfl), (Nat.le_of_ble_eq_true rfl), (Nat.le_of_ble_eq_true rfl), (Nat.le_of_ble_eq_true rfl)⟩ (by omega) (by omega) ?_
                refine jr_iadd (pc := 95) h dX1_lackingMeetingAt_95 ?_
                refine jr_istore_n (pc := 96) h [_, _, _, _, _, _, _] dX1_lackingMeetingAt_96 (by decide) rfl ?_
                refine jr_iinc (pc := 97) h [_, _, _, _, _, _, _] dX1_lackingMeetingAt_97 (by decide) rfl rfl ?_
                refine jr_goto (pc := 100) h 4 dX1_lackingMeetingAt_100 (by decide) ?_
                refine ih _ _ _ _ _ (by omega) ?_ (by omega) (by omega)
                rw [sumZ_s (by omega), hx]
                congr 1
                have b0 := bz_0 (P := c_get td 5 t 0 = 0)
                first
                  | (exfalso; omega)
                  | (unfold c_lack1; (first | rw [if_pos (by omega)] | rw [if_neg (by omega)]); (first | rw [if_pos (by omega)] | rw [if_neg (by omega)]))
              · skip
                refine jr_aload_n (pc := 58) h dX1_lackingMeetingAt_58 rfl ?_
                refine jr_iload_n (pc := 59) h dX1_lackingMeetingAt_59 rfl ?_
                refine iv_X1_95 (pc := 60) h hl hR dX1_lackingMeetingAt_60 ⟨(Nat.le_of_ble_eq_true rfl), (Nat.le_of_ble_eq_true rfl), (Nat.le_of_ble_eq_true rfl), (Nat.le_of_ble_eq_true rfl)⟩ (Nat.le_of_ble_eq_true rfl) (by assumption) (by omega) (s_X1_isFront hF (by omega)) (fun v_60 n_60 M_60 hn_60 hp => ?_)
                obtain ⟨⟨rfl, rfl, rfl⟩, gr_60⟩ := hp
                refine jr_if_ne (pc := 63) h 73 dX1_lackingMeetingAt_63 (by decide) (by omega) (fun c_63 => ?_) (fun c_63 => ?_)
                · skip
                  refine jr_iload_n (pc := 73) h dX1_lackingMeetingAt_73 rfl ?_
                  refine jr_istore (pc := 74) h [_, _, _, _, _, _, _] dX1_lackingMeetingAt_74 (by decide) rfl ?_
                  refine jr_iload_n (pc := 76) h dX1_lackingMeetingAt_76 rfl ?_
                  refine jr_iconst (pc := 77) h dX1_lackingMeetingAt_77 ?_
                  refine jr_aload_n (pc := 78) h dX1_lackingMeetingAt_78 rfl ?_
                  refine jr_iload (pc := 79) h dX1_lackingMeetingAt_79 rfl ?_
                  refine jr_iload (pc := 81) h dX1_lackingMeetingAt_81 rfl ?_
                  refine iv_X1_89 (pc := 83) h hl hR dX1_lackingMeetingAt_83 ⟨(Nat.le_of_ble_eq_true rfl), (Nat.le_of_ble_eq_true rfl), (Nat.le_of_ble_eq_true rfl), (Nat.le_of_ble_eq_true rfl)⟩ (Nat.le_of_ble_eq_true rfl) (by assumption) (by omega) (s_X1_sittingWithin hF (by omega) (by omega)) (fun v_83 n_83 M_83 hn_83 hp => ?_)
                  obtain ⟨⟨rfl, rfl, rfl⟩, gr_83⟩ := hp
                  refine jr_aload_n (pc := 86) h dX1_lackingMeetingAt_86 rfl ?_
                  refine jr_iload_n (pc := 87) h dX1_lackingMeetingAt_87 rfl ?_
                  refine iv_X1_98 (pc := 88) h hl hR dX1_lackingMeetingAt_88 ⟨(Nat.le_of_ble_eq_true rfl), (Nat.le_of_ble_eq_true rfl), (Nat.le_of_ble_eq_true rfl), (Nat.le_of_ble_eq_true rfl)⟩ (Nat.le_of_ble_eq_true rfl) (by assumption) (by omega) (s_X1_loadOfTrolley hF (by omega)) (fun v_88 n_88 M_88 hn_88 hp => ?_)
                  obtain ⟨⟨rfl, rfl, rfl⟩, gr_88⟩ := hp
                  refine jr_isub (pc := 91) h dX1_lackingMeetingAt_91 ?_
                  refine im_X1_58 (pc := 92) h hR dX1_lackingMeetingAt_92 ⟨(Nat.le_of_ble_eq_true rfl), (Nat.le_of_ble_eq_true rfl), (Nat.le_of_ble_eq_true rfl), (Nat.le_of_ble_eq_true rfl)⟩ (by omega) (by omega) ?_
                  refine jr_iadd (pc := 95) h dX1_lackingMeetingAt_95 ?_
                  refine jr_istore_n (pc := 96) h [_, _, _, _, _, _, _] dX1_lackingMeetingAt_96 (by decide) rfl ?_
                  refine jr_iinc (pc := 97) h [_, _, _, _, _, _, _] dX1_lackingMeetingAt_97 (by decide) rfl rfl ?_
                  refine jr_goto (pc := 100) h 4 dX1_lackingMeetingAt_100 (by decide) ?_
                  refine ih _ _ _ _ _ (by omega) ?_ (by omega) (by omega)
                  rw [sumZ_s (by omega), hx]
                  congr 1
                  have b0 := bz_0 (P := c_get td 5 t 0 = 0)
                  first
                    | (exfalso; omega)
                    | (unfold c_lack1; (first | rw [if_pos (by omega)] | rw [if_neg (by omega)]); (first | rw [if_pos (by omega)] | rw [if_neg (by omega)]))
                · skip
                  refine jr_aload_n (pc := 66) h dX1_lackingMeetingAt_66 rfl ?_
                  refine iv_X1_67 (pc := 67) h hl hR dX1_lackingMeetingAt_67 ⟨(Nat.le_of_ble_eq_true rfl), (Nat.le_of_ble_eq_true rfl), (Nat.le_of_ble_eq_true rfl), (Nat.le_of_ble_eq_true rfl)⟩ (Nat.le_of_ble_eq_true rfl) (by assumption) (by omega) (s_X1_rows hF) (fun v_67 n_67 M_67 hn_67 hp => ?_)
                  obtain ⟨⟨rfl, rfl, rfl⟩, gr_67⟩ := hp
                  refine jr_goto (pc := 70) h 74 dX1_lackingMeetingAt_70 (by decide) ?_
                  refine jr_istore (pc := 74) h [_, _, _, _, _, _, _] dX1_lackingMeetingAt_74 (by decide) rfl ?_
                  refine jr_iload_n (pc := 76) h dX1_lackingMeetingAt_76 rfl ?_
                  refine jr_iconst (pc := 77) h dX1_lackingMeetingAt_77 ?_
                  refine jr_aload_n (pc := 78) h dX1_lackingMeetingAt_78 rfl ?_
                  refine jr_iload (pc := 79) h dX1_lackingMeetingAt_79 rfl ?_
                  refine jr_iload (pc := 81) h dX1_lackingMeetingAt_81 rfl ?_
                  refine iv_X1_89 (pc := 83) h hl hR dX1_lackingMeetingAt_83 ⟨(Nat.le_of_ble_eq_true rfl), (Nat.le_of_ble_eq_true rfl), (Nat.le_of_ble_eq_true rfl), (Nat.le_of_ble_eq_true rfl)⟩ (Nat.le_of_ble_eq_true rfl) (by assumption) (by omega) (s_X1_sittingWithin hF (by omega) (by omega)) (fun v_83 n_83 M_83 hn_83 hp => ?_)
                  obtain ⟨⟨rfl, rfl, rfl⟩, gr_83⟩ := hp
                  refine jr_aload_n (pc := 86) h dX1_lackingMeetingAt_86 rfl ?_
                  refine jr_iload_n (pc := 87) h dX1_lackingMeetingAt_87 rfl ?_
                  refine iv_X1_98 (pc := 88) h hl hR dX1_lackingMeetingAt_88 ⟨(Nat.le_of_ble_eq_true rfl), (Nat.le_of_ble_eq_true rfl), (Nat.le_of_ble_eq_true rfl), (Nat.le_of_ble_eq_true rfl)⟩ (Nat.le_of_ble_eq_true rfl) (by assumption) (by omega) (s_X1_loadOfTrolley hF (by omega)) (fun v_88 n_88 M_88 hn_88 hp => ?_)
                  obtain ⟨⟨rfl, rfl, rfl⟩, gr_88⟩ := hp
                  refine jr_isub (pc := 91) h dX1_lackingMeetingAt_91 ?_
                  refine im_X1_58 (pc := 92) h hR dX1_lackingMeetingAt_92 ⟨(Nat.le_of_ble_eq_true rfl), (Nat.le_of_ble_eq_true rfl), (Nat.le_of_ble_eq_true rfl), (Nat.le_of_ble_eq_true rfl)⟩ (by omega) (by omega) ?_
                  refine jr_iadd (pc := 95) h dX1_lackingMeetingAt_95 ?_
                  refine jr_istore_n (pc := 96) h [_, _, _, _, _, _, _] dX1_lackingMeetingAt_96 (by decide) rfl ?_
                  refine jr_iinc (pc := 97) h [_, _, _, _, _, _, _] dX1_lackingMeetingAt_97 (by decide) rfl rfl ?_
                  refine jr_goto (pc := 100) h 4 dX1_lackingMeetingAt_100 (by decide) ?_
                  refine ih _ _ _ _ _ (by omega) ?_ (by omega) (by omega)
                  rw [sumZ_s (by omega), hx]
                  congr 1
                  have b0 := bz_0 (P := c_get td 5 t 0 = 0)
                  first
                    | (exfalso; omega)
                    | (unfold c_lack1; (first | rw [if_pos (by omega)] | rw [if_neg (by omega)]); (first | rw [if_pos (by omega)] | rw [if_neg (by omega)]))
  refine jr_iconst (pc := 0) h dX1_lackingMeetingAt_0 ?_
  refine jr_istore_n (pc := 1) h [_, _, _, _, _, _, _] dX1_lackingMeetingAt_1 (by decide) rfl ?_
  refine jr_iconst (pc := 2) h dX1_lackingMeetingAt_2 ?_
  refine jr_istore_n (pc := 3) h [_, _, _, _, _, _, _] dX1_lackingMeetingAt_3 (by decide) rfl ?_
  exact loop _ _ _ _ _ _ (by omega) rfl (by omega) (Nat.lt_succ_self _)
