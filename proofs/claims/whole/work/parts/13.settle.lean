/-! 13: Flight.settle, Flight() -/
noncomputable def c_lat (ct td : Nat → Int) (r : Int) : Int := lastZ (fun i => c_get td 7 i 0 ≤ r ∧ r ≤ c_get td 7 i 1) (ct 7).toNat
def c_ldp (ct td ld : Nat → Int) (k : Nat) : Nat → Int := fun j => if j < 8 then sumZ (fun i => if c_get td 6 i 0 * 4 + c_get td 6 i 1 = j then c_get td 6 i 2 else 0) k else ld j
noncomputable def c_bkp (ct td bk : Nat → Int) (e : Int) : Nat → Int := fun j => if 1 ≤ j ∧ (j : Int) < e then c_lat ct td j else bk j
noncomputable def c_sip (ct td si : Nat → Int) (e : Int) : Nat → Int := fun j => if 1 ≤ j ∧ (j : Int) < e then max (c_get td 7 (c_lat ct td j) 2) (c_named ct td j) else si j
theorem c_latr {ct td : Nat → Int} (r : ∀ j, 0 ≤ ct j ∧ ct j ≤ 8) (a : Int) : -1 ≤ c_lat ct td a ∧ c_lat ct td a ≤ 8 := by
  have := lastZ_r (fun i => c_get td 7 i 0 ≤ a ∧ a ≤ c_get td 7 i 1) (ct 7).toNat
  have := r 7
  unfold c_lat
  omega
theorem c_namedr {ct td : Nat → Int} (r : ∀ j, 0 ≤ ct j ∧ ct j ≤ 8) (a : Int) : 0 ≤ c_named ct td a ∧ c_named ct td a ≤ 8 := by
  have := sumZ_b (f := fun i => if c_get td 8 i 0 = a then 1 else 0) (k := (ct 8).toNat) (lo := 0) (hi := 1) (fun i _ _ => by split <;> omega)
  have := r 8
  unfold c_named
  omega
theorem c_ldpr {ct td ld : Nat → Int} (r : ∀ j, 0 ≤ td j ∧ td j ≤ 999) (rE : ∀ j, 0 ≤ ld j ∧ ld j ≤ 9999) {k : Nat} (hk : k ≤ 8) : ∀ j, 0 ≤ c_ldp ct td ld k j ∧ c_ldp ct td ld k j ≤ 9999 := by
  intro j
  unfold c_ldp
  split
  · have := sumZ_b (f := fun i => if c_get td 6 i 0 * 4 + c_get td 6 i 1 = j then c_get td 6 i 2 else 0) (k := k) (lo := 0) (hi := 999) (fun i _ _ => by have := c_getr r 6 i 2; split <;> omega)
    omega
  · exact rE j
theorem c_bkpr {ct td bk : Nat → Int} (r : ∀ j, 0 ≤ ct j ∧ ct j ≤ 8) (rC : ∀ j, -1 ≤ bk j ∧ bk j ≤ 8) (e : Int) : ∀ j, -1 ≤ c_bkp ct td bk e j ∧ c_bkp ct td bk e j ≤ 8 := by
  intro j
  unfold c_bkp
  split
  · exact c_latr r _
  · exact rC j
theorem c_sipr {ct td si : Nat → Int} (r : ∀ j, 0 ≤ ct j ∧ ct j ≤ 8) (rD : ∀ j, 0 ≤ si j ∧ si j ≤ 9) (hs : ∀ i : Int, c_get td 7 i 2 ≤ 9) (e : Int) : ∀ j, 0 ≤ c_sip ct td si e j ∧ c_sip ct td si e j ≤ 9 := by
  intro j
  unfold c_sip
  split
  · have := c_namedr (td := td) r j
    have := hs (c_lat ct td j)
    omega
  · exact rD j
theorem c_ldp_s {ct td ld : Nat → Int} {i : Int} (hi : 0 ≤ i) (h : 0 ≤ c_get td 6 i 0 * 4 + c_get td 6 i 1 ∧ c_get td 6 i 0 * 4 + c_get td 6 i 1 < 8) : up (c_ldp ct td ld i.toNat) (c_get td 6 i 0 * 4 + c_get td 6 i 1).toNat (c_ldp ct td ld i.toNat (c_get td 6 i 0 * 4 + c_get td 6 i 1).toNat + c_get td 6 i 2) = c_ldp ct td ld (i + 1).toNat := by
  funext j
  by_cases q : j = (c_get td 6 i 0 * 4 + c_get td 6 i 1).toNat
  · rw [q, up_eq]
    simp only [c_ldp]
    rw [if_pos (by omega), if_pos (by omega), sumZ_s hi, if_pos (by omega)]
  · rw [up_ne q]
    simp only [c_ldp]
    by_cases q2 : j < 8
    · rw [if_pos q2, if_pos q2, sumZ_s hi, if_neg (by omega)]; omega
    · rw [if_neg q2, if_neg q2]
theorem c_ldp_n {ct td ld : Nat → Int} {i : Int} (hi : 0 ≤ i) (h : ¬ (0 ≤ c_get td 6 i 0 * 4 + c_get td 6 i 1 ∧ c_get td 6 i 0 * 4 + c_get td 6 i 1 < 8)) : c_ldp ct td ld i.toNat = c_ldp ct td ld (i + 1).toNat := by
  funext j
  simp only [c_ldp]
  by_cases q2 : j < 8
  · rw [if_pos q2, if_pos q2, sumZ_s hi, if_neg (by omega)]; omega
  · rw [if_neg q2, if_neg q2]
set_option maxHeartbeats 1000000 in
set_option maxRecDepth 20000 in
theorem s_X1_settle {l : Launch} {n : Nat} {M : jdM} {f : Nat} {ct td bk si ld : Nat → Int} (hF : Fl M n f ct td bk si ld) (hseat : ∀ i : Int, c_get td 7 i 2 ≤ 9) : Ct l yX1_settle cX1_settle 3 none rX1_settle [.ref f] n M (fun vv n' M' => vv = none ∧ n = n' ∧ Fl M' n f ct td (c_bkp ct td bk 41) (c_sip ct td si 41) (c_ldp ct td ld (ct 6).toNat) ∧ fr (FlS f) M M') := by
  refine Ct_of [some (.ref f), none, none] (by decide) (Nat.le_of_ble_eq_true rfl) rfl (fun κ hl h hR hRt hmn hn0 => ?_)
  have h : Ok κ RX1 cX1_settle 3 none := h
  obtain ⟨hn, hO, hA, hB, hC, hD, hE, rA, rB, r0, rC, rD, rE⟩ := id hF
  have a6 := rA 6
  have rA0 := rA
  have rB0 := rB
  have rC0 := rC
  have rD0 := rD
  have rE0 := rE
  have loop2 : ∀ (d2 : Nat) (i : Int) (u : Option Value) (M1 : jdM), (1 ≤ i ∧ i ≤ 41) → (Fl M1 n f ct td (c_bkp ct td bk i) (c_sip ct td si i) (c_ldp ct td ld (ct 6).toNat)) → (fr (FlS f) M M1) → (41 - i).toNat < d2 → J κ 3 0 0 n 79 [some (.ref f), some (jI i), u] [] M1 := by
    intro d2
    induction d2 with
    | zero => intro i u M1 hi hF1 hf1 hd; omega
    | succ d2 ih2 =>
      intro i u M1 hi hF1 hf1 hd
      obtain ⟨hn, hO, hA, hB, hC, hD, hE, rA, rB, r0, rC, rD, rE⟩ := id hF1
      refine jr_iload_n (pc := 79) h dX1_settle_79 rfl ?_
      refine jr_bipush (pc := 80) h dX1_settle_80 bp_40 ?_
      refine jr_icmp_gt (pc := 82) h 129 dX1_settle_82 (by decide) (by omega) (by omega) (fun c_82 => ?_) (fun c_82 => ?_)
      · skip
        refine jr_vret (pc := 129) h hRt dX1_settle_129 (Nat.le_of_ble_eq_true rfl) (Nat.le_of_ble_eq_true rfl) ?_
        have e : i = 41 := by omega
        subst e
        exact ⟨rfl, rfl, hF1, hf1⟩
      · skip
        refine jr_aload_n (pc := 85) h dX1_settle_85 rfl ?_
        refine gf_X1_18 (pc := 86) h dX1_settle_86 (by assumption) (by omega) ?_
        refine jr_iload_n (pc := 89) h dX1_settle_89 rfl ?_
        refine jr_aload_n (pc := 90) h dX1_settle_90 rfl ?_
        refine jr_iload_n (pc := 91) h dX1_settle_91 rfl ?_
        refine iv_X1_52 (pc := 92) h hl hR dX1_settle_92 ⟨(Nat.le_of_ble_eq_true rfl), (Nat.le_of_ble_eq_true rfl), (Nat.le_of_ble_eq_true rfl), (Nat.le_of_ble_eq_true rfl)⟩ (Nat.le_of_ble_eq_true rfl) (by assumption) (by omega) (s_X1_latestBlock hF1 (by omega)) (fun v_92 n_92 M_92 hn_92 hp => ?_)
        obtain ⟨⟨rfl, rfl, rfl⟩, gr_92⟩ := hp
        refine jr_iast (pc := 95) h dX1_settle_95 (by assumption) (by omega) (by omega) ?_
        refine jm_gen (fun M2 hM2 => ?_)
        have e2 : up (c_bkp ct td bk i) i.toNat (c_lat ct td i) = c_bkp ct td bk (i + 1) := by
          funext j
          by_cases q : j = i.toNat
          · rw [q, up_eq]; simp only [c_bkp]; rw [if_pos (by omega), show ((i.toNat : Nat) : Int) = i by omega]
          · rw [up_ne q]; simp only [c_bkp]
            by_cases q2 : 1 ≤ j ∧ (j : Int) < i
            · rw [if_pos q2, if_pos (by omega)]
            · rw [if_neg q2, if_neg (by omega)]
        have hF2 := Fl_bk (M1 := M2) hF1 (bk' := c_bkp ct td bk (i + 1)) (by rw [hM2, ← e2]; rfl) (c_bkpr rA0 rC0 _)
        have hf2 : fr (FlS f) M M2 := fr_tr hf1 (fr_up hM2 ⟨by omega, by omega⟩)
        obtain ⟨hn, hO, hA, hB, hC, hD, hE, rA, rB, r0, rC, rD, rE⟩ := id hF2
        have eb : c_bkp ct td bk (i + 1) i.toNat = c_lat ct td i := by simp only [c_bkp]; rw [if_pos (by omega), show ((i.toNat : Nat) : Int) = i by omega]
        have lb := c_latr (td := td) rA0 i
        have nb := c_namedr (td := td) rA0 i
        refine jr_aload_n (pc := 96) h dX1_settle_96 rfl ?_
        refine gf_X1_21 (pc := 97) h dX1_settle_97 (by assumption) (by omega) ?_
        refine jr_iload_n (pc := 100) h dX1_settle_100 rfl ?_
        refine jr_aload_n (pc := 101) h dX1_settle_101 rfl ?_
        refine jr_bipush (pc := 102) h dX1_settle_102 bp_7 ?_
        refine jr_aload_n (pc := 104) h dX1_settle_104 rfl ?_
        refine gf_X1_18 (pc := 105) h dX1_settle_105 (by assumption) (by omega) ?_
        refine jr_iload_n (pc := 108) h dX1_settle_108 rfl ?_
        refine jr_iald (pc := 109) h dX1_settle_109 (by assumption) (by omega) (by omega) ?_
        rw [eb]
        refine jr_iconst (pc := 110) h dX1_settle_110 ?_
        refine iv_X1_48 (pc := 111) h hl hR dX1_settle_111 ⟨(Nat.le_of_ble_eq_true rfl), (Nat.le_of_ble_eq_true rfl), (Nat.le_of_ble_eq_true rfl), (Nat.le_of_ble_eq_true rfl)⟩ (Nat.le_of_ble_eq_true rfl) (by assumption) (by omega) (s_X1_get hF2 (by omega) (by omega) (by omega)) (fun v_111 n_111 M_111 hn_111 hp => ?_)
        obtain ⟨⟨rfl, rfl, rfl⟩, gr_111⟩ := hp
        refine jr_aload_n (pc := 114) h dX1_settle_114 rfl ?_
        refine jr_iload_n (pc := 115) h dX1_settle_115 rfl ?_
        refine iv_X1_55 (pc := 116) h hl hR dX1_settle_116 ⟨(Nat.le_of_ble_eq_true rfl), (Nat.le_of_ble_eq_true rfl), (Nat.le_of_ble_eq_true rfl), (Nat.le_of_ble_eq_true rfl)⟩ (Nat.le_of_ble_eq_true rfl) (by assumption) (by omega) (s_X1_namedIn hF2 (by omega)) (fun v_116 n_116 M_116 hn_116 hp => ?_)
        obtain ⟨⟨rfl, rfl, rfl⟩, gr_116⟩ := hp
        refine im_X1_58 (pc := 119) h hR dX1_settle_119 ⟨(Nat.le_of_ble_eq_true rfl), (Nat.le_of_ble_eq_true rfl), (Nat.le_of_ble_eq_true rfl), (Nat.le_of_ble_eq_true rfl)⟩ (by omega) (by omega) ?_
        refine jr_iast (pc := 122) h dX1_settle_122 (by assumption) (by omega) (by omega) ?_
        refine jm_gen (fun M3 hM3 => ?_)
        have e3 : up (c_sip ct td si i) i.toNat (max (c_get td 7 (c_lat ct td i) 2) (c_named ct td i)) = c_sip ct td si (i + 1) := by
          funext j
          by_cases q : j = i.toNat
          · rw [q, up_eq]; simp only [c_sip]; rw [if_pos (by omega), show ((i.toNat : Nat) : Int) = i by omega]
          · rw [up_ne q]; simp only [c_sip]
            by_cases q2 : 1 ≤ j ∧ (j : Int) < i
            · rw [if_pos q2, if_pos (by omega)]
            · rw [if_neg q2, if_neg (by omega)]
        have hF3 := Fl_si (M1 := M3) hF2 (si' := c_sip ct td si (i + 1)) (by rw [hM3, ← e3]) (c_sipr rA0 rD0 hseat _)
        have hf3 : fr (FlS f) M M3 := fr_tr hf2 (fr_up hM3 ⟨by omega, by omega⟩)
        refine jr_iinc (pc := 123) h [_, _, _] dX1_settle_123 (by decide) rfl rfl ?_
        refine jr_goto (pc := 126) h 79 dX1_settle_126 (by decide) ?_
        refine ih2 _ _ M3 (by omega) hF3 hf3 (by omega)
  have loop : ∀ (dq : Nat) (i : Int) (u : Option Value) (M1 : jdM), (0 ≤ i ∧ i ≤ ct 6) → (Fl M1 n f ct td bk si (c_ldp ct td ld i.toNat)) → (fr (FlS f) M M1) → (8 - i).toNat < dq → J κ 3 0 0 n 10 [some (.ref f), some (jI i), u] [] M1 := by
    intro dq
    induction dq with
    | zero => intro i u M1 hi hF1 hf1 hd; omega
    | succ dq ih =>
      intro i u M1 hi hF1 hf1 hd
      obtain ⟨hn, hO, hA, hB, hC, hD, hE, rA, rB, r0, rC, rD, rE⟩ := id hF1
      refine jr_iload_n (pc := 10) h dX1_settle_10 rfl ?_
      refine jr_aload_n (pc := 11) h dX1_settle_11 rfl ?_
      refine gf_X1_9 (pc := 12) h dX1_settle_12 (by assumption) (by omega) ?_
      refine jr_bipush (pc := 15) h dX1_settle_15 bp_6 ?_
      refine jr_ialdc (pc := 17) h (6 : Nat) rfl dX1_settle_17 (by assumption) (by omega) (by decide) ?_
      refine jr_icmp_ge (pc := 18) h 77 dX1_settle_18 (by decide) (by omega) (by omega) (fun c_18 => ?_) (fun c_18 => ?_)
      · skip
        refine jr_iconst (pc := 77) h dX1_settle_77 ?_
        refine jr_istore_n (pc := 78) h [_, _, _] dX1_settle_78 (by decide) rfl ?_
        refine loop2 _ 1 _ M1 (by omega) ?_ hf1 (Nat.lt_succ_self _)
        have e1 : c_bkp ct td bk 1 = bk := funext (fun j => if_neg (by omega))
        have e2 : c_sip ct td si 1 = si := funext (fun j => if_neg (by omega))
        rw [e1, e2, ← show i = ct 6 by omega]
        exact hF1
      · skip
        refine jr_aload_n (pc := 21) h dX1_settle_21 rfl ?_
        refine jr_bipush (pc := 22) h dX1_settle_22 bp_6 ?_
        refine jr_iload_n (pc := 24) h dX1_settle_24 rfl ?_
        refine jr_iconst (pc := 25) h dX1_settle_25 ?_
        refine iv_X1_48 (pc := 26) h hl hR dX1_settle_26 ⟨(Nat.le_of_ble_eq_true rfl), (Nat.le_of_ble_eq_true rfl), (Nat.le_of_ble_eq_true rfl), (Nat.le_of_ble_eq_true rfl)⟩ (Nat.le_of_ble_eq_true rfl) (by assumption) (by omega) (s_X1_get hF1 (by omega) (by omega) (by omega)) (fun v_26 n_26 M_26 hn_26 hp => ?_)
        obtain ⟨⟨rfl, rfl, rfl⟩, gr_26⟩ := hp
        refine jr_iconst (pc := 29) h dX1_settle_29 ?_
        refine jr_imul (pc := 30) h dX1_settle_30 ?_
        refine jr_aload_n (pc := 31) h dX1_settle_31 rfl ?_
        refine jr_bipush (pc := 32) h dX1_settle_32 bp_6 ?_
        refine jr_iload_n (pc := 34) h dX1_settle_34 rfl ?_
        refine jr_iconst (pc := 35) h dX1_settle_35 ?_
        refine iv_X1_48 (pc := 36) h hl hR dX1_settle_36 ⟨(Nat.le_of_ble_eq_true rfl), (Nat.le_of_ble_eq_true rfl), (Nat.le_of_ble_eq_true rfl), (Nat.le_of_ble_eq_true rfl)⟩ (Nat.le_of_ble_eq_true rfl) (by assumption) (by omega) (s_X1_get hF1 (by omega) (by omega) (by omega)) (fun v_36 n_36 M_36 hn_36 hp => ?_)
        obtain ⟨⟨rfl, rfl, rfl⟩, gr_36⟩ := hp
        refine jr_iadd (pc := 39) h dX1_settle_39 ?_
        refine jr_istore_n (pc := 40) h [_, _, _] dX1_settle_40 (by decide) rfl ?_
        refine jr_iload_n (pc := 41) h dX1_settle_41 rfl ?_
        refine jr_if_lt (pc := 42) h 71 dX1_settle_42 (by decide) (by omega) (fun c_42 => ?_) (fun c_42 => ?_)
        · skip
          refine jr_iinc (pc := 71) h [_, _, _] dX1_settle_71 (by decide) rfl rfl ?_
          refine jr_goto (pc := 74) h 10 dX1_settle_74 (by decide) ?_
          first
            | exact ih _ _ M2 (by omega) (by rw [← c_ldp_s (ct := ct) (td := td) (ld := ld) hi.1 (by omega)]; exact hF2) hf2 (by omega)
            | exact ih _ _ M1 (by omega) (by rw [← c_ldp_n (ct := ct) (td := td) (ld := ld) hi.1 (by omega)]; exact hF1) hf1 (by omega)
        · skip
          refine jr_iload_n (pc := 45) h dX1_settle_45 rfl ?_
          refine jr_aload_n (pc := 46) h dX1_settle_46 rfl ?_
          refine gf_X1_24 (pc := 47) h dX1_settle_47 (by assumption) (by omega) ?_
          refine jr_alen (pc := 50) h dX1_settle_50 (by assumption) (by omega) ?_
          refine jr_icmp_ge (pc := 51) h 71 dX1_settle_51 (by decide) (by omega) (by omega) (fun c_51 => ?_) (fun c_51 => ?_)
          · skip
            refine jr_iinc (pc := 71) h [_, _, _] dX1_settle_71 (by decide) rfl rfl ?_
            refine jr_goto (pc := 74) h 10 dX1_settle_74 (by decide) ?_
            first
              | exact ih _ _ M2 (by omega) (by rw [← c_ldp_s (ct := ct) (td := td) (ld := ld) hi.1 (by omega)]; exact hF2) hf2 (by omega)
              | exact ih _ _ M1 (by omega) (by rw [← c_ldp_n (ct := ct) (td := td) (ld := ld) hi.1 (by omega)]; exact hF1) hf1 (by omega)
          · skip
            refine jr_aload_n (pc := 54) h dX1_settle_54 rfl ?_
            refine gf_X1_24 (pc := 55) h dX1_settle_55 (by assumption) (by omega) ?_
            refine jr_iload_n (pc := 58) h dX1_settle_58 rfl ?_
            refine jr_dup2 (pc := 59) h dX1_settle_59 rfl rfl ?_
            refine jr_iald (pc := 60) h dX1_settle_60 (by assumption) (by omega) (by omega) ?_
            refine jr_aload_n (pc := 61) h dX1_settle_61 rfl ?_
            refine jr_bipush (pc := 62) h dX1_settle_62 bp_6 ?_
            refine jr_iload_n (pc := 64) h dX1_settle_64 rfl ?_
            refine jr_iconst (pc := 65) h dX1_settle_65 ?_
            refine iv_X1_48 (pc := 66) h hl hR dX1_settle_66 ⟨(Nat.le_of_ble_eq_true rfl), (Nat.le_of_ble_eq_true rfl), (Nat.le_of_ble_eq_true rfl), (Nat.le_of_ble_eq_true rfl)⟩ (Nat.le_of_ble_eq_true rfl) (by assumption) (by omega) (s_X1_get hF1 (by omega) (by omega) (by omega)) (fun v_66 n_66 M_66 hn_66 hp => ?_)
            obtain ⟨⟨rfl, rfl, rfl⟩, gr_66⟩ := hp
            refine jr_iadd (pc := 69) h dX1_settle_69 ?_
            refine jr_iast (pc := 70) h dX1_settle_70 (by assumption) (by omega) (by omega) ?_
            refine jm_gen (fun M2 hM2 => ?_)
            have hf2 : fr (FlS f) M M2 := fr_tr hf1 (fr_up hM2 ⟨by omega, by omega⟩)
            have hF2 := Fl_ld hF1 hM2 (by rw [c_ldp_s hi.1 (by omega)]; exact c_ldpr rB0 rE0 (by omega))
            refine jr_iinc (pc := 71) h [_, _, _] dX1_settle_71 (by decide) rfl rfl ?_
            refine jr_goto (pc := 74) h 10 dX1_settle_74 (by decide) ?_
            first
              | exact ih _ _ M2 (by omega) (by rw [← c_ldp_s (ct := ct) (td := td) (ld := ld) hi.1 (by omega)]; exact hF2) hf2 (by omega)
              | exact ih _ _ M1 (by omega) (by rw [← c_ldp_n (ct := ct) (td := td) (ld := ld) hi.1 (by omega)]; exact hF1) hf1 (by omega)
  refine jr_aload_n (pc := 0) h dX1_settle_0 rfl ?_
  refine gf_X1_24 (pc := 1) h dX1_settle_1 (by assumption) (by omega) ?_
  refine jr_iconst (pc := 4) h dX1_settle_4 ?_
  refine iv_X1_27 (pc := 5) h hl hR dX1_settle_5 ⟨(Nat.le_of_ble_eq_true rfl), (Nat.le_of_ble_eq_true rfl), (Nat.le_of_ble_eq_true rfl), (Nat.le_of_ble_eq_true rfl)⟩ (Nat.le_of_ble_eq_true rfl) (s_J7_fill_53178 (by assumption) (by omega) (by omega)) (fun v_5 n_5 M_5 hn_5 hp => ?_)
  obtain ⟨rfl, rfl, hM1⟩ := hp
  refine jr_iconst (pc := 8) h dX1_settle_8 ?_
  refine jr_istore_n (pc := 9) h [_, _, _] dX1_settle_9 (by decide) rfl ?_
  refine loop _ 0 _ M_5 (by omega) ?_ (fr_up hM1 ⟨by omega, by omega⟩) (Nat.lt_succ_self _)
  exact Fl_ld hF (by rw [hM1]; refine congrArg (fun g => up M (f + 5) (jdA 8 g)) (funext fun j => ?_); rfl) (c_ldpr rB rE (k := 0) (by omega))
