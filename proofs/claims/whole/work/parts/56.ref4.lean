/-! 56: the reference: the best meeting, loads, drawers -/
theorem so_v {f : Int → Int} : ∀ k : Nat, (soF f k).2 = f (soF f k).1 ∧ 0 ≤ (soF f k).1 ∧ (soF f k).1 ≤ k
  | 0 => ⟨rfl, by show (0 : Int) ≤ 0; omega, by show (0 : Int) ≤ 0; omega⟩
  | k + 1 => by
    have h := so_v (f := f) k
    have e : soF f (k + 1) = so1 f (soF f k) k := rfl
    rw [e]
    unfold so1
    split
    · refine ⟨rfl, ?_, ?_⟩
      · show (0 : Int) ≤ 1 + k; omega
      · show (1 : Int) + k ≤ (k + 1 : Nat); omega
    · exact ⟨h.1, h.2.1, by omega⟩
set_option maxHeartbeats 2000000 in
set_option maxRecDepth 20000 in
theorem s_X9_soonest {l : Launch} {n : Nat} {M : jdM} {m : Nat} {g : Nat → Int} {w : Int} {fl rd : Value} {B : Nat → Nat → Int} (hX : MX M n m g w fl rd B) {ct td bk si ld : Nat → Int} (hFX : FX M n m fl ct td bk si ld)  : Ct l yX9_soonest cX9_soonest 3 (some .int) rX9_soonest [.ref m] n M (fun vv n' M' => (vv = some (jI (x_soonest ct td si).1) ∧ n = n') ∧ MX M' n m (rg g (x_soonest ct td si).2) w fl rd B ∧ fr (MXf m) M M') := by
  refine Ct_of [some (.ref m), none, none] (by decide) (Nat.le_of_ble_eq_true rfl) rfl (fun κ hl h hR hRt hmn hn0 => ?_)
  have h : Ok κ RX9 cX9_soonest 3 (some .int) := h
  rcases hFX with ⟨rfl, hz⟩ | ⟨f, gf, A, rfl, hsep, hMF, hFM⟩
  · skip
    have hr0 := rows0 (td := td) hz
    have z2 := hz 2
    have z5 := hz 5
    obtain ⟨hnm, hOm, hBm⟩ := id hX
    have hOm : M m = jdO 9 (fX9 m _ _ .null rd) := hOm
    refine jr_aload_n (pc := 0) h dX9_soonest_0 rfl ?_
    refine jr_iconst (pc := 1) h dX9_soonest_1 ?_
    refine pf_X9_52 (pc := 2) h dX9_soonest_2 hOm (by omega) ?_
    refine jm_gen (fun M2 hM2 => ?_)
    rw [fX9_0] at hM2
    have hX := MX_o hX hM2
    have f9 : fr (MXf m) _ M2 := fr_up hM2 ⟨by omega, by omega⟩
    obtain ⟨hnm, hOm, hBm⟩ := id hX
    have f1 := f9
    refine jr_aload_n (pc := 5) h dX9_soonest_5 rfl ?_
    refine gf_X9_425 (pc := 6) h dX9_soonest_6 (by assumption) (by omega) ?_
    refine jr_ifnonnullN (pc := 9) h dX9_soonest_9 ?_
    refine jr_aload_n (pc := 12) h dX9_soonest_12 rfl ?_
    refine jr_iconst (pc := 13) h dX9_soonest_13 ?_
    refine iv_X9_58 (pc := 14) h hl hR dX9_soonest_14 ⟨(Nat.le_of_ble_eq_true rfl), (Nat.le_of_ble_eq_true rfl), (Nat.le_of_ble_eq_true rfl), (Nat.le_of_ble_eq_true rfl)⟩ (Nat.le_of_ble_eq_true rfl) (by assumption) (by omega) (s_X9_refused hX) (fun v_14 n_14 M_14 hn_14 hp => ?_)
    obtain ⟨⟨rfl, rfl⟩, hX, f9⟩ := hp
    have f1 := fr_tr f1 f9
    obtain ⟨hnm, hOm, hBm⟩ := id hX
    refine jr_iret (pc := 17) h hRt dX9_soonest_17 rfl (Nat.le_of_ble_eq_true rfl) (Nat.le_of_ble_eq_true rfl) ?_
    refine lfA9 ?_ hX f1
    unfold x_soonest
    (repeat' split) <;> first | rfl | (exfalso; omega) | contradiction
  · skip
    obtain ⟨hnm, hOm, hBm⟩ := id hX
    have hOm : M m = jdO 9 (fX9 m _ _ (.ref f) rd) := hOm
    refine jr_aload_n (pc := 0) h dX9_soonest_0 rfl ?_
    refine jr_iconst (pc := 1) h dX9_soonest_1 ?_
    refine pf_X9_52 (pc := 2) h dX9_soonest_2 hOm (by omega) ?_
    refine jm_gen (fun M2 hM2 => ?_)
    rw [fX9_0] at hM2
    have hX := MX_o hX hM2
    have f9 : fr (MXf m) _ M2 := fr_up hM2 ⟨by omega, by omega⟩
    obtain ⟨hnm, hOm, hBm⟩ := id hX
    have f1 := f9
    have hMF := MF_fr hMF f9 (Nat.le_refl _) (fun k h1 h2 q => by have := q.1; have := q.2; omega)
    obtain ⟨hnf, hOf, hAf⟩ := id hMF
    obtain ⟨⟨e0, e1, e2, e3, e4⟩, ⟨k5, k6, k7, k8, k9, k10, k11, k12, k13, k14, k15⟩, ⟨a2, a3, a4, a5, a6, a7, a8, a9, a10, a11, a12⟩, ⟨hlim, hLI, hends, hrt⟩, ⟨hbk, hld⟩, hc0, hc1, hc2, hc5⟩ := id hFM
    have l2 := hlim 2 (by omega)
    have l3 := hlim 3 (by omega)
    have l4 := hlim 4 (by omega)
    have l5 := hlim 5 (by omega)
    have l6 := hlim 6 (by omega)
    have l7 := hlim 7 (by omega)
    have l8 := hlim 8 (by omega)
    have l9 := hlim 9 (by omega)
    have l10 := hlim 10 (by omega)
    have l11 := hlim 11 (by omega)
    have l12 := hlim 12 (by omega)
    rw [show (jtab 0).2.2 2 = 4 from rfl] at l2
    rw [show (jtab 0).2.2 3 = 6 from rfl] at l3
    rw [show (jtab 0).2.2 4 = 6 from rfl] at l4
    rw [show (jtab 0).2.2 5 = 2 from rfl] at l5
    rw [show (jtab 0).2.2 6 = 8 from rfl] at l6
    rw [show (jtab 0).2.2 7 = 5 from rfl] at l7
    rw [show (jtab 0).2.2 8 = 6 from rfl] at l8
    rw [show (jtab 0).2.2 9 = 3 from rfl] at l9
    rw [show (jtab 0).2.2 10 = 3 from rfl] at l10
    rw [show (jtab 0).2.2 11 = 4 from rfl] at l11
    rw [show (jtab 0).2.2 12 = 4 from rfl] at l12
    have hcr : 1 ≤ c_rows ct td ∧ c_rows ct td ≤ 40 := by
      have h9 := (hLI 0 0 (by omega) (by omega) (by omega)).1 rfl
      have e9 : c_rows ct td = c_get td 0 0 0 := by unfold c_rows; rw [if_neg (by omega)]
      omega
    refine jr_aload_n (pc := 5) h dX9_soonest_5 rfl ?_
    refine gf_X9_425 (pc := 6) h dX9_soonest_6 (by assumption) (by omega) ?_
    refine jr_ifnonnull (pc := 9) h 18 dX9_soonest_9 (by decide) ?_
    refine jr_iconst (pc := 18) h dX9_soonest_18 ?_
    refine jr_istore_n (pc := 19) h [_, _, _] dX9_soonest_19 (by decide) rfl ?_
    refine jr_iconst (pc := 20) h dX9_soonest_20 ?_
    refine jr_istore_n (pc := 21) h [_, _, _] dX9_soonest_21 (by decide) rfl ?_
    have loop : ∀ (dq : Nat) (b i : Int), (1 ≤ i ∧ i ≤ c_rows ct td + 1) → (b = (soF (c_sec ct td si) (i - 1).toNat).1) → (50 - i).toNat < dq → J κ 3 0 0 n 22 [some (.ref m), some (jI b), some (jI i)] [] M2 := by
      intro dq
      induction dq with
      | zero => intro b i hi hb hd; omega
      | succ dq ih =>
        intro b i hi hb hd
        have sv := so_v (f := (c_sec ct td si)) (i - 1).toNat
        rw [← hb] at sv
        refine jr_iload_n (pc := 22) h dX9_soonest_22 rfl ?_
        refine jr_aload_n (pc := 23) h dX9_soonest_23 rfl ?_
        refine gf_X9_425 (pc := 24) h dX9_soonest_24 (by assumption) (by omega) ?_
        refine gf_X9_205 (pc := 27) h dX9_soonest_27 (by assumption) (by omega) ?_
        refine jr_icmp_gt (pc := 30) h 54 dX9_soonest_30 (by decide) (by omega) (by omega) (fun c_30 => ?_) (fun c_30 => ?_)
        · first | have d_30 := bz_0.mp c_30 | have d_30 := bz_1.mp c_30 | skip
          refine jr_aload_n (pc := 54) h dX9_soonest_54 rfl ?_
          refine jr_iload_n (pc := 55) h dX9_soonest_55 rfl ?_
          refine iv_X9_62 (pc := 56) h hl hR dX9_soonest_56 ⟨(Nat.le_of_ble_eq_true rfl), (Nat.le_of_ble_eq_true rfl), (Nat.le_of_ble_eq_true rfl), (Nat.le_of_ble_eq_true rfl)⟩ (Nat.le_of_ble_eq_true rfl) (by assumption) (by omega) (s_X9_done hX) (fun v_56 n_56 M_56 hn_56 hp => ?_)
          obtain ⟨⟨rfl, rfl⟩, hX, f9⟩ := hp
          have f1 := fr_tr f1 f9
          obtain ⟨hnm, hOm, hBm⟩ := id hX
          refine jr_iret (pc := 59) h hRt dX9_soonest_59 rfl (Nat.le_of_ble_eq_true rfl) (Nat.le_of_ble_eq_true rfl) ?_
          refine lfA9 ?_ hX f1
          unfold x_soonest
          rw [if_pos (by omega), show (c_rows ct td).toNat = (i - 1).toNat by omega, ← hb]
        · first | have d_30 := bz_0.mp c_30 | have d_30 := bz_1.mp c_30 | skip
          refine jr_aload_n (pc := 33) h dX9_soonest_33 rfl ?_
          refine jr_iload_n (pc := 34) h dX9_soonest_34 rfl ?_
          refine iv_X9_537 (pc := 35) h hl hR dX9_soonest_35 ⟨(Nat.le_of_ble_eq_true rfl), (Nat.le_of_ble_eq_true rfl), (Nat.le_of_ble_eq_true rfl), (Nat.le_of_ble_eq_true rfl)⟩ (Nat.le_of_ble_eq_true rfl) (by assumption) (by omega) (s_X9_meetsAt hX hMF hFM hsep (by omega)) (fun v_35 n_35 M_35 hn_35 hp => ?_)
          obtain ⟨⟨rfl, rfl, rfl⟩, gr_35⟩ := hp
          refine jr_aload_n (pc := 38) h dX9_soonest_38 rfl ?_
          refine jr_iload_n (pc := 39) h dX9_soonest_39 rfl ?_
          refine iv_X9_537 (pc := 40) h hl hR dX9_soonest_40 ⟨(Nat.le_of_ble_eq_true rfl), (Nat.le_of_ble_eq_true rfl), (Nat.le_of_ble_eq_true rfl), (Nat.le_of_ble_eq_true rfl)⟩ (Nat.le_of_ble_eq_true rfl) (by assumption) (by omega) (s_X9_meetsAt hX hMF hFM hsep (by omega)) (fun v_40 n_40 M_40 hn_40 hp => ?_)
          obtain ⟨⟨rfl, rfl, rfl⟩, gr_40⟩ := hp
          refine jr_icmp_ge (pc := 43) h 48 dX9_soonest_43 (by decide) (by omega) (by omega) (fun c_43 => ?_) (fun c_43 => ?_)
          · first | have d_43 := bz_0.mp c_43 | have d_43 := bz_1.mp c_43 | skip
            refine jr_iinc (pc := 48) h [_, _, _] dX9_soonest_48 (by decide) rfl rfl ?_
            refine jr_goto (pc := 51) h 22 dX9_soonest_51 (by decide) ?_
            refine ih _ _ (by omega) ?_ (by omega)
            rw [show (i + 1 - 1).toNat = (i - 1).toNat + 1 by omega]
            have e9 : soF (c_sec ct td si) ((i - 1).toNat + 1) = so1 (c_sec ct td si) (soF (c_sec ct td si) (i - 1).toNat) ((i - 1).toNat : Nat) := rfl
            rw [e9]
            have sv9 := (so_v (f := (c_sec ct td si)) (i - 1).toNat).1
            unfold so1
            rw [show (1 + (((i - 1).toNat : Nat) : Int)) = i by omega, sv9, ← hb]
            first
            | rw [if_pos (by omega)]
            | (rw [if_neg (by omega)]; exact hb)
          · first | have d_43 := bz_0.mp c_43 | have d_43 := bz_1.mp c_43 | skip
            refine jr_iload_n (pc := 46) h dX9_soonest_46 rfl ?_
            refine jr_istore_n (pc := 47) h [_, _, _] dX9_soonest_47 (by decide) rfl ?_
            refine jr_iinc (pc := 48) h [_, _, _] dX9_soonest_48 (by decide) rfl rfl ?_
            refine jr_goto (pc := 51) h 22 dX9_soonest_51 (by decide) ?_
            refine ih _ _ (by omega) ?_ (by omega)
            rw [show (i + 1 - 1).toNat = (i - 1).toNat + 1 by omega]
            have e9 : soF (c_sec ct td si) ((i - 1).toNat + 1) = so1 (c_sec ct td si) (soF (c_sec ct td si) (i - 1).toNat) ((i - 1).toNat : Nat) := rfl
            rw [e9]
            have sv9 := (so_v (f := (c_sec ct td si)) (i - 1).toNat).1
            unfold so1
            rw [show (1 + (((i - 1).toNat : Nat) : Int)) = i by omega, sv9, ← hb]
            first
            | rw [if_pos (by omega)]
            | (rw [if_neg (by omega)]; exact hb)
    exact loop _ _ _ (by omega) rfl (Nat.lt_succ_self _)
set_option maxHeartbeats 2000000 in
set_option maxRecDepth 20000 in
theorem s_X9_fairest {l : Launch} {n : Nat} {M : jdM} {m : Nat} {g : Nat → Int} {w : Int} {fl rd : Value} {B : Nat → Nat → Int} (hX : MX M n m g w fl rd B) {ct td bk si ld : Nat → Int} (hFX : FX M n m fl ct td bk si ld)  : Ct l yX9_fairest cX9_fairest 3 (some .int) rX9_fairest [.ref m] n M (fun vv n' M' => (vv = some (jI (x_fairest ct td si ld).1) ∧ n = n') ∧ MX M' n m (rg g (x_fairest ct td si ld).2) w fl rd B ∧ fr (MXf m) M M') := by
  refine Ct_of [some (.ref m), none, none] (by decide) (Nat.le_of_ble_eq_true rfl) rfl (fun κ hl h hR hRt hmn hn0 => ?_)
  have h : Ok κ RX9 cX9_fairest 3 (some .int) := h
  rcases hFX with ⟨rfl, hz⟩ | ⟨f, gf, A, rfl, hsep, hMF, hFM⟩
  · skip
    have hr0 := rows0 (td := td) hz
    have z2 := hz 2
    have z5 := hz 5
    obtain ⟨hnm, hOm, hBm⟩ := id hX
    have hOm : M m = jdO 9 (fX9 m _ _ .null rd) := hOm
    refine jr_aload_n (pc := 0) h dX9_fairest_0 rfl ?_
    refine jr_iconst (pc := 1) h dX9_fairest_1 ?_
    refine pf_X9_52 (pc := 2) h dX9_fairest_2 hOm (by omega) ?_
    refine jm_gen (fun M2 hM2 => ?_)
    rw [fX9_0] at hM2
    have hX := MX_o hX hM2
    have f9 : fr (MXf m) _ M2 := fr_up hM2 ⟨by omega, by omega⟩
    obtain ⟨hnm, hOm, hBm⟩ := id hX
    have f1 := f9
    refine jr_aload_n (pc := 5) h dX9_fairest_5 rfl ?_
    refine gf_X9_425 (pc := 6) h dX9_fairest_6 (by assumption) (by omega) ?_
    refine jr_ifnonnullN (pc := 9) h dX9_fairest_9 ?_
    refine jr_aload_n (pc := 12) h dX9_fairest_12 rfl ?_
    refine jr_iconst (pc := 13) h dX9_fairest_13 ?_
    refine iv_X9_58 (pc := 14) h hl hR dX9_fairest_14 ⟨(Nat.le_of_ble_eq_true rfl), (Nat.le_of_ble_eq_true rfl), (Nat.le_of_ble_eq_true rfl), (Nat.le_of_ble_eq_true rfl)⟩ (Nat.le_of_ble_eq_true rfl) (by assumption) (by omega) (s_X9_refused hX) (fun v_14 n_14 M_14 hn_14 hp => ?_)
    obtain ⟨⟨rfl, rfl⟩, hX, f9⟩ := hp
    have f1 := fr_tr f1 f9
    obtain ⟨hnm, hOm, hBm⟩ := id hX
    refine jr_iret (pc := 17) h hRt dX9_fairest_17 rfl (Nat.le_of_ble_eq_true rfl) (Nat.le_of_ble_eq_true rfl) ?_
    refine lfA9 ?_ hX f1
    unfold x_fairest
    (repeat' split) <;> first | rfl | (exfalso; omega) | contradiction
  · skip
    obtain ⟨hnm, hOm, hBm⟩ := id hX
    have hOm : M m = jdO 9 (fX9 m _ _ (.ref f) rd) := hOm
    refine jr_aload_n (pc := 0) h dX9_fairest_0 rfl ?_
    refine jr_iconst (pc := 1) h dX9_fairest_1 ?_
    refine pf_X9_52 (pc := 2) h dX9_fairest_2 hOm (by omega) ?_
    refine jm_gen (fun M2 hM2 => ?_)
    rw [fX9_0] at hM2
    have hX := MX_o hX hM2
    have f9 : fr (MXf m) _ M2 := fr_up hM2 ⟨by omega, by omega⟩
    obtain ⟨hnm, hOm, hBm⟩ := id hX
    have f1 := f9
    have hMF := MF_fr hMF f9 (Nat.le_refl _) (fun k h1 h2 q => by have := q.1; have := q.2; omega)
    obtain ⟨hnf, hOf, hAf⟩ := id hMF
    obtain ⟨⟨e0, e1, e2, e3, e4⟩, ⟨k5, k6, k7, k8, k9, k10, k11, k12, k13, k14, k15⟩, ⟨a2, a3, a4, a5, a6, a7, a8, a9, a10, a11, a12⟩, ⟨hlim, hLI, hends, hrt⟩, ⟨hbk, hld⟩, hc0, hc1, hc2, hc5⟩ := id hFM
    have l2 := hlim 2 (by omega)
    have l3 := hlim 3 (by omega)
    have l4 := hlim 4 (by omega)
    have l5 := hlim 5 (by omega)
    have l6 := hlim 6 (by omega)
    have l7 := hlim 7 (by omega)
    have l8 := hlim 8 (by omega)
    have l9 := hlim 9 (by omega)
    have l10 := hlim 10 (by omega)
    have l11 := hlim 11 (by omega)
    have l12 := hlim 12 (by omega)
    rw [show (jtab 0).2.2 2 = 4 from rfl] at l2
    rw [show (jtab 0).2.2 3 = 6 from rfl] at l3
    rw [show (jtab 0).2.2 4 = 6 from rfl] at l4
    rw [show (jtab 0).2.2 5 = 2 from rfl] at l5
    rw [show (jtab 0).2.2 6 = 8 from rfl] at l6
    rw [show (jtab 0).2.2 7 = 5 from rfl] at l7
    rw [show (jtab 0).2.2 8 = 6 from rfl] at l8
    rw [show (jtab 0).2.2 9 = 3 from rfl] at l9
    rw [show (jtab 0).2.2 10 = 3 from rfl] at l10
    rw [show (jtab 0).2.2 11 = 4 from rfl] at l11
    rw [show (jtab 0).2.2 12 = 4 from rfl] at l12
    have hcr : 1 ≤ c_rows ct td ∧ c_rows ct td ≤ 40 := by
      have h9 := (hLI 0 0 (by omega) (by omega) (by omega)).1 rfl
      have e9 : c_rows ct td = c_get td 0 0 0 := by unfold c_rows; rw [if_neg (by omega)]
      omega
    refine jr_aload_n (pc := 5) h dX9_fairest_5 rfl ?_
    refine gf_X9_425 (pc := 6) h dX9_fairest_6 (by assumption) (by omega) ?_
    refine jr_ifnonnull (pc := 9) h 18 dX9_fairest_9 (by decide) ?_
    refine jr_iconst (pc := 18) h dX9_fairest_18 ?_
    refine jr_istore_n (pc := 19) h [_, _, _] dX9_fairest_19 (by decide) rfl ?_
    refine jr_iconst (pc := 20) h dX9_fairest_20 ?_
    refine jr_istore_n (pc := 21) h [_, _, _] dX9_fairest_21 (by decide) rfl ?_
    have loop : ∀ (dq : Nat) (b i : Int), (1 ≤ i ∧ i ≤ c_rows ct td + 1) → (b = (soF (c_lack ct td si ld) (i - 1).toNat).1) → (50 - i).toNat < dq → J κ 3 0 0 n 22 [some (.ref m), some (jI b), some (jI i)] [] M2 := by
      intro dq
      induction dq with
      | zero => intro b i hi hb hd; omega
      | succ dq ih =>
        intro b i hi hb hd
        have sv := so_v (f := (c_lack ct td si ld)) (i - 1).toNat
        rw [← hb] at sv
        refine jr_iload_n (pc := 22) h dX9_fairest_22 rfl ?_
        refine jr_aload_n (pc := 23) h dX9_fairest_23 rfl ?_
        refine gf_X9_425 (pc := 24) h dX9_fairest_24 (by assumption) (by omega) ?_
        refine gf_X9_205 (pc := 27) h dX9_fairest_27 (by assumption) (by omega) ?_
        refine jr_icmp_gt (pc := 30) h 54 dX9_fairest_30 (by decide) (by omega) (by omega) (fun c_30 => ?_) (fun c_30 => ?_)
        · first | have d_30 := bz_0.mp c_30 | have d_30 := bz_1.mp c_30 | skip
          refine jr_aload_n (pc := 54) h dX9_fairest_54 rfl ?_
          refine jr_iload_n (pc := 55) h dX9_fairest_55 rfl ?_
          refine iv_X9_62 (pc := 56) h hl hR dX9_fairest_56 ⟨(Nat.le_of_ble_eq_true rfl), (Nat.le_of_ble_eq_true rfl), (Nat.le_of_ble_eq_true rfl), (Nat.le_of_ble_eq_true rfl)⟩ (Nat.le_of_ble_eq_true rfl) (by assumption) (by omega) (s_X9_done hX) (fun v_56 n_56 M_56 hn_56 hp => ?_)
          obtain ⟨⟨rfl, rfl⟩, hX, f9⟩ := hp
          have f1 := fr_tr f1 f9
          obtain ⟨hnm, hOm, hBm⟩ := id hX
          refine jr_iret (pc := 59) h hRt dX9_fairest_59 rfl (Nat.le_of_ble_eq_true rfl) (Nat.le_of_ble_eq_true rfl) ?_
          refine lfA9 ?_ hX f1
          unfold x_fairest
          rw [if_pos (by omega), show (c_rows ct td).toNat = (i - 1).toNat by omega, ← hb]
        · first | have d_30 := bz_0.mp c_30 | have d_30 := bz_1.mp c_30 | skip
          refine jr_aload_n (pc := 33) h dX9_fairest_33 rfl ?_
          refine jr_iload_n (pc := 34) h dX9_fairest_34 rfl ?_
          refine iv_X9_540 (pc := 35) h hl hR dX9_fairest_35 ⟨(Nat.le_of_ble_eq_true rfl), (Nat.le_of_ble_eq_true rfl), (Nat.le_of_ble_eq_true rfl), (Nat.le_of_ble_eq_true rfl)⟩ (Nat.le_of_ble_eq_true rfl) (by assumption) (by omega) (s_X9_lackingAt hX hMF hFM hsep (by omega)) (fun v_35 n_35 M_35 hn_35 hp => ?_)
          obtain ⟨⟨rfl, rfl, rfl⟩, gr_35⟩ := hp
          refine jr_aload_n (pc := 38) h dX9_fairest_38 rfl ?_
          refine jr_iload_n (pc := 39) h dX9_fairest_39 rfl ?_
          refine iv_X9_540 (pc := 40) h hl hR dX9_fairest_40 ⟨(Nat.le_of_ble_eq_true rfl), (Nat.le_of_ble_eq_true rfl), (Nat.le_of_ble_eq_true rfl), (Nat.le_of_ble_eq_true rfl)⟩ (Nat.le_of_ble_eq_true rfl) (by assumption) (by omega) (s_X9_lackingAt hX hMF hFM hsep (by omega)) (fun v_40 n_40 M_40 hn_40 hp => ?_)
          obtain ⟨⟨rfl, rfl, rfl⟩, gr_40⟩ := hp
          refine jr_icmp_ge (pc := 43) h 48 dX9_fairest_43 (by decide) (by omega) (by omega) (fun c_43 => ?_) (fun c_43 => ?_)
          · first | have d_43 := bz_0.mp c_43 | have d_43 := bz_1.mp c_43 | skip
            refine jr_iinc (pc := 48) h [_, _, _] dX9_fairest_48 (by decide) rfl rfl ?_
            refine jr_goto (pc := 51) h 22 dX9_fairest_51 (by decide) ?_
            refine ih _ _ (by omega) ?_ (by omega)
            rw [show (i + 1 - 1).toNat = (i - 1).toNat + 1 by omega]
            have e9 : soF (c_lack ct td si ld) ((i - 1).toNat + 1) = so1 (c_lack ct td si ld) (soF (c_lack ct td si ld) (i - 1).toNat) ((i - 1).toNat : Nat) := rfl
            rw [e9]
            have sv9 := (so_v (f := (c_lack ct td si ld)) (i - 1).toNat).1
            unfold so1
            rw [show (1 + (((i - 1).toNat : Nat) : Int)) = i by omega, sv9, ← hb]
            first
            | rw [if_pos (by omega)]
            | (rw [if_neg (by omega)]; exact hb)
          · first | have d_43 := bz_0.mp c_43 | have d_43 := bz_1.mp c_43 | skip
            refine jr_iload_n (pc := 46) h dX9_fairest_46 rfl ?_
            refine jr_istore_n (pc := 47) h [_, _, _] dX9_fairest_47 (by decide) rfl ?_
            refine jr_iinc (pc := 48) h [_, _, _] dX9_fairest_48 (by decide) rfl rfl ?_
            refine jr_goto (pc := 51) h 22 dX9_fairest_51 (by decide) ?_
            refine ih _ _ (by omega) ?_ (by omega)
            rw [show (i + 1 - 1).toNat = (i - 1).toNat + 1 by omega]
            have e9 : soF (c_lack ct td si ld) ((i - 1).toNat + 1) = so1 (c_lack ct td si ld) (soF (c_lack ct td si ld) (i - 1).toNat) ((i - 1).toNat : Nat) := rfl
            rw [e9]
            have sv9 := (so_v (f := (c_lack ct td si ld)) (i - 1).toNat).1
            unfold so1
            rw [show (1 + (((i - 1).toNat : Nat) : Int)) = i by omega, sv9, ← hb]
            first
            | rw [if_pos (by omega)]
            | (rw [if_neg (by omega)]; exact hb)
    exact loop _ _ _ (by omega) rfl (Nat.lt_succ_self _)
set_option maxHeartbeats 1000000 in
set_option maxRecDepth 20000 in
theorem s_X9_loadBy {l : Launch} {n : Nat} {M : jdM} {m f : Nat} {g : Nat → Int} {w : Int} {rd : Value} {B : Nat → Nat → Int} (hX : MX M n m g w (.ref f) rd B) {ct td bk si ld gf : Nat → Int} {A : Nat → Nat → Int} (hMF : MF M n f gf A) (hFM : FM ct td bk si ld gf A) (hsep : f + 30 < m ∨ m + 12 < f) {x y : Int} (hx : -2147483648 ≤ x ∧ x < 2147483648) (hy : -2147483648 ≤ y ∧ y < 2147483648) : Ct l yX9_loadBy cX9_loadBy 6 (some .int) rX9_loadBy [.ref m, jI x, jI y] n M (fun vv n' M' => (vv = some (jI (c_former ct td si x y)) ∧ n = n' ∧ M = M') ∧ (-1) ≤ (c_former ct td si x y) ∧ (c_former ct td si x y) ≤ 1000000) := by
  refine Ct_of [some (.ref m), some (jI x), some (jI y), none, none, none] (by decide) (Nat.le_of_ble_eq_true rfl) rfl (fun κ hl h hR hRt hmn hn0 => ?_)
  have h : Ok κ RX9 cX9_loadBy 6 (some .int) := h
  obtain ⟨hnm, hOm, hBm⟩ := id hX
  have hOm : M m = jdO 9 (fX9 m _ _ (.ref f) rd) := hOm
  obtain ⟨hnf, hOf, hAf⟩ := id hMF
  obtain ⟨⟨e0, e1, e2, e3, e4⟩, ⟨k5, k6, k7, k8, k9, k10, k11, k12, k13, k14, k15⟩, ⟨a2, a3, a4, a5, a6, a7, a8, a9, a10, a11, a12⟩, ⟨hlim, hLI, hends, hrt⟩, ⟨hbk, hld⟩, hc0, hc1, hc2, hc5⟩ := id hFM
  have l2 := hlim 2 (by omega)
  have l3 := hlim 3 (by omega)
  have l4 := hlim 4 (by omega)
  have l5 := hlim 5 (by omega)
  have l6 := hlim 6 (by omega)
  have l7 := hlim 7 (by omega)
  have l8 := hlim 8 (by omega)
  have l9 := hlim 9 (by omega)
  have l10 := hlim 10 (by omega)
  have l11 := hlim 11 (by omega)
  have l12 := hlim 12 (by omega)
  rw [show (jtab 0).2.2 2 = 4 from rfl] at l2
  rw [show (jtab 0).2.2 3 = 6 from rfl] at l3
  rw [show (jtab 0).2.2 4 = 6 from rfl] at l4
  rw [show (jtab 0).2.2 5 = 2 from rfl] at l5
  rw [show (jtab 0).2.2 6 = 8 from rfl] at l6
  rw [show (jtab 0).2.2 7 = 5 from rfl] at l7
  rw [show (jtab 0).2.2 8 = 6 from rfl] at l8
  rw [show (jtab 0).2.2 9 = 3 from rfl] at l9
  rw [show (jtab 0).2.2 10 = 3 from rfl] at l10
  rw [show (jtab 0).2.2 11 = 4 from rfl] at l11
  rw [show (jtab 0).2.2 12 = 4 from rfl] at l12
  have hcr : 1 ≤ c_rows ct td ∧ c_rows ct td ≤ 40 := by
    have h9 := (hLI 0 0 (by omega) (by omega) (by omega)).1 rfl
    have e9 : c_rows ct td = c_get td 0 0 0 := by unfold c_rows; rw [if_neg (by omega)]
    omega
  have loop : ∀ (dq : Nat) (v i : Int) (u5 : Option Value), (0 ≤ i ∧ i ≤ ct 4) → (-1 ≤ v ∧ v ≤ 1000000) → (v = foldZ (c_fl1 td (c_sw si 1 (c_rows ct td)) x y) (-1) i.toNat) → (10 - i).toNat < dq → J κ 6 0 0 n 5 [some (.ref m), some (jI x), some (jI y), some (jI v), some (jI i), u5] [] M := by
    intro dq
    induction dq with
    | zero => intro v i u5 hi hvb hv hd; omega
    | succ dq ih =>
      intro v i u5 hi hvb hv hd
      have hA5 : M (f + 5) = jdA 6 (A 5) := hAf 5 (by omega) (by omega)
      have hA6 : M (f + 6) = jdA 6 (A 6) := hAf 6 (by omega) (by omega)
      have hA7 : M (f + 7) = jdA 6 (A 7) := hAf 7 (by omega) (by omega)
      refine jr_iload (pc := 5) h dX9_loadBy_5 rfl ?_
      refine jr_aload_n (pc := 7) h dX9_loadBy_7 rfl ?_
      refine gf_X9_425 (pc := 8) h dX9_loadBy_8 (by assumption) (by omega) ?_
      refine gf_X9_302 (pc := 11) h dX9_loadBy_11 (by assumption) (by omega) ?_
      refine jr_icmp_ge (pc := 14) h 112 dX9_loadBy_14 (by decide) (by omega) (by omega) (fun c_14 => ?_) (fun c_14 => ?_)
      · skip
        refine jr_iload_n (pc := 112) h dX9_loadBy_112 rfl ?_
        refine jr_iret (pc := 113) h hRt dX9_loadBy_113 rfl (Nat.le_of_ble_eq_true rfl) (Nat.le_of_ble_eq_true rfl) ?_
        have es : c_former ct td si x y = v := by
          unfold c_former
          rw [show (ct 4).toNat = i.toNat by omega, ← hv]
        rw [es]
        exact ⟨⟨rfl, rfl, rfl⟩, by omega⟩
      · skip
        have g4 := a4 i.toNat (by omega)
        rw [show ((i.toNat : Nat) : Int) = i by omega] at g4
        have r40 := c_getr hrt 4 i 0
        have r41 := c_getr hrt 4 i 1
        have r42 := c_getr hrt 4 i 2
        have h4 := (hLI 4 i (by omega) (by omega) (by omega)).2.2.2.2.1 rfl
        refine jr_aload_n (pc := 17) h dX9_loadBy_17 rfl ?_
        refine gf_X9_425 (pc := 18) h dX9_loadBy_18 (by assumption) (by omega) ?_
        refine gf_X9_307 (pc := 21) h dX9_loadBy_21 (by assumption) (by omega) ?_
        refine jr_iload (pc := 24) h dX9_loadBy_24 rfl ?_
        refine jr_iald (pc := 26) h dX9_loadBy_26 (by assumption) (by omega) (by omega) ?_
        refine jr_iload_n (pc := 27) h dX9_loadBy_27 rfl ?_
        refine jr_icmp_eq (pc := 28) h 34 dX9_loadBy_28 (by decide) (by omega) (by omega) (fun c_28 => ?_) (fun c_28 => ?_)
        · skip
          refine jr_aload_n (pc := 34) h dX9_loadBy_34 rfl ?_
          refine iv_X9_440 (pc := 35) h hl hR dX9_loadBy_35 ⟨(Nat.le_of_ble_eq_true rfl), (Nat.le_of_ble_eq_true rfl), (Nat.le_of_ble_eq_true rfl), (Nat.le_of_ble_eq_true rfl)⟩ (Nat.le_of_ble_eq_true rfl) (by assumption) (by omega) (s_X9_sitsAll hX hMF hFM hsep) (fun v_35 n_35 M_35 hn_35 hp => ?_)
          obtain ⟨⟨rfl, rfl, rfl⟩, gr_35⟩ := hp
          have hml := mulb (a := (c_sw si 1 (c_rows ct td))) (b := c_get td 4 i 1) (A := 600) (B := 999) gr_35 r41
          have emu : (c_sw si 1 (c_rows ct td)) * A 6 i.toNat = (c_sw si 1 (c_rows ct td)) * c_get td 4 i 1 := by rw [g4.2.1]
          refine jr_aload_n (pc := 38) h dX9_loadBy_38 rfl ?_
          refine gf_X9_425 (pc := 39) h dX9_loadBy_39 (by assumption) (by omega) ?_
          refine gf_X9_310 (pc := 42) h dX9_loadBy_42 (by assumption) (by omega) ?_
          refine jr_iload (pc := 45) h dX9_loadBy_45 rfl ?_
          refine jr_iald (pc := 47) h dX9_loadBy_47 (by assumption) (by omega) (by omega) ?_
          refine jr_imul (pc := 48) h dX9_loadBy_48 ?_
          refine jr_aload_n (pc := 49) h dX9_loadBy_49 rfl ?_
          refine gf_X9_425 (pc := 50) h dX9_loadBy_50 (by assumption) (by omega) ?_
          refine gf_X9_312 (pc := 53) h dX9_loadBy_53 (by assumption) (by omega) ?_
          refine jr_iload (pc := 56) h dX9_loadBy_56 rfl ?_
          refine jr_iald (pc := 58) h dX9_loadBy_58 (by assumption) (by omega) (by omega) ?_
          refine jr_iadd (pc := 59) h dX9_loadBy_59 ?_
          refine jr_iconst (pc := 60) h dX9_loadBy_60 ?_
          refine jr_isub (pc := 61) h dX9_loadBy_61 ?_
          refine jr_aload_n (pc := 62) h dX9_loadBy_62 rfl ?_
          refine gf_X9_425 (pc := 63) h dX9_loadBy_63 (by assumption) (by omega) ?_
          refine gf_X9_312 (pc := 66) h dX9_loadBy_66 (by assumption) (by omega) ?_
          refine jr_iload (pc := 69) h dX9_loadBy_69 rfl ?_
          refine jr_iald (pc := 71) h dX9_loadBy_71 (by assumption) (by omega) (by omega) ?_
          refine jr_idivp (pc := 72) h dX9_loadBy_72 (by omega) (by omega) ?_
          have hq0 : 0 ≤ ((c_sw si 1 (c_rows ct td)) * A 6 i.toNat + A 7 i.toNat - 1) / A 7 i.toNat := Int.ediv_nonneg (by omega) (by omega)
          have hq1 : ((c_sw si 1 (c_rows ct td)) * A 6 i.toNat + A 7 i.toNat - 1) / A 7 i.toNat ≤ (c_sw si 1 (c_rows ct td)) * A 6 i.toNat + A 7 i.toNat - 1 := Int.ediv_le_self _ (by omega)
          have eq9 : ((c_sw si 1 (c_rows ct td)) * A 6 i.toNat + A 7 i.toNat - 1) / A 7 i.toNat = ((c_sw si 1 (c_rows ct td)) * c_get td 4 i 1 + c_get td 4 i 2 - 1) / c_get td 4 i 2 := by rw [g4.2.1, g4.2.2]
          obtain ⟨v9, ev9⟩ : ∃ z, ((c_sw si 1 (c_rows ct td)) * A 6 i.toNat + A 7 i.toNat - 1) / A 7 i.toNat = z := ⟨_, rfl⟩
          rw [ev9] at hq0 hq1 eq9 ⊢
          refine jr_istore (pc := 73) h [_, _, _, _, _, _] dX9_loadBy_73 (by decide) rfl ?_
          refine jr_iload_n (pc := 75) h dX9_loadBy_75 rfl ?_
          refine jr_iconst (pc := 76) h dX9_loadBy_76 ?_
          refine jr_icmp_eq (pc := 77) h 99 dX9_loadBy_77 (by decide) (by omega) (by omega) (fun c_77 => ?_) (fun c_77 => ?_)
          · skip
            refine jr_iload (pc := 99) h dX9_loadBy_99 rfl ?_
            refine jr_goto (pc := 101) h 105 dX9_loadBy_101 (by decide) ?_
            refine jr_istore_n (pc := 105) h [_, _, _, _, _, _] dX9_loadBy_105 (by decide) rfl ?_
            refine jr_iinc (pc := 106) h [_, _, _, _, _, _] dX9_loadBy_106 (by decide) rfl rfl ?_
            refine jr_goto (pc := 109) h 5 dX9_loadBy_109 (by decide) ?_
            refine ih _ _ _ (by omega) (by omega) ?_ (by omega)
            rw [foldZ_s (by omega), ← hv]
            unfold c_fl1
            first
            | (rw [if_neg (fun z => by omega)])
            | (rw [← eq9, if_pos ⟨by omega, by omega, by omega⟩])
            | (rw [← eq9, if_neg (fun z => by omega)])
          · skip
            refine jr_iload_n (pc := 80) h dX9_loadBy_80 rfl ?_
            refine jr_if_eq (pc := 81) h 93 dX9_loadBy_81 (by decide) (by omega) (fun c_81 => ?_) (fun c_81 => ?_)
            · skip
              refine jr_iload (pc := 93) h dX9_loadBy_93 rfl ?_
              refine jr_iload_n (pc := 95) h dX9_loadBy_95 rfl ?_
              refine jr_icmp_ge (pc := 96) h 104 dX9_loadBy_96 (by decide) (by omega) (by omega) (fun c_96 => ?_) (fun c_96 => ?_)
              · skip
                refine jr_iload_n (pc := 104) h dX9_loadBy_104 rfl ?_
                refine jr_istore_n (pc := 105) h [_, _, _, _, _, _] dX9_loadBy_105 (by decide) rfl ?_
                refine jr_iinc (pc := 106) h [_, _, _, _, _, _] dX9_loadBy_106 (by decide) rfl rfl ?_
                refine jr_goto (pc := 109) h 5 dX9_loadBy_109 (by decide) ?_
                refine ih _ _ _ (by omega) (by omega) ?_ (by omega)
                rw [foldZ_s (by omega), ← hv]
                unfold c_fl1
                first
                | (rw [if_neg (fun z => by omega)])
                | (rw [← eq9, if_pos ⟨by omega, by omega, by omega⟩])
                | (rw [← eq9, if_neg (fun z => by omega)])
              · skip
                refine jr_iload (pc := 99) h dX9_loadBy_99 rfl ?_
                refine jr_goto (pc := 101) h 105 dX9_loadBy_101 (by decide) ?_
                refine jr_istore_n (pc := 105) h [_, _, _, _, _, _] dX9_loadBy_105 (by decide) rfl ?_
                refine jr_iinc (pc := 106) h [_, _, _, _, _, _] dX9_loadBy_106 (by decide) rfl rfl ?_
                refine jr_goto (pc := 109) h 5 dX9_loadBy_109 (by decide) ?_
                refine ih _ _ _ (by omega) (by omega) ?_ (by omega)
                rw [foldZ_s (by omega), ← hv]
                unfold c_fl1
                first
                | (rw [if_neg (fun z => by omega)])
                | (rw [← eq9, if_pos ⟨by omega, by omega, by omega⟩])
                | (rw [← eq9, if_neg (fun z => by omega)])
            · skip
              refine jr_iload (pc := 84) h dX9_loadBy_84 rfl ?_
              refine jr_iload_n (pc := 86) h dX9_loadBy_86 rfl ?_
              refine jr_icmp_le (pc := 87) h 104 dX9_loadBy_87 (by decide) (by omega) (by omega) (fun c_87 => ?_) (fun c_87 => ?_)
              · skip
                refine jr_iload_n (pc := 104) h dX9_loadBy_104 rfl ?_
                refine jr_istore_n (pc := 105) h [_, _, _, _, _, _] dX9_loadBy_105 (by decide) rfl ?_
                refine jr_iinc (pc := 106) h [_, _, _, _, _, _] dX9_loadBy_106 (by decide) rfl rfl ?_
                refine jr_goto (pc := 109) h 5 dX9_loadBy_109 (by decide) ?_
                refine ih _ _ _ (by omega) (by omega) ?_ (by omega)
                rw [foldZ_s (by omega), ← hv]
                unfold c_fl1
                first
                | (rw [if_neg (fun z => by omega)])
                | (rw [← eq9, if_pos ⟨by omega, by omega, by omega⟩])
                | (rw [← eq9, if_neg (fun z => by omega)])
              · skip
                refine jr_goto (pc := 90) h 99 dX9_loadBy_90 (by decide) ?_
                refine jr_iload (pc := 99) h dX9_loadBy_99 rfl ?_
                refine jr_goto (pc := 101) h 105 dX9_loadBy_101 (by decide) ?_
                refine jr_istore_n (pc := 105) h [_, _, _, _, _, _] dX9_loadBy_105 (by decide) rfl ?_
                refine jr_iinc (pc := 106) h [_, _, _, _, _, _] dX9_loadBy_106 (by decide) rfl rfl ?_
                refine jr_goto (pc := 109) h 5 dX9_loadBy_109 (by decide) ?_
                refine ih _ _ _ (by omega) (by omega) ?_ (by omega)
                rw [foldZ_s (by omega), ← hv]
                unfold c_fl1
                first
                | (rw [if_neg (fun z => by omega)])
                | (rw [← eq9, if_pos ⟨by omega, by omega, by omega⟩])
                | (rw [← eq9, if_neg (fun z => by omega)])
        · skip
          refine jr_goto (pc := 31) h 106 dX9_loadBy_31 (by decide) ?_
          refine jr_iinc (pc := 106) h [_, _, _, _, _, _] dX9_loadBy_106 (by decide) rfl rfl ?_
          refine jr_goto (pc := 109) h 5 dX9_loadBy_109 (by decide) ?_
          refine ih _ _ _ (by omega) (by omega) ?_ (by omega)
          rw [foldZ_s (by omega), ← hv]
          unfold c_fl1
          first
          | (rw [if_neg (fun z => by omega)])
          | (rw [← eq9, if_pos ⟨by omega, by omega, by omega⟩])
          | (rw [← eq9, if_neg (fun z => by omega)])
  refine jr_iconst (pc := 0) h dX9_loadBy_0 ?_
  refine jr_istore_n (pc := 1) h [_, _, _, _, _, _] dX9_loadBy_1 (by decide) rfl ?_
  refine jr_iconst (pc := 2) h dX9_loadBy_2 ?_
  refine jr_istore (pc := 3) h [_, _, _, _, _, _] dX9_loadBy_3 (by decide) rfl ?_
  exact loop _ _ _ _ (by omega) (by omega) rfl (Nat.lt_succ_self _)
set_option maxHeartbeats 1000000 in
set_option maxRecDepth 20000 in
theorem s_X9_load {l : Launch} {n : Nat} {M : jdM} {m : Nat} {g : Nat → Int} {w : Int} {fl rd : Value} {B : Nat → Nat → Int} (hX : MX M n m g w fl rd B) {ct td bk si ld : Nat → Int} (hFX : FX M n m fl ct td bk si ld) {x y : Int} (hx : -2147483648 ≤ x ∧ x < 2147483648) (hy : -2147483648 ≤ y ∧ y < 2147483648)  : Ct l yX9_load cX9_load 4 (some .int) rX9_load [.ref m, jI x, jI y] n M (fun vv n' M' => (vv = some (jI (x_load ct td si x y).1) ∧ n = n') ∧ MX M' n m (rg g (x_load ct td si x y).2) w fl rd B ∧ fr (MXf m) M M') := by
  refine Ct_of [some (.ref m), some (jI x), some (jI y), none] (by decide) (Nat.le_of_ble_eq_true rfl) rfl (fun κ hl h hR hRt hmn hn0 => ?_)
  have h : Ok κ RX9 cX9_load 4 (some .int) := h
  obtain ⟨hnm, hOm, hBm⟩ := id hX
  have hOm : M m = jdO 9 (fX9 m _ _ fl rd) := hOm
  refine jr_aload_n (pc := 0) h dX9_load_0 rfl ?_
  refine jr_iconst (pc := 1) h dX9_load_1 ?_
  refine pf_X9_52 (pc := 2) h dX9_load_2 hOm (by omega) ?_
  refine jm_gen (fun M2 hM2 => ?_)
  rw [fX9_0] at hM2
  have hX := MX_o hX hM2
  have f9 : fr (MXf m) _ M2 := fr_up hM2 ⟨by omega, by omega⟩
  obtain ⟨hnm, hOm, hBm⟩ := id hX
  have f1 := f9
  have hFX := FX_fr hFX f9
  refine jr_aload_n (pc := 5) h dX9_load_5 rfl ?_
  refine jr_iload_n (pc := 6) h dX9_load_6 rfl ?_
  refine iv_X9_446 (pc := 7) h hl hR dX9_load_7 ⟨(Nat.le_of_ble_eq_true rfl), (Nat.le_of_ble_eq_true rfl), (Nat.le_of_ble_eq_true rfl), (Nat.le_of_ble_eq_true rfl)⟩ (Nat.le_of_ble_eq_true rfl) (by assumption) (by omega) (s_X9_isKind hX hFX (by omega)) (fun v_7 n_7 M_7 hn_7 hp => ?_)
  obtain ⟨⟨rfl, rfl, rfl⟩, gr_7⟩ := hp
  refine jr_if_ne (pc := 10) h 19 dX9_load_10 (by decide) (by omega) (fun c_10 => ?_) (fun c_10 => ?_)
  · first | have d_10 := bz_0.mp c_10 | have d_10 := bz_1.mp c_10 | skip
    have hr00 := fun (hz : ∀ j, ct j = 0) => rows0 (td := td) hz
    rcases hFX with ⟨rfl, hz⟩ | ⟨f, gf, A, rfl, hsep, hMF, hFM⟩
    · exfalso
      have z2 := hz 2
      have z5 := hz 5
      have zr := hr00 hz
      omega
    obtain ⟨hnf, hOf, hAf⟩ := id hMF
    obtain ⟨⟨e0, e1, e2, e3, e4⟩, ⟨k5, k6, k7, k8, k9, k10, k11, k12, k13, k14, k15⟩, ⟨a2, a3, a4, a5, a6, a7, a8, a9, a10, a11, a12⟩, ⟨hlim, hLI, hends, hrt⟩, ⟨hbk, hld⟩, hc0, hc1, hc2, hc5⟩ := id hFM
    have l2 := hlim 2 (by omega)
    have l3 := hlim 3 (by omega)
    have l4 := hlim 4 (by omega)
    have l5 := hlim 5 (by omega)
    have l6 := hlim 6 (by omega)
    have l7 := hlim 7 (by omega)
    have l8 := hlim 8 (by omega)
    have l9 := hlim 9 (by omega)
    have l10 := hlim 10 (by omega)
    have l11 := hlim 11 (by omega)
    have l12 := hlim 12 (by omega)
    rw [show (jtab 0).2.2 2 = 4 from rfl] at l2
    rw [show (jtab 0).2.2 3 = 6 from rfl] at l3
    rw [show (jtab 0).2.2 4 = 6 from rfl] at l4
    rw [show (jtab 0).2.2 5 = 2 from rfl] at l5
    rw [show (jtab 0).2.2 6 = 8 from rfl] at l6
    rw [show (jtab 0).2.2 7 = 5 from rfl] at l7
    rw [show (jtab 0).2.2 8 = 6 from rfl] at l8
    rw [show (jtab 0).2.2 9 = 3 from rfl] at l9
    rw [show (jtab 0).2.2 10 = 3 from rfl] at l10
    rw [show (jtab 0).2.2 11 = 4 from rfl] at l11
    rw [show (jtab 0).2.2 12 = 4 from rfl] at l12
    have hcr : 1 ≤ c_rows ct td ∧ c_rows ct td ≤ 40 := by
      have h9 := (hLI 0 0 (by omega) (by omega) (by omega)).1 rfl
      have e9 : c_rows ct td = c_get td 0 0 0 := by unfold c_rows; rw [if_neg (by omega)]
      omega
    refine jr_aload_n (pc := 19) h dX9_load_19 rfl ?_
    refine jr_iload_n (pc := 20) h dX9_load_20 rfl ?_
    refine jr_iload_n (pc := 21) h dX9_load_21 rfl ?_
    refine iv_X9_555 (pc := 22) h hl hR dX9_load_22 ⟨(Nat.le_of_ble_eq_true rfl), (Nat.le_of_ble_eq_true rfl), (Nat.le_of_ble_eq_true rfl), (Nat.le_of_ble_eq_true rfl)⟩ (Nat.le_of_ble_eq_true rfl) (by assumption) (by omega) (s_X9_loadBy hX hMF hFM hsep (by omega) (by omega)) (fun v_22 n_22 M_22 hn_22 hp => ?_)
    obtain ⟨⟨rfl, rfl, rfl⟩, gr_22⟩ := hp
    refine jr_istore_n (pc := 25) h [_, _, _, _] dX9_load_25 (by decide) rfl ?_
    refine jr_iload_n (pc := 26) h dX9_load_26 rfl ?_
    refine jr_iconst (pc := 27) h dX9_load_27 ?_
    refine jr_icmp_ne (pc := 28) h 40 dX9_load_28 (by decide) (by omega) (by omega) (fun c_28 => ?_) (fun c_28 => ?_)
    · first | have d_28 := bz_0.mp c_28 | have d_28 := bz_1.mp c_28 | skip
      refine jr_aload_n (pc := 40) h dX9_load_40 rfl ?_
      refine jr_iload_n (pc := 41) h dX9_load_41 rfl ?_
      refine iv_X9_62 (pc := 42) h hl hR dX9_load_42 ⟨(Nat.le_of_ble_eq_true rfl), (Nat.le_of_ble_eq_true rfl), (Nat.le_of_ble_eq_true rfl), (Nat.le_of_ble_eq_true rfl)⟩ (Nat.le_of_ble_eq_true rfl) (by assumption) (by omega) (s_X9_done hX) (fun v_42 n_42 M_42 hn_42 hp => ?_)
      obtain ⟨⟨rfl, rfl⟩, hX, f9⟩ := hp
      have f1 := fr_tr f1 f9
      obtain ⟨hnm, hOm, hBm⟩ := id hX
      refine jr_iret (pc := 45) h hRt dX9_load_45 rfl (Nat.le_of_ble_eq_true rfl) (Nat.le_of_ble_eq_true rfl) ?_
      refine lfA9 ?_ hX f1
      unfold x_load
      (repeat' split) <;> first | rfl | (exfalso; omega) | contradiction
    · first | have d_28 := bz_0.mp c_28 | have d_28 := bz_1.mp c_28 | skip
      refine jr_aload_n (pc := 31) h dX9_load_31 rfl ?_
      refine jr_bipush (pc := 32) h dX9_load_32 bp_6 ?_
      refine iv_X9_58 (pc := 34) h hl hR dX9_load_34 ⟨(Nat.le_of_ble_eq_true rfl), (Nat.le_of_ble_eq_true rfl), (Nat.le_of_ble_eq_true rfl), (Nat.le_of_ble_eq_true rfl)⟩ (Nat.le_of_ble_eq_true rfl) (by assumption) (by omega) (s_X9_refused hX) (fun v_34 n_34 M_34 hn_34 hp => ?_)
      obtain ⟨⟨rfl, rfl⟩, hX, f9⟩ := hp
      have f1 := fr_tr f1 f9
      obtain ⟨hnm, hOm, hBm⟩ := id hX
      refine jr_goto (pc := 37) h 45 dX9_load_37 (by decide) ?_
      refine jr_iret (pc := 45) h hRt dX9_load_45 rfl (Nat.le_of_ble_eq_true rfl) (Nat.le_of_ble_eq_true rfl) ?_
      refine lfA9 ?_ hX f1
      unfold x_load
      (repeat' split) <;> first | rfl | (exfalso; omega) | contradiction
  · first | have d_10 := bz_0.mp c_10 | have d_10 := bz_1.mp c_10 | skip
    refine jr_aload_n (pc := 13) h dX9_load_13 rfl ?_
    refine jr_iconst (pc := 14) h dX9_load_14 ?_
    refine iv_X9_58 (pc := 15) h hl hR dX9_load_15 ⟨(Nat.le_of_ble_eq_true rfl), (Nat.le_of_ble_eq_true rfl), (Nat.le_of_ble_eq_true rfl), (Nat.le_of_ble_eq_true rfl)⟩ (Nat.le_of_ble_eq_true rfl) (by assumption) (by omega) (s_X9_refused hX) (fun v_15 n_15 M_15 hn_15 hp => ?_)
    obtain ⟨⟨rfl, rfl⟩, hX, f9⟩ := hp
    have f1 := fr_tr f1 f9
    obtain ⟨hnm, hOm, hBm⟩ := id hX
    refine jr_iret (pc := 18) h hRt dX9_load_18 rfl (Nat.le_of_ble_eq_true rfl) (Nat.le_of_ble_eq_true rfl) ?_
    refine lfA9 ?_ hX f1
    unfold x_load
    (repeat' split) <;> first | rfl | (exfalso; omega) | contradiction
set_option maxHeartbeats 1000000 in
set_option maxRecDepth 20000 in
theorem s_X9_loadedInAll {l : Launch} {n : Nat} {M : jdM} {m f : Nat} {g : Nat → Int} {w : Int} {rd : Value} {B : Nat → Nat → Int} (hX : MX M n m g w (.ref f) rd B) {ct td bk si ld gf : Nat → Int} {A : Nat → Nat → Int} (hMF : MF M n f gf A) (hFM : FM ct td bk si ld gf A) (hsep : f + 30 < m ∨ m + 12 < f) {x : Int} (hx : 0 ≤ x ∧ x < 4) : Ct l yX9_loadedInAll cX9_loadedInAll 4 (some .int) rX9_loadedInAll [.ref m, jI x] n M (fun vv n' M' => (vv = some (jI (c_load ld 0 x + c_load ld 1 x)) ∧ n = n' ∧ M = M') ∧ (0) ≤ (c_load ld 0 x + c_load ld 1 x) ∧ (c_load ld 0 x + c_load ld 1 x) ≤ 20000) := by
  refine Ct_of [some (.ref m), some (jI x), none, none] (by decide) (Nat.le_of_ble_eq_true rfl) rfl (fun κ hl h hR hRt hmn hn0 => ?_)
  have h : Ok κ RX9 cX9_loadedInAll 4 (some .int) := h
  obtain ⟨hnm, hOm, hBm⟩ := id hX
  have hOm : M m = jdO 9 (fX9 m _ _ (.ref f) rd) := hOm
  obtain ⟨hnf, hOf, hAf⟩ := id hMF
  obtain ⟨⟨e0, e1, e2, e3, e4⟩, ⟨k5, k6, k7, k8, k9, k10, k11, k12, k13, k14, k15⟩, ⟨a2, a3, a4, a5, a6, a7, a8, a9, a10, a11, a12⟩, ⟨hlim, hLI, hends, hrt⟩, ⟨hbk, hld⟩, hc0, hc1, hc2, hc5⟩ := id hFM
  have l2 := hlim 2 (by omega)
  have l3 := hlim 3 (by omega)
  have l4 := hlim 4 (by omega)
  have l5 := hlim 5 (by omega)
  have l6 := hlim 6 (by omega)
  have l7 := hlim 7 (by omega)
  have l8 := hlim 8 (by omega)
  have l9 := hlim 9 (by omega)
  have l10 := hlim 10 (by omega)
  have l11 := hlim 11 (by omega)
  have l12 := hlim 12 (by omega)
  rw [show (jtab 0).2.2 2 = 4 from rfl] at l2
  rw [show (jtab 0).2.2 3 = 6 from rfl] at l3
  rw [show (jtab 0).2.2 4 = 6 from rfl] at l4
  rw [show (jtab 0).2.2 5 = 2 from rfl] at l5
  rw [show (jtab 0).2.2 6 = 8 from rfl] at l6
  rw [show (jtab 0).2.2 7 = 5 from rfl] at l7
  rw [show (jtab 0).2.2 8 = 6 from rfl] at l8
  rw [show (jtab 0).2.2 9 = 3 from rfl] at l9
  rw [show (jtab 0).2.2 10 = 3 from rfl] at l10
  rw [show (jtab 0).2.2 11 = 4 from rfl] at l11
  rw [show (jtab 0).2.2 12 = 4 from rfl] at l12
  have hw60 : c_get td 0 0 1 ≤ 60 ∧ c_get td 0 0 2 ≤ 60 := by
    have h9 := (hLI 0 0 (by omega) (by omega) (by omega)).1 rfl
    omega
  have hFI : FI ct td := ⟨hlim, hLI, hends, hrt⟩
  have hSET : SET ct td bk si ld := ⟨hbk, hld⟩
  have hldb : ∀ t k : Int, 0 ≤ c_load ld t k ∧ c_load ld t k ≤ 9999 := fun t k => by
    unfold c_load
    split
    · rw [hld _ (by omega)]
      have h9 := sumZ_b (f := fun i => if c_get td 6 i 0 * 4 + c_get td 6 i 1 = ((t * 4 + k).toNat : Int) then c_get td 6 i 2 else 0) (k := (ct 6).toNat) (lo := 0) (hi := 999) (fun i _ _ => by
        show 0 ≤ (if c_get td 6 i 0 * 4 + c_get td 6 i 1 = ((t * 4 + k).toNat : Int) then c_get td 6 i 2 else 0) ∧ (if c_get td 6 i 0 * 4 + c_get td 6 i 1 = ((t * 4 + k).toNat : Int) then c_get td 6 i 2 else 0) ≤ 999
        have := c_getr hrt 6 i 2
        split <;> omega)
      omega
    · omega
  have loop : ∀ (dq : Nat) (v i : Int), (0 ≤ i ∧ i ≤ ct 5) → (0 ≤ v ∧ v ≤ 9999 * i) → (v = sumZ (fun t => c_load ld t x) i.toNat) → (10 - i).toNat < dq → J κ 4 0 0 n 4 [some (.ref m), some (jI x), some (jI v), some (jI i)] [] M := by
    intro dq
    induction dq with
    | zero => intro v i hi hvb hv hd; omega
    | succ dq ih =>
      intro v i hi hvb hv hd
      have hA11 : M (f + 11) = jdA 8 (A 11) := hAf 11 (by omega) (by omega)
      refine jr_iload_n (pc := 4) h dX9_loadedInAll_4 rfl ?_
      refine jr_aload_n (pc := 5) h dX9_loadedInAll_5 rfl ?_
      refine gf_X9_425 (pc := 6) h dX9_loadedInAll_6 (by assumption) (by omega) ?_
      refine gf_X9_214 (pc := 9) h dX9_loadedInAll_9 (by assumption) (by omega) ?_
      refine jr_icmp_ge (pc := 12) h 37 dX9_loadedInAll_12 (by decide) (by omega) (by omega) (fun c_12 => ?_) (fun c_12 => ?_)
      · skip
        refine jr_iload_n (pc := 37) h dX9_loadedInAll_37 rfl ?_
        refine jr_iret (pc := 38) h hRt dX9_loadedInAll_38 rfl (Nat.le_of_ble_eq_true rfl) (Nat.le_of_ble_eq_true rfl) ?_
        have es : c_load ld 0 x + c_load ld 1 x = v := by
          rw [hv]
          by_cases q : ct 5 < 2
          · rw [ld_0 hSET hFI (t := 1) (k := x) (by omega) (by omega) (Or.inl (by omega)), show i.toNat = 1 by omega]
            show _ + 0 = 0 + c_load ld 0 x
            omega
          · rw [show i.toNat = 2 by omega]
            show _ = 0 + c_load ld 0 x + c_load ld 1 x
            omega
        have lb0 := hldb 0 x
        have lb1 := hldb 1 x
        rw [es]
        exact ⟨⟨rfl, rfl, rfl⟩, by omega⟩
      · skip
        have eA : A 11 (4 * i + x).toNat = c_load ld i x := by
          have g6 := a6 (4 * i + x).toNat (by omega)
          unfold c_load
          rw [if_pos (by omega), show (i * 4 + x).toNat = (4 * i + x).toNat by omega, hld _ (by omega)]
          exact g6
        have lb := hldb i x
        refine jr_iload_n (pc := 15) h dX9_loadedInAll_15 rfl ?_
        refine jr_aload_n (pc := 16) h dX9_loadedInAll_16 rfl ?_
        refine gf_X9_425 (pc := 17) h dX9_loadedInAll_17 (by assumption) (by omega) ?_
        refine gf_X9_337 (pc := 20) h dX9_loadedInAll_20 (by assumption) (by omega) ?_
        refine jr_iconst (pc := 23) h dX9_loadedInAll_23 ?_
        refine jr_iload_n (pc := 24) h dX9_loadedInAll_24 rfl ?_
        refine jr_imul (pc := 25) h dX9_loadedInAll_25 ?_
        refine jr_iload_n (pc := 26) h dX9_loadedInAll_26 rfl ?_
        refine jr_iadd (pc := 27) h dX9_loadedInAll_27 ?_
        refine jr_iald (pc := 28) h dX9_loadedInAll_28 (by assumption) (by omega) (by omega) ?_
        refine jr_iadd (pc := 29) h dX9_loadedInAll_29 ?_
        refine jr_istore_n (pc := 30) h [_, _, _, _] dX9_loadedInAll_30 (by decide) rfl ?_
        refine jr_iinc (pc := 31) h [_, _, _, _] dX9_loadedInAll_31 (by decide) rfl rfl ?_
        refine jr_goto (pc := 34) h 4 dX9_loadedInAll_34 (by decide) ?_
        refine ih _ _ (by omega) (by omega) ?_ (by omega)
        rw [sumZ_s (by omega), ← hv, eA]
  refine jr_iconst (pc := 0) h dX9_loadedInAll_0 ?_
  refine jr_istore_n (pc := 1) h [_, _, _, _] dX9_loadedInAll_1 (by decide) rfl ?_
  refine jr_iconst (pc := 2) h dX9_loadedInAll_2 ?_
  refine jr_istore_n (pc := 3) h [_, _, _, _] dX9_loadedInAll_3 (by decide) rfl ?_
  exact loop _ _ _ (by omega) (by omega) rfl (Nat.lt_succ_self _)
set_option maxHeartbeats 1000000 in
set_option maxRecDepth 20000 in
theorem s_X9_spare {l : Launch} {n : Nat} {M : jdM} {m : Nat} {g : Nat → Int} {w : Int} {fl rd : Value} {B : Nat → Nat → Int} (hX : MX M n m g w fl rd B) {ct td bk si ld : Nat → Int} (hFX : FX M n m fl ct td bk si ld) {x : Int} (hx : -2147483648 ≤ x ∧ x < 2147483648)  : Ct l yX9_spare cX9_spare 3 (some .int) rX9_spare [.ref m, jI x] n M (fun vv n' M' => (vv = some (jI (x_spare ct td si ld x).1) ∧ n = n') ∧ MX M' n m (rg g (x_spare ct td si ld x).2) w fl rd B ∧ fr (MXf m) M M') := by
  refine Ct_of [some (.ref m), some (jI x), none] (by decide) (Nat.le_of_ble_eq_true rfl) rfl (fun κ hl h hR hRt hmn hn0 => ?_)
  have h : Ok κ RX9 cX9_spare 3 (some .int) := h
  obtain ⟨hnm, hOm, hBm⟩ := id hX
  have hOm : M m = jdO 9 (fX9 m _ _ fl rd) := hOm
  refine jr_aload_n (pc := 0) h dX9_spare_0 rfl ?_
  refine jr_iconst (pc := 1) h dX9_spare_1 ?_
  refine pf_X9_52 (pc := 2) h dX9_spare_2 hOm (by omega) ?_
  refine jm_gen (fun M2 hM2 => ?_)
  rw [fX9_0] at hM2
  have hX := MX_o hX hM2
  have f9 : fr (MXf m) _ M2 := fr_up hM2 ⟨by omega, by omega⟩
  obtain ⟨hnm, hOm, hBm⟩ := id hX
  have f1 := f9
  have hFX := FX_fr hFX f9
  refine jr_aload_n (pc := 5) h dX9_spare_5 rfl ?_
  refine jr_iload_n (pc := 6) h dX9_spare_6 rfl ?_
  refine iv_X9_446 (pc := 7) h hl hR dX9_spare_7 ⟨(Nat.le_of_ble_eq_true rfl), (Nat.le_of_ble_eq_true rfl), (Nat.le_of_ble_eq_true rfl), (Nat.le_of_ble_eq_true rfl)⟩ (Nat.le_of_ble_eq_true rfl) (by assumption) (by omega) (s_X9_isKind hX hFX (by omega)) (fun v_7 n_7 M_7 hn_7 hp => ?_)
  obtain ⟨⟨rfl, rfl, rfl⟩, gr_7⟩ := hp
  refine jr_if_ne (pc := 10) h 19 dX9_spare_10 (by decide) (by omega) (fun c_10 => ?_) (fun c_10 => ?_)
  · first | have d_10 := bz_0.mp c_10 | have d_10 := bz_1.mp c_10 | skip
    have hr00 := fun (hz : ∀ j, ct j = 0) => rows0 (td := td) hz
    rcases hFX with ⟨rfl, hz⟩ | ⟨f, gf, A, rfl, hsep, hMF, hFM⟩
    · exfalso
      have z2 := hz 2
      have z5 := hz 5
      have zr := hr00 hz
      omega
    obtain ⟨hnf, hOf, hAf⟩ := id hMF
    obtain ⟨⟨e0, e1, e2, e3, e4⟩, ⟨k5, k6, k7, k8, k9, k10, k11, k12, k13, k14, k15⟩, ⟨a2, a3, a4, a5, a6, a7, a8, a9, a10, a11, a12⟩, ⟨hlim, hLI, hends, hrt⟩, ⟨hbk, hld⟩, hc0, hc1, hc2, hc5⟩ := id hFM
    have l2 := hlim 2 (by omega)
    have l3 := hlim 3 (by omega)
    have l4 := hlim 4 (by omega)
    have l5 := hlim 5 (by omega)
    have l6 := hlim 6 (by omega)
    have l7 := hlim 7 (by omega)
    have l8 := hlim 8 (by omega)
    have l9 := hlim 9 (by omega)
    have l10 := hlim 10 (by omega)
    have l11 := hlim 11 (by omega)
    have l12 := hlim 12 (by omega)
    rw [show (jtab 0).2.2 2 = 4 from rfl] at l2
    rw [show (jtab 0).2.2 3 = 6 from rfl] at l3
    rw [show (jtab 0).2.2 4 = 6 from rfl] at l4
    rw [show (jtab 0).2.2 5 = 2 from rfl] at l5
    rw [show (jtab 0).2.2 6 = 8 from rfl] at l6
    rw [show (jtab 0).2.2 7 = 5 from rfl] at l7
    rw [show (jtab 0).2.2 8 = 6 from rfl] at l8
    rw [show (jtab 0).2.2 9 = 3 from rfl] at l9
    rw [show (jtab 0).2.2 10 = 3 from rfl] at l10
    rw [show (jtab 0).2.2 11 = 4 from rfl] at l11
    rw [show (jtab 0).2.2 12 = 4 from rfl] at l12
    have hcr : 1 ≤ c_rows ct td ∧ c_rows ct td ≤ 40 := by
      have h9 := (hLI 0 0 (by omega) (by omega) (by omega)).1 rfl
      have e9 : c_rows ct td = c_get td 0 0 0 := by unfold c_rows; rw [if_neg (by omega)]
      omega
    refine jr_aload_n (pc := 19) h dX9_spare_19 rfl ?_
    refine jr_iload_n (pc := 20) h dX9_spare_20 rfl ?_
    refine jr_iconst (pc := 21) h dX9_spare_21 ?_
    refine iv_X9_555 (pc := 22) h hl hR dX9_spare_22 ⟨(Nat.le_of_ble_eq_true rfl), (Nat.le_of_ble_eq_true rfl), (Nat.le_of_ble_eq_true rfl), (Nat.le_of_ble_eq_true rfl)⟩ (Nat.le_of_ble_eq_true rfl) (by assumption) (by omega) (s_X9_loadBy hX hMF hFM hsep (by omega) (by omega)) (fun v_22 n_22 M_22 hn_22 hp => ?_)
    obtain ⟨⟨rfl, rfl, rfl⟩, gr_22⟩ := hp
    refine jr_istore_n (pc := 25) h [_, _, _] dX9_spare_25 (by decide) rfl ?_
    refine jr_iload_n (pc := 26) h dX9_spare_26 rfl ?_
    refine jr_iconst (pc := 27) h dX9_spare_27 ?_
    refine jr_icmp_ne (pc := 28) h 40 dX9_spare_28 (by decide) (by omega) (by omega) (fun c_28 => ?_) (fun c_28 => ?_)
    · first | have d_28 := bz_0.mp c_28 | have d_28 := bz_1.mp c_28 | skip
      refine jr_aload_n (pc := 40) h dX9_spare_40 rfl ?_
      refine jr_aload_n (pc := 41) h dX9_spare_41 rfl ?_
      refine jr_iload_n (pc := 42) h dX9_spare_42 rfl ?_
      refine iv_X9_559 (pc := 43) h hl hR dX9_spare_43 ⟨(Nat.le_of_ble_eq_true rfl), (Nat.le_of_ble_eq_true rfl), (Nat.le_of_ble_eq_true rfl), (Nat.le_of_ble_eq_true rfl)⟩ (Nat.le_of_ble_eq_true rfl) (by assumption) (by omega) (s_X9_loadedInAll hX hMF hFM hsep (by omega)) (fun v_43 n_43 M_43 hn_43 hp => ?_)
      obtain ⟨⟨rfl, rfl, rfl⟩, gr_43⟩ := hp
      refine jr_iload_n (pc := 46) h dX9_spare_46 rfl ?_
      refine jr_isub (pc := 47) h dX9_spare_47 ?_
      refine iv_X9_62 (pc := 48) h hl hR dX9_spare_48 ⟨(Nat.le_of_ble_eq_true rfl), (Nat.le_of_ble_eq_true rfl), (Nat.le_of_ble_eq_true rfl), (Nat.le_of_ble_eq_true rfl)⟩ (Nat.le_of_ble_eq_true rfl) (by assumption) (by omega) (s_X9_done hX) (fun v_48 n_48 M_48 hn_48 hp => ?_)
      obtain ⟨⟨rfl, rfl⟩, hX, f9⟩ := hp
      have f1 := fr_tr f1 f9
      obtain ⟨hnm, hOm, hBm⟩ := id hX
      refine jr_iret (pc := 51) h hRt dX9_spare_51 rfl (Nat.le_of_ble_eq_true rfl) (Nat.le_of_ble_eq_true rfl) ?_
      refine lfA9 ?_ hX f1
      unfold x_spare
      (repeat' split) <;> first | rfl | (exfalso; omega) | contradiction
    · first | have d_28 := bz_0.mp c_28 | have d_28 := bz_1.mp c_28 | skip
      refine jr_aload_n (pc := 31) h dX9_spare_31 rfl ?_
      refine jr_bipush (pc := 32) h dX9_spare_32 bp_6 ?_
      refine iv_X9_522 (pc := 34) h hl hR dX9_spare_34 ⟨(Nat.le_of_ble_eq_true rfl), (Nat.le_of_ble_eq_true rfl), (Nat.le_of_ble_eq_true rfl), (Nat.le_of_ble_eq_true rfl)⟩ (Nat.le_of_ble_eq_true rfl) (by assumption) (by omega) (s_X9_lost hX) (fun v_34 n_34 M_34 hn_34 hp => ?_)
      obtain ⟨⟨rfl, rfl⟩, hX, f9⟩ := hp
      have f1 := fr_tr f1 f9
      obtain ⟨hnm, hOm, hBm⟩ := id hX
      refine jr_goto (pc := 37) h 51 dX9_spare_37 (by decide) ?_
      refine jr_iret (pc := 51) h hRt dX9_spare_51 rfl (Nat.le_of_ble_eq_true rfl) (Nat.le_of_ble_eq_true rfl) ?_
      refine lfA9 ?_ hX f1
      unfold x_spare
      (repeat' split) <;> first | rfl | (exfalso; omega) | contradiction
  · first | have d_10 := bz_0.mp c_10 | have d_10 := bz_1.mp c_10 | skip
    refine jr_aload_n (pc := 13) h dX9_spare_13 rfl ?_
    refine jr_iconst (pc := 14) h dX9_spare_14 ?_
    refine iv_X9_522 (pc := 15) h hl hR dX9_spare_15 ⟨(Nat.le_of_ble_eq_true rfl), (Nat.le_of_ble_eq_true rfl), (Nat.le_of_ble_eq_true rfl), (Nat.le_of_ble_eq_true rfl)⟩ (Nat.le_of_ble_eq_true rfl) (by assumption) (by omega) (s_X9_lost hX) (fun v_15 n_15 M_15 hn_15 hp => ?_)
    obtain ⟨⟨rfl, rfl⟩, hX, f9⟩ := hp
    have f1 := fr_tr f1 f9
    obtain ⟨hnm, hOm, hBm⟩ := id hX
    refine jr_iret (pc := 18) h hRt dX9_spare_18 rfl (Nat.le_of_ble_eq_true rfl) (Nat.le_of_ble_eq_true rfl) ?_
    refine lfA9 ?_ hX f1
    unfold x_spare
    (repeat' split) <;> first | rfl | (exfalso; omega) | contradiction
theorem i32or0 (s : Int32) : s ||| Int32.ofInt 0 = s := by
  rw [show Int32.ofInt 0 = 0 from rfl]
  exact Int32.or_zero
set_option maxHeartbeats 2000000 in
set_option maxRecDepth 20000 in
theorem s_X9_unloaded {l : Launch} {n : Nat} {M : jdM} {m : Nat} {g : Nat → Int} {w : Int} {fl rd : Value} {B : Nat → Nat → Int} (hX : MX M n m g w fl rd B) {ct td bk si ld : Nat → Int} (hFX : FX M n m fl ct td bk si ld)  : Ct l yX9_unloaded cX9_unloaded 3 (some .int) rX9_unloaded [.ref m] n M (fun vv n' M' => (vv = some (jI (x_unl ct td ld).1) ∧ n = n') ∧ MX M' n m (rg g (x_unl ct td ld).2) w fl rd B ∧ fr (MXf m) M M') := by
  refine Ct_of [some (.ref m), none, none] (by decide) (Nat.le_of_ble_eq_true rfl) rfl (fun κ hl h hR hRt hmn hn0 => ?_)
  have h : Ok κ RX9 cX9_unloaded 3 (some .int) := h
  rcases hFX with ⟨rfl, hz⟩ | ⟨f, gf, A, rfl, hsep, hMF, hFM⟩
  · skip
    have hr0 := rows0 (td := td) hz
    have z2 := hz 2
    have z5 := hz 5
    obtain ⟨hnm, hOm, hBm⟩ := id hX
    have hOm : M m = jdO 9 (fX9 m _ _ .null rd) := hOm
    refine jr_aload_n (pc := 0) h dX9_unloaded_0 rfl ?_
    refine jr_iconst (pc := 1) h dX9_unloaded_1 ?_
    refine pf_X9_52 (pc := 2) h dX9_unloaded_2 hOm (by omega) ?_
    refine jm_gen (fun M2 hM2 => ?_)
    rw [fX9_0] at hM2
    have hX := MX_o hX hM2
    have f9 : fr (MXf m) _ M2 := fr_up hM2 ⟨by omega, by omega⟩
    obtain ⟨hnm, hOm, hBm⟩ := id hX
    have f1 := f9
    refine jr_aload_n (pc := 5) h dX9_unloaded_5 rfl ?_
    refine gf_X9_425 (pc := 6) h dX9_unloaded_6 (by assumption) (by omega) ?_
    refine jr_ifnonnullN (pc := 9) h dX9_unloaded_9 ?_
    refine jr_aload_n (pc := 12) h dX9_unloaded_12 rfl ?_
    refine jr_iconst (pc := 13) h dX9_unloaded_13 ?_
    refine iv_X9_58 (pc := 14) h hl hR dX9_unloaded_14 ⟨(Nat.le_of_ble_eq_true rfl), (Nat.le_of_ble_eq_true rfl), (Nat.le_of_ble_eq_true rfl), (Nat.le_of_ble_eq_true rfl)⟩ (Nat.le_of_ble_eq_true rfl) (by assumption) (by omega) (s_X9_refused hX) (fun v_14 n_14 M_14 hn_14 hp => ?_)
    obtain ⟨⟨rfl, rfl⟩, hX, f9⟩ := hp
    have f1 := fr_tr f1 f9
    obtain ⟨hnm, hOm, hBm⟩ := id hX
    refine jr_iret (pc := 17) h hRt dX9_unloaded_17 rfl (Nat.le_of_ble_eq_true rfl) (Nat.le_of_ble_eq_true rfl) ?_
    refine lfA9 ?_ hX f1
    unfold x_unl
    (repeat' split) <;> first | rfl | (exfalso; omega) | contradiction
  · skip
    obtain ⟨hnm, hOm, hBm⟩ := id hX
    have hOm : M m = jdO 9 (fX9 m _ _ (.ref f) rd) := hOm
    refine jr_aload_n (pc := 0) h dX9_unloaded_0 rfl ?_
    refine jr_iconst (pc := 1) h dX9_unloaded_1 ?_
    refine pf_X9_52 (pc := 2) h dX9_unloaded_2 hOm (by omega) ?_
    refine jm_gen (fun M2 hM2 => ?_)
    rw [fX9_0] at hM2
    have hX := MX_o hX hM2
    have f9 : fr (MXf m) _ M2 := fr_up hM2 ⟨by omega, by omega⟩
    obtain ⟨hnm, hOm, hBm⟩ := id hX
    have f1 := f9
    have hMF := MF_fr hMF f9 (Nat.le_refl _) (fun k h1 h2 q => by have := q.1; have := q.2; omega)
    obtain ⟨hnf, hOf, hAf⟩ := id hMF
    obtain ⟨⟨e0, e1, e2, e3, e4⟩, ⟨k5, k6, k7, k8, k9, k10, k11, k12, k13, k14, k15⟩, ⟨a2, a3, a4, a5, a6, a7, a8, a9, a10, a11, a12⟩, ⟨hlim, hLI, hends, hrt⟩, ⟨hbk, hld⟩, hc0, hc1, hc2, hc5⟩ := id hFM
    have l2 := hlim 2 (by omega)
    have l3 := hlim 3 (by omega)
    have l4 := hlim 4 (by omega)
    have l5 := hlim 5 (by omega)
    have l6 := hlim 6 (by omega)
    have l7 := hlim 7 (by omega)
    have l8 := hlim 8 (by omega)
    have l9 := hlim 9 (by omega)
    have l10 := hlim 10 (by omega)
    have l11 := hlim 11 (by omega)
    have l12 := hlim 12 (by omega)
    rw [show (jtab 0).2.2 2 = 4 from rfl] at l2
    rw [show (jtab 0).2.2 3 = 6 from rfl] at l3
    rw [show (jtab 0).2.2 4 = 6 from rfl] at l4
    rw [show (jtab 0).2.2 5 = 2 from rfl] at l5
    rw [show (jtab 0).2.2 6 = 8 from rfl] at l6
    rw [show (jtab 0).2.2 7 = 5 from rfl] at l7
    rw [show (jtab 0).2.2 8 = 6 from rfl] at l8
    rw [show (jtab 0).2.2 9 = 3 from rfl] at l9
    rw [show (jtab 0).2.2 10 = 3 from rfl] at l10
    rw [show (jtab 0).2.2 11 = 4 from rfl] at l11
    rw [show (jtab 0).2.2 12 = 4 from rfl] at l12
    have hcr : 1 ≤ c_rows ct td ∧ c_rows ct td ≤ 40 := by
      have h9 := (hLI 0 0 (by omega) (by omega) (by omega)).1 rfl
      have e9 : c_rows ct td = c_get td 0 0 0 := by unfold c_rows; rw [if_neg (by omega)]
      omega
    have hA18 : M2 (f + 18) = jdA 6 (A 18) := hAf 18 (by omega) (by omega)
    have hA19 : M2 (f + 19) = jdA 6 (A 19) := hAf 19 (by omega) (by omega)
    refine jr_aload_n (pc := 5) h dX9_unloaded_5 rfl ?_
    refine gf_X9_425 (pc := 6) h dX9_unloaded_6 (by assumption) (by omega) ?_
    refine jr_ifnonnull (pc := 9) h 18 dX9_unloaded_9 (by decide) ?_
    refine jr_iconst (pc := 18) h dX9_unloaded_18 ?_
    refine jr_istore_n (pc := 19) h [_, _, _] dX9_unloaded_19 (by decide) rfl ?_
    refine jr_iconst (pc := 20) h dX9_unloaded_20 ?_
    refine jr_istore_n (pc := 21) h [_, _, _] dX9_unloaded_21 (by decide) rfl ?_
    have loop : ∀ (dq : Nat) (i : Int) (s : Int32), (0 ≤ i ∧ i ≤ ct 8) → (s = foldS (un1 ct td ld) (Int32.ofInt 0) i.toNat) → (10 - i).toNat < dq → J κ 3 0 0 n 22 [some (.ref m), some (.int s), some (jI i)] [] M2 := by
      intro dq
      induction dq with
      | zero => intro i s hi hs hd; omega
      | succ dq ih =>
        intro i s hi hs hd
        refine jr_iload_n (pc := 22) h dX9_unloaded_22 rfl ?_
        refine jr_aload_n (pc := 23) h dX9_unloaded_23 rfl ?_
        refine gf_X9_425 (pc := 24) h dX9_unloaded_24 (by assumption) (by omega) ?_
        refine gf_X9_365 (pc := 27) h dX9_unloaded_27 (by assumption) (by omega) ?_
        refine jr_icmp_ge (pc := 30) h 84 dX9_unloaded_30 (by decide) (by omega) (by omega) (fun c_30 => ?_) (fun c_30 => ?_)
        · skip
          refine jr_aload_n (pc := 84) h dX9_unloaded_84 rfl ?_
          refine jr_iload_n (pc := 85) h dX9_unloaded_85 rfl ?_
          rw [jI_to]
          refine iv_X9_62 (pc := 86) h hl hR dX9_unloaded_86 ⟨(Nat.le_of_ble_eq_true rfl), (Nat.le_of_ble_eq_true rfl), (Nat.le_of_ble_eq_true rfl), (Nat.le_of_ble_eq_true rfl)⟩ (Nat.le_of_ble_eq_true rfl) (by assumption) (by omega) (s_X9_done hX) (fun v_86 n_86 M_86 hn_86 hp => ?_)
          obtain ⟨⟨rfl, rfl⟩, hX, f9⟩ := hp
          have f1 := fr_tr f1 f9
          obtain ⟨hnm, hOm, hBm⟩ := id hX
          refine jr_iret (pc := 89) h hRt dX9_unloaded_89 rfl (Nat.le_of_ble_eq_true rfl) (Nat.le_of_ble_eq_true rfl) ?_
          refine lfA9 ?_ hX f1
          unfold x_unl
          rw [if_pos (by omega), show (ct 8).toNat = i.toNat by omega, ← hs]
        · skip
          have g8 := a8 i.toNat (by omega)
          rw [show ((i.toNat : Nat) : Int) = i by omega] at g8
          have r80 := c_getr hrt 8 i 0
          have r81 := c_getr hrt 8 i 1
          have h8 := ((hLI 8 i (by omega) (by omega) (by omega)).2.2.2.2.2.2.2.2.1 rfl).2.2.1
          refine jr_iload_n (pc := 33) h dX9_unloaded_33 rfl ?_
          refine jr_aload_n (pc := 34) h dX9_unloaded_34 rfl ?_
          refine gf_X9_425 (pc := 35) h dX9_unloaded_35 (by assumption) (by omega) ?_
          refine gf_X9_375 (pc := 38) h dX9_unloaded_38 (by assumption) (by omega) ?_
          refine jr_iload_n (pc := 41) h dX9_unloaded_41 rfl ?_
          refine jr_iald (pc := 42) h dX9_unloaded_42 (by assumption) (by omega) (by omega) ?_
          refine jr_aload_n (pc := 43) h dX9_unloaded_43 rfl ?_
          refine gf_X9_425 (pc := 44) h dX9_unloaded_44 (by assumption) (by omega) ?_
          refine gf_X9_205 (pc := 47) h dX9_unloaded_47 (by assumption) (by omega) ?_
          refine jr_icmp_gt (pc := 50) h 75 dX9_unloaded_50 (by decide) (by omega) (by omega) (fun c_50 => ?_) (fun c_50 => ?_)
          · skip
            refine jr_iconst (pc := 75) h dX9_unloaded_75 ?_
            refine jr_ior (pc := 76) h dX9_unloaded_76 ?_
            refine jr_istore_n (pc := 77) h [_, _, _] dX9_unloaded_77 (by decide) rfl ?_
            refine jr_iinc (pc := 78) h [_, _, _] dX9_unloaded_78 (by decide) rfl rfl ?_
            refine jr_goto (pc := 81) h 22 dX9_unloaded_81 (by decide) ?_
            refine ih _ _ (by omega) ?_ (by omega)
            rw [foldS_s (by omega), ← hs]
            unfold un1
            first
            | (rw [if_pos ⟨by omega, by omega⟩])
            | (rw [if_neg (fun z => by omega), i32or0])
          · skip
            refine jr_aload_n (pc := 53) h dX9_unloaded_53 rfl ?_
            refine jr_aload_n (pc := 54) h dX9_unloaded_54 rfl ?_
            refine gf_X9_425 (pc := 55) h dX9_unloaded_55 (by assumption) (by omega) ?_
            refine gf_X9_378 (pc := 58) h dX9_unloaded_58 (by assumption) (by omega) ?_
            refine jr_iload_n (pc := 61) h dX9_unloaded_61 rfl ?_
            refine jr_iald (pc := 62) h dX9_unloaded_62 (by assumption) (by omega) (by omega) ?_
            rw [show A 19 i.toNat = c_get td 8 i 1 from g8.2.1]
            refine iv_X9_559 (pc := 63) h hl hR dX9_unloaded_63 ⟨(Nat.le_of_ble_eq_true rfl), (Nat.le_of_ble_eq_true rfl), (Nat.le_of_ble_eq_true rfl), (Nat.le_of_ble_eq_true rfl)⟩ (Nat.le_of_ble_eq_true rfl) (by assumption) (by omega) (s_X9_loadedInAll hX hMF hFM hsep (by omega)) (fun v_63 n_63 M_63 hn_63 hp => ?_)
            obtain ⟨⟨rfl, rfl, rfl⟩, gr_63⟩ := hp
            refine jr_if_ne (pc := 66) h 75 dX9_unloaded_66 (by decide) (by omega) (fun c_66 => ?_) (fun c_66 => ?_)
            · skip
              refine jr_iconst (pc := 75) h dX9_unloaded_75 ?_
              refine jr_ior (pc := 76) h dX9_unloaded_76 ?_
              refine jr_istore_n (pc := 77) h [_, _, _] dX9_unloaded_77 (by decide) rfl ?_
              refine jr_iinc (pc := 78) h [_, _, _] dX9_unloaded_78 (by decide) rfl rfl ?_
              refine jr_goto (pc := 81) h 22 dX9_unloaded_81 (by decide) ?_
              refine ih _ _ (by omega) ?_ (by omega)
              rw [foldS_s (by omega), ← hs]
              unfold un1
              first
              | (rw [if_pos ⟨by omega, by omega⟩])
              | (rw [if_neg (fun z => by omega), i32or0])
            · skip
              refine jr_iconst (pc := 69) h dX9_unloaded_69 ?_
              refine jr_iload_n (pc := 70) h dX9_unloaded_70 rfl ?_
              refine jr_ishl (pc := 71) h dX9_unloaded_71 ?_
              refine jr_goto (pc := 72) h 76 dX9_unloaded_72 (by decide) ?_
              refine jr_ior (pc := 76) h dX9_unloaded_76 ?_
              refine jr_istore_n (pc := 77) h [_, _, _] dX9_unloaded_77 (by decide) rfl ?_
              refine jr_iinc (pc := 78) h [_, _, _] dX9_unloaded_78 (by decide) rfl rfl ?_
              refine jr_goto (pc := 81) h 22 dX9_unloaded_81 (by decide) ?_
              refine ih _ _ (by omega) ?_ (by omega)
              rw [foldS_s (by omega), ← hs]
              unfold un1
              first
              | (rw [if_pos ⟨by omega, by omega⟩])
              | (rw [if_neg (fun z => by omega), i32or0])
    exact loop _ _ _ (by omega) rfl (Nat.lt_succ_self _)
set_option maxHeartbeats 1000000 in
set_option maxRecDepth 20000 in
theorem s_X9_empties {l : Launch} {n : Nat} {M : jdM} {m f : Nat} {g : Nat → Int} {w : Int} {rd : Value} {B : Nat → Nat → Int} (hX : MX M n m g w (.ref f) rd B) {ct td bk si ld gf : Nat → Int} {A : Nat → Nat → Int} (hMF : MF M n f gf A) (hFM : FM ct td bk si ld gf A) (hsep : f + 30 < m ∨ m + 12 < f) {x : Int} (hx : 0 ≤ x ∧ x < ct 5) : Ct l yX9_empties cX9_empties 3 none rX9_empties [.ref m, jI x] n M (fun vv n' M' => (vv = none ∧ n = n') ∧ MX M' n m g w (.ref f) rd (up B 2 (fun j : Nat => if j < 14 then (if (j : Int) < c_get td 5 x 1 then c_get td 5 x 2 else 0) else B 2 j)) ∧ fr (MXf m) M M') := by
  refine Ct_of [some (.ref m), some (jI x), none] (by decide) (Nat.le_of_ble_eq_true rfl) rfl (fun κ hl h hR hRt hmn hn0 => ?_)
  have h : Ok κ RX9 cX9_empties 3 none := h
  obtain ⟨hnm, hOm, hBm⟩ := id hX
  have hOm : M m = jdO 9 (fX9 m _ _ (.ref f) rd) := hOm
  obtain ⟨hnf, hOf, hAf⟩ := id hMF
  obtain ⟨⟨e0, e1, e2, e3, e4⟩, ⟨k5, k6, k7, k8, k9, k10, k11, k12, k13, k14, k15⟩, ⟨a2, a3, a4, a5, a6, a7, a8, a9, a10, a11, a12⟩, ⟨hlim, hLI, hends, hrt⟩, ⟨hbk, hld⟩, hc0, hc1, hc2, hc5⟩ := id hFM
  have l2 := hlim 2 (by omega)
  have l3 := hlim 3 (by omega)
  have l4 := hlim 4 (by omega)
  have l5 := hlim 5 (by omega)
  have l6 := hlim 6 (by omega)
  have l7 := hlim 7 (by omega)
  have l8 := hlim 8 (by omega)
  have l9 := hlim 9 (by omega)
  have l10 := hlim 10 (by omega)
  have l11 := hlim 11 (by omega)
  have l12 := hlim 12 (by omega)
  rw [show (jtab 0).2.2 2 = 4 from rfl] at l2
  rw [show (jtab 0).2.2 3 = 6 from rfl] at l3
  rw [show (jtab 0).2.2 4 = 6 from rfl] at l4
  rw [show (jtab 0).2.2 5 = 2 from rfl] at l5
  rw [show (jtab 0).2.2 6 = 8 from rfl] at l6
  rw [show (jtab 0).2.2 7 = 5 from rfl] at l7
  rw [show (jtab 0).2.2 8 = 6 from rfl] at l8
  rw [show (jtab 0).2.2 9 = 3 from rfl] at l9
  rw [show (jtab 0).2.2 10 = 3 from rfl] at l10
  rw [show (jtab 0).2.2 11 = 4 from rfl] at l11
  rw [show (jtab 0).2.2 12 = 4 from rfl] at l12
  have g5 := a5 x.toNat (by omega)
  rw [show ((x.toNat : Nat) : Int) = x by omega] at g5
  have r51 := c_getr hrt 5 x 1
  have r52 := c_getr hrt 5 x 2
  have h51 := ((hLI 5 x (by omega) (by omega) (by omega)).2.2.2.2.2.1 rfl)
  have loop : ∀ (dq : Nat) (i : Int) (M1 : jdM), (0 ≤ i ∧ i ≤ 14) → (MX M1 n m g w (.ref f) rd (up B 2 (fun j : Nat => if j < i.toNat then (if (j : Int) < c_get td 5 x 1 then c_get td 5 x 2 else 0) else B 2 j))) → (MF M1 n f gf A) → (fr (MXf m) M M1) → (15 - i).toNat < dq → J κ 3 0 0 n 2 [some (.ref m), some (jI x), some (jI i)] [] M1 := by
    intro dq
    induction dq with
    | zero => intro i M1 hi hX1 hMF f1 hd; omega
    | succ dq ih =>
      intro i M1 hi hX1 hMF f1 hd
      obtain ⟨hnm, hOm, hBm⟩ := id hX1
      have hB2 : M1 (m + 2) = jdA 14 (fun j : Nat => if j < i.toNat then (if (j : Int) < c_get td 5 x 1 then c_get td 5 x 2 else 0) else B 2 j) := hBm 2 (by omega) (by omega)
      obtain ⟨hnf, hOf, hAf⟩ := id hMF
      obtain ⟨⟨e0, e1, e2, e3, e4⟩, ⟨k5, k6, k7, k8, k9, k10, k11, k12, k13, k14, k15⟩, ⟨a2, a3, a4, a5, a6, a7, a8, a9, a10, a11, a12⟩, ⟨hlim, hLI, hends, hrt⟩, ⟨hbk, hld⟩, hc0, hc1, hc2, hc5⟩ := id hFM
      have l2 := hlim 2 (by omega)
      have l3 := hlim 3 (by omega)
      have l4 := hlim 4 (by omega)
      have l5 := hlim 5 (by omega)
      have l6 := hlim 6 (by omega)
      have l7 := hlim 7 (by omega)
      have l8 := hlim 8 (by omega)
      have l9 := hlim 9 (by omega)
      have l10 := hlim 10 (by omega)
      have l11 := hlim 11 (by omega)
      have l12 := hlim 12 (by omega)
      rw [show (jtab 0).2.2 2 = 4 from rfl] at l2
      rw [show (jtab 0).2.2 3 = 6 from rfl] at l3
      rw [show (jtab 0).2.2 4 = 6 from rfl] at l4
      rw [show (jtab 0).2.2 5 = 2 from rfl] at l5
      rw [show (jtab 0).2.2 6 = 8 from rfl] at l6
      rw [show (jtab 0).2.2 7 = 5 from rfl] at l7
      rw [show (jtab 0).2.2 8 = 6 from rfl] at l8
      rw [show (jtab 0).2.2 9 = 3 from rfl] at l9
      rw [show (jtab 0).2.2 10 = 3 from rfl] at l10
      rw [show (jtab 0).2.2 11 = 4 from rfl] at l11
      rw [show (jtab 0).2.2 12 = 4 from rfl] at l12
      have hA9 : M1 (f + 9) = jdA 2 (A 9) := hAf 9 (by omega) (by omega)
      have hA10 : M1 (f + 10) = jdA 2 (A 10) := hAf 10 (by omega) (by omega)
      refine jr_iload_n (pc := 2) h dX9_empties_2 rfl ?_
      refine jr_bipush (pc := 3) h dX9_empties_3 bp_14 ?_
      refine jr_icmp_ge (pc := 5) h 46 dX9_empties_5 (by decide) (by omega) (by omega) (fun c_5 => ?_) (fun c_5 => ?_)
      · skip
        refine jr_vret (pc := 46) h hRt dX9_empties_46 (Nat.le_of_ble_eq_true rfl) (Nat.le_of_ble_eq_true rfl) ?_
        refine ⟨⟨rfl, rfl⟩, ?_, f1⟩
        rw [show i.toNat = 14 by omega] at hX1
        exact hX1
      · skip
        refine jr_aload_n (pc := 8) h dX9_empties_8 rfl ?_
        refine gf_X9_17 (pc := 9) h dX9_empties_9 (by assumption) (by omega) ?_
        refine jr_iload_n (pc := 12) h dX9_empties_12 rfl ?_
        refine jr_iload_n (pc := 13) h dX9_empties_13 rfl ?_
        refine jr_aload_n (pc := 14) h dX9_empties_14 rfl ?_
        refine gf_X9_425 (pc := 15) h dX9_empties_15 (by assumption) (by omega) ?_
        refine gf_X9_329 (pc := 18) h dX9_empties_18 (by assumption) (by omega) ?_
        refine jr_iload_n (pc := 21) h dX9_empties_21 rfl ?_
        refine jr_iald (pc := 22) h dX9_empties_22 (by assumption) (by omega) (by omega) ?_
        refine jr_icmp_ge (pc := 23) h 38 dX9_empties_23 (by decide) (by omega) (by omega) (fun c_23 => ?_) (fun c_23 => ?_)
        · skip
          refine jr_iconst (pc := 38) h dX9_empties_38 ?_
          refine jr_iast (pc := 39) h dX9_empties_39 hB2 (by omega) (by omega) ?_
          refine jm_gen (fun M2 hM2 => ?_)
          have e9 : up (fun j : Nat => if j < i.toNat then (if (j : Int) < c_get td 5 x 1 then c_get td 5 x 2 else 0) else B 2 j) i.toNat 0 = (fun j : Nat => if j < (i + 1).toNat then (if (j : Int) < c_get td 5 x 1 then c_get td 5 x 2 else 0) else B 2 j) := by
            funext j
            unfold up
            dsimp only
            by_cases q : j = i.toNat
            · rw [if_pos q, if_pos (by omega)]
              first
              | (rw [if_pos (by omega)]; omega)
              | (rw [if_neg (by omega)])
            · rw [if_neg q]
              by_cases q2 : j < i.toNat
              · rw [if_pos q2, if_pos (show j < (i + 1).toNat by omega)]
              · rw [if_neg q2, if_neg (show ¬ j < (i + 1).toNat by omega)]
          rw [e9] at hM2
          have hX2 := MX_B (i := 2) hX1 hM2 (by omega)
          rw [up_up] at hX2
          have f1 := fr_tr f1 (fr_up (S := MXf m) hM2 ⟨by omega, by omega⟩)
          have hMF := MF_fr hMF (fr_up (S := MXf m) hM2 ⟨by omega, by omega⟩) (Nat.le_refl _) (fun k h1 h2 q => by have := q.1; have := q.2; omega)
          refine jr_iinc (pc := 40) h [_, _, _] dX9_empties_40 (by decide) rfl rfl ?_
          refine jr_goto (pc := 43) h 2 dX9_empties_43 (by decide) ?_
          exact ih _ _ (by omega) hX2 hMF f1 (by omega)
        · skip
          refine jr_aload_n (pc := 26) h dX9_empties_26 rfl ?_
          refine gf_X9_425 (pc := 27) h dX9_empties_27 (by assumption) (by omega) ?_
          refine gf_X9_331 (pc := 30) h dX9_empties_30 (by assumption) (by omega) ?_
          refine jr_iload_n (pc := 33) h dX9_empties_33 rfl ?_
          refine jr_iald (pc := 34) h dX9_empties_34 (by assumption) (by omega) (by omega) ?_
          refine jr_goto (pc := 35) h 39 dX9_empties_35 (by decide) ?_
          refine jr_iast (pc := 39) h dX9_empties_39 hB2 (by omega) (by omega) ?_
          refine jm_gen (fun M2 hM2 => ?_)
          have e9 : up (fun j : Nat => if j < i.toNat then (if (j : Int) < c_get td 5 x 1 then c_get td 5 x 2 else 0) else B 2 j) i.toNat (A 10 x.toNat) = (fun j : Nat => if j < (i + 1).toNat then (if (j : Int) < c_get td 5 x 1 then c_get td 5 x 2 else 0) else B 2 j) := by
            funext j
            unfold up
            dsimp only
            by_cases q : j = i.toNat
            · rw [if_pos q, if_pos (by omega)]
              first
              | (rw [if_pos (by omega)]; omega)
              | (rw [if_neg (by omega)])
            · rw [if_neg q]
              by_cases q2 : j < i.toNat
              · rw [if_pos q2, if_pos (show j < (i + 1).toNat by omega)]
              · rw [if_neg q2, if_neg (show ¬ j < (i + 1).toNat by omega)]
          rw [e9] at hM2
          have hX2 := MX_B (i := 2) hX1 hM2 (by omega)
          rw [up_up] at hX2
          have f1 := fr_tr f1 (fr_up (S := MXf m) hM2 ⟨by omega, by omega⟩)
          have hMF := MF_fr hMF (fr_up (S := MXf m) hM2 ⟨by omega, by omega⟩) (Nat.le_refl _) (fun k h1 h2 q => by have := q.1; have := q.2; omega)
          refine jr_iinc (pc := 40) h [_, _, _] dX9_empties_40 (by decide) rfl rfl ?_
          refine jr_goto (pc := 43) h 2 dX9_empties_43 (by decide) ?_
          exact ih _ _ (by omega) hX2 hMF f1 (by omega)
  refine jr_iconst (pc := 0) h dX9_empties_0 ?_
  refine jr_istore_n (pc := 1) h [_, _, _] dX9_empties_1 (by decide) rfl ?_
  have e0 : up B 2 (fun j : Nat => if j < (0 : Int).toNat then (if (j : Int) < c_get td 5 x 1 then c_get td 5 x 2 else 0) else B 2 j) = B := by
    refine up_id ?_
    funext j
    rw [if_neg (by omega)]
  exact loop _ _ M (by omega) (by rw [e0]; exact hX) hMF fr_rf (Nat.lt_succ_self _)
set_option maxHeartbeats 2000000 in
set_option maxRecDepth 20000 in
theorem s_X9_goesIn {l : Launch} {n : Nat} {M : jdM} {m f : Nat} {g : Nat → Int} {w : Int} {rd : Value} {B : Nat → Nat → Int} (hX : MX M n m g w (.ref f) rd B) {ct td bk si ld gf : Nat → Int} {A : Nat → Nat → Int} (hMF : MF M n f gf A) (hFM : FM ct td bk si ld gf A) (hsep : f + 30 < m ∨ m + 12 < f) {x y : Int} (hx : 0 ≤ x ∧ x < ct 5) (hy : 0 ≤ y ∧ y < ct 2) (hdl : ∀ j, -1000 ≤ B 2 j ∧ B 2 j ≤ 1000) : Ct l yX9_goesIn cX9_goesIn 4 (some .boolean) rX9_goesIn [.ref m, jI x, jI y] n M (fun vv n' M' => (vv = some (jI (bz (¬ (ffd (B 2) (c_get td 2 y 0) 0 (c_get td 5 x 1).toNat) < 0))) ∧ n = n') ∧ MX M' n m g w (.ref f) rd (up B 2 (if (ffd (B 2) (c_get td 2 y 0) 0 (c_get td 5 x 1).toNat) < 0 then B 2 else up (B 2) (ffd (B 2) (c_get td 2 y 0) 0 (c_get td 5 x 1).toNat).toNat (B 2 (ffd (B 2) (c_get td 2 y 0) 0 (c_get td 5 x 1).toNat).toNat - c_get td 2 y 0))) ∧ fr (MXf m) M M') := by
  refine Ct_of [some (.ref m), some (jI x), some (jI y), none] (by decide) (Nat.le_of_ble_eq_true rfl) rfl (fun κ hl h hR hRt hmn hn0 => ?_)
  have h : Ok κ RX9 cX9_goesIn 4 (some .boolean) := h
  obtain ⟨hnm, hOm, hBm⟩ := id hX
  have hOm : M m = jdO 9 (fX9 m _ _ (.ref f) rd) := hOm
  obtain ⟨hnf, hOf, hAf⟩ := id hMF
  obtain ⟨⟨e0, e1, e2, e3, e4⟩, ⟨k5, k6, k7, k8, k9, k10, k11, k12, k13, k14, k15⟩, ⟨a2, a3, a4, a5, a6, a7, a8, a9, a10, a11, a12⟩, ⟨hlim, hLI, hends, hrt⟩, ⟨hbk, hld⟩, hc0, hc1, hc2, hc5⟩ := id hFM
  have l2 := hlim 2 (by omega)
  have l3 := hlim 3 (by omega)
  have l4 := hlim 4 (by omega)
  have l5 := hlim 5 (by omega)
  have l6 := hlim 6 (by omega)
  have l7 := hlim 7 (by omega)
  have l8 := hlim 8 (by omega)
  have l9 := hlim 9 (by omega)
  have l10 := hlim 10 (by omega)
  have l11 := hlim 11 (by omega)
  have l12 := hlim 12 (by omega)
  rw [show (jtab 0).2.2 2 = 4 from rfl] at l2
  rw [show (jtab 0).2.2 3 = 6 from rfl] at l3
  rw [show (jtab 0).2.2 4 = 6 from rfl] at l4
  rw [show (jtab 0).2.2 5 = 2 from rfl] at l5
  rw [show (jtab 0).2.2 6 = 8 from rfl] at l6
  rw [show (jtab 0).2.2 7 = 5 from rfl] at l7
  rw [show (jtab 0).2.2 8 = 6 from rfl] at l8
  rw [show (jtab 0).2.2 9 = 3 from rfl] at l9
  rw [show (jtab 0).2.2 10 = 3 from rfl] at l10
  rw [show (jtab 0).2.2 11 = 4 from rfl] at l11
  rw [show (jtab 0).2.2 12 = 4 from rfl] at l12
  have g5 := a5 x.toNat (by omega)
  rw [show ((x.toNat : Nat) : Int) = x by omega] at g5
  have r51 := c_getr hrt 5 x 1
  have r52 := c_getr hrt 5 x 2
  have h51 := ((hLI 5 x (by omega) (by omega) (by omega)).2.2.2.2.2.1 rfl)
  have g2y := (a2 y.toNat (by omega)).1
  rw [show ((y.toNat : Nat) : Int) = y by omega] at g2y
  have r20 := c_getr hrt 2 y 0
  have hB2 : M (m + 2) = jdA 14 (B 2) := hBm 2 (by omega) (by omega)
  have hA1 : M (f + 1) = jdA 4 (A 1) := hAf 1 (by omega) (by omega)
  have hA9 : M (f + 9) = jdA 2 (A 9) := hAf 9 (by omega) (by omega)
  have loop : ∀ (dq : Nat) (i : Int), (0 ≤ i ∧ i ≤ c_get td 5 x 1) → ((ffd (B 2) (c_get td 2 y 0) 0 (c_get td 5 x 1).toNat) = ffd (B 2) (c_get td 2 y 0) i (c_get td 5 x 1 - i).toNat) → (20 - i).toNat < dq → J κ 4 0 0 n 2 [some (.ref m), some (jI x), some (jI y), some (jI i)] [] M := by
    intro dq
    induction dq with
    | zero => intro i hi hv hd; omega
    | succ dq ih =>
      intro i hi hv hd
      refine jr_iload_n (pc := 2) h dX9_goesIn_2 rfl ?_
      refine jr_aload_n (pc := 3) h dX9_goesIn_3 rfl ?_
      refine gf_X9_425 (pc := 4) h dX9_goesIn_4 (by assumption) (by omega) ?_
      refine gf_X9_329 (pc := 7) h dX9_goesIn_7 (by assumption) (by omega) ?_
      refine jr_iload_n (pc := 10) h dX9_goesIn_10 rfl ?_
      refine jr_iald (pc := 11) h dX9_goesIn_11 (by assumption) (by omega) (by omega) ?_
      refine jr_icmp_ge (pc := 12) h 62 dX9_goesIn_12 (by decide) (by omega) (by omega) (fun c_12 => ?_) (fun c_12 => ?_)
      · skip
        refine jr_iconst (pc := 62) h dX9_goesIn_62 ?_
        refine jr_iret (pc := 63) h hRt dX9_goesIn_63 rfl (Nat.le_of_ble_eq_true rfl) (Nat.le_of_ble_eq_true rfl) ?_
        have ef : (ffd (B 2) (c_get td 2 y 0) 0 (c_get td 5 x 1).toNat) = -1 := by rw [hv, ffd_0 (by omega)]
        refine ⟨⟨ji_c (bz_f (by omega)).symm, rfl⟩, ?_, fr_rf⟩
        rw [ef, if_pos (by omega), up_id rfl]
        exact hX
      · skip
        have ri := hdl i.toNat
        refine jr_aload_n (pc := 15) h dX9_goesIn_15 rfl ?_
        refine gf_X9_17 (pc := 16) h dX9_goesIn_16 (by assumption) (by omega) ?_
        refine jr_iload_n (pc := 19) h dX9_goesIn_19 rfl ?_
        refine jr_iald (pc := 20) h dX9_goesIn_20 (by assumption) (by omega) (by omega) ?_
        refine jr_aload_n (pc := 21) h dX9_goesIn_21 rfl ?_
        refine gf_X9_425 (pc := 22) h dX9_goesIn_22 (by assumption) (by omega) ?_
        refine gf_X9_285 (pc := 25) h dX9_goesIn_25 (by assumption) (by omega) ?_
        refine jr_iload_n (pc := 28) h dX9_goesIn_28 rfl ?_
        refine jr_iald (pc := 29) h dX9_goesIn_29 (by assumption) (by omega) (by omega) ?_
        refine jr_icmp_ge (pc := 30) h 36 dX9_goesIn_30 (by decide) (by omega) (by omega) (fun c_30 => ?_) (fun c_30 => ?_)
        · skip
          refine jr_aload_n (pc := 36) h dX9_goesIn_36 rfl ?_
          refine gf_X9_17 (pc := 37) h dX9_goesIn_37 (by assumption) (by omega) ?_
          refine jr_iload_n (pc := 40) h dX9_goesIn_40 rfl ?_
          refine jr_dup2 (pc := 41) h dX9_goesIn_41 rfl rfl ?_
          refine jr_iald (pc := 42) h dX9_goesIn_42 (by assumption) (by omega) (by omega) ?_
          refine jr_aload_n (pc := 43) h dX9_goesIn_43 rfl ?_
          refine gf_X9_425 (pc := 44) h dX9_goesIn_44 (by assumption) (by omega) ?_
          refine gf_X9_285 (pc := 47) h dX9_goesIn_47 (by assumption) (by omega) ?_
          refine jr_iload_n (pc := 50) h dX9_goesIn_50 rfl ?_
          refine jr_iald (pc := 51) h dX9_goesIn_51 (by assumption) (by omega) (by omega) ?_
          refine jr_isub (pc := 52) h dX9_goesIn_52 ?_
          refine jr_iast (pc := 53) h dX9_goesIn_53 hB2 (by omega) (by omega) ?_
          refine jm_gen (fun M2 hM2 => ?_)
          have hX2 := MX_B (i := 2) hX hM2 (by omega)
          have f1 : fr (MXf m) M M2 := fr_up (S := MXf m) hM2 ⟨by omega, by omega⟩
          refine jr_iconst (pc := 54) h dX9_goesIn_54 ?_
          refine jr_iret (pc := 55) h hRt dX9_goesIn_55 rfl (Nat.le_of_ble_eq_true rfl) (Nat.le_of_ble_eq_true rfl) ?_
          have ef : (ffd (B 2) (c_get td 2 y 0) 0 (c_get td 5 x 1).toNat) = i := by rw [hv, ffd_t (by omega) (by omega)]
          refine ⟨⟨ji_c (bz_t (by omega)).symm, rfl⟩, ?_, f1⟩
          rw [ef, if_neg (by omega), ← g2y]
          exact hX2
        · skip
          refine jr_goto (pc := 33) h 56 dX9_goesIn_33 (by decide) ?_
          refine jr_iinc (pc := 56) h [_, _, _, _] dX9_goesIn_56 (by decide) rfl rfl ?_
          refine jr_goto (pc := 59) h 2 dX9_goesIn_59 (by decide) ?_
          refine ih _ (by omega) ?_ (by omega)
          rw [hv, ffd_f (by omega) (by omega)]
  refine jr_iconst (pc := 0) h dX9_goesIn_0 ?_
  refine jr_istore_n (pc := 1) h [_, _, _, _] dX9_goesIn_1 (by decide) rfl ?_
  exact loop _ _ (by omega) (by rw [Int.sub_zero]) (Nat.lt_succ_self _)
