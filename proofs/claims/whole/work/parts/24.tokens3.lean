/-! 24: Tokens: words -/
set_option maxHeartbeats 1000000 in
set_option maxRecDepth 20000 in
theorem s_X6_isWord {l : Launch} {n : Nat} {M : jdM} {b : Nat} {g : Nat → Int} {w : Int} {bs nm ns nn : Nat → Int} (hTk : Tok M n b g w bs nm ns nn) (hby : ∀ i, -128 ≤ bs i ∧ bs i < 128) (hTO : TkO g) {k : Nat} (hk58 : k < 58) : Ct l yX6_isWord cX6_isWord 3 (some .boolean) rX6_isWord [.ref b, .ref (1000000 + 100 + k)] n M (fun vv n' M' => (vv = some (jI (bz (wordIs bs g k))) ∧ n = n' ∧ M = M') ∧ (0) ≤ (bz (wordIs bs g k)) ∧ (bz (wordIs bs g k)) ≤ 1) := by
  refine Ct_of [some (.ref b), some (.ref (1000000 + 100 + k)), none] (by decide) (Nat.le_of_ble_eq_true rfl) rfl (fun κ hl h hR hRt hmn hn0 => ?_)
  have h : Ok κ RX6 cX6_isWord 3 (some .boolean) := h
  obtain ⟨hnb, hOb, hYb, hNb, hSb, hKb⟩ := id hTk
  obtain ⟨o1, o2, o3, o4, o7, o12, ow, oh⟩ := id hTO
  have jl := jtxt_l hk58
  refine jr_aload_n (pc := 0) h dX6_isWord_0 rfl ?_
  refine gf_X6_51 (pc := 1) h dX6_isWord_1 (by assumption) (by omega) ?_
  refine jr_iconst (pc := 4) h dX6_isWord_4 ?_
  refine jr_icmp_ne (pc := 5) h 24 dX6_isWord_5 (by decide) (by omega) (by omega) (fun c_5 => ?_) (fun c_5 => ?_)
  · skip
    refine jr_iconst (pc := 24) h dX6_isWord_24 ?_
    refine jr_iret (pc := 25) h hRt dX6_isWord_25 rfl (Nat.le_of_ble_eq_true rfl) (Nat.le_of_ble_eq_true rfl) ?_
    have e : bz (wordIs bs g k) = 0 := bz_f (fun q => by have q1 := q.1; have q2 := q.2.1; omega)
    rw [e]; exact ⟨⟨rfl, rfl, rfl⟩, by omega, by omega⟩
  · skip
    refine jr_aload_n (pc := 8) h dX6_isWord_8 rfl ?_
    refine gf_X6_36 (pc := 9) h dX6_isWord_9 (by assumption) (by omega) ?_
    refine jr_aload_n (pc := 12) h dX6_isWord_12 rfl ?_
    refine gf_X6_54 (pc := 13) h dX6_isWord_13 (by assumption) (by omega) ?_
    refine jr_isub (pc := 16) h dX6_isWord_16 ?_
    refine jr_aload_n (pc := 17) h dX6_isWord_17 rfl ?_
    refine iv_X6_64 (pc := 18) h hl hR dX6_isWord_18 ⟨(Nat.le_of_ble_eq_true rfl), (Nat.le_of_ble_eq_true rfl), (Nat.le_of_ble_eq_true rfl), (Nat.le_of_ble_eq_true rfl)⟩ (Nat.le_of_ble_eq_true rfl) hk58 (s_J0_length hk58) (fun v_18 n_18 M_18 hn_18 hp => ?_)
    obtain ⟨rfl, rfl, rfl⟩ := hp
    refine jr_icmp_eq (pc := 21) h 26 dX6_isWord_21 (by decide) (by omega) (by omega) (fun c_21 => ?_) (fun c_21 => ?_)
    · skip
      refine jr_iconst (pc := 26) h dX6_isWord_26 ?_
      refine jr_istore_n (pc := 27) h [_, _, _] dX6_isWord_27 (by decide) rfl ?_
      have loop : ∀ (dq : Nat) (i : Int), (0 ≤ i ∧ i ≤ ((jtxt k).length : Int)) → (∀ j, j < i.toNat → bs ((g 2).toNat + j) = (jtxt k).getD j 0) → (200 - i).toNat < dq → J κ 3 0 0 n 28 [some (.ref b), some (.ref (1000000 + 100 + k)), some (jI i)] [] M := by
        intro dq
        induction dq with
        | zero => intro i hi hall hd; omega
        | succ dq ih =>
          intro i hi hall hd
          refine jr_iload_n (pc := 28) h dX6_isWord_28 rfl ?_
          refine jr_aload_n (pc := 29) h dX6_isWord_29 rfl ?_
          refine iv_X6_64 (pc := 30) h hl hR dX6_isWord_30 ⟨(Nat.le_of_ble_eq_true rfl), (Nat.le_of_ble_eq_true rfl), (Nat.le_of_ble_eq_true rfl), (Nat.le_of_ble_eq_true rfl)⟩ (Nat.le_of_ble_eq_true rfl) hk58 (s_J0_length hk58) (fun v_30 n_30 M_30 hn_30 hp => ?_)
          obtain ⟨rfl, rfl, rfl⟩ := hp
          refine jr_icmp_ge (pc := 33) h 63 dX6_isWord_33 (by decide) (by omega) (by omega) (fun c_33 => ?_) (fun c_33 => ?_)
          · skip
            refine jr_iconst (pc := 63) h dX6_isWord_63 ?_
            refine jr_iret (pc := 64) h hRt dX6_isWord_64 rfl (Nat.le_of_ble_eq_true rfl) (Nat.le_of_ble_eq_true rfl) ?_
            have e : bz (wordIs bs g k) = 1 := bz_t ⟨by omega, by omega, fun j hj => hall j (by omega)⟩
            rw [e]; exact ⟨⟨rfl, rfl, rfl⟩, by omega, by omega⟩
          · skip
            refine jr_aload_n (pc := 36) h dX6_isWord_36 rfl ?_
            refine gf_X6_9 (pc := 37) h dX6_isWord_37 (by assumption) (by omega) ?_
            refine jr_aload_n (pc := 40) h dX6_isWord_40 rfl ?_
            refine gf_X6_54 (pc := 41) h dX6_isWord_41 (by assumption) (by omega) ?_
            refine jr_iload_n (pc := 44) h dX6_isWord_44 rfl ?_
            refine jr_iadd (pc := 45) h dX6_isWord_45 ?_
            refine jr_bald (pc := 46) h dX6_isWord_46 (by assumption) (by omega) (by omega) ?_
            refine jr_aload_n (pc := 47) h dX6_isWord_47 rfl ?_
            refine jr_iload_n (pc := 48) h dX6_isWord_48 rfl ?_
            have bb := hby (g 2 + i).toNat
            have jr := jtxt_r (j := i.toNat) hk58
            refine iv_X6_70 (pc := 49) h hl hR dX6_isWord_49 ⟨(Nat.le_of_ble_eq_true rfl), (Nat.le_of_ble_eq_true rfl), (Nat.le_of_ble_eq_true rfl), (Nat.le_of_ble_eq_true rfl)⟩ (Nat.le_of_ble_eq_true rfl) hk58 (s_J0_charAt hk58 (by omega)) (fun v_49 n_49 M_49 hn_49 hp => ?_)
            obtain ⟨rfl, rfl, rfl⟩ := hp
            refine jr_icmp_eq (pc := 52) h 57 dX6_isWord_52 (by decide) (by omega) (by omega) (fun c_52 => ?_) (fun c_52 => ?_)
            · skip
              refine jr_iinc (pc := 57) h [_, _, _] dX6_isWord_57 (by decide) rfl rfl ?_
              refine jr_goto (pc := 60) h 28 dX6_isWord_60 (by decide) ?_
              refine ih _ (by omega) (fun j hj => ?_) (by omega)
              rcases (show j < i.toNat ∨ j = i.toNat by omega) with q | q
              · exact hall j q
              · rw [q, show (g 2).toNat + i.toNat = (g 2 + i).toNat by omega]; exact c_52
            · skip
              refine jr_iconst (pc := 55) h dX6_isWord_55 ?_
              refine jr_iret (pc := 56) h hRt dX6_isWord_56 rfl (Nat.le_of_ble_eq_true rfl) (Nat.le_of_ble_eq_true rfl) ?_
              have e : bz (wordIs bs g k) = 0 := bz_f (fun q => c_52 (by have := q.2.2 i.toNat (by omega); rw [show (g 2).toNat + i.toNat = (g 2 + i).toNat by omega] at this; exact this))
              rw [e]; exact ⟨⟨rfl, rfl, rfl⟩, by omega, by omega⟩
      exact loop _ _ (by omega) (fun j hj => by omega) (Nat.lt_succ_self _)
    · skip
      refine jr_iconst (pc := 24) h dX6_isWord_24 ?_
      refine jr_iret (pc := 25) h hRt dX6_isWord_25 rfl (Nat.le_of_ble_eq_true rfl) (Nat.le_of_ble_eq_true rfl) ?_
      have e : bz (wordIs bs g k) = 0 := bz_f (fun q => by have q1 := q.1; have q2 := q.2.1; omega)
      rw [e]; exact ⟨⟨rfl, rfl, rfl⟩, by omega, by omega⟩
theorem resI_b {bs g : Nat → Int} : -1 ≤ resI bs g ∧ resI bs g ≤ 13 := by
  have := resR_b (bs := bs) (g := g) 14 0
  unfold resI
  split <;> omega
set_option maxHeartbeats 1000000 in
set_option maxRecDepth 20000 in
theorem s_X6_reserved {l : Launch} {n : Nat} {M : jdM} {b : Nat} {g : Nat → Int} {w : Int} {bs nm ns nn : Nat → Int} (hTk : Tok M n b g w bs nm ns nn) (hby : ∀ i, -128 ≤ bs i ∧ bs i < 128) (hTO : TkO g) : Ct l yX6_reserved cX6_reserved 4 (some .int) rX6_reserved [.ref b] n M (fun vv n' M' => (vv = some (jI (resI bs g)) ∧ n = n' ∧ M = M') ∧ (-1) ≤ (resI bs g) ∧ (resI bs g) ≤ 13) := by
  refine Ct_of [some (.ref b), none, none, none] (by decide) (Nat.le_of_ble_eq_true rfl) rfl (fun κ hl h hR hRt hmn hn0 => ?_)
  have h : Ok κ RX6 cX6_reserved 4 (some .int) := h
  obtain ⟨hnb, hOb, hYb, hNb, hSb, hKb⟩ := id hTk
  obtain ⟨o1, o2, o3, o4, o7, o12, ow, oh⟩ := id hTO
  have hk58 : 0 < 58 := by omega
  have rb := resI_b (bs := bs) (g := g)
  have jl := jtxt_0
  refine jr_aload_n (pc := 0) h dX6_reserved_0 rfl ?_
  refine gf_X6_51 (pc := 1) h dX6_reserved_1 (by assumption) (by omega) ?_
  refine jr_iconst (pc := 4) h dX6_reserved_4 ?_
  refine jr_icmp_eq (pc := 5) h 10 dX6_reserved_5 (by decide) (by omega) (by omega) (fun c_5 => ?_) (fun c_5 => ?_)
  · skip
    refine jr_iconst (pc := 10) h dX6_reserved_10 ?_
    refine jr_istore_n (pc := 11) h [_, _, _, _] dX6_reserved_11 (by decide) rfl ?_
    have loop : ∀ (dq : Nat) (f : Int) (u2 : Option Value) (u3 : Option Value), (0 ≤ f ∧ f ≤ 112 ∧ f % 8 = 0) → (resR bs g (f / 8).toNat (14 - (f / 8).toNat) = resI bs g) → (121 - f).toNat < dq → J κ 4 0 0 n 12 [some (.ref b), some (jI f), u2, u3] [] M := by
      intro dq
      induction dq with
      | zero => intro f u2 u3 hf hr hd; omega
      | succ dq ih =>
        intro f u2 u3 hf hr hd
        refine jr_iload_n (pc := 12) h dX6_reserved_12 rfl ?_
        refine jr_bipush (pc := 13) h dX6_reserved_13 bp_8 ?_
        refine jr_iadd (pc := 15) h dX6_reserved_15 ?_
        refine jr_ldcS (pc := 16) h 0 (by decide) ⟨rfl, rfl⟩ dX6_reserved_16 ?_
        refine iv_X6_64 (pc := 18) h hl hR dX6_reserved_18 ⟨(Nat.le_of_ble_eq_true rfl), (Nat.le_of_ble_eq_true rfl), (Nat.le_of_ble_eq_true rfl), (Nat.le_of_ble_eq_true rfl)⟩ (Nat.le_of_ble_eq_true rfl) hk58 (s_J0_length (k := 0) hk58) (fun v_18 n_18 M_18 hn_18 hp => ?_)
        obtain ⟨rfl, rfl, rfl⟩ := hp
        rw [jtxt_0]
        refine jr_icmp_gt (pc := 21) h 105 dX6_reserved_21 (by decide) (by omega) (by omega) (fun c_21 => ?_) (fun c_21 => ?_)
        · skip
          refine jr_iconst (pc := 105) h dX6_reserved_105 ?_
          refine jr_iret (pc := 106) h hRt dX6_reserved_106 rfl (Nat.le_of_ble_eq_true rfl) (Nat.le_of_ble_eq_true rfl) ?_
          rw [show 14 - (f / 8).toNat = 0 by omega, resR] at hr
          refine ⟨⟨ji_c ?_, rfl, rfl⟩, ?_⟩ <;> omega
        · skip
          refine jr_iconst (pc := 24) h dX6_reserved_24 ?_
          refine jr_istore_n (pc := 25) h [_, _, _, _] dX6_reserved_25 (by decide) rfl ?_
          refine jr_iconst (pc := 26) h dX6_reserved_26 ?_
          refine jr_istore_n (pc := 27) h [_, _, _, _] dX6_reserved_27 (by decide) rfl ?_
          have inner : ∀ (dq2 : Nat) (s i : Int), (0 ≤ i ∧ i ≤ 8 ∧ 0 ≤ s ∧ s ≤ 1) → ((s = 1 ∧ ∀ j, j < i.toNat → resAt bs g (f / 8).toNat j) ∨ (s = 0 ∧ ¬ resEq bs g (f / 8).toNat)) → (9 - i).toNat < dq2 → J κ 4 0 0 n 28 [some (.ref b), some (jI f), some (jI s), some (jI i)] [] M := by
            intro dq2
            induction dq2 with
            | zero => intro s i hi2 hs hd; omega
            | succ dq2 ih2 =>
              intro s i hi2 hs hd
              refine jr_iload_n (pc := 28) h dX6_reserved_28 rfl ?_
              refine jr_bipush (pc := 29) h dX6_reserved_29 bp_8 ?_
              refine jr_icmp_ge (pc := 31) h 90 dX6_reserved_31 (by decide) (by omega) (by omega) (fun c_31 => ?_) (fun c_31 => ?_)
              · skip
                refine jr_iload_n (pc := 90) h dX6_reserved_90 rfl ?_
                refine jr_if_eq (pc := 91) h 99 dX6_reserved_91 (by decide) (by omega) (fun c_91 => ?_) (fun c_91 => ?_)
                · skip
                  refine jr_iinc (pc := 99) h [_, _, _, _] dX6_reserved_99 (by decide) rfl rfl ?_
                  refine jr_goto (pc := 102) h 12 dX6_reserved_102 (by decide) ?_
                  have hne : ¬ resEq bs g (f / 8).toNat := by
                    rcases hs with q | q
                    · omega
                    · exact q.2
                  rw [show 14 - (f / 8).toNat = (14 - ((f + 8) / 8).toNat) + 1 by omega, resR, if_neg hne, show (f / 8).toNat + 1 = ((f + 8) / 8).toNat by omega] at hr
                  exact ih _ _ _ (by omega) hr (by omega)
                · skip
                  refine jr_iload_n (pc := 94) h dX6_reserved_94 rfl ?_
                  refine jr_bipush (pc := 95) h dX6_reserved_95 bp_8 ?_
                  refine jr_idivp (pc := 97) h dX6_reserved_97 (by omega) (by omega) ?_
                  refine jr_iret (pc := 98) h hRt dX6_reserved_98 rfl (Nat.le_of_ble_eq_true rfl) (Nat.le_of_ble_eq_true rfl) ?_
                  have hq : resEq bs g (f / 8).toNat := by
                    rcases hs with q | q
                    · exact fun j hj => q.2 j (by omega)
                    · omega
                  rw [show 14 - (f / 8).toNat = (13 - (f / 8).toNat) + 1 by omega, resR, if_pos hq] at hr
                  refine ⟨⟨ji_c ?_, rfl, rfl⟩, ?_⟩ <;> omega
              · skip
                refine jr_iload_n (pc := 34) h dX6_reserved_34 rfl ?_
                refine jr_if_eq (pc := 35) h 90 dX6_reserved_35 (by decide) (by omega) (fun c_35 => ?_) (fun c_35 => ?_)
                · skip
                  refine jr_iload_n (pc := 90) h dX6_reserved_90 rfl ?_
                  refine jr_if_eq (pc := 91) h 99 dX6_reserved_91 (by decide) (by omega) (fun c_91 => ?_) (fun c_91 => ?_)
                  · skip
                    refine jr_iinc (pc := 99) h [_, _, _, _] dX6_reserved_99 (by decide) rfl rfl ?_
                    refine jr_goto (pc := 102) h 12 dX6_reserved_102 (by decide) ?_
                    have hne : ¬ resEq bs g (f / 8).toNat := by
                      rcases hs with q | q
                      · omega
                      · exact q.2
                    rw [show 14 - (f / 8).toNat = (14 - ((f + 8) / 8).toNat) + 1 by omega, resR, if_neg hne, show (f / 8).toNat + 1 = ((f + 8) / 8).toNat by omega] at hr
                    exact ih _ _ _ (by omega) hr (by omega)
                  · skip
                    refine jr_iload_n (pc := 94) h dX6_reserved_94 rfl ?_
                    refine jr_bipush (pc := 95) h dX6_reserved_95 bp_8 ?_
                    refine jr_idivp (pc := 97) h dX6_reserved_97 (by omega) (by omega) ?_
                    refine jr_iret (pc := 98) h hRt dX6_reserved_98 rfl (Nat.le_of_ble_eq_true rfl) (Nat.le_of_ble_eq_true rfl) ?_
                    have hq : resEq bs g (f / 8).toNat := by
                      rcases hs with q | q
                      · exact fun j hj => q.2 j (by omega)
                      · omega
                    rw [show 14 - (f / 8).toNat = (13 - (f / 8).toNat) + 1 by omega, resR, if_pos hq] at hr
                    refine ⟨⟨ji_c ?_, rfl, rfl⟩, ?_⟩ <;> omega
                · skip
                  have hall : ∀ j, j < i.toNat → resAt bs g (f / 8).toNat j := by
                    rcases hs with q | q
                    · exact q.2
                    · omega
                  have ra : resAt bs g (f / 8).toNat i.toNat ↔ (jtxt 0).getD (f + i).toNat 0 = if g 2 + i < g 3 then bs (g 2 + i).toNat else 32 := by
                    unfold resAt
                    rw [show 8 * (f / 8).toNat + i.toNat = (f + i).toNat by omega, show ((i.toNat : Nat) : Int) = i by omega]
                  have bb := hby (g 2 + i).toNat
                  have jr := jtxt_r (i := 0) (j := (f + i).toNat) hk58
                  refine jr_ldcS (pc := 38) h 0 (by decide) ⟨rfl, rfl⟩ dX6_reserved_38 ?_
                  refine jr_iload_n (pc := 40) h dX6_reserved_40 rfl ?_
                  refine jr_iload_n (pc := 41) h dX6_reserved_41 rfl ?_
                  refine jr_iadd (pc := 42) h dX6_reserved_42 ?_
                  refine iv_X6_70 (pc := 43) h hl hR dX6_reserved_43 ⟨(Nat.le_of_ble_eq_true rfl), (Nat.le_of_ble_eq_true rfl), (Nat.le_of_ble_eq_true rfl), (Nat.le_of_ble_eq_true rfl)⟩ (Nat.le_of_ble_eq_true rfl) hk58 (s_J0_charAt (k := 0) hk58 (by rw [jtxt_0]; omega)) (fun v_43 n_43 M_43 hn_43 hp => ?_)
                  obtain ⟨rfl, rfl, rfl⟩ := hp
                  refine jr_aload_n (pc := 46) h dX6_reserved_46 rfl ?_
                  refine gf_X6_54 (pc := 47) h dX6_reserved_47 (by assumption) (by omega) ?_
                  refine jr_iload_n (pc := 50) h dX6_reserved_50 rfl ?_
                  refine jr_iadd (pc := 51) h dX6_reserved_51 ?_
                  refine jr_aload_n (pc := 52) h dX6_reserved_52 rfl ?_
                  refine gf_X6_36 (pc := 53) h dX6_reserved_53 (by assumption) (by omega) ?_
                  refine jr_icmp_ge (pc := 56) h 73 dX6_reserved_56 (by decide) (by omega) (by omega) (fun c_56 => ?_) (fun c_56 => ?_)
                  · skip
                    refine jr_bipush (pc := 73) h dX6_reserved_73 bp_32 ?_
                    refine jr_icmp_ne (pc := 75) h 82 dX6_reserved_75 (by decide) (by omega) (by omega) (fun c_75 => ?_) (fun c_75 => ?_)
                    · skip
                      refine jr_iconst (pc := 82) h dX6_reserved_82 ?_
                      refine jr_istore_n (pc := 83) h [_, _, _, _] dX6_reserved_83 (by decide) rfl ?_
                      refine jr_iinc (pc := 84) h [_, _, _, _] dX6_reserved_84 (by decide) rfl rfl ?_
                      refine jr_goto (pc := 87) h 28 dX6_reserved_87 (by decide) ?_
                      first
                      | (refine ih2 _ _ (by omega) (Or.inl ⟨rfl, fun j hj => ?_⟩) (by omega)
                         rcases (show j < i.toNat ∨ j = i.toNat by omega) with q | q
                         · exact hall j q
                         · rw [q]; exact ra.mpr (by split <;> omega))
                      | (refine ih2 _ _ (by omega) (Or.inr ⟨rfl, fun q => ?_⟩) (by omega)
                         have := ra.mp (q i.toNat (by omega))
                         split at this <;> omega)
                    · skip
                      refine jr_iconst (pc := 78) h dX6_reserved_78 ?_
                      refine jr_goto (pc := 79) h 83 dX6_reserved_79 (by decide) ?_
                      refine jr_istore_n (pc := 83) h [_, _, _, _] dX6_reserved_83 (by decide) rfl ?_
                      refine jr_iinc (pc := 84) h [_, _, _, _] dX6_reserved_84 (by decide) rfl rfl ?_
                      refine jr_goto (pc := 87) h 28 dX6_reserved_87 (by decide) ?_
                      first
                      | (refine ih2 _ _ (by omega) (Or.inl ⟨rfl, fun j hj => ?_⟩) (by omega)
                         rcases (show j < i.toNat ∨ j = i.toNat by omega) with q | q
                         · exact hall j q
                         · rw [q]; exact ra.mpr (by split <;> omega))
                      | (refine ih2 _ _ (by omega) (Or.inr ⟨rfl, fun q => ?_⟩) (by omega)
                         have := ra.mp (q i.toNat (by omega))
                         split at this <;> omega)
                  · skip
                    refine jr_aload_n (pc := 59) h dX6_reserved_59 rfl ?_
                    refine gf_X6_9 (pc := 60) h dX6_reserved_60 (by assumption) (by omega) ?_
                    refine jr_aload_n (pc := 63) h dX6_reserved_63 rfl ?_
                    refine gf_X6_54 (pc := 64) h dX6_reserved_64 (by assumption) (by omega) ?_
                    refine jr_iload_n (pc := 67) h dX6_reserved_67 rfl ?_
                    refine jr_iadd (pc := 68) h dX6_reserved_68 ?_
                    refine jr_bald (pc := 69) h dX6_reserved_69 (by assumption) (by omega) (by omega) ?_
                    refine jr_goto (pc := 70) h 75 dX6_reserved_70 (by decide) ?_
                    refine jr_icmp_ne (pc := 75) h 82 dX6_reserved_75 (by decide) (by omega) (by omega) (fun c_75 => ?_) (fun c_75 => ?_)
                    · skip
                      refine jr_iconst (pc := 82) h dX6_reserved_82 ?_
                      refine jr_istore_n (pc := 83) h [_, _, _, _] dX6_reserved_83 (by decide) rfl ?_
                      refine jr_iinc (pc := 84) h [_, _, _, _] dX6_reserved_84 (by decide) rfl rfl ?_
                      refine jr_goto (pc := 87) h 28 dX6_reserved_87 (by decide) ?_
                      first
                      | (refine ih2 _ _ (by omega) (Or.inl ⟨rfl, fun j hj => ?_⟩) (by omega)
                         rcases (show j < i.toNat ∨ j = i.toNat by omega) with q | q
                         · exact hall j q
                         · rw [q]; exact ra.mpr (by split <;> omega))
                      | (refine ih2 _ _ (by omega) (Or.inr ⟨rfl, fun q => ?_⟩) (by omega)
                         have := ra.mp (q i.toNat (by omega))
                         split at this <;> omega)
                    · skip
                      refine jr_iconst (pc := 78) h dX6_reserved_78 ?_
                      refine jr_goto (pc := 79) h 83 dX6_reserved_79 (by decide) ?_
                      refine jr_istore_n (pc := 83) h [_, _, _, _] dX6_reserved_83 (by decide) rfl ?_
                      refine jr_iinc (pc := 84) h [_, _, _, _] dX6_reserved_84 (by decide) rfl rfl ?_
                      refine jr_goto (pc := 87) h 28 dX6_reserved_87 (by decide) ?_
                      first
                      | (refine ih2 _ _ (by omega) (Or.inl ⟨rfl, fun j hj => ?_⟩) (by omega)
                         rcases (show j < i.toNat ∨ j = i.toNat by omega) with q | q
                         · exact hall j q
                         · rw [q]; exact ra.mpr (by split <;> omega))
                      | (refine ih2 _ _ (by omega) (Or.inr ⟨rfl, fun q => ?_⟩) (by omega)
                         have := ra.mp (q i.toNat (by omega))
                         split at this <;> omega)
          exact inner _ _ _ (by omega) (Or.inl ⟨rfl, fun j hj => by omega⟩) (Nat.lt_succ_self _)
    exact loop _ _ _ _ (by omega) (by unfold resI; rw [if_pos (by omega)]; rfl) (Nat.lt_succ_self _)
  · skip
    refine jr_iconst (pc := 8) h dX6_reserved_8 ?_
    refine jr_iret (pc := 9) h hRt dX6_reserved_9 rfl (Nat.le_of_ble_eq_true rfl) (Nat.le_of_ble_eq_true rfl) ?_
    have e : resI bs g = -1 := by unfold resI; rw [if_neg (by omega)]
    refine ⟨⟨ji_c ?_, rfl, rfl⟩, ?_⟩ <;> omega
