/-! 41: Run: restart, copy, rows that trolleys are on, waits -/
set_option maxHeartbeats 1000000 in
set_option maxRecDepth 20000 in
theorem s_X3_restart {l : Launch} {n : Nat} {M : jdM} {r : Nat} {g sp sk fa go : Nat → Int} (hRn : Rn M n r g sp sk fa go) {f : Nat} {ct td bk si ld : Nat → Int} (hF : Fl M n f ct td bk si ld) (hsep : f + 5 < r ∨ r + 4 < f) {a : Int} : Ct l yX3_restart cX3_restart 4 none rX3_restart [.ref r, .ref f, jI a] n M (fun vv n' M' => (vv = none ∧ n = n') ∧ Rn M' n r (up (up (up (up g 4 1) 5 (c_rows ct td)) 6 0) 7 a) (fun j : Nat => if j < 2 then 0 else sp j) (fun j : Nat => if j < 8 then ld j else sk j) (fun j : Nat => if j < 451 then 0 else fa j) (fun j : Nat => if j < 6 then 0 else go j) ∧ fr (RnS r) M M') := by
  refine Ct_of [some (.ref r), some (.ref f), some (jI a), none] (by decide) (Nat.le_of_ble_eq_true rfl) rfl (fun κ hl h hR hRt hmn hn0 => ?_)
  have h : Ok κ RX3 cX3_restart 4 none := h
  have R1 := hRn
  obtain ⟨hn, hO, hA, hB, hC, hD⟩ := id hRn
  obtain ⟨hnF, hOF, hAF, hBF, hCF, hDF, hEF, rA, rB, r0, rC, rD, rE⟩ := id hF
  have f1 : fr (RnS r) M M := fr_rf
  have loop : ∀ (dq : Nat) (i : Int) (M1 : jdM), (0 ≤ i ∧ i ≤ 8) → (Rn M1 n r g (fun j : Nat => if j < 2 then 0 else sp j) (fun j : Nat => if j < i.toNat then ld j else sk j) (fun j : Nat => if j < 451 then 0 else fa j) (fun j : Nat => if j < 6 then 0 else go j)) → (Fl M1 n f ct td bk si ld) → (fr (RnS r) M M1) → (9 - i).toNat < dq → J κ 4 0 0 n 26 [some (.ref r), some (.ref f), some (jI a), some (jI i)] [] M1 := by
    intro dq
    induction dq with
    | zero => intro i M1 hi R1 hF f1 hd; omega
    | succ dq ih =>
      intro i M1 hi R1 hF f1 hd
      obtain ⟨hn, hO, hA, hB, hC, hD⟩ := id R1
      obtain ⟨hnF, hOF, hAF, hBF, hCF, hDF, hEF, rA, rB, r0, rC, rD, rE⟩ := id hF
      refine jr_iload_n (pc := 26) h dX3_restart_26 rfl ?_
      refine jr_aload_n (pc := 27) h dX3_restart_27 rfl ?_
      refine gf_X3_15 (pc := 28) h dX3_restart_28 (by assumption) (by omega) ?_
      refine jr_alen (pc := 31) h dX3_restart_31 (by assumption) (by omega) ?_
      refine jr_icmp_ge (pc := 32) h 57 dX3_restart_32 (by decide) (by omega) (by omega) (fun c_32 => ?_) (fun c_32 => ?_)
      · skip
        refine jr_aload_n (pc := 57) h dX3_restart_57 rfl ?_
        refine jr_iconst (pc := 58) h dX3_restart_58 ?_
        refine pf_X3_24 (pc := 59) h dX3_restart_59 (by assumption) (by omega) ?_
        refine jm_gen (fun M2 hM2 => ?_)
        have R1 := Rn_f4 R1 hM2
        have f9 : fr (RnS r) _ M2 := fr_up hM2 ⟨by omega, by omega⟩
        have hF := Fl_fr hF f9 (Nat.le_refl _) (fun k h1 h2 q => by have := q.1; have := q.2; omega)
        have f1 := fr_tr f1 f9
        obtain ⟨hnF, hOF, hAF, hBF, -⟩ := id hF
        obtain ⟨hn, hO, hA, hB, hC, hD⟩ := id R1
        refine jr_aload_n (pc := 62) h dX3_restart_62 rfl ?_
        refine jr_aload_n (pc := 63) h dX3_restart_63 rfl ?_
        refine iv_X3_40 (pc := 64) h hl hR dX3_restart_64 ⟨(Nat.le_of_ble_eq_true rfl), (Nat.le_of_ble_eq_true rfl), (Nat.le_of_ble_eq_true rfl), (Nat.le_of_ble_eq_true rfl)⟩ (Nat.le_of_ble_eq_true rfl) (by assumption) (by omega) (s_X1_rows hF) (fun v_64 n_64 M_64 hn_64 hp => ?_)
        obtain ⟨⟨rfl, rfl, rfl⟩, gr_64⟩ := hp
        refine pf_X3_44 (pc := 67) h dX3_restart_67 (by assumption) (by omega) ?_
        refine jm_gen (fun M2 hM2 => ?_)
        have R1 := Rn_f5 R1 hM2
        have f9 : fr (RnS r) _ M2 := fr_up hM2 ⟨by omega, by omega⟩
        have hF := Fl_fr hF f9 (Nat.le_refl _) (fun k h1 h2 q => by have := q.1; have := q.2; omega)
        have f1 := fr_tr f1 f9
        obtain ⟨hnF, hOF, hAF, hBF, -⟩ := id hF
        obtain ⟨hn, hO, hA, hB, hC, hD⟩ := id R1
        refine jr_aload_n (pc := 70) h dX3_restart_70 rfl ?_
        refine jr_iconst (pc := 71) h dX3_restart_71 ?_
        refine pf_X3_47 (pc := 72) h dX3_restart_72 (by assumption) (by omega) ?_
        refine jm_gen (fun M2 hM2 => ?_)
        have R1 := Rn_f6 R1 hM2
        have f9 : fr (RnS r) _ M2 := fr_up hM2 ⟨by omega, by omega⟩
        have hF := Fl_fr hF f9 (Nat.le_refl _) (fun k h1 h2 q => by have := q.1; have := q.2; omega)
        have f1 := fr_tr f1 f9
        obtain ⟨hnF, hOF, hAF, hBF, -⟩ := id hF
        obtain ⟨hn, hO, hA, hB, hC, hD⟩ := id R1
        refine jr_aload_n (pc := 75) h dX3_restart_75 rfl ?_
        refine jr_iload_n (pc := 76) h dX3_restart_76 rfl ?_
        refine pf_X3_50 (pc := 77) h dX3_restart_77 (by assumption) (by omega) ?_
        refine jm_gen (fun M2 hM2 => ?_)
        have R1 := Rn_f7 R1 hM2
        have f9 : fr (RnS r) _ M2 := fr_up hM2 ⟨by omega, by omega⟩
        have hF := Fl_fr hF f9 (Nat.le_refl _) (fun k h1 h2 q => by have := q.1; have := q.2; omega)
        have f1 := fr_tr f1 f9
        obtain ⟨hnF, hOF, hAF, hBF, -⟩ := id hF
        obtain ⟨hn, hO, hA, hB, hC, hD⟩ := id R1
        refine jr_vret (pc := 80) h hRt dX3_restart_80 (Nat.le_of_ble_eq_true rfl) (Nat.le_of_ble_eq_true rfl) ?_
        rw [show i.toNat = 8 by omega] at R1
        exact ⟨⟨rfl, rfl⟩, R1, f1⟩
      · skip
        refine jr_aload_n (pc := 35) h dX3_restart_35 rfl ?_
        refine gf_X3_15 (pc := 36) h dX3_restart_36 (by assumption) (by omega) ?_
        refine jr_iload_n (pc := 39) h dX3_restart_39 rfl ?_
        refine jr_aload_n (pc := 40) h dX3_restart_40 rfl ?_
        refine jr_iload_n (pc := 41) h dX3_restart_41 rfl ?_
        refine jr_iconst (pc := 42) h dX3_restart_42 ?_
        refine jr_idivp (pc := 43) h dX3_restart_43 (by omega) (by omega) ?_
        refine jr_iload_n (pc := 44) h dX3_restart_44 rfl ?_
        refine jr_iconst (pc := 45) h dX3_restart_45 ?_
        refine jr_irem (pc := 46) h dX3_restart_46 (by omega) (by omega) ?_
        refine iv_X3_34 (pc := 47) h hl hR dX3_restart_47 ⟨(Nat.le_of_ble_eq_true rfl), (Nat.le_of_ble_eq_true rfl), (Nat.le_of_ble_eq_true rfl), (Nat.le_of_ble_eq_true rfl)⟩ (Nat.le_of_ble_eq_true rfl) (by assumption) (by omega) (s_X1_loadOf hF (by omega) (by omega)) (fun v_47 n_47 M_47 hn_47 hp => ?_)
        obtain ⟨⟨rfl, rfl, rfl⟩, gr_47⟩ := hp
        have el : c_load ld (i / 4) (i % 4) = ld i.toNat := by
          unfold c_load
          rw [if_pos (by omega)]
          congr 1
          omega
        rw [el]
        refine jr_iast (pc := 50) h dX3_restart_50 (by assumption) (by omega) (by omega) ?_
        refine jm_gen (fun M2 hM2 => ?_)
        have e9 : up (fun j : Nat => if j < i.toNat then ld j else sk j) i.toNat (ld i.toNat) = (fun j : Nat => if j < (i + 1).toNat then ld j else sk j) := by
          funext j
          unfold up
          dsimp only
          by_cases q : j = i.toNat
          · rw [if_pos q, if_pos (by omega), q]
          · rw [if_neg q]
            by_cases q2 : j < i.toNat
            · rw [if_pos q2, if_pos (by omega)]
            · rw [if_neg q2, if_neg (by omega)]
        rw [e9] at hM2
        have R1 := Rn_sk R1 hM2
        have f9 : fr (RnS r) _ M2 := fr_up hM2 ⟨by omega, by omega⟩
        have hF := Fl_fr hF f9 (Nat.le_refl _) (fun k h1 h2 q => by have := q.1; have := q.2; omega)
        have f1 := fr_tr f1 f9
        obtain ⟨hnF, hOF, hAF, hBF, -⟩ := id hF
        obtain ⟨hn, hO, hA, hB, hC, hD⟩ := id R1
        refine jr_iinc (pc := 51) h [_, _, _, _] dX3_restart_51 (by decide) rfl rfl ?_
        refine jr_goto (pc := 54) h 26 dX3_restart_54 (by decide) ?_
        exact ih (i + 1) _ (by omega) R1 hF f1 (by omega)
  refine jr_aload_n (pc := 0) h dX3_restart_0 rfl ?_
  refine gf_X3_9 (pc := 1) h dX3_restart_1 (by assumption) (by omega) ?_
  refine jr_iconst (pc := 4) h dX3_restart_4 ?_
  refine iv_X3_28 (pc := 5) h hl hR dX3_restart_5 ⟨(Nat.le_of_ble_eq_true rfl), (Nat.le_of_ble_eq_true rfl), (Nat.le_of_ble_eq_true rfl), (Nat.le_of_ble_eq_true rfl)⟩ (Nat.le_of_ble_eq_true rfl) (s_J7_fill_53178 (len := 2) (v := 0) hA (by omega) (by omega)) (fun v_5 n_5 M_5 hn_5 hp => ?_)
  obtain ⟨rfl, rfl, hM⟩ := hp
  have R1 := Rn_sp R1 hM
  have f9 : fr (RnS r) _ M_5 := fr_up hM ⟨by omega, by omega⟩
  have hF := Fl_fr hF f9 (Nat.le_refl _) (fun k h1 h2 q => by have := q.1; have := q.2; omega)
  have f1 := fr_tr f1 f9
  obtain ⟨hnF, hOF, hAF, hBF, -⟩ := id hF
  obtain ⟨hn, hO, hA, hB, hC, hD⟩ := id R1
  refine jr_aload_n (pc := 8) h dX3_restart_8 rfl ?_
  refine gf_X3_18 (pc := 9) h dX3_restart_9 (by assumption) (by omega) ?_
  refine jr_iconst (pc := 12) h dX3_restart_12 ?_
  refine iv_X3_28 (pc := 13) h hl hR dX3_restart_13 ⟨(Nat.le_of_ble_eq_true rfl), (Nat.le_of_ble_eq_true rfl), (Nat.le_of_ble_eq_true rfl), (Nat.le_of_ble_eq_true rfl)⟩ (Nat.le_of_ble_eq_true rfl) (s_J7_fill_53178 (len := 451) (v := 0) hC (by omega) (by omega)) (fun v_13 n_13 M_13 hn_13 hp => ?_)
  obtain ⟨rfl, rfl, hM⟩ := hp
  have R1 := Rn_fa R1 hM
  have f9 : fr (RnS r) _ M_13 := fr_up hM ⟨by omega, by omega⟩
  have hF := Fl_fr hF f9 (Nat.le_refl _) (fun k h1 h2 q => by have := q.1; have := q.2; omega)
  have f1 := fr_tr f1 f9
  obtain ⟨hnF, hOF, hAF, hBF, -⟩ := id hF
  obtain ⟨hn, hO, hA, hB, hC, hD⟩ := id R1
  refine jr_aload_n (pc := 16) h dX3_restart_16 rfl ?_
  refine gf_X3_21 (pc := 17) h dX3_restart_17 (by assumption) (by omega) ?_
  refine jr_iconst (pc := 20) h dX3_restart_20 ?_
  refine iv_X3_28 (pc := 21) h hl hR dX3_restart_21 ⟨(Nat.le_of_ble_eq_true rfl), (Nat.le_of_ble_eq_true rfl), (Nat.le_of_ble_eq_true rfl), (Nat.le_of_ble_eq_true rfl)⟩ (Nat.le_of_ble_eq_true rfl) (s_J7_fill_53178 (len := 6) (v := 0) hD (by omega) (by omega)) (fun v_21 n_21 M_21 hn_21 hp => ?_)
  obtain ⟨rfl, rfl, hM⟩ := hp
  have R1 := Rn_go R1 hM
  have f9 : fr (RnS r) _ M_21 := fr_up hM ⟨by omega, by omega⟩
  have hF := Fl_fr hF f9 (Nat.le_refl _) (fun k h1 h2 q => by have := q.1; have := q.2; omega)
  have f1 := fr_tr f1 f9
  obtain ⟨hnF, hOF, hAF, hBF, -⟩ := id hF
  obtain ⟨hn, hO, hA, hB, hC, hD⟩ := id R1
  refine jr_iconst (pc := 24) h dX3_restart_24 ?_
  refine jr_istore_n (pc := 25) h [_, _, _, _] dX3_restart_25 (by decide) rfl ?_
  have e0 : sk = (fun j : Nat => if j < (0 : Int).toNat then ld j else sk j) := by
    funext j
    rw [if_neg (by omega)]
  rw [e0] at R1
  exact loop _ _ _ (by omega) R1 hF f1 (Nat.lt_succ_self _)
set_option maxHeartbeats 1000000 in
set_option maxRecDepth 20000 in
theorem s_X3_copy {l : Launch} {n : Nat} {M : jdM} {r q : Nat} {g sp sk fa go g2 sp2 sk2 fa2 go2 : Nat → Int} (hRn : Rn M n r g sp sk fa go) (hR2 : Rn M n q g2 sp2 sk2 fa2 go2) (hsep : q + 4 < r ∨ r + 4 < q) : Ct l yX3_copy cX3_copy 2 none rX3_copy [.ref r, .ref q] n M (fun vv n' M' => (vv = none ∧ n = n') ∧ Rn M' n r (up (up (up (up g 4 (g2 4)) 5 (g2 5)) 6 (g2 6)) 7 (g2 7)) (fun j : Nat => if j < 2 then sp2 j else sp j) (fun j : Nat => if j < 8 then sk2 j else sk j) (fun j : Nat => if j < 451 then fa2 j else fa j) (fun j : Nat => if j < 6 then go2 j else go j) ∧ fr (RnS r) M M') := by
  refine Ct_of [some (.ref r), some (.ref q)] (by decide) (Nat.le_of_ble_eq_true rfl) rfl (fun κ hl h hR hRt hmn hn0 => ?_)
  have h : Ok κ RX3 cX3_copy 2 none := h
  have R1 := hRn
  have R2 := hR2
  obtain ⟨hn, hO, hA, hB, hC, hD⟩ := id hRn
  obtain ⟨hn2, hO2, hA2, hB2, hC2, hD2⟩ := id R2
  have f1 : fr (RnS r) M M := fr_rf
  refine jr_aload_n (pc := 0) h dX3_copy_0 rfl ?_
  refine gf_X3_9 (pc := 1) h dX3_copy_1 (by assumption) (by omega) ?_
  refine jr_iconst (pc := 4) h dX3_copy_4 ?_
  refine jr_aload_n (pc := 5) h dX3_copy_5 rfl ?_
  refine gf_X3_9 (pc := 6) h dX3_copy_6 (by assumption) (by omega) ?_
  refine jr_iconst (pc := 9) h dX3_copy_9 ?_
  refine jr_aload_n (pc := 10) h dX3_copy_10 rfl ?_
  refine gf_X3_9 (pc := 11) h dX3_copy_11 (by assumption) (by omega) ?_
  refine jr_alen (pc := 14) h dX3_copy_14 (by assumption) (by omega) ?_
  refine ic_X3_53 (pc := 15) h hR dX3_copy_15 ⟨(Nat.le_of_ble_eq_true rfl), (Nat.le_of_ble_eq_true rfl)⟩ (by assumption) (by omega) (by assumption) (by omega) (by decide) ?_
  refine jm_gen (fun M2 hM2 => ?_)
  have R1 := Rn_sp R1 hM2
  have f9 : fr (RnS r) _ M2 := fr_up hM2 ⟨by omega, by omega⟩
  have R2 := Rn_fr R2 f9 (Nat.le_refl _) (fun k h1 h2 q => by have := q.1; have := q.2; omega)
  have f1 := fr_tr f1 f9
  obtain ⟨hn2, hO2, hA2, hB2, hC2, hD2⟩ := id R2
  obtain ⟨hn, hO, hA, hB, hC, hD⟩ := id R1
  refine jr_aload_n (pc := 18) h dX3_copy_18 rfl ?_
  refine gf_X3_15 (pc := 19) h dX3_copy_19 (by assumption) (by omega) ?_
  refine jr_iconst (pc := 22) h dX3_copy_22 ?_
  refine jr_aload_n (pc := 23) h dX3_copy_23 rfl ?_
  refine gf_X3_15 (pc := 24) h dX3_copy_24 (by assumption) (by omega) ?_
  refine jr_iconst (pc := 27) h dX3_copy_27 ?_
  refine jr_aload_n (pc := 28) h dX3_copy_28 rfl ?_
  refine gf_X3_15 (pc := 29) h dX3_copy_29 (by assumption) (by omega) ?_
  refine jr_alen (pc := 32) h dX3_copy_32 (by assumption) (by omega) ?_
  refine ic_X3_53 (pc := 33) h hR dX3_copy_33 ⟨(Nat.le_of_ble_eq_true rfl), (Nat.le_of_ble_eq_true rfl)⟩ (by assumption) (by omega) (by assumption) (by omega) (by decide) ?_
  refine jm_gen (fun M2 hM2 => ?_)
  have R1 := Rn_sk R1 hM2
  have f9 : fr (RnS r) _ M2 := fr_up hM2 ⟨by omega, by omega⟩
  have R2 := Rn_fr R2 f9 (Nat.le_refl _) (fun k h1 h2 q => by have := q.1; have := q.2; omega)
  have f1 := fr_tr f1 f9
  obtain ⟨hn2, hO2, hA2, hB2, hC2, hD2⟩ := id R2
  obtain ⟨hn, hO, hA, hB, hC, hD⟩ := id R1
  refine jr_aload_n (pc := 36) h dX3_copy_36 rfl ?_
  refine gf_X3_18 (pc := 37) h dX3_copy_37 (by assumption) (by omega) ?_
  refine jr_iconst (pc := 40) h dX3_copy_40 ?_
  refine jr_aload_n (pc := 41) h dX3_copy_41 rfl ?_
  refine gf_X3_18 (pc := 42) h dX3_copy_42 (by assumption) (by omega) ?_
  refine jr_iconst (pc := 45) h dX3_copy_45 ?_
  refine jr_aload_n (pc := 46) h dX3_copy_46 rfl ?_
  refine gf_X3_18 (pc := 47) h dX3_copy_47 (by assumption) (by omega) ?_
  refine jr_alen (pc := 50) h dX3_copy_50 (by assumption) (by omega) ?_
  refine ic_X3_53 (pc := 51) h hR dX3_copy_51 ⟨(Nat.le_of_ble_eq_true rfl), (Nat.le_of_ble_eq_true rfl)⟩ (by assumption) (by omega) (by assumption) (by omega) (by decide) ?_
  refine jm_gen (fun M2 hM2 => ?_)
  have R1 := Rn_fa R1 hM2
  have f9 : fr (RnS r) _ M2 := fr_up hM2 ⟨by omega, by omega⟩
  have R2 := Rn_fr R2 f9 (Nat.le_refl _) (fun k h1 h2 q => by have := q.1; have := q.2; omega)
  have f1 := fr_tr f1 f9
  obtain ⟨hn2, hO2, hA2, hB2, hC2, hD2⟩ := id R2
  obtain ⟨hn, hO, hA, hB, hC, hD⟩ := id R1
  refine jr_aload_n (pc := 54) h dX3_copy_54 rfl ?_
  refine gf_X3_21 (pc := 55) h dX3_copy_55 (by assumption) (by omega) ?_
  refine jr_iconst (pc := 58) h dX3_copy_58 ?_
  refine jr_aload_n (pc := 59) h dX3_copy_59 rfl ?_
  refine gf_X3_21 (pc := 60) h dX3_copy_60 (by assumption) (by omega) ?_
  refine jr_iconst (pc := 63) h dX3_copy_63 ?_
  refine jr_aload_n (pc := 64) h dX3_copy_64 rfl ?_
  refine gf_X3_21 (pc := 65) h dX3_copy_65 (by assumption) (by omega) ?_
  refine jr_alen (pc := 68) h dX3_copy_68 (by assumption) (by omega) ?_
  refine ic_X3_53 (pc := 69) h hR dX3_copy_69 ⟨(Nat.le_of_ble_eq_true rfl), (Nat.le_of_ble_eq_true rfl)⟩ (by assumption) (by omega) (by assumption) (by omega) (by decide) ?_
  refine jm_gen (fun M2 hM2 => ?_)
  have R1 := Rn_go R1 hM2
  have f9 : fr (RnS r) _ M2 := fr_up hM2 ⟨by omega, by omega⟩
  have R2 := Rn_fr R2 f9 (Nat.le_refl _) (fun k h1 h2 q => by have := q.1; have := q.2; omega)
  have f1 := fr_tr f1 f9
  obtain ⟨hn2, hO2, hA2, hB2, hC2, hD2⟩ := id R2
  obtain ⟨hn, hO, hA, hB, hC, hD⟩ := id R1
  refine jr_aload_n (pc := 72) h dX3_copy_72 rfl ?_
  refine jr_aload_n (pc := 73) h dX3_copy_73 rfl ?_
  refine gf_X3_24 (pc := 74) h dX3_copy_74 (by assumption) (by omega) ?_
  refine pf_X3_24 (pc := 77) h dX3_copy_77 (by assumption) (by omega) ?_
  refine jm_gen (fun M2 hM2 => ?_)
  have R1 := Rn_f4 R1 hM2
  have f9 : fr (RnS r) _ M2 := fr_up hM2 ⟨by omega, by omega⟩
  have R2 := Rn_fr R2 f9 (Nat.le_refl _) (fun k h1 h2 q => by have := q.1; have := q.2; omega)
  have f1 := fr_tr f1 f9
  obtain ⟨hn2, hO2, hA2, hB2, hC2, hD2⟩ := id R2
  obtain ⟨hn, hO, hA, hB, hC, hD⟩ := id R1
  refine jr_aload_n (pc := 80) h dX3_copy_80 rfl ?_
  refine jr_aload_n (pc := 81) h dX3_copy_81 rfl ?_
  refine gf_X3_44 (pc := 82) h dX3_copy_82 (by assumption) (by omega) ?_
  refine pf_X3_44 (pc := 85) h dX3_copy_85 (by assumption) (by omega) ?_
  refine jm_gen (fun M2 hM2 => ?_)
  have R1 := Rn_f5 R1 hM2
  have f9 : fr (RnS r) _ M2 := fr_up hM2 ⟨by omega, by omega⟩
  have R2 := Rn_fr R2 f9 (Nat.le_refl _) (fun k h1 h2 q => by have := q.1; have := q.2; omega)
  have f1 := fr_tr f1 f9
  obtain ⟨hn2, hO2, hA2, hB2, hC2, hD2⟩ := id R2
  obtain ⟨hn, hO, hA, hB, hC, hD⟩ := id R1
  refine jr_aload_n (pc := 88) h dX3_copy_88 rfl ?_
  refine jr_aload_n (pc := 89) h dX3_copy_89 rfl ?_
  refine gf_X3_47 (pc := 90) h dX3_copy_90 (by assumption) (by omega) ?_
  refine pf_X3_47 (pc := 93) h dX3_copy_93 (by assumption) (by omega) ?_
  refine jm_gen (fun M2 hM2 => ?_)
  have R1 := Rn_f6 R1 hM2
  have f9 : fr (RnS r) _ M2 := fr_up hM2 ⟨by omega, by omega⟩
  have R2 := Rn_fr R2 f9 (Nat.le_refl _) (fun k h1 h2 q => by have := q.1; have := q.2; omega)
  have f1 := fr_tr f1 f9
  obtain ⟨hn2, hO2, hA2, hB2, hC2, hD2⟩ := id R2
  obtain ⟨hn, hO, hA, hB, hC, hD⟩ := id R1
  refine jr_aload_n (pc := 96) h dX3_copy_96 rfl ?_
  refine jr_aload_n (pc := 97) h dX3_copy_97 rfl ?_
  refine gf_X3_50 (pc := 98) h dX3_copy_98 (by assumption) (by omega) ?_
  refine pf_X3_50 (pc := 101) h dX3_copy_101 (by assumption) (by omega) ?_
  refine jm_gen (fun M2 hM2 => ?_)
  have R1 := Rn_f7 R1 hM2
  have f9 : fr (RnS r) _ M2 := fr_up hM2 ⟨by omega, by omega⟩
  have R2 := Rn_fr R2 f9 (Nat.le_refl _) (fun k h1 h2 q => by have := q.1; have := q.2; omega)
  have f1 := fr_tr f1 f9
  obtain ⟨hn2, hO2, hA2, hB2, hC2, hD2⟩ := id R2
  obtain ⟨hn, hO, hA, hB, hC, hD⟩ := id R1
  refine jr_vret (pc := 104) h hRt dX3_copy_104 (Nat.le_of_ble_eq_true rfl) (Nat.le_of_ble_eq_true rfl) ?_
  exact ⟨⟨rfl, rfl⟩, R1, f1⟩
noncomputable def fstZ (p : Int → Prop) : Int → Nat → Int
  | _, 0 => -1
  | i, d + 1 => @ite Int (p i) (Classical.propDecidable _) i (fstZ p (i + 1) d)
theorem fstZ_t {p : Int → Prop} {i e : Int} (h : i < e) (hp : p i) : fstZ p i (e - i).toNat = i := by
  obtain ⟨d, hd⟩ : ∃ d, (e - i).toNat = d + 1 := ⟨(e - i).toNat - 1, by omega⟩
  rw [hd, fstZ, if_pos hp]
theorem fstZ_f {p : Int → Prop} {i e : Int} (h : i < e) (hp : ¬ p i) : fstZ p i (e - i).toNat = fstZ p (i + 1) (e - (i + 1)).toNat := by
  obtain ⟨d, hd⟩ : ∃ d, (e - i).toNat = d + 1 := ⟨(e - i).toNat - 1, by omega⟩
  rw [hd, fstZ, if_neg hp, show (e - (i + 1)).toNat = d by omega]
theorem fstZ_0 {p : Int → Prop} {i e : Int} (h : e ≤ i) : fstZ p i (e - i).toNat = -1 := by
  rw [show (e - i).toNat = 0 by omega, fstZ]
theorem fstZ_r {p : Int → Prop} : ∀ {d : Nat} {i : Int}, 0 ≤ i → fstZ p i d = -1 ∨ (i ≤ fstZ p i d ∧ fstZ p i d < i + d ∧ p (fstZ p i d))
  | 0, i, _ => Or.inl rfl
  | d + 1, i, h => by
    rw [fstZ]
    by_cases q : p i
    · rw [if_pos q]
      exact Or.inr ⟨Int.le_refl _, by omega, q⟩
    · rw [if_neg q]
      rcases fstZ_r (p := p) (d := d) (i := i + 1) (by omega) with h1 | ⟨h1, h2, h3⟩
      · exact Or.inl h1
      · exact Or.inr ⟨by omega, by omega, h3⟩
def c_nxr (td fa : Nat → Int) (a : Int) : Int := if c_get td 5 (c_fact fa a 0) 0 = 0 then a + 1 else a - 1
def c_go (ct td g fa : Nat → Int) (a : Int) : Prop := 1 ≤ c_nxr td fa a ∧ c_nxr td fa a ≤ c_rows ct td ∧ (c_nxr td fa a < g 4 ∨ g 5 < c_nxr td fa a) ∧ c_fact fa (c_nxr td fa a) 0 = c_fact fa a 0
noncomputable def c_lv (ct td g fa : Nat → Int) (a : Int) : Int := @ite Int (c_go ct td g fa a) (Classical.propDecidable _) (c_fact fa (c_nxr td fa a) 1) (c_fact fa a 2)
def c_onp (ct td g fa : Nat → Int) (t s a : Int) : Prop := (a < g 4 ∨ g 5 < a) ∧ c_fact fa a 0 = t ∧ c_fact fa a 1 ≤ s ∧ s < c_lv ct td g fa a
noncomputable def c_on (ct td g fa : Nat → Int) (t s : Int) : Int := fstZ (c_onp ct td g fa t s) 1 (c_rows ct td + 1 - 1).toNat
def c_gap (ct td : Nat → Int) (a : Int) : Prop := ∃ i : Int, 0 ≤ i ∧ i < ct 10 ∧ c_get td 10 i 0 = a
def c_wyp (ct td g fa : Nat → Int) (x s t : Int) : Prop := min (c_get td 11 x 1) (c_get td 11 x 2) ≤ c_on ct td g fa t s ∧ c_on ct td g fa t s ≤ max (c_get td 11 x 1) (c_get td 11 x 2) ∧ ¬ c_gap ct td (c_on ct td g fa t s)
noncomputable def c_way (ct td g fa : Nat → Int) (x s : Int) : Int := (fun t : Int => if t = -1 then -1 else c_on ct td g fa t s) (fstZ (c_wyp ct td g fa x s) 0 (ct 5 - 0).toNat)
noncomputable def wtR (ct td g fa : Nat → Int) (x : Int) : Int → Nat → Int
  | s, 0 => s
  | s, d + 1 => if c_way ct td g fa x s = -1 then s else wtR ct td g fa x (c_lv ct td g fa (c_way ct td g fa x s)) d
noncomputable def c_wait (ct td g fa : Nat → Int) (x : Int) : Int := wtR ct td g fa x (c_get td 11 x 0 * 60) ((41 : Int) - 0).toNat - c_get td 11 x 0 * 60
set_option maxHeartbeats 1000000 in
set_option maxRecDepth 20000 in
theorem s_X3_leaves {l : Launch} {n : Nat} {M : jdM} {r : Nat} {g sp sk fa go : Nat → Int} (hRn : Rn M n r g sp sk fa go) {f : Nat} {ct td bk si ld : Nat → Int} (hF : Fl M n f ct td bk si ld) (h4 : 0 ≤ g 4 ∧ g 4 ≤ 1000) (h5 : -1 ≤ g 5 ∧ g 5 ≤ 1000) (hfa : ∀ a b : Int, -100000000 ≤ c_fact fa a b ∧ c_fact fa a b ≤ 100000000) {a : Int} (ha : 0 ≤ a ∧ a ≤ 100) : Ct l yX3_leaves cX3_leaves 6 (some .int) rX3_leaves [.ref r, .ref f, jI a] n M (fun vv n' M' => (vv = some (jI (c_lv ct td g fa a)) ∧ n = n' ∧ M = M') ∧ (-100000000) ≤ (c_lv ct td g fa a) ∧ (c_lv ct td g fa a) ≤ 100000000) := by
  refine Ct_of [some (.ref r), some (.ref f), some (jI a), none, none, none] (by decide) (Nat.le_of_ble_eq_true rfl) rfl (fun κ hl h hR hRt hmn hn0 => ?_)
  have h : Ok κ RX3 cX3_leaves 6 (some .int) := h
  obtain ⟨hn, hO, hA, hB, hC, hD⟩ := id hRn
  obtain ⟨hnF, hOF, hAF, hBF, hCF, hDF, hEF, rA, rB, r0, rC, rD, rE⟩ := id hF
  have hf0 := hfa a 0
  refine jr_aload_n (pc := 0) h dX3_leaves_0 rfl ?_
  refine jr_iload_n (pc := 1) h dX3_leaves_1 rfl ?_
  refine jr_iconst (pc := 2) h dX3_leaves_2 ?_
  refine iv_X3_59 (pc := 3) h hl hR dX3_leaves_3 ⟨(Nat.le_of_ble_eq_true rfl), (Nat.le_of_ble_eq_true rfl), (Nat.le_of_ble_eq_true rfl), (Nat.le_of_ble_eq_true rfl)⟩ (Nat.le_of_ble_eq_true rfl) (by assumption) (by omega) (s_X3_fact hRn (by omega) (by omega)) (fun v_3 n_3 M_3 hn_3 hp => ?_)
  obtain ⟨rfl, rfl, rfl⟩ := hp
  refine jr_istore_n (pc := 6) h [_, _, _, _, _, _] dX3_leaves_6 (by decide) rfl ?_
  refine jr_aload_n (pc := 7) h dX3_leaves_7 rfl ?_
  refine jr_iload_n (pc := 8) h dX3_leaves_8 rfl ?_
  refine iv_X3_66 (pc := 9) h hl hR dX3_leaves_9 ⟨(Nat.le_of_ble_eq_true rfl), (Nat.le_of_ble_eq_true rfl), (Nat.le_of_ble_eq_true rfl), (Nat.le_of_ble_eq_true rfl)⟩ (Nat.le_of_ble_eq_true rfl) (by assumption) (by omega) (s_X1_isFront hF (by omega)) (fun v_9 n_9 M_9 hn_9 hp => ?_)
  obtain ⟨⟨rfl, rfl, rfl⟩, gr_9⟩ := hp
  refine jr_if_eq (pc := 12) h 21 dX3_leaves_12 (by decide) (by omega) (fun c_12 => ?_) (fun c_12 => ?_)
  · skip
    skip
    refine jr_iload_n (pc := 21) h dX3_leaves_21 rfl ?_
    refine jr_iconst (pc := 22) h dX3_leaves_22 ?_
    refine jr_isub (pc := 23) h dX3_leaves_23 ?_
    have en : c_nxr td fa a = a - 1 := if_neg (bz_0.mp c_12)
    rw [show a - 1 = c_nxr td fa a from en.symm]
    have hna := hfa (c_nxr td fa a) 0
    have ha0 := hfa a 0
    refine jr_istore (pc := 24) h [_, _, _, _, _, _] dX3_leaves_24 (by decide) rfl ?_
    refine jr_iload (pc := 26) h dX3_leaves_26 rfl ?_
    refine jr_iconst (pc := 28) h dX3_leaves_28 ?_
    refine jr_icmp_lt (pc := 29) h 65 dX3_leaves_29 (by decide) (by omega) (by omega) (fun c_29 => ?_) (fun c_29 => ?_)
    · skip
      skip
      refine jr_iconst (pc := 65) h dX3_leaves_65 ?_
      refine jr_istore (pc := 66) h [_, _, _, _, _, _] dX3_leaves_66 (by decide) rfl ?_
      refine jr_iload (pc := 68) h dX3_leaves_68 rfl ?_
      refine jr_if_eq (pc := 70) h 83 dX3_leaves_70 (by decide) (by omega) (fun _ => ?_) (fun c => absurd rfl c)
      refine jr_aload_n (pc := 83) h dX3_leaves_83 rfl ?_
      refine jr_iload_n (pc := 84) h dX3_leaves_84 rfl ?_
      refine jr_iconst (pc := 85) h dX3_leaves_85 ?_
      refine iv_X3_59 (pc := 86) h hl hR dX3_leaves_86 ⟨(Nat.le_of_ble_eq_true rfl), (Nat.le_of_ble_eq_true rfl), (Nat.le_of_ble_eq_true rfl), (Nat.le_of_ble_eq_true rfl)⟩ (Nat.le_of_ble_eq_true rfl) (by assumption) (by omega) (s_X3_fact hRn (by omega) (by omega)) (fun v_86 n_86 M_86 hn_86 hp => ?_)
      obtain ⟨rfl, rfl, rfl⟩ := hp
      refine jr_iret (pc := 89) h hRt dX3_leaves_89 rfl (Nat.le_of_ble_eq_true rfl) (Nat.le_of_ble_eq_true rfl) ?_
      first
      | (have hg : c_go ct td g fa a := ⟨by omega, by omega, bz_1.mp c_47, by omega⟩
         have e9 : c_lv ct td g fa a = c_fact fa (c_nxr td fa a) 1 := if_pos hg
         rw [e9]
         exact ⟨⟨rfl, rfl, rfl⟩, hfa _ _⟩)
      | (have hg : ¬ c_go ct td g fa a := fun z => by
           obtain ⟨z1, z2, z3, z4⟩ := z
           first
           | omega
           | exact (bz_0.mp c_47) z3
         have e9 : c_lv ct td g fa a = c_fact fa a 2 := if_neg hg
         rw [e9]
         exact ⟨⟨rfl, rfl, rfl⟩, hfa _ _⟩)
    · skip
      refine jr_iload (pc := 32) h dX3_leaves_32 rfl ?_
      refine jr_aload_n (pc := 34) h dX3_leaves_34 rfl ?_
      refine iv_X3_40 (pc := 35) h hl hR dX3_leaves_35 ⟨(Nat.le_of_ble_eq_true rfl), (Nat.le_of_ble_eq_true rfl), (Nat.le_of_ble_eq_true rfl), (Nat.le_of_ble_eq_true rfl)⟩ (Nat.le_of_ble_eq_true rfl) (by assumption) (by omega) (s_X1_rows hF) (fun v_35 n_35 M_35 hn_35 hp => ?_)
      obtain ⟨⟨rfl, rfl, rfl⟩, gr_35⟩ := hp
      refine jr_icmp_gt (pc := 38) h 65 dX3_leaves_38 (by decide) (by omega) (by omega) (fun c_38 => ?_) (fun c_38 => ?_)
      · skip
        skip
        refine jr_iconst (pc := 65) h dX3_leaves_65 ?_
        refine jr_istore (pc := 66) h [_, _, _, _, _, _] dX3_leaves_66 (by decide) rfl ?_
        refine jr_iload (pc := 68) h dX3_leaves_68 rfl ?_
        refine jr_if_eq (pc := 70) h 83 dX3_leaves_70 (by decide) (by omega) (fun _ => ?_) (fun c => absurd rfl c)
        refine jr_aload_n (pc := 83) h dX3_leaves_83 rfl ?_
        refine jr_iload_n (pc := 84) h dX3_leaves_84 rfl ?_
        refine jr_iconst (pc := 85) h dX3_leaves_85 ?_
        refine iv_X3_59 (pc := 86) h hl hR dX3_leaves_86 ⟨(Nat.le_of_ble_eq_true rfl), (Nat.le_of_ble_eq_true rfl), (Nat.le_of_ble_eq_true rfl), (Nat.le_of_ble_eq_true rfl)⟩ (Nat.le_of_ble_eq_true rfl) (by assumption) (by omega) (s_X3_fact hRn (by omega) (by omega)) (fun v_86 n_86 M_86 hn_86 hp => ?_)
        obtain ⟨rfl, rfl, rfl⟩ := hp
        refine jr_iret (pc := 89) h hRt dX3_leaves_89 rfl (Nat.le_of_ble_eq_true rfl) (Nat.le_of_ble_eq_true rfl) ?_
        first
        | (have hg : c_go ct td g fa a := ⟨by omega, by omega, bz_1.mp c_47, by omega⟩
           have e9 : c_lv ct td g fa a = c_fact fa (c_nxr td fa a) 1 := if_pos hg
           rw [e9]
           exact ⟨⟨rfl, rfl, rfl⟩, hfa _ _⟩)
        | (have hg : ¬ c_go ct td g fa a := fun z => by
             obtain ⟨z1, z2, z3, z4⟩ := z
             first
             | omega
             | exact (bz_0.mp c_47) z3
           have e9 : c_lv ct td g fa a = c_fact fa a 2 := if_neg hg
           rw [e9]
           exact ⟨⟨rfl, rfl, rfl⟩, hfa _ _⟩)
      · skip
        refine jr_aload_n (pc := 41) h dX3_leaves_41 rfl ?_
        refine jr_iload (pc := 42) h dX3_leaves_42 rfl ?_
        refine iv_X3_130 (pc := 44) h hl hR dX3_leaves_44 ⟨(Nat.le_of_ble_eq_true rfl), (Nat.le_of_ble_eq_true rfl), (Nat.le_of_ble_eq_true rfl), (Nat.le_of_ble_eq_true rfl)⟩ (Nat.le_of_ble_eq_true rfl) (by assumption) (by omega) (s_X3_isServed hRn h4 h5 (by omega)) (fun v_44 n_44 M_44 hn_44 hp => ?_)
        obtain ⟨⟨rfl, rfl, rfl⟩, gr_44⟩ := hp
        refine jr_if_eq (pc := 47) h 65 dX3_leaves_47 (by decide) (by omega) (fun c_47 => ?_) (fun c_47 => ?_)
        · skip
          skip
          refine jr_iconst (pc := 65) h dX3_leaves_65 ?_
          refine jr_istore (pc := 66) h [_, _, _, _, _, _] dX3_leaves_66 (by decide) rfl ?_
          refine jr_iload (pc := 68) h dX3_leaves_68 rfl ?_
          refine jr_if_eq (pc := 70) h 83 dX3_leaves_70 (by decide) (by omega) (fun _ => ?_) (fun c => absurd rfl c)
          refine jr_aload_n (pc := 83) h dX3_leaves_83 rfl ?_
          refine jr_iload_n (pc := 84) h dX3_leaves_84 rfl ?_
          refine jr_iconst (pc := 85) h dX3_leaves_85 ?_
          refine iv_X3_59 (pc := 86) h hl hR dX3_leaves_86 ⟨(Nat.le_of_ble_eq_true rfl), (Nat.le_of_ble_eq_true rfl), (Nat.le_of_ble_eq_true rfl), (Nat.le_of_ble_eq_true rfl)⟩ (Nat.le_of_ble_eq_true rfl) (by assumption) (by omega) (s_X3_fact hRn (by omega) (by omega)) (fun v_86 n_86 M_86 hn_86 hp => ?_)
          obtain ⟨rfl, rfl, rfl⟩ := hp
          refine jr_iret (pc := 89) h hRt dX3_leaves_89 rfl (Nat.le_of_ble_eq_true rfl) (Nat.le_of_ble_eq_true rfl) ?_
          first
          | (have hg : c_go ct td g fa a := ⟨by omega, by omega, bz_1.mp c_47, by omega⟩
             have e9 : c_lv ct td g fa a = c_fact fa (c_nxr td fa a) 1 := if_pos hg
             rw [e9]
             exact ⟨⟨rfl, rfl, rfl⟩, hfa _ _⟩)
          | (have hg : ¬ c_go ct td g fa a := fun z => by
               obtain ⟨z1, z2, z3, z4⟩ := z
               first
               | omega
               | exact (bz_0.mp c_47) z3
             have e9 : c_lv ct td g fa a = c_fact fa a 2 := if_neg hg
             rw [e9]
             exact ⟨⟨rfl, rfl, rfl⟩, hfa _ _⟩)
        · skip
          refine jr_aload_n (pc := 50) h dX3_leaves_50 rfl ?_
          refine jr_iload (pc := 51) h dX3_leaves_51 rfl ?_
          refine jr_iconst (pc := 53) h dX3_leaves_53 ?_
          refine iv_X3_59 (pc := 54) h hl hR dX3_leaves_54 ⟨(Nat.le_of_ble_eq_true rfl), (Nat.le_of_ble_eq_true rfl), (Nat.le_of_ble_eq_true rfl), (Nat.le_of_ble_eq_true rfl)⟩ (Nat.le_of_ble_eq_true rfl) (by assumption) (by omega) (s_X3_fact hRn (by omega) (by omega)) (fun v_54 n_54 M_54 hn_54 hp => ?_)
          obtain ⟨rfl, rfl, rfl⟩ := hp
          refine jr_iload_n (pc := 57) h dX3_leaves_57 rfl ?_
          refine jr_icmp_ne (pc := 58) h 65 dX3_leaves_58 (by decide) (by omega) (by omega) (fun c_58 => ?_) (fun c_58 => ?_)
          · skip
            skip
            refine jr_iconst (pc := 65) h dX3_leaves_65 ?_
            refine jr_istore (pc := 66) h [_, _, _, _, _, _] dX3_leaves_66 (by decide) rfl ?_
            refine jr_iload (pc := 68) h dX3_leaves_68 rfl ?_
            refine jr_if_eq (pc := 70) h 83 dX3_leaves_70 (by decide) (by omega) (fun _ => ?_) (fun c => absurd rfl c)
            refine jr_aload_n (pc := 83) h dX3_leaves_83 rfl ?_
            refine jr_iload_n (pc := 84) h dX3_leaves_84 rfl ?_
            refine jr_iconst (pc := 85) h dX3_leaves_85 ?_
            refine iv_X3_59 (pc := 86) h hl hR dX3_leaves_86 ⟨(Nat.le_of_ble_eq_true rfl), (Nat.le_of_ble_eq_true rfl), (Nat.le_of_ble_eq_true rfl), (Nat.le_of_ble_eq_true rfl)⟩ (Nat.le_of_ble_eq_true rfl) (by assumption) (by omega) (s_X3_fact hRn (by omega) (by omega)) (fun v_86 n_86 M_86 hn_86 hp => ?_)
            obtain ⟨rfl, rfl, rfl⟩ := hp
            refine jr_iret (pc := 89) h hRt dX3_leaves_89 rfl (Nat.le_of_ble_eq_true rfl) (Nat.le_of_ble_eq_true rfl) ?_
            first
            | (have hg : c_go ct td g fa a := ⟨by omega, by omega, bz_1.mp c_47, by omega⟩
               have e9 : c_lv ct td g fa a = c_fact fa (c_nxr td fa a) 1 := if_pos hg
               rw [e9]
               exact ⟨⟨rfl, rfl, rfl⟩, hfa _ _⟩)
            | (have hg : ¬ c_go ct td g fa a := fun z => by
                 obtain ⟨z1, z2, z3, z4⟩ := z
                 first
                 | omega
                 | exact (bz_0.mp c_47) z3
               have e9 : c_lv ct td g fa a = c_fact fa a 2 := if_neg hg
               rw [e9]
               exact ⟨⟨rfl, rfl, rfl⟩, hfa _ _⟩)
          · skip
            skip
            refine jr_iconst (pc := 61) h dX3_leaves_61 ?_
            refine jr_goto (pc := 62) h 66 dX3_leaves_62 (by decide) ?_
            refine jr_istore (pc := 66) h [_, _, _, _, _, _] dX3_leaves_66 (by decide) rfl ?_
            refine jr_iload (pc := 68) h dX3_leaves_68 rfl ?_
            refine jr_if_eq (pc := 70) h 83 dX3_leaves_70 (by decide) (by omega) (fun c => absurd c (by decide)) (fun _ => ?_)
            refine jr_aload_n (pc := 73) h dX3_leaves_73 rfl ?_
            refine jr_iload (pc := 74) h dX3_leaves_74 rfl ?_
            refine jr_iconst (pc := 76) h dX3_leaves_76 ?_
            refine iv_X3_59 (pc := 77) h hl hR dX3_leaves_77 ⟨(Nat.le_of_ble_eq_true rfl), (Nat.le_of_ble_eq_true rfl), (Nat.le_of_ble_eq_true rfl), (Nat.le_of_ble_eq_true rfl)⟩ (Nat.le_of_ble_eq_true rfl) (by assumption) (by omega) (s_X3_fact hRn (by omega) (by omega)) (fun v_77 n_77 M_77 hn_77 hp => ?_)
            obtain ⟨rfl, rfl, rfl⟩ := hp
            refine jr_goto (pc := 80) h 89 dX3_leaves_80 (by decide) ?_
            refine jr_iret (pc := 89) h hRt dX3_leaves_89 rfl (Nat.le_of_ble_eq_true rfl) (Nat.le_of_ble_eq_true rfl) ?_
            first
            | (have hg : c_go ct td g fa a := ⟨by omega, by omega, bz_1.mp c_47, by omega⟩
               have e9 : c_lv ct td g fa a = c_fact fa (c_nxr td fa a) 1 := if_pos hg
               rw [e9]
               exact ⟨⟨rfl, rfl, rfl⟩, hfa _ _⟩)
            | (have hg : ¬ c_go ct td g fa a := fun z => by
                 obtain ⟨z1, z2, z3, z4⟩ := z
                 first
                 | omega
                 | exact (bz_0.mp c_47) z3
               have e9 : c_lv ct td g fa a = c_fact fa a 2 := if_neg hg
               rw [e9]
               exact ⟨⟨rfl, rfl, rfl⟩, hfa _ _⟩)
  · skip
    skip
    refine jr_iload_n (pc := 15) h dX3_leaves_15 rfl ?_
    refine jr_iconst (pc := 16) h dX3_leaves_16 ?_
    refine jr_iadd (pc := 17) h dX3_leaves_17 ?_
    refine jr_goto (pc := 18) h 24 dX3_leaves_18 (by decide) ?_
    have en : c_nxr td fa a = a + 1 := if_pos (bz_1.mp c_12)
    rw [show a + 1 = c_nxr td fa a from en.symm]
    have hna := hfa (c_nxr td fa a) 0
    have ha0 := hfa a 0
    refine jr_istore (pc := 24) h [_, _, _, _, _, _] dX3_leaves_24 (by decide) rfl ?_
    refine jr_iload (pc := 26) h dX3_leaves_26 rfl ?_
    refine jr_iconst (pc := 28) h dX3_leaves_28 ?_
    refine jr_icmp_lt (pc := 29) h 65 dX3_leaves_29 (by decide) (by omega) (by omega) (fun c_29 => ?_) (fun c_29 => ?_)
    · skip
      skip
      refine jr_iconst (pc := 65) h dX3_leaves_65 ?_
      refine jr_istore (pc := 66) h [_, _, _, _, _, _] dX3_leaves_66 (by decide) rfl ?_
      refine jr_iload (pc := 68) h dX3_leaves_68 rfl ?_
      refine jr_if_eq (pc := 70) h 83 dX3_leaves_70 (by decide) (by omega) (fun _ => ?_) (fun c => absurd rfl c)
      refine jr_aload_n (pc := 83) h dX3_leaves_83 rfl ?_
      refine jr_iload_n (pc := 84) h dX3_leaves_84 rfl ?_
      refine jr_iconst (pc := 85) h dX3_leaves_85 ?_
      refine iv_X3_59 (pc := 86) h hl hR dX3_leaves_86 ⟨(Nat.le_of_ble_eq_true rfl), (Nat.le_of_ble_eq_true rfl), (Nat.le_of_ble_eq_true rfl), (Nat.le_of_ble_eq_true rfl)⟩ (Nat.le_of_ble_eq_true rfl) (by assumption) (by omega) (s_X3_fact hRn (by omega) (by omega)) (fun v_86 n_86 M_86 hn_86 hp => ?_)
      obtain ⟨rfl, rfl, rfl⟩ := hp
      refine jr_iret (pc := 89) h hRt dX3_leaves_89 rfl (Nat.le_of_ble_eq_true rfl) (Nat.le_of_ble_eq_true rfl) ?_
      first
      | (have hg : c_go ct td g fa a := ⟨by omega, by omega, bz_1.mp c_47, by omega⟩
         have e9 : c_lv ct td g fa a = c_fact fa (c_nxr td fa a) 1 := if_pos hg
         rw [e9]
         exact ⟨⟨rfl, rfl, rfl⟩, hfa _ _⟩)
      | (have hg : ¬ c_go ct td g fa a := fun z => by
           obtain ⟨z1, z2, z3, z4⟩ := z
           first
           | omega
           | exact (bz_0.mp c_47) z3
         have e9 : c_lv ct td g fa a = c_fact fa a 2 := if_neg hg
         rw [e9]
         exact ⟨⟨rfl, rfl, rfl⟩, hfa _ _⟩)
    · skip
      refine jr_iload (pc := 32) h dX3_leaves_32 rfl ?_
      refine jr_aload_n (pc := 34) h dX3_leaves_34 rfl ?_
      refine iv_X3_40 (pc := 35) h hl hR dX3_leaves_35 ⟨(Nat.le_of_ble_eq_true rfl), (Nat.le_of_ble_eq_true rfl), (Nat.le_of_ble_eq_true rfl), (Nat.le_of_ble_eq_true rfl)⟩ (Nat.le_of_ble_eq_true rfl) (by assumption) (by omega) (s_X1_rows hF) (fun v_35 n_35 M_35 hn_35 hp => ?_)
      obtain ⟨⟨rfl, rfl, rfl⟩, gr_35⟩ := hp
      refine jr_icmp_gt (pc := 38) h 65 dX3_leaves_38 (by decide) (by omega) (by omega) (fun c_38 => ?_) (fun c_38 => ?_)
      · skip
        skip
        refine jr_iconst (pc := 65) h dX3_leaves_65 ?_
        refine jr_istore (pc := 66) h [_, _, _, _, _, _] dX3_leaves_66 (by decide) rfl ?_
        refine jr_iload (pc := 68) h dX3_leaves_68 rfl ?_
        refine jr_if_eq (pc := 70) h 83 dX3_leaves_70 (by decide) (by omega) (fun _ => ?_) (fun c => absurd rfl c)
        refine jr_aload_n (pc := 83) h dX3_leaves_83 rfl ?_
        refine jr_iload_n (pc := 84) h dX3_leaves_84 rfl ?_
        refine jr_iconst (pc := 85) h dX3_leaves_85 ?_
        refine iv_X3_59 (pc := 86) h hl hR dX3_leaves_86 ⟨(Nat.le_of_ble_eq_true rfl), (Nat.le_of_ble_eq_true rfl), (Nat.le_of_ble_eq_true rfl), (Nat.le_of_ble_eq_true rfl)⟩ (Nat.le_of_ble_eq_true rfl) (by assumption) (by omega) (s_X3_fact hRn (by omega) (by omega)) (fun v_86 n_86 M_86 hn_86 hp => ?_)
        obtain ⟨rfl, rfl, rfl⟩ := hp
        refine jr_iret (pc := 89) h hRt dX3_leaves_89 rfl (Nat.le_of_ble_eq_true rfl) (Nat.le_of_ble_eq_true rfl) ?_
        first
        | (have hg : c_go ct td g fa a := ⟨by omega, by omega, bz_1.mp c_47, by omega⟩
           have e9 : c_lv ct td g fa a = c_fact fa (c_nxr td fa a) 1 := if_pos hg
           rw [e9]
           exact ⟨⟨rfl, rfl, rfl⟩, hfa _ _⟩)
        | (have hg : ¬ c_go ct td g fa a := fun z => by
             obtain ⟨z1, z2, z3, z4⟩ := z
             first
             | omega
             | exact (bz_0.mp c_47) z3
           have e9 : c_lv ct td g fa a = c_fact fa a 2 := if_neg hg
           rw [e9]
           exact ⟨⟨rfl, rfl, rfl⟩, hfa _ _⟩)
      · skip
        refine jr_aload_n (pc := 41) h dX3_leaves_41 rfl ?_
        refine jr_iload (pc := 42) h dX3_leaves_42 rfl ?_
        refine iv_X3_130 (pc := 44) h hl hR dX3_leaves_44 ⟨(Nat.le_of_ble_eq_true rfl), (Nat.le_of_ble_eq_true rfl), (Nat.le_of_ble_eq_true rfl), (Nat.le_of_ble_eq_true rfl)⟩ (Nat.le_of_ble_eq_true rfl) (by assumption) (by omega) (s_X3_isServed hRn h4 h5 (by omega)) (fun v_44 n_44 M_44 hn_44 hp => ?_)
        obtain ⟨⟨rfl, rfl, rfl⟩, gr_44⟩ := hp
        refine jr_if_eq (pc := 47) h 65 dX3_leaves_47 (by decide) (by omega) (fun c_47 => ?_) (fun c_47 => ?_)
        · skip
          skip
          refine jr_iconst (pc := 65) h dX3_leaves_65 ?_
          refine jr_istore (pc := 66) h [_, _, _, _, _, _] dX3_leaves_66 (by decide) rfl ?_
          refine jr_iload (pc := 68) h dX3_leaves_68 rfl ?_
          refine jr_if_eq (pc := 70) h 83 dX3_leaves_70 (by decide) (by omega) (fun _ => ?_) (fun c => absurd rfl c)
          refine jr_aload_n (pc := 83) h dX3_leaves_83 rfl ?_
          refine jr_iload_n (pc := 84) h dX3_leaves_84 rfl ?_
          refine jr_iconst (pc := 85) h dX3_leaves_85 ?_
          refine iv_X3_59 (pc := 86) h hl hR dX3_leaves_86 ⟨(Nat.le_of_ble_eq_true rfl), (Nat.le_of_ble_eq_true rfl), (Nat.le_of_ble_eq_true rfl), (Nat.le_of_ble_eq_true rfl)⟩ (Nat.le_of_ble_eq_true rfl) (by assumption) (by omega) (s_X3_fact hRn (by omega) (by omega)) (fun v_86 n_86 M_86 hn_86 hp => ?_)
          obtain ⟨rfl, rfl, rfl⟩ := hp
          refine jr_iret (pc := 89) h hRt dX3_leaves_89 rfl (Nat.le_of_ble_eq_true rfl) (Nat.le_of_ble_eq_true rfl) ?_
          first
          | (have hg : c_go ct td g fa a := ⟨by omega, by omega, bz_1.mp c_47, by omega⟩
             have e9 : c_lv ct td g fa a = c_fact fa (c_nxr td fa a) 1 := if_pos hg
             rw [e9]
             exact ⟨⟨rfl, rfl, rfl⟩, hfa _ _⟩)
          | (have hg : ¬ c_go ct td g fa a := fun z => by
               obtain ⟨z1, z2, z3, z4⟩ := z
               first
               | omega
               | exact (bz_0.mp c_47) z3
             have e9 : c_lv ct td g fa a = c_fact fa a 2 := if_neg hg
             rw [e9]
             exact ⟨⟨rfl, rfl, rfl⟩, hfa _ _⟩)
        · skip
          refine jr_aload_n (pc := 50) h dX3_leaves_50 rfl ?_
          refine jr_iload (pc := 51) h dX3_leaves_51 rfl ?_
          refine jr_iconst (pc := 53) h dX3_leaves_53 ?_
          refine iv_X3_59 (pc := 54) h hl hR dX3_leaves_54 ⟨(Nat.le_of_ble_eq_true rfl), (Nat.le_of_ble_eq_true rfl), (Nat.le_of_ble_eq_true rfl), (Nat.le_of_ble_eq_true rfl)⟩ (Nat.le_of_ble_eq_true rfl) (by assumption) (by omega) (s_X3_fact hRn (by omega) (by omega)) (fun v_54 n_54 M_54 hn_54 hp => ?_)
          obtain ⟨rfl, rfl, rfl⟩ := hp
          refine jr_iload_n (pc := 57) h dX3_leaves_57 rfl ?_
          refine jr_icmp_ne (pc := 58) h 65 dX3_leaves_58 (by decide) (by omega) (by omega) (fun c_58 => ?_) (fun c_58 => ?_)
          · skip
            skip
            refine jr_iconst (pc := 65) h dX3_leaves_65 ?_
            refine jr_istore (pc := 66) h [_, _, _, _, _, _] dX3_leaves_66 (by decide) rfl ?_
            refine jr_iload (pc := 68) h dX3_leaves_68 rfl ?_
            refine jr_if_eq (pc := 70) h 83 dX3_leaves_70 (by decide) (by omega) (fun _ => ?_) (fun c => absurd rfl c)
            refine jr_aload_n (pc := 83) h dX3_leaves_83 rfl ?_
            refine jr_iload_n (pc := 84) h dX3_leaves_84 rfl ?_
            refine jr_iconst (pc := 85) h dX3_leaves_85 ?_
            refine iv_X3_59 (pc := 86) h hl hR dX3_leaves_86 ⟨(Nat.le_of_ble_eq_true rfl), (Nat.le_of_ble_eq_true rfl), (Nat.le_of_ble_eq_true rfl), (Nat.le_of_ble_eq_true rfl)⟩ (Nat.le_of_ble_eq_true rfl) (by assumption) (by omega) (s_X3_fact hRn (by omega) (by omega)) (fun v_86 n_86 M_86 hn_86 hp => ?_)
            obtain ⟨rfl, rfl, rfl⟩ := hp
            refine jr_iret (pc := 89) h hRt dX3_leaves_89 rfl (Nat.le_of_ble_eq_true rfl) (Nat.le_of_ble_eq_true rfl) ?_
            first
            | (have hg : c_go ct td g fa a := ⟨by omega, by omega, bz_1.mp c_47, by omega⟩
               have e9 : c_lv ct td g fa a = c_fact fa (c_nxr td fa a) 1 := if_pos hg
               rw [e9]
               exact ⟨⟨rfl, rfl, rfl⟩, hfa _ _⟩)
            | (have hg : ¬ c_go ct td g fa a := fun z => by
                 obtain ⟨z1, z2, z3, z4⟩ := z
                 first
                 | omega
                 | exact (bz_0.mp c_47) z3
               have e9 : c_lv ct td g fa a = c_fact fa a 2 := if_neg hg
               rw [e9]
               exact ⟨⟨rfl, rfl, rfl⟩, hfa _ _⟩)
          · skip
            skip
            refine jr_iconst (pc := 61) h dX3_leaves_61 ?_
            refine jr_goto (pc := 62) h 66 dX3_leaves_62 (by decide) ?_
            refine jr_istore (pc := 66) h [_, _, _, _, _, _] dX3_leaves_66 (by decide) rfl ?_
            refine jr_iload (pc := 68) h dX3_leaves_68 rfl ?_
            refine jr_if_eq (pc := 70) h 83 dX3_leaves_70 (by decide) (by omega) (fun c => absurd c (by decide)) (fun _ => ?_)
            refine jr_aload_n (pc := 73) h dX3_leaves_73 rfl ?_
            refine jr_iload (pc := 74) h dX3_leaves_74 rfl ?_
            refine jr_iconst (pc := 76) h dX3_leaves_76 ?_
            refine iv_X3_59 (pc := 77) h hl hR dX3_leaves_77 ⟨(Nat.le_of_ble_eq_true rfl), (Nat.le_of_ble_eq_true rfl), (Nat.le_of_ble_eq_true rfl), (Nat.le_of_ble_eq_true rfl)⟩ (Nat.le_of_ble_eq_true rfl) (by assumption) (by omega) (s_X3_fact hRn (by omega) (by omega)) (fun v_77 n_77 M_77 hn_77 hp => ?_)
            obtain ⟨rfl, rfl, rfl⟩ := hp
            refine jr_goto (pc := 80) h 89 dX3_leaves_80 (by decide) ?_
            refine jr_iret (pc := 89) h hRt dX3_leaves_89 rfl (Nat.le_of_ble_eq_true rfl) (Nat.le_of_ble_eq_true rfl) ?_
            first
            | (have hg : c_go ct td g fa a := ⟨by omega, by omega, bz_1.mp c_47, by omega⟩
               have e9 : c_lv ct td g fa a = c_fact fa (c_nxr td fa a) 1 := if_pos hg
               rw [e9]
               exact ⟨⟨rfl, rfl, rfl⟩, hfa _ _⟩)
            | (have hg : ¬ c_go ct td g fa a := fun z => by
                 obtain ⟨z1, z2, z3, z4⟩ := z
                 first
                 | omega
                 | exact (bz_0.mp c_47) z3
               have e9 : c_lv ct td g fa a = c_fact fa a 2 := if_neg hg
               rw [e9]
               exact ⟨⟨rfl, rfl, rfl⟩, hfa _ _⟩)
set_option maxHeartbeats 2000000 in
set_option maxRecDepth 20000 in
theorem s_X3_rowOf {l : Launch} {n : Nat} {M : jdM} {r : Nat} {g sp sk fa go : Nat → Int} (hRn : Rn M n r g sp sk fa go) {f : Nat} {ct td bk si ld : Nat → Int} (hF : Fl M n f ct td bk si ld) (h4 : 0 ≤ g 4 ∧ g 4 ≤ 1000) (h5 : -1 ≤ g 5 ∧ g 5 ≤ 1000) (hfa : ∀ a b : Int, -100000000 ≤ c_fact fa a b ∧ c_fact fa a b ≤ 100000000) {t s : Int} (ht : 0 ≤ t ∧ t ≤ 10) (hs : 0 ≤ s ∧ s ≤ 100000000) : Ct l yX3_rowOf cX3_rowOf 5 (some .int) rX3_rowOf [.ref r, .ref f, jI t, jI s] n M (fun vv n' M' => (vv = some (jI (c_on ct td g fa t s)) ∧ n = n' ∧ M = M') ∧ (-1) ≤ (c_on ct td g fa t s) ∧ (c_on ct td g fa t s) ≤ 40) := by
  refine Ct_of [some (.ref r), some (.ref f), some (jI t), some (jI s), none] (by decide) (Nat.le_of_ble_eq_true rfl) rfl (fun κ hl h hR hRt hmn hn0 => ?_)
  have h : Ok κ RX3 cX3_rowOf 5 (some .int) := h
  obtain ⟨hn, hO, hA, hB, hC, hD⟩ := id hRn
  obtain ⟨hnF, hOF, hAF, hBF, hCF, hDF, hEF, rA, rB, r0, rC, rD, rE⟩ := id hF
  have ctr : 0 ≤ c_rows ct td ∧ c_rows ct td ≤ 40 := by
    unfold c_rows c_get
    have := (rB 0).1
    split
    · omega
    · rw [if_pos (by omega)]
      exact ⟨this, r0⟩
  have loop : ∀ (dq : Nat) (i : Int), (1 ≤ i ∧ i ≤ c_rows ct td + 1) → (c_on ct td g fa t s = fstZ (c_onp ct td g fa t s) i (c_rows ct td + 1 - i).toNat) → (50 - i).toNat < dq → J κ 5 0 0 n 3 [some (.ref r), some (.ref f), some (jI t), some (jI s), some (jI i)] [] M := by
    intro dq
    induction dq with
    | zero => intro i hi hx hd; omega
    | succ dq ih =>
      intro i hi hx hd
      refine jr_iload (pc := 3) h dX3_rowOf_3 rfl ?_
      refine jr_aload_n (pc := 5) h dX3_rowOf_5 rfl ?_
      refine iv_X3_40 (pc := 6) h hl hR dX3_rowOf_6 ⟨(Nat.le_of_ble_eq_true rfl), (Nat.le_of_ble_eq_true rfl), (Nat.le_of_ble_eq_true rfl), (Nat.le_of_ble_eq_true rfl)⟩ (Nat.le_of_ble_eq_true rfl) (by assumption) (by omega) (s_X1_rows hF) (fun v_6 n_6 M_6 hn_6 hp => ?_)
      obtain ⟨⟨rfl, rfl, rfl⟩, gr_6⟩ := hp
      refine jr_icmp_gt (pc := 9) h 63 dX3_rowOf_9 (by decide) (by omega) (by omega) (fun c_9 => ?_) (fun c_9 => ?_)
      · skip
        refine jr_iconst (pc := 63) h dX3_rowOf_63 ?_
        refine jr_iret (pc := 64) h hRt dX3_rowOf_64 rfl (Nat.le_of_ble_eq_true rfl) (Nat.le_of_ble_eq_true rfl) ?_
        have ef : c_on ct td g fa t s = -1 := by rw [hx, fstZ_0 (by omega)]
        rw [ef]
        exact ⟨⟨rfl, rfl, rfl⟩, by omega⟩
      · skip
        have hf0 := hfa i 0
        have hf1 := hfa i 1
        refine jr_aload_n (pc := 12) h dX3_rowOf_12 rfl ?_
        refine jr_iload (pc := 13) h dX3_rowOf_13 rfl ?_
        refine iv_X3_130 (pc := 15) h hl hR dX3_rowOf_15 ⟨(Nat.le_of_ble_eq_true rfl), (Nat.le_of_ble_eq_true rfl), (Nat.le_of_ble_eq_true rfl), (Nat.le_of_ble_eq_true rfl)⟩ (Nat.le_of_ble_eq_true rfl) (by assumption) (by omega) (s_X3_isServed hRn h4 h5 (by omega)) (fun v_15 n_15 M_15 hn_15 hp => ?_)
        obtain ⟨⟨rfl, rfl, rfl⟩, gr_15⟩ := hp
        refine jr_if_eq (pc := 18) h 57 dX3_rowOf_18 (by decide) (by omega) (fun c_18 => ?_) (fun c_18 => ?_)
        · skip
          refine jr_iinc (pc := 57) h [_, _, _, _, _] dX3_rowOf_57 (by decide) rfl rfl ?_
          refine jr_goto (pc := 60) h 3 dX3_rowOf_60 (by decide) ?_
          refine ih _ (by omega) ?_ (by omega)
          rw [hx, fstZ_f (by omega) (fun z => by
            obtain ⟨z1, z2, z3, z4⟩ := z
            first
            | omega
            | exact (bz_0.mp c_18) z1)]
        · skip
          refine jr_aload_n (pc := 21) h dX3_rowOf_21 rfl ?_
          refine jr_iload (pc := 22) h dX3_rowOf_22 rfl ?_
          refine jr_iconst (pc := 24) h dX3_rowOf_24 ?_
          refine iv_X3_59 (pc := 25) h hl hR dX3_rowOf_25 ⟨(Nat.le_of_ble_eq_true rfl), (Nat.le_of_ble_eq_true rfl), (Nat.le_of_ble_eq_true rfl), (Nat.le_of_ble_eq_true rfl)⟩ (Nat.le_of_ble_eq_true rfl) (by assumption) (by omega) (s_X3_fact hRn (by omega) (by omega)) (fun v_25 n_25 M_25 hn_25 hp => ?_)
          obtain ⟨rfl, rfl, rfl⟩ := hp
          refine jr_iload_n (pc := 28) h dX3_rowOf_28 rfl ?_
          refine jr_icmp_ne (pc := 29) h 57 dX3_rowOf_29 (by decide) (by omega) (by omega) (fun c_29 => ?_) (fun c_29 => ?_)
          · skip
            refine jr_iinc (pc := 57) h [_, _, _, _, _] dX3_rowOf_57 (by decide) rfl rfl ?_
            refine jr_goto (pc := 60) h 3 dX3_rowOf_60 (by decide) ?_
            refine ih _ (by omega) ?_ (by omega)
            rw [hx, fstZ_f (by omega) (fun z => by
              obtain ⟨z1, z2, z3, z4⟩ := z
              first
              | omega
              | exact (bz_0.mp c_18) z1)]
          · skip
            refine jr_iload_n (pc := 32) h dX3_rowOf_32 rfl ?_
            refine jr_aload_n (pc := 33) h dX3_rowOf_33 rfl ?_
            refine jr_iload (pc := 34) h dX3_rowOf_34 rfl ?_
            refine jr_iconst (pc := 36) h dX3_rowOf_36 ?_
            refine iv_X3_59 (pc := 37) h hl hR dX3_rowOf_37 ⟨(Nat.le_of_ble_eq_true rfl), (Nat.le_of_ble_eq_true rfl), (Nat.le_of_ble_eq_true rfl), (Nat.le_of_ble_eq_true rfl)⟩ (Nat.le_of_ble_eq_true rfl) (by assumption) (by omega) (s_X3_fact hRn (by omega) (by omega)) (fun v_37 n_37 M_37 hn_37 hp => ?_)
            obtain ⟨rfl, rfl, rfl⟩ := hp
            refine jr_icmp_lt (pc := 40) h 57 dX3_rowOf_40 (by decide) (by omega) (by omega) (fun c_40 => ?_) (fun c_40 => ?_)
            · skip
              refine jr_iinc (pc := 57) h [_, _, _, _, _] dX3_rowOf_57 (by decide) rfl rfl ?_
              refine jr_goto (pc := 60) h 3 dX3_rowOf_60 (by decide) ?_
              refine ih _ (by omega) ?_ (by omega)
              rw [hx, fstZ_f (by omega) (fun z => by
                obtain ⟨z1, z2, z3, z4⟩ := z
                first
                | omega
                | exact (bz_0.mp c_18) z1)]
            · skip
              refine jr_iload_n (pc := 43) h dX3_rowOf_43 rfl ?_
              refine jr_aload_n (pc := 44) h dX3_rowOf_44 rfl ?_
              refine jr_aload_n (pc := 45) h dX3_rowOf_45 rfl ?_
              refine jr_iload (pc := 46) h dX3_rowOf_46 rfl ?_
              refine iv_X3_133 (pc := 48) h hl hR dX3_rowOf_48 ⟨(Nat.le_of_ble_eq_true rfl), (Nat.le_of_ble_eq_true rfl), (Nat.le_of_ble_eq_true rfl), (Nat.le_of_ble_eq_true rfl)⟩ (Nat.le_of_ble_eq_true rfl) (by assumption) (by omega) (s_X3_leaves hRn hF h4 h5 hfa (by omega)) (fun v_48 n_48 M_48 hn_48 hp => ?_)
              obtain ⟨⟨rfl, rfl, rfl⟩, gr_48⟩ := hp
              refine jr_icmp_ge (pc := 51) h 57 dX3_rowOf_51 (by decide) (by omega) (by omega) (fun c_51 => ?_) (fun c_51 => ?_)
              · skip
                refine jr_iinc (pc := 57) h [_, _, _, _, _] dX3_rowOf_57 (by decide) rfl rfl ?_
                refine jr_goto (pc := 60) h 3 dX3_rowOf_60 (by decide) ?_
                refine ih _ (by omega) ?_ (by omega)
                rw [hx, fstZ_f (by omega) (fun z => by
                  obtain ⟨z1, z2, z3, z4⟩ := z
                  first
                  | omega
                  | exact (bz_0.mp c_18) z1)]
              · skip
                refine jr_iload (pc := 54) h dX3_rowOf_54 rfl ?_
                refine jr_iret (pc := 56) h hRt dX3_rowOf_56 rfl (Nat.le_of_ble_eq_true rfl) (Nat.le_of_ble_eq_true rfl) ?_
                have ef : c_on ct td g fa t s = i := by rw [hx, fstZ_t (by omega) ⟨bz_1.mp c_18, by omega, by omega, by omega⟩]
                rw [ef]
                exact ⟨⟨rfl, rfl, rfl⟩, by omega⟩
  refine jr_iconst (pc := 0) h dX3_rowOf_0 ?_
  refine jr_istore (pc := 1) h [_, _, _, _, _] dX3_rowOf_1 (by decide) rfl ?_
  exact loop _ _ (by omega) rfl (Nat.lt_succ_self _)
theorem c_on_r {ct td g fa : Nat → Int} {t s : Int} (hr : 0 ≤ c_rows ct td ∧ c_rows ct td ≤ 40) : -1 ≤ c_on ct td g fa t s ∧ c_on ct td g fa t s ≤ 40 := by
  have := fstZ_r (p := c_onp ct td g fa t s) (d := (c_rows ct td + 1 - 1).toNat) (i := 1) (by omega)
  unfold c_on
  omega
theorem c_way_r {ct td g fa : Nat → Int} {x s : Int} (hr : 0 ≤ c_rows ct td ∧ c_rows ct td ≤ 40) : -1 ≤ c_way ct td g fa x s ∧ c_way ct td g fa x s ≤ 40 := by
  unfold c_way
  dsimp only
  split
  · omega
  · exact c_on_r hr
set_option maxHeartbeats 2000000 in
set_option maxRecDepth 20000 in
theorem s_X3_rowInTheWay {l : Launch} {n : Nat} {M : jdM} {r : Nat} {g sp sk fa go : Nat → Int} (hRn : Rn M n r g sp sk fa go) {f : Nat} {ct td bk si ld : Nat → Int} (hF : Fl M n f ct td bk si ld) (h4 : 0 ≤ g 4 ∧ g 4 ≤ 1000) (h5 : -1 ≤ g 5 ∧ g 5 ≤ 1000) (hfa : ∀ a b : Int, -100000000 ≤ c_fact fa a b ∧ c_fact fa a b ≤ 100000000) {x s : Int} (hx0 : 0 ≤ x ∧ x ≤ 10) (hs : 0 ≤ s ∧ s ≤ 100000000) : Ct l yX3_rowInTheWay cX3_rowInTheWay 8 (some .int) rX3_rowInTheWay [.ref r, .ref f, jI x, jI s] n M (fun vv n' M' => (vv = some (jI (c_way ct td g fa x s)) ∧ n = n' ∧ M = M') ∧ (-1) ≤ (c_way ct td g fa x s) ∧ (c_way ct td g fa x s) ≤ 40) := by
  refine Ct_of [some (.ref r), some (.ref f), some (jI x), some (jI s), none, none, none, none] (by decide) (Nat.le_of_ble_eq_true rfl) rfl (fun κ hl h hR hRt hmn hn0 => ?_)
  have h : Ok κ RX3 cX3_rowInTheWay 8 (some .int) := h
  obtain ⟨hn, hO, hA, hB, hC, hD⟩ := id hRn
  obtain ⟨hnF, hOF, hAF, hBF, hCF, hDF, hEF, rA, rB, r0, rC, rD, rE⟩ := id hF
  have ctr : 0 ≤ c_rows ct td ∧ c_rows ct td ≤ 40 := by
    unfold c_rows c_get
    have := (rB 0).1
    split
    · omega
    · rw [if_pos (by omega)]
      exact ⟨this, r0⟩
  have r5 := rA 5
  have gx1 := c_getr rB 11 x 1
  have gx2 := c_getr rB 11 x 2
  have loop : ∀ (dq : Nat) (i : Int) (u7 : Option Value), (0 ≤ i ∧ i ≤ ct 5) → (fstZ (c_wyp ct td g fa x s) 0 (ct 5 - 0).toNat = fstZ (c_wyp ct td g fa x s) i (ct 5 - i).toNat) → (20 - i).toNat < dq → J κ 8 0 0 n 23 [some (.ref r), some (.ref f), some (jI x), some (jI s), some (jI (c_get td 11 x 1)), some (jI (c_get td 11 x 2)), some (jI i), u7] [] M := by
    intro dq
    induction dq with
    | zero => intro i u7 hi hx hd; omega
    | succ dq ih =>
      intro i u7 hi hx hd
      have r5 := rA 5
      refine jr_iload (pc := 23) h dX3_rowInTheWay_23 rfl ?_
      refine jr_aload_n (pc := 25) h dX3_rowInTheWay_25 rfl ?_
      refine jr_iconst (pc := 26) h dX3_rowInTheWay_26 ?_
      refine iv_X3_92 (pc := 27) h hl hR dX3_rowInTheWay_27 ⟨(Nat.le_of_ble_eq_true rfl), (Nat.le_of_ble_eq_true rfl), (Nat.le_of_ble_eq_true rfl), (Nat.le_of_ble_eq_true rfl)⟩ (Nat.le_of_ble_eq_true rfl) (by assumption) (by omega) (s_X1_count hF (by omega)) (fun v_27 n_27 M_27 hn_27 hp => ?_)
      obtain ⟨⟨rfl, rfl, rfl⟩, gr_27⟩ := hp
      rw [show c_count ct 5 = ct 5 from if_pos (by omega)]
      refine jr_icmp_ge (pc := 30) h 85 dX3_rowInTheWay_30 (by decide) (by omega) (by omega) (fun c_30 => ?_) (fun c_30 => ?_)
      · skip
        refine jr_iconst (pc := 85) h dX3_rowInTheWay_85 ?_
        refine jr_iret (pc := 86) h hRt dX3_rowInTheWay_86 rfl (Nat.le_of_ble_eq_true rfl) (Nat.le_of_ble_eq_true rfl) ?_
        have ef : c_way ct td g fa x s = -1 := by
          unfold c_way
          dsimp only
          rw [hx, fstZ_0 (by omega), if_pos rfl]
        rw [ef]
        exact ⟨⟨rfl, rfl, rfl⟩, by omega⟩
      · skip
        refine jr_aload_n (pc := 33) h dX3_rowInTheWay_33 rfl ?_
        refine jr_aload_n (pc := 34) h dX3_rowInTheWay_34 rfl ?_
        refine jr_iload (pc := 35) h dX3_rowInTheWay_35 rfl ?_
        refine jr_iload_n (pc := 37) h dX3_rowInTheWay_37 rfl ?_
        refine iv_X3_141 (pc := 38) h hl hR dX3_rowInTheWay_38 ⟨(Nat.le_of_ble_eq_true rfl), (Nat.le_of_ble_eq_true rfl), (Nat.le_of_ble_eq_true rfl), (Nat.le_of_ble_eq_true rfl)⟩ (Nat.le_of_ble_eq_true rfl) (by assumption) (by omega) (s_X3_rowOf hRn hF h4 h5 hfa (by omega) hs) (fun v_38 n_38 M_38 hn_38 hp => ?_)
        obtain ⟨⟨rfl, rfl, rfl⟩, gr_38⟩ := hp
        refine jr_istore (pc := 41) h [_, _, _, _, _, _, _, _] dX3_rowInTheWay_41 (by decide) rfl ?_
        refine jr_iload (pc := 43) h dX3_rowInTheWay_43 rfl ?_
        refine jr_iload (pc := 45) h dX3_rowInTheWay_45 rfl ?_
        refine jr_iload (pc := 47) h dX3_rowInTheWay_47 rfl ?_
        refine im_X3_144 (pc := 49) h hR dX3_rowInTheWay_49 ⟨(Nat.le_of_ble_eq_true rfl), (Nat.le_of_ble_eq_true rfl), (Nat.le_of_ble_eq_true rfl), (Nat.le_of_ble_eq_true rfl)⟩ (by omega) (by omega) ?_
        refine jr_icmp_lt (pc := 52) h 79 dX3_rowInTheWay_52 (by decide) (by omega) (by omega) (fun c_52 => ?_) (fun c_52 => ?_)
        · skip
          refine jr_iinc (pc := 79) h [_, _, _, _, _, _, _, _] dX3_rowInTheWay_79 (by decide) rfl rfl ?_
          refine jr_goto (pc := 82) h 23 dX3_rowInTheWay_82 (by decide) ?_
          refine ih _ _ (by omega) ?_ (by omega)
          rw [hx, fstZ_f (by omega) (fun z => by
            obtain ⟨z1, z2, z3⟩ := z
            first
            | omega
            | exact z3 (bz_1.mp c_73))]
        · skip
          refine jr_iload (pc := 55) h dX3_rowInTheWay_55 rfl ?_
          refine jr_iload (pc := 57) h dX3_rowInTheWay_57 rfl ?_
          refine jr_iload (pc := 59) h dX3_rowInTheWay_59 rfl ?_
          refine im_X3_111 (pc := 61) h hR dX3_rowInTheWay_61 ⟨(Nat.le_of_ble_eq_true rfl), (Nat.le_of_ble_eq_true rfl), (Nat.le_of_ble_eq_true rfl), (Nat.le_of_ble_eq_true rfl)⟩ (by omega) (by omega) ?_
          refine jr_icmp_gt (pc := 64) h 79 dX3_rowInTheWay_64 (by decide) (by omega) (by omega) (fun c_64 => ?_) (fun c_64 => ?_)
          · skip
            refine jr_iinc (pc := 79) h [_, _, _, _, _, _, _, _] dX3_rowInTheWay_79 (by decide) rfl rfl ?_
            refine jr_goto (pc := 82) h 23 dX3_rowInTheWay_82 (by decide) ?_
            refine ih _ _ (by omega) ?_ (by omega)
            rw [hx, fstZ_f (by omega) (fun z => by
              obtain ⟨z1, z2, z3⟩ := z
              first
              | omega
              | exact z3 (bz_1.mp c_73))]
          · skip
            refine jr_aload_n (pc := 67) h dX3_rowInTheWay_67 rfl ?_
            refine jr_iload (pc := 68) h dX3_rowInTheWay_68 rfl ?_
            refine iv_X3_147 (pc := 70) h hl hR dX3_rowInTheWay_70 ⟨(Nat.le_of_ble_eq_true rfl), (Nat.le_of_ble_eq_true rfl), (Nat.le_of_ble_eq_true rfl), (Nat.le_of_ble_eq_true rfl)⟩ (Nat.le_of_ble_eq_true rfl) (by assumption) (by omega) (s_X1_isGap hF (by omega)) (fun v_70 n_70 M_70 hn_70 hp => ?_)
            obtain ⟨⟨rfl, rfl, rfl⟩, gr_70⟩ := hp
            refine jr_if_ne (pc := 73) h 79 dX3_rowInTheWay_73 (by decide) (by omega) (fun c_73 => ?_) (fun c_73 => ?_)
            · skip
              refine jr_iinc (pc := 79) h [_, _, _, _, _, _, _, _] dX3_rowInTheWay_79 (by decide) rfl rfl ?_
              refine jr_goto (pc := 82) h 23 dX3_rowInTheWay_82 (by decide) ?_
              refine ih _ _ (by omega) ?_ (by omega)
              rw [hx, fstZ_f (by omega) (fun z => by
                obtain ⟨z1, z2, z3⟩ := z
                first
                | omega
                | exact z3 (bz_1.mp c_73))]
            · skip
              refine jr_iload (pc := 76) h dX3_rowInTheWay_76 rfl ?_
              refine jr_iret (pc := 78) h hRt dX3_rowInTheWay_78 rfl (Nat.le_of_ble_eq_true rfl) (Nat.le_of_ble_eq_true rfl) ?_
              have ef : c_way ct td g fa x s = c_on ct td g fa i s := by
                unfold c_way
                dsimp only
                rw [hx, fstZ_t (by omega) ⟨by omega, by omega, bz_0.mp c_73⟩, if_neg (by omega)]
              rw [ef]
              exact ⟨⟨rfl, rfl, rfl⟩, by omega⟩
  refine jr_aload_n (pc := 0) h dX3_rowInTheWay_0 rfl ?_
  refine jr_bipush (pc := 1) h dX3_rowInTheWay_1 bp_11 ?_
  refine jr_iload_n (pc := 3) h dX3_rowInTheWay_3 rfl ?_
  refine jr_iconst (pc := 4) h dX3_rowInTheWay_4 ?_
  refine iv_X3_95 (pc := 5) h hl hR dX3_rowInTheWay_5 ⟨(Nat.le_of_ble_eq_true rfl), (Nat.le_of_ble_eq_true rfl), (Nat.le_of_ble_eq_true rfl), (Nat.le_of_ble_eq_true rfl)⟩ (Nat.le_of_ble_eq_true rfl) (by assumption) (by omega) (s_X1_get hF (by omega) (by omega) (by omega)) (fun v_5 n_5 M_5 hn_5 hp => ?_)
  obtain ⟨⟨rfl, rfl, rfl⟩, gr_5⟩ := hp
  refine jr_istore (pc := 8) h [_, _, _, _, _, _, _, _] dX3_rowInTheWay_8 (by decide) rfl ?_
  refine jr_aload_n (pc := 10) h dX3_rowInTheWay_10 rfl ?_
  refine jr_bipush (pc := 11) h dX3_rowInTheWay_11 bp_11 ?_
  refine jr_iload_n (pc := 13) h dX3_rowInTheWay_13 rfl ?_
  refine jr_iconst (pc := 14) h dX3_rowInTheWay_14 ?_
  refine iv_X3_95 (pc := 15) h hl hR dX3_rowInTheWay_15 ⟨(Nat.le_of_ble_eq_true rfl), (Nat.le_of_ble_eq_true rfl), (Nat.le_of_ble_eq_true rfl), (Nat.le_of_ble_eq_true rfl)⟩ (Nat.le_of_ble_eq_true rfl) (by assumption) (by omega) (s_X1_get hF (by omega) (by omega) (by omega)) (fun v_15 n_15 M_15 hn_15 hp => ?_)
  obtain ⟨⟨rfl, rfl, rfl⟩, gr_15⟩ := hp
  refine jr_istore (pc := 18) h [_, _, _, _, _, _, _, _] dX3_rowInTheWay_18 (by decide) rfl ?_
  refine jr_iconst (pc := 20) h dX3_rowInTheWay_20 ?_
  refine jr_istore (pc := 21) h [_, _, _, _, _, _, _, _] dX3_rowInTheWay_21 (by decide) rfl ?_
  exact loop _ _ _ (by omega) rfl (Nat.lt_succ_self _)
set_option maxHeartbeats 2000000 in
set_option maxRecDepth 20000 in
theorem s_X3_waitOf {l : Launch} {n : Nat} {M : jdM} {r : Nat} {g sp sk fa go : Nat → Int} (hRn : Rn M n r g sp sk fa go) {f : Nat} {ct td bk si ld : Nat → Int} (hF : Fl M n f ct td bk si ld) (h4 : 0 ≤ g 4 ∧ g 4 ≤ 1000) (h5 : -1 ≤ g 5 ∧ g 5 ≤ 1000) (hfa : ∀ a b : Int, -100000000 ≤ c_fact fa a b ∧ c_fact fa a b ≤ 100000000) (hlv : ∀ a : Int, 0 ≤ a → a ≤ 40 → 0 ≤ c_lv ct td g fa a) {x : Int} (hx0 : 0 ≤ x ∧ x ≤ 10) : Ct l yX3_waitOf cX3_waitOf 7 (some .int) rX3_waitOf [.ref r, .ref f, jI x] n M (fun vv n' M' => vv = some (jI (c_wait ct td g fa x)) ∧ n = n' ∧ M = M') := by
  refine Ct_of [some (.ref r), some (.ref f), some (jI x), none, none, none, none] (by decide) (Nat.le_of_ble_eq_true rfl) rfl (fun κ hl h hR hRt hmn hn0 => ?_)
  have h : Ok κ RX3 cX3_waitOf 7 (some .int) := h
  obtain ⟨hn, hO, hA, hB, hC, hD⟩ := id hRn
  obtain ⟨hnF, hOF, hAF, hBF, hCF, hDF, hEF, rA, rB, r0, rC, rD, rE⟩ := id hF
  have ctr : 0 ≤ c_rows ct td ∧ c_rows ct td ≤ 40 := by
    unfold c_rows c_get
    have := (rB 0).1
    split
    · omega
    · rw [if_pos (by omega)]
      exact ⟨this, r0⟩
  have gx0 := c_getr rB 11 x 0
  have loop : ∀ (dq : Nat) (s i : Int) (u6 : Option Value), (0 ≤ i ∧ i ≤ 41) → (0 ≤ s ∧ s ≤ 100000000) → (wtR ct td g fa x (c_get td 11 x 0 * 60) ((41 : Int) - 0).toNat = wtR ct td g fa x s (41 - i).toNat) → (50 - i).toNat < dq → J κ 7 0 0 n 18 [some (.ref r), some (.ref f), some (jI x), some (jI (c_get td 11 x 0 * 60)), some (jI s), some (jI i), u6] [] M := by
    intro dq
    induction dq with
    | zero => intro s i u6 hi hs hx hd; omega
    | succ dq ih =>
      intro s i u6 hi hs hx hd
      refine jr_iload (pc := 18) h dX3_waitOf_18 rfl ?_
      refine jr_bipush (pc := 20) h dX3_waitOf_20 bp_40 ?_
      refine jr_icmp_gt (pc := 22) h 59 dX3_waitOf_22 (by decide) (by omega) (by omega) (fun c_22 => ?_) (fun c_22 => ?_)
      · skip
        refine jr_iload (pc := 59) h dX3_waitOf_59 rfl ?_
        refine jr_iload_n (pc := 61) h dX3_waitOf_61 rfl ?_
        refine jr_isub (pc := 62) h dX3_waitOf_62 ?_
        refine jr_iret (pc := 63) h hRt dX3_waitOf_63 rfl (Nat.le_of_ble_eq_true rfl) (Nat.le_of_ble_eq_true rfl) ?_
        refine ⟨ji_c ?_, rfl, rfl⟩
        unfold c_wait
        rw [hx]
        first
        | (rw [show (41 - i).toNat = 0 by omega, wtR])
        | (rw [show (41 - i).toNat = (41 - (i + 1)).toNat + 1 by omega, wtR, if_pos (by omega)])
      · skip
        refine jr_aload_n (pc := 25) h dX3_waitOf_25 rfl ?_
        refine jr_aload_n (pc := 26) h dX3_waitOf_26 rfl ?_
        refine jr_iload_n (pc := 27) h dX3_waitOf_27 rfl ?_
        refine jr_iload (pc := 28) h dX3_waitOf_28 rfl ?_
        refine iv_X3_137 (pc := 30) h hl hR dX3_waitOf_30 ⟨(Nat.le_of_ble_eq_true rfl), (Nat.le_of_ble_eq_true rfl), (Nat.le_of_ble_eq_true rfl), (Nat.le_of_ble_eq_true rfl)⟩ (Nat.le_of_ble_eq_true rfl) (by assumption) (by omega) (s_X3_rowInTheWay hRn hF h4 h5 hfa (by omega) hs) (fun v_30 n_30 M_30 hn_30 hp => ?_)
        obtain ⟨⟨rfl, rfl, rfl⟩, gr_30⟩ := hp
        refine jr_istore (pc := 33) h [_, _, _, _, _, _, _] dX3_waitOf_33 (by decide) rfl ?_
        refine jr_iload (pc := 35) h dX3_waitOf_35 rfl ?_
        refine jr_iconst (pc := 37) h dX3_waitOf_37 ?_
        refine jr_icmp_ne (pc := 38) h 44 dX3_waitOf_38 (by decide) (by omega) (by omega) (fun c_38 => ?_) (fun c_38 => ?_)
        · skip
          refine jr_aload_n (pc := 44) h dX3_waitOf_44 rfl ?_
          refine jr_aload_n (pc := 45) h dX3_waitOf_45 rfl ?_
          refine jr_iload (pc := 46) h dX3_waitOf_46 rfl ?_
          refine iv_X3_133 (pc := 48) h hl hR dX3_waitOf_48 ⟨(Nat.le_of_ble_eq_true rfl), (Nat.le_of_ble_eq_true rfl), (Nat.le_of_ble_eq_true rfl), (Nat.le_of_ble_eq_true rfl)⟩ (Nat.le_of_ble_eq_true rfl) (by assumption) (by omega) (s_X3_leaves hRn hF h4 h5 hfa (by omega)) (fun v_48 n_48 M_48 hn_48 hp => ?_)
          obtain ⟨⟨rfl, rfl, rfl⟩, gr_48⟩ := hp
          refine jr_istore (pc := 51) h [_, _, _, _, _, _, _] dX3_waitOf_51 (by decide) rfl ?_
          refine jr_iinc (pc := 53) h [_, _, _, _, _, _, _] dX3_waitOf_53 (by decide) rfl rfl ?_
          refine jr_goto (pc := 56) h 18 dX3_waitOf_56 (by decide) ?_
          have wr := c_way_r (g := g) (fa := fa) (x := x) (s := s) ctr
          refine ih _ _ _ (by omega) ⟨hlv _ (by omega) (by omega), by omega⟩ ?_ (by omega)
          rw [hx, show (41 - i).toNat = (41 - (i + 1)).toNat + 1 by omega, wtR, if_neg (by omega)]
        · skip
          refine jr_goto (pc := 41) h 59 dX3_waitOf_41 (by decide) ?_
          refine jr_iload (pc := 59) h dX3_waitOf_59 rfl ?_
          refine jr_iload_n (pc := 61) h dX3_waitOf_61 rfl ?_
          refine jr_isub (pc := 62) h dX3_waitOf_62 ?_
          refine jr_iret (pc := 63) h hRt dX3_waitOf_63 rfl (Nat.le_of_ble_eq_true rfl) (Nat.le_of_ble_eq_true rfl) ?_
          refine ⟨ji_c ?_, rfl, rfl⟩
          unfold c_wait
          rw [hx]
          first
          | (rw [show (41 - i).toNat = 0 by omega, wtR])
          | (rw [show (41 - i).toNat = (41 - (i + 1)).toNat + 1 by omega, wtR, if_pos (by omega)])
  refine jr_aload_n (pc := 0) h dX3_waitOf_0 rfl ?_
  refine jr_bipush (pc := 1) h dX3_waitOf_1 bp_11 ?_
  refine jr_iload_n (pc := 3) h dX3_waitOf_3 rfl ?_
  refine jr_iconst (pc := 4) h dX3_waitOf_4 ?_
  refine iv_X3_95 (pc := 5) h hl hR dX3_waitOf_5 ⟨(Nat.le_of_ble_eq_true rfl), (Nat.le_of_ble_eq_true rfl), (Nat.le_of_ble_eq_true rfl), (Nat.le_of_ble_eq_true rfl)⟩ (Nat.le_of_ble_eq_true rfl) (by assumption) (by omega) (s_X1_get hF (by omega) (by omega) (by omega)) (fun v_5 n_5 M_5 hn_5 hp => ?_)
  obtain ⟨⟨rfl, rfl, rfl⟩, gr_5⟩ := hp
  refine jr_bipush (pc := 8) h dX3_waitOf_8 bp_60 ?_
  refine jr_imul (pc := 10) h dX3_waitOf_10 ?_
  refine jr_istore_n (pc := 11) h [_, _, _, _, _, _, _] dX3_waitOf_11 (by decide) rfl ?_
  refine jr_iload_n (pc := 12) h dX3_waitOf_12 rfl ?_
  refine jr_istore (pc := 13) h [_, _, _, _, _, _, _] dX3_waitOf_13 (by decide) rfl ?_
  refine jr_iconst (pc := 15) h dX3_waitOf_15 ?_
  refine jr_istore (pc := 16) h [_, _, _, _, _, _, _] dX3_waitOf_16 (by decide) rfl ?_
  exact loop _ _ _ _ (by omega) (by omega) rfl (Nat.lt_succ_self _)
