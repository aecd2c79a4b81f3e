/-! 32: Teller: likings -/
def alT (ct td : Nat → Int) (a x : Int) : Nat → Int := up (up (up td (c_ix ct 7 (4 + 2 * c_get td 7 (ct 7) 3)) a) (c_ix ct 7 (4 + 2 * c_get td 7 (ct 7) 3 + 1)) x) (c_ix ct 7 3) (c_get td 7 (ct 7) 3 + 1)
theorem TF_al {M M1 : jdM} {n t b f : Nat} {bs : Nat → Int} {p : TS} {ct td bk si ld : Nat → Int} {a x : Int} (h : TF M n t b f bs p ct td bk si ld) (h1 : M1 = up M (f + 2) (jdA 1248 (alT ct td a x))) (ha : 0 ≤ a ∧ a ≤ 999) (hx : 0 ≤ x ∧ x ≤ 999) (hk : 0 ≤ c_get td 7 (ct 7) 3 ∧ c_get td 7 (ct 7) 3 ≤ 3) : TF M1 n t b f bs p ct (alT ct td a x) bk si ld := by
  obtain ⟨-, -, -, -, -, -, -, r2, r1, r0, -⟩ := id h.2.1
  have c7 := (r2 (Int.toNat 7)).1
  refine TF_fl h (Fl_td h.2.1 h1 (fun j => ?_) ?_) (fr_up h1 ⟨by omega, by omega⟩)
  · unfold alT up
    split
    · omega
    · split
      · exact hx
      · split
        · exact ha
        · exact r1 j
  · unfold alT
    have i1 : ∀ z : Int, 0 ≤ z → 0 ≠ c_ix ct 7 z := fun z hz => by unfold c_ix; omega
    rw [up_ne (i1 _ (by omega)), up_ne (i1 _ (by omega)), up_ne (i1 _ (by omega))]
    exact r0
noncomputable def tlQ (bs ct td : Nat → Int) (p : TS) : TS := if (snP bs 2 p).2.1 7 = 0 ∧ 0 < c_win td (ct 7) (snP bs 2 p).1 then flP 3 (snP bs 2 p).2 else (snP bs 2 p).2
noncomputable def tlP (bs ct td : Nat → Int) (p : TS) : TS × (Nat → Int) := if (tlQ bs ct td p).1 7 = 0 then ((ehP bs 1 9 (nxP bs (tlQ bs ct td p))).2, alT ct td (snP bs 2 p).1 (ehP bs 1 9 (nxP bs (tlQ bs ct td p))).1) else (tlQ bs ct td p, td)
theorem snP_b {bs : Nat → Int} {s : Int} {p : TS} (h : PO p) : 0 ≤ (snP bs s p).1 ∧ (snP bs s p).1 ≤ 100 := by
  unfold snP
  split
  · exact ⟨Int.le_refl _, (by decide : (0 : Int) ≤ 100)⟩
  · split
    · exact ⟨Int.le_refl _, (by decide : (0 : Int) ≤ 100)⟩
    · split
      · exact ⟨Int.le_refl _, (by decide : (0 : Int) ≤ 100)⟩
      · exact h.2.2.2.2 _
theorem flP_7 {k : Int} {p : TS} (h : p.1 7 = 0) (hk : k ≠ 0) : (flP k p).1 7 ≠ 0 := by
  unfold flP
  rw [if_pos h]
  exact hk
set_option maxHeartbeats 1000000 in
set_option maxRecDepth 20000 in
theorem s_X4_tellLiking {l : Launch} {n : Nat} {M : jdM} {t b f : Nat} {bs : Nat → Int} {p : TS} {ct td bk si ld : Nat → Int} (H1 : TF M n t b f bs p ct td bk si ld) (hby : ∀ i, -128 ≤ bs i ∧ bs i < 128) (hct : ct 7 < 8) (hk : c_get td 7 (ct 7) 3 ≤ 3 ∨ 0 < c_win td (ct 7) (snP bs 2 p).1) : Ct l yX4_tellLiking cX4_tellLiking 4 none rX4_tellLiking [.ref t, .ref f] n M (fun vv n' M' => (vv = none ∧ n = n') ∧ TF M' n t b f bs (tlP bs ct td p).1 ct (tlP bs ct td p).2 bk si ld ∧ fr (TlS b f) M M') := by
  refine Ct_of [some (.ref t), some (.ref f), none, none] (by decide) (Nat.le_of_ble_eq_true rfl) rfl (fun κ hl h hR hRt hmn hn0 => ?_)
  have h : Ok κ RX4 cX4_tellLiking 4 none := h
  obtain ⟨E1, F1, hbf, htf⟩ := id H1
  obtain ⟨ht, hOt, X1, hPO, hsep⟩ := id E1
  obtain ⟨hnb, hOb, hYb, hNb, hSb, hKb⟩ := id X1
  obtain ⟨hfn, hFf, -⟩ := id F1
  have f1 : fr (TlS b f) M M := fr_rf
  have r7 := F1.2.2.2.2.2.2.2.1 7
  have g73 := c_getr (td := td) F1.2.2.2.2.2.2.2.2.1 7 (ct 7) 3
  have sb := snP_b (bs := bs) (s := 2) hPO
  have tail : ∀ M1 : jdM, TF M1 n t b f bs (tlQ bs ct td p) ct td bk si ld → fr (TlS b f) M M1 → J κ 4 0 0 n 43 [some (.ref t), some (.ref f), some (jI (snP bs 2 p).1), some (jI (ct 7))] [] M1 := by
    intro M1 H1 f1
    obtain ⟨E1, F1, hbf, htf⟩ := id H1
    obtain ⟨ht, hOt, X1, hPO, hsep⟩ := id E1
    obtain ⟨hnb, hOb, hYb, hNb, hSb, hKb⟩ := id X1
    obtain ⟨hfn, hFf, -⟩ := id F1
    refine jr_aload_n (pc := 43) h dX4_tellLiking_43 rfl ?_
    refine gf_X4_12 (pc := 44) h dX4_tellLiking_44 (by assumption) (by omega) ?_
    refine iv_X4_35 (pc := 47) h hl hR dX4_tellLiking_47 ⟨(Nat.le_of_ble_eq_true rfl), (Nat.le_of_ble_eq_true rfl), (Nat.le_of_ble_eq_true rfl), (Nat.le_of_ble_eq_true rfl)⟩ (Nat.le_of_ble_eq_true rfl) (by assumption) (by omega) (s_X6_isFine X1 hPO.1.2.2.2.2.1) (fun v_47 n_47 M_47 hn_47 hp => ?_)
    obtain ⟨⟨rfl, rfl, rfl⟩, gr_47⟩ := hp
    refine jr_if_eq (pc := 50) h 75 dX4_tellLiking_50 (by decide) (by omega) (fun c_50 => ?_) (fun c_50 => ?_)
    · skip
      refine jr_vret (pc := 75) h hRt dX4_tellLiking_75 (Nat.le_of_ble_eq_true rfl) (Nat.le_of_ble_eq_true rfl) ?_
      first
      | (have e9 : tlP bs ct td p = (tlQ bs ct td p, td) := by
           unfold tlP
           rw [if_neg (bz_0.mp c_50)]
         rw [e9]
         exact ⟨⟨rfl, rfl⟩, H1, f1⟩)
      | (have e9 : tlP bs ct td p = ((ehP bs 1 9 (nxP bs (tlQ bs ct td p))).2, alT ct td (snP bs 2 p).1 (ehP bs 1 9 (nxP bs (tlQ bs ct td p))).1) := by
           unfold tlP
           rw [if_pos (bz_1.mp c_50)]
         rw [e9]
         exact ⟨⟨rfl, rfl⟩, H1, f1⟩)
    · skip
      have hk3 : c_get td 7 (ct 7) 3 ≤ 3 := by
        rcases hk with q | q
        · exact q
        · exfalso
          have e7 := bz_1.mp c_50
          unfold tlQ at e7
          by_cases q2 : (snP bs 2 p).2.1 7 = 0
          · rw [if_pos ⟨q2, q⟩] at e7
            exact flP_7 q2 (by omega) e7
          · rw [if_neg (fun z => q2 z.1)] at e7
            exact q2 e7
      refine jr_aload_n (pc := 53) h dX4_tellLiking_53 rfl ?_
      refine gf_X4_12 (pc := 54) h dX4_tellLiking_54 (by assumption) (by omega) ?_
      refine iv_X4_69 (pc := 57) h hl hR dX4_tellLiking_57 ⟨(Nat.le_of_ble_eq_true rfl), (Nat.le_of_ble_eq_true rfl), (Nat.le_of_ble_eq_true rfl), (Nat.le_of_ble_eq_true rfl)⟩ (Nat.le_of_ble_eq_true rfl) (by assumption) (by omega) (s_X6_next X1 hby ⟨hPO.1.1, hPO.1.2.2.1⟩ rfl rfl rfl) (fun v_57 n_57 M_57 hn_57 hp => ?_)
      obtain ⟨⟨rfl, rfl⟩, g9, T9, f9, q1, q2, q3, q4, q5, q7, q8, q12⟩ := hp
      have X9 : TkP M_57 n b bs (nxP bs (tlQ bs ct td p)) := nxP_of (w := ((tlQ bs ct td p)).2.1) T9 q1 q2 q3 q4 q5 q7 q8 q12
      have H1 := TF_tk H1 X9 f9 (nxP_O hPO)
      have f1 := fr_tr f1 (fr_mo f9 (fun k hk => Or.inl hk))
      obtain ⟨E1, F1, hbf, htf⟩ := id H1
      obtain ⟨ht, hOt, X1, hPO, hsep⟩ := id E1
      obtain ⟨hnb, hOb, hYb, hNb, hSb, hKb⟩ := id X1
      obtain ⟨hfn, hFf, -⟩ := id F1
      refine jr_aload_n (pc := 60) h dX4_tellLiking_60 rfl ?_
      refine jr_iload_n (pc := 61) h dX4_tellLiking_61 rfl ?_
      refine jr_aload_n (pc := 62) h dX4_tellLiking_62 rfl ?_
      refine gf_X4_12 (pc := 63) h dX4_tellLiking_63 (by assumption) (by omega) ?_
      refine jr_iconst (pc := 66) h dX4_tellLiking_66 ?_
      refine jr_bipush (pc := 67) h dX4_tellLiking_67 bp_9 ?_
      refine iv_X4_116 (pc := 69) h hl hR dX4_tellLiking_69 ⟨(Nat.le_of_ble_eq_true rfl), (Nat.le_of_ble_eq_true rfl), (Nat.le_of_ble_eq_true rfl), (Nat.le_of_ble_eq_true rfl)⟩ (Nat.le_of_ble_eq_true rfl) (by assumption) (by omega) (s_X6_expectWhole (a := 1) (c := 9) X1 hPO hby (by omega) (by omega)) (fun v_69 n_69 M_69 hn_69 hp => ?_)
      obtain ⟨⟨hv, rfl⟩, X2, fx⟩ := hp
      subst hv
      have vb69 := ehP_b (bs := bs) (a := 1) (c := 9) (p := nxP bs (tlQ bs ct td p)) (by omega)
      have H1 := TF_tk H1 X2 fx (ehP_O hPO)
      have f1 := fr_tr f1 (fr_mo fx (fun k hk => Or.inl hk))
      obtain ⟨E1, F1, hbf, htf⟩ := id H1
      obtain ⟨ht, hOt, X1, hPO, hsep⟩ := id E1
      obtain ⟨hnb, hOb, hYb, hNb, hSb, hKb⟩ := id X1
      obtain ⟨hfn, hFf, -⟩ := id F1
      refine iv_X4_183 (pc := 72) h hl hR dX4_tellLiking_72 ⟨(Nat.le_of_ble_eq_true rfl), (Nat.le_of_ble_eq_true rfl), (Nat.le_of_ble_eq_true rfl), (Nat.le_of_ble_eq_true rfl)⟩ (Nat.le_of_ble_eq_true rfl) (by assumption) (by omega) (s_X1_addLiking F1 (by omega) (by omega) hct (by omega)) (fun v_72 n_72 M_72 hn_72 hp => ?_)
      obtain ⟨rfl, rfl, hM⟩ := hp
      have H1 := TF_al H1 hM (by omega) (by omega) (by omega)
      have f1 := fr_tr f1 (fr_up hM (Or.inr ⟨by omega, by omega⟩))
      refine jr_vret (pc := 75) h hRt dX4_tellLiking_75 (Nat.le_of_ble_eq_true rfl) (Nat.le_of_ble_eq_true rfl) ?_
      first
      | (have e9 : tlP bs ct td p = (tlQ bs ct td p, td) := by
           unfold tlP
           rw [if_neg (bz_0.mp c_50)]
         rw [e9]
         exact ⟨⟨rfl, rfl⟩, H1, f1⟩)
      | (have e9 : tlP bs ct td p = ((ehP bs 1 9 (nxP bs (tlQ bs ct td p))).2, alT ct td (snP bs 2 p).1 (ehP bs 1 9 (nxP bs (tlQ bs ct td p))).1) := by
           unfold tlP
           rw [if_pos (bz_1.mp c_50)]
         rw [e9]
         exact ⟨⟨rfl, rfl⟩, H1, f1⟩)
  refine jr_aload_n (pc := 0) h dX4_tellLiking_0 rfl ?_
  refine gf_X4_12 (pc := 1) h dX4_tellLiking_1 (by assumption) (by omega) ?_
  refine jr_iconst (pc := 4) h dX4_tellLiking_4 ?_
  refine iv_X4_177 (pc := 5) h hl hR dX4_tellLiking_5 ⟨(Nat.le_of_ble_eq_true rfl), (Nat.le_of_ble_eq_true rfl), (Nat.le_of_ble_eq_true rfl), (Nat.le_of_ble_eq_true rfl)⟩ (Nat.le_of_ble_eq_true rfl) (by assumption) (by omega) (s_X6_seeName (a := 2) X1 hPO hby (by omega)) (fun v_5 n_5 M_5 hn_5 hp => ?_)
  obtain ⟨⟨hv, rfl⟩, X2, fx⟩ := hp
  subst hv
  have H1 := TF_tk H1 X2 fx (snP_O hPO)
  have f1 := fr_tr f1 (fr_mo fx (fun k hk => Or.inl hk))
  obtain ⟨E1, F1, hbf, htf⟩ := id H1
  obtain ⟨ht, hOt, X1, hPO, hsep⟩ := id E1
  obtain ⟨hnb, hOb, hYb, hNb, hSb, hKb⟩ := id X1
  obtain ⟨hfn, hFf, -⟩ := id F1
  refine jr_istore_n (pc := 8) h [_, _, _, _] dX4_tellLiking_8 (by decide) rfl ?_
  refine jr_aload_n (pc := 9) h dX4_tellLiking_9 rfl ?_
  refine jr_bipush (pc := 10) h dX4_tellLiking_10 bp_7 ?_
  refine iv_X4_75 (pc := 12) h hl hR dX4_tellLiking_12 ⟨(Nat.le_of_ble_eq_true rfl), (Nat.le_of_ble_eq_true rfl), (Nat.le_of_ble_eq_true rfl), (Nat.le_of_ble_eq_true rfl)⟩ (Nat.le_of_ble_eq_true rfl) (by assumption) (by omega) (s_X1_count F1 (by omega)) (fun v_12 n_12 M_12 hn_12 hp => ?_)
  obtain ⟨⟨rfl, rfl, rfl⟩, gr_12⟩ := hp
  refine jr_istore_n (pc := 15) h [_, _, _, _] dX4_tellLiking_15 (by decide) rfl ?_
  have ec : c_count ct 7 = ct 7 := rfl
  rw [ec]
  refine jr_aload_n (pc := 16) h dX4_tellLiking_16 rfl ?_
  refine gf_X4_12 (pc := 17) h dX4_tellLiking_17 (by assumption) (by omega) ?_
  refine iv_X4_35 (pc := 20) h hl hR dX4_tellLiking_20 ⟨(Nat.le_of_ble_eq_true rfl), (Nat.le_of_ble_eq_true rfl), (Nat.le_of_ble_eq_true rfl), (Nat.le_of_ble_eq_true rfl)⟩ (Nat.le_of_ble_eq_true rfl) (by assumption) (by omega) (s_X6_isFine X1 hPO.1.2.2.2.2.1) (fun v_20 n_20 M_20 hn_20 hp => ?_)
  obtain ⟨⟨rfl, rfl, rfl⟩, gr_20⟩ := hp
  refine jr_if_eq (pc := 23) h 43 dX4_tellLiking_23 (by decide) (by omega) (fun c_23 => ?_) (fun c_23 => ?_)
  · skip
    first
    | (have e9 : tlQ bs ct td p = flP 3 (snP bs 2 p).2 := by
         unfold tlQ
         rw [if_pos ⟨bz_1.mp c_23, by omega⟩]
       exact tail _ (by rw [e9]; exact H1) f1)
    | (have e9 : tlQ bs ct td p = (snP bs 2 p).2 := by
         unfold tlQ
         rw [if_neg (fun q => by have := q.2; omega)]
       exact tail _ (by rw [e9]; exact H1) f1)
    | (have e9 : tlQ bs ct td p = (snP bs 2 p).2 := by
         unfold tlQ
         rw [if_neg (fun q => bz_0.mp c_23 q.1)]
       exact tail _ (by rw [e9]; exact H1) f1)
  · skip
    refine jr_aload_n (pc := 26) h dX4_tellLiking_26 rfl ?_
    refine jr_iload_n (pc := 27) h dX4_tellLiking_27 rfl ?_
    refine jr_iload_n (pc := 28) h dX4_tellLiking_28 rfl ?_
    refine iv_X4_180 (pc := 29) h hl hR dX4_tellLiking_29 ⟨(Nat.le_of_ble_eq_true rfl), (Nat.le_of_ble_eq_true rfl), (Nat.le_of_ble_eq_true rfl), (Nat.le_of_ble_eq_true rfl)⟩ (Nat.le_of_ble_eq_true rfl) (by assumption) (by omega) (s_X1_weightIn F1 (by omega) (by omega)) (fun v_29 n_29 M_29 hn_29 hp => ?_)
    obtain ⟨⟨rfl, rfl, rfl⟩, gr_29⟩ := hp
    refine jr_if_le (pc := 32) h 43 dX4_tellLiking_32 (by decide) (by omega) (fun c_32 => ?_) (fun c_32 => ?_)
    · skip
      first
      | (have e9 : tlQ bs ct td p = flP 3 (snP bs 2 p).2 := by
           unfold tlQ
           rw [if_pos ⟨bz_1.mp c_23, by omega⟩]
         exact tail _ (by rw [e9]; exact H1) f1)
      | (have e9 : tlQ bs ct td p = (snP bs 2 p).2 := by
           unfold tlQ
           rw [if_neg (fun q => by have := q.2; omega)]
         exact tail _ (by rw [e9]; exact H1) f1)
      | (have e9 : tlQ bs ct td p = (snP bs 2 p).2 := by
           unfold tlQ
           rw [if_neg (fun q => bz_0.mp c_23 q.1)]
         exact tail _ (by rw [e9]; exact H1) f1)
    · skip
      refine jr_aload_n (pc := 35) h dX4_tellLiking_35 rfl ?_
      refine gf_X4_12 (pc := 36) h dX4_tellLiking_36 (by assumption) (by omega) ?_
      refine jr_iconst (pc := 39) h dX4_tellLiking_39 ?_
      refine iv_X4_56 (pc := 40) h hl hR dX4_tellLiking_40 ⟨(Nat.le_of_ble_eq_true rfl), (Nat.le_of_ble_eq_true rfl), (Nat.le_of_ble_eq_true rfl), (Nat.le_of_ble_eq_true rfl)⟩ (Nat.le_of_ble_eq_true rfl) (by assumption) (by omega) (s_X6_fail X1 hPO.1.2.2.2.2.1) (fun v_40 n_40 M_40 hn_40 hp => ?_)
      obtain ⟨⟨rfl, rfl⟩, g9, T9, f9, q1, q2, q3, q4, q5, q7, q8, q12⟩ := hp
      have X9 : TkP M_40 n b bs (flP 3 (snP bs 2 p).2) := flP_of (w := ((snP bs 2 p).2).2.1) T9 q1 q2 q3 q4 q5 q7 q8 q12
      have H1 := TF_tk H1 X9 f9 (flP_O hPO (by omega))
      have f1 := fr_tr f1 (fr_mo f9 (fun k hk => Or.inl hk))
      obtain ⟨E1, F1, hbf, htf⟩ := id H1
      obtain ⟨ht, hOt, X1, hPO, hsep⟩ := id E1
      obtain ⟨hnb, hOb, hYb, hNb, hSb, hKb⟩ := id X1
      obtain ⟨hfn, hFf, -⟩ := id F1
      first
      | (have e9 : tlQ bs ct td p = flP 3 (snP bs 2 p).2 := by
           unfold tlQ
           rw [if_pos ⟨bz_1.mp c_23, by omega⟩]
         exact tail _ (by rw [e9]; exact H1) f1)
      | (have e9 : tlQ bs ct td p = (snP bs 2 p).2 := by
           unfold tlQ
           rw [if_neg (fun q => by have := q.2; omega)]
         exact tail _ (by rw [e9]; exact H1) f1)
      | (have e9 : tlQ bs ct td p = (snP bs 2 p).2 := by
           unfold tlQ
           rw [if_neg (fun q => bz_0.mp c_23 q.1)]
         exact tail _ (by rw [e9]; exact H1) f1)
