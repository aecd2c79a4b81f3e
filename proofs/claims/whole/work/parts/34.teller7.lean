/-! 34: Teller: a block -/
theorem LKI_0 {ct td : Nat → Int} (h : c_get td 7 (ct 7) 3 = 0) : LKI ct td := ⟨by omega, fun i h1 h2 => by omega, fun i j h1 h2 h3 => by omega⟩
theorem NO_of {p q : TS} (h : NO p) (e : q.2.2 = p.2.2) : NO q := by
  unfold NO
  rw [e]
  exact h
theorem lbP_n {bs : Nat → Int} {k : Nat} {a c : Int} {p : TS} : (lbP bs k a c p).2.2.2 = p.2.2 := by
  unfold lbP
  rw [ehP_n, ewP_n]
noncomputable def blR (bs ct : Nat → Int) : Nat → TS → (Nat → Int) → TS × (Nat → Int)
  | 0, p, td => (p, td)
  | k + 1, p, td => if p.1 7 = 0 ∧ p.1 4 = 3 ∧ p.1 2 < p.1 1 ∧ bs (p.1 2).toNat = 44 then blR bs ct k (tlP bs ct td (nxP bs p)).1 (tlP bs ct td (nxP bs p)).2 else (p, td)
set_option maxHeartbeats 1000000 in
set_option maxRecDepth 20000 in
theorem s_X4_tellBlock {l : Launch} {n : Nat} {M : jdM} {t b f : Nat} {bs : Nat → Int} {p : TS} {ct td bk si ld : Nat → Int} (H1 : TF M n t b f bs p ct td bk si ld) (hby : ∀ i, -128 ≤ bs i ∧ bs i < 128) (hct : ct 7 < 8) (h30 : c_get td 7 (ct 7) 3 = 0) (hN : NO p) : Ct l yX4_tellBlock cX4_tellBlock 4 none rX4_tellBlock [.ref t, .ref f] n M (fun vv n' M' => (vv = none ∧ n = n') ∧ TF M' n t b f bs (blR bs ct 4 (tlP bs ct (up (up (up td (c_ix ct 7 0) (ehP bs 1 40 p).1) (c_ix ct 7 1) (lbP bs 14 (ehP bs 1 40 p).1 40 (ehP bs 1 40 p).2).1) (c_ix ct 7 2) (lbP bs 15 1 9 (lbP bs 14 (ehP bs 1 40 p).1 40 (ehP bs 1 40 p).2).2).1) (ewP bs 16 (lbP bs 15 1 9 (lbP bs 14 (ehP bs 1 40 p).1 40 (ehP bs 1 40 p).2).2).2)).1 (tlP bs ct (up (up (up td (c_ix ct 7 0) (ehP bs 1 40 p).1) (c_ix ct 7 1) (lbP bs 14 (ehP bs 1 40 p).1 40 (ehP bs 1 40 p).2).1) (c_ix ct 7 2) (lbP bs 15 1 9 (lbP bs 14 (ehP bs 1 40 p).1 40 (ehP bs 1 40 p).2).2).1) (ewP bs 16 (lbP bs 15 1 9 (lbP bs 14 (ehP bs 1 40 p).1 40 (ehP bs 1 40 p).2).2).2)).2).1 ct (blR bs ct 4 (tlP bs ct (up (up (up td (c_ix ct 7 0) (ehP bs 1 40 p).1) (c_ix ct 7 1) (lbP bs 14 (ehP bs 1 40 p).1 40 (ehP bs 1 40 p).2).1) (c_ix ct 7 2) (lbP bs 15 1 9 (lbP bs 14 (ehP bs 1 40 p).1 40 (ehP bs 1 40 p).2).2).1) (ewP bs 16 (lbP bs 15 1 9 (lbP bs 14 (ehP bs 1 40 p).1 40 (ehP bs 1 40 p).2).2).2)).1 (tlP bs ct (up (up (up td (c_ix ct 7 0) (ehP bs 1 40 p).1) (c_ix ct 7 1) (lbP bs 14 (ehP bs 1 40 p).1 40 (ehP bs 1 40 p).2).1) (c_ix ct 7 2) (lbP bs 15 1 9 (lbP bs 14 (ehP bs 1 40 p).1 40 (ehP bs 1 40 p).2).2).1) (ewP bs 16 (lbP bs 15 1 9 (lbP bs 14 (ehP bs 1 40 p).1 40 (ehP bs 1 40 p).2).2).2)).2).2 bk si ld ∧ fr (TlS b f) M M') := by
  refine Ct_of [some (.ref t), some (.ref f), none, none] (by decide) (Nat.le_of_ble_eq_true rfl) rfl (fun κ hl h hR hRt hmn hn0 => ?_)
  have h : Ok κ RX4 cX4_tellBlock 4 none := h
  obtain ⟨E1, F1, hbf, htf⟩ := id H1
  obtain ⟨ht, hOt, X1, hPO, hsep⟩ := id E1
  obtain ⟨hnb, hOb, hYb, hNb, hSb, hKb⟩ := id X1
  obtain ⟨hfn, hFf, -⟩ := id F1
  have f1 : fr (TlS b f) M M := fr_rf
  have c78 : 0 ≤ ct 7 ∧ ct 7 < 8 := ⟨(F1.2.2.2.2.2.2.2.1 7).1, hct⟩
  refine jr_aload_n (pc := 0) h dX4_tellBlock_0 rfl ?_
  refine gf_X4_12 (pc := 1) h dX4_tellBlock_1 (by assumption) (by omega) ?_
  refine jr_iconst (pc := 4) h dX4_tellBlock_4 ?_
  refine jr_bipush (pc := 5) h dX4_tellBlock_5 bp_40 ?_
  refine iv_X4_116 (pc := 7) h hl hR dX4_tellBlock_7 ⟨(Nat.le_of_ble_eq_true rfl), (Nat.le_of_ble_eq_true rfl), (Nat.le_of_ble_eq_true rfl), (Nat.le_of_ble_eq_true rfl)⟩ (Nat.le_of_ble_eq_true rfl) (by assumption) (by omega) (s_X6_expectWhole (a := 1) (c := 40) X1 hPO hby (by omega) (by omega)) (fun v_7 n_7 M_7 hn_7 hp => ?_)
  obtain ⟨⟨hv, rfl⟩, X2, fx⟩ := hp
  subst hv
  have vb7 := ehP_b (bs := bs) (a := 1) (c := 40) (p := p) (by omega)
  have H1 := TF_tk H1 X2 fx (ehP_O hPO)
  have f1 := fr_tr f1 (fr_mo fx (fun k hk => Or.inl hk))
  obtain ⟨E1, F1, hbf, htf⟩ := id H1
  obtain ⟨ht, hOt, X1, hPO, hsep⟩ := id E1
  obtain ⟨hnb, hOb, hYb, hNb, hSb, hKb⟩ := id X1
  obtain ⟨hfn, hFf, -⟩ := id F1
  refine jr_istore_n (pc := 10) h [_, _, _, _] dX4_tellBlock_10 (by decide) rfl ?_
  refine jr_aload_n (pc := 11) h dX4_tellBlock_11 rfl ?_
  refine jr_bipush (pc := 12) h dX4_tellBlock_12 bp_7 ?_
  refine jr_iconst (pc := 14) h dX4_tellBlock_14 ?_
  refine jr_iload_n (pc := 15) h dX4_tellBlock_15 rfl ?_
  refine iv_X4_104 (pc := 16) h hl hR dX4_tellBlock_16 ⟨(Nat.le_of_ble_eq_true rfl), (Nat.le_of_ble_eq_true rfl), (Nat.le_of_ble_eq_true rfl), (Nat.le_of_ble_eq_true rfl)⟩ (Nat.le_of_ble_eq_true rfl) (by assumption) (by omega) (s_X1_put F1 (by omega) (by omega) hct (by omega)) (fun v_16 n_16 M_16 hn_16 hp => ?_)
  obtain ⟨rfl, rfl, hM⟩ := hp
  have H1 := TF_td H1 hM (by omega) (fun q => by have cb := (F1.2.2.2.2.2.2.2.1 (Int.toNat 7)).1; unfold c_ix at q; omega)
  have f1 := fr_tr f1 (fr_up hM (Or.inr ⟨by omega, by omega⟩))
  obtain ⟨E1, F1, hbf, htf⟩ := id H1
  obtain ⟨ht, hOt, X1, hPO, hsep⟩ := id E1
  obtain ⟨hnb, hOb, hYb, hNb, hSb, hKb⟩ := id X1
  obtain ⟨hfn, hFf, -⟩ := id F1
  refine jr_aload_n (pc := 19) h dX4_tellBlock_19 rfl ?_
  refine jr_bipush (pc := 20) h dX4_tellBlock_20 bp_7 ?_
  refine jr_iconst (pc := 22) h dX4_tellBlock_22 ?_
  refine jr_aload_n (pc := 23) h dX4_tellBlock_23 rfl ?_
  refine jr_ldcS (pc := 24) h 14 (by decide) ⟨rfl, rfl⟩ dX4_tellBlock_24 ?_
  refine jr_iload_n (pc := 26) h dX4_tellBlock_26 rfl ?_
  refine jr_bipush (pc := 27) h dX4_tellBlock_27 bp_40 ?_
  refine iv_X4_100 (pc := 29) h hl hR dX4_tellBlock_29 ⟨(Nat.le_of_ble_eq_true rfl), (Nat.le_of_ble_eq_true rfl), (Nat.le_of_ble_eq_true rfl), (Nat.le_of_ble_eq_true rfl)⟩ (Nat.le_of_ble_eq_true rfl) (by assumption) (by omega) (s_X4_labelled (k := 14) (a := (ehP bs 1 40 p).1) (c := 40) E1 hby (by omega) (by omega) (by omega)) (fun v_29 n_29 M_29 hn_29 hp => ?_)
  obtain ⟨⟨hv, rfl⟩, E2, fx⟩ := hp
  subst hv
  have vb29 := lbP_b (bs := bs) (k := 14) (a := (ehP bs 1 40 p).1) (c := 40) (p := (ehP bs 1 40 p).2) (by omega)
  have H1 := TF_te H1 E2 fx
  have f1 := fr_tr f1 (fr_mo fx (fun k hk => Or.inl hk))
  obtain ⟨E1, F1, hbf, htf⟩ := id H1
  obtain ⟨ht, hOt, X1, hPO, hsep⟩ := id E1
  obtain ⟨hnb, hOb, hYb, hNb, hSb, hKb⟩ := id X1
  obtain ⟨hfn, hFf, -⟩ := id F1
  refine iv_X4_104 (pc := 32) h hl hR dX4_tellBlock_32 ⟨(Nat.le_of_ble_eq_true rfl), (Nat.le_of_ble_eq_true rfl), (Nat.le_of_ble_eq_true rfl), (Nat.le_of_ble_eq_true rfl)⟩ (Nat.le_of_ble_eq_true rfl) (by assumption) (by omega) (s_X1_put F1 (by omega) (by omega) hct (by omega)) (fun v_32 n_32 M_32 hn_32 hp => ?_)
  obtain ⟨rfl, rfl, hM⟩ := hp
  have H1 := TF_td H1 hM (by omega) (fun q => by have cb := (F1.2.2.2.2.2.2.2.1 (Int.toNat 7)).1; unfold c_ix at q; omega)
  have f1 := fr_tr f1 (fr_up hM (Or.inr ⟨by omega, by omega⟩))
  obtain ⟨E1, F1, hbf, htf⟩ := id H1
  obtain ⟨ht, hOt, X1, hPO, hsep⟩ := id E1
  obtain ⟨hnb, hOb, hYb, hNb, hSb, hKb⟩ := id X1
  obtain ⟨hfn, hFf, -⟩ := id F1
  refine jr_aload_n (pc := 35) h dX4_tellBlock_35 rfl ?_
  refine jr_bipush (pc := 36) h dX4_tellBlock_36 bp_7 ?_
  refine jr_iconst (pc := 38) h dX4_tellBlock_38 ?_
  refine jr_aload_n (pc := 39) h dX4_tellBlock_39 rfl ?_
  refine jr_ldcS (pc := 40) h 15 (by decide) ⟨rfl, rfl⟩ dX4_tellBlock_40 ?_
  refine jr_iconst (pc := 42) h dX4_tellBlock_42 ?_
  refine jr_bipush (pc := 43) h dX4_tellBlock_43 bp_9 ?_
  refine iv_X4_100 (pc := 45) h hl hR dX4_tellBlock_45 ⟨(Nat.le_of_ble_eq_true rfl), (Nat.le_of_ble_eq_true rfl), (Nat.le_of_ble_eq_true rfl), (Nat.le_of_ble_eq_true rfl)⟩ (Nat.le_of_ble_eq_true rfl) (by assumption) (by omega) (s_X4_labelled (k := 15) (a := 1) (c := 9) E1 hby (by omega) (by omega) (by omega)) (fun v_45 n_45 M_45 hn_45 hp => ?_)
  obtain ⟨⟨hv, rfl⟩, E2, fx⟩ := hp
  subst hv
  have vb45 := lbP_b (bs := bs) (k := 15) (a := 1) (c := 9) (p := (lbP bs 14 (ehP bs 1 40 p).1 40 (ehP bs 1 40 p).2).2) (by omega)
  have H1 := TF_te H1 E2 fx
  have f1 := fr_tr f1 (fr_mo fx (fun k hk => Or.inl hk))
  obtain ⟨E1, F1, hbf, htf⟩ := id H1
  obtain ⟨ht, hOt, X1, hPO, hsep⟩ := id E1
  obtain ⟨hnb, hOb, hYb, hNb, hSb, hKb⟩ := id X1
  obtain ⟨hfn, hFf, -⟩ := id F1
  refine iv_X4_104 (pc := 48) h hl hR dX4_tellBlock_48 ⟨(Nat.le_of_ble_eq_true rfl), (Nat.le_of_ble_eq_true rfl), (Nat.le_of_ble_eq_true rfl), (Nat.le_of_ble_eq_true rfl)⟩ (Nat.le_of_ble_eq_true rfl) (by assumption) (by omega) (s_X1_put F1 (by omega) (by omega) hct (by omega)) (fun v_48 n_48 M_48 hn_48 hp => ?_)
  obtain ⟨rfl, rfl, hM⟩ := hp
  have H1 := TF_td H1 hM (by omega) (fun q => by have cb := (F1.2.2.2.2.2.2.2.1 (Int.toNat 7)).1; unfold c_ix at q; omega)
  have f1 := fr_tr f1 (fr_up hM (Or.inr ⟨by omega, by omega⟩))
  obtain ⟨E1, F1, hbf, htf⟩ := id H1
  obtain ⟨ht, hOt, X1, hPO, hsep⟩ := id E1
  obtain ⟨hnb, hOb, hYb, hNb, hSb, hKb⟩ := id X1
  obtain ⟨hfn, hFf, -⟩ := id F1
  refine jr_aload_n (pc := 51) h dX4_tellBlock_51 rfl ?_
  refine gf_X4_12 (pc := 52) h dX4_tellBlock_52 (by assumption) (by omega) ?_
  refine jr_ldcS (pc := 55) h 16 (by decide) ⟨rfl, rfl⟩ dX4_tellBlock_55 ?_
  refine iv_X4_142 (pc := 57) h hl hR dX4_tellBlock_57 ⟨(Nat.le_of_ble_eq_true rfl), (Nat.le_of_ble_eq_true rfl), (Nat.le_of_ble_eq_true rfl), (Nat.le_of_ble_eq_true rfl)⟩ (Nat.le_of_ble_eq_true rfl) (by assumption) (by omega) (s_X6_expectWord (k := 16) X1 hPO hby (by omega)) (fun v_57 n_57 M_57 hn_57 hp => ?_)
  obtain ⟨⟨rfl, rfl⟩, X2, fx⟩ := hp
  skip
  have H1 := TF_tk H1 X2 fx (ewP_O hPO)
  have f1 := fr_tr f1 (fr_mo fx (fun k hk => Or.inl hk))
  obtain ⟨E1, F1, hbf, htf⟩ := id H1
  obtain ⟨ht, hOt, X1, hPO, hsep⟩ := id E1
  obtain ⟨hnb, hOb, hYb, hNb, hSb, hKb⟩ := id X1
  obtain ⟨hfn, hFf, -⟩ := id F1
  have hL0 : LKI ct (up (up (up td (c_ix ct 7 0) (ehP bs 1 40 p).1) (c_ix ct 7 1) (lbP bs 14 (ehP bs 1 40 p).1 40 (ehP bs 1 40 p).2).1) (c_ix ct 7 2) (lbP bs 15 1 9 (lbP bs 14 (ehP bs 1 40 p).1 40 (ehP bs 1 40 p).2).2).1) := LKI_0 (by rw [cg_up c78 (by omega) (by omega), cg_up c78 (by omega) (by omega), cg_up c78 (by omega) (by omega)]; exact h30)
  have hN0 : NO (ewP bs 16 (lbP bs 15 1 9 (lbP bs 14 (ehP bs 1 40 p).1 40 (ehP bs 1 40 p).2).2).2) := NO_of hN (by rw [ewP_n, lbP_n, lbP_n, ehP_n])
  have hk0 := LKI_4 hL0 (snP_k (bs := bs) hPO hN0)
  have hL1 := tlP_L (bs := bs) hL0 hPO hN0 c78
  have hN1 : NO (tlP bs ct (up (up (up td (c_ix ct 7 0) (ehP bs 1 40 p).1) (c_ix ct 7 1) (lbP bs 14 (ehP bs 1 40 p).1 40 (ehP bs 1 40 p).2).1) (c_ix ct 7 2) (lbP bs 15 1 9 (lbP bs 14 (ehP bs 1 40 p).1 40 (ehP bs 1 40 p).2).2).1) (ewP bs 16 (lbP bs 15 1 9 (lbP bs 14 (ehP bs 1 40 p).1 40 (ehP bs 1 40 p).2).2).2)).1 := NO_of hN0 tlP_n
  refine jr_aload_n (pc := 60) h dX4_tellBlock_60 rfl ?_
  refine jr_aload_n (pc := 61) h dX4_tellBlock_61 rfl ?_
  refine iv_X4_170 (pc := 62) h hl hR dX4_tellBlock_62 ⟨(Nat.le_of_ble_eq_true rfl), (Nat.le_of_ble_eq_true rfl), (Nat.le_of_ble_eq_true rfl), (Nat.le_of_ble_eq_true rfl)⟩ (Nat.le_of_ble_eq_true rfl) (by assumption) (by omega) (s_X4_tellLiking H1 hby hct hk0) (fun v_62 n_62 M_62 hn_62 hp => ?_)
  obtain ⟨⟨rfl, rfl⟩, H1, fx⟩ := hp
  have f1 := fr_tr f1 fx
  obtain ⟨E1, F1, hbf, htf⟩ := id H1
  obtain ⟨ht, hOt, X1, hPO, hsep⟩ := id E1
  obtain ⟨hnb, hOb, hYb, hNb, hSb, hKb⟩ := id X1
  obtain ⟨hfn, hFf, -⟩ := id F1
  refine jr_iconst (pc := 65) h dX4_tellBlock_65 ?_
  refine jr_istore_n (pc := 66) h [_, _, _, _] dX4_tellBlock_66 (by decide) rfl ?_
  obtain ⟨FIN, eFIN⟩ : ∃ FIN, blR bs ct 4 (tlP bs ct (up (up (up td (c_ix ct 7 0) (ehP bs 1 40 p).1) (c_ix ct 7 1) (lbP bs 14 (ehP bs 1 40 p).1 40 (ehP bs 1 40 p).2).1) (c_ix ct 7 2) (lbP bs 15 1 9 (lbP bs 14 (ehP bs 1 40 p).1 40 (ehP bs 1 40 p).2).2).1) (ewP bs 16 (lbP bs 15 1 9 (lbP bs 14 (ehP bs 1 40 p).1 40 (ehP bs 1 40 p).2).2).2)).1 (tlP bs ct (up (up (up td (c_ix ct 7 0) (ehP bs 1 40 p).1) (c_ix ct 7 1) (lbP bs 14 (ehP bs 1 40 p).1 40 (ehP bs 1 40 p).2).1) (c_ix ct 7 2) (lbP bs 15 1 9 (lbP bs 14 (ehP bs 1 40 p).1 40 (ehP bs 1 40 p).2).2).1) (ewP bs 16 (lbP bs 15 1 9 (lbP bs 14 (ehP bs 1 40 p).1 40 (ehP bs 1 40 p).2).2).2)).2 = FIN := ⟨_, rfl⟩
  have loop : ∀ (dq : Nat) (i : Int) (M1 : jdM) (p1 : TS) (td1 : Nat → Int), (0 ≤ i ∧ i ≤ 4) → (TF M1 n t b f bs p1 ct td1 bk si ld) → (fr (TlS b f) M M1) → (LKI ct td1) → (NO p1) → (blR bs ct (4 - i).toNat p1 td1 = FIN) → (9 - i).toNat < dq → J κ 4 0 0 n 67 [some (.ref t), some (.ref f), some (jI (ehP bs 1 40 p).1), some (jI i)] [] M1 := by
    intro dq
    induction dq with
    | zero => intro i M1 p1 td1 hi H1 f1 hL1 hN1 hfin hd; omega
    | succ dq ih =>
      intro i M1 p1 td1 hi H1 f1 hL1 hN1 hfin hd
      obtain ⟨E1, F1, hbf, htf⟩ := id H1
      obtain ⟨ht, hOt, X1, hPO, hsep⟩ := id E1
      obtain ⟨hnb, hOb, hYb, hNb, hSb, hKb⟩ := id X1
      obtain ⟨hfn, hFf, -⟩ := id F1
      refine jr_iload_n (pc := 67) h dX4_tellBlock_67 rfl ?_
      refine jr_iconst (pc := 68) h dX4_tellBlock_68 ?_
      refine jr_icmp_ge (pc := 69) h 112 dX4_tellBlock_69 (by decide) (by omega) (by omega) (fun c_69 => ?_) (fun c_69 => ?_)
      · skip
        refine jr_vret (pc := 112) h hRt dX4_tellBlock_112 (Nat.le_of_ble_eq_true rfl) (Nat.le_of_ble_eq_true rfl) ?_
        have e9 : (p1, td1) = FIN := by
          rw [← hfin]
          first
          | (rw [show (4 - i).toNat = 0 by omega, blR])
          | (rw [show (4 - i).toNat = (4 - (i + 1)).toNat + 1 by omega, blR, if_neg (fun q => bz_0.mp c_91 q.2)])
          | (rw [show (4 - i).toNat = (4 - (i + 1)).toNat + 1 by omega, blR, if_neg (fun q => bz_0.mp c_79 q.1)])
        refine ⟨⟨rfl, rfl⟩, ?_, f1⟩
        rw [eFIN, ← e9]
        exact H1
      · skip
        refine jr_aload_n (pc := 72) h dX4_tellBlock_72 rfl ?_
        refine gf_X4_12 (pc := 73) h dX4_tellBlock_73 (by assumption) (by omega) ?_
        refine iv_X4_35 (pc := 76) h hl hR dX4_tellBlock_76 ⟨(Nat.le_of_ble_eq_true rfl), (Nat.le_of_ble_eq_true rfl), (Nat.le_of_ble_eq_true rfl), (Nat.le_of_ble_eq_true rfl)⟩ (Nat.le_of_ble_eq_true rfl) (by assumption) (by omega) (s_X6_isFine X1 hPO.1.2.2.2.2.1) (fun v_76 n_76 M_76 hn_76 hp => ?_)
        obtain ⟨⟨rfl, rfl, rfl⟩, gr_76⟩ := hp
        refine jr_if_eq (pc := 79) h 112 dX4_tellBlock_79 (by decide) (by omega) (fun c_79 => ?_) (fun c_79 => ?_)
        · skip
          refine jr_vret (pc := 112) h hRt dX4_tellBlock_112 (Nat.le_of_ble_eq_true rfl) (Nat.le_of_ble_eq_true rfl) ?_
          have e9 : (p1, td1) = FIN := by
            rw [← hfin]
            first
            | (rw [show (4 - i).toNat = 0 by omega, blR])
            | (rw [show (4 - i).toNat = (4 - (i + 1)).toNat + 1 by omega, blR, if_neg (fun q => bz_0.mp c_91 q.2)])
            | (rw [show (4 - i).toNat = (4 - (i + 1)).toNat + 1 by omega, blR, if_neg (fun q => bz_0.mp c_79 q.1)])
          refine ⟨⟨rfl, rfl⟩, ?_, f1⟩
          rw [eFIN, ← e9]
          exact H1
        · skip
          refine jr_aload_n (pc := 82) h dX4_tellBlock_82 rfl ?_
          refine gf_X4_12 (pc := 83) h dX4_tellBlock_83 (by assumption) (by omega) ?_
          refine jr_bipush (pc := 86) h dX4_tellBlock_86 bp_44 ?_
          refine iv_X4_173 (pc := 88) h hl hR dX4_tellBlock_88 ⟨(Nat.le_of_ble_eq_true rfl), (Nat.le_of_ble_eq_true rfl), (Nat.le_of_ble_eq_true rfl), (Nat.le_of_ble_eq_true rfl)⟩ (Nat.le_of_ble_eq_true rfl) (by assumption) (by omega) (s_X6_isSign X1 hby hPO.1 (by omega)) (fun v_88 n_88 M_88 hn_88 hp => ?_)
          obtain ⟨⟨rfl, rfl, rfl⟩, gr_88⟩ := hp
          refine jr_if_eq (pc := 91) h 112 dX4_tellBlock_91 (by decide) (by omega) (fun c_91 => ?_) (fun c_91 => ?_)
          · skip
            refine jr_vret (pc := 112) h hRt dX4_tellBlock_112 (Nat.le_of_ble_eq_true rfl) (Nat.le_of_ble_eq_true rfl) ?_
            have e9 : (p1, td1) = FIN := by
              rw [← hfin]
              first
              | (rw [show (4 - i).toNat = 0 by omega, blR])
              | (rw [show (4 - i).toNat = (4 - (i + 1)).toNat + 1 by omega, blR, if_neg (fun q => bz_0.mp c_91 q.2)])
              | (rw [show (4 - i).toNat = (4 - (i + 1)).toNat + 1 by omega, blR, if_neg (fun q => bz_0.mp c_79 q.1)])
            refine ⟨⟨rfl, rfl⟩, ?_, f1⟩
            rw [eFIN, ← e9]
            exact H1
          · skip
            refine jr_aload_n (pc := 94) h dX4_tellBlock_94 rfl ?_
            refine gf_X4_12 (pc := 95) h dX4_tellBlock_95 (by assumption) (by omega) ?_
            refine iv_X4_69 (pc := 98) h hl hR dX4_tellBlock_98 ⟨(Nat.le_of_ble_eq_true rfl), (Nat.le_of_ble_eq_true rfl), (Nat.le_of_ble_eq_true rfl), (Nat.le_of_ble_eq_true rfl)⟩ (Nat.le_of_ble_eq_true rfl) (by assumption) (by omega) (s_X6_next X1 hby ⟨hPO.1.1, hPO.1.2.2.1⟩ rfl rfl rfl) (fun v_98 n_98 M_98 hn_98 hp => ?_)
            obtain ⟨⟨rfl, rfl⟩, g9, T9, f9, q1, q2, q3, q4, q5, q7, q8, q12⟩ := hp
            have X9 : TkP M_98 n b bs (nxP bs p1) := nxP_of (w := p1.2.1) T9 q1 q2 q3 q4 q5 q7 q8 q12
            have H1 := TF_tk H1 X9 f9 (nxP_O hPO)
            have f1 := fr_tr f1 (fr_mo f9 (fun k hk => Or.inl hk))
            obtain ⟨E1, F1, hbf, htf⟩ := id H1
            obtain ⟨ht, hOt, X1, hPO, hsep⟩ := id E1
            obtain ⟨hnb, hOb, hYb, hNb, hSb, hKb⟩ := id X1
            obtain ⟨hfn, hFf, -⟩ := id F1
            have hN2 : NO (nxP bs p1) := NO_of hN1 rfl
            have hk2 := LKI_4 hL1 (snP_k (bs := bs) hPO hN2)
            have hL2 := tlP_L (bs := bs) hL1 hPO hN2 c78
            refine jr_aload_n (pc := 101) h dX4_tellBlock_101 rfl ?_
            refine jr_aload_n (pc := 102) h dX4_tellBlock_102 rfl ?_
            refine iv_X4_170 (pc := 103) h hl hR dX4_tellBlock_103 ⟨(Nat.le_of_ble_eq_true rfl), (Nat.le_of_ble_eq_true rfl), (Nat.le_of_ble_eq_true rfl), (Nat.le_of_ble_eq_true rfl)⟩ (Nat.le_of_ble_eq_true rfl) (by assumption) (by omega) (s_X4_tellLiking H1 hby hct hk2) (fun v_103 n_103 M_103 hn_103 hp => ?_)
            obtain ⟨⟨rfl, rfl⟩, H1, fx⟩ := hp
            have f1 := fr_tr f1 fx
            refine jr_iinc (pc := 106) h [_, _, _, _] dX4_tellBlock_106 (by decide) rfl rfl ?_
            refine jr_goto (pc := 109) h 67 dX4_tellBlock_109 (by decide) ?_
            refine ih _ M_103 _ _ (by omega) H1 f1 hL2 (NO_of hN2 tlP_n) ?_ (by omega)
            rw [show (4 - i).toNat = (4 - (i + 1)).toNat + 1 by omega, blR, if_pos ⟨bz_1.mp c_79, bz_1.mp c_91⟩] at hfin
            exact hfin
  exact loop _ _ _ _ _ (by omega) H1 f1 hL1 hN1 eFIN (Nat.lt_succ_self _)
