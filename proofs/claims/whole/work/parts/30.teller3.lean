/-! 30: Teller: lines by their sorts -/
theorem lbP_b {bs : Nat → Int} {k : Nat} {a c : Int} {p : TS} (h : a ≤ c) : a ≤ (lbP bs k a c p).1 ∧ (lbP bs k a c p).1 ≤ c := ehP_b h
theorem enP_b {bs : Nat → Int} {s : Int} {p : TS} (h : PO p) : 0 ≤ (enP bs s p).1 ∧ (enP bs s p).1 ≤ 100 := by
  have hs : 0 ≤ (snP bs s p).1 ∧ (snP bs s p).1 ≤ 100 := by
    unfold snP
    split
    · exact ⟨Int.le_refl _, (by decide : (0 : Int) ≤ 100)⟩
    · split
      · exact ⟨Int.le_refl _, (by decide : (0 : Int) ≤ 100)⟩
      · split
        · exact ⟨Int.le_refl _, (by decide : (0 : Int) ≤ 100)⟩
        · exact h.2.2.2.2 _
  unfold enP
  split
  · exact hs
  · exact hs
set_option maxHeartbeats 1000000 in
set_option maxRecDepth 20000 in
theorem s_X4_tellNumbers_0 {l : Launch} {n : Nat} {M : jdM} {t b f : Nat} {bs : Nat → Int} {p : TS} {ct td bk si ld : Nat → Int} (H1 : TF M n t b f bs p ct td bk si ld) (hby : ∀ i, -128 ≤ bs i ∧ bs i < 128) (hct : ct 0 < 8) : Ct l yX4_tellNumbers cX4_tellNumbers 4 none rX4_tellNumbers [.ref t, .ref f, jI 0] n M (fun vv n' M' => (vv = none ∧ n = n') ∧ TF M' n t b f bs ((lbP bs 19 1 60 (lbP bs 18 0 60 (lbP bs 17 2 40 p).2).2).2) ct ((up (up (up td (c_ix ct 0 0) (lbP bs 17 2 40 p).1) (c_ix ct 0 1) (lbP bs 18 0 60 (lbP bs 17 2 40 p).2).1) (c_ix ct 0 2) (lbP bs 19 1 60 (lbP bs 18 0 60 (lbP bs 17 2 40 p).2).2).1)) bk si ld ∧ fr (TlS b f) M M') := by
  refine Ct_of [some (.ref t), some (.ref f), some (jI 0), none] (by decide) (Nat.le_of_ble_eq_true rfl) rfl (fun κ hl h hR hRt hmn hn0 => ?_)
  have h : Ok κ RX4 cX4_tellNumbers 4 none := h
  obtain ⟨E1, F1, hbf, htf⟩ := id H1
  obtain ⟨ht, hOt, X1, hPO, hsep⟩ := id E1
  obtain ⟨hnb, hOb, hYb, hNb, hSb, hKb⟩ := id X1
  obtain ⟨hfn, hFf, -⟩ := id F1
  have f1 : fr (TlS b f) M M := fr_rf
  refine jr_iload_n (pc := 0) h dX4_tellNumbers_0 rfl ?_
  refine jr_lookup (pc := 1) h (x := 0) (off := 43) 44 dX4_tellNumbers_1 (by omega) (by decide) rfl rfl ?_
  refine jr_aload_n (pc := 44) h dX4_tellNumbers_44 rfl ?_
  refine jr_iconst (pc := 45) h dX4_tellNumbers_45 ?_
  refine jr_iconst (pc := 46) h dX4_tellNumbers_46 ?_
  refine jr_aload_n (pc := 47) h dX4_tellNumbers_47 rfl ?_
  refine jr_ldcS (pc := 48) h 17 (by decide) ⟨rfl, rfl⟩ dX4_tellNumbers_48 ?_
  refine jr_iconst (pc := 50) h dX4_tellNumbers_50 ?_
  refine jr_bipush (pc := 51) h dX4_tellNumbers_51 bp_40 ?_
  refine iv_X4_100 (pc := 53) h hl hR dX4_tellNumbers_53 ⟨(Nat.le_of_ble_eq_true rfl), (Nat.le_of_ble_eq_true rfl), (Nat.le_of_ble_eq_true rfl), (Nat.le_of_ble_eq_true rfl)⟩ (Nat.le_of_ble_eq_true rfl) (by assumption) (by omega) (s_X4_labelled (k := 17) (a := 2) (c := 40) E1 hby (by omega) (by omega) (by omega)) (fun v_53 n_53 M_53 hn_53 hp => ?_)
  obtain ⟨⟨hv, rfl⟩, E2, fx⟩ := hp
  subst hv
  have vb53 := lbP_b (bs := bs) (k := 17) (a := 2) (c := 40) (p := p) (by omega)
  have H1 := TF_te H1 E2 fx
  have f1 := fr_tr f1 (fr_mo fx (fun k hk => Or.inl hk))
  obtain ⟨E1, F1, hbf, htf⟩ := id H1
  obtain ⟨ht, hOt, X1, hPO, hsep⟩ := id E1
  obtain ⟨hnb, hOb, hYb, hNb, hSb, hKb⟩ := id X1
  obtain ⟨hfn, hFf, -⟩ := id F1
  refine iv_X4_104 (pc := 56) h hl hR dX4_tellNumbers_56 ⟨(Nat.le_of_ble_eq_true rfl), (Nat.le_of_ble_eq_true rfl), (Nat.le_of_ble_eq_true rfl), (Nat.le_of_ble_eq_true rfl)⟩ (Nat.le_of_ble_eq_true rfl) (by assumption) (by omega) (s_X1_put F1 (by omega) (by omega) hct (by omega)) (fun v_56 n_56 M_56 hn_56 hp => ?_)
  obtain ⟨rfl, rfl, hM⟩ := hp
  have H1 := TF_td H1 hM (by omega) (fun q => by have cb := (F1.2.2.2.2.2.2.2.1 (Int.toNat 0)).1; unfold c_ix at q; omega)
  have f1 := fr_tr f1 (fr_up hM (Or.inr ⟨by omega, by omega⟩))
  obtain ⟨E1, F1, hbf, htf⟩ := id H1
  obtain ⟨ht, hOt, X1, hPO, hsep⟩ := id E1
  obtain ⟨hnb, hOb, hYb, hNb, hSb, hKb⟩ := id X1
  obtain ⟨hfn, hFf, -⟩ := id F1
  refine jr_aload_n (pc := 59) h dX4_tellNumbers_59 rfl ?_
  refine jr_iconst (pc := 60) h dX4_tellNumbers_60 ?_
  refine jr_iconst (pc := 61) h dX4_tellNumbers_61 ?_
  refine jr_aload_n (pc := 62) h dX4_tellNumbers_62 rfl ?_
  refine jr_ldcS (pc := 63) h 18 (by decide) ⟨rfl, rfl⟩ dX4_tellNumbers_63 ?_
  refine jr_iconst (pc := 65) h dX4_tellNumbers_65 ?_
  refine jr_bipush (pc := 66) h dX4_tellNumbers_66 bp_60 ?_
  refine iv_X4_100 (pc := 68) h hl hR dX4_tellNumbers_68 ⟨(Nat.le_of_ble_eq_true rfl), (Nat.le_of_ble_eq_true rfl), (Nat.le_of_ble_eq_true rfl), (Nat.le_of_ble_eq_true rfl)⟩ (Nat.le_of_ble_eq_true rfl) (by assumption) (by omega) (s_X4_labelled (k := 18) (a := 0) (c := 60) E1 hby (by omega) (by omega) (by omega)) (fun v_68 n_68 M_68 hn_68 hp => ?_)
  obtain ⟨⟨hv, rfl⟩, E2, fx⟩ := hp
  subst hv
  have vb68 := lbP_b (bs := bs) (k := 18) (a := 0) (c := 60) (p := (lbP bs 17 2 40 p).2) (by omega)
  have H1 := TF_te H1 E2 fx
  have f1 := fr_tr f1 (fr_mo fx (fun k hk => Or.inl hk))
  obtain ⟨E1, F1, hbf, htf⟩ := id H1
  obtain ⟨ht, hOt, X1, hPO, hsep⟩ := id E1
  obtain ⟨hnb, hOb, hYb, hNb, hSb, hKb⟩ := id X1
  obtain ⟨hfn, hFf, -⟩ := id F1
  refine iv_X4_104 (pc := 71) h hl hR dX4_tellNumbers_71 ⟨(Nat.le_of_ble_eq_true rfl), (Nat.le_of_ble_eq_true rfl), (Nat.le_of_ble_eq_true rfl), (Nat.le_of_ble_eq_true rfl)⟩ (Nat.le_of_ble_eq_true rfl) (by assumption) (by omega) (s_X1_put F1 (by omega) (by omega) hct (by omega)) (fun v_71 n_71 M_71 hn_71 hp => ?_)
  obtain ⟨rfl, rfl, hM⟩ := hp
  have H1 := TF_td H1 hM (by omega) (fun q => by have cb := (F1.2.2.2.2.2.2.2.1 (Int.toNat 0)).1; unfold c_ix at q; omega)
  have f1 := fr_tr f1 (fr_up hM (Or.inr ⟨by omega, by omega⟩))
  obtain ⟨E1, F1, hbf, htf⟩ := id H1
  obtain ⟨ht, hOt, X1, hPO, hsep⟩ := id E1
  obtain ⟨hnb, hOb, hYb, hNb, hSb, hKb⟩ := id X1
  obtain ⟨hfn, hFf, -⟩ := id F1
  refine jr_aload_n (pc := 74) h dX4_tellNumbers_74 rfl ?_
  refine jr_iconst (pc := 75) h dX4_tellNumbers_75 ?_
  refine jr_iconst (pc := 76) h dX4_tellNumbers_76 ?_
  refine jr_aload_n (pc := 77) h dX4_tellNumbers_77 rfl ?_
  refine jr_ldcS (pc := 78) h 19 (by decide) ⟨rfl, rfl⟩ dX4_tellNumbers_78 ?_
  refine jr_iconst (pc := 80) h dX4_tellNumbers_80 ?_
  refine jr_bipush (pc := 81) h dX4_tellNumbers_81 bp_60 ?_
  refine iv_X4_100 (pc := 83) h hl hR dX4_tellNumbers_83 ⟨(Nat.le_of_ble_eq_true rfl), (Nat.le_of_ble_eq_true rfl), (Nat.le_of_ble_eq_true rfl), (Nat.le_of_ble_eq_true rfl)⟩ (Nat.le_of_ble_eq_true rfl) (by assumption) (by omega) (s_X4_labelled (k := 19) (a := 1) (c := 60) E1 hby (by omega) (by omega) (by omega)) (fun v_83 n_83 M_83 hn_83 hp => ?_)
  obtain ⟨⟨hv, rfl⟩, E2, fx⟩ := hp
  subst hv
  have vb83 := lbP_b (bs := bs) (k := 19) (a := 1) (c := 60) (p := (lbP bs 18 0 60 (lbP bs 17 2 40 p).2).2) (by omega)
  have H1 := TF_te H1 E2 fx
  have f1 := fr_tr f1 (fr_mo fx (fun k hk => Or.inl hk))
  obtain ⟨E1, F1, hbf, htf⟩ := id H1
  obtain ⟨ht, hOt, X1, hPO, hsep⟩ := id E1
  obtain ⟨hnb, hOb, hYb, hNb, hSb, hKb⟩ := id X1
  obtain ⟨hfn, hFf, -⟩ := id F1
  refine iv_X4_104 (pc := 86) h hl hR dX4_tellNumbers_86 ⟨(Nat.le_of_ble_eq_true rfl), (Nat.le_of_ble_eq_true rfl), (Nat.le_of_ble_eq_true rfl), (Nat.le_of_ble_eq_true rfl)⟩ (Nat.le_of_ble_eq_true rfl) (by assumption) (by omega) (s_X1_put F1 (by omega) (by omega) hct (by omega)) (fun v_86 n_86 M_86 hn_86 hp => ?_)
  obtain ⟨rfl, rfl, hM⟩ := hp
  have H1 := TF_td H1 hM (by omega) (fun q => by have cb := (F1.2.2.2.2.2.2.2.1 (Int.toNat 0)).1; unfold c_ix at q; omega)
  have f1 := fr_tr f1 (fr_up hM (Or.inr ⟨by omega, by omega⟩))
  obtain ⟨E1, F1, hbf, htf⟩ := id H1
  obtain ⟨ht, hOt, X1, hPO, hsep⟩ := id E1
  obtain ⟨hnb, hOb, hYb, hNb, hSb, hKb⟩ := id X1
  obtain ⟨hfn, hFf, -⟩ := id F1
  refine jr_goto (pc := 89) h 236 dX4_tellNumbers_89 (by decide) ?_
  refine jr_vret (pc := 236) h hRt dX4_tellNumbers_236 (Nat.le_of_ble_eq_true rfl) (Nat.le_of_ble_eq_true rfl) ?_
  exact ⟨⟨rfl, rfl⟩, H1, f1⟩
set_option maxHeartbeats 1000000 in
set_option maxRecDepth 20000 in
theorem s_X4_tellNumbers_1 {l : Launch} {n : Nat} {M : jdM} {t b f : Nat} {bs : Nat → Int} {p : TS} {ct td bk si ld : Nat → Int} (H1 : TF M n t b f bs p ct td bk si ld) (hby : ∀ i, -128 ≤ bs i ∧ bs i < 128) (hct : ct 1 < 8) : Ct l yX4_tellNumbers cX4_tellNumbers 4 none rX4_tellNumbers [.ref t, .ref f, jI 1] n M (fun vv n' M' => (vv = none ∧ n = n') ∧ TF M' n t b f bs ((lbP bs 21 0 50 (lbP bs 20 0 90 p).2).2) ct ((up (up td (c_ix ct 1 0) (lbP bs 20 0 90 p).1) (c_ix ct 1 1) (lbP bs 21 0 50 (lbP bs 20 0 90 p).2).1)) bk si ld ∧ fr (TlS b f) M M') := by
  refine Ct_of [some (.ref t), some (.ref f), some (jI 1), none] (by decide) (Nat.le_of_ble_eq_true rfl) rfl (fun κ hl h hR hRt hmn hn0 => ?_)
  have h : Ok κ RX4 cX4_tellNumbers 4 none := h
  obtain ⟨E1, F1, hbf, htf⟩ := id H1
  obtain ⟨ht, hOt, X1, hPO, hsep⟩ := id E1
  obtain ⟨hnb, hOb, hYb, hNb, hSb, hKb⟩ := id X1
  obtain ⟨hfn, hFf, -⟩ := id F1
  have f1 : fr (TlS b f) M M := fr_rf
  refine jr_iload_n (pc := 0) h dX4_tellNumbers_0 rfl ?_
  refine jr_lookup (pc := 1) h (x := 1) (off := 91) 92 dX4_tellNumbers_1 (by omega) (by decide) rfl rfl ?_
  refine jr_aload_n (pc := 92) h dX4_tellNumbers_92 rfl ?_
  refine jr_iconst (pc := 93) h dX4_tellNumbers_93 ?_
  refine jr_iconst (pc := 94) h dX4_tellNumbers_94 ?_
  refine jr_aload_n (pc := 95) h dX4_tellNumbers_95 rfl ?_
  refine jr_ldcS (pc := 96) h 20 (by decide) ⟨rfl, rfl⟩ dX4_tellNumbers_96 ?_
  refine jr_iconst (pc := 98) h dX4_tellNumbers_98 ?_
  refine jr_bipush (pc := 99) h dX4_tellNumbers_99 bp_90 ?_
  refine iv_X4_100 (pc := 101) h hl hR dX4_tellNumbers_101 ⟨(Nat.le_of_ble_eq_true rfl), (Nat.le_of_ble_eq_true rfl), (Nat.le_of_ble_eq_true rfl), (Nat.le_of_ble_eq_true rfl)⟩ (Nat.le_of_ble_eq_true rfl) (by assumption) (by omega) (s_X4_labelled (k := 20) (a := 0) (c := 90) E1 hby (by omega) (by omega) (by omega)) (fun v_101 n_101 M_101 hn_101 hp => ?_)
  obtain ⟨⟨hv, rfl⟩, E2, fx⟩ := hp
  subst hv
  have vb101 := lbP_b (bs := bs) (k := 20) (a := 0) (c := 90) (p := p) (by omega)
  have H1 := TF_te H1 E2 fx
  have f1 := fr_tr f1 (fr_mo fx (fun k hk => Or.inl hk))
  obtain ⟨E1, F1, hbf, htf⟩ := id H1
  obtain ⟨ht, hOt, X1, hPO, hsep⟩ := id E1
  obtain ⟨hnb, hOb, hYb, hNb, hSb, hKb⟩ := id X1
  obtain ⟨hfn, hFf, -⟩ := id F1
  refine iv_X4_104 (pc := 104) h hl hR dX4_tellNumbers_104 ⟨(Nat.le_of_ble_eq_true rfl), (Nat.le_of_ble_eq_true rfl), (Nat.le_of_ble_eq_true rfl), (Nat.le_of_ble_eq_true rfl)⟩ (Nat.le_of_ble_eq_true rfl) (by assumption) (by omega) (s_X1_put F1 (by omega) (by omega) hct (by omega)) (fun v_104 n_104 M_104 hn_104 hp => ?_)
  obtain ⟨rfl, rfl, hM⟩ := hp
  have H1 := TF_td H1 hM (by omega) (fun q => by have cb := (F1.2.2.2.2.2.2.2.1 (Int.toNat 1)).1; unfold c_ix at q; omega)
  have f1 := fr_tr f1 (fr_up hM (Or.inr ⟨by omega, by omega⟩))
  obtain ⟨E1, F1, hbf, htf⟩ := id H1
  obtain ⟨ht, hOt, X1, hPO, hsep⟩ := id E1
  obtain ⟨hnb, hOb, hYb, hNb, hSb, hKb⟩ := id X1
  obtain ⟨hfn, hFf, -⟩ := id F1
  refine jr_aload_n (pc := 107) h dX4_tellNumbers_107 rfl ?_
  refine jr_iconst (pc := 108) h dX4_tellNumbers_108 ?_
  refine jr_iconst (pc := 109) h dX4_tellNumbers_109 ?_
  refine jr_aload_n (pc := 110) h dX4_tellNumbers_110 rfl ?_
  refine jr_ldcS (pc := 111) h 21 (by decide) ⟨rfl, rfl⟩ dX4_tellNumbers_111 ?_
  refine jr_iconst (pc := 113) h dX4_tellNumbers_113 ?_
  refine jr_bipush (pc := 114) h dX4_tellNumbers_114 bp_50 ?_
  refine iv_X4_100 (pc := 116) h hl hR dX4_tellNumbers_116 ⟨(Nat.le_of_ble_eq_true rfl), (Nat.le_of_ble_eq_true rfl), (Nat.le_of_ble_eq_true rfl), (Nat.le_of_ble_eq_true rfl)⟩ (Nat.le_of_ble_eq_true rfl) (by assumption) (by omega) (s_X4_labelled (k := 21) (a := 0) (c := 50) E1 hby (by omega) (by omega) (by omega)) (fun v_116 n_116 M_116 hn_116 hp => ?_)
  obtain ⟨⟨hv, rfl⟩, E2, fx⟩ := hp
  subst hv
  have vb116 := lbP_b (bs := bs) (k := 21) (a := 0) (c := 50) (p := (lbP bs 20 0 90 p).2) (by omega)
  have H1 := TF_te H1 E2 fx
  have f1 := fr_tr f1 (fr_mo fx (fun k hk => Or.inl hk))
  obtain ⟨E1, F1, hbf, htf⟩ := id H1
  obtain ⟨ht, hOt, X1, hPO, hsep⟩ := id E1
  obtain ⟨hnb, hOb, hYb, hNb, hSb, hKb⟩ := id X1
  obtain ⟨hfn, hFf, -⟩ := id F1
  refine iv_X4_104 (pc := 119) h hl hR dX4_tellNumbers_119 ⟨(Nat.le_of_ble_eq_true rfl), (Nat.le_of_ble_eq_true rfl), (Nat.le_of_ble_eq_true rfl), (Nat.le_of_ble_eq_true rfl)⟩ (Nat.le_of_ble_eq_true rfl) (by assumption) (by omega) (s_X1_put F1 (by omega) (by omega) hct (by omega)) (fun v_119 n_119 M_119 hn_119 hp => ?_)
  obtain ⟨rfl, rfl, hM⟩ := hp
  have H1 := TF_td H1 hM (by omega) (fun q => by have cb := (F1.2.2.2.2.2.2.2.1 (Int.toNat 1)).1; unfold c_ix at q; omega)
  have f1 := fr_tr f1 (fr_up hM (Or.inr ⟨by omega, by omega⟩))
  obtain ⟨E1, F1, hbf, htf⟩ := id H1
  obtain ⟨ht, hOt, X1, hPO, hsep⟩ := id E1
  obtain ⟨hnb, hOb, hYb, hNb, hSb, hKb⟩ := id X1
  obtain ⟨hfn, hFf, -⟩ := id F1
  refine jr_goto (pc := 122) h 236 dX4_tellNumbers_122 (by decide) ?_
  refine jr_vret (pc := 236) h hRt dX4_tellNumbers_236 (Nat.le_of_ble_eq_true rfl) (Nat.le_of_ble_eq_true rfl) ?_
  exact ⟨⟨rfl, rfl⟩, H1, f1⟩
set_option maxHeartbeats 1000000 in
set_option maxRecDepth 20000 in
theorem s_X4_tellNumbers_9 {l : Launch} {n : Nat} {M : jdM} {t b f : Nat} {bs : Nat → Int} {p : TS} {ct td bk si ld : Nat → Int} (H1 : TF M n t b f bs p ct td bk si ld) (hby : ∀ i, -128 ≤ bs i ∧ bs i < 128) (hct : ct 9 < 8) : Ct l yX4_tellNumbers cX4_tellNumbers 4 none rX4_tellNumbers [.ref t, .ref f, jI 9] n M (fun vv n' M' => (vv = none ∧ n = n') ∧ TF M' n t b f bs ((lbP bs 14 ((ehP bs 0 300 p).1 + 1) 400 (ehP bs 0 300 p).2).2) ct ((up (up td (c_ix ct 9 0) (ehP bs 0 300 p).1) (c_ix ct 9 1) (lbP bs 14 ((ehP bs 0 300 p).1 + 1) 400 (ehP bs 0 300 p).2).1)) bk si ld ∧ fr (TlS b f) M M') := by
  refine Ct_of [some (.ref t), some (.ref f), some (jI 9), none] (by decide) (Nat.le_of_ble_eq_true rfl) rfl (fun κ hl h hR hRt hmn hn0 => ?_)
  have h : Ok κ RX4 cX4_tellNumbers 4 none := h
  obtain ⟨E1, F1, hbf, htf⟩ := id H1
  obtain ⟨ht, hOt, X1, hPO, hsep⟩ := id E1
  obtain ⟨hnb, hOb, hYb, hNb, hSb, hKb⟩ := id X1
  obtain ⟨hfn, hFf, -⟩ := id F1
  have f1 : fr (TlS b f) M M := fr_rf
  refine jr_iload_n (pc := 0) h dX4_tellNumbers_0 rfl ?_
  refine jr_lookup (pc := 1) h (x := 9) (off := 124) 125 dX4_tellNumbers_1 (by omega) (by decide) rfl rfl ?_
  refine jr_aload_n (pc := 125) h dX4_tellNumbers_125 rfl ?_
  refine gf_X4_12 (pc := 126) h dX4_tellNumbers_126 (by assumption) (by omega) ?_
  refine jr_iconst (pc := 129) h dX4_tellNumbers_129 ?_
  refine jr_sipush (pc := 130) h dX4_tellNumbers_130 sp_300 ?_
  refine iv_X4_116 (pc := 133) h hl hR dX4_tellNumbers_133 ⟨(Nat.le_of_ble_eq_true rfl), (Nat.le_of_ble_eq_true rfl), (Nat.le_of_ble_eq_true rfl), (Nat.le_of_ble_eq_true rfl)⟩ (Nat.le_of_ble_eq_true rfl) (by assumption) (by omega) (s_X6_expectWhole (a := 0) (c := 300) X1 hPO hby (by omega) (by omega)) (fun v_133 n_133 M_133 hn_133 hp => ?_)
  obtain ⟨⟨hv, rfl⟩, X2, fx⟩ := hp
  subst hv
  have vb133 := ehP_b (bs := bs) (a := 0) (c := 300) (p := p) (by omega)
  have H1 := TF_tk H1 X2 fx (ehP_O hPO)
  have f1 := fr_tr f1 (fr_mo fx (fun k hk => Or.inl hk))
  obtain ⟨E1, F1, hbf, htf⟩ := id H1
  obtain ⟨ht, hOt, X1, hPO, hsep⟩ := id E1
  obtain ⟨hnb, hOb, hYb, hNb, hSb, hKb⟩ := id X1
  obtain ⟨hfn, hFf, -⟩ := id F1
  refine jr_istore_n (pc := 136) h [_, _, _, _] dX4_tellNumbers_136 (by decide) rfl ?_
  refine jr_aload_n (pc := 137) h dX4_tellNumbers_137 rfl ?_
  refine jr_bipush (pc := 138) h dX4_tellNumbers_138 bp_9 ?_
  refine jr_iconst (pc := 140) h dX4_tellNumbers_140 ?_
  refine jr_iload_n (pc := 141) h dX4_tellNumbers_141 rfl ?_
  refine iv_X4_104 (pc := 142) h hl hR dX4_tellNumbers_142 ⟨(Nat.le_of_ble_eq_true rfl), (Nat.le_of_ble_eq_true rfl), (Nat.le_of_ble_eq_true rfl), (Nat.le_of_ble_eq_true rfl)⟩ (Nat.le_of_ble_eq_true rfl) (by assumption) (by omega) (s_X1_put F1 (by omega) (by omega) hct (by omega)) (fun v_142 n_142 M_142 hn_142 hp => ?_)
  obtain ⟨rfl, rfl, hM⟩ := hp
  have H1 := TF_td H1 hM (by omega) (fun q => by have cb := (F1.2.2.2.2.2.2.2.1 (Int.toNat 9)).1; unfold c_ix at q; omega)
  have f1 := fr_tr f1 (fr_up hM (Or.inr ⟨by omega, by omega⟩))
  obtain ⟨E1, F1, hbf, htf⟩ := id H1
  obtain ⟨ht, hOt, X1, hPO, hsep⟩ := id E1
  obtain ⟨hnb, hOb, hYb, hNb, hSb, hKb⟩ := id X1
  obtain ⟨hfn, hFf, -⟩ := id F1
  refine jr_aload_n (pc := 145) h dX4_tellNumbers_145 rfl ?_
  refine jr_bipush (pc := 146) h dX4_tellNumbers_146 bp_9 ?_
  refine jr_iconst (pc := 148) h dX4_tellNumbers_148 ?_
  refine jr_aload_n (pc := 149) h dX4_tellNumbers_149 rfl ?_
  refine jr_ldcS (pc := 150) h 14 (by decide) ⟨rfl, rfl⟩ dX4_tellNumbers_150 ?_
  refine jr_iload_n (pc := 152) h dX4_tellNumbers_152 rfl ?_
  refine jr_iconst (pc := 153) h dX4_tellNumbers_153 ?_
  refine jr_iadd (pc := 154) h dX4_tellNumbers_154 ?_
  refine jr_sipush (pc := 155) h dX4_tellNumbers_155 sp_400 ?_
  refine iv_X4_100 (pc := 158) h hl hR dX4_tellNumbers_158 ⟨(Nat.le_of_ble_eq_true rfl), (Nat.le_of_ble_eq_true rfl), (Nat.le_of_ble_eq_true rfl), (Nat.le_of_ble_eq_true rfl)⟩ (Nat.le_of_ble_eq_true rfl) (by assumption) (by omega) (s_X4_labelled (k := 14) (a := ((ehP bs 0 300 p).1 + 1)) (c := 400) E1 hby (by omega) (by omega) (by omega)) (fun v_158 n_158 M_158 hn_158 hp => ?_)
  obtain ⟨⟨hv, rfl⟩, E2, fx⟩ := hp
  subst hv
  have vb158 := lbP_b (bs := bs) (k := 14) (a := ((ehP bs 0 300 p).1 + 1)) (c := 400) (p := (ehP bs 0 300 p).2) (by omega)
  have H1 := TF_te H1 E2 fx
  have f1 := fr_tr f1 (fr_mo fx (fun k hk => Or.inl hk))
  obtain ⟨E1, F1, hbf, htf⟩ := id H1
  obtain ⟨ht, hOt, X1, hPO, hsep⟩ := id E1
  obtain ⟨hnb, hOb, hYb, hNb, hSb, hKb⟩ := id X1
  obtain ⟨hfn, hFf, -⟩ := id F1
  refine iv_X4_104 (pc := 161) h hl hR dX4_tellNumbers_161 ⟨(Nat.le_of_ble_eq_true rfl), (Nat.le_of_ble_eq_true rfl), (Nat.le_of_ble_eq_true rfl), (Nat.le_of_ble_eq_true rfl)⟩ (Nat.le_of_ble_eq_true rfl) (by assumption) (by omega) (s_X1_put F1 (by omega) (by omega) hct (by omega)) (fun v_161 n_161 M_161 hn_161 hp => ?_)
  obtain ⟨rfl, rfl, hM⟩ := hp
  have H1 := TF_td H1 hM (by omega) (fun q => by have cb := (F1.2.2.2.2.2.2.2.1 (Int.toNat 9)).1; unfold c_ix at q; omega)
  have f1 := fr_tr f1 (fr_up hM (Or.inr ⟨by omega, by omega⟩))
  obtain ⟨E1, F1, hbf, htf⟩ := id H1
  obtain ⟨ht, hOt, X1, hPO, hsep⟩ := id E1
  obtain ⟨hnb, hOb, hYb, hNb, hSb, hKb⟩ := id X1
  obtain ⟨hfn, hFf, -⟩ := id F1
  refine jr_goto (pc := 164) h 236 dX4_tellNumbers_164 (by decide) ?_
  refine jr_vret (pc := 236) h hRt dX4_tellNumbers_236 (Nat.le_of_ble_eq_true rfl) (Nat.le_of_ble_eq_true rfl) ?_
  exact ⟨⟨rfl, rfl⟩, H1, f1⟩
set_option maxHeartbeats 1000000 in
set_option maxRecDepth 20000 in
theorem s_X4_tellNumbers_10 {l : Launch} {n : Nat} {M : jdM} {t b f : Nat} {bs : Nat → Int} {p : TS} {ct td bk si ld : Nat → Int} (H1 : TF M n t b f bs p ct td bk si ld) (hby : ∀ i, -128 ≤ bs i ∧ bs i < 128) (hct : ct 10 < 8) : Ct l yX4_tellNumbers cX4_tellNumbers 4 none rX4_tellNumbers [.ref t, .ref f, jI 10] n M (fun vv n' M' => (vv = none ∧ n = n') ∧ TF M' n t b f bs ((ehP bs 1 40 p).2) ct ((up td (c_ix ct 10 0) (ehP bs 1 40 p).1)) bk si ld ∧ fr (TlS b f) M M') := by
  refine Ct_of [some (.ref t), some (.ref f), some (jI 10), none] (by decide) (Nat.le_of_ble_eq_true rfl) rfl (fun κ hl h hR hRt hmn hn0 => ?_)
  have h : Ok κ RX4 cX4_tellNumbers 4 none := h
  obtain ⟨E1, F1, hbf, htf⟩ := id H1
  obtain ⟨ht, hOt, X1, hPO, hsep⟩ := id E1
  obtain ⟨hnb, hOb, hYb, hNb, hSb, hKb⟩ := id X1
  obtain ⟨hfn, hFf, -⟩ := id F1
  have f1 : fr (TlS b f) M M := fr_rf
  refine jr_iload_n (pc := 0) h dX4_tellNumbers_0 rfl ?_
  refine jr_lookup (pc := 1) h (x := 10) (off := 166) 167 dX4_tellNumbers_1 (by omega) (by decide) rfl rfl ?_
  refine jr_aload_n (pc := 167) h dX4_tellNumbers_167 rfl ?_
  refine jr_bipush (pc := 168) h dX4_tellNumbers_168 bp_10 ?_
  refine jr_iconst (pc := 170) h dX4_tellNumbers_170 ?_
  refine jr_aload_n (pc := 171) h dX4_tellNumbers_171 rfl ?_
  refine gf_X4_12 (pc := 172) h dX4_tellNumbers_172 (by assumption) (by omega) ?_
  refine jr_iconst (pc := 175) h dX4_tellNumbers_175 ?_
  refine jr_bipush (pc := 176) h dX4_tellNumbers_176 bp_40 ?_
  refine iv_X4_116 (pc := 178) h hl hR dX4_tellNumbers_178 ⟨(Nat.le_of_ble_eq_true rfl), (Nat.le_of_ble_eq_true rfl), (Nat.le_of_ble_eq_true rfl), (Nat.le_of_ble_eq_true rfl)⟩ (Nat.le_of_ble_eq_true rfl) (by assumption) (by omega) (s_X6_expectWhole (a := 1) (c := 40) X1 hPO hby (by omega) (by omega)) (fun v_178 n_178 M_178 hn_178 hp => ?_)
  obtain ⟨⟨hv, rfl⟩, X2, fx⟩ := hp
  subst hv
  have vb178 := ehP_b (bs := bs) (a := 1) (c := 40) (p := p) (by omega)
  have H1 := TF_tk H1 X2 fx (ehP_O hPO)
  have f1 := fr_tr f1 (fr_mo fx (fun k hk => Or.inl hk))
  obtain ⟨E1, F1, hbf, htf⟩ := id H1
  obtain ⟨ht, hOt, X1, hPO, hsep⟩ := id E1
  obtain ⟨hnb, hOb, hYb, hNb, hSb, hKb⟩ := id X1
  obtain ⟨hfn, hFf, -⟩ := id F1
  refine iv_X4_104 (pc := 181) h hl hR dX4_tellNumbers_181 ⟨(Nat.le_of_ble_eq_true rfl), (Nat.le_of_ble_eq_true rfl), (Nat.le_of_ble_eq_true rfl), (Nat.le_of_ble_eq_true rfl)⟩ (Nat.le_of_ble_eq_true rfl) (by assumption) (by omega) (s_X1_put F1 (by omega) (by omega) hct (by omega)) (fun v_181 n_181 M_181 hn_181 hp => ?_)
  obtain ⟨rfl, rfl, hM⟩ := hp
  have H1 := TF_td H1 hM (by omega) (fun q => by have cb := (F1.2.2.2.2.2.2.2.1 (Int.toNat 10)).1; unfold c_ix at q; omega)
  have f1 := fr_tr f1 (fr_up hM (Or.inr ⟨by omega, by omega⟩))
  obtain ⟨E1, F1, hbf, htf⟩ := id H1
  obtain ⟨ht, hOt, X1, hPO, hsep⟩ := id E1
  obtain ⟨hnb, hOb, hYb, hNb, hSb, hKb⟩ := id X1
  obtain ⟨hfn, hFf, -⟩ := id F1
  refine jr_goto (pc := 184) h 236 dX4_tellNumbers_184 (by decide) ?_
  refine jr_vret (pc := 236) h hRt dX4_tellNumbers_236 (Nat.le_of_ble_eq_true rfl) (Nat.le_of_ble_eq_true rfl) ?_
  exact ⟨⟨rfl, rfl⟩, H1, f1⟩
set_option maxHeartbeats 1000000 in
set_option maxRecDepth 20000 in
theorem s_X4_tellNumbers_11 {l : Launch} {n : Nat} {M : jdM} {t b f : Nat} {bs : Nat → Int} {p : TS} {ct td bk si ld : Nat → Int} (H1 : TF M n t b f bs p ct td bk si ld) (hby : ∀ i, -128 ≤ bs i ∧ bs i < 128) (hct : ct 11 < 8) : Ct l yX4_tellNumbers cX4_tellNumbers 4 none rX4_tellNumbers [.ref t, .ref f, jI 11] n M (fun vv n' M' => (vv = none ∧ n = n') ∧ TF M' n t b f bs ((lbP bs 14 1 40 (lbP bs 22 1 40 (lbP bs 11 0 300 p).2).2).2) ct ((up (up (up td (c_ix ct 11 0) (lbP bs 11 0 300 p).1) (c_ix ct 11 1) (lbP bs 22 1 40 (lbP bs 11 0 300 p).2).1) (c_ix ct 11 2) (lbP bs 14 1 40 (lbP bs 22 1 40 (lbP bs 11 0 300 p).2).2).1)) bk si ld ∧ fr (TlS b f) M M') := by
  refine Ct_of [some (.ref t), some (.ref f), some (jI 11), none] (by decide) (Nat.le_of_ble_eq_true rfl) rfl (fun κ hl h hR hRt hmn hn0 => ?_)
  have h : Ok κ RX4 cX4_tellNumbers 4 none := h
  obtain ⟨E1, F1, hbf, htf⟩ := id H1
  obtain ⟨ht, hOt, X1, hPO, hsep⟩ := id E1
  obtain ⟨hnb, hOb, hYb, hNb, hSb, hKb⟩ := id X1
  obtain ⟨hfn, hFf, -⟩ := id F1
  have f1 : fr (TlS b f) M M := fr_rf
  refine jr_iload_n (pc := 0) h dX4_tellNumbers_0 rfl ?_
  refine jr_lookup (pc := 1) h (x := 11) (off := 186) 187 dX4_tellNumbers_1 (by omega) (by decide) rfl rfl ?_
  refine jr_aload_n (pc := 187) h dX4_tellNumbers_187 rfl ?_
  refine jr_bipush (pc := 188) h dX4_tellNumbers_188 bp_11 ?_
  refine jr_iconst (pc := 190) h dX4_tellNumbers_190 ?_
  refine jr_aload_n (pc := 191) h dX4_tellNumbers_191 rfl ?_
  refine jr_ldcS (pc := 192) h 11 (by decide) ⟨rfl, rfl⟩ dX4_tellNumbers_192 ?_
  refine jr_iconst (pc := 194) h dX4_tellNumbers_194 ?_
  refine jr_sipush (pc := 195) h dX4_tellNumbers_195 sp_300 ?_
  refine iv_X4_100 (pc := 198) h hl hR dX4_tellNumbers_198 ⟨(Nat.le_of_ble_eq_true rfl), (Nat.le_of_ble_eq_true rfl), (Nat.le_of_ble_eq_true rfl), (Nat.le_of_ble_eq_true rfl)⟩ (Nat.le_of_ble_eq_true rfl) (by assumption) (by omega) (s_X4_labelled (k := 11) (a := 0) (c := 300) E1 hby (by omega) (by omega) (by omega)) (fun v_198 n_198 M_198 hn_198 hp => ?_)
  obtain ⟨⟨hv, rfl⟩, E2, fx⟩ := hp
  subst hv
  have vb198 := lbP_b (bs := bs) (k := 11) (a := 0) (c := 300) (p := p) (by omega)
  have H1 := TF_te H1 E2 fx
  have f1 := fr_tr f1 (fr_mo fx (fun k hk => Or.inl hk))
  obtain ⟨E1, F1, hbf, htf⟩ := id H1
  obtain ⟨ht, hOt, X1, hPO, hsep⟩ := id E1
  obtain ⟨hnb, hOb, hYb, hNb, hSb, hKb⟩ := id X1
  obtain ⟨hfn, hFf, -⟩ := id F1
  refine iv_X4_104 (pc := 201) h hl hR dX4_tellNumbers_201 ⟨(Nat.le_of_ble_eq_true rfl), (Nat.le_of_ble_eq_true rfl), (Nat.le_of_ble_eq_true rfl), (Nat.le_of_ble_eq_true rfl)⟩ (Nat.le_of_ble_eq_true rfl) (by assumption) (by omega) (s_X1_put F1 (by omega) (by omega) hct (by omega)) (fun v_201 n_201 M_201 hn_201 hp => ?_)
  obtain ⟨rfl, rfl, hM⟩ := hp
  have H1 := TF_td H1 hM (by omega) (fun q => by have cb := (F1.2.2.2.2.2.2.2.1 (Int.toNat 11)).1; unfold c_ix at q; omega)
  have f1 := fr_tr f1 (fr_up hM (Or.inr ⟨by omega, by omega⟩))
  obtain ⟨E1, F1, hbf, htf⟩ := id H1
  obtain ⟨ht, hOt, X1, hPO, hsep⟩ := id E1
  obtain ⟨hnb, hOb, hYb, hNb, hSb, hKb⟩ := id X1
  obtain ⟨hfn, hFf, -⟩ := id F1
  refine jr_aload_n (pc := 204) h dX4_tellNumbers_204 rfl ?_
  refine jr_bipush (pc := 205) h dX4_tellNumbers_205 bp_11 ?_
  refine jr_iconst (pc := 207) h dX4_tellNumbers_207 ?_
  refine jr_aload_n (pc := 208) h dX4_tellNumbers_208 rfl ?_
  refine jr_ldcS (pc := 209) h 22 (by decide) ⟨rfl, rfl⟩ dX4_tellNumbers_209 ?_
  refine jr_iconst (pc := 211) h dX4_tellNumbers_211 ?_
  refine jr_bipush (pc := 212) h dX4_tellNumbers_212 bp_40 ?_
  refine iv_X4_100 (pc := 214) h hl hR dX4_tellNumbers_214 ⟨(Nat.le_of_ble_eq_true rfl), (Nat.le_of_ble_eq_true rfl), (Nat.le_of_ble_eq_true rfl), (Nat.le_of_ble_eq_true rfl)⟩ (Nat.le_of_ble_eq_true rfl) (by assumption) (by omega) (s_X4_labelled (k := 22) (a := 1) (c := 40) E1 hby (by omega) (by omega) (by omega)) (fun v_214 n_214 M_214 hn_214 hp => ?_)
  obtain ⟨⟨hv, rfl⟩, E2, fx⟩ := hp
  subst hv
  have vb214 := lbP_b (bs := bs) (k := 22) (a := 1) (c := 40) (p := (lbP bs 11 0 300 p).2) (by omega)
  have H1 := TF_te H1 E2 fx
  have f1 := fr_tr f1 (fr_mo fx (fun k hk => Or.inl hk))
  obtain ⟨E1, F1, hbf, htf⟩ := id H1
  obtain ⟨ht, hOt, X1, hPO, hsep⟩ := id E1
  obtain ⟨hnb, hOb, hYb, hNb, hSb, hKb⟩ := id X1
  obtain ⟨hfn, hFf, -⟩ := id F1
  refine iv_X4_104 (pc := 217) h hl hR dX4_tellNumbers_217 ⟨(Nat.le_of_ble_eq_true rfl), (Nat.le_of_ble_eq_true rfl), (Nat.le_of_ble_eq_true rfl), (Nat.le_of_ble_eq_true rfl)⟩ (Nat.le_of_ble_eq_true rfl) (by assumption) (by omega) (s_X1_put F1 (by omega) (by omega) hct (by omega)) (fun v_217 n_217 M_217 hn_217 hp => ?_)
  obtain ⟨rfl, rfl, hM⟩ := hp
  have H1 := TF_td H1 hM (by omega) (fun q => by have cb := (F1.2.2.2.2.2.2.2.1 (Int.toNat 11)).1; unfold c_ix at q; omega)
  have f1 := fr_tr f1 (fr_up hM (Or.inr ⟨by omega, by omega⟩))
  obtain ⟨E1, F1, hbf, htf⟩ := id H1
  obtain ⟨ht, hOt, X1, hPO, hsep⟩ := id E1
  obtain ⟨hnb, hOb, hYb, hNb, hSb, hKb⟩ := id X1
  obtain ⟨hfn, hFf, -⟩ := id F1
  refine jr_aload_n (pc := 220) h dX4_tellNumbers_220 rfl ?_
  refine jr_bipush (pc := 221) h dX4_tellNumbers_221 bp_11 ?_
  refine jr_iconst (pc := 223) h dX4_tellNumbers_223 ?_
  refine jr_aload_n (pc := 224) h dX4_tellNumbers_224 rfl ?_
  refine jr_ldcS (pc := 225) h 14 (by decide) ⟨rfl, rfl⟩ dX4_tellNumbers_225 ?_
  refine jr_iconst (pc := 227) h dX4_tellNumbers_227 ?_
  refine jr_bipush (pc := 228) h dX4_tellNumbers_228 bp_40 ?_
  refine iv_X4_100 (pc := 230) h hl hR dX4_tellNumbers_230 ⟨(Nat.le_of_ble_eq_true rfl), (Nat.le_of_ble_eq_true rfl), (Nat.le_of_ble_eq_true rfl), (Nat.le_of_ble_eq_true rfl)⟩ (Nat.le_of_ble_eq_true rfl) (by assumption) (by omega) (s_X4_labelled (k := 14) (a := 1) (c := 40) E1 hby (by omega) (by omega) (by omega)) (fun v_230 n_230 M_230 hn_230 hp => ?_)
  obtain ⟨⟨hv, rfl⟩, E2, fx⟩ := hp
  subst hv
  have vb230 := lbP_b (bs := bs) (k := 14) (a := 1) (c := 40) (p := (lbP bs 22 1 40 (lbP bs 11 0 300 p).2).2) (by omega)
  have H1 := TF_te H1 E2 fx
  have f1 := fr_tr f1 (fr_mo fx (fun k hk => Or.inl hk))
  obtain ⟨E1, F1, hbf, htf⟩ := id H1
  obtain ⟨ht, hOt, X1, hPO, hsep⟩ := id E1
  obtain ⟨hnb, hOb, hYb, hNb, hSb, hKb⟩ := id X1
  obtain ⟨hfn, hFf, -⟩ := id F1
  refine iv_X4_104 (pc := 233) h hl hR dX4_tellNumbers_233 ⟨(Nat.le_of_ble_eq_true rfl), (Nat.le_of_ble_eq_true rfl), (Nat.le_of_ble_eq_true rfl), (Nat.le_of_ble_eq_true rfl)⟩ (Nat.le_of_ble_eq_true rfl) (by assumption) (by omega) (s_X1_put F1 (by omega) (by omega) hct (by omega)) (fun v_233 n_233 M_233 hn_233 hp => ?_)
  obtain ⟨rfl, rfl, hM⟩ := hp
  have H1 := TF_td H1 hM (by omega) (fun q => by have cb := (F1.2.2.2.2.2.2.2.1 (Int.toNat 11)).1; unfold c_ix at q; omega)
  have f1 := fr_tr f1 (fr_up hM (Or.inr ⟨by omega, by omega⟩))
  obtain ⟨E1, F1, hbf, htf⟩ := id H1
  obtain ⟨ht, hOt, X1, hPO, hsep⟩ := id E1
  obtain ⟨hnb, hOb, hYb, hNb, hSb, hKb⟩ := id X1
  obtain ⟨hfn, hFf, -⟩ := id F1
  refine jr_vret (pc := 236) h hRt dX4_tellNumbers_236 (Nat.le_of_ble_eq_true rfl) (Nat.le_of_ble_eq_true rfl) ?_
  exact ⟨⟨rfl, rfl⟩, H1, f1⟩
set_option maxHeartbeats 1000000 in
set_option maxRecDepth 20000 in
theorem s_X4_tellNamedThing_2 {l : Launch} {n : Nat} {M : jdM} {t b f : Nat} {bs : Nat → Int} {p : TS} {ct td bk si ld : Nat → Int} (H1 : TF M n t b f bs p ct td bk si ld) (hby : ∀ i, -128 ≤ bs i ∧ bs i < 128) (hct : ct 2 < 8) : Ct l yX4_tellNamedThing cX4_tellNamedThing 3 none rX4_tellNamedThing [.ref t, .ref f, jI 2] n M (fun vv n' M' => (vv = none ∧ n = n') ∧ TF M' n t b f bs ((lbP bs 2 0 99 (lbP bs 1 1 8 p).2).2) ct ((up (up td (c_ix ct 2 0) (lbP bs 1 1 8 p).1) (c_ix ct 2 1) (lbP bs 2 0 99 (lbP bs 1 1 8 p).2).1)) bk si ld ∧ fr (TlS b f) M M') := by
  refine Ct_of [some (.ref t), some (.ref f), some (jI 2)] (by decide) (Nat.le_of_ble_eq_true rfl) rfl (fun κ hl h hR hRt hmn hn0 => ?_)
  have h : Ok κ RX4 cX4_tellNamedThing 3 none := h
  obtain ⟨E1, F1, hbf, htf⟩ := id H1
  obtain ⟨ht, hOt, X1, hPO, hsep⟩ := id E1
  obtain ⟨hnb, hOb, hYb, hNb, hSb, hKb⟩ := id X1
  obtain ⟨hfn, hFf, -⟩ := id F1
  have f1 : fr (TlS b f) M M := fr_rf
  refine jr_iload_n (pc := 0) h dX4_tellNamedThing_0 rfl ?_
  refine jr_lookup (pc := 1) h (x := 2) (off := 35) 36 dX4_tellNamedThing_1 (by omega) (by decide) rfl rfl ?_
  refine jr_aload_n (pc := 36) h dX4_tellNamedThing_36 rfl ?_
  refine jr_iconst (pc := 37) h dX4_tellNamedThing_37 ?_
  refine jr_iconst (pc := 38) h dX4_tellNamedThing_38 ?_
  refine jr_aload_n (pc := 39) h dX4_tellNamedThing_39 rfl ?_
  refine jr_ldcS (pc := 40) h 1 (by decide) ⟨rfl, rfl⟩ dX4_tellNamedThing_40 ?_
  refine jr_iconst (pc := 42) h dX4_tellNamedThing_42 ?_
  refine jr_bipush (pc := 43) h dX4_tellNamedThing_43 bp_8 ?_
  refine iv_X4_100 (pc := 45) h hl hR dX4_tellNamedThing_45 ⟨(Nat.le_of_ble_eq_true rfl), (Nat.le_of_ble_eq_true rfl), (Nat.le_of_ble_eq_true rfl), (Nat.le_of_ble_eq_true rfl)⟩ (Nat.le_of_ble_eq_true rfl) (by assumption) (by omega) (s_X4_labelled (k := 1) (a := 1) (c := 8) E1 hby (by omega) (by omega) (by omega)) (fun v_45 n_45 M_45 hn_45 hp => ?_)
  obtain ⟨⟨hv, rfl⟩, E2, fx⟩ := hp
  subst hv
  have vb45 := lbP_b (bs := bs) (k := 1) (a := 1) (c := 8) (p := p) (by omega)
  have H1 := TF_te H1 E2 fx
  have f1 := fr_tr f1 (fr_mo fx (fun k hk => Or.inl hk))
  obtain ⟨E1, F1, hbf, htf⟩ := id H1
  obtain ⟨ht, hOt, X1, hPO, hsep⟩ := id E1
  obtain ⟨hnb, hOb, hYb, hNb, hSb, hKb⟩ := id X1
  obtain ⟨hfn, hFf, -⟩ := id F1
  refine iv_X4_104 (pc := 48) h hl hR dX4_tellNamedThing_48 ⟨(Nat.le_of_ble_eq_true rfl), (Nat.le_of_ble_eq_true rfl), (Nat.le_of_ble_eq_true rfl), (Nat.le_of_ble_eq_true rfl)⟩ (Nat.le_of_ble_eq_true rfl) (by assumption) (by omega) (s_X1_put F1 (by omega) (by omega) hct (by omega)) (fun v_48 n_48 M_48 hn_48 hp => ?_)
  obtain ⟨rfl, rfl, hM⟩ := hp
  have H1 := TF_td H1 hM (by omega) (fun q => by have cb := (F1.2.2.2.2.2.2.2.1 (Int.toNat 2)).1; unfold c_ix at q; omega)
  have f1 := fr_tr f1 (fr_up hM (Or.inr ⟨by omega, by omega⟩))
  obtain ⟨E1, F1, hbf, htf⟩ := id H1
  obtain ⟨ht, hOt, X1, hPO, hsep⟩ := id E1
  obtain ⟨hnb, hOb, hYb, hNb, hSb, hKb⟩ := id X1
  obtain ⟨hfn, hFf, -⟩ := id F1
  refine jr_aload_n (pc := 51) h dX4_tellNamedThing_51 rfl ?_
  refine jr_iconst (pc := 52) h dX4_tellNamedThing_52 ?_
  refine jr_iconst (pc := 53) h dX4_tellNamedThing_53 ?_
  refine jr_aload_n (pc := 54) h dX4_tellNamedThing_54 rfl ?_
  refine jr_ldcS (pc := 55) h 2 (by decide) ⟨rfl, rfl⟩ dX4_tellNamedThing_55 ?_
  refine jr_iconst (pc := 57) h dX4_tellNamedThing_57 ?_
  refine jr_bipush (pc := 58) h dX4_tellNamedThing_58 bp_99 ?_
  refine iv_X4_100 (pc := 60) h hl hR dX4_tellNamedThing_60 ⟨(Nat.le_of_ble_eq_true rfl), (Nat.le_of_ble_eq_true rfl), (Nat.le_of_ble_eq_true rfl), (Nat.le_of_ble_eq_true rfl)⟩ (Nat.le_of_ble_eq_true rfl) (by assumption) (by omega) (s_X4_labelled (k := 2) (a := 0) (c := 99) E1 hby (by omega) (by omega) (by omega)) (fun v_60 n_60 M_60 hn_60 hp => ?_)
  obtain ⟨⟨hv, rfl⟩, E2, fx⟩ := hp
  subst hv
  have vb60 := lbP_b (bs := bs) (k := 2) (a := 0) (c := 99) (p := (lbP bs 1 1 8 p).2) (by omega)
  have H1 := TF_te H1 E2 fx
  have f1 := fr_tr f1 (fr_mo fx (fun k hk => Or.inl hk))
  obtain ⟨E1, F1, hbf, htf⟩ := id H1
  obtain ⟨ht, hOt, X1, hPO, hsep⟩ := id E1
  obtain ⟨hnb, hOb, hYb, hNb, hSb, hKb⟩ := id X1
  obtain ⟨hfn, hFf, -⟩ := id F1
  refine iv_X4_104 (pc := 63) h hl hR dX4_tellNamedThing_63 ⟨(Nat.le_of_ble_eq_true rfl), (Nat.le_of_ble_eq_true rfl), (Nat.le_of_ble_eq_true rfl), (Nat.le_of_ble_eq_true rfl)⟩ (Nat.le_of_ble_eq_true rfl) (by assumption) (by omega) (s_X1_put F1 (by omega) (by omega) hct (by omega)) (fun v_63 n_63 M_63 hn_63 hp => ?_)
  obtain ⟨rfl, rfl, hM⟩ := hp
  have H1 := TF_td H1 hM (by omega) (fun q => by have cb := (F1.2.2.2.2.2.2.2.1 (Int.toNat 2)).1; unfold c_ix at q; omega)
  have f1 := fr_tr f1 (fr_up hM (Or.inr ⟨by omega, by omega⟩))
  obtain ⟨E1, F1, hbf, htf⟩ := id H1
  obtain ⟨ht, hOt, X1, hPO, hsep⟩ := id E1
  obtain ⟨hnb, hOb, hYb, hNb, hSb, hKb⟩ := id X1
  obtain ⟨hfn, hFf, -⟩ := id F1
  refine jr_goto (pc := 66) h 210 dX4_tellNamedThing_66 (by decide) ?_
  refine jr_vret (pc := 210) h hRt dX4_tellNamedThing_210 (Nat.le_of_ble_eq_true rfl) (Nat.le_of_ble_eq_true rfl) ?_
  exact ⟨⟨rfl, rfl⟩, H1, f1⟩
set_option maxHeartbeats 1000000 in
set_option maxRecDepth 20000 in
theorem s_X4_tellNamedThing_5 {l : Launch} {n : Nat} {M : jdM} {t b f : Nat} {bs : Nat → Int} {p : TS} {ct td bk si ld : Nat → Int} (H1 : TF M n t b f bs p ct td bk si ld) (hby : ∀ i, -128 ≤ bs i ∧ bs i < 128) (hct : ct 5 < 8) : Ct l yX4_tellNamedThing cX4_tellNamedThing 3 none rX4_tellNamedThing [.ref t, .ref f, jI 5] n M (fun vv n' M' => (vv = none ∧ n = n') ∧ TF M' n t b f bs ((lbP bs 6 8 40 (lbP bs 5 1 14 (trP bs ct td p).2).2).2) ct ((up (up (up td (c_ix ct 5 0) (trP bs ct td p).1) (c_ix ct 5 1) (lbP bs 5 1 14 (trP bs ct td p).2).1) (c_ix ct 5 2) (lbP bs 6 8 40 (lbP bs 5 1 14 (trP bs ct td p).2).2).1)) bk si ld ∧ fr (TlS b f) M M') := by
  refine Ct_of [some (.ref t), some (.ref f), some (jI 5)] (by decide) (Nat.le_of_ble_eq_true rfl) rfl (fun κ hl h hR hRt hmn hn0 => ?_)
  have h : Ok κ RX4 cX4_tellNamedThing 3 none := h
  obtain ⟨E1, F1, hbf, htf⟩ := id H1
  obtain ⟨ht, hOt, X1, hPO, hsep⟩ := id E1
  obtain ⟨hnb, hOb, hYb, hNb, hSb, hKb⟩ := id X1
  obtain ⟨hfn, hFf, -⟩ := id F1
  have f1 : fr (TlS b f) M M := fr_rf
  refine jr_iload_n (pc := 0) h dX4_tellNamedThing_0 rfl ?_
  refine jr_lookup (pc := 1) h (x := 5) (off := 68) 69 dX4_tellNamedThing_1 (by omega) (by decide) rfl rfl ?_
  refine jr_aload_n (pc := 69) h dX4_tellNamedThing_69 rfl ?_
  refine jr_iconst (pc := 70) h dX4_tellNamedThing_70 ?_
  refine jr_iconst (pc := 71) h dX4_tellNamedThing_71 ?_
  refine jr_aload_n (pc := 72) h dX4_tellNamedThing_72 rfl ?_
  refine jr_aload_n (pc := 73) h dX4_tellNamedThing_73 rfl ?_
  refine iv_X4_130 (pc := 74) h hl hR dX4_tellNamedThing_74 ⟨(Nat.le_of_ble_eq_true rfl), (Nat.le_of_ble_eq_true rfl), (Nat.le_of_ble_eq_true rfl), (Nat.le_of_ble_eq_true rfl)⟩ (Nat.le_of_ble_eq_true rfl) (by assumption) (by omega) (s_X4_trolleyEnd H1 hby) (fun v_74 n_74 M_74 hn_74 hp => ?_)
  obtain ⟨⟨hv, rfl⟩, X2, fx⟩ := hp
  subst hv
  have vb74 := trP_b (bs := bs) (ct := ct) (td := td) (p := p)
  have H1 := TF_tk H1 X2 fx (trP_O hPO)
  have f1 := fr_tr f1 (fr_mo fx (fun k hk => Or.inl hk))
  obtain ⟨E1, F1, hbf, htf⟩ := id H1
  obtain ⟨ht, hOt, X1, hPO, hsep⟩ := id E1
  obtain ⟨hnb, hOb, hYb, hNb, hSb, hKb⟩ := id X1
  obtain ⟨hfn, hFf, -⟩ := id F1
  refine iv_X4_104 (pc := 77) h hl hR dX4_tellNamedThing_77 ⟨(Nat.le_of_ble_eq_true rfl), (Nat.le_of_ble_eq_true rfl), (Nat.le_of_ble_eq_true rfl), (Nat.le_of_ble_eq_true rfl)⟩ (Nat.le_of_ble_eq_true rfl) (by assumption) (by omega) (s_X1_put F1 (by omega) (by omega) hct (by omega)) (fun v_77 n_77 M_77 hn_77 hp => ?_)
  obtain ⟨rfl, rfl, hM⟩ := hp
  have H1 := TF_td H1 hM (by omega) (fun q => by have cb := (F1.2.2.2.2.2.2.2.1 (Int.toNat 5)).1; unfold c_ix at q; omega)
  have f1 := fr_tr f1 (fr_up hM (Or.inr ⟨by omega, by omega⟩))
  obtain ⟨E1, F1, hbf, htf⟩ := id H1
  obtain ⟨ht, hOt, X1, hPO, hsep⟩ := id E1
  obtain ⟨hnb, hOb, hYb, hNb, hSb, hKb⟩ := id X1
  obtain ⟨hfn, hFf, -⟩ := id F1
  refine jr_aload_n (pc := 80) h dX4_tellNamedThing_80 rfl ?_
  refine jr_iconst (pc := 81) h dX4_tellNamedThing_81 ?_
  refine jr_iconst (pc := 82) h dX4_tellNamedThing_82 ?_
  refine jr_aload_n (pc := 83) h dX4_tellNamedThing_83 rfl ?_
  refine jr_ldcS (pc := 84) h 5 (by decide) ⟨rfl, rfl⟩ dX4_tellNamedThing_84 ?_
  refine jr_iconst (pc := 86) h dX4_tellNamedThing_86 ?_
  refine jr_bipush (pc := 87) h dX4_tellNamedThing_87 bp_14 ?_
  refine iv_X4_100 (pc := 89) h hl hR dX4_tellNamedThing_89 ⟨(Nat.le_of_ble_eq_true rfl), (Nat.le_of_ble_eq_true rfl), (Nat.le_of_ble_eq_true rfl), (Nat.le_of_ble_eq_true rfl)⟩ (Nat.le_of_ble_eq_true rfl) (by assumption) (by omega) (s_X4_labelled (k := 5) (a := 1) (c := 14) E1 hby (by omega) (by omega) (by omega)) (fun v_89 n_89 M_89 hn_89 hp => ?_)
  obtain ⟨⟨hv, rfl⟩, E2, fx⟩ := hp
  subst hv
  have vb89 := lbP_b (bs := bs) (k := 5) (a := 1) (c := 14) (p := (trP bs ct td p).2) (by omega)
  have H1 := TF_te H1 E2 fx
  have f1 := fr_tr f1 (fr_mo fx (fun k hk => Or.inl hk))
  obtain ⟨E1, F1, hbf, htf⟩ := id H1
  obtain ⟨ht, hOt, X1, hPO, hsep⟩ := id E1
  obtain ⟨hnb, hOb, hYb, hNb, hSb, hKb⟩ := id X1
  obtain ⟨hfn, hFf, -⟩ := id F1
  refine iv_X4_104 (pc := 92) h hl hR dX4_tellNamedThing_92 ⟨(Nat.le_of_ble_eq_true rfl), (Nat.le_of_ble_eq_true rfl), (Nat.le_of_ble_eq_true rfl), (Nat.le_of_ble_eq_true rfl)⟩ (Nat.le_of_ble_eq_true rfl) (by assumption) (by omega) (s_X1_put F1 (by omega) (by omega) hct (by omega)) (fun v_92 n_92 M_92 hn_92 hp => ?_)
  obtain ⟨rfl, rfl, hM⟩ := hp
  have H1 := TF_td H1 hM (by omega) (fun q => by have cb := (F1.2.2.2.2.2.2.2.1 (Int.toNat 5)).1; unfold c_ix at q; omega)
  have f1 := fr_tr f1 (fr_up hM (Or.inr ⟨by omega, by omega⟩))
  obtain ⟨E1, F1, hbf, htf⟩ := id H1
  obtain ⟨ht, hOt, X1, hPO, hsep⟩ := id E1
  obtain ⟨hnb, hOb, hYb, hNb, hSb, hKb⟩ := id X1
  obtain ⟨hfn, hFf, -⟩ := id F1
  refine jr_aload_n (pc := 95) h dX4_tellNamedThing_95 rfl ?_
  refine jr_iconst (pc := 96) h dX4_tellNamedThing_96 ?_
  refine jr_iconst (pc := 97) h dX4_tellNamedThing_97 ?_
  refine jr_aload_n (pc := 98) h dX4_tellNamedThing_98 rfl ?_
  refine jr_ldcS (pc := 99) h 6 (by decide) ⟨rfl, rfl⟩ dX4_tellNamedThing_99 ?_
  refine jr_bipush (pc := 101) h dX4_tellNamedThing_101 bp_8 ?_
  refine jr_bipush (pc := 103) h dX4_tellNamedThing_103 bp_40 ?_
  refine iv_X4_100 (pc := 105) h hl hR dX4_tellNamedThing_105 ⟨(Nat.le_of_ble_eq_true rfl), (Nat.le_of_ble_eq_true rfl), (Nat.le_of_ble_eq_true rfl), (Nat.le_of_ble_eq_true rfl)⟩ (Nat.le_of_ble_eq_true rfl) (by assumption) (by omega) (s_X4_labelled (k := 6) (a := 8) (c := 40) E1 hby (by omega) (by omega) (by omega)) (fun v_105 n_105 M_105 hn_105 hp => ?_)
  obtain ⟨⟨hv, rfl⟩, E2, fx⟩ := hp
  subst hv
  have vb105 := lbP_b (bs := bs) (k := 6) (a := 8) (c := 40) (p := (lbP bs 5 1 14 (trP bs ct td p).2).2) (by omega)
  have H1 := TF_te H1 E2 fx
  have f1 := fr_tr f1 (fr_mo fx (fun k hk => Or.inl hk))
  obtain ⟨E1, F1, hbf, htf⟩ := id H1
  obtain ⟨ht, hOt, X1, hPO, hsep⟩ := id E1
  obtain ⟨hnb, hOb, hYb, hNb, hSb, hKb⟩ := id X1
  obtain ⟨hfn, hFf, -⟩ := id F1
  refine iv_X4_104 (pc := 108) h hl hR dX4_tellNamedThing_108 ⟨(Nat.le_of_ble_eq_true rfl), (Nat.le_of_ble_eq_true rfl), (Nat.le_of_ble_eq_true rfl), (Nat.le_of_ble_eq_true rfl)⟩ (Nat.le_of_ble_eq_true rfl) (by assumption) (by omega) (s_X1_put F1 (by omega) (by omega) hct (by omega)) (fun v_108 n_108 M_108 hn_108 hp => ?_)
  obtain ⟨rfl, rfl, hM⟩ := hp
  have H1 := TF_td H1 hM (by omega) (fun q => by have cb := (F1.2.2.2.2.2.2.2.1 (Int.toNat 5)).1; unfold c_ix at q; omega)
  have f1 := fr_tr f1 (fr_up hM (Or.inr ⟨by omega, by omega⟩))
  obtain ⟨E1, F1, hbf, htf⟩ := id H1
  obtain ⟨ht, hOt, X1, hPO, hsep⟩ := id E1
  obtain ⟨hnb, hOb, hYb, hNb, hSb, hKb⟩ := id X1
  obtain ⟨hfn, hFf, -⟩ := id F1
  refine jr_goto (pc := 111) h 210 dX4_tellNamedThing_111 (by decide) ?_
  refine jr_vret (pc := 210) h hRt dX4_tellNamedThing_210 (Nat.le_of_ble_eq_true rfl) (Nat.le_of_ble_eq_true rfl) ?_
  exact ⟨⟨rfl, rfl⟩, H1, f1⟩
set_option maxHeartbeats 1000000 in
set_option maxRecDepth 20000 in
theorem s_X4_tellNamedThing_12 {l : Launch} {n : Nat} {M : jdM} {t b f : Nat} {bs : Nat → Int} {p : TS} {ct td bk si ld : Nat → Int} (H1 : TF M n t b f bs p ct td bk si ld) (hby : ∀ i, -128 ≤ bs i ∧ bs i < 128) (hct : ct 12 < 8) : Ct l yX4_tellNamedThing cX4_tellNamedThing 3 none rX4_tellNamedThing [.ref t, .ref f, jI 12] n M (fun vv n' M' => (vv = none ∧ n = n') ∧ TF M' n t b f bs ((lbP bs 10 1 99 p).2) ct ((up td (c_ix ct 12 0) (lbP bs 10 1 99 p).1)) bk si ld ∧ fr (TlS b f) M M') := by
  refine Ct_of [some (.ref t), some (.ref f), some (jI 12)] (by decide) (Nat.le_of_ble_eq_true rfl) rfl (fun κ hl h hR hRt hmn hn0 => ?_)
  have h : Ok κ RX4 cX4_tellNamedThing 3 none := h
  obtain ⟨E1, F1, hbf, htf⟩ := id H1
  obtain ⟨ht, hOt, X1, hPO, hsep⟩ := id E1
  obtain ⟨hnb, hOb, hYb, hNb, hSb, hKb⟩ := id X1
  obtain ⟨hfn, hFf, -⟩ := id F1
  have f1 : fr (TlS b f) M M := fr_rf
  refine jr_iload_n (pc := 0) h dX4_tellNamedThing_0 rfl ?_
  refine jr_lookup (pc := 1) h (x := 12) (off := 193) 194 dX4_tellNamedThing_1 (by omega) (by decide) rfl rfl ?_
  refine jr_aload_n (pc := 194) h dX4_tellNamedThing_194 rfl ?_
  refine jr_bipush (pc := 195) h dX4_tellNamedThing_195 bp_12 ?_
  refine jr_iconst (pc := 197) h dX4_tellNamedThing_197 ?_
  refine jr_aload_n (pc := 198) h dX4_tellNamedThing_198 rfl ?_
  refine jr_ldcS (pc := 199) h 10 (by decide) ⟨rfl, rfl⟩ dX4_tellNamedThing_199 ?_
  refine jr_iconst (pc := 201) h dX4_tellNamedThing_201 ?_
  refine jr_bipush (pc := 202) h dX4_tellNamedThing_202 bp_99 ?_
  refine iv_X4_100 (pc := 204) h hl hR dX4_tellNamedThing_204 ⟨(Nat.le_of_ble_eq_true rfl), (Nat.le_of_ble_eq_true rfl), (Nat.le_of_ble_eq_true rfl), (Nat.le_of_ble_eq_true rfl)⟩ (Nat.le_of_ble_eq_true rfl) (by assumption) (by omega) (s_X4_labelled (k := 10) (a := 1) (c := 99) E1 hby (by omega) (by omega) (by omega)) (fun v_204 n_204 M_204 hn_204 hp => ?_)
  obtain ⟨⟨hv, rfl⟩, E2, fx⟩ := hp
  subst hv
  have vb204 := lbP_b (bs := bs) (k := 10) (a := 1) (c := 99) (p := p) (by omega)
  have H1 := TF_te H1 E2 fx
  have f1 := fr_tr f1 (fr_mo fx (fun k hk => Or.inl hk))
  obtain ⟨E1, F1, hbf, htf⟩ := id H1
  obtain ⟨ht, hOt, X1, hPO, hsep⟩ := id E1
  obtain ⟨hnb, hOb, hYb, hNb, hSb, hKb⟩ := id X1
  obtain ⟨hfn, hFf, -⟩ := id F1
  refine iv_X4_104 (pc := 207) h hl hR dX4_tellNamedThing_207 ⟨(Nat.le_of_ble_eq_true rfl), (Nat.le_of_ble_eq_true rfl), (Nat.le_of_ble_eq_true rfl), (Nat.le_of_ble_eq_true rfl)⟩ (Nat.le_of_ble_eq_true rfl) (by assumption) (by omega) (s_X1_put F1 (by omega) (by omega) hct (by omega)) (fun v_207 n_207 M_207 hn_207 hp => ?_)
  obtain ⟨rfl, rfl, hM⟩ := hp
  have H1 := TF_td H1 hM (by omega) (fun q => by have cb := (F1.2.2.2.2.2.2.2.1 (Int.toNat 12)).1; unfold c_ix at q; omega)
  have f1 := fr_tr f1 (fr_up hM (Or.inr ⟨by omega, by omega⟩))
  obtain ⟨E1, F1, hbf, htf⟩ := id H1
  obtain ⟨ht, hOt, X1, hPO, hsep⟩ := id E1
  obtain ⟨hnb, hOb, hYb, hNb, hSb, hKb⟩ := id X1
  obtain ⟨hfn, hFf, -⟩ := id F1
  refine jr_vret (pc := 210) h hRt dX4_tellNamedThing_210 (Nat.le_of_ble_eq_true rfl) (Nat.le_of_ble_eq_true rfl) ?_
  exact ⟨⟨rfl, rfl⟩, H1, f1⟩
set_option maxHeartbeats 1000000 in
set_option maxRecDepth 20000 in
theorem s_X4_tellOfNames_3 {l : Launch} {n : Nat} {M : jdM} {t b f : Nat} {bs : Nat → Int} {p : TS} {ct td bk si ld : Nat → Int} (H1 : TF M n t b f bs p ct td bk si ld) (hby : ∀ i, -128 ≤ bs i ∧ bs i < 128) (hct : ct 3 < 8) : Ct l yX4_tellOfNames cX4_tellOfNames 4 none rX4_tellOfNames [.ref t, .ref f, jI 3] n M (fun vv n' M' => (vv = none ∧ n = n') ∧ TF M' n t b f bs ((lbP bs 11 0 300 (enP bs 2 p).2).2) ct ((up (up td (c_ix ct 3 0) (enP bs 2 p).1) (c_ix ct 3 1) (lbP bs 11 0 300 (enP bs 2 p).2).1)) bk si ld ∧ fr (TlS b f) M M') := by
  refine Ct_of [some (.ref t), some (.ref f), some (jI 3), none] (by decide) (Nat.le_of_ble_eq_true rfl) rfl (fun κ hl h hR hRt hmn hn0 => ?_)
  have h : Ok κ RX4 cX4_tellOfNames 4 none := h
  obtain ⟨E1, F1, hbf, htf⟩ := id H1
  obtain ⟨ht, hOt, X1, hPO, hsep⟩ := id E1
  obtain ⟨hnb, hOb, hYb, hNb, hSb, hKb⟩ := id X1
  obtain ⟨hfn, hFf, -⟩ := id F1
  have f1 : fr (TlS b f) M M := fr_rf
  refine jr_iload_n (pc := 0) h dX4_tellOfNames_0 rfl ?_
  refine jr_lookup (pc := 1) h (x := 3) (off := 27) 28 dX4_tellOfNames_1 (by omega) (by decide) rfl rfl ?_
  refine jr_aload_n (pc := 28) h dX4_tellOfNames_28 rfl ?_
  refine jr_iconst (pc := 29) h dX4_tellOfNames_29 ?_
  refine jr_iconst (pc := 30) h dX4_tellOfNames_30 ?_
  refine jr_aload_n (pc := 31) h dX4_tellOfNames_31 rfl ?_
  refine gf_X4_12 (pc := 32) h dX4_tellOfNames_32 (by assumption) (by omega) ?_
  refine jr_iconst (pc := 35) h dX4_tellOfNames_35 ?_
  refine iv_X4_146 (pc := 36) h hl hR dX4_tellOfNames_36 ⟨(Nat.le_of_ble_eq_true rfl), (Nat.le_of_ble_eq_true rfl), (Nat.le_of_ble_eq_true rfl), (Nat.le_of_ble_eq_true rfl)⟩ (Nat.le_of_ble_eq_true rfl) (by assumption) (by omega) (s_X6_expectName (a := 2) X1 hPO hby (by omega)) (fun v_36 n_36 M_36 hn_36 hp => ?_)
  obtain ⟨⟨hv, rfl⟩, X2, fx⟩ := hp
  subst hv
  have vb36 := enP_b (bs := bs) (s := 2) hPO
  have H1 := TF_tk H1 X2 fx (enP_O hPO)
  have f1 := fr_tr f1 (fr_mo fx (fun k hk => Or.inl hk))
  obtain ⟨E1, F1, hbf, htf⟩ := id H1
  obtain ⟨ht, hOt, X1, hPO, hsep⟩ := id E1
  obtain ⟨hnb, hOb, hYb, hNb, hSb, hKb⟩ := id X1
  obtain ⟨hfn, hFf, -⟩ := id F1
  refine iv_X4_104 (pc := 39) h hl hR dX4_tellOfNames_39 ⟨(Nat.le_of_ble_eq_true rfl), (Nat.le_of_ble_eq_true rfl), (Nat.le_of_ble_eq_true rfl), (Nat.le_of_ble_eq_true rfl)⟩ (Nat.le_of_ble_eq_true rfl) (by assumption) (by omega) (s_X1_put F1 (by omega) (by omega) hct (by omega)) (fun v_39 n_39 M_39 hn_39 hp => ?_)
  obtain ⟨rfl, rfl, hM⟩ := hp
  have H1 := TF_td H1 hM (by omega) (fun q => by have cb := (F1.2.2.2.2.2.2.2.1 (Int.toNat 3)).1; unfold c_ix at q; omega)
  have f1 := fr_tr f1 (fr_up hM (Or.inr ⟨by omega, by omega⟩))
  obtain ⟨E1, F1, hbf, htf⟩ := id H1
  obtain ⟨ht, hOt, X1, hPO, hsep⟩ := id E1
  obtain ⟨hnb, hOb, hYb, hNb, hSb, hKb⟩ := id X1
  obtain ⟨hfn, hFf, -⟩ := id F1
  refine jr_aload_n (pc := 42) h dX4_tellOfNames_42 rfl ?_
  refine jr_iconst (pc := 43) h dX4_tellOfNames_43 ?_
  refine jr_iconst (pc := 44) h dX4_tellOfNames_44 ?_
  refine jr_aload_n (pc := 45) h dX4_tellOfNames_45 rfl ?_
  refine jr_ldcS (pc := 46) h 11 (by decide) ⟨rfl, rfl⟩ dX4_tellOfNames_46 ?_
  refine jr_iconst (pc := 48) h dX4_tellOfNames_48 ?_
  refine jr_sipush (pc := 49) h dX4_tellOfNames_49 sp_300 ?_
  refine iv_X4_100 (pc := 52) h hl hR dX4_tellOfNames_52 ⟨(Nat.le_of_ble_eq_true rfl), (Nat.le_of_ble_eq_true rfl), (Nat.le_of_ble_eq_true rfl), (Nat.le_of_ble_eq_true rfl)⟩ (Nat.le_of_ble_eq_true rfl) (by assumption) (by omega) (s_X4_labelled (k := 11) (a := 0) (c := 300) E1 hby (by omega) (by omega) (by omega)) (fun v_52 n_52 M_52 hn_52 hp => ?_)
  obtain ⟨⟨hv, rfl⟩, E2, fx⟩ := hp
  subst hv
  have vb52 := lbP_b (bs := bs) (k := 11) (a := 0) (c := 300) (p := (enP bs 2 p).2) (by omega)
  have H1 := TF_te H1 E2 fx
  have f1 := fr_tr f1 (fr_mo fx (fun k hk => Or.inl hk))
  obtain ⟨E1, F1, hbf, htf⟩ := id H1
  obtain ⟨ht, hOt, X1, hPO, hsep⟩ := id E1
  obtain ⟨hnb, hOb, hYb, hNb, hSb, hKb⟩ := id X1
  obtain ⟨hfn, hFf, -⟩ := id F1
  refine iv_X4_104 (pc := 55) h hl hR dX4_tellOfNames_55 ⟨(Nat.le_of_ble_eq_true rfl), (Nat.le_of_ble_eq_true rfl), (Nat.le_of_ble_eq_true rfl), (Nat.le_of_ble_eq_true rfl)⟩ (Nat.le_of_ble_eq_true rfl) (by assumption) (by omega) (s_X1_put F1 (by omega) (by omega) hct (by omega)) (fun v_55 n_55 M_55 hn_55 hp => ?_)
  obtain ⟨rfl, rfl, hM⟩ := hp
  have H1 := TF_td H1 hM (by omega) (fun q => by have cb := (F1.2.2.2.2.2.2.2.1 (Int.toNat 3)).1; unfold c_ix at q; omega)
  have f1 := fr_tr f1 (fr_up hM (Or.inr ⟨by omega, by omega⟩))
  obtain ⟨E1, F1, hbf, htf⟩ := id H1
  obtain ⟨ht, hOt, X1, hPO, hsep⟩ := id E1
  obtain ⟨hnb, hOb, hYb, hNb, hSb, hKb⟩ := id X1
  obtain ⟨hfn, hFf, -⟩ := id F1
  refine jr_goto (pc := 58) h 163 dX4_tellOfNames_58 (by decide) ?_
  refine jr_vret (pc := 163) h hRt dX4_tellOfNames_163 (Nat.le_of_ble_eq_true rfl) (Nat.le_of_ble_eq_true rfl) ?_
  exact ⟨⟨rfl, rfl⟩, H1, f1⟩
set_option maxHeartbeats 1000000 in
set_option maxRecDepth 20000 in
theorem s_X4_tellOfNames_4 {l : Launch} {n : Nat} {M : jdM} {t b f : Nat} {bs : Nat → Int} {p : TS} {ct td bk si ld : Nat → Int} (H1 : TF M n t b f bs p ct td bk si ld) (hby : ∀ i, -128 ≤ bs i ∧ bs i < 128) (hct : ct 4 < 8) : Ct l yX4_tellOfNames cX4_tellOfNames 4 none rX4_tellOfNames [.ref t, .ref f, jI 4] n M (fun vv n' M' => (vv = none ∧ n = n') ∧ TF M' n t b f bs ((lbP bs 12 (max 1 (ehP bs 0 999 (enP bs 2 p).2).1) 999 (ehP bs 0 999 (enP bs 2 p).2).2).2) ct ((up (up (up td (c_ix ct 4 0) (enP bs 2 p).1) (c_ix ct 4 1) (ehP bs 0 999 (enP bs 2 p).2).1) (c_ix ct 4 2) (lbP bs 12 (max 1 (ehP bs 0 999 (enP bs 2 p).2).1) 999 (ehP bs 0 999 (enP bs 2 p).2).2).1)) bk si ld ∧ fr (TlS b f) M M') := by
  refine Ct_of [some (.ref t), some (.ref f), some (jI 4), none] (by decide) (Nat.le_of_ble_eq_true rfl) rfl (fun κ hl h hR hRt hmn hn0 => ?_)
  have h : Ok κ RX4 cX4_tellOfNames 4 none := h
  obtain ⟨E1, F1, hbf, htf⟩ := id H1
  obtain ⟨ht, hOt, X1, hPO, hsep⟩ := id E1
  obtain ⟨hnb, hOb, hYb, hNb, hSb, hKb⟩ := id X1
  obtain ⟨hfn, hFf, -⟩ := id F1
  have f1 : fr (TlS b f) M M := fr_rf
  refine jr_iload_n (pc := 0) h dX4_tellOfNames_0 rfl ?_
  refine jr_lookup (pc := 1) h (x := 4) (off := 60) 61 dX4_tellOfNames_1 (by omega) (by decide) rfl rfl ?_
  refine jr_aload_n (pc := 61) h dX4_tellOfNames_61 rfl ?_
  refine jr_iconst (pc := 62) h dX4_tellOfNames_62 ?_
  refine jr_iconst (pc := 63) h dX4_tellOfNames_63 ?_
  refine jr_aload_n (pc := 64) h dX4_tellOfNames_64 rfl ?_
  refine gf_X4_12 (pc := 65) h dX4_tellOfNames_65 (by assumption) (by omega) ?_
  refine jr_iconst (pc := 68) h dX4_tellOfNames_68 ?_
  refine iv_X4_146 (pc := 69) h hl hR dX4_tellOfNames_69 ⟨(Nat.le_of_ble_eq_true rfl), (Nat.le_of_ble_eq_true rfl), (Nat.le_of_ble_eq_true rfl), (Nat.le_of_ble_eq_true rfl)⟩ (Nat.le_of_ble_eq_true rfl) (by assumption) (by omega) (s_X6_expectName (a := 2) X1 hPO hby (by omega)) (fun v_69 n_69 M_69 hn_69 hp => ?_)
  obtain ⟨⟨hv, rfl⟩, X2, fx⟩ := hp
  subst hv
  have vb69 := enP_b (bs := bs) (s := 2) hPO
  have H1 := TF_tk H1 X2 fx (enP_O hPO)
  have f1 := fr_tr f1 (fr_mo fx (fun k hk => Or.inl hk))
  obtain ⟨E1, F1, hbf, htf⟩ := id H1
  obtain ⟨ht, hOt, X1, hPO, hsep⟩ := id E1
  obtain ⟨hnb, hOb, hYb, hNb, hSb, hKb⟩ := id X1
  obtain ⟨hfn, hFf, -⟩ := id F1
  refine iv_X4_104 (pc := 72) h hl hR dX4_tellOfNames_72 ⟨(Nat.le_of_ble_eq_true rfl), (Nat.le_of_ble_eq_true rfl), (Nat.le_of_ble_eq_true rfl), (Nat.le_of_ble_eq_true rfl)⟩ (Nat.le_of_ble_eq_true rfl) (by assumption) (by omega) (s_X1_put F1 (by omega) (by omega) hct (by omega)) (fun v_72 n_72 M_72 hn_72 hp => ?_)
  obtain ⟨rfl, rfl, hM⟩ := hp
  have H1 := TF_td H1 hM (by omega) (fun q => by have cb := (F1.2.2.2.2.2.2.2.1 (Int.toNat 4)).1; unfold c_ix at q; omega)
  have f1 := fr_tr f1 (fr_up hM (Or.inr ⟨by omega, by omega⟩))
  obtain ⟨E1, F1, hbf, htf⟩ := id H1
  obtain ⟨ht, hOt, X1, hPO, hsep⟩ := id E1
  obtain ⟨hnb, hOb, hYb, hNb, hSb, hKb⟩ := id X1
  obtain ⟨hfn, hFf, -⟩ := id F1
  refine jr_aload_n (pc := 75) h dX4_tellOfNames_75 rfl ?_
  refine gf_X4_12 (pc := 76) h dX4_tellOfNames_76 (by assumption) (by omega) ?_
  refine jr_iconst (pc := 79) h dX4_tellOfNames_79 ?_
  refine jr_sipush (pc := 80) h dX4_tellOfNames_80 sp_999 ?_
  refine iv_X4_116 (pc := 83) h hl hR dX4_tellOfNames_83 ⟨(Nat.le_of_ble_eq_true rfl), (Nat.le_of_ble_eq_true rfl), (Nat.le_of_ble_eq_true rfl), (Nat.le_of_ble_eq_true rfl)⟩ (Nat.le_of_ble_eq_true rfl) (by assumption) (by omega) (s_X6_expectWhole (a := 0) (c := 999) X1 hPO hby (by omega) (by omega)) (fun v_83 n_83 M_83 hn_83 hp => ?_)
  obtain ⟨⟨hv, rfl⟩, X2, fx⟩ := hp
  subst hv
  have vb83 := ehP_b (bs := bs) (a := 0) (c := 999) (p := (enP bs 2 p).2) (by omega)
  have H1 := TF_tk H1 X2 fx (ehP_O hPO)
  have f1 := fr_tr f1 (fr_mo fx (fun k hk => Or.inl hk))
  obtain ⟨E1, F1, hbf, htf⟩ := id H1
  obtain ⟨ht, hOt, X1, hPO, hsep⟩ := id E1
  obtain ⟨hnb, hOb, hYb, hNb, hSb, hKb⟩ := id X1
  obtain ⟨hfn, hFf, -⟩ := id F1
  refine jr_istore_n (pc := 86) h [_, _, _, _] dX4_tellOfNames_86 (by decide) rfl ?_
  refine jr_aload_n (pc := 87) h dX4_tellOfNames_87 rfl ?_
  refine jr_iconst (pc := 88) h dX4_tellOfNames_88 ?_
  refine jr_iconst (pc := 89) h dX4_tellOfNames_89 ?_
  refine jr_iload_n (pc := 90) h dX4_tellOfNames_90 rfl ?_
  refine iv_X4_104 (pc := 91) h hl hR dX4_tellOfNames_91 ⟨(Nat.le_of_ble_eq_true rfl), (Nat.le_of_ble_eq_true rfl), (Nat.le_of_ble_eq_true rfl), (Nat.le_of_ble_eq_true rfl)⟩ (Nat.le_of_ble_eq_true rfl) (by assumption) (by omega) (s_X1_put F1 (by omega) (by omega) hct (by omega)) (fun v_91 n_91 M_91 hn_91 hp => ?_)
  obtain ⟨rfl, rfl, hM⟩ := hp
  have H1 := TF_td H1 hM (by omega) (fun q => by have cb := (F1.2.2.2.2.2.2.2.1 (Int.toNat 4)).1; unfold c_ix at q; omega)
  have f1 := fr_tr f1 (fr_up hM (Or.inr ⟨by omega, by omega⟩))
  obtain ⟨E1, F1, hbf, htf⟩ := id H1
  obtain ⟨ht, hOt, X1, hPO, hsep⟩ := id E1
  obtain ⟨hnb, hOb, hYb, hNb, hSb, hKb⟩ := id X1
  obtain ⟨hfn, hFf, -⟩ := id F1
  refine jr_aload_n (pc := 94) h dX4_tellOfNames_94 rfl ?_
  refine jr_iconst (pc := 95) h dX4_tellOfNames_95 ?_
  refine jr_iconst (pc := 96) h dX4_tellOfNames_96 ?_
  refine jr_aload_n (pc := 97) h dX4_tellOfNames_97 rfl ?_
  refine jr_ldcS (pc := 98) h 12 (by decide) ⟨rfl, rfl⟩ dX4_tellOfNames_98 ?_
  refine jr_iconst (pc := 100) h dX4_tellOfNames_100 ?_
  refine jr_iload_n (pc := 101) h dX4_tellOfNames_101 rfl ?_
  refine im_X4_159 (pc := 102) h hR dX4_tellOfNames_102 ⟨(Nat.le_of_ble_eq_true rfl), (Nat.le_of_ble_eq_true rfl), (Nat.le_of_ble_eq_true rfl), (Nat.le_of_ble_eq_true rfl)⟩ (by omega) (by omega) ?_
  refine jr_sipush (pc := 105) h dX4_tellOfNames_105 sp_999 ?_
  refine iv_X4_100 (pc := 108) h hl hR dX4_tellOfNames_108 ⟨(Nat.le_of_ble_eq_true rfl), (Nat.le_of_ble_eq_true rfl), (Nat.le_of_ble_eq_true rfl), (Nat.le_of_ble_eq_true rfl)⟩ (Nat.le_of_ble_eq_true rfl) (by assumption) (by omega) (s_X4_labelled (k := 12) (a := (max 1 (ehP bs 0 999 (enP bs 2 p).2).1)) (c := 999) E1 hby (by omega) (by omega) (by omega)) (fun v_108 n_108 M_108 hn_108 hp => ?_)
  obtain ⟨⟨hv, rfl⟩, E2, fx⟩ := hp
  subst hv
  have vb108 := lbP_b (bs := bs) (k := 12) (a := (max 1 (ehP bs 0 999 (enP bs 2 p).2).1)) (c := 999) (p := (ehP bs 0 999 (enP bs 2 p).2).2) (by omega)
  have H1 := TF_te H1 E2 fx
  have f1 := fr_tr f1 (fr_mo fx (fun k hk => Or.inl hk))
  obtain ⟨E1, F1, hbf, htf⟩ := id H1
  obtain ⟨ht, hOt, X1, hPO, hsep⟩ := id E1
  obtain ⟨hnb, hOb, hYb, hNb, hSb, hKb⟩ := id X1
  obtain ⟨hfn, hFf, -⟩ := id F1
  refine iv_X4_104 (pc := 111) h hl hR dX4_tellOfNames_111 ⟨(Nat.le_of_ble_eq_true rfl), (Nat.le_of_ble_eq_true rfl), (Nat.le_of_ble_eq_true rfl), (Nat.le_of_ble_eq_true rfl)⟩ (Nat.le_of_ble_eq_true rfl) (by assumption) (by omega) (s_X1_put F1 (by omega) (by omega) hct (by omega)) (fun v_111 n_111 M_111 hn_111 hp => ?_)
  obtain ⟨rfl, rfl, hM⟩ := hp
  have H1 := TF_td H1 hM (by omega) (fun q => by have cb := (F1.2.2.2.2.2.2.2.1 (Int.toNat 4)).1; unfold c_ix at q; omega)
  have f1 := fr_tr f1 (fr_up hM (Or.inr ⟨by omega, by omega⟩))
  obtain ⟨E1, F1, hbf, htf⟩ := id H1
  obtain ⟨ht, hOt, X1, hPO, hsep⟩ := id E1
  obtain ⟨hnb, hOb, hYb, hNb, hSb, hKb⟩ := id X1
  obtain ⟨hfn, hFf, -⟩ := id F1
  refine jr_goto (pc := 114) h 163 dX4_tellOfNames_114 (by decide) ?_
  refine jr_vret (pc := 163) h hRt dX4_tellOfNames_163 (Nat.le_of_ble_eq_true rfl) (Nat.le_of_ble_eq_true rfl) ?_
  exact ⟨⟨rfl, rfl⟩, H1, f1⟩
set_option maxHeartbeats 1000000 in
set_option maxRecDepth 20000 in
theorem s_X4_tellOfNames_6 {l : Launch} {n : Nat} {M : jdM} {t b f : Nat} {bs : Nat → Int} {p : TS} {ct td bk si ld : Nat → Int} (H1 : TF M n t b f bs p ct td bk si ld) (hby : ∀ i, -128 ≤ bs i ∧ bs i < 128) (hct : ct 6 < 8) : Ct l yX4_tellOfNames cX4_tellOfNames 4 none rX4_tellOfNames [.ref t, .ref f, jI 6] n M (fun vv n' M' => (vv = none ∧ n = n') ∧ TF M' n t b f bs ((lbP bs 13 1 99 (enP bs 2 (enP bs 5 p).2).2).2) ct ((up (up (up td (c_ix ct 6 0) (enP bs 5 p).1) (c_ix ct 6 1) (enP bs 2 (enP bs 5 p).2).1) (c_ix ct 6 2) (lbP bs 13 1 99 (enP bs 2 (enP bs 5 p).2).2).1)) bk si ld ∧ fr (TlS b f) M M') := by
  refine Ct_of [some (.ref t), some (.ref f), some (jI 6), none] (by decide) (Nat.le_of_ble_eq_true rfl) rfl (fun κ hl h hR hRt hmn hn0 => ?_)
  have h : Ok κ RX4 cX4_tellOfNames 4 none := h
  obtain ⟨E1, F1, hbf, htf⟩ := id H1
  obtain ⟨ht, hOt, X1, hPO, hsep⟩ := id E1
  obtain ⟨hnb, hOb, hYb, hNb, hSb, hKb⟩ := id X1
  obtain ⟨hfn, hFf, -⟩ := id F1
  have f1 : fr (TlS b f) M M := fr_rf
  refine jr_iload_n (pc := 0) h dX4_tellOfNames_0 rfl ?_
  refine jr_lookup (pc := 1) h (x := 6) (off := 116) 117 dX4_tellOfNames_1 (by omega) (by decide) rfl rfl ?_
  refine jr_aload_n (pc := 117) h dX4_tellOfNames_117 rfl ?_
  refine jr_bipush (pc := 118) h dX4_tellOfNames_118 bp_6 ?_
  refine jr_iconst (pc := 120) h dX4_tellOfNames_120 ?_
  refine jr_aload_n (pc := 121) h dX4_tellOfNames_121 rfl ?_
  refine gf_X4_12 (pc := 122) h dX4_tellOfNames_122 (by assumption) (by omega) ?_
  refine jr_iconst (pc := 125) h dX4_tellOfNames_125 ?_
  refine iv_X4_146 (pc := 126) h hl hR dX4_tellOfNames_126 ⟨(Nat.le_of_ble_eq_true rfl), (Nat.le_of_ble_eq_true rfl), (Nat.le_of_ble_eq_true rfl), (Nat.le_of_ble_eq_true rfl)⟩ (Nat.le_of_ble_eq_true rfl) (by assumption) (by omega) (s_X6_expectName (a := 5) X1 hPO hby (by omega)) (fun v_126 n_126 M_126 hn_126 hp => ?_)
  obtain ⟨⟨hv, rfl⟩, X2, fx⟩ := hp
  subst hv
  have vb126 := enP_b (bs := bs) (s := 5) hPO
  have H1 := TF_tk H1 X2 fx (enP_O hPO)
  have f1 := fr_tr f1 (fr_mo fx (fun k hk => Or.inl hk))
  obtain ⟨E1, F1, hbf, htf⟩ := id H1
  obtain ⟨ht, hOt, X1, hPO, hsep⟩ := id E1
  obtain ⟨hnb, hOb, hYb, hNb, hSb, hKb⟩ := id X1
  obtain ⟨hfn, hFf, -⟩ := id F1
  refine iv_X4_104 (pc := 129) h hl hR dX4_tellOfNames_129 ⟨(Nat.le_of_ble_eq_true rfl), (Nat.le_of_ble_eq_true rfl), (Nat.le_of_ble_eq_true rfl), (Nat.le_of_ble_eq_true rfl)⟩ (Nat.le_of_ble_eq_true rfl) (by assumption) (by omega) (s_X1_put F1 (by omega) (by omega) hct (by omega)) (fun v_129 n_129 M_129 hn_129 hp => ?_)
  obtain ⟨rfl, rfl, hM⟩ := hp
  have H1 := TF_td H1 hM (by omega) (fun q => by have cb := (F1.2.2.2.2.2.2.2.1 (Int.toNat 6)).1; unfold c_ix at q; omega)
  have f1 := fr_tr f1 (fr_up hM (Or.inr ⟨by omega, by omega⟩))
  obtain ⟨E1, F1, hbf, htf⟩ := id H1
  obtain ⟨ht, hOt, X1, hPO, hsep⟩ := id E1
  obtain ⟨hnb, hOb, hYb, hNb, hSb, hKb⟩ := id X1
  obtain ⟨hfn, hFf, -⟩ := id F1
  refine jr_aload_n (pc := 132) h dX4_tellOfNames_132 rfl ?_
  refine jr_bipush (pc := 133) h dX4_tellOfNames_133 bp_6 ?_
  refine jr_iconst (pc := 135) h dX4_tellOfNames_135 ?_
  refine jr_aload_n (pc := 136) h dX4_tellOfNames_136 rfl ?_
  refine gf_X4_12 (pc := 137) h dX4_tellOfNames_137 (by assumption) (by omega) ?_
  refine jr_iconst (pc := 140) h dX4_tellOfNames_140 ?_
  refine iv_X4_146 (pc := 141) h hl hR dX4_tellOfNames_141 ⟨(Nat.le_of_ble_eq_true rfl), (Nat.le_of_ble_eq_true rfl), (Nat.le_of_ble_eq_true rfl), (Nat.le_of_ble_eq_true rfl)⟩ (Nat.le_of_ble_eq_true rfl) (by assumption) (by omega) (s_X6_expectName (a := 2) X1 hPO hby (by omega)) (fun v_141 n_141 M_141 hn_141 hp => ?_)
  obtain ⟨⟨hv, rfl⟩, X2, fx⟩ := hp
  subst hv
  have vb141 := enP_b (bs := bs) (s := 2) hPO
  have H1 := TF_tk H1 X2 fx (enP_O hPO)
  have f1 := fr_tr f1 (fr_mo fx (fun k hk => Or.inl hk))
  obtain ⟨E1, F1, hbf, htf⟩ := id H1
  obtain ⟨ht, hOt, X1, hPO, hsep⟩ := id E1
  obtain ⟨hnb, hOb, hYb, hNb, hSb, hKb⟩ := id X1
  obtain ⟨hfn, hFf, -⟩ := id F1
  refine iv_X4_104 (pc := 144) h hl hR dX4_tellOfNames_144 ⟨(Nat.le_of_ble_eq_true rfl), (Nat.le_of_ble_eq_true rfl), (Nat.le_of_ble_eq_true rfl), (Nat.le_of_ble_eq_true rfl)⟩ (Nat.le_of_ble_eq_true rfl) (by assumption) (by omega) (s_X1_put F1 (by omega) (by omega) hct (by omega)) (fun v_144 n_144 M_144 hn_144 hp => ?_)
  obtain ⟨rfl, rfl, hM⟩ := hp
  have H1 := TF_td H1 hM (by omega) (fun q => by have cb := (F1.2.2.2.2.2.2.2.1 (Int.toNat 6)).1; unfold c_ix at q; omega)
  have f1 := fr_tr f1 (fr_up hM (Or.inr ⟨by omega, by omega⟩))
  obtain ⟨E1, F1, hbf, htf⟩ := id H1
  obtain ⟨ht, hOt, X1, hPO, hsep⟩ := id E1
  obtain ⟨hnb, hOb, hYb, hNb, hSb, hKb⟩ := id X1
  obtain ⟨hfn, hFf, -⟩ := id F1
  refine jr_aload_n (pc := 147) h dX4_tellOfNames_147 rfl ?_
  refine jr_bipush (pc := 148) h dX4_tellOfNames_148 bp_6 ?_
  refine jr_iconst (pc := 150) h dX4_tellOfNames_150 ?_
  refine jr_aload_n (pc := 151) h dX4_tellOfNames_151 rfl ?_
  refine jr_ldcS (pc := 152) h 13 (by decide) ⟨rfl, rfl⟩ dX4_tellOfNames_152 ?_
  refine jr_iconst (pc := 154) h dX4_tellOfNames_154 ?_
  refine jr_bipush (pc := 155) h dX4_tellOfNames_155 bp_99 ?_
  refine iv_X4_100 (pc := 157) h hl hR dX4_tellOfNames_157 ⟨(Nat.le_of_ble_eq_true rfl), (Nat.le_of_ble_eq_true rfl), (Nat.le_of_ble_eq_true rfl), (Nat.le_of_ble_eq_true rfl)⟩ (Nat.le_of_ble_eq_true rfl) (by assumption) (by omega) (s_X4_labelled (k := 13) (a := 1) (c := 99) E1 hby (by omega) (by omega) (by omega)) (fun v_157 n_157 M_157 hn_157 hp => ?_)
  obtain ⟨⟨hv, rfl⟩, E2, fx⟩ := hp
  subst hv
  have vb157 := lbP_b (bs := bs) (k := 13) (a := 1) (c := 99) (p := (enP bs 2 (enP bs 5 p).2).2) (by omega)
  have H1 := TF_te H1 E2 fx
  have f1 := fr_tr f1 (fr_mo fx (fun k hk => Or.inl hk))
  obtain ⟨E1, F1, hbf, htf⟩ := id H1
  obtain ⟨ht, hOt, X1, hPO, hsep⟩ := id E1
  obtain ⟨hnb, hOb, hYb, hNb, hSb, hKb⟩ := id X1
  obtain ⟨hfn, hFf, -⟩ := id F1
  refine iv_X4_104 (pc := 160) h hl hR dX4_tellOfNames_160 ⟨(Nat.le_of_ble_eq_true rfl), (Nat.le_of_ble_eq_true rfl), (Nat.le_of_ble_eq_true rfl), (Nat.le_of_ble_eq_true rfl)⟩ (Nat.le_of_ble_eq_true rfl) (by assumption) (by omega) (s_X1_put F1 (by omega) (by omega) hct (by omega)) (fun v_160 n_160 M_160 hn_160 hp => ?_)
  obtain ⟨rfl, rfl, hM⟩ := hp
  have H1 := TF_td H1 hM (by omega) (fun q => by have cb := (F1.2.2.2.2.2.2.2.1 (Int.toNat 6)).1; unfold c_ix at q; omega)
  have f1 := fr_tr f1 (fr_up hM (Or.inr ⟨by omega, by omega⟩))
  obtain ⟨E1, F1, hbf, htf⟩ := id H1
  obtain ⟨ht, hOt, X1, hPO, hsep⟩ := id E1
  obtain ⟨hnb, hOb, hYb, hNb, hSb, hKb⟩ := id X1
  obtain ⟨hfn, hFf, -⟩ := id F1
  refine jr_vret (pc := 163) h hRt dX4_tellOfNames_163 (Nat.le_of_ble_eq_true rfl) (Nat.le_of_ble_eq_true rfl) ?_
  exact ⟨⟨rfl, rfl⟩, H1, f1⟩
