/-! 31: Teller: a named one, likings, a block -/
set_option maxHeartbeats 1000000 in
set_option maxRecDepth 20000 in
theorem s_X4_tellNamedThing_8 {l : Launch} {n : Nat} {M : jdM} {t b f : Nat} {bs : Nat → Int} {p : TS} {ct td bk si ld : Nat → Int} (H1 : TF M n t b f bs p ct td bk si ld) (hby : ∀ i, -128 ≤ bs i ∧ bs i < 128) (hct : ct 8 < 8) : Ct l yX4_tellNamedThing cX4_tellNamedThing 3 none rX4_tellNamedThing [.ref t, .ref f, jI 8] n M (fun vv n' M' => (vv = none ∧ n = n') ∧ TF M' n t b f bs (@ite TS (((enP bs 2 (ewP bs 8 (lbP bs 7 1 40 p).2)).2).1 7 = 0 ∧ wordIs bs ((enP bs 2 (ewP bs 8 (lbP bs 7 1 40 p).2)).2).1 9) (Classical.propDecidable _) (nxP bs (enP bs 2 (ewP bs 8 (lbP bs 7 1 40 p).2)).2) (enP bs 2 (ewP bs 8 (lbP bs 7 1 40 p).2)).2) ct (@ite (Nat → Int) (((enP bs 2 (ewP bs 8 (lbP bs 7 1 40 p).2)).2).1 7 = 0 ∧ wordIs bs ((enP bs 2 (ewP bs 8 (lbP bs 7 1 40 p).2)).2).1 9) (Classical.propDecidable _) (up (up (up td (c_ix ct 8 0) (lbP bs 7 1 40 p).1) (c_ix ct 8 1) (enP bs 2 (ewP bs 8 (lbP bs 7 1 40 p).2)).1) (c_ix ct 8 2) 1) (up (up td (c_ix ct 8 0) (lbP bs 7 1 40 p).1) (c_ix ct 8 1) (enP bs 2 (ewP bs 8 (lbP bs 7 1 40 p).2)).1)) bk si ld ∧ fr (TlS b f) M M') := by
  refine Ct_of [some (.ref t), some (.ref f), some (jI 8)] (by decide) (Nat.le_of_ble_eq_true rfl) rfl (fun κ hl h hR hRt hmn hn0 => ?_)
  have h : Ok κ RX4 cX4_tellNamedThing 3 none := h
  obtain ⟨E1, F1, hbf, htf⟩ := id H1
  obtain ⟨ht, hOt, X1, hPO, hsep⟩ := id E1
  obtain ⟨hnb, hOb, hYb, hNb, hSb, hKb⟩ := id X1
  obtain ⟨hfn, hFf, -⟩ := id F1
  have f1 : fr (TlS b f) M M := fr_rf
  refine jr_iload_n (pc := 0) h dX4_tellNamedThing_0 rfl ?_
  refine jr_lookup (pc := 1) h (x := 8) (off := 113) 114 dX4_tellNamedThing_1 (by omega) (by decide) rfl rfl ?_
  refine jr_aload_n (pc := 114) h dX4_tellNamedThing_114 rfl ?_
  refine jr_bipush (pc := 115) h dX4_tellNamedThing_115 bp_8 ?_
  refine jr_iconst (pc := 117) h dX4_tellNamedThing_117 ?_
  refine jr_aload_n (pc := 118) h dX4_tellNamedThing_118 rfl ?_
  refine jr_ldcS (pc := 119) h 7 (by decide) ⟨rfl, rfl⟩ dX4_tellNamedThing_119 ?_
  refine jr_iconst (pc := 121) h dX4_tellNamedThing_121 ?_
  refine jr_bipush (pc := 122) h dX4_tellNamedThing_122 bp_40 ?_
  refine iv_X4_100 (pc := 124) h hl hR dX4_tellNamedThing_124 ⟨(Nat.le_of_ble_eq_true rfl), (Nat.le_of_ble_eq_true rfl), (Nat.le_of_ble_eq_true rfl), (Nat.le_of_ble_eq_true rfl)⟩ (Nat.le_of_ble_eq_true rfl) (by assumption) (by omega) (s_X4_labelled (k := 7) (a := 1) (c := 40) E1 hby (by omega) (by omega) (by omega)) (fun v_124 n_124 M_124 hn_124 hp => ?_)
  obtain ⟨⟨hv, rfl⟩, E2, fx⟩ := hp
  subst hv
  have vb124 := lbP_b (bs := bs) (k := 7) (a := 1) (c := 40) (p := p) (by omega)
  have H1 := TF_te H1 E2 fx
  have f1 := fr_tr f1 (fr_mo fx (fun k hk => Or.inl hk))
  obtain ⟨E1, F1, hbf, htf⟩ := id H1
  obtain ⟨ht, hOt, X1, hPO, hsep⟩ := id E1
  obtain ⟨hnb, hOb, hYb, hNb, hSb, hKb⟩ := id X1
  obtain ⟨hfn, hFf, -⟩ := id F1
  refine iv_X4_104 (pc := 127) h hl hR dX4_tellNamedThing_127 ⟨(Nat.le_of_ble_eq_true rfl), (Nat.le_of_ble_eq_true rfl), (Nat.le_of_ble_eq_true rfl), (Nat.le_of_ble_eq_true rfl)⟩ (Nat.le_of_ble_eq_true rfl) (by assumption) (by omega) (s_X1_put F1 (by omega) (by omega) hct (by omega)) (fun v_127 n_127 M_127 hn_127 hp => ?_)
  obtain ⟨rfl, rfl, hM⟩ := hp
  have H1 := TF_td H1 hM (by omega) (fun q => by have cb := (F1.2.2.2.2.2.2.2.1 (Int.toNat 8)).1; unfold c_ix at q; omega)
  have f1 := fr_tr f1 (fr_up hM (Or.inr ⟨by omega, by omega⟩))
  obtain ⟨E1, F1, hbf, htf⟩ := id H1
  obtain ⟨ht, hOt, X1, hPO, hsep⟩ := id E1
  obtain ⟨hnb, hOb, hYb, hNb, hSb, hKb⟩ := id X1
  obtain ⟨hfn, hFf, -⟩ := id F1
  refine jr_aload_n (pc := 130) h dX4_tellNamedThing_130 rfl ?_
  refine gf_X4_12 (pc := 131) h dX4_tellNamedThing_131 (by assumption) (by omega) ?_
  refine jr_ldcS (pc := 134) h 8 (by decide) ⟨rfl, rfl⟩ dX4_tellNamedThing_134 ?_
  refine iv_X4_142 (pc := 136) h hl hR dX4_tellNamedThing_136 ⟨(Nat.le_of_ble_eq_true rfl), (Nat.le_of_ble_eq_true rfl), (Nat.le_of_ble_eq_true rfl), (Nat.le_of_ble_eq_true rfl)⟩ (Nat.le_of_ble_eq_true rfl) (by assumption) (by omega) (s_X6_expectWord (k := 8) X1 hPO hby (by omega)) (fun v_136 n_136 M_136 hn_136 hp => ?_)
  obtain ⟨⟨rfl, rfl⟩, X2, fx⟩ := hp
  skip
  have H1 := TF_tk H1 X2 fx (ewP_O hPO)
  have f1 := fr_tr f1 (fr_mo fx (fun k hk => Or.inl hk))
  obtain ⟨E1, F1, hbf, htf⟩ := id H1
  obtain ⟨ht, hOt, X1, hPO, hsep⟩ := id E1
  obtain ⟨hnb, hOb, hYb, hNb, hSb, hKb⟩ := id X1
  obtain ⟨hfn, hFf, -⟩ := id F1
  refine jr_aload_n (pc := 139) h dX4_tellNamedThing_139 rfl ?_
  refine jr_bipush (pc := 140) h dX4_tellNamedThing_140 bp_8 ?_
  refine jr_iconst (pc := 142) h dX4_tellNamedThing_142 ?_
  refine jr_aload_n (pc := 143) h dX4_tellNamedThing_143 rfl ?_
  refine gf_X4_12 (pc := 144) h dX4_tellNamedThing_144 (by assumption) (by omega) ?_
  refine jr_iconst (pc := 147) h dX4_tellNamedThing_147 ?_
  refine iv_X4_146 (pc := 148) h hl hR dX4_tellNamedThing_148 ⟨(Nat.le_of_ble_eq_true rfl), (Nat.le_of_ble_eq_true rfl), (Nat.le_of_ble_eq_true rfl), (Nat.le_of_ble_eq_true rfl)⟩ (Nat.le_of_ble_eq_true rfl) (by assumption) (by omega) (s_X6_expectName (a := 2) X1 hPO hby (by omega)) (fun v_148 n_148 M_148 hn_148 hp => ?_)
  obtain ⟨⟨hv, rfl⟩, X2, fx⟩ := hp
  subst hv
  have vb148 := enP_b (bs := bs) (s := 2) hPO
  have H1 := TF_tk H1 X2 fx (enP_O hPO)
  have f1 := fr_tr f1 (fr_mo fx (fun k hk => Or.inl hk))
  obtain ⟨E1, F1, hbf, htf⟩ := id H1
  obtain ⟨ht, hOt, X1, hPO, hsep⟩ := id E1
  obtain ⟨hnb, hOb, hYb, hNb, hSb, hKb⟩ := id X1
  obtain ⟨hfn, hFf, -⟩ := id F1
  refine iv_X4_104 (pc := 151) h hl hR dX4_tellNamedThing_151 ⟨(Nat.le_of_ble_eq_true rfl), (Nat.le_of_ble_eq_true rfl), (Nat.le_of_ble_eq_true rfl), (Nat.le_of_ble_eq_true rfl)⟩ (Nat.le_of_ble_eq_true rfl) (by assumption) (by omega) (s_X1_put F1 (by omega) (by omega) hct (by omega)) (fun v_151 n_151 M_151 hn_151 hp => ?_)
  obtain ⟨rfl, rfl, hM⟩ := hp
  have H1 := TF_td H1 hM (by omega) (fun q => by have cb := (F1.2.2.2.2.2.2.2.1 (Int.toNat 8)).1; unfold c_ix at q; omega)
  have f1 := fr_tr f1 (fr_up hM (Or.inr ⟨by omega, by omega⟩))
  obtain ⟨E1, F1, hbf, htf⟩ := id H1
  obtain ⟨ht, hOt, X1, hPO, hsep⟩ := id E1
  obtain ⟨hnb, hOb, hYb, hNb, hSb, hKb⟩ := id X1
  obtain ⟨hfn, hFf, -⟩ := id F1
  refine jr_aload_n (pc := 154) h dX4_tellNamedThing_154 rfl ?_
  refine gf_X4_12 (pc := 155) h dX4_tellNamedThing_155 (by assumption) (by omega) ?_
  refine iv_X4_35 (pc := 158) h hl hR dX4_tellNamedThing_158 ⟨(Nat.le_of_ble_eq_true rfl), (Nat.le_of_ble_eq_true rfl), (Nat.le_of_ble_eq_true rfl), (Nat.le_of_ble_eq_true rfl)⟩ (Nat.le_of_ble_eq_true rfl) (by assumption) (by omega) (s_X6_isFine X1 hPO.1.2.2.2.2.1) (fun v_158 n_158 M_158 hn_158 hp => ?_)
  obtain ⟨⟨rfl, rfl, rfl⟩, gr_158⟩ := hp
  refine jr_if_eq (pc := 161) h 210 dX4_tellNamedThing_161 (by decide) (by omega) (fun c_161 => ?_) (fun c_161 => ?_)
  · skip
    refine jr_vret (pc := 210) h hRt dX4_tellNamedThing_210 (Nat.le_of_ble_eq_true rfl) (Nat.le_of_ble_eq_true rfl) ?_
    first
    | (have hC : (((enP bs 2 (ewP bs 8 (lbP bs 7 1 40 p).2)).2).1 7 = 0 ∧ wordIs bs ((enP bs 2 (ewP bs 8 (lbP bs 7 1 40 p).2)).2).1 9) := ⟨by
         by_cases q : ((enP bs 2 (ewP bs 8 (lbP bs 7 1 40 p).2)).2).1 7 = 0
         · exact q
         · exact absurd (bz_f q) c_161, bz_1.mp c_173⟩
       rw [if_pos hC, if_pos hC]
       exact ⟨⟨rfl, rfl⟩, H1, f1⟩)
    | (have hC : ¬ (((enP bs 2 (ewP bs 8 (lbP bs 7 1 40 p).2)).2).1 7 = 0 ∧ wordIs bs ((enP bs 2 (ewP bs 8 (lbP bs 7 1 40 p).2)).2).1 9) := fun q => bz_0.mp c_173 q.2
       rw [if_neg hC, if_neg hC]
       exact ⟨⟨rfl, rfl⟩, H1, f1⟩)
    | (have hC : ¬ (((enP bs 2 (ewP bs 8 (lbP bs 7 1 40 p).2)).2).1 7 = 0 ∧ wordIs bs ((enP bs 2 (ewP bs 8 (lbP bs 7 1 40 p).2)).2).1 9) := fun q => bz_0.mp c_161 q.1
       rw [if_neg hC, if_neg hC]
       exact ⟨⟨rfl, rfl⟩, H1, f1⟩)
  · skip
    refine jr_aload_n (pc := 164) h dX4_tellNamedThing_164 rfl ?_
    refine gf_X4_12 (pc := 165) h dX4_tellNamedThing_165 (by assumption) (by omega) ?_
    refine jr_ldcS (pc := 168) h 9 (by decide) ⟨rfl, rfl⟩ dX4_tellNamedThing_168 ?_
    refine iv_X4_151 (pc := 170) h hl hR dX4_tellNamedThing_170 ⟨(Nat.le_of_ble_eq_true rfl), (Nat.le_of_ble_eq_true rfl), (Nat.le_of_ble_eq_true rfl), (Nat.le_of_ble_eq_true rfl)⟩ (Nat.le_of_ble_eq_true rfl) (by assumption) (by omega) (s_X6_isWord (k := 9) X1 hby hPO.1 (by omega)) (fun v_170 n_170 M_170 hn_170 hp => ?_)
    obtain ⟨⟨rfl, rfl, rfl⟩, gr_170⟩ := hp
    refine jr_if_eq (pc := 173) h 210 dX4_tellNamedThing_173 (by decide) (by omega) (fun c_173 => ?_) (fun c_173 => ?_)
    · skip
      refine jr_vret (pc := 210) h hRt dX4_tellNamedThing_210 (Nat.le_of_ble_eq_true rfl) (Nat.le_of_ble_eq_true rfl) ?_
      first
      | (have hC : (((enP bs 2 (ewP bs 8 (lbP bs 7 1 40 p).2)).2).1 7 = 0 ∧ wordIs bs ((enP bs 2 (ewP bs 8 (lbP bs 7 1 40 p).2)).2).1 9) := ⟨by
           by_cases q : ((enP bs 2 (ewP bs 8 (lbP bs 7 1 40 p).2)).2).1 7 = 0
           · exact q
           · exact absurd (bz_f q) c_161, bz_1.mp c_173⟩
         rw [if_pos hC, if_pos hC]
         exact ⟨⟨rfl, rfl⟩, H1, f1⟩)
      | (have hC : ¬ (((enP bs 2 (ewP bs 8 (lbP bs 7 1 40 p).2)).2).1 7 = 0 ∧ wordIs bs ((enP bs 2 (ewP bs 8 (lbP bs 7 1 40 p).2)).2).1 9) := fun q => bz_0.mp c_173 q.2
         rw [if_neg hC, if_neg hC]
         exact ⟨⟨rfl, rfl⟩, H1, f1⟩)
      | (have hC : ¬ (((enP bs 2 (ewP bs 8 (lbP bs 7 1 40 p).2)).2).1 7 = 0 ∧ wordIs bs ((enP bs 2 (ewP bs 8 (lbP bs 7 1 40 p).2)).2).1 9) := fun q => bz_0.mp c_161 q.1
         rw [if_neg hC, if_neg hC]
         exact ⟨⟨rfl, rfl⟩, H1, f1⟩)
    · skip
      refine jr_aload_n (pc := 176) h dX4_tellNamedThing_176 rfl ?_
      refine jr_bipush (pc := 177) h dX4_tellNamedThing_177 bp_8 ?_
      refine jr_iconst (pc := 179) h dX4_tellNamedThing_179 ?_
      refine jr_iconst (pc := 180) h dX4_tellNamedThing_180 ?_
      refine iv_X4_104 (pc := 181) h hl hR dX4_tellNamedThing_181 ⟨(Nat.le_of_ble_eq_true rfl), (Nat.le_of_ble_eq_true rfl), (Nat.le_of_ble_eq_true rfl), (Nat.le_of_ble_eq_true rfl)⟩ (Nat.le_of_ble_eq_true rfl) (by assumption) (by omega) (s_X1_put F1 (by omega) (by omega) hct (by omega)) (fun v_181 n_181 M_181 hn_181 hp => ?_)
      obtain ⟨rfl, rfl, hM⟩ := hp
      have H1 := TF_td H1 hM (by omega) (fun q => by have cb := (F1.2.2.2.2.2.2.2.1 (Int.toNat 8)).1; unfold c_ix at q; omega)
      have f1 := fr_tr f1 (fr_up hM (Or.inr ⟨by omega, by omega⟩))
      obtain ⟨E1, F1, hbf, htf⟩ := id H1
      obtain ⟨ht, hOt, X1, hPO, hsep⟩ := id E1
      obtain ⟨hnb, hOb, hYb, hNb, hSb, hKb⟩ := id X1
      obtain ⟨hfn, hFf, -⟩ := id F1
      refine jr_aload_n (pc := 184) h dX4_tellNamedThing_184 rfl ?_
      refine gf_X4_12 (pc := 185) h dX4_tellNamedThing_185 (by assumption) (by omega) ?_
      refine iv_X4_69 (pc := 188) h hl hR dX4_tellNamedThing_188 ⟨(Nat.le_of_ble_eq_true rfl), (Nat.le_of_ble_eq_true rfl), (Nat.le_of_ble_eq_true rfl), (Nat.le_of_ble_eq_true rfl)⟩ (Nat.le_of_ble_eq_true rfl) (by assumption) (by omega) (s_X6_next X1 hby ⟨hPO.1.1, hPO.1.2.2.1⟩ rfl rfl rfl) (fun v_188 n_188 M_188 hn_188 hp => ?_)
      obtain ⟨⟨rfl, rfl⟩, g9, T9, f9, q1, q2, q3, q4, q5, q7, q8, q12⟩ := hp
      have X9 : TkP M_188 n b bs (nxP bs (enP bs 2 (ewP bs 8 (lbP bs 7 1 40 p).2)).2) := nxP_of (w := ((enP bs 2 (ewP bs 8 (lbP bs 7 1 40 p).2)).2).2.1) T9 q1 q2 q3 q4 q5 q7 q8 q12
      skip
      have H1 := TF_tk H1 X9 f9 (nxP_O hPO)
      have f1 := fr_tr f1 (fr_mo f9 (fun k hk => Or.inl hk))
      obtain ⟨E1, F1, hbf, htf⟩ := id H1
      obtain ⟨ht, hOt, X1, hPO, hsep⟩ := id E1
      obtain ⟨hnb, hOb, hYb, hNb, hSb, hKb⟩ := id X1
      obtain ⟨hfn, hFf, -⟩ := id F1
      refine jr_goto (pc := 191) h 210 dX4_tellNamedThing_191 (by decide) ?_
      refine jr_vret (pc := 210) h hRt dX4_tellNamedThing_210 (Nat.le_of_ble_eq_true rfl) (Nat.le_of_ble_eq_true rfl) ?_
      first
      | (have hC : (((enP bs 2 (ewP bs 8 (lbP bs 7 1 40 p).2)).2).1 7 = 0 ∧ wordIs bs ((enP bs 2 (ewP bs 8 (lbP bs 7 1 40 p).2)).2).1 9) := ⟨by
           by_cases q : ((enP bs 2 (ewP bs 8 (lbP bs 7 1 40 p).2)).2).1 7 = 0
           · exact q
           · exact absurd (bz_f q) c_161, bz_1.mp c_173⟩
         rw [if_pos hC, if_pos hC]
         exact ⟨⟨rfl, rfl⟩, H1, f1⟩)
      | (have hC : ¬ (((enP bs 2 (ewP bs 8 (lbP bs 7 1 40 p).2)).2).1 7 = 0 ∧ wordIs bs ((enP bs 2 (ewP bs 8 (lbP bs 7 1 40 p).2)).2).1 9) := fun q => bz_0.mp c_173 q.2
         rw [if_neg hC, if_neg hC]
         exact ⟨⟨rfl, rfl⟩, H1, f1⟩)
      | (have hC : ¬ (((enP bs 2 (ewP bs 8 (lbP bs 7 1 40 p).2)).2).1 7 = 0 ∧ wordIs bs ((enP bs 2 (ewP bs 8 (lbP bs 7 1 40 p).2)).2).1 9) := fun q => bz_0.mp c_161 q.1
         rw [if_neg hC, if_neg hC]
         exact ⟨⟨rfl, rfl⟩, H1, f1⟩)
