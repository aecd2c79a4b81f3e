/-! 36: Teller: a line -/
def opT (ct td : Nat → Int) (s : Int) : Nat → Int := fun j => if c_ix ct s 0 ≤ j ∧ j < c_ix ct s 0 + 12 then 0 else td j
noncomputable def ln_0 (bs ct : Nat → Int) (p : TS) (td : Nat → Int) : TS × (Nat → Int) := (((lbP bs 19 1 60 (lbP bs 18 0 60 (lbP bs 17 2 40 p).2).2).2), ((up (up (up td (c_ix ct 0 0) (lbP bs 17 2 40 p).1) (c_ix ct 0 1) (lbP bs 18 0 60 (lbP bs 17 2 40 p).2).1) (c_ix ct 0 2) (lbP bs 19 1 60 (lbP bs 18 0 60 (lbP bs 17 2 40 p).2).2).1)))
noncomputable def ln_1 (bs ct : Nat → Int) (p : TS) (td : Nat → Int) : TS × (Nat → Int) := (((lbP bs 21 0 50 (lbP bs 20 0 90 p).2).2), ((up (up td (c_ix ct 1 0) (lbP bs 20 0 90 p).1) (c_ix ct 1 1) (lbP bs 21 0 50 (lbP bs 20 0 90 p).2).1)))
noncomputable def ln_2 (bs ct : Nat → Int) (p : TS) (td : Nat → Int) : TS × (Nat → Int) := (((lbP bs 2 0 99 (lbP bs 1 1 8 p).2).2), ((up (up td (c_ix ct 2 0) (lbP bs 1 1 8 p).1) (c_ix ct 2 1) (lbP bs 2 0 99 (lbP bs 1 1 8 p).2).1)))
noncomputable def ln_3 (bs ct : Nat → Int) (p : TS) (td : Nat → Int) : TS × (Nat → Int) := (((lbP bs 11 0 300 (enP bs 2 p).2).2), ((up (up td (c_ix ct 3 0) (enP bs 2 p).1) (c_ix ct 3 1) (lbP bs 11 0 300 (enP bs 2 p).2).1)))
noncomputable def ln_4 (bs ct : Nat → Int) (p : TS) (td : Nat → Int) : TS × (Nat → Int) := (((lbP bs 12 (max 1 (ehP bs 0 999 (enP bs 2 p).2).1) 999 (ehP bs 0 999 (enP bs 2 p).2).2).2), ((up (up (up td (c_ix ct 4 0) (enP bs 2 p).1) (c_ix ct 4 1) (ehP bs 0 999 (enP bs 2 p).2).1) (c_ix ct 4 2) (lbP bs 12 (max 1 (ehP bs 0 999 (enP bs 2 p).2).1) 999 (ehP bs 0 999 (enP bs 2 p).2).2).1)))
noncomputable def ln_5 (bs ct : Nat → Int) (p : TS) (td : Nat → Int) : TS × (Nat → Int) := (((lbP bs 6 8 40 (lbP bs 5 1 14 (trP bs ct td p).2).2).2), ((up (up (up td (c_ix ct 5 0) (trP bs ct td p).1) (c_ix ct 5 1) (lbP bs 5 1 14 (trP bs ct td p).2).1) (c_ix ct 5 2) (lbP bs 6 8 40 (lbP bs 5 1 14 (trP bs ct td p).2).2).1)))
noncomputable def ln_6 (bs ct : Nat → Int) (p : TS) (td : Nat → Int) : TS × (Nat → Int) := (((lbP bs 13 1 99 (enP bs 2 (enP bs 5 p).2).2).2), ((up (up (up td (c_ix ct 6 0) (enP bs 5 p).1) (c_ix ct 6 1) (enP bs 2 (enP bs 5 p).2).1) (c_ix ct 6 2) (lbP bs 13 1 99 (enP bs 2 (enP bs 5 p).2).2).1)))
noncomputable def ln_7 (bs ct : Nat → Int) (p : TS) (td : Nat → Int) : TS × (Nat → Int) := ((blR bs ct 4 (tlP bs ct (up (up (up td (c_ix ct 7 0) (ehP bs 1 40 p).1) (c_ix ct 7 1) (lbP bs 14 (ehP bs 1 40 p).1 40 (ehP bs 1 40 p).2).1) (c_ix ct 7 2) (lbP bs 15 1 9 (lbP bs 14 (ehP bs 1 40 p).1 40 (ehP bs 1 40 p).2).2).1) (ewP bs 16 (lbP bs 15 1 9 (lbP bs 14 (ehP bs 1 40 p).1 40 (ehP bs 1 40 p).2).2).2)).1 (tlP bs ct (up (up (up td (c_ix ct 7 0) (ehP bs 1 40 p).1) (c_ix ct 7 1) (lbP bs 14 (ehP bs 1 40 p).1 40 (ehP bs 1 40 p).2).1) (c_ix ct 7 2) (lbP bs 15 1 9 (lbP bs 14 (ehP bs 1 40 p).1 40 (ehP bs 1 40 p).2).2).1) (ewP bs 16 (lbP bs 15 1 9 (lbP bs 14 (ehP bs 1 40 p).1 40 (ehP bs 1 40 p).2).2).2)).2).1, (blR bs ct 4 (tlP bs ct (up (up (up td (c_ix ct 7 0) (ehP bs 1 40 p).1) (c_ix ct 7 1) (lbP bs 14 (ehP bs 1 40 p).1 40 (ehP bs 1 40 p).2).1) (c_ix ct 7 2) (lbP bs 15 1 9 (lbP bs 14 (ehP bs 1 40 p).1 40 (ehP bs 1 40 p).2).2).1) (ewP bs 16 (lbP bs 15 1 9 (lbP bs 14 (ehP bs 1 40 p).1 40 (ehP bs 1 40 p).2).2).2)).1 (tlP bs ct (up (up (up td (c_ix ct 7 0) (ehP bs 1 40 p).1) (c_ix ct 7 1) (lbP bs 14 (ehP bs 1 40 p).1 40 (ehP bs 1 40 p).2).1) (c_ix ct 7 2) (lbP bs 15 1 9 (lbP bs 14 (ehP bs 1 40 p).1 40 (ehP bs 1 40 p).2).2).1) (ewP bs 16 (lbP bs 15 1 9 (lbP bs 14 (ehP bs 1 40 p).1 40 (ehP bs 1 40 p).2).2).2)).2).2)
noncomputable def ln_8 (bs ct : Nat → Int) (p : TS) (td : Nat → Int) : TS × (Nat → Int) := ((@ite TS (((enP bs 2 (ewP bs 8 (lbP bs 7 1 40 p).2)).2).1 7 = 0 ∧ wordIs bs ((enP bs 2 (ewP bs 8 (lbP bs 7 1 40 p).2)).2).1 9) (Classical.propDecidable _) (nxP bs (enP bs 2 (ewP bs 8 (lbP bs 7 1 40 p).2)).2) (enP bs 2 (ewP bs 8 (lbP bs 7 1 40 p).2)).2), (@ite (Nat → Int) (((enP bs 2 (ewP bs 8 (lbP bs 7 1 40 p).2)).2).1 7 = 0 ∧ wordIs bs ((enP bs 2 (ewP bs 8 (lbP bs 7 1 40 p).2)).2).1 9) (Classical.propDecidable _) (up (up (up td (c_ix ct 8 0) (lbP bs 7 1 40 p).1) (c_ix ct 8 1) (enP bs 2 (ewP bs 8 (lbP bs 7 1 40 p).2)).1) (c_ix ct 8 2) 1) (up (up td (c_ix ct 8 0) (lbP bs 7 1 40 p).1) (c_ix ct 8 1) (enP bs 2 (ewP bs 8 (lbP bs 7 1 40 p).2)).1)))
noncomputable def ln_9 (bs ct : Nat → Int) (p : TS) (td : Nat → Int) : TS × (Nat → Int) := (((lbP bs 14 ((ehP bs 0 300 p).1 + 1) 400 (ehP bs 0 300 p).2).2), ((up (up td (c_ix ct 9 0) (ehP bs 0 300 p).1) (c_ix ct 9 1) (lbP bs 14 ((ehP bs 0 300 p).1 + 1) 400 (ehP bs 0 300 p).2).1)))
noncomputable def ln_10 (bs ct : Nat → Int) (p : TS) (td : Nat → Int) : TS × (Nat → Int) := (((ehP bs 1 40 p).2), ((up td (c_ix ct 10 0) (ehP bs 1 40 p).1)))
noncomputable def ln_11 (bs ct : Nat → Int) (p : TS) (td : Nat → Int) : TS × (Nat → Int) := (((lbP bs 14 1 40 (lbP bs 22 1 40 (lbP bs 11 0 300 p).2).2).2), ((up (up (up td (c_ix ct 11 0) (lbP bs 11 0 300 p).1) (c_ix ct 11 1) (lbP bs 22 1 40 (lbP bs 11 0 300 p).2).1) (c_ix ct 11 2) (lbP bs 14 1 40 (lbP bs 22 1 40 (lbP bs 11 0 300 p).2).2).1)))
noncomputable def ln_12 (bs ct : Nat → Int) (p : TS) (td : Nat → Int) : TS × (Nat → Int) := (((lbP bs 10 1 99 p).2), ((up td (c_ix ct 12 0) (lbP bs 10 1 99 p).1)))
noncomputable def lnP (bs ct : Nat → Int) (p : TS) (td : Nat → Int) : Int → TS × (Nat → Int)
  | 0 => ln_0 bs ct p td
  | 1 => ln_1 bs ct p td
  | 2 => ln_2 bs ct (nnP bs 2 (ct 2) p) td
  | 3 => ln_3 bs ct p td
  | 4 => ln_4 bs ct p td
  | 5 => ln_5 bs ct (nnP bs 5 (ct 5) p) td
  | 6 => ln_6 bs ct p td
  | 7 => ln_7 bs ct p td
  | 8 => ln_8 bs ct (nnP bs 8 (ct 8) p) td
  | 9 => ln_9 bs ct p td
  | 10 => ln_10 bs ct p td
  | 11 => ln_11 bs ct p td
  | 12 => ln_12 bs ct (nnP bs 12 (ct 12) p) td
  | _ => (p, td)
def tlnC (ct : Nat → Int) (s : Int) (r : TS × (Nat → Int)) : TS × (Nat → Int) × (Nat → Int) := (r.1, if r.1.1 7 = 0 then up ct s.toNat (ct s.toNat + 1) else ct, r.2)
noncomputable def tlnP (bs ct td : Nat → Int) (s : Int) (p : TS) : TS × (Nat → Int) × (Nat → Int) :=
  if s < 0 ∨ 13 ≤ s then (flP 1 p, ct, td) else if (jtab 0).2.2 s.toNat ≤ ct s.toNat then (flP (if s = 0 ∨ s = 1 then 3 else 5) p, ct, td) else tlnC ct s (lnP bs ct (nxP bs p) (opT ct td s) s)
theorem opT_r {ct td : Nat → Int} {s : Int} (r : ∀ j, 0 ≤ td j ∧ td j ≤ 999) : ∀ j, 0 ≤ opT ct td s j ∧ opT ct td s j ≤ 999 := by
  intro j
  have := r j
  unfold opT
  split <;> omega
theorem opT_0 {ct td : Nat → Int} {s : Int} (r : td 0 ≤ 40) : opT ct td s 0 ≤ 40 := by
  unfold opT
  split <;> omega
theorem opT_7 {ct td : Nat → Int} (hc : 0 ≤ ct 7 ∧ ct 7 < 8) : c_get (opT ct td 7) 7 (ct 7) 3 = 0 := by
  unfold c_get opT c_ix
  rw [if_pos (by omega), if_pos (by have : (Int.toNat 7) = 7 := rfl; rw [this]; omega)]
theorem TF_op {M M1 : jdM} {n t b f : Nat} {bs : Nat → Int} {p : TS} {ct td bk si ld : Nat → Int} {s : Int} (h : TF M n t b f bs p ct td bk si ld) (h1 : M1 = up M (f + 2) (jdA 1248 (fun j : Nat => if c_ix ct s 0 ≤ j ∧ j < c_ix ct s 0 + 12 then 0 else td j))) : TF M1 n t b f bs p ct (opT ct td s) bk si ld := by
  obtain ⟨-, -, -, -, -, -, -, -, r1, r0, -⟩ := id h.2.1
  exact TF_fl h (Fl_td (td' := opT ct td s) h.2.1 h1 (opT_r r1) (opT_0 r0)) (fr_up h1 ⟨by omega, by omega⟩)
theorem TF_ct {M M1 : jdM} {n t b f : Nat} {bs : Nat → Int} {p : TS} {ct td bk si ld : Nat → Int} {k : Nat} (h : TF M n t b f bs p ct td bk si ld) (h1 : M1 = up M (f + 1) (jdA 13 (up ct k (ct k + 1)))) (hk : ct k < 8) : TF M1 n t b f bs p (up ct k (ct k + 1)) td bk si ld := by
  obtain ⟨-, -, -, -, -, -, -, r1, -⟩ := id h.2.1
  refine TF_fl h (Fl_ct h.2.1 h1 (fun j => ?_)) (fr_up h1 ⟨by omega, by omega⟩)
  have := r1 j
  have := r1 k
  unfold up
  split <;> omega
set_option maxHeartbeats 1000000 in
set_option maxRecDepth 20000 in
theorem s_X4_tellLine_0 {l : Launch} {n : Nat} {M : jdM} {t b f : Nat} {bs : Nat → Int} {p : TS} {ct td bk si ld : Nat → Int} (H1 : TF M n t b f bs p ct td bk si ld) (hby : ∀ i, -128 ≤ bs i ∧ bs i < 128) : Ct l yX4_tellLine cX4_tellLine 3 none rX4_tellLine [.ref t, .ref f, jI 0] n M (fun vv n' M' => (vv = none ∧ n = n') ∧ TF M' n t b f bs (tlnP bs ct td 0 p).1 (tlnP bs ct td 0 p).2.1 (tlnP bs ct td 0 p).2.2 bk si ld ∧ fr (TlS b f) M M') := by
  refine Ct_of [some (.ref t), some (.ref f), some (jI 0)] (by decide) (Nat.le_of_ble_eq_true rfl) rfl (fun κ hl h hR hRt hmn hn0 => ?_)
  have h : Ok κ RX4 cX4_tellLine 3 none := h
  obtain ⟨E1, F1, hbf, htf⟩ := id H1
  obtain ⟨ht, hOt, X1, hPO, hsep⟩ := id E1
  obtain ⟨hnb, hOb, hYb, hNb, hSb, hKb⟩ := id X1
  obtain ⟨hfn, hFf, -⟩ := id F1
  have f1 : fr (TlS b f) M M := fr_rf
  refine jr_iload_n (pc := 0) h dX4_tellLine_0 rfl ?_
  refine jr_if_lt (pc := 1) h 10 dX4_tellLine_1 (by decide) (by omega) (fun c => absurd c (by omega)) (fun _ => ?_)
  refine jr_iload_n (pc := 4) h dX4_tellLine_4 rfl ?_
  refine jr_bipush (pc := 5) h dX4_tellLine_5 bp_13 ?_
  refine jr_icmp_lt (pc := 7) h 19 dX4_tellLine_7 (by decide) (by omega) (by omega) (fun _ => ?_) (fun c => absurd c (by omega))
  refine jr_aload_n (pc := 19) h dX4_tellLine_19 rfl ?_
  refine jr_iload_n (pc := 20) h dX4_tellLine_20 rfl ?_
  refine iv_X4_65 (pc := 21) h hl hR dX4_tellLine_21 ⟨(Nat.le_of_ble_eq_true rfl), (Nat.le_of_ble_eq_true rfl), (Nat.le_of_ble_eq_true rfl), (Nat.le_of_ble_eq_true rfl)⟩ (Nat.le_of_ble_eq_true rfl) (by assumption) (by omega) (s_X1_isFull F1 (by omega)) (fun v_21 n_21 M_21 hn_21 hp => ?_)
  obtain ⟨⟨rfl, rfl, rfl⟩, gr_21⟩ := hp
  have eF : bz ((0 : Int) < 0 ∨ (13 : Int) ≤ 0 ∨ (jtab 0).2.2 (Int.toNat 0) ≤ ct (Int.toNat 0)) = bz ((1 : Int) ≤ ct 0) := bz_iff ⟨fun q => q.elim (fun q => absurd q (by decide)) (fun q => q.elim (fun q => absurd q (by decide)) id), fun q => Or.inr (Or.inr q)⟩
  refine jr_if_eq (pc := 24) h 49 dX4_tellLine_24 (by decide) (by omega) (fun c_24 => ?_) (fun c_24 => ?_)
  · skip
    refine jr_aload_n (pc := 49) h dX4_tellLine_49 rfl ?_
    refine gf_X4_12 (pc := 50) h dX4_tellLine_50 (by assumption) (by omega) ?_
    refine iv_X4_69 (pc := 53) h hl hR dX4_tellLine_53 ⟨(Nat.le_of_ble_eq_true rfl), (Nat.le_of_ble_eq_true rfl), (Nat.le_of_ble_eq_true rfl), (Nat.le_of_ble_eq_true rfl)⟩ (Nat.le_of_ble_eq_true rfl) (by assumption) (by omega) (s_X6_next X1 hby ⟨hPO.1.1, hPO.1.2.2.1⟩ rfl rfl rfl) (fun v_53 n_53 M_53 hn_53 hp => ?_)
    have hct : ct 0 < 1 := Int.not_le.mp (fun q => absurd (bz_t (P := ((1 : Int) ≤ ct 0)) q) (by rw [← eF]; omega))
    have hc0 : 0 ≤ ct 0 := (F1.2.2.2.2.2.2.2.1 0).1
    obtain ⟨⟨rfl, rfl⟩, g9, T9, f9, q1, q2, q3, q4, q5, q7, q8, q12⟩ := hp
    have X9 := nxP_of (w := p.2.1) T9 q1 q2 q3 q4 q5 q7 q8 q12
    have H1 := TF_tk H1 X9 f9 (nxP_O hPO)
    have f1 := fr_tr f1 (fr_mo f9 (fun k hk => Or.inl hk))
    obtain ⟨E1, F1, hbf, htf⟩ := id H1
    obtain ⟨ht, hOt, X1, hPO, hsep⟩ := id E1
    obtain ⟨hnb, hOb, hYb, hNb, hSb, hKb⟩ := id X1
    obtain ⟨hfn, hFf, -⟩ := id F1
    refine jr_aload_n (pc := 56) h dX4_tellLine_56 rfl ?_
    refine jr_iload_n (pc := 57) h dX4_tellLine_57 rfl ?_
    refine iv_X4_72 (pc := 58) h hl hR dX4_tellLine_58 ⟨(Nat.le_of_ble_eq_true rfl), (Nat.le_of_ble_eq_true rfl), (Nat.le_of_ble_eq_true rfl), (Nat.le_of_ble_eq_true rfl)⟩ (Nat.le_of_ble_eq_true rfl) (by assumption) (by omega) (s_X1_open F1 (by omega) (show ct 0 < 8 by omega)) (fun v_58 n_58 M_58 hn_58 hp => ?_)
    obtain ⟨rfl, rfl, hM⟩ := hp
    have H1 := TF_op (s := 0) H1 hM
    have f1 := fr_tr f1 (fr_up hM (Or.inr ⟨by omega, by omega⟩))
    obtain ⟨E1, F1, hbf, htf⟩ := id H1
    obtain ⟨ht, hOt, X1, hPO, hsep⟩ := id E1
    obtain ⟨hnb, hOb, hYb, hNb, hSb, hKb⟩ := id X1
    obtain ⟨hfn, hFf, -⟩ := id F1
    refine jr_iload_n (pc := 61) h dX4_tellLine_61 rfl ?_
    refine jr_tableOut (pc := 62) h (x := 0) 159 dX4_tellLine_62 (by omega) (by omega) (by decide) ?_
    refine jr_aload_n (pc := 159) h dX4_tellLine_159 rfl ?_
    refine jr_aload_n (pc := 160) h dX4_tellLine_160 rfl ?_
    refine jr_iload_n (pc := 161) h dX4_tellLine_161 rfl ?_
    refine iv_X4_92 (pc := 162) h hl hR dX4_tellLine_162 ⟨(Nat.le_of_ble_eq_true rfl), (Nat.le_of_ble_eq_true rfl), (Nat.le_of_ble_eq_true rfl), (Nat.le_of_ble_eq_true rfl)⟩ (Nat.le_of_ble_eq_true rfl) (by assumption) (by omega) (s_X4_tellNumbers_0 H1 hby (show ct 0 < 8 by omega)) (fun v_162 n_162 M_162 hn_162 hp => ?_)
    obtain ⟨⟨rfl, rfl⟩, H1, fx⟩ := hp
    replace H1 : TF _ n t b f bs (ln_0 bs ct (nxP bs p) (opT ct td 0)).1 ct (ln_0 bs ct (nxP bs p) (opT ct td 0)).2 bk si ld := H1
    have f1 := fr_tr f1 fx
    obtain ⟨⟨p9, td9⟩, e9⟩ : ∃ r, ln_0 bs ct (nxP bs p) (opT ct td 0) = r := ⟨_, rfl⟩
    rw [e9] at H1
    replace H1 : TF _ n t b f bs p9 ct td9 bk si ld := H1
    obtain ⟨E1, F1, hbf, htf⟩ := id H1
    obtain ⟨ht, hOt, X1, hPO, hsep⟩ := id E1
    obtain ⟨hnb, hOb, hYb, hNb, hSb, hKb⟩ := id X1
    obtain ⟨hfn, hFf, -⟩ := id F1
    refine jr_aload_n (pc := 165) h dX4_tellLine_165 rfl ?_
    refine gf_X4_12 (pc := 166) h dX4_tellLine_166 (by assumption) (by omega) ?_
    refine iv_X4_35 (pc := 169) h hl hR dX4_tellLine_169 ⟨(Nat.le_of_ble_eq_true rfl), (Nat.le_of_ble_eq_true rfl), (Nat.le_of_ble_eq_true rfl), (Nat.le_of_ble_eq_true rfl)⟩ (Nat.le_of_ble_eq_true rfl) (by assumption) (by omega) (s_X6_isFine X1 hPO.1.2.2.2.2.1) (fun v_169 n_169 M_169 hn_169 hp => ?_)
    obtain ⟨⟨rfl, rfl, rfl⟩, gr_169⟩ := hp
    refine jr_if_eq (pc := 172) h 180 dX4_tellLine_172 (by decide) (by omega) (fun c_172 => ?_) (fun c_172 => ?_)
    · skip
      refine jr_vret (pc := 180) h hRt dX4_tellLine_180 (Nat.le_of_ble_eq_true rfl) (Nat.le_of_ble_eq_true rfl) ?_
      have eT : tlnP bs ct td 0 p = tlnC ct 0 (p9, td9) := by
        unfold tlnP
        rw [if_neg (by omega), if_neg (show ¬ ((jtab 0).2.2 (Int.toNat 0) ≤ ct (Int.toNat 0)) from (show ¬ ((1 : Int) ≤ ct 0) by omega)), ← e9]
        rfl
      rw [eT]
      first
      | (have e7 : p9.1 7 = 0 := bz_1.mp c_172
         have eC : tlnC ct 0 (p9, td9) = (p9, up ct 0 (ct 0 + 1), td9) := by
           unfold tlnC
           rw [if_pos e7]
           rfl
         rw [eC]
         exact ⟨⟨rfl, rfl⟩, H1, f1⟩)
      | (have e7 : ¬ p9.1 7 = 0 := bz_0.mp c_172
         have eC : tlnC ct 0 (p9, td9) = (p9, ct, td9) := by
           unfold tlnC
           rw [if_neg e7]
         rw [eC]
         exact ⟨⟨rfl, rfl⟩, H1, f1⟩)
    · skip
      refine jr_aload_n (pc := 175) h dX4_tellLine_175 rfl ?_
      refine jr_iload_n (pc := 176) h dX4_tellLine_176 rfl ?_
      refine iv_X4_95 (pc := 177) h hl hR dX4_tellLine_177 ⟨(Nat.le_of_ble_eq_true rfl), (Nat.le_of_ble_eq_true rfl), (Nat.le_of_ble_eq_true rfl), (Nat.le_of_ble_eq_true rfl)⟩ (Nat.le_of_ble_eq_true rfl) (by assumption) (by omega) (s_X1_close F1 (a := 0) (by omega) (show ct 0 < 1 by omega)) (fun v_177 n_177 M_177 hn_177 hp => ?_)
      obtain ⟨rfl, rfl, hM⟩ := hp
      have H1 := TF_ct (k := 0) H1 hM (by omega)
      have f1 := fr_tr f1 (fr_up hM (Or.inr ⟨by omega, by omega⟩))
      refine jr_vret (pc := 180) h hRt dX4_tellLine_180 (Nat.le_of_ble_eq_true rfl) (Nat.le_of_ble_eq_true rfl) ?_
      have eT : tlnP bs ct td 0 p = tlnC ct 0 (p9, td9) := by
        unfold tlnP
        rw [if_neg (by omega), if_neg (show ¬ ((jtab 0).2.2 (Int.toNat 0) ≤ ct (Int.toNat 0)) from (show ¬ ((1 : Int) ≤ ct 0) by omega)), ← e9]
        rfl
      rw [eT]
      first
      | (have e7 : p9.1 7 = 0 := bz_1.mp c_172
         have eC : tlnC ct 0 (p9, td9) = (p9, up ct 0 (ct 0 + 1), td9) := by
           unfold tlnC
           rw [if_pos e7]
           rfl
         rw [eC]
         exact ⟨⟨rfl, rfl⟩, H1, f1⟩)
      | (have e7 : ¬ p9.1 7 = 0 := bz_0.mp c_172
         have eC : tlnC ct 0 (p9, td9) = (p9, ct, td9) := by
           unfold tlnC
           rw [if_neg e7]
         rw [eC]
         exact ⟨⟨rfl, rfl⟩, H1, f1⟩)
  · skip
    refine jr_aload_n (pc := 27) h dX4_tellLine_27 rfl ?_
    refine gf_X4_12 (pc := 28) h dX4_tellLine_28 (by assumption) (by omega) ?_
    refine jr_iload_n (pc := 31) h dX4_tellLine_31 rfl ?_
    refine jr_if_eq (pc := 32) h 40 dX4_tellLine_32 (by decide) (by omega) (fun _ => ?_) (fun c => absurd c (by omega))
    refine jr_iconst (pc := 40) h dX4_tellLine_40 ?_
    refine jr_goto (pc := 41) h 45 dX4_tellLine_41 (by decide) ?_
    refine iv_X4_56 (pc := 45) h hl hR dX4_tellLine_45 ⟨(Nat.le_of_ble_eq_true rfl), (Nat.le_of_ble_eq_true rfl), (Nat.le_of_ble_eq_true rfl), (Nat.le_of_ble_eq_true rfl)⟩ (Nat.le_of_ble_eq_true rfl) (by assumption) (by omega) (s_X6_fail X1 hPO.1.2.2.2.2.1) (fun v_45 n_45 M_45 hn_45 hp => ?_)
    obtain ⟨⟨rfl, rfl⟩, g9, T9, f9, q1, q2, q3, q4, q5, q7, q8, q12⟩ := hp
    have X9 := flP_of T9 q1 q2 q3 q4 q5 q7 q8 q12
    have H9 := TF_tk H1 X9 f9 (flP_O hPO (by omega))
    refine jr_vret (pc := 48) h hRt dX4_tellLine_48 (Nat.le_of_ble_eq_true rfl) (Nat.le_of_ble_eq_true rfl) ?_
    have eT : tlnP bs ct td 0 p = (flP 3 p, ct, td) := by
      unfold tlnP
      rw [if_neg (by omega), if_pos (show (jtab 0).2.2 (Int.toNat 0) ≤ ct (Int.toNat 0) from (show ((1 : Int) ≤ ct 0) from bz_1.mp (by rw [← eF]; omega)))]
      rfl
    rw [eT]
    exact ⟨⟨rfl, rfl⟩, H9, fr_mo f9 (fun k hk => Or.inl hk)⟩
set_option maxHeartbeats 1000000 in
set_option maxRecDepth 20000 in
theorem s_X4_tellLine_1 {l : Launch} {n : Nat} {M : jdM} {t b f : Nat} {bs : Nat → Int} {p : TS} {ct td bk si ld : Nat → Int} (H1 : TF M n t b f bs p ct td bk si ld) (hby : ∀ i, -128 ≤ bs i ∧ bs i < 128) : Ct l yX4_tellLine cX4_tellLine 3 none rX4_tellLine [.ref t, .ref f, jI 1] n M (fun vv n' M' => (vv = none ∧ n = n') ∧ TF M' n t b f bs (tlnP bs ct td 1 p).1 (tlnP bs ct td 1 p).2.1 (tlnP bs ct td 1 p).2.2 bk si ld ∧ fr (TlS b f) M M') := by
  refine Ct_of [some (.ref t), some (.ref f), some (jI 1)] (by decide) (Nat.le_of_ble_eq_true rfl) rfl (fun κ hl h hR hRt hmn hn0 => ?_)
  have h : Ok κ RX4 cX4_tellLine 3 none := h
  obtain ⟨E1, F1, hbf, htf⟩ := id H1
  obtain ⟨ht, hOt, X1, hPO, hsep⟩ := id E1
  obtain ⟨hnb, hOb, hYb, hNb, hSb, hKb⟩ := id X1
  obtain ⟨hfn, hFf, -⟩ := id F1
  have f1 : fr (TlS b f) M M := fr_rf
  refine jr_iload_n (pc := 0) h dX4_tellLine_0 rfl ?_
  refine jr_if_lt (pc := 1) h 10 dX4_tellLine_1 (by decide) (by omega) (fun c => absurd c (by omega)) (fun _ => ?_)
  refine jr_iload_n (pc := 4) h dX4_tellLine_4 rfl ?_
  refine jr_bipush (pc := 5) h dX4_tellLine_5 bp_13 ?_
  refine jr_icmp_lt (pc := 7) h 19 dX4_tellLine_7 (by decide) (by omega) (by omega) (fun _ => ?_) (fun c => absurd c (by omega))
  refine jr_aload_n (pc := 19) h dX4_tellLine_19 rfl ?_
  refine jr_iload_n (pc := 20) h dX4_tellLine_20 rfl ?_
  refine iv_X4_65 (pc := 21) h hl hR dX4_tellLine_21 ⟨(Nat.le_of_ble_eq_true rfl), (Nat.le_of_ble_eq_true rfl), (Nat.le_of_ble_eq_true rfl), (Nat.le_of_ble_eq_true rfl)⟩ (Nat.le_of_ble_eq_true rfl) (by assumption) (by omega) (s_X1_isFull F1 (by omega)) (fun v_21 n_21 M_21 hn_21 hp => ?_)
  obtain ⟨⟨rfl, rfl, rfl⟩, gr_21⟩ := hp
  have eF : bz ((1 : Int) < 0 ∨ (13 : Int) ≤ 1 ∨ (jtab 0).2.2 (Int.toNat 1) ≤ ct (Int.toNat 1)) = bz ((1 : Int) ≤ ct 1) := bz_iff ⟨fun q => q.elim (fun q => absurd q (by decide)) (fun q => q.elim (fun q => absurd q (by decide)) id), fun q => Or.inr (Or.inr q)⟩
  refine jr_if_eq (pc := 24) h 49 dX4_tellLine_24 (by decide) (by omega) (fun c_24 => ?_) (fun c_24 => ?_)
  · skip
    refine jr_aload_n (pc := 49) h dX4_tellLine_49 rfl ?_
    refine gf_X4_12 (pc := 50) h dX4_tellLine_50 (by assumption) (by omega) ?_
    refine iv_X4_69 (pc := 53) h hl hR dX4_tellLine_53 ⟨(Nat.le_of_ble_eq_true rfl), (Nat.le_of_ble_eq_true rfl), (Nat.le_of_ble_eq_true rfl), (Nat.le_of_ble_eq_true rfl)⟩ (Nat.le_of_ble_eq_true rfl) (by assumption) (by omega) (s_X6_next X1 hby ⟨hPO.1.1, hPO.1.2.2.1⟩ rfl rfl rfl) (fun v_53 n_53 M_53 hn_53 hp => ?_)
    have hct : ct 1 < 1 := Int.not_le.mp (fun q => absurd (bz_t (P := ((1 : Int) ≤ ct 1)) q) (by rw [← eF]; omega))
    have hc0 : 0 ≤ ct 1 := (F1.2.2.2.2.2.2.2.1 1).1
    obtain ⟨⟨rfl, rfl⟩, g9, T9, f9, q1, q2, q3, q4, q5, q7, q8, q12⟩ := hp
    have X9 := nxP_of (w := p.2.1) T9 q1 q2 q3 q4 q5 q7 q8 q12
    have H1 := TF_tk H1 X9 f9 (nxP_O hPO)
    have f1 := fr_tr f1 (fr_mo f9 (fun k hk => Or.inl hk))
    obtain ⟨E1, F1, hbf, htf⟩ := id H1
    obtain ⟨ht, hOt, X1, hPO, hsep⟩ := id E1
    obtain ⟨hnb, hOb, hYb, hNb, hSb, hKb⟩ := id X1
    obtain ⟨hfn, hFf, -⟩ := id F1
    refine jr_aload_n (pc := 56) h dX4_tellLine_56 rfl ?_
    refine jr_iload_n (pc := 57) h dX4_tellLine_57 rfl ?_
    refine iv_X4_72 (pc := 58) h hl hR dX4_tellLine_58 ⟨(Nat.le_of_ble_eq_true rfl), (Nat.le_of_ble_eq_true rfl), (Nat.le_of_ble_eq_true rfl), (Nat.le_of_ble_eq_true rfl)⟩ (Nat.le_of_ble_eq_true rfl) (by assumption) (by omega) (s_X1_open F1 (by omega) (show ct 1 < 8 by omega)) (fun v_58 n_58 M_58 hn_58 hp => ?_)
    obtain ⟨rfl, rfl, hM⟩ := hp
    have H1 := TF_op (s := 1) H1 hM
    have f1 := fr_tr f1 (fr_up hM (Or.inr ⟨by omega, by omega⟩))
    obtain ⟨E1, F1, hbf, htf⟩ := id H1
    obtain ⟨ht, hOt, X1, hPO, hsep⟩ := id E1
    obtain ⟨hnb, hOb, hYb, hNb, hSb, hKb⟩ := id X1
    obtain ⟨hfn, hFf, -⟩ := id F1
    refine jr_iload_n (pc := 61) h dX4_tellLine_61 rfl ?_
    refine jr_tableOut (pc := 62) h (x := 1) 159 dX4_tellLine_62 (by omega) (by omega) (by decide) ?_
    refine jr_aload_n (pc := 159) h dX4_tellLine_159 rfl ?_
    refine jr_aload_n (pc := 160) h dX4_tellLine_160 rfl ?_
    refine jr_iload_n (pc := 161) h dX4_tellLine_161 rfl ?_
    refine iv_X4_92 (pc := 162) h hl hR dX4_tellLine_162 ⟨(Nat.le_of_ble_eq_true rfl), (Nat.le_of_ble_eq_true rfl), (Nat.le_of_ble_eq_true rfl), (Nat.le_of_ble_eq_true rfl)⟩ (Nat.le_of_ble_eq_true rfl) (by assumption) (by omega) (s_X4_tellNumbers_1 H1 hby (show ct 1 < 8 by omega)) (fun v_162 n_162 M_162 hn_162 hp => ?_)
    obtain ⟨⟨rfl, rfl⟩, H1, fx⟩ := hp
    replace H1 : TF _ n t b f bs (ln_1 bs ct (nxP bs p) (opT ct td 1)).1 ct (ln_1 bs ct (nxP bs p) (opT ct td 1)).2 bk si ld := H1
    have f1 := fr_tr f1 fx
    obtain ⟨⟨p9, td9⟩, e9⟩ : ∃ r, ln_1 bs ct (nxP bs p) (opT ct td 1) = r := ⟨_, rfl⟩
    rw [e9] at H1
    replace H1 : TF _ n t b f bs p9 ct td9 bk si ld := H1
    obtain ⟨E1, F1, hbf, htf⟩ := id H1
    obtain ⟨ht, hOt, X1, hPO, hsep⟩ := id E1
    obtain ⟨hnb, hOb, hYb, hNb, hSb, hKb⟩ := id X1
    obtain ⟨hfn, hFf, -⟩ := id F1
    refine jr_aload_n (pc := 165) h dX4_tellLine_165 rfl ?_
    refine gf_X4_12 (pc := 166) h dX4_tellLine_166 (by assumption) (by omega) ?_
    refine iv_X4_35 (pc := 169) h hl hR dX4_tellLine_169 ⟨(Nat.le_of_ble_eq_true rfl), (Nat.le_of_ble_eq_true rfl), (Nat.le_of_ble_eq_true rfl), (Nat.le_of_ble_eq_true rfl)⟩ (Nat.le_of_ble_eq_true rfl) (by assumption) (by omega) (s_X6_isFine X1 hPO.1.2.2.2.2.1) (fun v_169 n_169 M_169 hn_169 hp => ?_)
    obtain ⟨⟨rfl, rfl, rfl⟩, gr_169⟩ := hp
    refine jr_if_eq (pc := 172) h 180 dX4_tellLine_172 (by decide) (by omega) (fun c_172 => ?_) (fun c_172 => ?_)
    · skip
      refine jr_vret (pc := 180) h hRt dX4_tellLine_180 (Nat.le_of_ble_eq_true rfl) (Nat.le_of_ble_eq_true rfl) ?_
      have eT : tlnP bs ct td 1 p = tlnC ct 1 (p9, td9) := by
        unfold tlnP
        rw [if_neg (by omega), if_neg (show ¬ ((jtab 0).2.2 (Int.toNat 1) ≤ ct (Int.toNat 1)) from (show ¬ ((1 : Int) ≤ ct 1) by omega)), ← e9]
        rfl
      rw [eT]
      first
      | (have e7 : p9.1 7 = 0 := bz_1.mp c_172
         have eC : tlnC ct 1 (p9, td9) = (p9, up ct 1 (ct 1 + 1), td9) := by
           unfold tlnC
           rw [if_pos e7]
           rfl
         rw [eC]
         exact ⟨⟨rfl, rfl⟩, H1, f1⟩)
      | (have e7 : ¬ p9.1 7 = 0 := bz_0.mp c_172
         have eC : tlnC ct 1 (p9, td9) = (p9, ct, td9) := by
           unfold tlnC
           rw [if_neg e7]
         rw [eC]
         exact ⟨⟨rfl, rfl⟩, H1, f1⟩)
    · skip
      refine jr_aload_n (pc := 175) h dX4_tellLine_175 rfl ?_
      refine jr_iload_n (pc := 176) h dX4_tellLine_176 rfl ?_
      refine iv_X4_95 (pc := 177) h hl hR dX4_tellLine_177 ⟨(Nat.le_of_ble_eq_true rfl), (Nat.le_of_ble_eq_true rfl), (Nat.le_of_ble_eq_true rfl), (Nat.le_of_ble_eq_true rfl)⟩ (Nat.le_of_ble_eq_true rfl) (by assumption) (by omega) (s_X1_close F1 (a := 1) (by omega) (show ct 1 < 1 by omega)) (fun v_177 n_177 M_177 hn_177 hp => ?_)
      obtain ⟨rfl, rfl, hM⟩ := hp
      have H1 := TF_ct (k := 1) H1 hM (by omega)
      have f1 := fr_tr f1 (fr_up hM (Or.inr ⟨by omega, by omega⟩))
      refine jr_vret (pc := 180) h hRt dX4_tellLine_180 (Nat.le_of_ble_eq_true rfl) (Nat.le_of_ble_eq_true rfl) ?_
      have eT : tlnP bs ct td 1 p = tlnC ct 1 (p9, td9) := by
        unfold tlnP
        rw [if_neg (by omega), if_neg (show ¬ ((jtab 0).2.2 (Int.toNat 1) ≤ ct (Int.toNat 1)) from (show ¬ ((1 : Int) ≤ ct 1) by omega)), ← e9]
        rfl
      rw [eT]
      first
      | (have e7 : p9.1 7 = 0 := bz_1.mp c_172
         have eC : tlnC ct 1 (p9, td9) = (p9, up ct 1 (ct 1 + 1), td9) := by
           unfold tlnC
           rw [if_pos e7]
           rfl
         rw [eC]
         exact ⟨⟨rfl, rfl⟩, H1, f1⟩)
      | (have e7 : ¬ p9.1 7 = 0 := bz_0.mp c_172
         have eC : tlnC ct 1 (p9, td9) = (p9, ct, td9) := by
           unfold tlnC
           rw [if_neg e7]
         rw [eC]
         exact ⟨⟨rfl, rfl⟩, H1, f1⟩)
  · skip
    refine jr_aload_n (pc := 27) h dX4_tellLine_27 rfl ?_
    refine gf_X4_12 (pc := 28) h dX4_tellLine_28 (by assumption) (by omega) ?_
    refine jr_iload_n (pc := 31) h dX4_tellLine_31 rfl ?_
    refine jr_if_eq (pc := 32) h 40 dX4_tellLine_32 (by decide) (by omega) (fun c => absurd c (by omega)) (fun _ => ?_)
    refine jr_iload_n (pc := 35) h dX4_tellLine_35 rfl ?_
    refine jr_iconst (pc := 36) h dX4_tellLine_36 ?_
    refine jr_icmp_ne (pc := 37) h 44 dX4_tellLine_37 (by decide) (by omega) (by omega) (fun c => absurd c (by omega)) (fun _ => ?_)
    refine jr_iconst (pc := 40) h dX4_tellLine_40 ?_
    refine jr_goto (pc := 41) h 45 dX4_tellLine_41 (by decide) ?_
    refine iv_X4_56 (pc := 45) h hl hR dX4_tellLine_45 ⟨(Nat.le_of_ble_eq_true rfl), (Nat.le_of_ble_eq_true rfl), (Nat.le_of_ble_eq_true rfl), (Nat.le_of_ble_eq_true rfl)⟩ (Nat.le_of_ble_eq_true rfl) (by assumption) (by omega) (s_X6_fail X1 hPO.1.2.2.2.2.1) (fun v_45 n_45 M_45 hn_45 hp => ?_)
    obtain ⟨⟨rfl, rfl⟩, g9, T9, f9, q1, q2, q3, q4, q5, q7, q8, q12⟩ := hp
    have X9 := flP_of T9 q1 q2 q3 q4 q5 q7 q8 q12
    have H9 := TF_tk H1 X9 f9 (flP_O hPO (by omega))
    refine jr_vret (pc := 48) h hRt dX4_tellLine_48 (Nat.le_of_ble_eq_true rfl) (Nat.le_of_ble_eq_true rfl) ?_
    have eT : tlnP bs ct td 1 p = (flP 3 p, ct, td) := by
      unfold tlnP
      rw [if_neg (by omega), if_pos (show (jtab 0).2.2 (Int.toNat 1) ≤ ct (Int.toNat 1) from (show ((1 : Int) ≤ ct 1) from bz_1.mp (by rw [← eF]; omega)))]
      rfl
    rw [eT]
    exact ⟨⟨rfl, rfl⟩, H9, fr_mo f9 (fun k hk => Or.inl hk)⟩
set_option maxHeartbeats 1000000 in
set_option maxRecDepth 20000 in
theorem s_X4_tellLine_2 {l : Launch} {n : Nat} {M : jdM} {t b f : Nat} {bs : Nat → Int} {p : TS} {ct td bk si ld : Nat → Int} (H1 : TF M n t b f bs p ct td bk si ld) (hby : ∀ i, -128 ≤ bs i ∧ bs i < 128) : Ct l yX4_tellLine cX4_tellLine 3 none rX4_tellLine [.ref t, .ref f, jI 2] n M (fun vv n' M' => (vv = none ∧ n = n') ∧ TF M' n t b f bs (tlnP bs ct td 2 p).1 (tlnP bs ct td 2 p).2.1 (tlnP bs ct td 2 p).2.2 bk si ld ∧ fr (TlS b f) M M') := by
  refine Ct_of [some (.ref t), some (.ref f), some (jI 2)] (by decide) (Nat.le_of_ble_eq_true rfl) rfl (fun κ hl h hR hRt hmn hn0 => ?_)
  have h : Ok κ RX4 cX4_tellLine 3 none := h
  obtain ⟨E1, F1, hbf, htf⟩ := id H1
  obtain ⟨ht, hOt, X1, hPO, hsep⟩ := id E1
  obtain ⟨hnb, hOb, hYb, hNb, hSb, hKb⟩ := id X1
  obtain ⟨hfn, hFf, -⟩ := id F1
  have f1 : fr (TlS b f) M M := fr_rf
  refine jr_iload_n (pc := 0) h dX4_tellLine_0 rfl ?_
  refine jr_if_lt (pc := 1) h 10 dX4_tellLine_1 (by decide) (by omega) (fun c => absurd c (by omega)) (fun _ => ?_)
  refine jr_iload_n (pc := 4) h dX4_tellLine_4 rfl ?_
  refine jr_bipush (pc := 5) h dX4_tellLine_5 bp_13 ?_
  refine jr_icmp_lt (pc := 7) h 19 dX4_tellLine_7 (by decide) (by omega) (by omega) (fun _ => ?_) (fun c => absurd c (by omega))
  refine jr_aload_n (pc := 19) h dX4_tellLine_19 rfl ?_
  refine jr_iload_n (pc := 20) h dX4_tellLine_20 rfl ?_
  refine iv_X4_65 (pc := 21) h hl hR dX4_tellLine_21 ⟨(Nat.le_of_ble_eq_true rfl), (Nat.le_of_ble_eq_true rfl), (Nat.le_of_ble_eq_true rfl), (Nat.le_of_ble_eq_true rfl)⟩ (Nat.le_of_ble_eq_true rfl) (by assumption) (by omega) (s_X1_isFull F1 (by omega)) (fun v_21 n_21 M_21 hn_21 hp => ?_)
  obtain ⟨⟨rfl, rfl, rfl⟩, gr_21⟩ := hp
  have eF : bz ((2 : Int) < 0 ∨ (13 : Int) ≤ 2 ∨ (jtab 0).2.2 (Int.toNat 2) ≤ ct (Int.toNat 2)) = bz ((4 : Int) ≤ ct 2) := bz_iff ⟨fun q => q.elim (fun q => absurd q (by decide)) (fun q => q.elim (fun q => absurd q (by decide)) id), fun q => Or.inr (Or.inr q)⟩
  refine jr_if_eq (pc := 24) h 49 dX4_tellLine_24 (by decide) (by omega) (fun c_24 => ?_) (fun c_24 => ?_)
  · skip
    refine jr_aload_n (pc := 49) h dX4_tellLine_49 rfl ?_
    refine gf_X4_12 (pc := 50) h dX4_tellLine_50 (by assumption) (by omega) ?_
    refine iv_X4_69 (pc := 53) h hl hR dX4_tellLine_53 ⟨(Nat.le_of_ble_eq_true rfl), (Nat.le_of_ble_eq_true rfl), (Nat.le_of_ble_eq_true rfl), (Nat.le_of_ble_eq_true rfl)⟩ (Nat.le_of_ble_eq_true rfl) (by assumption) (by omega) (s_X6_next X1 hby ⟨hPO.1.1, hPO.1.2.2.1⟩ rfl rfl rfl) (fun v_53 n_53 M_53 hn_53 hp => ?_)
    have hct : ct 2 < 4 := Int.not_le.mp (fun q => absurd (bz_t (P := ((4 : Int) ≤ ct 2)) q) (by rw [← eF]; omega))
    have hc0 : 0 ≤ ct 2 := (F1.2.2.2.2.2.2.2.1 2).1
    obtain ⟨⟨rfl, rfl⟩, g9, T9, f9, q1, q2, q3, q4, q5, q7, q8, q12⟩ := hp
    have X9 := nxP_of (w := p.2.1) T9 q1 q2 q3 q4 q5 q7 q8 q12
    have H1 := TF_tk H1 X9 f9 (nxP_O hPO)
    have f1 := fr_tr f1 (fr_mo f9 (fun k hk => Or.inl hk))
    obtain ⟨E1, F1, hbf, htf⟩ := id H1
    obtain ⟨ht, hOt, X1, hPO, hsep⟩ := id E1
    obtain ⟨hnb, hOb, hYb, hNb, hSb, hKb⟩ := id X1
    obtain ⟨hfn, hFf, -⟩ := id F1
    refine jr_aload_n (pc := 56) h dX4_tellLine_56 rfl ?_
    refine jr_iload_n (pc := 57) h dX4_tellLine_57 rfl ?_
    refine iv_X4_72 (pc := 58) h hl hR dX4_tellLine_58 ⟨(Nat.le_of_ble_eq_true rfl), (Nat.le_of_ble_eq_true rfl), (Nat.le_of_ble_eq_true rfl), (Nat.le_of_ble_eq_true rfl)⟩ (Nat.le_of_ble_eq_true rfl) (by assumption) (by omega) (s_X1_open F1 (by omega) (show ct 2 < 8 by omega)) (fun v_58 n_58 M_58 hn_58 hp => ?_)
    obtain ⟨rfl, rfl, hM⟩ := hp
    have H1 := TF_op (s := 2) H1 hM
    have f1 := fr_tr f1 (fr_up hM (Or.inr ⟨by omega, by omega⟩))
    obtain ⟨E1, F1, hbf, htf⟩ := id H1
    obtain ⟨ht, hOt, X1, hPO, hsep⟩ := id E1
    obtain ⟨hnb, hOb, hYb, hNb, hSb, hKb⟩ := id X1
    obtain ⟨hfn, hFf, -⟩ := id F1
    refine jr_iload_n (pc := 61) h dX4_tellLine_61 rfl ?_
    refine jr_tableIn (pc := 62) h (x := 2) (off := 58) 120 dX4_tellLine_62 (by omega) (by omega) (by omega) rfl (by decide) ?_
    refine jr_aload_n (pc := 120) h dX4_tellLine_120 rfl ?_
    refine gf_X4_12 (pc := 121) h dX4_tellLine_121 (by assumption) (by omega) ?_
    refine jr_iload_n (pc := 124) h dX4_tellLine_124 rfl ?_
    refine jr_aload_n (pc := 125) h dX4_tellLine_125 rfl ?_
    refine jr_iload_n (pc := 126) h dX4_tellLine_126 rfl ?_
    refine iv_X4_75 (pc := 127) h hl hR dX4_tellLine_127 ⟨(Nat.le_of_ble_eq_true rfl), (Nat.le_of_ble_eq_true rfl), (Nat.le_of_ble_eq_true rfl), (Nat.le_of_ble_eq_true rfl)⟩ (Nat.le_of_ble_eq_true rfl) (by assumption) (by omega) (s_X1_count F1 (a := 2) (by omega)) (fun v_127 n_127 M_127 hn_127 hp => ?_)
    obtain ⟨⟨rfl, rfl, rfl⟩, gr_127⟩ := hp
    have ecn : c_count ct 2 = ct 2 := if_pos (by omega)
    rw [ecn]
    refine iv_X4_79 (pc := 130) h hl hR dX4_tellLine_130 ⟨(Nat.le_of_ble_eq_true rfl), (Nat.le_of_ble_eq_true rfl), (Nat.le_of_ble_eq_true rfl), (Nat.le_of_ble_eq_true rfl)⟩ (Nat.le_of_ble_eq_true rfl) (by assumption) (by omega) (s_X6_expectNewName (a := 2) (c := ct 2) X1 hPO hby) (fun v_130 n_130 M_130 hn_130 hp => ?_)
    obtain ⟨⟨rfl, rfl⟩, X9, f9⟩ := hp
    have H1 := TF_tk H1 X9 f9 (nnP_O hPO (by omega) (by omega))
    have f1 := fr_tr f1 (fr_mo f9 (fun k hk => Or.inl hk))
    obtain ⟨E1, F1, hbf, htf⟩ := id H1
    obtain ⟨ht, hOt, X1, hPO, hsep⟩ := id E1
    obtain ⟨hnb, hOb, hYb, hNb, hSb, hKb⟩ := id X1
    obtain ⟨hfn, hFf, -⟩ := id F1
    refine jr_aload_n (pc := 133) h dX4_tellLine_133 rfl ?_
    refine jr_aload_n (pc := 134) h dX4_tellLine_134 rfl ?_
    refine jr_iload_n (pc := 135) h dX4_tellLine_135 rfl ?_
    refine iv_X4_82 (pc := 136) h hl hR dX4_tellLine_136 ⟨(Nat.le_of_ble_eq_true rfl), (Nat.le_of_ble_eq_true rfl), (Nat.le_of_ble_eq_true rfl), (Nat.le_of_ble_eq_true rfl)⟩ (Nat.le_of_ble_eq_true rfl) (by assumption) (by omega) (s_X4_tellNamedThing_2 H1 hby (show ct 2 < 8 by omega)) (fun v_136 n_136 M_136 hn_136 hp => ?_)
    obtain ⟨⟨rfl, rfl⟩, H1, fx⟩ := hp
    replace H1 : TF _ n t b f bs (ln_2 bs ct (nnP bs 2 (ct 2) (nxP bs p)) (opT ct td 2)).1 ct (ln_2 bs ct (nnP bs 2 (ct 2) (nxP bs p)) (opT ct td 2)).2 bk si ld := H1
    have f1 := fr_tr f1 fx
    obtain ⟨⟨p9, td9⟩, e9⟩ : ∃ r, ln_2 bs ct (nnP bs 2 (ct 2) (nxP bs p)) (opT ct td 2) = r := ⟨_, rfl⟩
    rw [e9] at H1
    replace H1 : TF _ n t b f bs p9 ct td9 bk si ld := H1
    obtain ⟨E1, F1, hbf, htf⟩ := id H1
    obtain ⟨ht, hOt, X1, hPO, hsep⟩ := id E1
    obtain ⟨hnb, hOb, hYb, hNb, hSb, hKb⟩ := id X1
    obtain ⟨hfn, hFf, -⟩ := id F1
    refine jr_goto (pc := 139) h 165 dX4_tellLine_139 (by decide) ?_
    refine jr_aload_n (pc := 165) h dX4_tellLine_165 rfl ?_
    refine gf_X4_12 (pc := 166) h dX4_tellLine_166 (by assumption) (by omega) ?_
    refine iv_X4_35 (pc := 169) h hl hR dX4_tellLine_169 ⟨(Nat.le_of_ble_eq_true rfl), (Nat.le_of_ble_eq_true rfl), (Nat.le_of_ble_eq_true rfl), (Nat.le_of_ble_eq_true rfl)⟩ (Nat.le_of_ble_eq_true rfl) (by assumption) (by omega) (s_X6_isFine X1 hPO.1.2.2.2.2.1) (fun v_169 n_169 M_169 hn_169 hp => ?_)
    obtain ⟨⟨rfl, rfl, rfl⟩, gr_169⟩ := hp
    refine jr_if_eq (pc := 172) h 180 dX4_tellLine_172 (by decide) (by omega) (fun c_172 => ?_) (fun c_172 => ?_)
    · skip
      refine jr_vret (pc := 180) h hRt dX4_tellLine_180 (Nat.le_of_ble_eq_true rfl) (Nat.le_of_ble_eq_true rfl) ?_
      have eT : tlnP bs ct td 2 p = tlnC ct 2 (p9, td9) := by
        unfold tlnP
        rw [if_neg (by omega), if_neg (show ¬ ((jtab 0).2.2 (Int.toNat 2) ≤ ct (Int.toNat 2)) from (show ¬ ((4 : Int) ≤ ct 2) by omega)), ← e9]
        rfl
      rw [eT]
      first
      | (have e7 : p9.1 7 = 0 := bz_1.mp c_172
         have eC : tlnC ct 2 (p9, td9) = (p9, up ct 2 (ct 2 + 1), td9) := by
           unfold tlnC
           rw [if_pos e7]
           rfl
         rw [eC]
         exact ⟨⟨rfl, rfl⟩, H1, f1⟩)
      | (have e7 : ¬ p9.1 7 = 0 := bz_0.mp c_172
         have eC : tlnC ct 2 (p9, td9) = (p9, ct, td9) := by
           unfold tlnC
           rw [if_neg e7]
         rw [eC]
         exact ⟨⟨rfl, rfl⟩, H1, f1⟩)
    · skip
      refine jr_aload_n (pc := 175) h dX4_tellLine_175 rfl ?_
      refine jr_iload_n (pc := 176) h dX4_tellLine_176 rfl ?_
      refine iv_X4_95 (pc := 177) h hl hR dX4_tellLine_177 ⟨(Nat.le_of_ble_eq_true rfl), (Nat.le_of_ble_eq_true rfl), (Nat.le_of_ble_eq_true rfl), (Nat.le_of_ble_eq_true rfl)⟩ (Nat.le_of_ble_eq_true rfl) (by assumption) (by omega) (s_X1_close F1 (a := 2) (by omega) (show ct 2 < 4 by omega)) (fun v_177 n_177 M_177 hn_177 hp => ?_)
      obtain ⟨rfl, rfl, hM⟩ := hp
      have H1 := TF_ct (k := 2) H1 hM (by omega)
      have f1 := fr_tr f1 (fr_up hM (Or.inr ⟨by omega, by omega⟩))
      refine jr_vret (pc := 180) h hRt dX4_tellLine_180 (Nat.le_of_ble_eq_true rfl) (Nat.le_of_ble_eq_true rfl) ?_
      have eT : tlnP bs ct td 2 p = tlnC ct 2 (p9, td9) := by
        unfold tlnP
        rw [if_neg (by omega), if_neg (show ¬ ((jtab 0).2.2 (Int.toNat 2) ≤ ct (Int.toNat 2)) from (show ¬ ((4 : Int) ≤ ct 2) by omega)), ← e9]
        rfl
      rw [eT]
      first
      | (have e7 : p9.1 7 = 0 := bz_1.mp c_172
         have eC : tlnC ct 2 (p9, td9) = (p9, up ct 2 (ct 2 + 1), td9) := by
           unfold tlnC
           rw [if_pos e7]
           rfl
         rw [eC]
         exact ⟨⟨rfl, rfl⟩, H1, f1⟩)
      | (have e7 : ¬ p9.1 7 = 0 := bz_0.mp c_172
         have eC : tlnC ct 2 (p9, td9) = (p9, ct, td9) := by
           unfold tlnC
           rw [if_neg e7]
         rw [eC]
         exact ⟨⟨rfl, rfl⟩, H1, f1⟩)
  · skip
    refine jr_aload_n (pc := 27) h dX4_tellLine_27 rfl ?_
    refine gf_X4_12 (pc := 28) h dX4_tellLine_28 (by assumption) (by omega) ?_
    refine jr_iload_n (pc := 31) h dX4_tellLine_31 rfl ?_
    refine jr_if_eq (pc := 32) h 40 dX4_tellLine_32 (by decide) (by omega) (fun c => absurd c (by omega)) (fun _ => ?_)
    refine jr_iload_n (pc := 35) h dX4_tellLine_35 rfl ?_
    refine jr_iconst (pc := 36) h dX4_tellLine_36 ?_
    refine jr_icmp_ne (pc := 37) h 44 dX4_tellLine_37 (by decide) (by omega) (by omega) (fun _ => ?_) (fun c => absurd c (by omega))
    refine jr_iconst (pc := 44) h dX4_tellLine_44 ?_
    refine iv_X4_56 (pc := 45) h hl hR dX4_tellLine_45 ⟨(Nat.le_of_ble_eq_true rfl), (Nat.le_of_ble_eq_true rfl), (Nat.le_of_ble_eq_true rfl), (Nat.le_of_ble_eq_true rfl)⟩ (Nat.le_of_ble_eq_true rfl) (by assumption) (by omega) (s_X6_fail X1 hPO.1.2.2.2.2.1) (fun v_45 n_45 M_45 hn_45 hp => ?_)
    obtain ⟨⟨rfl, rfl⟩, g9, T9, f9, q1, q2, q3, q4, q5, q7, q8, q12⟩ := hp
    have X9 := flP_of T9 q1 q2 q3 q4 q5 q7 q8 q12
    have H9 := TF_tk H1 X9 f9 (flP_O hPO (by omega))
    refine jr_vret (pc := 48) h hRt dX4_tellLine_48 (Nat.le_of_ble_eq_true rfl) (Nat.le_of_ble_eq_true rfl) ?_
    have eT : tlnP bs ct td 2 p = (flP 5 p, ct, td) := by
      unfold tlnP
      rw [if_neg (by omega), if_pos (show (jtab 0).2.2 (Int.toNat 2) ≤ ct (Int.toNat 2) from (show ((4 : Int) ≤ ct 2) from bz_1.mp (by rw [← eF]; omega)))]
      rfl
    rw [eT]
    exact ⟨⟨rfl, rfl⟩, H9, fr_mo f9 (fun k hk => Or.inl hk)⟩
set_option maxHeartbeats 1000000 in
set_option maxRecDepth 20000 in
theorem s_X4_tellLine_3 {l : Launch} {n : Nat} {M : jdM} {t b f : Nat} {bs : Nat → Int} {p : TS} {ct td bk si ld : Nat → Int} (H1 : TF M n t b f bs p ct td bk si ld) (hby : ∀ i, -128 ≤ bs i ∧ bs i < 128) : Ct l yX4_tellLine cX4_tellLine 3 none rX4_tellLine [.ref t, .ref f, jI 3] n M (fun vv n' M' => (vv = none ∧ n = n') ∧ TF M' n t b f bs (tlnP bs ct td 3 p).1 (tlnP bs ct td 3 p).2.1 (tlnP bs ct td 3 p).2.2 bk si ld ∧ fr (TlS b f) M M') := by
  refine Ct_of [some (.ref t), some (.ref f), some (jI 3)] (by decide) (Nat.le_of_ble_eq_true rfl) rfl (fun κ hl h hR hRt hmn hn0 => ?_)
  have h : Ok κ RX4 cX4_tellLine 3 none := h
  obtain ⟨E1, F1, hbf, htf⟩ := id H1
  obtain ⟨ht, hOt, X1, hPO, hsep⟩ := id E1
  obtain ⟨hnb, hOb, hYb, hNb, hSb, hKb⟩ := id X1
  obtain ⟨hfn, hFf, -⟩ := id F1
  have f1 : fr (TlS b f) M M := fr_rf
  refine jr_iload_n (pc := 0) h dX4_tellLine_0 rfl ?_
  refine jr_if_lt (pc := 1) h 10 dX4_tellLine_1 (by decide) (by omega) (fun c => absurd c (by omega)) (fun _ => ?_)
  refine jr_iload_n (pc := 4) h dX4_tellLine_4 rfl ?_
  refine jr_bipush (pc := 5) h dX4_tellLine_5 bp_13 ?_
  refine jr_icmp_lt (pc := 7) h 19 dX4_tellLine_7 (by decide) (by omega) (by omega) (fun _ => ?_) (fun c => absurd c (by omega))
  refine jr_aload_n (pc := 19) h dX4_tellLine_19 rfl ?_
  refine jr_iload_n (pc := 20) h dX4_tellLine_20 rfl ?_
  refine iv_X4_65 (pc := 21) h hl hR dX4_tellLine_21 ⟨(Nat.le_of_ble_eq_true rfl), (Nat.le_of_ble_eq_true rfl), (Nat.le_of_ble_eq_true rfl), (Nat.le_of_ble_eq_true rfl)⟩ (Nat.le_of_ble_eq_true rfl) (by assumption) (by omega) (s_X1_isFull F1 (by omega)) (fun v_21 n_21 M_21 hn_21 hp => ?_)
  obtain ⟨⟨rfl, rfl, rfl⟩, gr_21⟩ := hp
  have eF : bz ((3 : Int) < 0 ∨ (13 : Int) ≤ 3 ∨ (jtab 0).2.2 (Int.toNat 3) ≤ ct (Int.toNat 3)) = bz ((6 : Int) ≤ ct 3) := bz_iff ⟨fun q => q.elim (fun q => absurd q (by decide)) (fun q => q.elim (fun q => absurd q (by decide)) id), fun q => Or.inr (Or.inr q)⟩
  refine jr_if_eq (pc := 24) h 49 dX4_tellLine_24 (by decide) (by omega) (fun c_24 => ?_) (fun c_24 => ?_)
  · skip
    refine jr_aload_n (pc := 49) h dX4_tellLine_49 rfl ?_
    refine gf_X4_12 (pc := 50) h dX4_tellLine_50 (by assumption) (by omega) ?_
    refine iv_X4_69 (pc := 53) h hl hR dX4_tellLine_53 ⟨(Nat.le_of_ble_eq_true rfl), (Nat.le_of_ble_eq_true rfl), (Nat.le_of_ble_eq_true rfl), (Nat.le_of_ble_eq_true rfl)⟩ (Nat.le_of_ble_eq_true rfl) (by assumption) (by omega) (s_X6_next X1 hby ⟨hPO.1.1, hPO.1.2.2.1⟩ rfl rfl rfl) (fun v_53 n_53 M_53 hn_53 hp => ?_)
    have hct : ct 3 < 6 := Int.not_le.mp (fun q => absurd (bz_t (P := ((6 : Int) ≤ ct 3)) q) (by rw [← eF]; omega))
    have hc0 : 0 ≤ ct 3 := (F1.2.2.2.2.2.2.2.1 3).1
    obtain ⟨⟨rfl, rfl⟩, g9, T9, f9, q1, q2, q3, q4, q5, q7, q8, q12⟩ := hp
    have X9 := nxP_of (w := p.2.1) T9 q1 q2 q3 q4 q5 q7 q8 q12
    have H1 := TF_tk H1 X9 f9 (nxP_O hPO)
    have f1 := fr_tr f1 (fr_mo f9 (fun k hk => Or.inl hk))
    obtain ⟨E1, F1, hbf, htf⟩ := id H1
    obtain ⟨ht, hOt, X1, hPO, hsep⟩ := id E1
    obtain ⟨hnb, hOb, hYb, hNb, hSb, hKb⟩ := id X1
    obtain ⟨hfn, hFf, -⟩ := id F1
    refine jr_aload_n (pc := 56) h dX4_tellLine_56 rfl ?_
    refine jr_iload_n (pc := 57) h dX4_tellLine_57 rfl ?_
    refine iv_X4_72 (pc := 58) h hl hR dX4_tellLine_58 ⟨(Nat.le_of_ble_eq_true rfl), (Nat.le_of_ble_eq_true rfl), (Nat.le_of_ble_eq_true rfl), (Nat.le_of_ble_eq_true rfl)⟩ (Nat.le_of_ble_eq_true rfl) (by assumption) (by omega) (s_X1_open F1 (by omega) (show ct 3 < 8 by omega)) (fun v_58 n_58 M_58 hn_58 hp => ?_)
    obtain ⟨rfl, rfl, hM⟩ := hp
    have H1 := TF_op (s := 3) H1 hM
    have f1 := fr_tr f1 (fr_up hM (Or.inr ⟨by omega, by omega⟩))
    obtain ⟨E1, F1, hbf, htf⟩ := id H1
    obtain ⟨ht, hOt, X1, hPO, hsep⟩ := id E1
    obtain ⟨hnb, hOb, hYb, hNb, hSb, hKb⟩ := id X1
    obtain ⟨hfn, hFf, -⟩ := id F1
    refine jr_iload_n (pc := 61) h dX4_tellLine_61 rfl ?_
    refine jr_tableIn (pc := 62) h (x := 3) (off := 80) 142 dX4_tellLine_62 (by omega) (by omega) (by omega) rfl (by decide) ?_
    refine jr_aload_n (pc := 142) h dX4_tellLine_142 rfl ?_
    refine jr_aload_n (pc := 143) h dX4_tellLine_143 rfl ?_
    refine jr_iload_n (pc := 144) h dX4_tellLine_144 rfl ?_
    refine iv_X4_85 (pc := 145) h hl hR dX4_tellLine_145 ⟨(Nat.le_of_ble_eq_true rfl), (Nat.le_of_ble_eq_true rfl), (Nat.le_of_ble_eq_true rfl), (Nat.le_of_ble_eq_true rfl)⟩ (Nat.le_of_ble_eq_true rfl) (by assumption) (by omega) (s_X4_tellOfNames_3 H1 hby (show ct 3 < 8 by omega)) (fun v_145 n_145 M_145 hn_145 hp => ?_)
    obtain ⟨⟨rfl, rfl⟩, H1, fx⟩ := hp
    replace H1 : TF _ n t b f bs (ln_3 bs ct (nxP bs p) (opT ct td 3)).1 ct (ln_3 bs ct (nxP bs p) (opT ct td 3)).2 bk si ld := H1
    have f1 := fr_tr f1 fx
    obtain ⟨⟨p9, td9⟩, e9⟩ : ∃ r, ln_3 bs ct (nxP bs p) (opT ct td 3) = r := ⟨_, rfl⟩
    rw [e9] at H1
    replace H1 : TF _ n t b f bs p9 ct td9 bk si ld := H1
    obtain ⟨E1, F1, hbf, htf⟩ := id H1
    obtain ⟨ht, hOt, X1, hPO, hsep⟩ := id E1
    obtain ⟨hnb, hOb, hYb, hNb, hSb, hKb⟩ := id X1
    obtain ⟨hfn, hFf, -⟩ := id F1
    refine jr_goto (pc := 148) h 165 dX4_tellLine_148 (by decide) ?_
    refine jr_aload_n (pc := 165) h dX4_tellLine_165 rfl ?_
    refine gf_X4_12 (pc := 166) h dX4_tellLine_166 (by assumption) (by omega) ?_
    refine iv_X4_35 (pc := 169) h hl hR dX4_tellLine_169 ⟨(Nat.le_of_ble_eq_true rfl), (Nat.le_of_ble_eq_true rfl), (Nat.le_of_ble_eq_true rfl), (Nat.le_of_ble_eq_true rfl)⟩ (Nat.le_of_ble_eq_true rfl) (by assumption) (by omega) (s_X6_isFine X1 hPO.1.2.2.2.2.1) (fun v_169 n_169 M_169 hn_169 hp => ?_)
    obtain ⟨⟨rfl, rfl, rfl⟩, gr_169⟩ := hp
    refine jr_if_eq (pc := 172) h 180 dX4_tellLine_172 (by decide) (by omega) (fun c_172 => ?_) (fun c_172 => ?_)
    · skip
      refine jr_vret (pc := 180) h hRt dX4_tellLine_180 (Nat.le_of_ble_eq_true rfl) (Nat.le_of_ble_eq_true rfl) ?_
      have eT : tlnP bs ct td 3 p = tlnC ct 3 (p9, td9) := by
        unfold tlnP
        rw [if_neg (by omega), if_neg (show ¬ ((jtab 0).2.2 (Int.toNat 3) ≤ ct (Int.toNat 3)) from (show ¬ ((6 : Int) ≤ ct 3) by omega)), ← e9]
        rfl
      rw [eT]
      first
      | (have e7 : p9.1 7 = 0 := bz_1.mp c_172
         have eC : tlnC ct 3 (p9, td9) = (p9, up ct 3 (ct 3 + 1), td9) := by
           unfold tlnC
           rw [if_pos e7]
           rfl
         rw [eC]
         exact ⟨⟨rfl, rfl⟩, H1, f1⟩)
      | (have e7 : ¬ p9.1 7 = 0 := bz_0.mp c_172
         have eC : tlnC ct 3 (p9, td9) = (p9, ct, td9) := by
           unfold tlnC
           rw [if_neg e7]
         rw [eC]
         exact ⟨⟨rfl, rfl⟩, H1, f1⟩)
    · skip
      refine jr_aload_n (pc := 175) h dX4_tellLine_175 rfl ?_
      refine jr_iload_n (pc := 176) h dX4_tellLine_176 rfl ?_
      refine iv_X4_95 (pc := 177) h hl hR dX4_tellLine_177 ⟨(Nat.le_of_ble_eq_true rfl), (Nat.le_of_ble_eq_true rfl), (Nat.le_of_ble_eq_true rfl), (Nat.le_of_ble_eq_true rfl)⟩ (Nat.le_of_ble_eq_true rfl) (by assumption) (by omega) (s_X1_close F1 (a := 3) (by omega) (show ct 3 < 6 by omega)) (fun v_177 n_177 M_177 hn_177 hp => ?_)
      obtain ⟨rfl, rfl, hM⟩ := hp
      have H1 := TF_ct (k := 3) H1 hM (by omega)
      have f1 := fr_tr f1 (fr_up hM (Or.inr ⟨by omega, by omega⟩))
      refine jr_vret (pc := 180) h hRt dX4_tellLine_180 (Nat.le_of_ble_eq_true rfl) (Nat.le_of_ble_eq_true rfl) ?_
      have eT : tlnP bs ct td 3 p = tlnC ct 3 (p9, td9) := by
        unfold tlnP
        rw [if_neg (by omega), if_neg (show ¬ ((jtab 0).2.2 (Int.toNat 3) ≤ ct (Int.toNat 3)) from (show ¬ ((6 : Int) ≤ ct 3) by omega)), ← e9]
        rfl
      rw [eT]
      first
      | (have e7 : p9.1 7 = 0 := bz_1.mp c_172
         have eC : tlnC ct 3 (p9, td9) = (p9, up ct 3 (ct 3 + 1), td9) := by
           unfold tlnC
           rw [if_pos e7]
           rfl
         rw [eC]
         exact ⟨⟨rfl, rfl⟩, H1, f1⟩)
      | (have e7 : ¬ p9.1 7 = 0 := bz_0.mp c_172
         have eC : tlnC ct 3 (p9, td9) = (p9, ct, td9) := by
           unfold tlnC
           rw [if_neg e7]
         rw [eC]
         exact ⟨⟨rfl, rfl⟩, H1, f1⟩)
  · skip
    refine jr_aload_n (pc := 27) h dX4_tellLine_27 rfl ?_
    refine gf_X4_12 (pc := 28) h dX4_tellLine_28 (by assumption) (by omega) ?_
    refine jr_iload_n (pc := 31) h dX4_tellLine_31 rfl ?_
    refine jr_if_eq (pc := 32) h 40 dX4_tellLine_32 (by decide) (by omega) (fun c => absurd c (by omega)) (fun _ => ?_)
    refine jr_iload_n (pc := 35) h dX4_tellLine_35 rfl ?_
    refine jr_iconst (pc := 36) h dX4_tellLine_36 ?_
    refine jr_icmp_ne (pc := 37) h 44 dX4_tellLine_37 (by decide) (by omega) (by omega) (fun _ => ?_) (fun c => absurd c (by omega))
    refine jr_iconst (pc := 44) h dX4_tellLine_44 ?_
    refine iv_X4_56 (pc := 45) h hl hR dX4_tellLine_45 ⟨(Nat.le_of_ble_eq_true rfl), (Nat.le_of_ble_eq_true rfl), (Nat.le_of_ble_eq_true rfl), (Nat.le_of_ble_eq_true rfl)⟩ (Nat.le_of_ble_eq_true rfl) (by assumption) (by omega) (s_X6_fail X1 hPO.1.2.2.2.2.1) (fun v_45 n_45 M_45 hn_45 hp => ?_)
    obtain ⟨⟨rfl, rfl⟩, g9, T9, f9, q1, q2, q3, q4, q5, q7, q8, q12⟩ := hp
    have X9 := flP_of T9 q1 q2 q3 q4 q5 q7 q8 q12
    have H9 := TF_tk H1 X9 f9 (flP_O hPO (by omega))
    refine jr_vret (pc := 48) h hRt dX4_tellLine_48 (Nat.le_of_ble_eq_true rfl) (Nat.le_of_ble_eq_true rfl) ?_
    have eT : tlnP bs ct td 3 p = (flP 5 p, ct, td) := by
      unfold tlnP
      rw [if_neg (by omega), if_pos (show (jtab 0).2.2 (Int.toNat 3) ≤ ct (Int.toNat 3) from (show ((6 : Int) ≤ ct 3) from bz_1.mp (by rw [← eF]; omega)))]
      rfl
    rw [eT]
    exact ⟨⟨rfl, rfl⟩, H9, fr_mo f9 (fun k hk => Or.inl hk)⟩
set_option maxHeartbeats 1000000 in
set_option maxRecDepth 20000 in
theorem s_X4_tellLine_4 {l : Launch} {n : Nat} {M : jdM} {t b f : Nat} {bs : Nat → Int} {p : TS} {ct td bk si ld : Nat → Int} (H1 : TF M n t b f bs p ct td bk si ld) (hby : ∀ i, -128 ≤ bs i ∧ bs i < 128) : Ct l yX4_tellLine cX4_tellLine 3 none rX4_tellLine [.ref t, .ref f, jI 4] n M (fun vv n' M' => (vv = none ∧ n = n') ∧ TF M' n t b f bs (tlnP bs ct td 4 p).1 (tlnP bs ct td 4 p).2.1 (tlnP bs ct td 4 p).2.2 bk si ld ∧ fr (TlS b f) M M') := by
  refine Ct_of [some (.ref t), some (.ref f), some (jI 4)] (by decide) (Nat.le_of_ble_eq_true rfl) rfl (fun κ hl h hR hRt hmn hn0 => ?_)
  have h : Ok κ RX4 cX4_tellLine 3 none := h
  obtain ⟨E1, F1, hbf, htf⟩ := id H1
  obtain ⟨ht, hOt, X1, hPO, hsep⟩ := id E1
  obtain ⟨hnb, hOb, hYb, hNb, hSb, hKb⟩ := id X1
  obtain ⟨hfn, hFf, -⟩ := id F1
  have f1 : fr (TlS b f) M M := fr_rf
  refine jr_iload_n (pc := 0) h dX4_tellLine_0 rfl ?_
  refine jr_if_lt (pc := 1) h 10 dX4_tellLine_1 (by decide) (by omega) (fun c => absurd c (by omega)) (fun _ => ?_)
  refine jr_iload_n (pc := 4) h dX4_tellLine_4 rfl ?_
  refine jr_bipush (pc := 5) h dX4_tellLine_5 bp_13 ?_
  refine jr_icmp_lt (pc := 7) h 19 dX4_tellLine_7 (by decide) (by omega) (by omega) (fun _ => ?_) (fun c => absurd c (by omega))
  refine jr_aload_n (pc := 19) h dX4_tellLine_19 rfl ?_
  refine jr_iload_n (pc := 20) h dX4_tellLine_20 rfl ?_
  refine iv_X4_65 (pc := 21) h hl hR dX4_tellLine_21 ⟨(Nat.le_of_ble_eq_true rfl), (Nat.le_of_ble_eq_true rfl), (Nat.le_of_ble_eq_true rfl), (Nat.le_of_ble_eq_true rfl)⟩ (Nat.le_of_ble_eq_true rfl) (by assumption) (by omega) (s_X1_isFull F1 (by omega)) (fun v_21 n_21 M_21 hn_21 hp => ?_)
  obtain ⟨⟨rfl, rfl, rfl⟩, gr_21⟩ := hp
  have eF : bz ((4 : Int) < 0 ∨ (13 : Int) ≤ 4 ∨ (jtab 0).2.2 (Int.toNat 4) ≤ ct (Int.toNat 4)) = bz ((6 : Int) ≤ ct 4) := bz_iff ⟨fun q => q.elim (fun q => absurd q (by decide)) (fun q => q.elim (fun q => absurd q (by decide)) id), fun q => Or.inr (Or.inr q)⟩
  refine jr_if_eq (pc := 24) h 49 dX4_tellLine_24 (by decide) (by omega) (fun c_24 => ?_) (fun c_24 => ?_)
  · skip
    refine jr_aload_n (pc := 49) h dX4_tellLine_49 rfl ?_
    refine gf_X4_12 (pc := 50) h dX4_tellLine_50 (by assumption) (by omega) ?_
    refine iv_X4_69 (pc := 53) h hl hR dX4_tellLine_53 ⟨(Nat.le_of_ble_eq_true rfl), (Nat.le_of_ble_eq_true rfl), (Nat.le_of_ble_eq_true rfl), (Nat.le_of_ble_eq_true rfl)⟩ (Nat.le_of_ble_eq_true rfl) (by assumption) (by omega) (s_X6_next X1 hby ⟨hPO.1.1, hPO.1.2.2.1⟩ rfl rfl rfl) (fun v_53 n_53 M_53 hn_53 hp => ?_)
    have hct : ct 4 < 6 := Int.not_le.mp (fun q => absurd (bz_t (P := ((6 : Int) ≤ ct 4)) q) (by rw [← eF]; omega))
    have hc0 : 0 ≤ ct 4 := (F1.2.2.2.2.2.2.2.1 4).1
    obtain ⟨⟨rfl, rfl⟩, g9, T9, f9, q1, q2, q3, q4, q5, q7, q8, q12⟩ := hp
    have X9 := nxP_of (w := p.2.1) T9 q1 q2 q3 q4 q5 q7 q8 q12
    have H1 := TF_tk H1 X9 f9 (nxP_O hPO)
    have f1 := fr_tr f1 (fr_mo f9 (fun k hk => Or.inl hk))
    obtain ⟨E1, F1, hbf, htf⟩ := id H1
    obtain ⟨ht, hOt, X1, hPO, hsep⟩ := id E1
    obtain ⟨hnb, hOb, hYb, hNb, hSb, hKb⟩ := id X1
    obtain ⟨hfn, hFf, -⟩ := id F1
    refine jr_aload_n (pc := 56) h dX4_tellLine_56 rfl ?_
    refine jr_iload_n (pc := 57) h dX4_tellLine_57 rfl ?_
    refine iv_X4_72 (pc := 58) h hl hR dX4_tellLine_58 ⟨(Nat.le_of_ble_eq_true rfl), (Nat.le_of_ble_eq_true rfl), (Nat.le_of_ble_eq_true rfl), (Nat.le_of_ble_eq_true rfl)⟩ (Nat.le_of_ble_eq_true rfl) (by assumption) (by omega) (s_X1_open F1 (by omega) (show ct 4 < 8 by omega)) (fun v_58 n_58 M_58 hn_58 hp => ?_)
    obtain ⟨rfl, rfl, hM⟩ := hp
    have H1 := TF_op (s := 4) H1 hM
    have f1 := fr_tr f1 (fr_up hM (Or.inr ⟨by omega, by omega⟩))
    obtain ⟨E1, F1, hbf, htf⟩ := id H1
    obtain ⟨ht, hOt, X1, hPO, hsep⟩ := id E1
    obtain ⟨hnb, hOb, hYb, hNb, hSb, hKb⟩ := id X1
    obtain ⟨hfn, hFf, -⟩ := id F1
    refine jr_iload_n (pc := 61) h dX4_tellLine_61 rfl ?_
    refine jr_tableIn (pc := 62) h (x := 4) (off := 80) 142 dX4_tellLine_62 (by omega) (by omega) (by omega) rfl (by decide) ?_
    refine jr_aload_n (pc := 142) h dX4_tellLine_142 rfl ?_
    refine jr_aload_n (pc := 143) h dX4_tellLine_143 rfl ?_
    refine jr_iload_n (pc := 144) h dX4_tellLine_144 rfl ?_
    refine iv_X4_85 (pc := 145) h hl hR dX4_tellLine_145 ⟨(Nat.le_of_ble_eq_true rfl), (Nat.le_of_ble_eq_true rfl), (Nat.le_of_ble_eq_true rfl), (Nat.le_of_ble_eq_true rfl)⟩ (Nat.le_of_ble_eq_true rfl) (by assumption) (by omega) (s_X4_tellOfNames_4 H1 hby (show ct 4 < 8 by omega)) (fun v_145 n_145 M_145 hn_145 hp => ?_)
    obtain ⟨⟨rfl, rfl⟩, H1, fx⟩ := hp
    replace H1 : TF _ n t b f bs (ln_4 bs ct (nxP bs p) (opT ct td 4)).1 ct (ln_4 bs ct (nxP bs p) (opT ct td 4)).2 bk si ld := H1
    have f1 := fr_tr f1 fx
    obtain ⟨⟨p9, td9⟩, e9⟩ : ∃ r, ln_4 bs ct (nxP bs p) (opT ct td 4) = r := ⟨_, rfl⟩
    rw [e9] at H1
    replace H1 : TF _ n t b f bs p9 ct td9 bk si ld := H1
    obtain ⟨E1, F1, hbf, htf⟩ := id H1
    obtain ⟨ht, hOt, X1, hPO, hsep⟩ := id E1
    obtain ⟨hnb, hOb, hYb, hNb, hSb, hKb⟩ := id X1
    obtain ⟨hfn, hFf, -⟩ := id F1
    refine jr_goto (pc := 148) h 165 dX4_tellLine_148 (by decide) ?_
    refine jr_aload_n (pc := 165) h dX4_tellLine_165 rfl ?_
    refine gf_X4_12 (pc := 166) h dX4_tellLine_166 (by assumption) (by omega) ?_
    refine iv_X4_35 (pc := 169) h hl hR dX4_tellLine_169 ⟨(Nat.le_of_ble_eq_true rfl), (Nat.le_of_ble_eq_true rfl), (Nat.le_of_ble_eq_true rfl), (Nat.le_of_ble_eq_true rfl)⟩ (Nat.le_of_ble_eq_true rfl) (by assumption) (by omega) (s_X6_isFine X1 hPO.1.2.2.2.2.1) (fun v_169 n_169 M_169 hn_169 hp => ?_)
    obtain ⟨⟨rfl, rfl, rfl⟩, gr_169⟩ := hp
    refine jr_if_eq (pc := 172) h 180 dX4_tellLine_172 (by decide) (by omega) (fun c_172 => ?_) (fun c_172 => ?_)
    · skip
      refine jr_vret (pc := 180) h hRt dX4_tellLine_180 (Nat.le_of_ble_eq_true rfl) (Nat.le_of_ble_eq_true rfl) ?_
      have eT : tlnP bs ct td 4 p = tlnC ct 4 (p9, td9) := by
        unfold tlnP
        rw [if_neg (by omega), if_neg (show ¬ ((jtab 0).2.2 (Int.toNat 4) ≤ ct (Int.toNat 4)) from (show ¬ ((6 : Int) ≤ ct 4) by omega)), ← e9]
        rfl
      rw [eT]
      first
      | (have e7 : p9.1 7 = 0 := bz_1.mp c_172
         have eC : tlnC ct 4 (p9, td9) = (p9, up ct 4 (ct 4 + 1), td9) := by
           unfold tlnC
           rw [if_pos e7]
           rfl
         rw [eC]
         exact ⟨⟨rfl, rfl⟩, H1, f1⟩)
      | (have e7 : ¬ p9.1 7 = 0 := bz_0.mp c_172
         have eC : tlnC ct 4 (p9, td9) = (p9, ct, td9) := by
           unfold tlnC
           rw [if_neg e7]
         rw [eC]
         exact ⟨⟨rfl, rfl⟩, H1, f1⟩)
    · skip
      refine jr_aload_n (pc := 175) h dX4_tellLine_175 rfl ?_
      refine jr_iload_n (pc := 176) h dX4_tellLine_176 rfl ?_
      refine iv_X4_95 (pc := 177) h hl hR dX4_tellLine_177 ⟨(Nat.le_of_ble_eq_true rfl), (Nat.le_of_ble_eq_true rfl), (Nat.le_of_ble_eq_true rfl), (Nat.le_of_ble_eq_true rfl)⟩ (Nat.le_of_ble_eq_true rfl) (by assumption) (by omega) (s_X1_close F1 (a := 4) (by omega) (show ct 4 < 6 by omega)) (fun v_177 n_177 M_177 hn_177 hp => ?_)
      obtain ⟨rfl, rfl, hM⟩ := hp
      have H1 := TF_ct (k := 4) H1 hM (by omega)
      have f1 := fr_tr f1 (fr_up hM (Or.inr ⟨by omega, by omega⟩))
      refine jr_vret (pc := 180) h hRt dX4_tellLine_180 (Nat.le_of_ble_eq_true rfl) (Nat.le_of_ble_eq_true rfl) ?_
      have eT : tlnP bs ct td 4 p = tlnC ct 4 (p9, td9) := by
        unfold tlnP
        rw [if_neg (by omega), if_neg (show ¬ ((jtab 0).2.2 (Int.toNat 4) ≤ ct (Int.toNat 4)) from (show ¬ ((6 : Int) ≤ ct 4) by omega)), ← e9]
        rfl
      rw [eT]
      first
      | (have e7 : p9.1 7 = 0 := bz_1.mp c_172
         have eC : tlnC ct 4 (p9, td9) = (p9, up ct 4 (ct 4 + 1), td9) := by
           unfold tlnC
           rw [if_pos e7]
           rfl
         rw [eC]
         exact ⟨⟨rfl, rfl⟩, H1, f1⟩)
      | (have e7 : ¬ p9.1 7 = 0 := bz_0.mp c_172
         have eC : tlnC ct 4 (p9, td9) = (p9, ct, td9) := by
           unfold tlnC
           rw [if_neg e7]
         rw [eC]
         exact ⟨⟨rfl, rfl⟩, H1, f1⟩)
  · skip
    refine jr_aload_n (pc := 27) h dX4_tellLine_27 rfl ?_
    refine gf_X4_12 (pc := 28) h dX4_tellLine_28 (by assumption) (by omega) ?_
    refine jr_iload_n (pc := 31) h dX4_tellLine_31 rfl ?_
    refine jr_if_eq (pc := 32) h 40 dX4_tellLine_32 (by decide) (by omega) (fun c => absurd c (by omega)) (fun _ => ?_)
    refine jr_iload_n (pc := 35) h dX4_tellLine_35 rfl ?_
    refine jr_iconst (pc := 36) h dX4_tellLine_36 ?_
    refine jr_icmp_ne (pc := 37) h 44 dX4_tellLine_37 (by decide) (by omega) (by omega) (fun _ => ?_) (fun c => absurd c (by omega))
    refine jr_iconst (pc := 44) h dX4_tellLine_44 ?_
    refine iv_X4_56 (pc := 45) h hl hR dX4_tellLine_45 ⟨(Nat.le_of_ble_eq_true rfl), (Nat.le_of_ble_eq_true rfl), (Nat.le_of_ble_eq_true rfl), (Nat.le_of_ble_eq_true rfl)⟩ (Nat.le_of_ble_eq_true rfl) (by assumption) (by omega) (s_X6_fail X1 hPO.1.2.2.2.2.1) (fun v_45 n_45 M_45 hn_45 hp => ?_)
    obtain ⟨⟨rfl, rfl⟩, g9, T9, f9, q1, q2, q3, q4, q5, q7, q8, q12⟩ := hp
    have X9 := flP_of T9 q1 q2 q3 q4 q5 q7 q8 q12
    have H9 := TF_tk H1 X9 f9 (flP_O hPO (by omega))
    refine jr_vret (pc := 48) h hRt dX4_tellLine_48 (Nat.le_of_ble_eq_true rfl) (Nat.le_of_ble_eq_true rfl) ?_
    have eT : tlnP bs ct td 4 p = (flP 5 p, ct, td) := by
      unfold tlnP
      rw [if_neg (by omega), if_pos (show (jtab 0).2.2 (Int.toNat 4) ≤ ct (Int.toNat 4) from (show ((6 : Int) ≤ ct 4) from bz_1.mp (by rw [← eF]; omega)))]
      rfl
    rw [eT]
    exact ⟨⟨rfl, rfl⟩, H9, fr_mo f9 (fun k hk => Or.inl hk)⟩
set_option maxHeartbeats 1000000 in
set_option maxRecDepth 20000 in
theorem s_X4_tellLine_5 {l : Launch} {n : Nat} {M : jdM} {t b f : Nat} {bs : Nat → Int} {p : TS} {ct td bk si ld : Nat → Int} (H1 : TF M n t b f bs p ct td bk si ld) (hby : ∀ i, -128 ≤ bs i ∧ bs i < 128) : Ct l yX4_tellLine cX4_tellLine 3 none rX4_tellLine [.ref t, .ref f, jI 5] n M (fun vv n' M' => (vv = none ∧ n = n') ∧ TF M' n t b f bs (tlnP bs ct td 5 p).1 (tlnP bs ct td 5 p).2.1 (tlnP bs ct td 5 p).2.2 bk si ld ∧ fr (TlS b f) M M') := by
  refine Ct_of [some (.ref t), some (.ref f), some (jI 5)] (by decide) (Nat.le_of_ble_eq_true rfl) rfl (fun κ hl h hR hRt hmn hn0 => ?_)
  have h : Ok κ RX4 cX4_tellLine 3 none := h
  obtain ⟨E1, F1, hbf, htf⟩ := id H1
  obtain ⟨ht, hOt, X1, hPO, hsep⟩ := id E1
  obtain ⟨hnb, hOb, hYb, hNb, hSb, hKb⟩ := id X1
  obtain ⟨hfn, hFf, -⟩ := id F1
  have f1 : fr (TlS b f) M M := fr_rf
  refine jr_iload_n (pc := 0) h dX4_tellLine_0 rfl ?_
  refine jr_if_lt (pc := 1) h 10 dX4_tellLine_1 (by decide) (by omega) (fun c => absurd c (by omega)) (fun _ => ?_)
  refine jr_iload_n (pc := 4) h dX4_tellLine_4 rfl ?_
  refine jr_bipush (pc := 5) h dX4_tellLine_5 bp_13 ?_
  refine jr_icmp_lt (pc := 7) h 19 dX4_tellLine_7 (by decide) (by omega) (by omega) (fun _ => ?_) (fun c => absurd c (by omega))
  refine jr_aload_n (pc := 19) h dX4_tellLine_19 rfl ?_
  refine jr_iload_n (pc := 20) h dX4_tellLine_20 rfl ?_
  refine iv_X4_65 (pc := 21) h hl hR dX4_tellLine_21 ⟨(Nat.le_of_ble_eq_true rfl), (Nat.le_of_ble_eq_true rfl), (Nat.le_of_ble_eq_true rfl), (Nat.le_of_ble_eq_true rfl)⟩ (Nat.le_of_ble_eq_true rfl) (by assumption) (by omega) (s_X1_isFull F1 (by omega)) (fun v_21 n_21 M_21 hn_21 hp => ?_)
  obtain ⟨⟨rfl, rfl, rfl⟩, gr_21⟩ := hp
  have eF : bz ((5 : Int) < 0 ∨ (13 : Int) ≤ 5 ∨ (jtab 0).2.2 (Int.toNat 5) ≤ ct (Int.toNat 5)) = bz ((2 : Int) ≤ ct 5) := bz_iff ⟨fun q => q.elim (fun q => absurd q (by decide)) (fun q => q.elim (fun q => absurd q (by decide)) id), fun q => Or.inr (Or.inr q)⟩
  refine jr_if_eq (pc := 24) h 49 dX4_tellLine_24 (by decide) (by omega) (fun c_24 => ?_) (fun c_24 => ?_)
  · skip
    refine jr_aload_n (pc := 49) h dX4_tellLine_49 rfl ?_
    refine gf_X4_12 (pc := 50) h dX4_tellLine_50 (by assumption) (by omega) ?_
    refine iv_X4_69 (pc := 53) h hl hR dX4_tellLine_53 ⟨(Nat.le_of_ble_eq_true rfl), (Nat.le_of_ble_eq_true rfl), (Nat.le_of_ble_eq_true rfl), (Nat.le_of_ble_eq_true rfl)⟩ (Nat.le_of_ble_eq_true rfl) (by assumption) (by omega) (s_X6_next X1 hby ⟨hPO.1.1, hPO.1.2.2.1⟩ rfl rfl rfl) (fun v_53 n_53 M_53 hn_53 hp => ?_)
    have hct : ct 5 < 2 := Int.not_le.mp (fun q => absurd (bz_t (P := ((2 : Int) ≤ ct 5)) q) (by rw [← eF]; omega))
    have hc0 : 0 ≤ ct 5 := (F1.2.2.2.2.2.2.2.1 5).1
    obtain ⟨⟨rfl, rfl⟩, g9, T9, f9, q1, q2, q3, q4, q5, q7, q8, q12⟩ := hp
    have X9 := nxP_of (w := p.2.1) T9 q1 q2 q3 q4 q5 q7 q8 q12
    have H1 := TF_tk H1 X9 f9 (nxP_O hPO)
    have f1 := fr_tr f1 (fr_mo f9 (fun k hk => Or.inl hk))
    obtain ⟨E1, F1, hbf, htf⟩ := id H1
    obtain ⟨ht, hOt, X1, hPO, hsep⟩ := id E1
    obtain ⟨hnb, hOb, hYb, hNb, hSb, hKb⟩ := id X1
    obtain ⟨hfn, hFf, -⟩ := id F1
    refine jr_aload_n (pc := 56) h dX4_tellLine_56 rfl ?_
    refine jr_iload_n (pc := 57) h dX4_tellLine_57 rfl ?_
    refine iv_X4_72 (pc := 58) h hl hR dX4_tellLine_58 ⟨(Nat.le_of_ble_eq_true rfl), (Nat.le_of_ble_eq_true rfl), (Nat.le_of_ble_eq_true rfl), (Nat.le_of_ble_eq_true rfl)⟩ (Nat.le_of_ble_eq_true rfl) (by assumption) (by omega) (s_X1_open F1 (by omega) (show ct 5 < 8 by omega)) (fun v_58 n_58 M_58 hn_58 hp => ?_)
    obtain ⟨rfl, rfl, hM⟩ := hp
    have H1 := TF_op (s := 5) H1 hM
    have f1 := fr_tr f1 (fr_up hM (Or.inr ⟨by omega, by omega⟩))
    obtain ⟨E1, F1, hbf, htf⟩ := id H1
    obtain ⟨ht, hOt, X1, hPO, hsep⟩ := id E1
    obtain ⟨hnb, hOb, hYb, hNb, hSb, hKb⟩ := id X1
    obtain ⟨hfn, hFf, -⟩ := id F1
    refine jr_iload_n (pc := 61) h dX4_tellLine_61 rfl ?_
    refine jr_tableIn (pc := 62) h (x := 5) (off := 58) 120 dX4_tellLine_62 (by omega) (by omega) (by omega) rfl (by decide) ?_
    refine jr_aload_n (pc := 120) h dX4_tellLine_120 rfl ?_
    refine gf_X4_12 (pc := 121) h dX4_tellLine_121 (by assumption) (by omega) ?_
    refine jr_iload_n (pc := 124) h dX4_tellLine_124 rfl ?_
    refine jr_aload_n (pc := 125) h dX4_tellLine_125 rfl ?_
    refine jr_iload_n (pc := 126) h dX4_tellLine_126 rfl ?_
    refine iv_X4_75 (pc := 127) h hl hR dX4_tellLine_127 ⟨(Nat.le_of_ble_eq_true rfl), (Nat.le_of_ble_eq_true rfl), (Nat.le_of_ble_eq_true rfl), (Nat.le_of_ble_eq_true rfl)⟩ (Nat.le_of_ble_eq_true rfl) (by assumption) (by omega) (s_X1_count F1 (a := 5) (by omega)) (fun v_127 n_127 M_127 hn_127 hp => ?_)
    obtain ⟨⟨rfl, rfl, rfl⟩, gr_127⟩ := hp
    have ecn : c_count ct 5 = ct 5 := if_pos (by omega)
    rw [ecn]
    refine iv_X4_79 (pc := 130) h hl hR dX4_tellLine_130 ⟨(Nat.le_of_ble_eq_true rfl), (Nat.le_of_ble_eq_true rfl), (Nat.le_of_ble_eq_true rfl), (Nat.le_of_ble_eq_true rfl)⟩ (Nat.le_of_ble_eq_true rfl) (by assumption) (by omega) (s_X6_expectNewName (a := 5) (c := ct 5) X1 hPO hby) (fun v_130 n_130 M_130 hn_130 hp => ?_)
    obtain ⟨⟨rfl, rfl⟩, X9, f9⟩ := hp
    have H1 := TF_tk H1 X9 f9 (nnP_O hPO (by omega) (by omega))
    have f1 := fr_tr f1 (fr_mo f9 (fun k hk => Or.inl hk))
    obtain ⟨E1, F1, hbf, htf⟩ := id H1
    obtain ⟨ht, hOt, X1, hPO, hsep⟩ := id E1
    obtain ⟨hnb, hOb, hYb, hNb, hSb, hKb⟩ := id X1
    obtain ⟨hfn, hFf, -⟩ := id F1
    refine jr_aload_n (pc := 133) h dX4_tellLine_133 rfl ?_
    refine jr_aload_n (pc := 134) h dX4_tellLine_134 rfl ?_
    refine jr_iload_n (pc := 135) h dX4_tellLine_135 rfl ?_
    refine iv_X4_82 (pc := 136) h hl hR dX4_tellLine_136 ⟨(Nat.le_of_ble_eq_true rfl), (Nat.le_of_ble_eq_true rfl), (Nat.le_of_ble_eq_true rfl), (Nat.le_of_ble_eq_true rfl)⟩ (Nat.le_of_ble_eq_true rfl) (by assumption) (by omega) (s_X4_tellNamedThing_5 H1 hby (show ct 5 < 8 by omega)) (fun v_136 n_136 M_136 hn_136 hp => ?_)
    obtain ⟨⟨rfl, rfl⟩, H1, fx⟩ := hp
    replace H1 : TF _ n t b f bs (ln_5 bs ct (nnP bs 5 (ct 5) (nxP bs p)) (opT ct td 5)).1 ct (ln_5 bs ct (nnP bs 5 (ct 5) (nxP bs p)) (opT ct td 5)).2 bk si ld := H1
    have f1 := fr_tr f1 fx
    obtain ⟨⟨p9, td9⟩, e9⟩ : ∃ r, ln_5 bs ct (nnP bs 5 (ct 5) (nxP bs p)) (opT ct td 5) = r := ⟨_, rfl⟩
    rw [e9] at H1
    replace H1 : TF _ n t b f bs p9 ct td9 bk si ld := H1
    obtain ⟨E1, F1, hbf, htf⟩ := id H1
    obtain ⟨ht, hOt, X1, hPO, hsep⟩ := id E1
    obtain ⟨hnb, hOb, hYb, hNb, hSb, hKb⟩ := id X1
    obtain ⟨hfn, hFf, -⟩ := id F1
    refine jr_goto (pc := 139) h 165 dX4_tellLine_139 (by decide) ?_
    refine jr_aload_n (pc := 165) h dX4_tellLine_165 rfl ?_
    refine gf_X4_12 (pc := 166) h dX4_tellLine_166 (by assumption) (by omega) ?_
    refine iv_X4_35 (pc := 169) h hl hR dX4_tellLine_169 ⟨(Nat.le_of_ble_eq_true rfl), (Nat.le_of_ble_eq_true rfl), (Nat.le_of_ble_eq_true rfl), (Nat.le_of_ble_eq_true rfl)⟩ (Nat.le_of_ble_eq_true rfl) (by assumption) (by omega) (s_X6_isFine X1 hPO.1.2.2.2.2.1) (fun v_169 n_169 M_169 hn_169 hp => ?_)
    obtain ⟨⟨rfl, rfl, rfl⟩, gr_169⟩ := hp
    refine jr_if_eq (pc := 172) h 180 dX4_tellLine_172 (by decide) (by omega) (fun c_172 => ?_) (fun c_172 => ?_)
    · skip
      refine jr_vret (pc := 180) h hRt dX4_tellLine_180 (Nat.le_of_ble_eq_true rfl) (Nat.le_of_ble_eq_true rfl) ?_
      have eT : tlnP bs ct td 5 p = tlnC ct 5 (p9, td9) := by
        unfold tlnP
        rw [if_neg (by omega), if_neg (show ¬ ((jtab 0).2.2 (Int.toNat 5) ≤ ct (Int.toNat 5)) from (show ¬ ((2 : Int) ≤ ct 5) by omega)), ← e9]
        rfl
      rw [eT]
      first
      | (have e7 : p9.1 7 = 0 := bz_1.mp c_172
         have eC : tlnC ct 5 (p9, td9) = (p9, up ct 5 (ct 5 + 1), td9) := by
           unfold tlnC
           rw [if_pos e7]
           rfl
         rw [eC]
         exact ⟨⟨rfl, rfl⟩, H1, f1⟩)
      | (have e7 : ¬ p9.1 7 = 0 := bz_0.mp c_172
         have eC : tlnC ct 5 (p9, td9) = (p9, ct, td9) := by
           unfold tlnC
           rw [if_neg e7]
         rw [eC]
         exact ⟨⟨rfl, rfl⟩, H1, f1⟩)
    · skip
      refine jr_aload_n (pc := 175) h dX4_tellLine_175 rfl ?_
      refine jr_iload_n (pc := 176) h dX4_tellLine_176 rfl ?_
      refine iv_X4_95 (pc := 177) h hl hR dX4_tellLine_177 ⟨(Nat.le_of_ble_eq_true rfl), (Nat.le_of_ble_eq_true rfl), (Nat.le_of_ble_eq_true rfl), (Nat.le_of_ble_eq_true rfl)⟩ (Nat.le_of_ble_eq_true rfl) (by assumption) (by omega) (s_X1_close F1 (a := 5) (by omega) (show ct 5 < 2 by omega)) (fun v_177 n_177 M_177 hn_177 hp => ?_)
      obtain ⟨rfl, rfl, hM⟩ := hp
      have H1 := TF_ct (k := 5) H1 hM (by omega)
      have f1 := fr_tr f1 (fr_up hM (Or.inr ⟨by omega, by omega⟩))
      refine jr_vret (pc := 180) h hRt dX4_tellLine_180 (Nat.le_of_ble_eq_true rfl) (Nat.le_of_ble_eq_true rfl) ?_
      have eT : tlnP bs ct td 5 p = tlnC ct 5 (p9, td9) := by
        unfold tlnP
        rw [if_neg (by omega), if_neg (show ¬ ((jtab 0).2.2 (Int.toNat 5) ≤ ct (Int.toNat 5)) from (show ¬ ((2 : Int) ≤ ct 5) by omega)), ← e9]
        rfl
      rw [eT]
      first
      | (have e7 : p9.1 7 = 0 := bz_1.mp c_172
         have eC : tlnC ct 5 (p9, td9) = (p9, up ct 5 (ct 5 + 1), td9) := by
           unfold tlnC
           rw [if_pos e7]
           rfl
         rw [eC]
         exact ⟨⟨rfl, rfl⟩, H1, f1⟩)
      | (have e7 : ¬ p9.1 7 = 0 := bz_0.mp c_172
         have eC : tlnC ct 5 (p9, td9) = (p9, ct, td9) := by
           unfold tlnC
           rw [if_neg e7]
         rw [eC]
         exact ⟨⟨rfl, rfl⟩, H1, f1⟩)
  · skip
    refine jr_aload_n (pc := 27) h dX4_tellLine_27 rfl ?_
    refine gf_X4_12 (pc := 28) h dX4_tellLine_28 (by assumption) (by omega) ?_
    refine jr_iload_n (pc := 31) h dX4_tellLine_31 rfl ?_
    refine jr_if_eq (pc := 32) h 40 dX4_tellLine_32 (by decide) (by omega) (fun c => absurd c (by omega)) (fun _ => ?_)
    refine jr_iload_n (pc := 35) h dX4_tellLine_35 rfl ?_
    refine jr_iconst (pc := 36) h dX4_tellLine_36 ?_
    refine jr_icmp_ne (pc := 37) h 44 dX4_tellLine_37 (by decide) (by omega) (by omega) (fun _ => ?_) (fun c => absurd c (by omega))
    refine jr_iconst (pc := 44) h dX4_tellLine_44 ?_
    refine iv_X4_56 (pc := 45) h hl hR dX4_tellLine_45 ⟨(Nat.le_of_ble_eq_true rfl), (Nat.le_of_ble_eq_true rfl), (Nat.le_of_ble_eq_true rfl), (Nat.le_of_ble_eq_true rfl)⟩ (Nat.le_of_ble_eq_true rfl) (by assumption) (by omega) (s_X6_fail X1 hPO.1.2.2.2.2.1) (fun v_45 n_45 M_45 hn_45 hp => ?_)
    obtain ⟨⟨rfl, rfl⟩, g9, T9, f9, q1, q2, q3, q4, q5, q7, q8, q12⟩ := hp
    have X9 := flP_of T9 q1 q2 q3 q4 q5 q7 q8 q12
    have H9 := TF_tk H1 X9 f9 (flP_O hPO (by omega))
    refine jr_vret (pc := 48) h hRt dX4_tellLine_48 (Nat.le_of_ble_eq_true rfl) (Nat.le_of_ble_eq_true rfl) ?_
    have eT : tlnP bs ct td 5 p = (flP 5 p, ct, td) := by
      unfold tlnP
      rw [if_neg (by omega), if_pos (show (jtab 0).2.2 (Int.toNat 5) ≤ ct (Int.toNat 5) from (show ((2 : Int) ≤ ct 5) from bz_1.mp (by rw [← eF]; omega)))]
      rfl
    rw [eT]
    exact ⟨⟨rfl, rfl⟩, H9, fr_mo f9 (fun k hk => Or.inl hk)⟩
set_option maxHeartbeats 1000000 in
set_option maxRecDepth 20000 in
theorem s_X4_tellLine_6 {l : Launch} {n : Nat} {M : jdM} {t b f : Nat} {bs : Nat → Int} {p : TS} {ct td bk si ld : Nat → Int} (H1 : TF M n t b f bs p ct td bk si ld) (hby : ∀ i, -128 ≤ bs i ∧ bs i < 128) : Ct l yX4_tellLine cX4_tellLine 3 none rX4_tellLine [.ref t, .ref f, jI 6] n M (fun vv n' M' => (vv = none ∧ n = n') ∧ TF M' n t b f bs (tlnP bs ct td 6 p).1 (tlnP bs ct td 6 p).2.1 (tlnP bs ct td 6 p).2.2 bk si ld ∧ fr (TlS b f) M M') := by
  refine Ct_of [some (.ref t), some (.ref f), some (jI 6)] (by decide) (Nat.le_of_ble_eq_true rfl) rfl (fun κ hl h hR hRt hmn hn0 => ?_)
  have h : Ok κ RX4 cX4_tellLine 3 none := h
  obtain ⟨E1, F1, hbf, htf⟩ := id H1
  obtain ⟨ht, hOt, X1, hPO, hsep⟩ := id E1
  obtain ⟨hnb, hOb, hYb, hNb, hSb, hKb⟩ := id X1
  obtain ⟨hfn, hFf, -⟩ := id F1
  have f1 : fr (TlS b f) M M := fr_rf
  refine jr_iload_n (pc := 0) h dX4_tellLine_0 rfl ?_
  refine jr_if_lt (pc := 1) h 10 dX4_tellLine_1 (by decide) (by omega) (fun c => absurd c (by omega)) (fun _ => ?_)
  refine jr_iload_n (pc := 4) h dX4_tellLine_4 rfl ?_
  refine jr_bipush (pc := 5) h dX4_tellLine_5 bp_13 ?_
  refine jr_icmp_lt (pc := 7) h 19 dX4_tellLine_7 (by decide) (by omega) (by omega) (fun _ => ?_) (fun c => absurd c (by omega))
  refine jr_aload_n (pc := 19) h dX4_tellLine_19 rfl ?_
  refine jr_iload_n (pc := 20) h dX4_tellLine_20 rfl ?_
  refine iv_X4_65 (pc := 21) h hl hR dX4_tellLine_21 ⟨(Nat.le_of_ble_eq_true rfl), (Nat.le_of_ble_eq_true rfl), (Nat.le_of_ble_eq_true rfl), (Nat.le_of_ble_eq_true rfl)⟩ (Nat.le_of_ble_eq_true rfl) (by assumption) (by omega) (s_X1_isFull F1 (by omega)) (fun v_21 n_21 M_21 hn_21 hp => ?_)
  obtain ⟨⟨rfl, rfl, rfl⟩, gr_21⟩ := hp
  have eF : bz ((6 : Int) < 0 ∨ (13 : Int) ≤ 6 ∨ (jtab 0).2.2 (Int.toNat 6) ≤ ct (Int.toNat 6)) = bz ((8 : Int) ≤ ct 6) := bz_iff ⟨fun q => q.elim (fun q => absurd q (by decide)) (fun q => q.elim (fun q => absurd q (by decide)) id), fun q => Or.inr (Or.inr q)⟩
  refine jr_if_eq (pc := 24) h 49 dX4_tellLine_24 (by decide) (by omega) (fun c_24 => ?_) (fun c_24 => ?_)
  · skip
    refine jr_aload_n (pc := 49) h dX4_tellLine_49 rfl ?_
    refine gf_X4_12 (pc := 50) h dX4_tellLine_50 (by assumption) (by omega) ?_
    refine iv_X4_69 (pc := 53) h hl hR dX4_tellLine_53 ⟨(Nat.le_of_ble_eq_true rfl), (Nat.le_of_ble_eq_true rfl), (Nat.le_of_ble_eq_true rfl), (Nat.le_of_ble_eq_true rfl)⟩ (Nat.le_of_ble_eq_true rfl) (by assumption) (by omega) (s_X6_next X1 hby ⟨hPO.1.1, hPO.1.2.2.1⟩ rfl rfl rfl) (fun v_53 n_53 M_53 hn_53 hp => ?_)
    have hct : ct 6 < 8 := Int.not_le.mp (fun q => absurd (bz_t (P := ((8 : Int) ≤ ct 6)) q) (by rw [← eF]; omega))
    have hc0 : 0 ≤ ct 6 := (F1.2.2.2.2.2.2.2.1 6).1
    obtain ⟨⟨rfl, rfl⟩, g9, T9, f9, q1, q2, q3, q4, q5, q7, q8, q12⟩ := hp
    have X9 := nxP_of (w := p.2.1) T9 q1 q2 q3 q4 q5 q7 q8 q12
    have H1 := TF_tk H1 X9 f9 (nxP_O hPO)
    have f1 := fr_tr f1 (fr_mo f9 (fun k hk => Or.inl hk))
    obtain ⟨E1, F1, hbf, htf⟩ := id H1
    obtain ⟨ht, hOt, X1, hPO, hsep⟩ := id E1
    obtain ⟨hnb, hOb, hYb, hNb, hSb, hKb⟩ := id X1
    obtain ⟨hfn, hFf, -⟩ := id F1
    refine jr_aload_n (pc := 56) h dX4_tellLine_56 rfl ?_
    refine jr_iload_n (pc := 57) h dX4_tellLine_57 rfl ?_
    refine iv_X4_72 (pc := 58) h hl hR dX4_tellLine_58 ⟨(Nat.le_of_ble_eq_true rfl), (Nat.le_of_ble_eq_true rfl), (Nat.le_of_ble_eq_true rfl), (Nat.le_of_ble_eq_true rfl)⟩ (Nat.le_of_ble_eq_true rfl) (by assumption) (by omega) (s_X1_open F1 (by omega) (show ct 6 < 8 by omega)) (fun v_58 n_58 M_58 hn_58 hp => ?_)
    obtain ⟨rfl, rfl, hM⟩ := hp
    have H1 := TF_op (s := 6) H1 hM
    have f1 := fr_tr f1 (fr_up hM (Or.inr ⟨by omega, by omega⟩))
    obtain ⟨E1, F1, hbf, htf⟩ := id H1
    obtain ⟨ht, hOt, X1, hPO, hsep⟩ := id E1
    obtain ⟨hnb, hOb, hYb, hNb, hSb, hKb⟩ := id X1
    obtain ⟨hfn, hFf, -⟩ := id F1
    refine jr_iload_n (pc := 61) h dX4_tellLine_61 rfl ?_
    refine jr_tableIn (pc := 62) h (x := 6) (off := 80) 142 dX4_tellLine_62 (by omega) (by omega) (by omega) rfl (by decide) ?_
    refine jr_aload_n (pc := 142) h dX4_tellLine_142 rfl ?_
    refine jr_aload_n (pc := 143) h dX4_tellLine_143 rfl ?_
    refine jr_iload_n (pc := 144) h dX4_tellLine_144 rfl ?_
    refine iv_X4_85 (pc := 145) h hl hR dX4_tellLine_145 ⟨(Nat.le_of_ble_eq_true rfl), (Nat.le_of_ble_eq_true rfl), (Nat.le_of_ble_eq_true rfl), (Nat.le_of_ble_eq_true rfl)⟩ (Nat.le_of_ble_eq_true rfl) (by assumption) (by omega) (s_X4_tellOfNames_6 H1 hby (show ct 6 < 8 by omega)) (fun v_145 n_145 M_145 hn_145 hp => ?_)
    obtain ⟨⟨rfl, rfl⟩, H1, fx⟩ := hp
    replace H1 : TF _ n t b f bs (ln_6 bs ct (nxP bs p) (opT ct td 6)).1 ct (ln_6 bs ct (nxP bs p) (opT ct td 6)).2 bk si ld := H1
    have f1 := fr_tr f1 fx
    obtain ⟨⟨p9, td9⟩, e9⟩ : ∃ r, ln_6 bs ct (nxP bs p) (opT ct td 6) = r := ⟨_, rfl⟩
    rw [e9] at H1
    replace H1 : TF _ n t b f bs p9 ct td9 bk si ld := H1
    obtain ⟨E1, F1, hbf, htf⟩ := id H1
    obtain ⟨ht, hOt, X1, hPO, hsep⟩ := id E1
    obtain ⟨hnb, hOb, hYb, hNb, hSb, hKb⟩ := id X1
    obtain ⟨hfn, hFf, -⟩ := id F1
    refine jr_goto (pc := 148) h 165 dX4_tellLine_148 (by decide) ?_
    refine jr_aload_n (pc := 165) h dX4_tellLine_165 rfl ?_
    refine gf_X4_12 (pc := 166) h dX4_tellLine_166 (by assumption) (by omega) ?_
    refine iv_X4_35 (pc := 169) h hl hR dX4_tellLine_169 ⟨(Nat.le_of_ble_eq_true rfl), (Nat.le_of_ble_eq_true rfl), (Nat.le_of_ble_eq_true rfl), (Nat.le_of_ble_eq_true rfl)⟩ (Nat.le_of_ble_eq_true rfl) (by assumption) (by omega) (s_X6_isFine X1 hPO.1.2.2.2.2.1) (fun v_169 n_169 M_169 hn_169 hp => ?_)
    obtain ⟨⟨rfl, rfl, rfl⟩, gr_169⟩ := hp
    refine jr_if_eq (pc := 172) h 180 dX4_tellLine_172 (by decide) (by omega) (fun c_172 => ?_) (fun c_172 => ?_)
    · skip
      refine jr_vret (pc := 180) h hRt dX4_tellLine_180 (Nat.le_of_ble_eq_true rfl) (Nat.le_of_ble_eq_true rfl) ?_
      have eT : tlnP bs ct td 6 p = tlnC ct 6 (p9, td9) := by
        unfold tlnP
        rw [if_neg (by omega), if_neg (show ¬ ((jtab 0).2.2 (Int.toNat 6) ≤ ct (Int.toNat 6)) from (show ¬ ((8 : Int) ≤ ct 6) by omega)), ← e9]
        rfl
      rw [eT]
      first
      | (have e7 : p9.1 7 = 0 := bz_1.mp c_172
         have eC : tlnC ct 6 (p9, td9) = (p9, up ct 6 (ct 6 + 1), td9) := by
           unfold tlnC
           rw [if_pos e7]
           rfl
         rw [eC]
         exact ⟨⟨rfl, rfl⟩, H1, f1⟩)
      | (have e7 : ¬ p9.1 7 = 0 := bz_0.mp c_172
         have eC : tlnC ct 6 (p9, td9) = (p9, ct, td9) := by
           unfold tlnC
           rw [if_neg e7]
         rw [eC]
         exact ⟨⟨rfl, rfl⟩, H1, f1⟩)
    · skip
      refine jr_aload_n (pc := 175) h dX4_tellLine_175 rfl ?_
      refine jr_iload_n (pc := 176) h dX4_tellLine_176 rfl ?_
      refine iv_X4_95 (pc := 177) h hl hR dX4_tellLine_177 ⟨(Nat.le_of_ble_eq_true rfl), (Nat.le_of_ble_eq_true rfl), (Nat.le_of_ble_eq_true rfl), (Nat.le_of_ble_eq_true rfl)⟩ (Nat.le_of_ble_eq_true rfl) (by assumption) (by omega) (s_X1_close F1 (a := 6) (by omega) (show ct 6 < 8 by omega)) (fun v_177 n_177 M_177 hn_177 hp => ?_)
      obtain ⟨rfl, rfl, hM⟩ := hp
      have H1 := TF_ct (k := 6) H1 hM (by omega)
      have f1 := fr_tr f1 (fr_up hM (Or.inr ⟨by omega, by omega⟩))
      refine jr_vret (pc := 180) h hRt dX4_tellLine_180 (Nat.le_of_ble_eq_true rfl) (Nat.le_of_ble_eq_true rfl) ?_
      have eT : tlnP bs ct td 6 p = tlnC ct 6 (p9, td9) := by
        unfold tlnP
        rw [if_neg (by omega), if_neg (show ¬ ((jtab 0).2.2 (Int.toNat 6) ≤ ct (Int.toNat 6)) from (show ¬ ((8 : Int) ≤ ct 6) by omega)), ← e9]
        rfl
      rw [eT]
      first
      | (have e7 : p9.1 7 = 0 := bz_1.mp c_172
         have eC : tlnC ct 6 (p9, td9) = (p9, up ct 6 (ct 6 + 1), td9) := by
           unfold tlnC
           rw [if_pos e7]
           rfl
         rw [eC]
         exact ⟨⟨rfl, rfl⟩, H1, f1⟩)
      | (have e7 : ¬ p9.1 7 = 0 := bz_0.mp c_172
         have eC : tlnC ct 6 (p9, td9) = (p9, ct, td9) := by
           unfold tlnC
           rw [if_neg e7]
         rw [eC]
         exact ⟨⟨rfl, rfl⟩, H1, f1⟩)
  · skip
    refine jr_aload_n (pc := 27) h dX4_tellLine_27 rfl ?_
    refine gf_X4_12 (pc := 28) h dX4_tellLine_28 (by assumption) (by omega) ?_
    refine jr_iload_n (pc := 31) h dX4_tellLine_31 rfl ?_
    refine jr_if_eq (pc := 32) h 40 dX4_tellLine_32 (by decide) (by omega) (fun c => absurd c (by omega)) (fun _ => ?_)
    refine jr_iload_n (pc := 35) h dX4_tellLine_35 rfl ?_
    refine jr_iconst (pc := 36) h dX4_tellLine_36 ?_
    refine jr_icmp_ne (pc := 37) h 44 dX4_tellLine_37 (by decide) (by omega) (by omega) (fun _ => ?_) (fun c => absurd c (by omega))
    refine jr_iconst (pc := 44) h dX4_tellLine_44 ?_
    refine iv_X4_56 (pc := 45) h hl hR dX4_tellLine_45 ⟨(Nat.le_of_ble_eq_true rfl), (Nat.le_of_ble_eq_true rfl), (Nat.le_of_ble_eq_true rfl), (Nat.le_of_ble_eq_true rfl)⟩ (Nat.le_of_ble_eq_true rfl) (by assumption) (by omega) (s_X6_fail X1 hPO.1.2.2.2.2.1) (fun v_45 n_45 M_45 hn_45 hp => ?_)
    obtain ⟨⟨rfl, rfl⟩, g9, T9, f9, q1, q2, q3, q4, q5, q7, q8, q12⟩ := hp
    have X9 := flP_of T9 q1 q2 q3 q4 q5 q7 q8 q12
    have H9 := TF_tk H1 X9 f9 (flP_O hPO (by omega))
    refine jr_vret (pc := 48) h hRt dX4_tellLine_48 (Nat.le_of_ble_eq_true rfl) (Nat.le_of_ble_eq_true rfl) ?_
    have eT : tlnP bs ct td 6 p = (flP 5 p, ct, td) := by
      unfold tlnP
      rw [if_neg (by omega), if_pos (show (jtab 0).2.2 (Int.toNat 6) ≤ ct (Int.toNat 6) from (show ((8 : Int) ≤ ct 6) from bz_1.mp (by rw [← eF]; omega)))]
      rfl
    rw [eT]
    exact ⟨⟨rfl, rfl⟩, H9, fr_mo f9 (fun k hk => Or.inl hk)⟩
set_option maxHeartbeats 1000000 in
set_option maxRecDepth 20000 in
theorem s_X4_tellLine_7 {l : Launch} {n : Nat} {M : jdM} {t b f : Nat} {bs : Nat → Int} {p : TS} {ct td bk si ld : Nat → Int} (H1 : TF M n t b f bs p ct td bk si ld) (hby : ∀ i, -128 ≤ bs i ∧ bs i < 128) (hN : NO p) : Ct l yX4_tellLine cX4_tellLine 3 none rX4_tellLine [.ref t, .ref f, jI 7] n M (fun vv n' M' => (vv = none ∧ n = n') ∧ TF M' n t b f bs (tlnP bs ct td 7 p).1 (tlnP bs ct td 7 p).2.1 (tlnP bs ct td 7 p).2.2 bk si ld ∧ fr (TlS b f) M M') := by
  refine Ct_of [some (.ref t), some (.ref f), some (jI 7)] (by decide) (Nat.le_of_ble_eq_true rfl) rfl (fun κ hl h hR hRt hmn hn0 => ?_)
  have h : Ok κ RX4 cX4_tellLine 3 none := h
  obtain ⟨E1, F1, hbf, htf⟩ := id H1
  obtain ⟨ht, hOt, X1, hPO, hsep⟩ := id E1
  obtain ⟨hnb, hOb, hYb, hNb, hSb, hKb⟩ := id X1
  obtain ⟨hfn, hFf, -⟩ := id F1
  have f1 : fr (TlS b f) M M := fr_rf
  refine jr_iload_n (pc := 0) h dX4_tellLine_0 rfl ?_
  refine jr_if_lt (pc := 1) h 10 dX4_tellLine_1 (by decide) (by omega) (fun c => absurd c (by omega)) (fun _ => ?_)
  refine jr_iload_n (pc := 4) h dX4_tellLine_4 rfl ?_
  refine jr_bipush (pc := 5) h dX4_tellLine_5 bp_13 ?_
  refine jr_icmp_lt (pc := 7) h 19 dX4_tellLine_7 (by decide) (by omega) (by omega) (fun _ => ?_) (fun c => absurd c (by omega))
  refine jr_aload_n (pc := 19) h dX4_tellLine_19 rfl ?_
  refine jr_iload_n (pc := 20) h dX4_tellLine_20 rfl ?_
  refine iv_X4_65 (pc := 21) h hl hR dX4_tellLine_21 ⟨(Nat.le_of_ble_eq_true rfl), (Nat.le_of_ble_eq_true rfl), (Nat.le_of_ble_eq_true rfl), (Nat.le_of_ble_eq_true rfl)⟩ (Nat.le_of_ble_eq_true rfl) (by assumption) (by omega) (s_X1_isFull F1 (by omega)) (fun v_21 n_21 M_21 hn_21 hp => ?_)
  obtain ⟨⟨rfl, rfl, rfl⟩, gr_21⟩ := hp
  have eF : bz ((7 : Int) < 0 ∨ (13 : Int) ≤ 7 ∨ (jtab 0).2.2 (Int.toNat 7) ≤ ct (Int.toNat 7)) = bz ((5 : Int) ≤ ct 7) := bz_iff ⟨fun q => q.elim (fun q => absurd q (by decide)) (fun q => q.elim (fun q => absurd q (by decide)) id), fun q => Or.inr (Or.inr q)⟩
  refine jr_if_eq (pc := 24) h 49 dX4_tellLine_24 (by decide) (by omega) (fun c_24 => ?_) (fun c_24 => ?_)
  · skip
    refine jr_aload_n (pc := 49) h dX4_tellLine_49 rfl ?_
    refine gf_X4_12 (pc := 50) h dX4_tellLine_50 (by assumption) (by omega) ?_
    refine iv_X4_69 (pc := 53) h hl hR dX4_tellLine_53 ⟨(Nat.le_of_ble_eq_true rfl), (Nat.le_of_ble_eq_true rfl), (Nat.le_of_ble_eq_true rfl), (Nat.le_of_ble_eq_true rfl)⟩ (Nat.le_of_ble_eq_true rfl) (by assumption) (by omega) (s_X6_next X1 hby ⟨hPO.1.1, hPO.1.2.2.1⟩ rfl rfl rfl) (fun v_53 n_53 M_53 hn_53 hp => ?_)
    have hct : ct 7 < 5 := Int.not_le.mp (fun q => absurd (bz_t (P := ((5 : Int) ≤ ct 7)) q) (by rw [← eF]; omega))
    have hc0 : 0 ≤ ct 7 := (F1.2.2.2.2.2.2.2.1 7).1
    obtain ⟨⟨rfl, rfl⟩, g9, T9, f9, q1, q2, q3, q4, q5, q7, q8, q12⟩ := hp
    have X9 := nxP_of (w := p.2.1) T9 q1 q2 q3 q4 q5 q7 q8 q12
    have H1 := TF_tk H1 X9 f9 (nxP_O hPO)
    have f1 := fr_tr f1 (fr_mo f9 (fun k hk => Or.inl hk))
    obtain ⟨E1, F1, hbf, htf⟩ := id H1
    obtain ⟨ht, hOt, X1, hPO, hsep⟩ := id E1
    obtain ⟨hnb, hOb, hYb, hNb, hSb, hKb⟩ := id X1
    obtain ⟨hfn, hFf, -⟩ := id F1
    refine jr_aload_n (pc := 56) h dX4_tellLine_56 rfl ?_
    refine jr_iload_n (pc := 57) h dX4_tellLine_57 rfl ?_
    refine iv_X4_72 (pc := 58) h hl hR dX4_tellLine_58 ⟨(Nat.le_of_ble_eq_true rfl), (Nat.le_of_ble_eq_true rfl), (Nat.le_of_ble_eq_true rfl), (Nat.le_of_ble_eq_true rfl)⟩ (Nat.le_of_ble_eq_true rfl) (by assumption) (by omega) (s_X1_open F1 (by omega) (show ct 7 < 8 by omega)) (fun v_58 n_58 M_58 hn_58 hp => ?_)
    obtain ⟨rfl, rfl, hM⟩ := hp
    have H1 := TF_op (s := 7) H1 hM
    have f1 := fr_tr f1 (fr_up hM (Or.inr ⟨by omega, by omega⟩))
    obtain ⟨E1, F1, hbf, htf⟩ := id H1
    obtain ⟨ht, hOt, X1, hPO, hsep⟩ := id E1
    obtain ⟨hnb, hOb, hYb, hNb, hSb, hKb⟩ := id X1
    obtain ⟨hfn, hFf, -⟩ := id F1
    refine jr_iload_n (pc := 61) h dX4_tellLine_61 rfl ?_
    refine jr_tableIn (pc := 62) h (x := 7) (off := 89) 151 dX4_tellLine_62 (by omega) (by omega) (by omega) rfl (by decide) ?_
    refine jr_aload_n (pc := 151) h dX4_tellLine_151 rfl ?_
    refine jr_aload_n (pc := 152) h dX4_tellLine_152 rfl ?_
    refine iv_X4_88 (pc := 153) h hl hR dX4_tellLine_153 ⟨(Nat.le_of_ble_eq_true rfl), (Nat.le_of_ble_eq_true rfl), (Nat.le_of_ble_eq_true rfl), (Nat.le_of_ble_eq_true rfl)⟩ (Nat.le_of_ble_eq_true rfl) (by assumption) (by omega) (s_X4_tellBlock H1 hby (show ct 7 < 8 by omega) (opT_7 (by omega)) (NO_of hN rfl)) (fun v_153 n_153 M_153 hn_153 hp => ?_)
    obtain ⟨⟨rfl, rfl⟩, H1, fx⟩ := hp
    replace H1 : TF _ n t b f bs (ln_7 bs ct (nxP bs p) (opT ct td 7)).1 ct (ln_7 bs ct (nxP bs p) (opT ct td 7)).2 bk si ld := H1
    have f1 := fr_tr f1 fx
    obtain ⟨⟨p9, td9⟩, e9⟩ : ∃ r, ln_7 bs ct (nxP bs p) (opT ct td 7) = r := ⟨_, rfl⟩
    rw [e9] at H1
    replace H1 : TF _ n t b f bs p9 ct td9 bk si ld := H1
    obtain ⟨E1, F1, hbf, htf⟩ := id H1
    obtain ⟨ht, hOt, X1, hPO, hsep⟩ := id E1
    obtain ⟨hnb, hOb, hYb, hNb, hSb, hKb⟩ := id X1
    obtain ⟨hfn, hFf, -⟩ := id F1
    refine jr_goto (pc := 156) h 165 dX4_tellLine_156 (by decide) ?_
    refine jr_aload_n (pc := 165) h dX4_tellLine_165 rfl ?_
    refine gf_X4_12 (pc := 166) h dX4_tellLine_166 (by assumption) (by omega) ?_
    refine iv_X4_35 (pc := 169) h hl hR dX4_tellLine_169 ⟨(Nat.le_of_ble_eq_true rfl), (Nat.le_of_ble_eq_true rfl), (Nat.le_of_ble_eq_true rfl), (Nat.le_of_ble_eq_true rfl)⟩ (Nat.le_of_ble_eq_true rfl) (by assumption) (by omega) (s_X6_isFine X1 hPO.1.2.2.2.2.1) (fun v_169 n_169 M_169 hn_169 hp => ?_)
    obtain ⟨⟨rfl, rfl, rfl⟩, gr_169⟩ := hp
    refine jr_if_eq (pc := 172) h 180 dX4_tellLine_172 (by decide) (by omega) (fun c_172 => ?_) (fun c_172 => ?_)
    · skip
      refine jr_vret (pc := 180) h hRt dX4_tellLine_180 (Nat.le_of_ble_eq_true rfl) (Nat.le_of_ble_eq_true rfl) ?_
      have eT : tlnP bs ct td 7 p = tlnC ct 7 (p9, td9) := by
        unfold tlnP
        rw [if_neg (by omega), if_neg (show ¬ ((jtab 0).2.2 (Int.toNat 7) ≤ ct (Int.toNat 7)) from (show ¬ ((5 : Int) ≤ ct 7) by omega)), ← e9]
        rfl
      rw [eT]
      first
      | (have e7 : p9.1 7 = 0 := bz_1.mp c_172
         have eC : tlnC ct 7 (p9, td9) = (p9, up ct 7 (ct 7 + 1), td9) := by
           unfold tlnC
           rw [if_pos e7]
           rfl
         rw [eC]
         exact ⟨⟨rfl, rfl⟩, H1, f1⟩)
      | (have e7 : ¬ p9.1 7 = 0 := bz_0.mp c_172
         have eC : tlnC ct 7 (p9, td9) = (p9, ct, td9) := by
           unfold tlnC
           rw [if_neg e7]
         rw [eC]
         exact ⟨⟨rfl, rfl⟩, H1, f1⟩)
    · skip
      refine jr_aload_n (pc := 175) h dX4_tellLine_175 rfl ?_
      refine jr_iload_n (pc := 176) h dX4_tellLine_176 rfl ?_
      refine iv_X4_95 (pc := 177) h hl hR dX4_tellLine_177 ⟨(Nat.le_of_ble_eq_true rfl), (Nat.le_of_ble_eq_true rfl), (Nat.le_of_ble_eq_true rfl), (Nat.le_of_ble_eq_true rfl)⟩ (Nat.le_of_ble_eq_true rfl) (by assumption) (by omega) (s_X1_close F1 (a := 7) (by omega) (show ct 7 < 5 by omega)) (fun v_177 n_177 M_177 hn_177 hp => ?_)
      obtain ⟨rfl, rfl, hM⟩ := hp
      have H1 := TF_ct (k := 7) H1 hM (by omega)
      have f1 := fr_tr f1 (fr_up hM (Or.inr ⟨by omega, by omega⟩))
      refine jr_vret (pc := 180) h hRt dX4_tellLine_180 (Nat.le_of_ble_eq_true rfl) (Nat.le_of_ble_eq_true rfl) ?_
      have eT : tlnP bs ct td 7 p = tlnC ct 7 (p9, td9) := by
        unfold tlnP
        rw [if_neg (by omega), if_neg (show ¬ ((jtab 0).2.2 (Int.toNat 7) ≤ ct (Int.toNat 7)) from (show ¬ ((5 : Int) ≤ ct 7) by omega)), ← e9]
        rfl
      rw [eT]
      first
      | (have e7 : p9.1 7 = 0 := bz_1.mp c_172
         have eC : tlnC ct 7 (p9, td9) = (p9, up ct 7 (ct 7 + 1), td9) := by
           unfold tlnC
           rw [if_pos e7]
           rfl
         rw [eC]
         exact ⟨⟨rfl, rfl⟩, H1, f1⟩)
      | (have e7 : ¬ p9.1 7 = 0 := bz_0.mp c_172
         have eC : tlnC ct 7 (p9, td9) = (p9, ct, td9) := by
           unfold tlnC
           rw [if_neg e7]
         rw [eC]
         exact ⟨⟨rfl, rfl⟩, H1, f1⟩)
  · skip
    refine jr_aload_n (pc := 27) h dX4_tellLine_27 rfl ?_
    refine gf_X4_12 (pc := 28) h dX4_tellLine_28 (by assumption) (by omega) ?_
    refine jr_iload_n (pc := 31) h dX4_tellLine_31 rfl ?_
    refine jr_if_eq (pc := 32) h 40 dX4_tellLine_32 (by decide) (by omega) (fun c => absurd c (by omega)) (fun _ => ?_)
    refine jr_iload_n (pc := 35) h dX4_tellLine_35 rfl ?_
    refine jr_iconst (pc := 36) h dX4_tellLine_36 ?_
    refine jr_icmp_ne (pc := 37) h 44 dX4_tellLine_37 (by decide) (by omega) (by omega) (fun _ => ?_) (fun c => absurd c (by omega))
    refine jr_iconst (pc := 44) h dX4_tellLine_44 ?_
    refine iv_X4_56 (pc := 45) h hl hR dX4_tellLine_45 ⟨(Nat.le_of_ble_eq_true rfl), (Nat.le_of_ble_eq_true rfl), (Nat.le_of_ble_eq_true rfl), (Nat.le_of_ble_eq_true rfl)⟩ (Nat.le_of_ble_eq_true rfl) (by assumption) (by omega) (s_X6_fail X1 hPO.1.2.2.2.2.1) (fun v_45 n_45 M_45 hn_45 hp => ?_)
    obtain ⟨⟨rfl, rfl⟩, g9, T9, f9, q1, q2, q3, q4, q5, q7, q8, q12⟩ := hp
    have X9 := flP_of T9 q1 q2 q3 q4 q5 q7 q8 q12
    have H9 := TF_tk H1 X9 f9 (flP_O hPO (by omega))
    refine jr_vret (pc := 48) h hRt dX4_tellLine_48 (Nat.le_of_ble_eq_true rfl) (Nat.le_of_ble_eq_true rfl) ?_
    have eT : tlnP bs ct td 7 p = (flP 5 p, ct, td) := by
      unfold tlnP
      rw [if_neg (by omega), if_pos (show (jtab 0).2.2 (Int.toNat 7) ≤ ct (Int.toNat 7) from (show ((5 : Int) ≤ ct 7) from bz_1.mp (by rw [← eF]; omega)))]
      rfl
    rw [eT]
    exact ⟨⟨rfl, rfl⟩, H9, fr_mo f9 (fun k hk => Or.inl hk)⟩
set_option maxHeartbeats 1000000 in
set_option maxRecDepth 20000 in
theorem s_X4_tellLine_8 {l : Launch} {n : Nat} {M : jdM} {t b f : Nat} {bs : Nat → Int} {p : TS} {ct td bk si ld : Nat → Int} (H1 : TF M n t b f bs p ct td bk si ld) (hby : ∀ i, -128 ≤ bs i ∧ bs i < 128) : Ct l yX4_tellLine cX4_tellLine 3 none rX4_tellLine [.ref t, .ref f, jI 8] n M (fun vv n' M' => (vv = none ∧ n = n') ∧ TF M' n t b f bs (tlnP bs ct td 8 p).1 (tlnP bs ct td 8 p).2.1 (tlnP bs ct td 8 p).2.2 bk si ld ∧ fr (TlS b f) M M') := by
  refine Ct_of [some (.ref t), some (.ref f), some (jI 8)] (by decide) (Nat.le_of_ble_eq_true rfl) rfl (fun κ hl h hR hRt hmn hn0 => ?_)
  have h : Ok κ RX4 cX4_tellLine 3 none := h
  obtain ⟨E1, F1, hbf, htf⟩ := id H1
  obtain ⟨ht, hOt, X1, hPO, hsep⟩ := id E1
  obtain ⟨hnb, hOb, hYb, hNb, hSb, hKb⟩ := id X1
  obtain ⟨hfn, hFf, -⟩ := id F1
  have f1 : fr (TlS b f) M M := fr_rf
  refine jr_iload_n (pc := 0) h dX4_tellLine_0 rfl ?_
  refine jr_if_lt (pc := 1) h 10 dX4_tellLine_1 (by decide) (by omega) (fun c => absurd c (by omega)) (fun _ => ?_)
  refine jr_iload_n (pc := 4) h dX4_tellLine_4 rfl ?_
  refine jr_bipush (pc := 5) h dX4_tellLine_5 bp_13 ?_
  refine jr_icmp_lt (pc := 7) h 19 dX4_tellLine_7 (by decide) (by omega) (by omega) (fun _ => ?_) (fun c => absurd c (by omega))
  refine jr_aload_n (pc := 19) h dX4_tellLine_19 rfl ?_
  refine jr_iload_n (pc := 20) h dX4_tellLine_20 rfl ?_
  refine iv_X4_65 (pc := 21) h hl hR dX4_tellLine_21 ⟨(Nat.le_of_ble_eq_true rfl), (Nat.le_of_ble_eq_true rfl), (Nat.le_of_ble_eq_true rfl), (Nat.le_of_ble_eq_true rfl)⟩ (Nat.le_of_ble_eq_true rfl) (by assumption) (by omega) (s_X1_isFull F1 (by omega)) (fun v_21 n_21 M_21 hn_21 hp => ?_)
  obtain ⟨⟨rfl, rfl, rfl⟩, gr_21⟩ := hp
  have eF : bz ((8 : Int) < 0 ∨ (13 : Int) ≤ 8 ∨ (jtab 0).2.2 (Int.toNat 8) ≤ ct (Int.toNat 8)) = bz ((6 : Int) ≤ ct 8) := bz_iff ⟨fun q => q.elim (fun q => absurd q (by decide)) (fun q => q.elim (fun q => absurd q (by decide)) id), fun q => Or.inr (Or.inr q)⟩
  refine jr_if_eq (pc := 24) h 49 dX4_tellLine_24 (by decide) (by omega) (fun c_24 => ?_) (fun c_24 => ?_)
  · skip
    refine jr_aload_n (pc := 49) h dX4_tellLine_49 rfl ?_
    refine gf_X4_12 (pc := 50) h dX4_tellLine_50 (by assumption) (by omega) ?_
    refine iv_X4_69 (pc := 53) h hl hR dX4_tellLine_53 ⟨(Nat.le_of_ble_eq_true rfl), (Nat.le_of_ble_eq_true rfl), (Nat.le_of_ble_eq_true rfl), (Nat.le_of_ble_eq_true rfl)⟩ (Nat.le_of_ble_eq_true rfl) (by assumption) (by omega) (s_X6_next X1 hby ⟨hPO.1.1, hPO.1.2.2.1⟩ rfl rfl rfl) (fun v_53 n_53 M_53 hn_53 hp => ?_)
    have hct : ct 8 < 6 := Int.not_le.mp (fun q => absurd (bz_t (P := ((6 : Int) ≤ ct 8)) q) (by rw [← eF]; omega))
    have hc0 : 0 ≤ ct 8 := (F1.2.2.2.2.2.2.2.1 8).1
    obtain ⟨⟨rfl, rfl⟩, g9, T9, f9, q1, q2, q3, q4, q5, q7, q8, q12⟩ := hp
    have X9 := nxP_of (w := p.2.1) T9 q1 q2 q3 q4 q5 q7 q8 q12
    have H1 := TF_tk H1 X9 f9 (nxP_O hPO)
    have f1 := fr_tr f1 (fr_mo f9 (fun k hk => Or.inl hk))
    obtain ⟨E1, F1, hbf, htf⟩ := id H1
    obtain ⟨ht, hOt, X1, hPO, hsep⟩ := id E1
    obtain ⟨hnb, hOb, hYb, hNb, hSb, hKb⟩ := id X1
    obtain ⟨hfn, hFf, -⟩ := id F1
    refine jr_aload_n (pc := 56) h dX4_tellLine_56 rfl ?_
    refine jr_iload_n (pc := 57) h dX4_tellLine_57 rfl ?_
    refine iv_X4_72 (pc := 58) h hl hR dX4_tellLine_58 ⟨(Nat.le_of_ble_eq_true rfl), (Nat.le_of_ble_eq_true rfl), (Nat.le_of_ble_eq_true rfl), (Nat.le_of_ble_eq_true rfl)⟩ (Nat.le_of_ble_eq_true rfl) (by assumption) (by omega) (s_X1_open F1 (by omega) (show ct 8 < 8 by omega)) (fun v_58 n_58 M_58 hn_58 hp => ?_)
    obtain ⟨rfl, rfl, hM⟩ := hp
    have H1 := TF_op (s := 8) H1 hM
    have f1 := fr_tr f1 (fr_up hM (Or.inr ⟨by omega, by omega⟩))
    obtain ⟨E1, F1, hbf, htf⟩ := id H1
    obtain ⟨ht, hOt, X1, hPO, hsep⟩ := id E1
    obtain ⟨hnb, hOb, hYb, hNb, hSb, hKb⟩ := id X1
    obtain ⟨hfn, hFf, -⟩ := id F1
    refine jr_iload_n (pc := 61) h dX4_tellLine_61 rfl ?_
    refine jr_tableIn (pc := 62) h (x := 8) (off := 58) 120 dX4_tellLine_62 (by omega) (by omega) (by omega) rfl (by decide) ?_
    refine jr_aload_n (pc := 120) h dX4_tellLine_120 rfl ?_
    refine gf_X4_12 (pc := 121) h dX4_tellLine_121 (by assumption) (by omega) ?_
    refine jr_iload_n (pc := 124) h dX4_tellLine_124 rfl ?_
    refine jr_aload_n (pc := 125) h dX4_tellLine_125 rfl ?_
    refine jr_iload_n (pc := 126) h dX4_tellLine_126 rfl ?_
    refine iv_X4_75 (pc := 127) h hl hR dX4_tellLine_127 ⟨(Nat.le_of_ble_eq_true rfl), (Nat.le_of_ble_eq_true rfl), (Nat.le_of_ble_eq_true rfl), (Nat.le_of_ble_eq_true rfl)⟩ (Nat.le_of_ble_eq_true rfl) (by assumption) (by omega) (s_X1_count F1 (a := 8) (by omega)) (fun v_127 n_127 M_127 hn_127 hp => ?_)
    obtain ⟨⟨rfl, rfl, rfl⟩, gr_127⟩ := hp
    have ecn : c_count ct 8 = ct 8 := if_pos (by omega)
    rw [ecn]
    refine iv_X4_79 (pc := 130) h hl hR dX4_tellLine_130 ⟨(Nat.le_of_ble_eq_true rfl), (Nat.le_of_ble_eq_true rfl), (Nat.le_of_ble_eq_true rfl), (Nat.le_of_ble_eq_true rfl)⟩ (Nat.le_of_ble_eq_true rfl) (by assumption) (by omega) (s_X6_expectNewName (a := 8) (c := ct 8) X1 hPO hby) (fun v_130 n_130 M_130 hn_130 hp => ?_)
    obtain ⟨⟨rfl, rfl⟩, X9, f9⟩ := hp
    have H1 := TF_tk H1 X9 f9 (nnP_O hPO (by omega) (by omega))
    have f1 := fr_tr f1 (fr_mo f9 (fun k hk => Or.inl hk))
    obtain ⟨E1, F1, hbf, htf⟩ := id H1
    obtain ⟨ht, hOt, X1, hPO, hsep⟩ := id E1
    obtain ⟨hnb, hOb, hYb, hNb, hSb, hKb⟩ := id X1
    obtain ⟨hfn, hFf, -⟩ := id F1
    refine jr_aload_n (pc := 133) h dX4_tellLine_133 rfl ?_
    refine jr_aload_n (pc := 134) h dX4_tellLine_134 rfl ?_
    refine jr_iload_n (pc := 135) h dX4_tellLine_135 rfl ?_
    refine iv_X4_82 (pc := 136) h hl hR dX4_tellLine_136 ⟨(Nat.le_of_ble_eq_true rfl), (Nat.le_of_ble_eq_true rfl), (Nat.le_of_ble_eq_true rfl), (Nat.le_of_ble_eq_true rfl)⟩ (Nat.le_of_ble_eq_true rfl) (by assumption) (by omega) (s_X4_tellNamedThing_8 H1 hby (show ct 8 < 8 by omega)) (fun v_136 n_136 M_136 hn_136 hp => ?_)
    obtain ⟨⟨rfl, rfl⟩, H1, fx⟩ := hp
    replace H1 : TF _ n t b f bs (ln_8 bs ct (nnP bs 8 (ct 8) (nxP bs p)) (opT ct td 8)).1 ct (ln_8 bs ct (nnP bs 8 (ct 8) (nxP bs p)) (opT ct td 8)).2 bk si ld := H1
    have f1 := fr_tr f1 fx
    obtain ⟨⟨p9, td9⟩, e9⟩ : ∃ r, ln_8 bs ct (nnP bs 8 (ct 8) (nxP bs p)) (opT ct td 8) = r := ⟨_, rfl⟩
    rw [e9] at H1
    replace H1 : TF _ n t b f bs p9 ct td9 bk si ld := H1
    obtain ⟨E1, F1, hbf, htf⟩ := id H1
    obtain ⟨ht, hOt, X1, hPO, hsep⟩ := id E1
    obtain ⟨hnb, hOb, hYb, hNb, hSb, hKb⟩ := id X1
    obtain ⟨hfn, hFf, -⟩ := id F1
    refine jr_goto (pc := 139) h 165 dX4_tellLine_139 (by decide) ?_
    refine jr_aload_n (pc := 165) h dX4_tellLine_165 rfl ?_
    refine gf_X4_12 (pc := 166) h dX4_tellLine_166 (by assumption) (by omega) ?_
    refine iv_X4_35 (pc := 169) h hl hR dX4_tellLine_169 ⟨(Nat.le_of_ble_eq_true rfl), (Nat.le_of_ble_eq_true rfl), (Nat.le_of_ble_eq_true rfl), (Nat.le_of_ble_eq_true rfl)⟩ (Nat.le_of_ble_eq_true rfl) (by assumption) (by omega) (s_X6_isFine X1 hPO.1.2.2.2.2.1) (fun v_169 n_169 M_169 hn_169 hp => ?_)
    obtain ⟨⟨rfl, rfl, rfl⟩, gr_169⟩ := hp
    refine jr_if_eq (pc := 172) h 180 dX4_tellLine_172 (by decide) (by omega) (fun c_172 => ?_) (fun c_172 => ?_)
    · skip
      refine jr_vret (pc := 180) h hRt dX4_tellLine_180 (Nat.le_of_ble_eq_true rfl) (Nat.le_of_ble_eq_true rfl) ?_
      have eT : tlnP bs ct td 8 p = tlnC ct 8 (p9, td9) := by
        unfold tlnP
        rw [if_neg (by omega), if_neg (show ¬ ((jtab 0).2.2 (Int.toNat 8) ≤ ct (Int.toNat 8)) from (show ¬ ((6 : Int) ≤ ct 8) by omega)), ← e9]
        rfl
      rw [eT]
      first
      | (have e7 : p9.1 7 = 0 := bz_1.mp c_172
         have eC : tlnC ct 8 (p9, td9) = (p9, up ct 8 (ct 8 + 1), td9) := by
           unfold tlnC
           rw [if_pos e7]
           rfl
         rw [eC]
         exact ⟨⟨rfl, rfl⟩, H1, f1⟩)
      | (have e7 : ¬ p9.1 7 = 0 := bz_0.mp c_172
         have eC : tlnC ct 8 (p9, td9) = (p9, ct, td9) := by
           unfold tlnC
           rw [if_neg e7]
         rw [eC]
         exact ⟨⟨rfl, rfl⟩, H1, f1⟩)
    · skip
      refine jr_aload_n (pc := 175) h dX4_tellLine_175 rfl ?_
      refine jr_iload_n (pc := 176) h dX4_tellLine_176 rfl ?_
      refine iv_X4_95 (pc := 177) h hl hR dX4_tellLine_177 ⟨(Nat.le_of_ble_eq_true rfl), (Nat.le_of_ble_eq_true rfl), (Nat.le_of_ble_eq_true rfl), (Nat.le_of_ble_eq_true rfl)⟩ (Nat.le_of_ble_eq_true rfl) (by assumption) (by omega) (s_X1_close F1 (a := 8) (by omega) (show ct 8 < 6 by omega)) (fun v_177 n_177 M_177 hn_177 hp => ?_)
      obtain ⟨rfl, rfl, hM⟩ := hp
      have H1 := TF_ct (k := 8) H1 hM (by omega)
      have f1 := fr_tr f1 (fr_up hM (Or.inr ⟨by omega, by omega⟩))
      refine jr_vret (pc := 180) h hRt dX4_tellLine_180 (Nat.le_of_ble_eq_true rfl) (Nat.le_of_ble_eq_true rfl) ?_
      have eT : tlnP bs ct td 8 p = tlnC ct 8 (p9, td9) := by
        unfold tlnP
        rw [if_neg (by omega), if_neg (show ¬ ((jtab 0).2.2 (Int.toNat 8) ≤ ct (Int.toNat 8)) from (show ¬ ((6 : Int) ≤ ct 8) by omega)), ← e9]
        rfl
      rw [eT]
      first
      | (have e7 : p9.1 7 = 0 := bz_1.mp c_172
         have eC : tlnC ct 8 (p9, td9) = (p9, up ct 8 (ct 8 + 1), td9) := by
           unfold tlnC
           rw [if_pos e7]
           rfl
         rw [eC]
         exact ⟨⟨rfl, rfl⟩, H1, f1⟩)
      | (have e7 : ¬ p9.1 7 = 0 := bz_0.mp c_172
         have eC : tlnC ct 8 (p9, td9) = (p9, ct, td9) := by
           unfold tlnC
           rw [if_neg e7]
         rw [eC]
         exact ⟨⟨rfl, rfl⟩, H1, f1⟩)
  · skip
    refine jr_aload_n (pc := 27) h dX4_tellLine_27 rfl ?_
    refine gf_X4_12 (pc := 28) h dX4_tellLine_28 (by assumption) (by omega) ?_
    refine jr_iload_n (pc := 31) h dX4_tellLine_31 rfl ?_
    refine jr_if_eq (pc := 32) h 40 dX4_tellLine_32 (by decide) (by omega) (fun c => absurd c (by omega)) (fun _ => ?_)
    refine jr_iload_n (pc := 35) h dX4_tellLine_35 rfl ?_
    refine jr_iconst (pc := 36) h dX4_tellLine_36 ?_
    refine jr_icmp_ne (pc := 37) h 44 dX4_tellLine_37 (by decide) (by omega) (by omega) (fun _ => ?_) (fun c => absurd c (by omega))
    refine jr_iconst (pc := 44) h dX4_tellLine_44 ?_
    refine iv_X4_56 (pc := 45) h hl hR dX4_tellLine_45 ⟨(Nat.le_of_ble_eq_true rfl), (Nat.le_of_ble_eq_true rfl), (Nat.le_of_ble_eq_true rfl), (Nat.le_of_ble_eq_true rfl)⟩ (Nat.le_of_ble_eq_true rfl) (by assumption) (by omega) (s_X6_fail X1 hPO.1.2.2.2.2.1) (fun v_45 n_45 M_45 hn_45 hp => ?_)
    obtain ⟨⟨rfl, rfl⟩, g9, T9, f9, q1, q2, q3, q4, q5, q7, q8, q12⟩ := hp
    have X9 := flP_of T9 q1 q2 q3 q4 q5 q7 q8 q12
    have H9 := TF_tk H1 X9 f9 (flP_O hPO (by omega))
    refine jr_vret (pc := 48) h hRt dX4_tellLine_48 (Nat.le_of_ble_eq_true rfl) (Nat.le_of_ble_eq_true rfl) ?_
    have eT : tlnP bs ct td 8 p = (flP 5 p, ct, td) := by
      unfold tlnP
      rw [if_neg (by omega), if_pos (show (jtab 0).2.2 (Int.toNat 8) ≤ ct (Int.toNat 8) from (show ((6 : Int) ≤ ct 8) from bz_1.mp (by rw [← eF]; omega)))]
      rfl
    rw [eT]
    exact ⟨⟨rfl, rfl⟩, H9, fr_mo f9 (fun k hk => Or.inl hk)⟩
set_option maxHeartbeats 1000000 in
set_option maxRecDepth 20000 in
theorem s_X4_tellLine_9 {l : Launch} {n : Nat} {M : jdM} {t b f : Nat} {bs : Nat → Int} {p : TS} {ct td bk si ld : Nat → Int} (H1 : TF M n t b f bs p ct td bk si ld) (hby : ∀ i, -128 ≤ bs i ∧ bs i < 128) : Ct l yX4_tellLine cX4_tellLine 3 none rX4_tellLine [.ref t, .ref f, jI 9] n M (fun vv n' M' => (vv = none ∧ n = n') ∧ TF M' n t b f bs (tlnP bs ct td 9 p).1 (tlnP bs ct td 9 p).2.1 (tlnP bs ct td 9 p).2.2 bk si ld ∧ fr (TlS b f) M M') := by
  refine Ct_of [some (.ref t), some (.ref f), some (jI 9)] (by decide) (Nat.le_of_ble_eq_true rfl) rfl (fun κ hl h hR hRt hmn hn0 => ?_)
  have h : Ok κ RX4 cX4_tellLine 3 none := h
  obtain ⟨E1, F1, hbf, htf⟩ := id H1
  obtain ⟨ht, hOt, X1, hPO, hsep⟩ := id E1
  obtain ⟨hnb, hOb, hYb, hNb, hSb, hKb⟩ := id X1
  obtain ⟨hfn, hFf, -⟩ := id F1
  have f1 : fr (TlS b f) M M := fr_rf
  refine jr_iload_n (pc := 0) h dX4_tellLine_0 rfl ?_
  refine jr_if_lt (pc := 1) h 10 dX4_tellLine_1 (by decide) (by omega) (fun c => absurd c (by omega)) (fun _ => ?_)
  refine jr_iload_n (pc := 4) h dX4_tellLine_4 rfl ?_
  refine jr_bipush (pc := 5) h dX4_tellLine_5 bp_13 ?_
  refine jr_icmp_lt (pc := 7) h 19 dX4_tellLine_7 (by decide) (by omega) (by omega) (fun _ => ?_) (fun c => absurd c (by omega))
  refine jr_aload_n (pc := 19) h dX4_tellLine_19 rfl ?_
  refine jr_iload_n (pc := 20) h dX4_tellLine_20 rfl ?_
  refine iv_X4_65 (pc := 21) h hl hR dX4_tellLine_21 ⟨(Nat.le_of_ble_eq_true rfl), (Nat.le_of_ble_eq_true rfl), (Nat.le_of_ble_eq_true rfl), (Nat.le_of_ble_eq_true rfl)⟩ (Nat.le_of_ble_eq_true rfl) (by assumption) (by omega) (s_X1_isFull F1 (by omega)) (fun v_21 n_21 M_21 hn_21 hp => ?_)
  obtain ⟨⟨rfl, rfl, rfl⟩, gr_21⟩ := hp
  have eF : bz ((9 : Int) < 0 ∨ (13 : Int) ≤ 9 ∨ (jtab 0).2.2 (Int.toNat 9) ≤ ct (Int.toNat 9)) = bz ((3 : Int) ≤ ct 9) := bz_iff ⟨fun q => q.elim (fun q => absurd q (by decide)) (fun q => q.elim (fun q => absurd q (by decide)) id), fun q => Or.inr (Or.inr q)⟩
  refine jr_if_eq (pc := 24) h 49 dX4_tellLine_24 (by decide) (by omega) (fun c_24 => ?_) (fun c_24 => ?_)
  · skip
    refine jr_aload_n (pc := 49) h dX4_tellLine_49 rfl ?_
    refine gf_X4_12 (pc := 50) h dX4_tellLine_50 (by assumption) (by omega) ?_
    refine iv_X4_69 (pc := 53) h hl hR dX4_tellLine_53 ⟨(Nat.le_of_ble_eq_true rfl), (Nat.le_of_ble_eq_true rfl), (Nat.le_of_ble_eq_true rfl), (Nat.le_of_ble_eq_true rfl)⟩ (Nat.le_of_ble_eq_true rfl) (by assumption) (by omega) (s_X6_next X1 hby ⟨hPO.1.1, hPO.1.2.2.1⟩ rfl rfl rfl) (fun v_53 n_53 M_53 hn_53 hp => ?_)
    have hct : ct 9 < 3 := Int.not_le.mp (fun q => absurd (bz_t (P := ((3 : Int) ≤ ct 9)) q) (by rw [← eF]; omega))
    have hc0 : 0 ≤ ct 9 := (F1.2.2.2.2.2.2.2.1 9).1
    obtain ⟨⟨rfl, rfl⟩, g9, T9, f9, q1, q2, q3, q4, q5, q7, q8, q12⟩ := hp
    have X9 := nxP_of (w := p.2.1) T9 q1 q2 q3 q4 q5 q7 q8 q12
    have H1 := TF_tk H1 X9 f9 (nxP_O hPO)
    have f1 := fr_tr f1 (fr_mo f9 (fun k hk => Or.inl hk))
    obtain ⟨E1, F1, hbf, htf⟩ := id H1
    obtain ⟨ht, hOt, X1, hPO, hsep⟩ := id E1
    obtain ⟨hnb, hOb, hYb, hNb, hSb, hKb⟩ := id X1
    obtain ⟨hfn, hFf, -⟩ := id F1
    refine jr_aload_n (pc := 56) h dX4_tellLine_56 rfl ?_
    refine jr_iload_n (pc := 57) h dX4_tellLine_57 rfl ?_
    refine iv_X4_72 (pc := 58) h hl hR dX4_tellLine_58 ⟨(Nat.le_of_ble_eq_true rfl), (Nat.le_of_ble_eq_true rfl), (Nat.le_of_ble_eq_true rfl), (Nat.le_of_ble_eq_true rfl)⟩ (Nat.le_of_ble_eq_true rfl) (by assumption) (by omega) (s_X1_open F1 (by omega) (show ct 9 < 8 by omega)) (fun v_58 n_58 M_58 hn_58 hp => ?_)
    obtain ⟨rfl, rfl, hM⟩ := hp
    have H1 := TF_op (s := 9) H1 hM
    have f1 := fr_tr f1 (fr_up hM (Or.inr ⟨by omega, by omega⟩))
    obtain ⟨E1, F1, hbf, htf⟩ := id H1
    obtain ⟨ht, hOt, X1, hPO, hsep⟩ := id E1
    obtain ⟨hnb, hOb, hYb, hNb, hSb, hKb⟩ := id X1
    obtain ⟨hfn, hFf, -⟩ := id F1
    refine jr_iload_n (pc := 61) h dX4_tellLine_61 rfl ?_
    refine jr_tableIn (pc := 62) h (x := 9) (off := 97) 159 dX4_tellLine_62 (by omega) (by omega) (by omega) rfl (by decide) ?_
    refine jr_aload_n (pc := 159) h dX4_tellLine_159 rfl ?_
    refine jr_aload_n (pc := 160) h dX4_tellLine_160 rfl ?_
    refine jr_iload_n (pc := 161) h dX4_tellLine_161 rfl ?_
    refine iv_X4_92 (pc := 162) h hl hR dX4_tellLine_162 ⟨(Nat.le_of_ble_eq_true rfl), (Nat.le_of_ble_eq_true rfl), (Nat.le_of_ble_eq_true rfl), (Nat.le_of_ble_eq_true rfl)⟩ (Nat.le_of_ble_eq_true rfl) (by assumption) (by omega) (s_X4_tellNumbers_9 H1 hby (show ct 9 < 8 by omega)) (fun v_162 n_162 M_162 hn_162 hp => ?_)
    obtain ⟨⟨rfl, rfl⟩, H1, fx⟩ := hp
    replace H1 : TF _ n t b f bs (ln_9 bs ct (nxP bs p) (opT ct td 9)).1 ct (ln_9 bs ct (nxP bs p) (opT ct td 9)).2 bk si ld := H1
    have f1 := fr_tr f1 fx
    obtain ⟨⟨p9, td9⟩, e9⟩ : ∃ r, ln_9 bs ct (nxP bs p) (opT ct td 9) = r := ⟨_, rfl⟩
    rw [e9] at H1
    replace H1 : TF _ n t b f bs p9 ct td9 bk si ld := H1
    obtain ⟨E1, F1, hbf, htf⟩ := id H1
    obtain ⟨ht, hOt, X1, hPO, hsep⟩ := id E1
    obtain ⟨hnb, hOb, hYb, hNb, hSb, hKb⟩ := id X1
    obtain ⟨hfn, hFf, -⟩ := id F1
    refine jr_aload_n (pc := 165) h dX4_tellLine_165 rfl ?_
    refine gf_X4_12 (pc := 166) h dX4_tellLine_166 (by assumption) (by omega) ?_
    refine iv_X4_35 (pc := 169) h hl hR dX4_tellLine_169 ⟨(Nat.le_of_ble_eq_true rfl), (Nat.le_of_ble_eq_true rfl), (Nat.le_of_ble_eq_true rfl), (Nat.le_of_ble_eq_true rfl)⟩ (Nat.le_of_ble_eq_true rfl) (by assumption) (by omega) (s_X6_isFine X1 hPO.1.2.2.2.2.1) (fun v_169 n_169 M_169 hn_169 hp => ?_)
    obtain ⟨⟨rfl, rfl, rfl⟩, gr_169⟩ := hp
    refine jr_if_eq (pc := 172) h 180 dX4_tellLine_172 (by decide) (by omega) (fun c_172 => ?_) (fun c_172 => ?_)
    · skip
      refine jr_vret (pc := 180) h hRt dX4_tellLine_180 (Nat.le_of_ble_eq_true rfl) (Nat.le_of_ble_eq_true rfl) ?_
      have eT : tlnP bs ct td 9 p = tlnC ct 9 (p9, td9) := by
        unfold tlnP
        rw [if_neg (by omega), if_neg (show ¬ ((jtab 0).2.2 (Int.toNat 9) ≤ ct (Int.toNat 9)) from (show ¬ ((3 : Int) ≤ ct 9) by omega)), ← e9]
        rfl
      rw [eT]
      first
      | (have e7 : p9.1 7 = 0 := bz_1.mp c_172
         have eC : tlnC ct 9 (p9, td9) = (p9, up ct 9 (ct 9 + 1), td9) := by
           unfold tlnC
           rw [if_pos e7]
           rfl
         rw [eC]
         exact ⟨⟨rfl, rfl⟩, H1, f1⟩)
      | (have e7 : ¬ p9.1 7 = 0 := bz_0.mp c_172
         have eC : tlnC ct 9 (p9, td9) = (p9, ct, td9) := by
           unfold tlnC
           rw [if_neg e7]
         rw [eC]
         exact ⟨⟨rfl, rfl⟩, H1, f1⟩)
    · skip
      refine jr_aload_n (pc := 175) h dX4_tellLine_175 rfl ?_
      refine jr_iload_n (pc := 176) h dX4_tellLine_176 rfl ?_
      refine iv_X4_95 (pc := 177) h hl hR dX4_tellLine_177 ⟨(Nat.le_of_ble_eq_true rfl), (Nat.le_of_ble_eq_true rfl), (Nat.le_of_ble_eq_true rfl), (Nat.le_of_ble_eq_true rfl)⟩ (Nat.le_of_ble_eq_true rfl) (by assumption) (by omega) (s_X1_close F1 (a := 9) (by omega) (show ct 9 < 3 by omega)) (fun v_177 n_177 M_177 hn_177 hp => ?_)
      obtain ⟨rfl, rfl, hM⟩ := hp
      have H1 := TF_ct (k := 9) H1 hM (by omega)
      have f1 := fr_tr f1 (fr_up hM (Or.inr ⟨by omega, by omega⟩))
      refine jr_vret (pc := 180) h hRt dX4_tellLine_180 (Nat.le_of_ble_eq_true rfl) (Nat.le_of_ble_eq_true rfl) ?_
      have eT : tlnP bs ct td 9 p = tlnC ct 9 (p9, td9) := by
        unfold tlnP
        rw [if_neg (by omega), if_neg (show ¬ ((jtab 0).2.2 (Int.toNat 9) ≤ ct (Int.toNat 9)) from (show ¬ ((3 : Int) ≤ ct 9) by omega)), ← e9]
        rfl
      rw [eT]
      first
      | (have e7 : p9.1 7 = 0 := bz_1.mp c_172
         have eC : tlnC ct 9 (p9, td9) = (p9, up ct 9 (ct 9 + 1), td9) := by
           unfold tlnC
           rw [if_pos e7]
           rfl
         rw [eC]
         exact ⟨⟨rfl, rfl⟩, H1, f1⟩)
      | (have e7 : ¬ p9.1 7 = 0 := bz_0.mp c_172
         have eC : tlnC ct 9 (p9, td9) = (p9, ct, td9) := by
           unfold tlnC
           rw [if_neg e7]
         rw [eC]
         exact ⟨⟨rfl, rfl⟩, H1, f1⟩)
  · skip
    refine jr_aload_n (pc := 27) h dX4_tellLine_27 rfl ?_
    refine gf_X4_12 (pc := 28) h dX4_tellLine_28 (by assumption) (by omega) ?_
    refine jr_iload_n (pc := 31) h dX4_tellLine_31 rfl ?_
    refine jr_if_eq (pc := 32) h 40 dX4_tellLine_32 (by decide) (by omega) (fun c => absurd c (by omega)) (fun _ => ?_)
    refine jr_iload_n (pc := 35) h dX4_tellLine_35 rfl ?_
    refine jr_iconst (pc := 36) h dX4_tellLine_36 ?_
    refine jr_icmp_ne (pc := 37) h 44 dX4_tellLine_37 (by decide) (by omega) (by omega) (fun _ => ?_) (fun c => absurd c (by omega))
    refine jr_iconst (pc := 44) h dX4_tellLine_44 ?_
    refine iv_X4_56 (pc := 45) h hl hR dX4_tellLine_45 ⟨(Nat.le_of_ble_eq_true rfl), (Nat.le_of_ble_eq_true rfl), (Nat.le_of_ble_eq_true rfl), (Nat.le_of_ble_eq_true rfl)⟩ (Nat.le_of_ble_eq_true rfl) (by assumption) (by omega) (s_X6_fail X1 hPO.1.2.2.2.2.1) (fun v_45 n_45 M_45 hn_45 hp => ?_)
    obtain ⟨⟨rfl, rfl⟩, g9, T9, f9, q1, q2, q3, q4, q5, q7, q8, q12⟩ := hp
    have X9 := flP_of T9 q1 q2 q3 q4 q5 q7 q8 q12
    have H9 := TF_tk H1 X9 f9 (flP_O hPO (by omega))
    refine jr_vret (pc := 48) h hRt dX4_tellLine_48 (Nat.le_of_ble_eq_true rfl) (Nat.le_of_ble_eq_true rfl) ?_
    have eT : tlnP bs ct td 9 p = (flP 5 p, ct, td) := by
      unfold tlnP
      rw [if_neg (by omega), if_pos (show (jtab 0).2.2 (Int.toNat 9) ≤ ct (Int.toNat 9) from (show ((3 : Int) ≤ ct 9) from bz_1.mp (by rw [← eF]; omega)))]
      rfl
    rw [eT]
    exact ⟨⟨rfl, rfl⟩, H9, fr_mo f9 (fun k hk => Or.inl hk)⟩
set_option maxHeartbeats 1000000 in
set_option maxRecDepth 20000 in
theorem s_X4_tellLine_10 {l : Launch} {n : Nat} {M : jdM} {t b f : Nat} {bs : Nat → Int} {p : TS} {ct td bk si ld : Nat → Int} (H1 : TF M n t b f bs p ct td bk si ld) (hby : ∀ i, -128 ≤ bs i ∧ bs i < 128) : Ct l yX4_tellLine cX4_tellLine 3 none rX4_tellLine [.ref t, .ref f, jI 10] n M (fun vv n' M' => (vv = none ∧ n = n') ∧ TF M' n t b f bs (tlnP bs ct td 10 p).1 (tlnP bs ct td 10 p).2.1 (tlnP bs ct td 10 p).2.2 bk si ld ∧ fr (TlS b f) M M') := by
  refine Ct_of [some (.ref t), some (.ref f), some (jI 10)] (by decide) (Nat.le_of_ble_eq_true rfl) rfl (fun κ hl h hR hRt hmn hn0 => ?_)
  have h : Ok κ RX4 cX4_tellLine 3 none := h
  obtain ⟨E1, F1, hbf, htf⟩ := id H1
  obtain ⟨ht, hOt, X1, hPO, hsep⟩ := id E1
  obtain ⟨hnb, hOb, hYb, hNb, hSb, hKb⟩ := id X1
  obtain ⟨hfn, hFf, -⟩ := id F1
  have f1 : fr (TlS b f) M M := fr_rf
  refine jr_iload_n (pc := 0) h dX4_tellLine_0 rfl ?_
  refine jr_if_lt (pc := 1) h 10 dX4_tellLine_1 (by decide) (by omega) (fun c => absurd c (by omega)) (fun _ => ?_)
  refine jr_iload_n (pc := 4) h dX4_tellLine_4 rfl ?_
  refine jr_bipush (pc := 5) h dX4_tellLine_5 bp_13 ?_
  refine jr_icmp_lt (pc := 7) h 19 dX4_tellLine_7 (by decide) (by omega) (by omega) (fun _ => ?_) (fun c => absurd c (by omega))
  refine jr_aload_n (pc := 19) h dX4_tellLine_19 rfl ?_
  refine jr_iload_n (pc := 20) h dX4_tellLine_20 rfl ?_
  refine iv_X4_65 (pc := 21) h hl hR dX4_tellLine_21 ⟨(Nat.le_of_ble_eq_true rfl), (Nat.le_of_ble_eq_true rfl), (Nat.le_of_ble_eq_true rfl), (Nat.le_of_ble_eq_true rfl)⟩ (Nat.le_of_ble_eq_true rfl) (by assumption) (by omega) (s_X1_isFull F1 (by omega)) (fun v_21 n_21 M_21 hn_21 hp => ?_)
  obtain ⟨⟨rfl, rfl, rfl⟩, gr_21⟩ := hp
  have eF : bz ((10 : Int) < 0 ∨ (13 : Int) ≤ 10 ∨ (jtab 0).2.2 (Int.toNat 10) ≤ ct (Int.toNat 10)) = bz ((3 : Int) ≤ ct 10) := bz_iff ⟨fun q => q.elim (fun q => absurd q (by decide)) (fun q => q.elim (fun q => absurd q (by decide)) id), fun q => Or.inr (Or.inr q)⟩
  refine jr_if_eq (pc := 24) h 49 dX4_tellLine_24 (by decide) (by omega) (fun c_24 => ?_) (fun c_24 => ?_)
  · skip
    refine jr_aload_n (pc := 49) h dX4_tellLine_49 rfl ?_
    refine gf_X4_12 (pc := 50) h dX4_tellLine_50 (by assumption) (by omega) ?_
    refine iv_X4_69 (pc := 53) h hl hR dX4_tellLine_53 ⟨(Nat.le_of_ble_eq_true rfl), (Nat.le_of_ble_eq_true rfl), (Nat.le_of_ble_eq_true rfl), (Nat.le_of_ble_eq_true rfl)⟩ (Nat.le_of_ble_eq_true rfl) (by assumption) (by omega) (s_X6_next X1 hby ⟨hPO.1.1, hPO.1.2.2.1⟩ rfl rfl rfl) (fun v_53 n_53 M_53 hn_53 hp => ?_)
    have hct : ct 10 < 3 := Int.not_le.mp (fun q => absurd (bz_t (P := ((3 : Int) ≤ ct 10)) q) (by rw [← eF]; omega))
    have hc0 : 0 ≤ ct 10 := (F1.2.2.2.2.2.2.2.1 10).1
    obtain ⟨⟨rfl, rfl⟩, g9, T9, f9, q1, q2, q3, q4, q5, q7, q8, q12⟩ := hp
    have X9 := nxP_of (w := p.2.1) T9 q1 q2 q3 q4 q5 q7 q8 q12
    have H1 := TF_tk H1 X9 f9 (nxP_O hPO)
    have f1 := fr_tr f1 (fr_mo f9 (fun k hk => Or.inl hk))
    obtain ⟨E1, F1, hbf, htf⟩ := id H1
    obtain ⟨ht, hOt, X1, hPO, hsep⟩ := id E1
    obtain ⟨hnb, hOb, hYb, hNb, hSb, hKb⟩ := id X1
    obtain ⟨hfn, hFf, -⟩ := id F1
    refine jr_aload_n (pc := 56) h dX4_tellLine_56 rfl ?_
    refine jr_iload_n (pc := 57) h dX4_tellLine_57 rfl ?_
    refine iv_X4_72 (pc := 58) h hl hR dX4_tellLine_58 ⟨(Nat.le_of_ble_eq_true rfl), (Nat.le_of_ble_eq_true rfl), (Nat.le_of_ble_eq_true rfl), (Nat.le_of_ble_eq_true rfl)⟩ (Nat.le_of_ble_eq_true rfl) (by assumption) (by omega) (s_X1_open F1 (by omega) (show ct 10 < 8 by omega)) (fun v_58 n_58 M_58 hn_58 hp => ?_)
    obtain ⟨rfl, rfl, hM⟩ := hp
    have H1 := TF_op (s := 10) H1 hM
    have f1 := fr_tr f1 (fr_up hM (Or.inr ⟨by omega, by omega⟩))
    obtain ⟨E1, F1, hbf, htf⟩ := id H1
    obtain ⟨ht, hOt, X1, hPO, hsep⟩ := id E1
    obtain ⟨hnb, hOb, hYb, hNb, hSb, hKb⟩ := id X1
    obtain ⟨hfn, hFf, -⟩ := id F1
    refine jr_iload_n (pc := 61) h dX4_tellLine_61 rfl ?_
    refine jr_tableIn (pc := 62) h (x := 10) (off := 97) 159 dX4_tellLine_62 (by omega) (by omega) (by omega) rfl (by decide) ?_
    refine jr_aload_n (pc := 159) h dX4_tellLine_159 rfl ?_
    refine jr_aload_n (pc := 160) h dX4_tellLine_160 rfl ?_
    refine jr_iload_n (pc := 161) h dX4_tellLine_161 rfl ?_
    refine iv_X4_92 (pc := 162) h hl hR dX4_tellLine_162 ⟨(Nat.le_of_ble_eq_true rfl), (Nat.le_of_ble_eq_true rfl), (Nat.le_of_ble_eq_true rfl), (Nat.le_of_ble_eq_true rfl)⟩ (Nat.le_of_ble_eq_true rfl) (by assumption) (by omega) (s_X4_tellNumbers_10 H1 hby (show ct 10 < 8 by omega)) (fun v_162 n_162 M_162 hn_162 hp => ?_)
    obtain ⟨⟨rfl, rfl⟩, H1, fx⟩ := hp
    replace H1 : TF _ n t b f bs (ln_10 bs ct (nxP bs p) (opT ct td 10)).1 ct (ln_10 bs ct (nxP bs p) (opT ct td 10)).2 bk si ld := H1
    have f1 := fr_tr f1 fx
    obtain ⟨⟨p9, td9⟩, e9⟩ : ∃ r, ln_10 bs ct (nxP bs p) (opT ct td 10) = r := ⟨_, rfl⟩
    rw [e9] at H1
    replace H1 : TF _ n t b f bs p9 ct td9 bk si ld := H1
    obtain ⟨E1, F1, hbf, htf⟩ := id H1
    obtain ⟨ht, hOt, X1, hPO, hsep⟩ := id E1
    obtain ⟨hnb, hOb, hYb, hNb, hSb, hKb⟩ := id X1
    obtain ⟨hfn, hFf, -⟩ := id F1
    refine jr_aload_n (pc := 165) h dX4_tellLine_165 rfl ?_
    refine gf_X4_12 (pc := 166) h dX4_tellLine_166 (by assumption) (by omega) ?_
    refine iv_X4_35 (pc := 169) h hl hR dX4_tellLine_169 ⟨(Nat.le_of_ble_eq_true rfl), (Nat.le_of_ble_eq_true rfl), (Nat.le_of_ble_eq_true rfl), (Nat.le_of_ble_eq_true rfl)⟩ (Nat.le_of_ble_eq_true rfl) (by assumption) (by omega) (s_X6_isFine X1 hPO.1.2.2.2.2.1) (fun v_169 n_169 M_169 hn_169 hp => ?_)
    obtain ⟨⟨rfl, rfl, rfl⟩, gr_169⟩ := hp
    refine jr_if_eq (pc := 172) h 180 dX4_tellLine_172 (by decide) (by omega) (fun c_172 => ?_) (fun c_172 => ?_)
    · skip
      refine jr_vret (pc := 180) h hRt dX4_tellLine_180 (Nat.le_of_ble_eq_true rfl) (Nat.le_of_ble_eq_true rfl) ?_
      have eT : tlnP bs ct td 10 p = tlnC ct 10 (p9, td9) := by
        unfold tlnP
        rw [if_neg (by omega), if_neg (show ¬ ((jtab 0).2.2 (Int.toNat 10) ≤ ct (Int.toNat 10)) from (show ¬ ((3 : Int) ≤ ct 10) by omega)), ← e9]
        rfl
      rw [eT]
      first
      | (have e7 : p9.1 7 = 0 := bz_1.mp c_172
         have eC : tlnC ct 10 (p9, td9) = (p9, up ct 10 (ct 10 + 1), td9) := by
           unfold tlnC
           rw [if_pos e7]
           rfl
         rw [eC]
         exact ⟨⟨rfl, rfl⟩, H1, f1⟩)
      | (have e7 : ¬ p9.1 7 = 0 := bz_0.mp c_172
         have eC : tlnC ct 10 (p9, td9) = (p9, ct, td9) := by
           unfold tlnC
           rw [if_neg e7]
         rw [eC]
         exact ⟨⟨rfl, rfl⟩, H1, f1⟩)
    · skip
      refine jr_aload_n (pc := 175) h dX4_tellLine_175 rfl ?_
      refine jr_iload_n (pc := 176) h dX4_tellLine_176 rfl ?_
      refine iv_X4_95 (pc := 177) h hl hR dX4_tellLine_177 ⟨(Nat.le_of_ble_eq_true rfl), (Nat.le_of_ble_eq_true rfl), (Nat.le_of_ble_eq_true rfl), (Nat.le_of_ble_eq_true rfl)⟩ (Nat.le_of_ble_eq_true rfl) (by assumption) (by omega) (s_X1_close F1 (a := 10) (by omega) (show ct 10 < 3 by omega)) (fun v_177 n_177 M_177 hn_177 hp => ?_)
      obtain ⟨rfl, rfl, hM⟩ := hp
      have H1 := TF_ct (k := 10) H1 hM (by omega)
      have f1 := fr_tr f1 (fr_up hM (Or.inr ⟨by omega, by omega⟩))
      refine jr_vret (pc := 180) h hRt dX4_tellLine_180 (Nat.le_of_ble_eq_true rfl) (Nat.le_of_ble_eq_true rfl) ?_
      have eT : tlnP bs ct td 10 p = tlnC ct 10 (p9, td9) := by
        unfold tlnP
        rw [if_neg (by omega), if_neg (show ¬ ((jtab 0).2.2 (Int.toNat 10) ≤ ct (Int.toNat 10)) from (show ¬ ((3 : Int) ≤ ct 10) by omega)), ← e9]
        rfl
      rw [eT]
      first
      | (have e7 : p9.1 7 = 0 := bz_1.mp c_172
         have eC : tlnC ct 10 (p9, td9) = (p9, up ct 10 (ct 10 + 1), td9) := by
           unfold tlnC
           rw [if_pos e7]
           rfl
         rw [eC]
         exact ⟨⟨rfl, rfl⟩, H1, f1⟩)
      | (have e7 : ¬ p9.1 7 = 0 := bz_0.mp c_172
         have eC : tlnC ct 10 (p9, td9) = (p9, ct, td9) := by
           unfold tlnC
           rw [if_neg e7]
         rw [eC]
         exact ⟨⟨rfl, rfl⟩, H1, f1⟩)
  · skip
    refine jr_aload_n (pc := 27) h dX4_tellLine_27 rfl ?_
    refine gf_X4_12 (pc := 28) h dX4_tellLine_28 (by assumption) (by omega) ?_
    refine jr_iload_n (pc := 31) h dX4_tellLine_31 rfl ?_
    refine jr_if_eq (pc := 32) h 40 dX4_tellLine_32 (by decide) (by omega) (fun c => absurd c (by omega)) (fun _ => ?_)
    refine jr_iload_n (pc := 35) h dX4_tellLine_35 rfl ?_
    refine jr_iconst (pc := 36) h dX4_tellLine_36 ?_
    refine jr_icmp_ne (pc := 37) h 44 dX4_tellLine_37 (by decide) (by omega) (by omega) (fun _ => ?_) (fun c => absurd c (by omega))
    refine jr_iconst (pc := 44) h dX4_tellLine_44 ?_
    refine iv_X4_56 (pc := 45) h hl hR dX4_tellLine_45 ⟨(Nat.le_of_ble_eq_true rfl), (Nat.le_of_ble_eq_true rfl), (Nat.le_of_ble_eq_true rfl), (Nat.le_of_ble_eq_true rfl)⟩ (Nat.le_of_ble_eq_true rfl) (by assumption) (by omega) (s_X6_fail X1 hPO.1.2.2.2.2.1) (fun v_45 n_45 M_45 hn_45 hp => ?_)
    obtain ⟨⟨rfl, rfl⟩, g9, T9, f9, q1, q2, q3, q4, q5, q7, q8, q12⟩ := hp
    have X9 := flP_of T9 q1 q2 q3 q4 q5 q7 q8 q12
    have H9 := TF_tk H1 X9 f9 (flP_O hPO (by omega))
    refine jr_vret (pc := 48) h hRt dX4_tellLine_48 (Nat.le_of_ble_eq_true rfl) (Nat.le_of_ble_eq_true rfl) ?_
    have eT : tlnP bs ct td 10 p = (flP 5 p, ct, td) := by
      unfold tlnP
      rw [if_neg (by omega), if_pos (show (jtab 0).2.2 (Int.toNat 10) ≤ ct (Int.toNat 10) from (show ((3 : Int) ≤ ct 10) from bz_1.mp (by rw [← eF]; omega)))]
      rfl
    rw [eT]
    exact ⟨⟨rfl, rfl⟩, H9, fr_mo f9 (fun k hk => Or.inl hk)⟩
set_option maxHeartbeats 1000000 in
set_option maxRecDepth 20000 in
theorem s_X4_tellLine_11 {l : Launch} {n : Nat} {M : jdM} {t b f : Nat} {bs : Nat → Int} {p : TS} {ct td bk si ld : Nat → Int} (H1 : TF M n t b f bs p ct td bk si ld) (hby : ∀ i, -128 ≤ bs i ∧ bs i < 128) : Ct l yX4_tellLine cX4_tellLine 3 none rX4_tellLine [.ref t, .ref f, jI 11] n M (fun vv n' M' => (vv = none ∧ n = n') ∧ TF M' n t b f bs (tlnP bs ct td 11 p).1 (tlnP bs ct td 11 p).2.1 (tlnP bs ct td 11 p).2.2 bk si ld ∧ fr (TlS b f) M M') := by
  refine Ct_of [some (.ref t), some (.ref f), some (jI 11)] (by decide) (Nat.le_of_ble_eq_true rfl) rfl (fun κ hl h hR hRt hmn hn0 => ?_)
  have h : Ok κ RX4 cX4_tellLine 3 none := h
  obtain ⟨E1, F1, hbf, htf⟩ := id H1
  obtain ⟨ht, hOt, X1, hPO, hsep⟩ := id E1
  obtain ⟨hnb, hOb, hYb, hNb, hSb, hKb⟩ := id X1
  obtain ⟨hfn, hFf, -⟩ := id F1
  have f1 : fr (TlS b f) M M := fr_rf
  refine jr_iload_n (pc := 0) h dX4_tellLine_0 rfl ?_
  refine jr_if_lt (pc := 1) h 10 dX4_tellLine_1 (by decide) (by omega) (fun c => absurd c (by omega)) (fun _ => ?_)
  refine jr_iload_n (pc := 4) h dX4_tellLine_4 rfl ?_
  refine jr_bipush (pc := 5) h dX4_tellLine_5 bp_13 ?_
  refine jr_icmp_lt (pc := 7) h 19 dX4_tellLine_7 (by decide) (by omega) (by omega) (fun _ => ?_) (fun c => absurd c (by omega))
  refine jr_aload_n (pc := 19) h dX4_tellLine_19 rfl ?_
  refine jr_iload_n (pc := 20) h dX4_tellLine_20 rfl ?_
  refine iv_X4_65 (pc := 21) h hl hR dX4_tellLine_21 ⟨(Nat.le_of_ble_eq_true rfl), (Nat.le_of_ble_eq_true rfl), (Nat.le_of_ble_eq_true rfl), (Nat.le_of_ble_eq_true rfl)⟩ (Nat.le_of_ble_eq_true rfl) (by assumption) (by omega) (s_X1_isFull F1 (by omega)) (fun v_21 n_21 M_21 hn_21 hp => ?_)
  obtain ⟨⟨rfl, rfl, rfl⟩, gr_21⟩ := hp
  have eF : bz ((11 : Int) < 0 ∨ (13 : Int) ≤ 11 ∨ (jtab 0).2.2 (Int.toNat 11) ≤ ct (Int.toNat 11)) = bz ((4 : Int) ≤ ct 11) := bz_iff ⟨fun q => q.elim (fun q => absurd q (by decide)) (fun q => q.elim (fun q => absurd q (by decide)) id), fun q => Or.inr (Or.inr q)⟩
  refine jr_if_eq (pc := 24) h 49 dX4_tellLine_24 (by decide) (by omega) (fun c_24 => ?_) (fun c_24 => ?_)
  · skip
    refine jr_aload_n (pc := 49) h dX4_tellLine_49 rfl ?_
    refine gf_X4_12 (pc := 50) h dX4_tellLine_50 (by assumption) (by omega) ?_
    refine iv_X4_69 (pc := 53) h hl hR dX4_tellLine_53 ⟨(Nat.le_of_ble_eq_true rfl), (Nat.le_of_ble_eq_true rfl), (Nat.le_of_ble_eq_true rfl), (Nat.le_of_ble_eq_true rfl)⟩ (Nat.le_of_ble_eq_true rfl) (by assumption) (by omega) (s_X6_next X1 hby ⟨hPO.1.1, hPO.1.2.2.1⟩ rfl rfl rfl) (fun v_53 n_53 M_53 hn_53 hp => ?_)
    have hct : ct 11 < 4 := Int.not_le.mp (fun q => absurd (bz_t (P := ((4 : Int) ≤ ct 11)) q) (by rw [← eF]; omega))
    have hc0 : 0 ≤ ct 11 := (F1.2.2.2.2.2.2.2.1 11).1
    obtain ⟨⟨rfl, rfl⟩, g9, T9, f9, q1, q2, q3, q4, q5, q7, q8, q12⟩ := hp
    have X9 := nxP_of (w := p.2.1) T9 q1 q2 q3 q4 q5 q7 q8 q12
    have H1 := TF_tk H1 X9 f9 (nxP_O hPO)
    have f1 := fr_tr f1 (fr_mo f9 (fun k hk => Or.inl hk))
    obtain ⟨E1, F1, hbf, htf⟩ := id H1
    obtain ⟨ht, hOt, X1, hPO, hsep⟩ := id E1
    obtain ⟨hnb, hOb, hYb, hNb, hSb, hKb⟩ := id X1
    obtain ⟨hfn, hFf, -⟩ := id F1
    refine jr_aload_n (pc := 56) h dX4_tellLine_56 rfl ?_
    refine jr_iload_n (pc := 57) h dX4_tellLine_57 rfl ?_
    refine iv_X4_72 (pc := 58) h hl hR dX4_tellLine_58 ⟨(Nat.le_of_ble_eq_true rfl), (Nat.le_of_ble_eq_true rfl), (Nat.le_of_ble_eq_true rfl), (Nat.le_of_ble_eq_true rfl)⟩ (Nat.le_of_ble_eq_true rfl) (by assumption) (by omega) (s_X1_open F1 (by omega) (show ct 11 < 8 by omega)) (fun v_58 n_58 M_58 hn_58 hp => ?_)
    obtain ⟨rfl, rfl, hM⟩ := hp
    have H1 := TF_op (s := 11) H1 hM
    have f1 := fr_tr f1 (fr_up hM (Or.inr ⟨by omega, by omega⟩))
    obtain ⟨E1, F1, hbf, htf⟩ := id H1
    obtain ⟨ht, hOt, X1, hPO, hsep⟩ := id E1
    obtain ⟨hnb, hOb, hYb, hNb, hSb, hKb⟩ := id X1
    obtain ⟨hfn, hFf, -⟩ := id F1
    refine jr_iload_n (pc := 61) h dX4_tellLine_61 rfl ?_
    refine jr_tableIn (pc := 62) h (x := 11) (off := 97) 159 dX4_tellLine_62 (by omega) (by omega) (by omega) rfl (by decide) ?_
    refine jr_aload_n (pc := 159) h dX4_tellLine_159 rfl ?_
    refine jr_aload_n (pc := 160) h dX4_tellLine_160 rfl ?_
    refine jr_iload_n (pc := 161) h dX4_tellLine_161 rfl ?_
    refine iv_X4_92 (pc := 162) h hl hR dX4_tellLine_162 ⟨(Nat.le_of_ble_eq_true rfl), (Nat.le_of_ble_eq_true rfl), (Nat.le_of_ble_eq_true rfl), (Nat.le_of_ble_eq_true rfl)⟩ (Nat.le_of_ble_eq_true rfl) (by assumption) (by omega) (s_X4_tellNumbers_11 H1 hby (show ct 11 < 8 by omega)) (fun v_162 n_162 M_162 hn_162 hp => ?_)
    obtain ⟨⟨rfl, rfl⟩, H1, fx⟩ := hp
    replace H1 : TF _ n t b f bs (ln_11 bs ct (nxP bs p) (opT ct td 11)).1 ct (ln_11 bs ct (nxP bs p) (opT ct td 11)).2 bk si ld := H1
    have f1 := fr_tr f1 fx
    obtain ⟨⟨p9, td9⟩, e9⟩ : ∃ r, ln_11 bs ct (nxP bs p) (opT ct td 11) = r := ⟨_, rfl⟩
    rw [e9] at H1
    replace H1 : TF _ n t b f bs p9 ct td9 bk si ld := H1
    obtain ⟨E1, F1, hbf, htf⟩ := id H1
    obtain ⟨ht, hOt, X1, hPO, hsep⟩ := id E1
    obtain ⟨hnb, hOb, hYb, hNb, hSb, hKb⟩ := id X1
    obtain ⟨hfn, hFf, -⟩ := id F1
    refine jr_aload_n (pc := 165) h dX4_tellLine_165 rfl ?_
    refine gf_X4_12 (pc := 166) h dX4_tellLine_166 (by assumption) (by omega) ?_
    refine iv_X4_35 (pc := 169) h hl hR dX4_tellLine_169 ⟨(Nat.le_of_ble_eq_true rfl), (Nat.le_of_ble_eq_true rfl), (Nat.le_of_ble_eq_true rfl), (Nat.le_of_ble_eq_true rfl)⟩ (Nat.le_of_ble_eq_true rfl) (by assumption) (by omega) (s_X6_isFine X1 hPO.1.2.2.2.2.1) (fun v_169 n_169 M_169 hn_169 hp => ?_)
    obtain ⟨⟨rfl, rfl, rfl⟩, gr_169⟩ := hp
    refine jr_if_eq (pc := 172) h 180 dX4_tellLine_172 (by decide) (by omega) (fun c_172 => ?_) (fun c_172 => ?_)
    · skip
      refine jr_vret (pc := 180) h hRt dX4_tellLine_180 (Nat.le_of_ble_eq_true rfl) (Nat.le_of_ble_eq_true rfl) ?_
      have eT : tlnP bs ct td 11 p = tlnC ct 11 (p9, td9) := by
        unfold tlnP
        rw [if_neg (by omega), if_neg (show ¬ ((jtab 0).2.2 (Int.toNat 11) ≤ ct (Int.toNat 11)) from (show ¬ ((4 : Int) ≤ ct 11) by omega)), ← e9]
        rfl
      rw [eT]
      first
      | (have e7 : p9.1 7 = 0 := bz_1.mp c_172
         have eC : tlnC ct 11 (p9, td9) = (p9, up ct 11 (ct 11 + 1), td9) := by
           unfold tlnC
           rw [if_pos e7]
           rfl
         rw [eC]
         exact ⟨⟨rfl, rfl⟩, H1, f1⟩)
      | (have e7 : ¬ p9.1 7 = 0 := bz_0.mp c_172
         have eC : tlnC ct 11 (p9, td9) = (p9, ct, td9) := by
           unfold tlnC
           rw [if_neg e7]
         rw [eC]
         exact ⟨⟨rfl, rfl⟩, H1, f1⟩)
    · skip
      refine jr_aload_n (pc := 175) h dX4_tellLine_175 rfl ?_
      refine jr_iload_n (pc := 176) h dX4_tellLine_176 rfl ?_
      refine iv_X4_95 (pc := 177) h hl hR dX4_tellLine_177 ⟨(Nat.le_of_ble_eq_true rfl), (Nat.le_of_ble_eq_true rfl), (Nat.le_of_ble_eq_true rfl), (Nat.le_of_ble_eq_true rfl)⟩ (Nat.le_of_ble_eq_true rfl) (by assumption) (by omega) (s_X1_close F1 (a := 11) (by omega) (show ct 11 < 4 by omega)) (fun v_177 n_177 M_177 hn_177 hp => ?_)
      obtain ⟨rfl, rfl, hM⟩ := hp
      have H1 := TF_ct (k := 11) H1 hM (by omega)
      have f1 := fr_tr f1 (fr_up hM (Or.inr ⟨by omega, by omega⟩))
      refine jr_vret (pc := 180) h hRt dX4_tellLine_180 (Nat.le_of_ble_eq_true rfl) (Nat.le_of_ble_eq_true rfl) ?_
      have eT : tlnP bs ct td 11 p = tlnC ct 11 (p9, td9) := by
        unfold tlnP
        rw [if_neg (by omega), if_neg (show ¬ ((jtab 0).2.2 (Int.toNat 11) ≤ ct (Int.toNat 11)) from (show ¬ ((4 : Int) ≤ ct 11) by omega)), ← e9]
        rfl
      rw [eT]
      first
      | (have e7 : p9.1 7 = 0 := bz_1.mp c_172
         have eC : tlnC ct 11 (p9, td9) = (p9, up ct 11 (ct 11 + 1), td9) := by
           unfold tlnC
           rw [if_pos e7]
           rfl
         rw [eC]
         exact ⟨⟨rfl, rfl⟩, H1, f1⟩)
      | (have e7 : ¬ p9.1 7 = 0 := bz_0.mp c_172
         have eC : tlnC ct 11 (p9, td9) = (p9, ct, td9) := by
           unfold tlnC
           rw [if_neg e7]
         rw [eC]
         exact ⟨⟨rfl, rfl⟩, H1, f1⟩)
  · skip
    refine jr_aload_n (pc := 27) h dX4_tellLine_27 rfl ?_
    refine gf_X4_12 (pc := 28) h dX4_tellLine_28 (by assumption) (by omega) ?_
    refine jr_iload_n (pc := 31) h dX4_tellLine_31 rfl ?_
    refine jr_if_eq (pc := 32) h 40 dX4_tellLine_32 (by decide) (by omega) (fun c => absurd c (by omega)) (fun _ => ?_)
    refine jr_iload_n (pc := 35) h dX4_tellLine_35 rfl ?_
    refine jr_iconst (pc := 36) h dX4_tellLine_36 ?_
    refine jr_icmp_ne (pc := 37) h 44 dX4_tellLine_37 (by decide) (by omega) (by omega) (fun _ => ?_) (fun c => absurd c (by omega))
    refine jr_iconst (pc := 44) h dX4_tellLine_44 ?_
    refine iv_X4_56 (pc := 45) h hl hR dX4_tellLine_45 ⟨(Nat.le_of_ble_eq_true rfl), (Nat.le_of_ble_eq_true rfl), (Nat.le_of_ble_eq_true rfl), (Nat.le_of_ble_eq_true rfl)⟩ (Nat.le_of_ble_eq_true rfl) (by assumption) (by omega) (s_X6_fail X1 hPO.1.2.2.2.2.1) (fun v_45 n_45 M_45 hn_45 hp => ?_)
    obtain ⟨⟨rfl, rfl⟩, g9, T9, f9, q1, q2, q3, q4, q5, q7, q8, q12⟩ := hp
    have X9 := flP_of T9 q1 q2 q3 q4 q5 q7 q8 q12
    have H9 := TF_tk H1 X9 f9 (flP_O hPO (by omega))
    refine jr_vret (pc := 48) h hRt dX4_tellLine_48 (Nat.le_of_ble_eq_true rfl) (Nat.le_of_ble_eq_true rfl) ?_
    have eT : tlnP bs ct td 11 p = (flP 5 p, ct, td) := by
      unfold tlnP
      rw [if_neg (by omega), if_pos (show (jtab 0).2.2 (Int.toNat 11) ≤ ct (Int.toNat 11) from (show ((4 : Int) ≤ ct 11) from bz_1.mp (by rw [← eF]; omega)))]
      rfl
    rw [eT]
    exact ⟨⟨rfl, rfl⟩, H9, fr_mo f9 (fun k hk => Or.inl hk)⟩
set_option maxHeartbeats 1000000 in
set_option maxRecDepth 20000 in
theorem s_X4_tellLine_12 {l : Launch} {n : Nat} {M : jdM} {t b f : Nat} {bs : Nat → Int} {p : TS} {ct td bk si ld : Nat → Int} (H1 : TF M n t b f bs p ct td bk si ld) (hby : ∀ i, -128 ≤ bs i ∧ bs i < 128) : Ct l yX4_tellLine cX4_tellLine 3 none rX4_tellLine [.ref t, .ref f, jI 12] n M (fun vv n' M' => (vv = none ∧ n = n') ∧ TF M' n t b f bs (tlnP bs ct td 12 p).1 (tlnP bs ct td 12 p).2.1 (tlnP bs ct td 12 p).2.2 bk si ld ∧ fr (TlS b f) M M') := by
  refine Ct_of [some (.ref t), some (.ref f), some (jI 12)] (by decide) (Nat.le_of_ble_eq_true rfl) rfl (fun κ hl h hR hRt hmn hn0 => ?_)
  have h : Ok κ RX4 cX4_tellLine 3 none := h
  obtain ⟨E1, F1, hbf, htf⟩ := id H1
  obtain ⟨ht, hOt, X1, hPO, hsep⟩ := id E1
  obtain ⟨hnb, hOb, hYb, hNb, hSb, hKb⟩ := id X1
  obtain ⟨hfn, hFf, -⟩ := id F1
  have f1 : fr (TlS b f) M M := fr_rf
  refine jr_iload_n (pc := 0) h dX4_tellLine_0 rfl ?_
  refine jr_if_lt (pc := 1) h 10 dX4_tellLine_1 (by decide) (by omega) (fun c => absurd c (by omega)) (fun _ => ?_)
  refine jr_iload_n (pc := 4) h dX4_tellLine_4 rfl ?_
  refine jr_bipush (pc := 5) h dX4_tellLine_5 bp_13 ?_
  refine jr_icmp_lt (pc := 7) h 19 dX4_tellLine_7 (by decide) (by omega) (by omega) (fun _ => ?_) (fun c => absurd c (by omega))
  refine jr_aload_n (pc := 19) h dX4_tellLine_19 rfl ?_
  refine jr_iload_n (pc := 20) h dX4_tellLine_20 rfl ?_
  refine iv_X4_65 (pc := 21) h hl hR dX4_tellLine_21 ⟨(Nat.le_of_ble_eq_true rfl), (Nat.le_of_ble_eq_true rfl), (Nat.le_of_ble_eq_true rfl), (Nat.le_of_ble_eq_true rfl)⟩ (Nat.le_of_ble_eq_true rfl) (by assumption) (by omega) (s_X1_isFull F1 (by omega)) (fun v_21 n_21 M_21 hn_21 hp => ?_)
  obtain ⟨⟨rfl, rfl, rfl⟩, gr_21⟩ := hp
  have eF : bz ((12 : Int) < 0 ∨ (13 : Int) ≤ 12 ∨ (jtab 0).2.2 (Int.toNat 12) ≤ ct (Int.toNat 12)) = bz ((4 : Int) ≤ ct 12) := bz_iff ⟨fun q => q.elim (fun q => absurd q (by decide)) (fun q => q.elim (fun q => absurd q (by decide)) id), fun q => Or.inr (Or.inr q)⟩
  refine jr_if_eq (pc := 24) h 49 dX4_tellLine_24 (by decide) (by omega) (fun c_24 => ?_) (fun c_24 => ?_)
  · skip
    refine jr_aload_n (pc := 49) h dX4_tellLine_49 rfl ?_
    refine gf_X4_12 (pc := 50) h dX4_tellLine_50 (by assumption) (by omega) ?_
    refine iv_X4_69 (pc := 53) h hl hR dX4_tellLine_53 ⟨(Nat.le_of_ble_eq_true rfl), (Nat.le_of_ble_eq_true rfl), (Nat.le_of_ble_eq_true rfl), (Nat.le_of_ble_eq_true rfl)⟩ (Nat.le_of_ble_eq_true rfl) (by assumption) (by omega) (s_X6_next X1 hby ⟨hPO.1.1, hPO.1.2.2.1⟩ rfl rfl rfl) (fun v_53 n_53 M_53 hn_53 hp => ?_)
    have hct : ct 12 < 4 := Int.not_le.mp (fun q => absurd (bz_t (P := ((4 : Int) ≤ ct 12)) q) (by rw [← eF]; omega))
    have hc0 : 0 ≤ ct 12 := (F1.2.2.2.2.2.2.2.1 12).1
    obtain ⟨⟨rfl, rfl⟩, g9, T9, f9, q1, q2, q3, q4, q5, q7, q8, q12⟩ := hp
    have X9 := nxP_of (w := p.2.1) T9 q1 q2 q3 q4 q5 q7 q8 q12
    have H1 := TF_tk H1 X9 f9 (nxP_O hPO)
    have f1 := fr_tr f1 (fr_mo f9 (fun k hk => Or.inl hk))
    obtain ⟨E1, F1, hbf, htf⟩ := id H1
    obtain ⟨ht, hOt, X1, hPO, hsep⟩ := id E1
    obtain ⟨hnb, hOb, hYb, hNb, hSb, hKb⟩ := id X1
    obtain ⟨hfn, hFf, -⟩ := id F1
    refine jr_aload_n (pc := 56) h dX4_tellLine_56 rfl ?_
    refine jr_iload_n (pc := 57) h dX4_tellLine_57 rfl ?_
    refine iv_X4_72 (pc := 58) h hl hR dX4_tellLine_58 ⟨(Nat.le_of_ble_eq_true rfl), (Nat.le_of_ble_eq_true rfl), (Nat.le_of_ble_eq_true rfl), (Nat.le_of_ble_eq_true rfl)⟩ (Nat.le_of_ble_eq_true rfl) (by assumption) (by omega) (s_X1_open F1 (by omega) (show ct 12 < 8 by omega)) (fun v_58 n_58 M_58 hn_58 hp => ?_)
    obtain ⟨rfl, rfl, hM⟩ := hp
    have H1 := TF_op (s := 12) H1 hM
    have f1 := fr_tr f1 (fr_up hM (Or.inr ⟨by omega, by omega⟩))
    obtain ⟨E1, F1, hbf, htf⟩ := id H1
    obtain ⟨ht, hOt, X1, hPO, hsep⟩ := id E1
    obtain ⟨hnb, hOb, hYb, hNb, hSb, hKb⟩ := id X1
    obtain ⟨hfn, hFf, -⟩ := id F1
    refine jr_iload_n (pc := 61) h dX4_tellLine_61 rfl ?_
    refine jr_tableIn (pc := 62) h (x := 12) (off := 58) 120 dX4_tellLine_62 (by omega) (by omega) (by omega) rfl (by decide) ?_
    refine jr_aload_n (pc := 120) h dX4_tellLine_120 rfl ?_
    refine gf_X4_12 (pc := 121) h dX4_tellLine_121 (by assumption) (by omega) ?_
    refine jr_iload_n (pc := 124) h dX4_tellLine_124 rfl ?_
    refine jr_aload_n (pc := 125) h dX4_tellLine_125 rfl ?_
    refine jr_iload_n (pc := 126) h dX4_tellLine_126 rfl ?_
    refine iv_X4_75 (pc := 127) h hl hR dX4_tellLine_127 ⟨(Nat.le_of_ble_eq_true rfl), (Nat.le_of_ble_eq_true rfl), (Nat.le_of_ble_eq_true rfl), (Nat.le_of_ble_eq_true rfl)⟩ (Nat.le_of_ble_eq_true rfl) (by assumption) (by omega) (s_X1_count F1 (a := 12) (by omega)) (fun v_127 n_127 M_127 hn_127 hp => ?_)
    obtain ⟨⟨rfl, rfl, rfl⟩, gr_127⟩ := hp
    have ecn : c_count ct 12 = ct 12 := if_pos (by omega)
    rw [ecn]
    refine iv_X4_79 (pc := 130) h hl hR dX4_tellLine_130 ⟨(Nat.le_of_ble_eq_true rfl), (Nat.le_of_ble_eq_true rfl), (Nat.le_of_ble_eq_true rfl), (Nat.le_of_ble_eq_true rfl)⟩ (Nat.le_of_ble_eq_true rfl) (by assumption) (by omega) (s_X6_expectNewName (a := 12) (c := ct 12) X1 hPO hby) (fun v_130 n_130 M_130 hn_130 hp => ?_)
    obtain ⟨⟨rfl, rfl⟩, X9, f9⟩ := hp
    have H1 := TF_tk H1 X9 f9 (nnP_O hPO (by omega) (by omega))
    have f1 := fr_tr f1 (fr_mo f9 (fun k hk => Or.inl hk))
    obtain ⟨E1, F1, hbf, htf⟩ := id H1
    obtain ⟨ht, hOt, X1, hPO, hsep⟩ := id E1
    obtain ⟨hnb, hOb, hYb, hNb, hSb, hKb⟩ := id X1
    obtain ⟨hfn, hFf, -⟩ := id F1
    refine jr_aload_n (pc := 133) h dX4_tellLine_133 rfl ?_
    refine jr_aload_n (pc := 134) h dX4_tellLine_134 rfl ?_
    refine jr_iload_n (pc := 135) h dX4_tellLine_135 rfl ?_
    refine iv_X4_82 (pc := 136) h hl hR dX4_tellLine_136 ⟨(Nat.le_of_ble_eq_true rfl), (Nat.le_of_ble_eq_true rfl), (Nat.le_of_ble_eq_true rfl), (Nat.le_of_ble_eq_true rfl)⟩ (Nat.le_of_ble_eq_true rfl) (by assumption) (by omega) (s_X4_tellNamedThing_12 H1 hby (show ct 12 < 8 by omega)) (fun v_136 n_136 M_136 hn_136 hp => ?_)
    obtain ⟨⟨rfl, rfl⟩, H1, fx⟩ := hp
    replace H1 : TF _ n t b f bs (ln_12 bs ct (nnP bs 12 (ct 12) (nxP bs p)) (opT ct td 12)).1 ct (ln_12 bs ct (nnP bs 12 (ct 12) (nxP bs p)) (opT ct td 12)).2 bk si ld := H1
    have f1 := fr_tr f1 fx
    obtain ⟨⟨p9, td9⟩, e9⟩ : ∃ r, ln_12 bs ct (nnP bs 12 (ct 12) (nxP bs p)) (opT ct td 12) = r := ⟨_, rfl⟩
    rw [e9] at H1
    replace H1 : TF _ n t b f bs p9 ct td9 bk si ld := H1
    obtain ⟨E1, F1, hbf, htf⟩ := id H1
    obtain ⟨ht, hOt, X1, hPO, hsep⟩ := id E1
    obtain ⟨hnb, hOb, hYb, hNb, hSb, hKb⟩ := id X1
    obtain ⟨hfn, hFf, -⟩ := id F1
    refine jr_goto (pc := 139) h 165 dX4_tellLine_139 (by decide) ?_
    refine jr_aload_n (pc := 165) h dX4_tellLine_165 rfl ?_
    refine gf_X4_12 (pc := 166) h dX4_tellLine_166 (by assumption) (by omega) ?_
    refine iv_X4_35 (pc := 169) h hl hR dX4_tellLine_169 ⟨(Nat.le_of_ble_eq_true rfl), (Nat.le_of_ble_eq_true rfl), (Nat.le_of_ble_eq_true rfl), (Nat.le_of_ble_eq_true rfl)⟩ (Nat.le_of_ble_eq_true rfl) (by assumption) (by omega) (s_X6_isFine X1 hPO.1.2.2.2.2.1) (fun v_169 n_169 M_169 hn_169 hp => ?_)
    obtain ⟨⟨rfl, rfl, rfl⟩, gr_169⟩ := hp
    refine jr_if_eq (pc := 172) h 180 dX4_tellLine_172 (by decide) (by omega) (fun c_172 => ?_) (fun c_172 => ?_)
    · skip
      refine jr_vret (pc := 180) h hRt dX4_tellLine_180 (Nat.le_of_ble_eq_true rfl) (Nat.le_of_ble_eq_true rfl) ?_
      have eT : tlnP bs ct td 12 p = tlnC ct 12 (p9, td9) := by
        unfold tlnP
        rw [if_neg (by omega), if_neg (show ¬ ((jtab 0).2.2 (Int.toNat 12) ≤ ct (Int.toNat 12)) from (show ¬ ((4 : Int) ≤ ct 12) by omega)), ← e9]
        rfl
      rw [eT]
      first
      | (have e7 : p9.1 7 = 0 := bz_1.mp c_172
         have eC : tlnC ct 12 (p9, td9) = (p9, up ct 12 (ct 12 + 1), td9) := by
           unfold tlnC
           rw [if_pos e7]
           rfl
         rw [eC]
         exact ⟨⟨rfl, rfl⟩, H1, f1⟩)
      | (have e7 : ¬ p9.1 7 = 0 := bz_0.mp c_172
         have eC : tlnC ct 12 (p9, td9) = (p9, ct, td9) := by
           unfold tlnC
           rw [if_neg e7]
         rw [eC]
         exact ⟨⟨rfl, rfl⟩, H1, f1⟩)
    · skip
      refine jr_aload_n (pc := 175) h dX4_tellLine_175 rfl ?_
      refine jr_iload_n (pc := 176) h dX4_tellLine_176 rfl ?_
      refine iv_X4_95 (pc := 177) h hl hR dX4_tellLine_177 ⟨(Nat.le_of_ble_eq_true rfl), (Nat.le_of_ble_eq_true rfl), (Nat.le_of_ble_eq_true rfl), (Nat.le_of_ble_eq_true rfl)⟩ (Nat.le_of_ble_eq_true rfl) (by assumption) (by omega) (s_X1_close F1 (a := 12) (by omega) (show ct 12 < 4 by omega)) (fun v_177 n_177 M_177 hn_177 hp => ?_)
      obtain ⟨rfl, rfl, hM⟩ := hp
      have H1 := TF_ct (k := 12) H1 hM (by omega)
      have f1 := fr_tr f1 (fr_up hM (Or.inr ⟨by omega, by omega⟩))
      refine jr_vret (pc := 180) h hRt dX4_tellLine_180 (Nat.le_of_ble_eq_true rfl) (Nat.le_of_ble_eq_true rfl) ?_
      have eT : tlnP bs ct td 12 p = tlnC ct 12 (p9, td9) := by
        unfold tlnP
        rw [if_neg (by omega), if_neg (show ¬ ((jtab 0).2.2 (Int.toNat 12) ≤ ct (Int.toNat 12)) from (show ¬ ((4 : Int) ≤ ct 12) by omega)), ← e9]
        rfl
      rw [eT]
      first
      | (have e7 : p9.1 7 = 0 := bz_1.mp c_172
         have eC : tlnC ct 12 (p9, td9) = (p9, up ct 12 (ct 12 + 1), td9) := by
           unfold tlnC
           rw [if_pos e7]
           rfl
         rw [eC]
         exact ⟨⟨rfl, rfl⟩, H1, f1⟩)
      | (have e7 : ¬ p9.1 7 = 0 := bz_0.mp c_172
         have eC : tlnC ct 12 (p9, td9) = (p9, ct, td9) := by
           unfold tlnC
           rw [if_neg e7]
         rw [eC]
         exact ⟨⟨rfl, rfl⟩, H1, f1⟩)
  · skip
    refine jr_aload_n (pc := 27) h dX4_tellLine_27 rfl ?_
    refine gf_X4_12 (pc := 28) h dX4_tellLine_28 (by assumption) (by omega) ?_
    refine jr_iload_n (pc := 31) h dX4_tellLine_31 rfl ?_
    refine jr_if_eq (pc := 32) h 40 dX4_tellLine_32 (by decide) (by omega) (fun c => absurd c (by omega)) (fun _ => ?_)
    refine jr_iload_n (pc := 35) h dX4_tellLine_35 rfl ?_
    refine jr_iconst (pc := 36) h dX4_tellLine_36 ?_
    refine jr_icmp_ne (pc := 37) h 44 dX4_tellLine_37 (by decide) (by omega) (by omega) (fun _ => ?_) (fun c => absurd c (by omega))
    refine jr_iconst (pc := 44) h dX4_tellLine_44 ?_
    refine iv_X4_56 (pc := 45) h hl hR dX4_tellLine_45 ⟨(Nat.le_of_ble_eq_true rfl), (Nat.le_of_ble_eq_true rfl), (Nat.le_of_ble_eq_true rfl), (Nat.le_of_ble_eq_true rfl)⟩ (Nat.le_of_ble_eq_true rfl) (by assumption) (by omega) (s_X6_fail X1 hPO.1.2.2.2.2.1) (fun v_45 n_45 M_45 hn_45 hp => ?_)
    obtain ⟨⟨rfl, rfl⟩, g9, T9, f9, q1, q2, q3, q4, q5, q7, q8, q12⟩ := hp
    have X9 := flP_of T9 q1 q2 q3 q4 q5 q7 q8 q12
    have H9 := TF_tk H1 X9 f9 (flP_O hPO (by omega))
    refine jr_vret (pc := 48) h hRt dX4_tellLine_48 (Nat.le_of_ble_eq_true rfl) (Nat.le_of_ble_eq_true rfl) ?_
    have eT : tlnP bs ct td 12 p = (flP 5 p, ct, td) := by
      unfold tlnP
      rw [if_neg (by omega), if_pos (show (jtab 0).2.2 (Int.toNat 12) ≤ ct (Int.toNat 12) from (show ((4 : Int) ≤ ct 12) from bz_1.mp (by rw [← eF]; omega)))]
      rfl
    rw [eT]
    exact ⟨⟨rfl, rfl⟩, H9, fr_mo f9 (fun k hk => Or.inl hk)⟩
set_option maxHeartbeats 1000000 in
set_option maxRecDepth 20000 in
theorem s_X4_tellLine_o {l : Launch} {n : Nat} {M : jdM} {t b f : Nat} {bs : Nat → Int} {p : TS} {ct td bk si ld : Nat → Int} (H1 : TF M n t b f bs p ct td bk si ld) (hby : ∀ i, -128 ≤ bs i ∧ bs i < 128) {a : Int} (ha : -1 ≤ a ∧ a ≤ 13) (ho : a < 0 ∨ 13 ≤ a) : Ct l yX4_tellLine cX4_tellLine 3 none rX4_tellLine [.ref t, .ref f, jI a] n M (fun vv n' M' => (vv = none ∧ n = n') ∧ TF M' n t b f bs (tlnP bs ct td a p).1 (tlnP bs ct td a p).2.1 (tlnP bs ct td a p).2.2 bk si ld ∧ fr (TlS b f) M M') := by
  refine Ct_of [some (.ref t), some (.ref f), some (jI a)] (by decide) (Nat.le_of_ble_eq_true rfl) rfl (fun κ hl h hR hRt hmn hn0 => ?_)
  have h : Ok κ RX4 cX4_tellLine 3 none := h
  obtain ⟨E1, F1, hbf, htf⟩ := id H1
  obtain ⟨ht, hOt, X1, hPO, hsep⟩ := id E1
  obtain ⟨hnb, hOb, hYb, hNb, hSb, hKb⟩ := id X1
  obtain ⟨hfn, hFf, -⟩ := id F1
  refine jr_iload_n (pc := 0) h dX4_tellLine_0 rfl ?_
  refine jr_if_lt (pc := 1) h 10 dX4_tellLine_1 (by decide) (by omega) (fun c_1 => ?_) (fun c_1 => ?_)
  · skip
    refine jr_aload_n (pc := 10) h dX4_tellLine_10 rfl ?_
    refine gf_X4_12 (pc := 11) h dX4_tellLine_11 (by assumption) (by omega) ?_
    refine jr_iconst (pc := 14) h dX4_tellLine_14 ?_
    refine iv_X4_56 (pc := 15) h hl hR dX4_tellLine_15 ⟨(Nat.le_of_ble_eq_true rfl), (Nat.le_of_ble_eq_true rfl), (Nat.le_of_ble_eq_true rfl), (Nat.le_of_ble_eq_true rfl)⟩ (Nat.le_of_ble_eq_true rfl) (by assumption) (by omega) (s_X6_fail X1 hPO.1.2.2.2.2.1) (fun v_15 n_15 M_15 hn_15 hp => ?_)
    obtain ⟨⟨rfl, rfl⟩, g9, T9, f9, q1, q2, q3, q4, q5, q7, q8, q12⟩ := hp
    have X9 := flP_of T9 q1 q2 q3 q4 q5 q7 q8 q12
    have H9 := TF_tk H1 X9 f9 (flP_O hPO (by omega))
    refine jr_vret (pc := 18) h hRt dX4_tellLine_18 (Nat.le_of_ble_eq_true rfl) (Nat.le_of_ble_eq_true rfl) ?_
    have eT : tlnP bs ct td a p = (flP 1 p, ct, td) := by
      unfold tlnP
      rw [if_pos (by omega)]
    rw [eT]
    exact ⟨⟨rfl, rfl⟩, H9, fr_mo f9 (fun k hk => Or.inl hk)⟩
  · skip
    refine jr_iload_n (pc := 4) h dX4_tellLine_4 rfl ?_
    refine jr_bipush (pc := 5) h dX4_tellLine_5 bp_13 ?_
    refine jr_icmp_lt (pc := 7) h 19 dX4_tellLine_7 (by decide) (by omega) (by omega) (fun c_7 => ?_) (fun c_7 => ?_)
    · skip
      exfalso; omega
    · skip
      refine jr_aload_n (pc := 10) h dX4_tellLine_10 rfl ?_
      refine gf_X4_12 (pc := 11) h dX4_tellLine_11 (by assumption) (by omega) ?_
      refine jr_iconst (pc := 14) h dX4_tellLine_14 ?_
      refine iv_X4_56 (pc := 15) h hl hR dX4_tellLine_15 ⟨(Nat.le_of_ble_eq_true rfl), (Nat.le_of_ble_eq_true rfl), (Nat.le_of_ble_eq_true rfl), (Nat.le_of_ble_eq_true rfl)⟩ (Nat.le_of_ble_eq_true rfl) (by assumption) (by omega) (s_X6_fail X1 hPO.1.2.2.2.2.1) (fun v_15 n_15 M_15 hn_15 hp => ?_)
      obtain ⟨⟨rfl, rfl⟩, g9, T9, f9, q1, q2, q3, q4, q5, q7, q8, q12⟩ := hp
      have X9 := flP_of T9 q1 q2 q3 q4 q5 q7 q8 q12
      have H9 := TF_tk H1 X9 f9 (flP_O hPO (by omega))
      refine jr_vret (pc := 18) h hRt dX4_tellLine_18 (Nat.le_of_ble_eq_true rfl) (Nat.le_of_ble_eq_true rfl) ?_
      have eT : tlnP bs ct td a p = (flP 1 p, ct, td) := by
        unfold tlnP
        rw [if_pos (by omega)]
      rw [eT]
      exact ⟨⟨rfl, rfl⟩, H9, fr_mo f9 (fun k hk => Or.inl hk)⟩
theorem s_X4_tellLine {l : Launch} {n : Nat} {M : jdM} {t b f : Nat} {bs : Nat → Int} {p : TS} {ct td bk si ld : Nat → Int} (H1 : TF M n t b f bs p ct td bk si ld) (hby : ∀ i, -128 ≤ bs i ∧ bs i < 128) (hN : NO p) {a : Int} (ha : -1 ≤ a ∧ a ≤ 13) : Ct l yX4_tellLine cX4_tellLine 3 none rX4_tellLine [.ref t, .ref f, jI a] n M (fun vv n' M' => (vv = none ∧ n = n') ∧ TF M' n t b f bs (tlnP bs ct td a p).1 (tlnP bs ct td a p).2.1 (tlnP bs ct td a p).2.2 bk si ld ∧ fr (TlS b f) M M') := by
  by_cases ho : a < 0 ∨ 13 ≤ a
  · exact s_X4_tellLine_o H1 hby ha ho
  · have h3 : a = 0 ∨ a = 1 ∨ a = 2 ∨ a = 3 ∨ a = 4 ∨ a = 5 ∨ a = 6 ∨ a = 7 ∨ a = 8 ∨ a = 9 ∨ a = 10 ∨ a = 11 ∨ a = 12 := by omega
    rcases h3 with rfl | rfl | rfl | rfl | rfl | rfl | rfl | rfl | rfl | rfl | rfl | rfl | rfl
    · exact s_X4_tellLine_0 H1 hby
    · exact s_X4_tellLine_1 H1 hby
    · exact s_X4_tellLine_2 H1 hby
    · exact s_X4_tellLine_3 H1 hby
    · exact s_X4_tellLine_4 H1 hby
    · exact s_X4_tellLine_5 H1 hby
    · exact s_X4_tellLine_6 H1 hby
    · exact s_X4_tellLine_7 H1 hby hN
    · exact s_X4_tellLine_8 H1 hby
    · exact s_X4_tellLine_9 H1 hby
    · exact s_X4_tellLine_10 H1 hby
    · exact s_X4_tellLine_11 H1 hby
    · exact s_X4_tellLine_12 H1 hby
