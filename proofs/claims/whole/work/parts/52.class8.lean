/-! 52: the class: flight -/
theorem fX7_sw {a cu dr : Nat} {g : Nat → Int} : up (up (fX7 a cu dr g) 2 (.ref dr)) 3 (.ref cu) = fX7 a dr cu g := by
  funext i
  match i with
  | 0 => rfl
  | 1 => rfl
  | 2 => rfl
  | 3 => rfl
  | 4 => rfl
  | 5 => rfl
  | 6 => rfl
  | 7 => rfl
  | 8 => rfl
  | 9 => rfl
  | 10 => rfl
  | 11 => rfl
  | 12 => rfl
  | i + 13 => rfl
theorem SXc_sw {M M1 : jdM} {n a cu dr : Nat} {g bs : Nat → Int} {p : TS} {F D Rr : FS} {mk : Nat → FS} {tg tk tr : Nat → Int} (h : SXc M n a cu dr (g, bs, p, F, D, Rr, mk, tg, tk, tr)) (h2 : fr (fun k => k = a) M M1) (h1 : M1 a = jdO 7 (fX7 a dr cu g)) : SXc M1 n a dr cu (g, bs, p, D, F, Rr, mk, tg, tk, tr) := by
  obtain ⟨han, hcd, xO, xT, xF, xG, xR, xA, xK, xD, xQ, xB⟩ := h
  exact ⟨han, hcd.elim (fun q => Or.inr ⟨q.2, q.1⟩) (fun q => Or.inl ⟨q.2, q.1⟩), h1, Te_fr xT h2 (Nat.le_refl _) (fun k h1 h2 q => by have q : _ = a := q; omega) (fun q => by have q : _ = a := q; omega), Fl_fr xG h2 (Nat.le_refl _) (fun k h1 h2 q => by have q : _ = a := q; omega), Fl_fr xF h2 (Nat.le_refl _) (fun k h1 h2 q => by have q : _ = a := q; omega), Rn_fr xR h2 (Nat.le_refl _) (fun k h1 h2 q => by have q : _ = a := q; omega), ((h2 _ (fun q => by have q : _ = a := q; omega)).trans xA), (fun i hi => Rn_fr (xK i hi) h2 (Nat.le_refl _) (fun k h1 h2 q => by have q : _ = a := q; omega)), (by
    obtain ⟨dg, rm, wn, be, y1, y2⟩ := xD
    exact ⟨dg, rm, wn, be, Dr_fr y1 h2 (Nat.le_refl _) (fun k h1 h2 q => by have q : _ = a := q; omega), y2⟩), (by
    obtain ⟨og, ww, y1⟩ := xQ
    exact ⟨og, ww, Od_fr y1 h2 (Nat.le_refl _) (fun k h1 h2 q => by have q : _ = a := q; omega)⟩), (by
    obtain ⟨fc, wf, y1⟩ := xB
    exact ⟨fc, wf, Ti_fr y1 h2 (Nat.le_refl _) (fun k h1 h2 q => by have q : _ = a := q; omega)⟩)⟩
set_option maxHeartbeats 1000000 in
set_option maxRecDepth 20000 in
theorem s_X7_flight_r {l : Launch} {n : Nat} {M : jdM} {a cu dr : Nat} {g bs : Nat → Int} {p : TS} {ct td bk si ld : Nat → Int} {D : FS} {g3 sp sk fa go : Nat → Int} {mk : Nat → FS} {tg tk tr : Nat → Int} (hS : SXc M n a cu dr (g, bs, p, (ct, td, bk, si, ld), D, (g3, sp, sk, fa, go), mk, tg, tk, tr)) {x : Int} (hx : -2147483648 ≤ x ∧ x < 2147483648) (h1 : 0 ≤ g 1 ∧ g 1 ≤ 900) (hxr : x < 0 ∨ g 1 < x) : Ct l yX7_flight cX7_flight 3 (some .int) rX7_flight [.ref a, jI x] n M (fun vv n' M' => (vv = some (jI (-1)) ∧ n = n') ∧ SXc M' n a cu dr (up g 10 2, bs, p, (ct, td, bk, si, ld), D, (g3, sp, sk, fa, go), mk, tg, tk, tr) ∧ fr (XSf a) M M') := by
  refine Ct_of [some (.ref a), some (jI x), none] (by decide) (Nat.le_of_ble_eq_true rfl) rfl (fun κ hl h hR hRt hmn hn0 => ?_)
  have h : Ok κ RX7 cX7_flight 3 (some .int) := h
  obtain ⟨han, hcd, hO7, hT7, hF7, hG7, hR7, hA7, hK7, hD7, hQ7, hB7⟩ := id hS
  have hO7 : M a = jdO 7 (fX7 a cu dr _) := hO7
  try dsimp only at hO7
  try dsimp only at hT7
  try dsimp only at hK7
  try dsimp only at hB7
  have hF : Fl M n cu ct td bk si ld := hF7
  have hRn : Rn M n (a + 19) g3 sp sk fa go := hR7
  obtain ⟨hnF, hOF, hAF, hBF, hCF, hDF, hEF, rA, rB, r0, rC, rD, rE⟩ := id hF
  obtain ⟨hnR, hOR, -⟩ := id hRn
  obtain ⟨dg, rm, wn, be, hDr, hwn, hbe⟩ := id hD7
  obtain ⟨hnD, hOD, -⟩ := id hDr
  obtain ⟨og, ww, hOd⟩ := id hQ7
  obtain ⟨hnQ, hOQ, -⟩ := id hOd
  obtain ⟨fc, wf, hTi⟩ := id hB7
  obtain ⟨hnB, hOB, -⟩ := id hTi
  obtain ⟨ht7, hOT, hTk, hPO, -⟩ := id hT7
  have ctr : 0 ≤ c_rows ct td ∧ c_rows ct td ≤ 40 := by
    unfold c_rows c_get
    have := (rB 0).1
    split
    · omega
    · rw [if_pos (by omega)]
      exact ⟨this, r0⟩
  have c2 := rA 2
  have c5 := rA 5
  have c8 := rA 8
  have f1 : fr (XSf a) M M := fr_rf
  refine jr_iload_n (pc := 0) h dX7_flight_0 rfl ?_
  refine jr_if_lt (pc := 1) h 12 dX7_flight_1 (by decide) (by omega) (fun c_1 => ?_) (fun c_1 => ?_)
  · first | have d_1 := bz_0.mp c_1 | have d_1 := bz_1.mp c_1 | skip
    refine jr_aload_n (pc := 12) h dX7_flight_12 rfl ?_
    refine jr_iconst (pc := 13) h dX7_flight_13 ?_
    refine iv_X7_66 (pc := 14) h hl hR dX7_flight_14 ⟨(Nat.le_of_ble_eq_true rfl), (Nat.le_of_ble_eq_true rfl), (Nat.le_of_ble_eq_true rfl), (Nat.le_of_ble_eq_true rfl)⟩ (Nat.le_of_ble_eq_true rfl) (by assumption) (by omega) (s_X7_refuse hS) (fun v_14 n_14 M_14 hn_14 hp => ?_)
    obtain ⟨⟨rfl, rfl⟩, hS, fa_⟩ := hp
    have f1 := fr_tr f1 fa_
    refine jr_iret (pc := 17) h hRt dX7_flight_17 rfl (Nat.le_of_ble_eq_true rfl) (Nat.le_of_ble_eq_true rfl) ?_
    exact ⟨⟨rfl, rfl⟩, hS, f1⟩
  · first | have d_1 := bz_0.mp c_1 | have d_1 := bz_1.mp c_1 | skip
    refine jr_iload_n (pc := 4) h dX7_flight_4 rfl ?_
    refine jr_aload_n (pc := 5) h dX7_flight_5 rfl ?_
    refine gf_X7_58 (pc := 6) h dX7_flight_6 (by assumption) (by omega) ?_
    refine jr_icmp_le (pc := 9) h 18 dX7_flight_9 (by decide) (by omega) (by omega) (fun c_9 => ?_) (fun c_9 => ?_)
    · first | have d_9 := bz_0.mp c_9 | have d_9 := bz_1.mp c_9 | skip
      exfalso; omega
    · first | have d_9 := bz_0.mp c_9 | have d_9 := bz_1.mp c_9 | skip
      refine jr_aload_n (pc := 12) h dX7_flight_12 rfl ?_
      refine jr_iconst (pc := 13) h dX7_flight_13 ?_
      refine iv_X7_66 (pc := 14) h hl hR dX7_flight_14 ⟨(Nat.le_of_ble_eq_true rfl), (Nat.le_of_ble_eq_true rfl), (Nat.le_of_ble_eq_true rfl), (Nat.le_of_ble_eq_true rfl)⟩ (Nat.le_of_ble_eq_true rfl) (by assumption) (by omega) (s_X7_refuse hS) (fun v_14 n_14 M_14 hn_14 hp => ?_)
      obtain ⟨⟨rfl, rfl⟩, hS, fa_⟩ := hp
      have f1 := fr_tr f1 fa_
      refine jr_iret (pc := 17) h hRt dX7_flight_17 rfl (Nat.le_of_ble_eq_true rfl) (Nat.le_of_ble_eq_true rfl) ?_
      exact ⟨⟨rfl, rfl⟩, hS, f1⟩
set_option maxHeartbeats 1000000 in
set_option maxRecDepth 20000 in
theorem s_X7_flight {l : Launch} {n : Nat} {M : jdM} {a cu dr : Nat} {g bs : Nat → Int} {p : TS} {ct td bk si ld ct2 td2 bk2 si2 ld2 : Nat → Int} {g3 sp sk fa go : Nat → Int} {mk : Nat → FS} {tg tk tr : Nat → Int} (hS : SXc M n a cu dr (g, bs, p, (ct, td, bk, si, ld), (ct2, td2, bk2, si2, ld2), (g3, sp, sk, fa, go), mk, tg, tk, tr)) {x : Int} (h1 : 0 ≤ g 1 ∧ g 1 ≤ 900) (hx : 0 ≤ x ∧ x ≤ g 1) (hby : ∀ i, -128 ≤ bs i ∧ bs i < 128) (hHS : HS td2) (hNO : NO p) : Ct l yX7_flight cX7_flight 3 (some .int) rX7_flight [.ref a, jI x] n M (fun vv n' M' => n = n' ∧ fr (XSf a) M M' ∧ ∃ bk9 si9 ld9, HS (rdB bs x p ct2 td2).2.2 ∧ NO (rdQ (rdB bs x p ct2 td2)) ∧ (((rdQ (rdB bs x p ct2 td2)).1 7 ≠ 0 ∧ vv = some (jI (-1)) ∧ SXc M' n' a cu dr (up (up (up (up g 1 0) 11 ((rdQ (rdB bs x p ct2 td2)).1 7)) 12 ((rdQ (rdB bs x p ct2 td2)).1 8)) 10 4, bs, (rdQ (rdB bs x p ct2 td2)), (ct, td, bk, si, ld), ((rdB bs x p ct2 td2).2.1, (rdB bs x p ct2 td2).2.2, bk9, si9, ld9), (g3, sp, sk, fa, go), mk, tg, tk, tr)) ∨ ((rdQ (rdB bs x p ct2 td2)).1 7 = 0 ∧ vv = some (jI ((rdB bs x p ct2 td2).2.1 5)) ∧ (bk9 = c_bkp (rdB bs x p ct2 td2).2.1 (rdB bs x p ct2 td2).2.2 bk2 41 ∧ si9 = c_sip (rdB bs x p ct2 td2).2.1 (rdB bs x p ct2 td2).2.2 si2 41 ∧ ld9 = c_ldp (rdB bs x p ct2 td2).2.1 (rdB bs x p ct2 td2).2.2 ld2 ((rdB bs x p ct2 td2).2.1 6).toNat) ∧ SXc M' n' a dr cu (up (up (up (up (up g 1 0) 11 ((rdQ (rdB bs x p ct2 td2)).1 7)) 12 ((rdQ (rdB bs x p ct2 td2)).1 8)) 6 0) 10 0, bs, (rdQ (rdB bs x p ct2 td2)), ((rdB bs x p ct2 td2).2.1, (rdB bs x p ct2 td2).2.2, bk9, si9, ld9), (ct, td, bk, si, ld), (rsR (rdB bs x p ct2 td2).2.1 (rdB bs x p ct2 td2).2.2 ld9 0 (g3, sp, sk, fa, go)), mk, tg, tk, tr)))) := by
  refine Ct_of [some (.ref a), some (jI x), none] (by decide) (Nat.le_of_ble_eq_true rfl) rfl (fun κ hl h hR hRt hmn hn0 => ?_)
  have h : Ok κ RX7 cX7_flight 3 (some .int) := h
  obtain ⟨han, hcd, hO7, hT7, hF7, hG7, hR7, hA7, hK7, hD7, hQ7, hB7⟩ := id hS
  have hO7 : M a = jdO 7 (fX7 a cu dr _) := hO7
  try dsimp only at hO7
  try dsimp only at hT7
  try dsimp only at hK7
  try dsimp only at hB7
  have hF : Fl M n cu ct td bk si ld := hF7
  have hRn : Rn M n (a + 19) g3 sp sk fa go := hR7
  obtain ⟨hnF, hOF, hAF, hBF, hCF, hDF, hEF, rA, rB, r0, rC, rD, rE⟩ := id hF
  obtain ⟨hnR, hOR, -⟩ := id hRn
  obtain ⟨dg, rm, wn, be, hDr, hwn, hbe⟩ := id hD7
  obtain ⟨hnD, hOD, -⟩ := id hDr
  obtain ⟨og, ww, hOd⟩ := id hQ7
  obtain ⟨hnQ, hOQ, -⟩ := id hOd
  obtain ⟨fc, wf, hTi⟩ := id hB7
  obtain ⟨hnB, hOB, -⟩ := id hTi
  obtain ⟨ht7, hOT, hTk, hPO, -⟩ := id hT7
  have ctr : 0 ≤ c_rows ct td ∧ c_rows ct td ≤ 40 := by
    unfold c_rows c_get
    have := (rB 0).1
    split
    · omega
    · rw [if_pos (by omega)]
      exact ⟨this, r0⟩
  have c2 := rA 2
  have c5 := rA 5
  have c8 := rA 8
  have f1 : fr (XSf a) M M := fr_rf
  obtain ⟨-, -, -, -, -, hG7, -⟩ := id hS
  have hG2 : Fl M n dr ct2 td2 bk2 si2 ld2 := hG7
  have H1 : TF M n (a + 1) (a + 2) dr bs p ct2 td2 bk2 si2 ld2 := ⟨hT7, hG2, by omega, by omega⟩
  refine jr_iload_n (pc := 0) h dX7_flight_0 rfl ?_
  refine jr_if_lt (pc := 1) h 12 dX7_flight_1 (by decide) (by omega) (fun c => absurd c (by omega)) (fun _ => ?_)
  refine jr_iload_n (pc := 4) h dX7_flight_4 rfl ?_
  refine jr_aload_n (pc := 5) h dX7_flight_5 rfl ?_
  refine gf_X7_58 (pc := 6) h dX7_flight_6 (by assumption) (by omega) ?_
  refine jr_icmp_le (pc := 9) h 18 dX7_flight_9 (by decide) (by omega) (by omega) (fun _ => ?_) (fun c => absurd c (by omega))
  refine jr_aload_n (pc := 18) h dX7_flight_18 rfl ?_
  refine jr_iconst (pc := 19) h dX7_flight_19 ?_
  refine pf_X7_58 (pc := 20) h dX7_flight_20 (by assumption) (by omega) ?_
  refine jm_gen (fun M2 hM2 => ?_)
  have hS := SXc_g1 hS hM2
  have f9 : fr (XSf a) _ M2 := fr_up hM2 ⟨by omega, by omega⟩
  have f1 := fr_tr f1 f9
  obtain ⟨-, -, hO7, -⟩ := id hS
  have hO7 : M2 a = jdO 7 (fX7 a cu dr _) := hO7
  try dsimp only at hO7
  obtain ⟨-, -, -, hT8, -, hG8, -⟩ := id hS
  dsimp only at hT8
  have hG8 : Fl M2 n dr ct2 td2 bk2 si2 ld2 := hG8
  have H1 : TF M2 n (a + 1) (a + 2) dr bs p ct2 td2 bk2 si2 ld2 := ⟨hT8, hG8, by omega, by omega⟩
  obtain ⟨ht8, hOT8, -⟩ := id hT8
  refine jr_aload_n (pc := 23) h dX7_flight_23 rfl ?_
  refine jr_aload_n (pc := 24) h dX7_flight_24 rfl ?_
  refine gf_X7_10 (pc := 25) h dX7_flight_25 (by assumption) (by omega) ?_
  refine jr_aload_n (pc := 28) h dX7_flight_28 rfl ?_
  refine gf_X7_23 (pc := 29) h dX7_flight_29 (by assumption) (by omega) ?_
  refine jr_iload_n (pc := 32) h dX7_flight_32 rfl ?_
  refine iv_X7_70 (pc := 33) h hl hR dX7_flight_33 ⟨(Nat.le_of_ble_eq_true rfl), (Nat.le_of_ble_eq_true rfl), (Nat.le_of_ble_eq_true rfl), (Nat.le_of_ble_eq_true rfl)⟩ (Nat.le_of_ble_eq_true rfl) (by assumption) (by omega) (s_X4_read (t := a + 1) (b := a + 2) H1 hby hHS hNO (by omega)) (fun v_33 n_33 M_33 hn_33 hp => ?_)
  obtain ⟨⟨rfl, rfl⟩, bk9, si9, ld9, H9, fx, hHS9, hNO9, hfin⟩ := hp
  obtain ⟨T9, G9, -, -⟩ := id H9
  have hS := SXc_TG (D1 := ((rdB bs x p ct2 td2).2.1, (rdB bs x p ct2 td2).2.2, bk9, si9, ld9)) hS T9 G9 fx
  have f1 := fr_tr f1 (fr_mo fx (fun k q => by rcases q with q | q; exact ⟨by have := q.1; omega, by have := q.2; omega⟩; exact ⟨by have := q.1; omega, by have := q.2; omega⟩))
  obtain ⟨-, -, hO7, -⟩ := id hS
  have hO7 : M_33 a = jdO 7 (fX7 a cu dr _) := hO7
  try dsimp only at hO7
  have hq9 : -2147483648 ≤ (rdQ (rdB bs x p ct2 td2)).1 7 ∧ (rdQ (rdB bs x p ct2 td2)).1 7 < 2147483648 := (T9.2.2.2.1).1.2.2.2.2.1
  obtain ⟨q9, eq9⟩ : ∃ q, rdQ (rdB bs x p ct2 td2) = q := ⟨_, rfl⟩
  rw [eq9] at T9 hS hfin hNO9 hq9 ⊢
  obtain ⟨r9, er9⟩ : ∃ q, (rdB bs x p ct2 td2) = q := ⟨_, rfl⟩
  rw [er9] at G9 hS hfin hHS9
  refine pf_X7_74 (pc := 36) h dX7_flight_36 (by assumption) (by omega) ?_
  refine jm_gen (fun M2 hM2 => ?_)
  have hS := SXc_g11 hS hM2
  have f9 : fr (XSf a) _ M2 := fr_up hM2 ⟨by omega, by omega⟩
  have f1 := fr_tr f1 f9
  obtain ⟨-, -, hO7, -⟩ := id hS
  have hO7 : M2 a = jdO 7 (fX7 a cu dr _) := hO7
  try dsimp only at hO7
  obtain ⟨-, -, -, hT9, hF9, hG9, hR9, -⟩ := id hS
  dsimp only at hT9
  obtain ⟨ht9, hOT9, -⟩ := id hT9
  refine jr_aload_n (pc := 39) h dX7_flight_39 rfl ?_
  refine jr_aload_n (pc := 40) h dX7_flight_40 rfl ?_
  refine gf_X7_10 (pc := 41) h dX7_flight_41 (by assumption) (by omega) ?_
  refine iv_X7_77 (pc := 44) h hl hR dX7_flight_44 ⟨(Nat.le_of_ble_eq_true rfl), (Nat.le_of_ble_eq_true rfl), (Nat.le_of_ble_eq_true rfl), (Nat.le_of_ble_eq_true rfl)⟩ (Nat.le_of_ble_eq_true rfl) (by assumption) (by omega) (s_X4_faultPlace hT9 hby) (fun v_44 n_44 M_44 hn_44 hp => ?_)
  obtain ⟨rfl, rfl, rfl⟩ := hp
  refine pf_X7_81 (pc := 47) h dX7_flight_47 (by assumption) (by omega) ?_
  refine jm_gen (fun M2 hM2 => ?_)
  have hS := SXc_g12 hS hM2
  have f9 : fr (XSf a) _ M2 := fr_up hM2 ⟨by omega, by omega⟩
  have f1 := fr_tr f1 f9
  obtain ⟨-, -, hO7, -⟩ := id hS
  have hO7 : M2 a = jdO 7 (fX7 a cu dr _) := hO7
  try dsimp only at hO7
  have e11 : up (up (up g 1 0) 11 (q9.1 7)) 12 (q9.1 8) 11 = q9.1 7 := by rw [up_ne (by omega), up_eq]
  have hq9b : -2147483648 ≤ (up (up (up g 1 0) 11 (q9.1 7)) 12 (q9.1 8) 11) ∧ (up (up (up g 1 0) 11 (q9.1 7)) 12 (q9.1 8) 11) < 2147483648 := by rw [e11]; exact hq9
  refine jr_aload_n (pc := 50) h dX7_flight_50 rfl ?_
  refine gf_X7_74 (pc := 51) h dX7_flight_51 (by assumption) (by omega) ?_
  refine jr_if_eq (pc := 54) h 63 dX7_flight_54 (by decide) (by omega) (fun c_54 => ?_) (fun c_54 => ?_)
  · skip
    have c54 : q9.1 7 = 0 := by rw [e11] at c_54; exact c_54
    refine jr_aload_n (pc := 63) h dX7_flight_63 rfl ?_
    refine gf_X7_19 (pc := 64) h dX7_flight_64 (by assumption) (by omega) ?_
    refine jr_astore_n (pc := 67) h [_, _, _] dX7_flight_67 (by decide) rfl ?_
    refine jr_aload_n (pc := 68) h dX7_flight_68 rfl ?_
    refine jr_aload_n (pc := 69) h dX7_flight_69 rfl ?_
    refine gf_X7_23 (pc := 70) h dX7_flight_70 (by assumption) (by omega) ?_
    refine pf_X7_19 (pc := 73) h dX7_flight_73 (by assumption) (by omega) ?_
    refine jm_gen (fun M3 hM3 => ?_)
    have hO8 := (congrFun hM3 a).trans up_eq
    have f3 : fr (fun k => k = a) M2 M3 := fr_up hM3 rfl
    refine jr_aload_n (pc := 76) h dX7_flight_76 rfl ?_
    refine jr_aload_n (pc := 77) h dX7_flight_77 rfl ?_
    refine pf_X7_23 (pc := 78) h dX7_flight_78 hO8 (by omega) ?_
    refine jm_gen (fun M4 hM4 => ?_)
    have hO9 := (congrFun hM4 a).trans up_eq
    rw [fX7_sw] at hO9
    have f4 : fr (fun k => k = a) M2 M4 := fr_tr f3 (fr_up hM4 rfl)
    have hS := SXc_sw hS f4 hO9
    have f1 := fr_tr f1 (fr_mo f4 (fun k q => by have q : k = a := q; exact ⟨by omega, by omega⟩))
    obtain ⟨-, -, hO7, -⟩ := id hS
    have hO7 : M4 a = jdO 7 (fX7 a dr cu _) := hO7
    try dsimp only at hO7
    obtain ⟨-, -, -, -, hF9, -, hR9, -⟩ := id hS
    have hFn9 : Fl M4 n dr r9.2.1 r9.2.2 bk9 si9 ld9 := hF9
    have hRn9 : Rn M4 n (a + 19) g3 sp sk fa go := hR9
    obtain ⟨hnF9, hOF9, -, -, -, -, -, rA9, -⟩ := id hFn9
    obtain ⟨hnR9, hOR9, -⟩ := id hRn9
    refine jr_aload_n (pc := 81) h dX7_flight_81 rfl ?_
    refine gf_X7_29 (pc := 82) h dX7_flight_82 (by assumption) (by omega) ?_
    refine jr_aload_n (pc := 85) h dX7_flight_85 rfl ?_
    refine gf_X7_19 (pc := 86) h dX7_flight_86 (by assumption) (by omega) ?_
    refine jr_iconst (pc := 89) h dX7_flight_89 ?_
    refine iv_X7_83 (pc := 90) h hl hR dX7_flight_90 ⟨(Nat.le_of_ble_eq_true rfl), (Nat.le_of_ble_eq_true rfl), (Nat.le_of_ble_eq_true rfl), (Nat.le_of_ble_eq_true rfl)⟩ (Nat.le_of_ble_eq_true rfl) (by assumption) (by omega) (s_X3_restart hRn9 hFn9 (by omega)) (fun v_90 n_90 M_90 hn_90 hp => ?_)
    obtain ⟨⟨rfl, rfl⟩, R9, fr9⟩ := hp
    have hS := SXc_R (R1 := rsR r9.2.1 r9.2.2 ld9 0 (g3, sp, sk, fa, go)) hS R9 fr9
    have f1 := fr_tr f1 (fr_mo fr9 (fun k q => ⟨by have := q.1; omega, by have := q.2; omega⟩))
    obtain ⟨-, -, hO7, -⟩ := id hS
    have hO7 : M_90 a = jdO 7 (fX7 a dr cu _) := hO7
    try dsimp only at hO7
    refine jr_aload_n (pc := 93) h dX7_flight_93 rfl ?_
    refine jr_iconst (pc := 94) h dX7_flight_94 ?_
    refine pf_X7_87 (pc := 95) h dX7_flight_95 (by assumption) (by omega) ?_
    refine jm_gen (fun M2 hM2 => ?_)
    have hS := SXc_g6 hS hM2
    have f9 : fr (XSf a) _ M2 := fr_up hM2 ⟨by omega, by omega⟩
    have f1 := fr_tr f1 f9
    obtain ⟨-, -, hO7, -⟩ := id hS
    have hO7 : M2 a = jdO 7 (fX7 a dr cu _) := hO7
    try dsimp only at hO7
    obtain ⟨-, -, -, -, hF9, -⟩ := id hS
    have hFn9 : Fl M2 n dr r9.2.1 r9.2.2 bk9 si9 ld9 := hF9
    obtain ⟨hnF9, hOF9, -, -, -, -, -, rA9, -⟩ := id hFn9
    refine jr_aload_n (pc := 98) h dX7_flight_98 rfl ?_
    refine jr_aload_n (pc := 99) h dX7_flight_99 rfl ?_
    refine gf_X7_19 (pc := 100) h dX7_flight_100 (by assumption) (by omega) ?_
    refine jr_iconst (pc := 103) h dX7_flight_103 ?_
    refine iv_X7_90 (pc := 104) h hl hR dX7_flight_104 ⟨(Nat.le_of_ble_eq_true rfl), (Nat.le_of_ble_eq_true rfl), (Nat.le_of_ble_eq_true rfl), (Nat.le_of_ble_eq_true rfl)⟩ (Nat.le_of_ble_eq_true rfl) (by assumption) (by omega) (s_X1_count hFn9 (a := 5) (by omega)) (fun v_104 n_104 M_104 hn_104 hp => ?_)
    obtain ⟨⟨rfl, rfl, rfl⟩, gr_104⟩ := hp
    rw [show c_count r9.2.1 5 = r9.2.1 5 from if_pos (by omega)]
    refine iv_X7_93 (pc := 107) h hl hR dX7_flight_107 ⟨(Nat.le_of_ble_eq_true rfl), (Nat.le_of_ble_eq_true rfl), (Nat.le_of_ble_eq_true rfl), (Nat.le_of_ble_eq_true rfl)⟩ (Nat.le_of_ble_eq_true rfl) (by assumption) (by omega) (s_X7_accept hS) (fun v_107 n_107 M_107 hn_107 hp => ?_)
    obtain ⟨⟨rfl, rfl⟩, hS, fa_⟩ := hp
    have f1 := fr_tr f1 fa_
    refine jr_iret (pc := 110) h hRt dX7_flight_110 rfl (Nat.le_of_ble_eq_true rfl) (Nat.le_of_ble_eq_true rfl) ?_
    rw [eq9, er9]
    exact ⟨rfl, f1, bk9, si9, ld9, hHS9, hNO9, Or.inr ⟨c54, rfl, hfin c54, hS⟩⟩
  · skip
    have c54 : q9.1 7 ≠ 0 := by rw [e11] at c_54; exact c_54
    refine jr_aload_n (pc := 57) h dX7_flight_57 rfl ?_
    refine jr_iconst (pc := 58) h dX7_flight_58 ?_
    refine iv_X7_66 (pc := 59) h hl hR dX7_flight_59 ⟨(Nat.le_of_ble_eq_true rfl), (Nat.le_of_ble_eq_true rfl), (Nat.le_of_ble_eq_true rfl), (Nat.le_of_ble_eq_true rfl)⟩ (Nat.le_of_ble_eq_true rfl) (by assumption) (by omega) (s_X7_refuse hS) (fun v_59 n_59 M_59 hn_59 hp => ?_)
    obtain ⟨⟨rfl, rfl⟩, hS, fa_⟩ := hp
    have f1 := fr_tr f1 fa_
    refine jr_iret (pc := 62) h hRt dX7_flight_62 rfl (Nat.le_of_ble_eq_true rfl) (Nat.le_of_ble_eq_true rfl) ?_
    rw [eq9, er9]
    exact ⟨rfl, f1, bk9, si9, ld9, hHS9, hNO9, Or.inl ⟨c54, rfl, hS⟩⟩
