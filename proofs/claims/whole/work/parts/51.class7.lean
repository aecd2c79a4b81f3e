/-! 51: the class: size; makers -/
theorem wm_1540 : (.fieldLink RX7 286 "TwoTrolleys" "SIZES" "[I" : Cond) ∈ wsL_law := sr_65 _ (List.mem_of_getElem? (i := 4) rfl)
set_option maxHeartbeats 1000000 in
set_option maxRecDepth 20000 in
theorem s_X7_size_t {l : Launch} {n : Nat} {M : jdM} {a cu dr : Nat} {g bs : Nat → Int} {p : TS} {ct td bk si ld : Nat → Int} {D : FS} {g3 sp sk fa go : Nat → Int} {mk : Nat → FS} {tg tk tr : Nat → Int} (hS : SXc M n a cu dr (g, bs, p, (ct, td, bk, si, ld), D, (g3, sp, sk, fa, go), mk, tg, tk, tr)) {x : Int} (hx : 1 ≤ x ∧ x ≤ 11) : Ct l yX7_size cX7_size 2 (some .int) rX7_size [.ref a, jI x] n M (fun vv n' M' => vv = some (jI (x_size ct td g g3 tg x)) ∧ n = n' ∧ M = M') := by
  refine Ct_of [some (.ref a), some (jI x)] (by decide) (Nat.le_of_ble_eq_true rfl) rfl (fun κ hl h hR hRt hmn hn0 => ?_)
  have h : Ok κ RX7 cX7_size 2 (some .int) := h
  obtain ⟨han, hcd, hO7, hT7, hF7, hG7, hR7, hA7, hK7, hD7, hQ7, hB7⟩ := id hS
  have hO7 : M a = jdO 7 (fX7 a cu dr _) := hO7
  try dsimp only at hO7
  try dsimp only at hT7
  try dsimp only at hK7
  try dsimp only at hB7
  have hF : Fl M n cu ct td bk si ld := hF7
  have hRn : Rn M n (a + 19) g3 sp sk fa go := hR7
  obtain ⟨hnF, hOF, hAF, hBF, hCF, hDF, hEF, rA, rB, r0, rC, rD, rE⟩ := id hF
  obtain ⟨hnR, hOR, -⟩ := id hRn
  obtain ⟨dg, rm, wn, be, hDr, hwn, hbe⟩ := id hD7
  obtain ⟨hnD, hOD, -⟩ := id hDr
  obtain ⟨og, ww, hOd⟩ := id hQ7
  obtain ⟨hnQ, hOQ, -⟩ := id hOd
  obtain ⟨fc, wf, hTi⟩ := id hB7
  obtain ⟨hnB, hOB, -⟩ := id hTi
  obtain ⟨ht7, hOT, hTk, hPO, -⟩ := id hT7
  have ctr : 0 ≤ c_rows ct td ∧ c_rows ct td ≤ 40 := by
    unfold c_rows c_get
    have := (rB 0).1
    split
    · omega
    · rw [if_pos (by omega)]
      exact ⟨this, r0⟩
  have c2 := rA 2
  have c5 := rA 5
  have c8 := rA 8
  have f1 : fr (XSf a) M M := fr_rf
  refine jr_iload_n (pc := 0) h dX7_size_0 rfl ?_
  refine jr_iconst (pc := 1) h dX7_size_1 ?_
  refine jr_icmp_lt (pc := 2) h 28 dX7_size_2 (by decide) (by omega) (by omega) (fun c => absurd c (by omega)) (fun _ => ?_)
  refine jr_iload_n (pc := 5) h dX7_size_5 rfl ?_
  refine jr_gets (pc := 6) h 1 (by decide) wm_1540 dX7_size_6 ?_
  refine jr_tablen (pc := 9) h 1 (by decide) dX7_size_9 ?_
  rw [show (((jtab 1).2.1 : Nat) : Int) = 11 from rfl]
  refine jr_icmp_gt (pc := 10) h 28 dX7_size_10 (by decide) (by omega) (by omega) (fun c => absurd c (by omega)) (fun _ => ?_)
  refine jr_aload_n (pc := 13) h dX7_size_13 rfl ?_
  refine gf_X7_19 (pc := 14) h dX7_size_14 (by assumption) (by omega) ?_
  refine jr_gets (pc := 17) h 1 (by decide) wm_1540 dX7_size_17 ?_
  refine jr_iload_n (pc := 20) h dX7_size_20 rfl ?_
  refine jr_iconst (pc := 21) h dX7_size_21 ?_
  refine jr_isub (pc := 22) h dX7_size_22 ?_
  refine jr_tabld (pc := 23) h 1 (by decide) dX7_size_23 ⟨by omega, by show _ < ((11 : Nat) : Int); omega, by omega⟩ ?_
  have sr := sizes_r (x - 1).toNat (by omega)
  refine iv_X7_90 (pc := 24) h hl hR dX7_size_24 ⟨(Nat.le_of_ble_eq_true rfl), (Nat.le_of_ble_eq_true rfl), (Nat.le_of_ble_eq_true rfl), (Nat.le_of_ble_eq_true rfl)⟩ (Nat.le_of_ble_eq_true rfl) (by assumption) (by omega) (s_X1_count hF (a := (jtab 1).2.2 (x - 1).toNat) (by omega)) (fun v_24 n_24 M_24 hn_24 hp => ?_)
  obtain ⟨⟨rfl, rfl, rfl⟩, gr_24⟩ := hp
  refine jr_iret (pc := 27) h hRt dX7_size_27 rfl (Nat.le_of_ble_eq_true rfl) (Nat.le_of_ble_eq_true rfl) ?_
  refine ⟨ji_c ?_, rfl, rfl⟩
  unfold x_size
  rw [if_pos hx]
set_option maxHeartbeats 1000000 in
set_option maxRecDepth 20000 in
theorem s_X7_size_0 {l : Launch} {n : Nat} {M : jdM} {a cu dr : Nat} {g bs : Nat → Int} {p : TS} {ct td bk si ld : Nat → Int} {D : FS} {g3 sp sk fa go : Nat → Int} {mk : Nat → FS} {tg tk tr : Nat → Int} (hS : SXc M n a cu dr (g, bs, p, (ct, td, bk, si, ld), D, (g3, sp, sk, fa, go), mk, tg, tk, tr)) : Ct l yX7_size cX7_size 2 (some .int) rX7_size [.ref a, jI 0] n M (fun vv n' M' => vv = some (jI (x_size ct td g g3 tg 0)) ∧ n = n' ∧ M = M') := by
  refine Ct_of [some (.ref a), some (jI 0)] (by decide) (Nat.le_of_ble_eq_true rfl) rfl (fun κ hl h hR hRt hmn hn0 => ?_)
  have h : Ok κ RX7 cX7_size 2 (some .int) := h
  obtain ⟨han, hcd, hO7, hT7, hF7, hG7, hR7, hA7, hK7, hD7, hQ7, hB7⟩ := id hS
  have hO7 : M a = jdO 7 (fX7 a cu dr _) := hO7
  try dsimp only at hO7
  try dsimp only at hT7
  try dsimp only at hK7
  try dsimp only at hB7
  have hF : Fl M n cu ct td bk si ld := hF7
  have hRn : Rn M n (a + 19) g3 sp sk fa go := hR7
  obtain ⟨hnF, hOF, hAF, hBF, hCF, hDF, hEF, rA, rB, r0, rC, rD, rE⟩ := id hF
  obtain ⟨hnR, hOR, -⟩ := id hRn
  obtain ⟨dg, rm, wn, be, hDr, hwn, hbe⟩ := id hD7
  obtain ⟨hnD, hOD, -⟩ := id hDr
  obtain ⟨og, ww, hOd⟩ := id hQ7
  obtain ⟨hnQ, hOQ, -⟩ := id hOd
  obtain ⟨fc, wf, hTi⟩ := id hB7
  obtain ⟨hnB, hOB, -⟩ := id hTi
  obtain ⟨ht7, hOT, hTk, hPO, -⟩ := id hT7
  have ctr : 0 ≤ c_rows ct td ∧ c_rows ct td ≤ 40 := by
    unfold c_rows c_get
    have := (rB 0).1
    split
    · omega
    · rw [if_pos (by omega)]
      exact ⟨this, r0⟩
  have c2 := rA 2
  have c5 := rA 5
  have c8 := rA 8
  have f1 : fr (XSf a) M M := fr_rf
  refine jr_iload_n (pc := 0) h dX7_size_0 rfl ?_
  refine jr_iconst (pc := 1) h dX7_size_1 ?_
  refine jr_icmp_lt (pc := 2) h 28 dX7_size_2 (by decide) (by omega) (by omega) (fun _ => ?_) (fun c => absurd c (by omega))
  refine jr_iload_n (pc := 28) h dX7_size_28 rfl ?_
  refine jr_lookup (pc := 29) h (x := 0) (off := 51) 80 dX7_size_29 (by omega) (by decide) rfl (by decide) ?_
  refine jr_aload_n (pc := 80) h dX7_size_80 rfl ?_
  refine gf_X7_19 (pc := 81) h dX7_size_81 (by assumption) (by omega) ?_
  refine iv_X7_110 (pc := 84) h hl hR dX7_size_84 ⟨(Nat.le_of_ble_eq_true rfl), (Nat.le_of_ble_eq_true rfl), (Nat.le_of_ble_eq_true rfl), (Nat.le_of_ble_eq_true rfl)⟩ (Nat.le_of_ble_eq_true rfl) (by assumption) (by omega) (s_X1_rows hF) (fun v_84 n_84 M_84 hn_84 hp => ?_)
  obtain ⟨⟨rfl, rfl, rfl⟩, gr_84⟩ := hp
  refine jr_iret (pc := 87) h hRt dX7_size_87 rfl (Nat.le_of_ble_eq_true rfl) (Nat.le_of_ble_eq_true rfl) ?_
  exact ⟨rfl, rfl, rfl⟩
set_option maxHeartbeats 1000000 in
set_option maxRecDepth 20000 in
theorem s_X7_size_12 {l : Launch} {n : Nat} {M : jdM} {a cu dr : Nat} {g bs : Nat → Int} {p : TS} {ct td bk si ld : Nat → Int} {D : FS} {g3 sp sk fa go : Nat → Int} {mk : Nat → FS} {tg tk tr : Nat → Int} (hS : SXc M n a cu dr (g, bs, p, (ct, td, bk, si, ld), D, (g3, sp, sk, fa, go), mk, tg, tk, tr)) : Ct l yX7_size cX7_size 2 (some .int) rX7_size [.ref a, jI 12] n M (fun vv n' M' => vv = some (jI (x_size ct td g g3 tg 12)) ∧ n = n' ∧ M = M') := by
  refine Ct_of [some (.ref a), some (jI 12)] (by decide) (Nat.le_of_ble_eq_true rfl) rfl (fun κ hl h hR hRt hmn hn0 => ?_)
  have h : Ok κ RX7 cX7_size 2 (some .int) := h
  obtain ⟨han, hcd, hO7, hT7, hF7, hG7, hR7, hA7, hK7, hD7, hQ7, hB7⟩ := id hS
  have hO7 : M a = jdO 7 (fX7 a cu dr _) := hO7
  try dsimp only at hO7
  try dsimp only at hT7
  try dsimp only at hK7
  try dsimp only at hB7
  have hF : Fl M n cu ct td bk si ld := hF7
  have hRn : Rn M n (a + 19) g3 sp sk fa go := hR7
  obtain ⟨hnF, hOF, hAF, hBF, hCF, hDF, hEF, rA, rB, r0, rC, rD, rE⟩ := id hF
  obtain ⟨hnR, hOR, -⟩ := id hRn
  obtain ⟨dg, rm, wn, be, hDr, hwn, hbe⟩ := id hD7
  obtain ⟨hnD, hOD, -⟩ := id hDr
  obtain ⟨og, ww, hOd⟩ := id hQ7
  obtain ⟨hnQ, hOQ, -⟩ := id hOd
  obtain ⟨fc, wf, hTi⟩ := id hB7
  obtain ⟨hnB, hOB, -⟩ := id hTi
  obtain ⟨ht7, hOT, hTk, hPO, -⟩ := id hT7
  have ctr : 0 ≤ c_rows ct td ∧ c_rows ct td ≤ 40 := by
    unfold c_rows c_get
    have := (rB 0).1
    split
    · omega
    · rw [if_pos (by omega)]
      exact ⟨this, r0⟩
  have c2 := rA 2
  have c5 := rA 5
  have c8 := rA 8
  have f1 : fr (XSf a) M M := fr_rf
  refine jr_iload_n (pc := 0) h dX7_size_0 rfl ?_
  refine jr_iconst (pc := 1) h dX7_size_1 ?_
  refine jr_icmp_lt (pc := 2) h 28 dX7_size_2 (by decide) (by omega) (by omega) (fun c => absurd c (by omega)) (fun _ => ?_)
  refine jr_iload_n (pc := 5) h dX7_size_5 rfl ?_
  refine jr_gets (pc := 6) h 1 (by decide) wm_1540 dX7_size_6 ?_
  refine jr_tablen (pc := 9) h 1 (by decide) dX7_size_9 ?_
  rw [show (((jtab 1).2.1 : Nat) : Int) = 11 from rfl]
  refine jr_icmp_gt (pc := 10) h 28 dX7_size_10 (by decide) (by omega) (by omega) (fun _ => ?_) (fun c => absurd c (by omega))
  refine jr_iload_n (pc := 28) h dX7_size_28 rfl ?_
  refine jr_lookup (pc := 29) h (x := 12) (off := 59) 88 dX7_size_29 (by omega) (by decide) rfl (by decide) ?_
  refine jr_aload_n (pc := 88) h dX7_size_88 rfl ?_
  refine gf_X7_87 (pc := 89) h dX7_size_89 (by assumption) (by omega) ?_
  refine jr_iret (pc := 92) h hRt dX7_size_92 rfl (Nat.le_of_ble_eq_true rfl) (Nat.le_of_ble_eq_true rfl) ?_
  exact ⟨rfl, rfl, rfl⟩
set_option maxHeartbeats 1000000 in
set_option maxRecDepth 20000 in
theorem s_X7_size_13 {l : Launch} {n : Nat} {M : jdM} {a cu dr : Nat} {g bs : Nat → Int} {p : TS} {ct td bk si ld : Nat → Int} {D : FS} {g3 sp sk fa go : Nat → Int} {mk : Nat → FS} {tg tk tr : Nat → Int} (hS : SXc M n a cu dr (g, bs, p, (ct, td, bk, si, ld), D, (g3, sp, sk, fa, go), mk, tg, tk, tr)) : Ct l yX7_size cX7_size 2 (some .int) rX7_size [.ref a, jI 13] n M (fun vv n' M' => vv = some (jI (x_size ct td g g3 tg 13)) ∧ n = n' ∧ M = M') := by
  refine Ct_of [some (.ref a), some (jI 13)] (by decide) (Nat.le_of_ble_eq_true rfl) rfl (fun κ hl h hR hRt hmn hn0 => ?_)
  have h : Ok κ RX7 cX7_size 2 (some .int) := h
  obtain ⟨han, hcd, hO7, hT7, hF7, hG7, hR7, hA7, hK7, hD7, hQ7, hB7⟩ := id hS
  have hO7 : M a = jdO 7 (fX7 a cu dr _) := hO7
  try dsimp only at hO7
  try dsimp only at hT7
  try dsimp only at hK7
  try dsimp only at hB7
  have hF : Fl M n cu ct td bk si ld := hF7
  have hRn : Rn M n (a + 19) g3 sp sk fa go := hR7
  obtain ⟨hnF, hOF, hAF, hBF, hCF, hDF, hEF, rA, rB, r0, rC, rD, rE⟩ := id hF
  obtain ⟨hnR, hOR, -⟩ := id hRn
  obtain ⟨dg, rm, wn, be, hDr, hwn, hbe⟩ := id hD7
  obtain ⟨hnD, hOD, -⟩ := id hDr
  obtain ⟨og, ww, hOd⟩ := id hQ7
  obtain ⟨hnQ, hOQ, -⟩ := id hOd
  obtain ⟨fc, wf, hTi⟩ := id hB7
  obtain ⟨hnB, hOB, -⟩ := id hTi
  obtain ⟨ht7, hOT, hTk, hPO, -⟩ := id hT7
  have ctr : 0 ≤ c_rows ct td ∧ c_rows ct td ≤ 40 := by
    unfold c_rows c_get
    have := (rB 0).1
    split
    · omega
    · rw [if_pos (by omega)]
      exact ⟨this, r0⟩
  have c2 := rA 2
  have c5 := rA 5
  have c8 := rA 8
  have f1 : fr (XSf a) M M := fr_rf
  refine jr_iload_n (pc := 0) h dX7_size_0 rfl ?_
  refine jr_iconst (pc := 1) h dX7_size_1 ?_
  refine jr_icmp_lt (pc := 2) h 28 dX7_size_2 (by decide) (by omega) (by omega) (fun c => absurd c (by omega)) (fun _ => ?_)
  refine jr_iload_n (pc := 5) h dX7_size_5 rfl ?_
  refine jr_gets (pc := 6) h 1 (by decide) wm_1540 dX7_size_6 ?_
  refine jr_tablen (pc := 9) h 1 (by decide) dX7_size_9 ?_
  rw [show (((jtab 1).2.1 : Nat) : Int) = 11 from rfl]
  refine jr_icmp_gt (pc := 10) h 28 dX7_size_10 (by decide) (by omega) (by omega) (fun _ => ?_) (fun c => absurd c (by omega))
  refine jr_iload_n (pc := 28) h dX7_size_28 rfl ?_
  refine jr_lookup (pc := 29) h (x := 13) (off := 64) 93 dX7_size_29 (by omega) (by decide) rfl (by decide) ?_
  refine jr_aload_n (pc := 93) h dX7_size_93 rfl ?_
  refine gf_X7_29 (pc := 94) h dX7_size_94 (by assumption) (by omega) ?_
  refine iv_X7_290 (pc := 97) h hl hR dX7_size_97 ⟨(Nat.le_of_ble_eq_true rfl), (Nat.le_of_ble_eq_true rfl), (Nat.le_of_ble_eq_true rfl), (Nat.le_of_ble_eq_true rfl)⟩ (Nat.le_of_ble_eq_true rfl) (by assumption) (by omega) (s_X3_seed hRn) (fun v_97 n_97 M_97 hn_97 hp => ?_)
  obtain ⟨rfl, rfl, rfl⟩ := hp
  refine jr_iret (pc := 100) h hRt dX7_size_100 rfl (Nat.le_of_ble_eq_true rfl) (Nat.le_of_ble_eq_true rfl) ?_
  exact ⟨rfl, rfl, rfl⟩
set_option maxHeartbeats 1000000 in
set_option maxRecDepth 20000 in
theorem s_X7_size_14 {l : Launch} {n : Nat} {M : jdM} {a cu dr : Nat} {g bs : Nat → Int} {p : TS} {ct td bk si ld : Nat → Int} {D : FS} {g3 sp sk fa go : Nat → Int} {mk : Nat → FS} {tg tk tr : Nat → Int} (hS : SXc M n a cu dr (g, bs, p, (ct, td, bk, si, ld), D, (g3, sp, sk, fa, go), mk, tg, tk, tr)) : Ct l yX7_size cX7_size 2 (some .int) rX7_size [.ref a, jI 14] n M (fun vv n' M' => vv = some (jI (x_size ct td g g3 tg 14)) ∧ n = n' ∧ M = M') := by
  refine Ct_of [some (.ref a), some (jI 14)] (by decide) (Nat.le_of_ble_eq_true rfl) rfl (fun κ hl h hR hRt hmn hn0 => ?_)
  have h : Ok κ RX7 cX7_size 2 (some .int) := h
  obtain ⟨han, hcd, hO7, hT7, hF7, hG7, hR7, hA7, hK7, hD7, hQ7, hB7⟩ := id hS
  have hO7 : M a = jdO 7 (fX7 a cu dr _) := hO7
  try dsimp only at hO7
  try dsimp only at hT7
  try dsimp only at hK7
  try dsimp only at hB7
  have hF : Fl M n cu ct td bk si ld := hF7
  have hRn : Rn M n (a + 19) g3 sp sk fa go := hR7
  obtain ⟨hnF, hOF, hAF, hBF, hCF, hDF, hEF, rA, rB, r0, rC, rD, rE⟩ := id hF
  obtain ⟨hnR, hOR, -⟩ := id hRn
  obtain ⟨dg, rm, wn, be, hDr, hwn, hbe⟩ := id hD7
  obtain ⟨hnD, hOD, -⟩ := id hDr
  obtain ⟨og, ww, hOd⟩ := id hQ7
  obtain ⟨hnQ, hOQ, -⟩ := id hOd
  obtain ⟨fc, wf, hTi⟩ := id hB7
  obtain ⟨hnB, hOB, -⟩ := id hTi
  obtain ⟨ht7, hOT, hTk, hPO, -⟩ := id hT7
  have ctr : 0 ≤ c_rows ct td ∧ c_rows ct td ≤ 40 := by
    unfold c_rows c_get
    have := (rB 0).1
    split
    · omega
    · rw [if_pos (by omega)]
      exact ⟨this, r0⟩
  have c2 := rA 2
  have c5 := rA 5
  have c8 := rA 8
  have f1 : fr (XSf a) M M := fr_rf
  refine jr_iload_n (pc := 0) h dX7_size_0 rfl ?_
  refine jr_iconst (pc := 1) h dX7_size_1 ?_
  refine jr_icmp_lt (pc := 2) h 28 dX7_size_2 (by decide) (by omega) (by omega) (fun c => absurd c (by omega)) (fun _ => ?_)
  refine jr_iload_n (pc := 5) h dX7_size_5 rfl ?_
  refine jr_gets (pc := 6) h 1 (by decide) wm_1540 dX7_size_6 ?_
  refine jr_tablen (pc := 9) h 1 (by decide) dX7_size_9 ?_
  rw [show (((jtab 1).2.1 : Nat) : Int) = 11 from rfl]
  refine jr_icmp_gt (pc := 10) h 28 dX7_size_10 (by decide) (by omega) (by omega) (fun _ => ?_) (fun c => absurd c (by omega))
  refine jr_iload_n (pc := 28) h dX7_size_28 rfl ?_
  refine jr_lookup (pc := 29) h (x := 14) (off := 72) 101 dX7_size_29 (by omega) (by decide) rfl (by decide) ?_
  refine jr_aload_n (pc := 101) h dX7_size_101 rfl ?_
  refine gf_X7_58 (pc := 102) h dX7_size_102 (by assumption) (by omega) ?_
  refine jr_iret (pc := 105) h hRt dX7_size_105 rfl (Nat.le_of_ble_eq_true rfl) (Nat.le_of_ble_eq_true rfl) ?_
  exact ⟨rfl, rfl, rfl⟩
set_option maxHeartbeats 1000000 in
set_option maxRecDepth 20000 in
theorem s_X7_size_15 {l : Launch} {n : Nat} {M : jdM} {a cu dr : Nat} {g bs : Nat → Int} {p : TS} {ct td bk si ld : Nat → Int} {D : FS} {g3 sp sk fa go : Nat → Int} {mk : Nat → FS} {tg tk tr : Nat → Int} (hS : SXc M n a cu dr (g, bs, p, (ct, td, bk, si, ld), D, (g3, sp, sk, fa, go), mk, tg, tk, tr)) : Ct l yX7_size cX7_size 2 (some .int) rX7_size [.ref a, jI 15] n M (fun vv n' M' => vv = some (jI (x_size ct td g g3 tg 15)) ∧ n = n' ∧ M = M') := by
  refine Ct_of [some (.ref a), some (jI 15)] (by decide) (Nat.le_of_ble_eq_true rfl) rfl (fun κ hl h hR hRt hmn hn0 => ?_)
  have h : Ok κ RX7 cX7_size 2 (some .int) := h
  obtain ⟨han, hcd, hO7, hT7, hF7, hG7, hR7, hA7, hK7, hD7, hQ7, hB7⟩ := id hS
  have hO7 : M a = jdO 7 (fX7 a cu dr _) := hO7
  try dsimp only at hO7
  try dsimp only at hT7
  try dsimp only at hK7
  try dsimp only at hB7
  have hF : Fl M n cu ct td bk si ld := hF7
  have hRn : Rn M n (a + 19) g3 sp sk fa go := hR7
  obtain ⟨hnF, hOF, hAF, hBF, hCF, hDF, hEF, rA, rB, r0, rC, rD, rE⟩ := id hF
  obtain ⟨hnR, hOR, -⟩ := id hRn
  obtain ⟨dg, rm, wn, be, hDr, hwn, hbe⟩ := id hD7
  obtain ⟨hnD, hOD, -⟩ := id hDr
  obtain ⟨og, ww, hOd⟩ := id hQ7
  obtain ⟨hnQ, hOQ, -⟩ := id hOd
  obtain ⟨fc, wf, hTi⟩ := id hB7
  obtain ⟨hnB, hOB, -⟩ := id hTi
  obtain ⟨ht7, hOT, hTk, hPO, -⟩ := id hT7
  have ctr : 0 ≤ c_rows ct td ∧ c_rows ct td ≤ 40 := by
    unfold c_rows c_get
    have := (rB 0).1
    split
    · omega
    · rw [if_pos (by omega)]
      exact ⟨this, r0⟩
  have c2 := rA 2
  have c5 := rA 5
  have c8 := rA 8
  have f1 : fr (XSf a) M M := fr_rf
  refine jr_iload_n (pc := 0) h dX7_size_0 rfl ?_
  refine jr_iconst (pc := 1) h dX7_size_1 ?_
  refine jr_icmp_lt (pc := 2) h 28 dX7_size_2 (by decide) (by omega) (by omega) (fun c => absurd c (by omega)) (fun _ => ?_)
  refine jr_iload_n (pc := 5) h dX7_size_5 rfl ?_
  refine jr_gets (pc := 6) h 1 (by decide) wm_1540 dX7_size_6 ?_
  refine jr_tablen (pc := 9) h 1 (by decide) dX7_size_9 ?_
  rw [show (((jtab 1).2.1 : Nat) : Int) = 11 from rfl]
  refine jr_icmp_gt (pc := 10) h 28 dX7_size_10 (by decide) (by omega) (by omega) (fun _ => ?_) (fun c => absurd c (by omega))
  refine jr_iload_n (pc := 28) h dX7_size_28 rfl ?_
  refine jr_lookup (pc := 29) h (x := 15) (off := 77) 106 dX7_size_29 (by omega) (by decide) rfl (by decide) ?_
  refine jr_aload_n (pc := 106) h dX7_size_106 rfl ?_
  refine gf_X7_54 (pc := 107) h dX7_size_107 (by assumption) (by omega) ?_
  refine iv_X7_293 (pc := 110) h hl hR dX7_size_110 ⟨(Nat.le_of_ble_eq_true rfl), (Nat.le_of_ble_eq_true rfl), (Nat.le_of_ble_eq_true rfl), (Nat.le_of_ble_eq_true rfl)⟩ (Nat.le_of_ble_eq_true rfl) (by assumption) (by omega) (s_X5_notes hTi) (fun v_110 n_110 M_110 hn_110 hp => ?_)
  obtain ⟨rfl, rfl, rfl⟩ := hp
  refine jr_iret (pc := 113) h hRt dX7_size_113 rfl (Nat.le_of_ble_eq_true rfl) (Nat.le_of_ble_eq_true rfl) ?_
  exact ⟨rfl, rfl, rfl⟩
set_option maxHeartbeats 1000000 in
set_option maxRecDepth 20000 in
theorem s_X7_size_l {l : Launch} {n : Nat} {M : jdM} {a cu dr : Nat} {g bs : Nat → Int} {p : TS} {ct td bk si ld : Nat → Int} {D : FS} {g3 sp sk fa go : Nat → Int} {mk : Nat → FS} {tg tk tr : Nat → Int} (hS : SXc M n a cu dr (g, bs, p, (ct, td, bk, si, ld), D, (g3, sp, sk, fa, go), mk, tg, tk, tr)) {x : Int} (hx : -2147483648 ≤ x ∧ x < 2147483648) (hx1 : x < 1) (hx2 : x ≠ 0) : Ct l yX7_size cX7_size 2 (some .int) rX7_size [.ref a, jI x] n M (fun vv n' M' => vv = some (jI (x_size ct td g g3 tg x)) ∧ n = n' ∧ M = M') := by
  refine Ct_of [some (.ref a), some (jI x)] (by decide) (Nat.le_of_ble_eq_true rfl) rfl (fun κ hl h hR hRt hmn hn0 => ?_)
  have h : Ok κ RX7 cX7_size 2 (some .int) := h
  obtain ⟨han, hcd, hO7, hT7, hF7, hG7, hR7, hA7, hK7, hD7, hQ7, hB7⟩ := id hS
  have hO7 : M a = jdO 7 (fX7 a cu dr _) := hO7
  try dsimp only at hO7
  try dsimp only at hT7
  try dsimp only at hK7
  try dsimp only at hB7
  have hF : Fl M n cu ct td bk si ld := hF7
  have hRn : Rn M n (a + 19) g3 sp sk fa go := hR7
  obtain ⟨hnF, hOF, hAF, hBF, hCF, hDF, hEF, rA, rB, r0, rC, rD, rE⟩ := id hF
  obtain ⟨hnR, hOR, -⟩ := id hRn
  obtain ⟨dg, rm, wn, be, hDr, hwn, hbe⟩ := id hD7
  obtain ⟨hnD, hOD, -⟩ := id hDr
  obtain ⟨og, ww, hOd⟩ := id hQ7
  obtain ⟨hnQ, hOQ, -⟩ := id hOd
  obtain ⟨fc, wf, hTi⟩ := id hB7
  obtain ⟨hnB, hOB, -⟩ := id hTi
  obtain ⟨ht7, hOT, hTk, hPO, -⟩ := id hT7
  have ctr : 0 ≤ c_rows ct td ∧ c_rows ct td ≤ 40 := by
    unfold c_rows c_get
    have := (rB 0).1
    split
    · omega
    · rw [if_pos (by omega)]
      exact ⟨this, r0⟩
  have c2 := rA 2
  have c5 := rA 5
  have c8 := rA 8
  have f1 : fr (XSf a) M M := fr_rf
  refine jr_iload_n (pc := 0) h dX7_size_0 rfl ?_
  refine jr_iconst (pc := 1) h dX7_size_1 ?_
  refine jr_icmp_lt (pc := 2) h 28 dX7_size_2 (by decide) (by omega) (by omega) (fun _ => ?_) (fun c => absurd c (by omega))
  refine jr_iload_n (pc := 28) h dX7_size_28 rfl ?_
  refine jr_lookup (pc := 29) h (x := x) (off := 85) 114 dX7_size_29 (by omega) (by decide) (by
    show (if (0 : Int) = x then _ else if (12 : Int) = x then _ else if (13 : Int) = x then _ else if (14 : Int) = x then _ else if (15 : Int) = x then _ else _) = _
    rw [if_neg (by omega), if_neg (by omega), if_neg (by omega), if_neg (by omega), if_neg (by omega)]
    rfl) (by decide) ?_
  refine jr_iconst (pc := 114) h dX7_size_114 ?_
  refine jr_iret (pc := 115) h hRt dX7_size_115 rfl (Nat.le_of_ble_eq_true rfl) (Nat.le_of_ble_eq_true rfl) ?_
  refine ⟨ji_c ?_, rfl, rfl⟩
  unfold x_size
  rw [if_neg (by omega), if_neg (by omega), if_neg (by omega), if_neg (by omega), if_neg (by omega), if_neg (by omega)]
set_option maxHeartbeats 1000000 in
set_option maxRecDepth 20000 in
theorem s_X7_size_h {l : Launch} {n : Nat} {M : jdM} {a cu dr : Nat} {g bs : Nat → Int} {p : TS} {ct td bk si ld : Nat → Int} {D : FS} {g3 sp sk fa go : Nat → Int} {mk : Nat → FS} {tg tk tr : Nat → Int} (hS : SXc M n a cu dr (g, bs, p, (ct, td, bk, si, ld), D, (g3, sp, sk, fa, go), mk, tg, tk, tr)) {x : Int} (hx : -2147483648 ≤ x ∧ x < 2147483648) (hx1 : 11 < x) (hx2 : x ≠ 12 ∧ x ≠ 13 ∧ x ≠ 14 ∧ x ≠ 15) : Ct l yX7_size cX7_size 2 (some .int) rX7_size [.ref a, jI x] n M (fun vv n' M' => vv = some (jI (x_size ct td g g3 tg x)) ∧ n = n' ∧ M = M') := by
  refine Ct_of [some (.ref a), some (jI x)] (by decide) (Nat.le_of_ble_eq_true rfl) rfl (fun κ hl h hR hRt hmn hn0 => ?_)
  have h : Ok κ RX7 cX7_size 2 (some .int) := h
  obtain ⟨han, hcd, hO7, hT7, hF7, hG7, hR7, hA7, hK7, hD7, hQ7, hB7⟩ := id hS
  have hO7 : M a = jdO 7 (fX7 a cu dr _) := hO7
  try dsimp only at hO7
  try dsimp only at hT7
  try dsimp only at hK7
  try dsimp only at hB7
  have hF : Fl M n cu ct td bk si ld := hF7
  have hRn : Rn M n (a + 19) g3 sp sk fa go := hR7
  obtain ⟨hnF, hOF, hAF, hBF, hCF, hDF, hEF, rA, rB, r0, rC, rD, rE⟩ := id hF
  obtain ⟨hnR, hOR, -⟩ := id hRn
  obtain ⟨dg, rm, wn, be, hDr, hwn, hbe⟩ := id hD7
  obtain ⟨hnD, hOD, -⟩ := id hDr
  obtain ⟨og, ww, hOd⟩ := id hQ7
  obtain ⟨hnQ, hOQ, -⟩ := id hOd
  obtain ⟨fc, wf, hTi⟩ := id hB7
  obtain ⟨hnB, hOB, -⟩ := id hTi
  obtain ⟨ht7, hOT, hTk, hPO, -⟩ := id hT7
  have ctr : 0 ≤ c_rows ct td ∧ c_rows ct td ≤ 40 := by
    unfold c_rows c_get
    have := (rB 0).1
    split
    · omega
    · rw [if_pos (by omega)]
      exact ⟨this, r0⟩
  have c2 := rA 2
  have c5 := rA 5
  have c8 := rA 8
  have f1 : fr (XSf a) M M := fr_rf
  refine jr_iload_n (pc := 0) h dX7_size_0 rfl ?_
  refine jr_iconst (pc := 1) h dX7_size_1 ?_
  refine jr_icmp_lt (pc := 2) h 28 dX7_size_2 (by decide) (by omega) (by omega) (fun c => absurd c (by omega)) (fun _ => ?_)
  refine jr_iload_n (pc := 5) h dX7_size_5 rfl ?_
  refine jr_gets (pc := 6) h 1 (by decide) wm_1540 dX7_size_6 ?_
  refine jr_tablen (pc := 9) h 1 (by decide) dX7_size_9 ?_
  rw [show (((jtab 1).2.1 : Nat) : Int) = 11 from rfl]
  refine jr_icmp_gt (pc := 10) h 28 dX7_size_10 (by decide) (by omega) (by omega) (fun _ => ?_) (fun c => absurd c (by omega))
  refine jr_iload_n (pc := 28) h dX7_size_28 rfl ?_
  refine jr_lookup (pc := 29) h (x := x) (off := 85) 114 dX7_size_29 (by omega) (by decide) (by
    show (if (0 : Int) = x then _ else if (12 : Int) = x then _ else if (13 : Int) = x then _ else if (14 : Int) = x then _ else if (15 : Int) = x then _ else _) = _
    rw [if_neg (by omega), if_neg (by omega), if_neg (by omega), if_neg (by omega), if_neg (by omega)]
    rfl) (by decide) ?_
  refine jr_iconst (pc := 114) h dX7_size_114 ?_
  refine jr_iret (pc := 115) h hRt dX7_size_115 rfl (Nat.le_of_ble_eq_true rfl) (Nat.le_of_ble_eq_true rfl) ?_
  refine ⟨ji_c ?_, rfl, rfl⟩
  unfold x_size
  rw [if_neg (by omega), if_neg (by omega), if_neg (by omega), if_neg (by omega), if_neg (by omega), if_neg (by omega)]
theorem s_X7_size {l : Launch} {n : Nat} {M : jdM} {a cu dr : Nat} {g bs : Nat → Int} {p : TS} {ct td bk si ld : Nat → Int} {D : FS} {g3 sp sk fa go : Nat → Int} {mk : Nat → FS} {tg tk tr : Nat → Int} (hS : SXc M n a cu dr (g, bs, p, (ct, td, bk, si, ld), D, (g3, sp, sk, fa, go), mk, tg, tk, tr)) {x : Int} (hx : -2147483648 ≤ x ∧ x < 2147483648) : Ct l yX7_size cX7_size 2 (some .int) rX7_size [.ref a, jI x] n M (fun vv n' M' => vv = some (jI (x_size ct td g g3 tg x)) ∧ n = n' ∧ M = M') := by
  by_cases h1 : 1 ≤ x ∧ x ≤ 11
  · exact s_X7_size_t hS h1
  · by_cases h0 : x = 0
    · subst h0; exact s_X7_size_0 hS
    · by_cases h2 : x = 12 ∨ x = 13 ∨ x = 14 ∨ x = 15
      · rcases h2 with rfl | rfl | rfl | rfl
        · exact s_X7_size_12 hS
        · exact s_X7_size_13 hS
        · exact s_X7_size_14 hS
        · exact s_X7_size_15 hS
      · by_cases h3 : x < 1
        · exact s_X7_size_l hS hx h3 h0
        · exact s_X7_size_h hS hx (by omega) (by omega)
def p0S : TS := ((fun _ => 0), 0, (fun _ => 0), (fun _ => 0), fun _ => 0)
theorem p0S_O : PO p0S := by
  refine ⟨⟨?_, ?_, ?_, ?_, ?_, ?_, ?_, ?_⟩, ?_, ?_, ?_, ?_⟩
  · exact ⟨(by decide : (-2147483648 : Int) ≤ 0), (by decide : (0 : Int) ≤ 900)⟩
  · exact ⟨(by decide : (0 : Int) ≤ 0), (by decide : (0 : Int) ≤ 900)⟩
  · exact ⟨(by decide : (0 : Int) ≤ 0), (by decide : (0 : Int) ≤ 900)⟩
  · exact ⟨(by decide : (0 : Int) ≤ 0), (by decide : (0 : Int) ≤ 4)⟩
  · exact ⟨(by decide : (-2147483648 : Int) ≤ 0), (by decide : (0 : Int) < 2147483648)⟩
  · exact ⟨(by decide : (0 : Int) ≤ 0), (by decide : (0 : Int) ≤ 16)⟩
  · intro h; exact absurd (show (0 : Int) = 1 from h) (by decide)
  · intro h; exact absurd (show (0 : Int) = 2 from h) (by decide)
  · intro h; exact absurd (show (0 : Int) = 1 from h) (by decide)
  · intro i; exact ⟨(by decide : (0 : Int) ≤ 0), (by decide : (0 : Int) < 9223372036854775808)⟩
  · intro i; exact ⟨(by decide : (0 : Int) ≤ 0), (by decide : (0 : Int) ≤ 100)⟩
  · intro i; exact ⟨(by decide : (0 : Int) ≤ 0), (by decide : (0 : Int) ≤ 100)⟩
set_option maxHeartbeats 1000000 in
set_option maxRecDepth 20000 in
theorem s_X4_init {l : Launch} {n : Nat} {M : jdM} {b : Nat} (hb : b + 1 = n) (hN : n < 890000) (o0 : M b = jdO 4 (fun j => defaultValue (tyX4 j))) : Ct l yX4_init cX4_init 1 none rX4_init [.ref b] n M (fun vv n' M' => (vv = none ∧ n' = n + 5) ∧ Te M' n' b (b + 1) (fun _ => 0) p0S ∧ fr (fun k => k = b ∨ b < k) M M') := by
  refine Ct_of [some (.ref b)] (by decide) (Nat.le_of_ble_eq_true rfl) rfl (fun κ hl h hR hRt hmn hn0 => ?_)
  have h : Ok κ RX4 cX4_init 1 none := h
  subst hb
  have f : fr (fun k => k = b ∨ b < k) M M := fr_rf
  refine jr_aload_n (pc := 0) h dX4_init_0 rfl ?_
  refine io_X4_3 (pc := 1) h hR dX4_init_1 ⟨(Nat.le_of_ble_eq_true rfl), (Nat.le_of_ble_eq_true rfl)⟩ ?_
  refine jr_aload_n (pc := 4) h dX4_init_4 rfl ?_
  refine nw_X4_9 (pc := 5) h hR dX4_init_5 ⟨(Nat.le_of_ble_eq_true rfl), (Nat.le_of_ble_eq_true rfl)⟩ (by omega) ?_
  refine jm_gen (fun M1 h1 => ?_)
  have o1 := (congrFun h1 b).trans ((up_ne (by omega)).trans o0)
  have f := fr_tr f (fr_up h1 (Or.inr (by omega)))
  refine jr_dup (pc := 8) h dX4_init_8 rfl ?_
  refine iv_X4_11 (pc := 9) h hl hR dX4_init_9 ⟨(Nat.le_of_ble_eq_true rfl), (Nat.le_of_ble_eq_true rfl), (Nat.le_of_ble_eq_true rfl), (Nat.le_of_ble_eq_true rfl)⟩ (Nat.le_of_ble_eq_true rfl) (s_X6_init (n := b + 1 + 1) (b := b + 1) rfl (by omega) ((congrFun h1 (b + 1)).trans up_eq)) (fun v2 n2 M2 hn2 hp => ?_)
  obtain ⟨⟨rfl, rfl⟩, T2, f2⟩ := hp
  have o2 := (f2 b (fun q => by have q : b = b + 1 ∨ b + 1 < b := q; omega)).trans o1
  have f := fr_tr f (fr_mo f2 (fun k q => Or.inr (by have q : k = b + 1 ∨ b + 1 < k := q; omega)))
  refine pF_X4_12 (pc := 12) h hmn dX4_init_12 o2 (by omega) ?_
  refine jm_gen (fun M3 h3 => ?_)
  have o3 := (congrFun h3 b).trans up_eq
  have f3 : fr (fun k => k = b) M2 M3 := fr_up h3 rfl
  have f := fr_tr f (fr_mo f3 (fun k q => Or.inl q))
  refine jr_same (k := b) (F' := fX4 (b + 1)) o3 (fun j hj => match j, hj with
    | 0, _ => rfl
    | q + 1, hq => absurd hq (Nat.not_lt.mpr (Nat.le_add_left 1 q))) ?_
  refine jm_gen (fun Mz hz => ?_)
  have oz := (congrFun hz b).trans up_eq
  have f4 : fr (fun k => k = b) M3 Mz := fr_up hz rfl
  have f := fr_tr f (fr_mo f4 (fun k q => Or.inl q))
  have T9 := Tok_fr (Tok_fr T2 f3 (Nat.le_refl _) (fun k h1 h2 q => by have q : k = b := q; omega)) f4 (Nat.le_refl _) (fun k h1 h2 q => by have q : k = b := q; omega)
  refine jr_vret (pc := 15) h hRt dX4_init_15 (Nat.le_of_ble_eq_true rfl) (Nat.le_of_ble_eq_true rfl) ?_
  exact ⟨⟨rfl, rfl⟩, ⟨by omega, oz, T9, p0S_O, Or.inl (by omega)⟩, f⟩
set_option maxHeartbeats 1000000 in
set_option maxRecDepth 20000 in
theorem s_X7_init {l : Launch} {n : Nat} {M : jdM} {a : Nat} (hb : a + 1 = n) (hN : n < 800000) (o0 : M a = jdO 7 (fun j => defaultValue (tyX7 j))) : Ct l yX7_init cX7_init 2 none rX7_init [.ref a] n M (fun vv n' M' => (vv = none ∧ n' = n + 62) ∧ SXc M' n' a (a + 7) (a + 13) ((fun _ => 0), (fun _ => 0), p0S, ((fun _ => 0), (fun _ => 0), (fun _ => 0), (fun _ => 0), (fun _ => 0)), ((fun _ => 0), (fun _ => 0), (fun _ => 0), (fun _ => 0), (fun _ => 0)), (up (fun _ => 0) 4 1, (fun _ => 0), (fun _ => 0), (fun _ => 0), (fun _ => 0)), (fun _ => (up (fun _ => 0) 4 1, (fun _ => 0), (fun _ => 0), (fun _ => 0), (fun _ => 0))), (fun _ => 0), (fun _ => 0), (fun _ => 0)) ∧ fr (fun k => k = a ∨ a < k) M M') := by
  refine Ct_of [some (.ref a), none] (by decide) (Nat.le_of_ble_eq_true rfl) rfl (fun κ hl h hR hRt hmn hn0 => ?_)
  have h : Ok κ RX7 cX7_init 2 none := h
  subst hb
  refine jr_aload_n (pc := 0) h dX7_init_0 rfl ?_
  refine io_X7_1 (pc := 1) h hR dX7_init_1 ⟨(Nat.le_of_ble_eq_true rfl), (Nat.le_of_ble_eq_true rfl)⟩ ?_
  refine jr_aload_n (pc := 4) h dX7_init_4 rfl ?_
  refine nw_X7_7 (pc := 5) h hR dX7_init_5 ⟨(Nat.le_of_ble_eq_true rfl), (Nat.le_of_ble_eq_true rfl)⟩ (by omega) ?_
  refine jm_gen (fun M1 h1 => ?_)
  have o1 := (congrFun h1 a).trans ((up_ne (by omega)).trans o0)
  have g1 : fr (fun k => k = a ∨ a + 1 ≤ k) M M1 := fr_up h1 (Or.inr (by omega))
  refine jr_dup (pc := 8) h dX7_init_8 rfl ?_
  refine iv_X7_9 (pc := 9) h hl hR dX7_init_9 ⟨(Nat.le_of_ble_eq_true rfl), (Nat.le_of_ble_eq_true rfl), (Nat.le_of_ble_eq_true rfl), (Nat.le_of_ble_eq_true rfl)⟩ (Nat.le_of_ble_eq_true rfl) (s_X4_init (n := a + 1 + 1) (b := a + 1) rfl (by omega) ((congrFun h1 (a + 1)).trans up_eq)) (fun v2 n2 M2 hn2 hp => ?_)
  obtain ⟨⟨rfl, rfl⟩, c2, f2⟩ := hp
  have o2 := (f2 a (fun q => by have q : a = a + 1 ∨ a + 1 < a := q; omega)).trans o1
  have g2 : fr (fun k => k = a ∨ a + 1 ≤ k) M1 M2 := fr_mo f2 (fun k q => Or.inr (by have q : k = a + 1 ∨ a + 1 < k := q; omega))
  refine pF_X7_10 (pc := 12) h hmn dX7_init_12 o2 (by omega) ?_
  refine jm_gen (fun M3 h3 => ?_)
  have o3 := (congrFun h3 a).trans up_eq
  have g3 : fr (fun k => k = a ∨ a + 7 ≤ k) M2 M3 := fr_up h3 (Or.inl rfl)
  refine jr_aload_n (pc := 15) h dX7_init_15 rfl ?_
  refine nw_X7_16 (pc := 16) h hR dX7_init_16 ⟨(Nat.le_of_ble_eq_true rfl), (Nat.le_of_ble_eq_true rfl)⟩ (by omega) ?_
  refine jm_gen (fun M4 h4 => ?_)
  have o4 := (congrFun h4 a).trans ((up_ne (by omega)).trans o3)
  have g4 : fr (fun k => k = a ∨ a + 7 ≤ k) M3 M4 := fr_up h4 (Or.inr (by omega))
  refine jr_dup (pc := 19) h dX7_init_19 rfl ?_
  refine iv_X7_18 (pc := 20) h hl hR dX7_init_20 ⟨(Nat.le_of_ble_eq_true rfl), (Nat.le_of_ble_eq_true rfl), (Nat.le_of_ble_eq_true rfl), (Nat.le_of_ble_eq_true rfl)⟩ (Nat.le_of_ble_eq_true rfl) (s_X1_init (n := a + 7 + 1) (b := a + 7) rfl (by omega) ((congrFun h4 (a + 7)).trans up_eq)) (fun v5 n5 M5 hn5 hp => ?_)
  obtain ⟨⟨rfl, rfl⟩, c5, f5⟩ := hp
  have o5 := (f5 a (fun q => by have q : a = a + 7 ∨ a + 7 < a := q; omega)).trans o4
  have g5 : fr (fun k => k = a ∨ a + 7 ≤ k) M4 M5 := fr_mo f5 (fun k q => Or.inr (by have q : k = a + 7 ∨ a + 7 < k := q; omega))
  refine pf_X7_19 (pc := 23) h dX7_init_23 o5 (by omega) ?_
  refine jm_gen (fun M6 h6 => ?_)
  have o6 := (congrFun h6 a).trans up_eq
  have g6 : fr (fun k => k = a ∨ a + 13 ≤ k) M5 M6 := fr_up h6 (Or.inl rfl)
  refine jr_aload_n (pc := 26) h dX7_init_26 rfl ?_
  refine nw_X7_16 (pc := 27) h hR dX7_init_27 ⟨(Nat.le_of_ble_eq_true rfl), (Nat.le_of_ble_eq_true rfl)⟩ (by omega) ?_
  refine jm_gen (fun M7 h7 => ?_)
  have o7 := (congrFun h7 a).trans ((up_ne (by omega)).trans o6)
  have g7 : fr (fun k => k = a ∨ a + 13 ≤ k) M6 M7 := fr_up h7 (Or.inr (by omega))
  refine jr_dup (pc := 30) h dX7_init_30 rfl ?_
  refine iv_X7_18 (pc := 31) h hl hR dX7_init_31 ⟨(Nat.le_of_ble_eq_true rfl), (Nat.le_of_ble_eq_true rfl), (Nat.le_of_ble_eq_true rfl), (Nat.le_of_ble_eq_true rfl)⟩ (Nat.le_of_ble_eq_true rfl) (s_X1_init (n := a + 13 + 1) (b := a + 13) rfl (by omega) ((congrFun h7 (a + 13)).trans up_eq)) (fun v8 n8 M8 hn8 hp => ?_)
  obtain ⟨⟨rfl, rfl⟩, c8, f8⟩ := hp
  have o8 := (f8 a (fun q => by have q : a = a + 13 ∨ a + 13 < a := q; omega)).trans o7
  have g8 : fr (fun k => k = a ∨ a + 13 ≤ k) M7 M8 := fr_mo f8 (fun k q => Or.inr (by have q : k = a + 13 ∨ a + 13 < k := q; omega))
  refine pf_X7_23 (pc := 34) h dX7_init_34 o8 (by omega) ?_
  refine jm_gen (fun M9 h9 => ?_)
  have o9 := (congrFun h9 a).trans up_eq
  have g9 : fr (fun k => k = a ∨ a + 19 ≤ k) M8 M9 := fr_up h9 (Or.inl rfl)
  refine jr_aload_n (pc := 37) h dX7_init_37 rfl ?_
  refine nw_X7_26 (pc := 38) h hR dX7_init_38 ⟨(Nat.le_of_ble_eq_true rfl), (Nat.le_of_ble_eq_true rfl)⟩ (by omega) ?_
  refine jm_gen (fun M10 h10 => ?_)
  have o10 := (congrFun h10 a).trans ((up_ne (by omega)).trans o9)
  have g10 : fr (fun k => k = a ∨ a + 19 ≤ k) M9 M10 := fr_up h10 (Or.inr (by omega))
  refine jr_dup (pc := 41) h dX7_init_41 rfl ?_
  refine iv_X7_28 (pc := 42) h hl hR dX7_init_42 ⟨(Nat.le_of_ble_eq_true rfl), (Nat.le_of_ble_eq_true rfl), (Nat.le_of_ble_eq_true rfl), (Nat.le_of_ble_eq_true rfl)⟩ (Nat.le_of_ble_eq_true rfl) (s_X3_init (n := a + 19 + 1) (b := a + 19) rfl (by omega) ((congrFun h10 (a + 19)).trans up_eq)) (fun v11 n11 M11 hn11 hp => ?_)
  obtain ⟨⟨rfl, rfl⟩, c11, f11⟩ := hp
  have o11 := (f11 a (fun q => by have q : a = a + 19 ∨ a + 19 < a := q; omega)).trans o10
  have g11 : fr (fun k => k = a ∨ a + 19 ≤ k) M10 M11 := fr_mo f11 (fun k q => Or.inr (by have q : k = a + 19 ∨ a + 19 < k := q; omega))
  refine pF_X7_29 (pc := 45) h hmn dX7_init_45 o11 (by omega) ?_
  refine jm_gen (fun M12 h12 => ?_)
  have o12 := (congrFun h12 a).trans up_eq
  have g12 : fr (fun k => k = a ∨ a + 24 ≤ k) M11 M12 := fr_up h12 (Or.inl rfl)
  refine jr_aload_n (pc := 48) h dX7_init_48 rfl ?_
  refine jr_iconst (pc := 49) h dX7_init_49 ?_
  refine jr_anew (pc := 50) h hR 4 wm_22 dX7_init_50 rfl (by decide) ⟨(Nat.le_of_ble_eq_true rfl), (Nat.le_of_ble_eq_true rfl)⟩ (by omega) ?_
  refine jm_gen (fun M13 h13 => ?_)
  have o13 := (congrFun h13 a).trans ((up_ne (by omega)).trans o12)
  have r0 := (congrFun h13 (a + 24)).trans up_eq
  have g13 : fr (fun k => k = a ∨ a + 24 ≤ k) M12 M13 := fr_up h13 (Or.inr (by omega))
  refine pF_X7_33 (pc := 53) h hmn dX7_init_53 o13 (by omega) ?_
  refine jm_gen (fun M14 h14 => ?_)
  have o14 := (congrFun h14 a).trans up_eq
  have g14 : fr (fun k => k = a ∨ a + 25 ≤ k) M13 M14 := fr_up h14 (Or.inl rfl)
  refine jr_aload_n (pc := 56) h dX7_init_56 rfl ?_
  refine nw_X7_37 (pc := 57) h hR dX7_init_57 ⟨(Nat.le_of_ble_eq_true rfl), (Nat.le_of_ble_eq_true rfl)⟩ (by omega) ?_
  refine jm_gen (fun M15 h15 => ?_)
  have o15 := (congrFun h15 a).trans ((up_ne (by omega)).trans o14)
  have g15 : fr (fun k => k = a ∨ a + 25 ≤ k) M14 M15 := fr_up h15 (Or.inr (by omega))
  refine jr_dup (pc := 60) h dX7_init_60 rfl ?_
  refine iv_X7_39 (pc := 61) h hl hR dX7_init_61 ⟨(Nat.le_of_ble_eq_true rfl), (Nat.le_of_ble_eq_true rfl), (Nat.le_of_ble_eq_true rfl), (Nat.le_of_ble_eq_true rfl)⟩ (Nat.le_of_ble_eq_true rfl) (s_X0_init (n := a + 25 + 1) (b := a + 25) rfl (by omega) ((congrFun h15 (a + 25)).trans up_eq)) (fun v16 n16 M16 hn16 hp => ?_)
  obtain ⟨⟨rfl, rfl⟩, c16, f16⟩ := hp
  have o16 := (f16 a (fun q => by have q : a = a + 25 ∨ a + 25 < a := q; omega)).trans o15
  have g16 : fr (fun k => k = a ∨ a + 25 ≤ k) M15 M16 := fr_mo f16 (fun k q => Or.inr (by have q : k = a + 25 ∨ a + 25 < k := q; omega))
  refine pF_X7_40 (pc := 64) h hmn dX7_init_64 o16 (by omega) ?_
  refine jm_gen (fun M17 h17 => ?_)
  have o17 := (congrFun h17 a).trans up_eq
  have g17 : fr (fun k => k = a ∨ a + 29 ≤ k) M16 M17 := fr_up h17 (Or.inl rfl)
  refine jr_aload_n (pc := 67) h dX7_init_67 rfl ?_
  refine nw_X7_44 (pc := 68) h hR dX7_init_68 ⟨(Nat.le_of_ble_eq_true rfl), (Nat.le_of_ble_eq_true rfl)⟩ (by omega) ?_
  refine jm_gen (fun M18 h18 => ?_)
  have o18 := (congrFun h18 a).trans ((up_ne (by omega)).trans o17)
  have g18 : fr (fun k => k = a ∨ a + 29 ≤ k) M17 M18 := fr_up h18 (Or.inr (by omega))
  refine jr_dup (pc := 71) h dX7_init_71 rfl ?_
  refine iv_X7_46 (pc := 72) h hl hR dX7_init_72 ⟨(Nat.le_of_ble_eq_true rfl), (Nat.le_of_ble_eq_true rfl), (Nat.le_of_ble_eq_true rfl), (Nat.le_of_ble_eq_true rfl)⟩ (Nat.le_of_ble_eq_true rfl) (s_X2_init (n := a + 29 + 1) (b := a + 29) rfl (by omega) ((congrFun h18 (a + 29)).trans up_eq)) (fun v19 n19 M19 hn19 hp => ?_)
  obtain ⟨⟨rfl, rfl⟩, c19, f19⟩ := hp
  have o19 := (f19 a (fun q => by have q : a = a + 29 ∨ a + 29 < a := q; omega)).trans o18
  have g19 : fr (fun k => k = a ∨ a + 29 ≤ k) M18 M19 := fr_mo f19 (fun k q => Or.inr (by have q : k = a + 29 ∨ a + 29 < k := q; omega))
  refine pF_X7_47 (pc := 75) h hmn dX7_init_75 o19 (by omega) ?_
  refine jm_gen (fun M20 h20 => ?_)
  have o20 := (congrFun h20 a).trans up_eq
  have g20 : fr (fun k => k = a ∨ a + 31 ≤ k) M19 M20 := fr_up h20 (Or.inl rfl)
  refine jr_aload_n (pc := 78) h dX7_init_78 rfl ?_
  refine nw_X7_51 (pc := 79) h hR dX7_init_79 ⟨(Nat.le_of_ble_eq_true rfl), (Nat.le_of_ble_eq_true rfl)⟩ (by omega) ?_
  refine jm_gen (fun M21 h21 => ?_)
  have o21 := (congrFun h21 a).trans ((up_ne (by omega)).trans o20)
  have g21 : fr (fun k => k = a ∨ a + 31 ≤ k) M20 M21 := fr_up h21 (Or.inr (by omega))
  refine jr_dup (pc := 82) h dX7_init_82 rfl ?_
  refine iv_X7_53 (pc := 83) h hl hR dX7_init_83 ⟨(Nat.le_of_ble_eq_true rfl), (Nat.le_of_ble_eq_true rfl), (Nat.le_of_ble_eq_true rfl), (Nat.le_of_ble_eq_true rfl)⟩ (Nat.le_of_ble_eq_true rfl) (s_X5_init (n := a + 31 + 1) (b := a + 31) rfl (by omega) ((congrFun h21 (a + 31)).trans up_eq)) (fun v22 n22 M22 hn22 hp => ?_)
  obtain ⟨⟨rfl, rfl⟩, c22, f22⟩ := hp
  have o22 := (f22 a (fun q => by have q : a = a + 31 ∨ a + 31 < a := q; omega)).trans o21
  have g22 : fr (fun k => k = a ∨ a + 31 ≤ k) M21 M22 := fr_mo f22 (fun k q => Or.inr (by have q : k = a + 31 ∨ a + 31 < k := q; omega))
  refine pF_X7_54 (pc := 86) h hmn dX7_init_86 o22 (by omega) ?_
  refine jm_gen (fun M23 h23 => ?_)
  have o23 := (congrFun h23 a).trans up_eq
  have g23 : fr (fun k => k = a ∨ a + 43 ≤ k) M22 M23 := fr_up h23 (Or.inl rfl)
  refine jr_iconst (pc := 89) h dX7_init_89 ?_
  refine jr_istore_n (pc := 90) h [_, _] dX7_init_90 (by decide) rfl ?_
  refine jr_iload_n (pc := 91) h dX7_init_91 rfl ?_
  refine jr_iconst (pc := 92) h dX7_init_92 ?_
  refine jr_icmp_ge (pc := 93) h 115 dX7_init_93 (by decide) (by omega) (by omega) (fun c => absurd c (by omega)) (fun _ => ?_)
  refine jr_aload_n (pc := 96) h dX7_init_96 rfl ?_
  refine gf_X7_33 (pc := 97) h dX7_init_97 (by assumption) (by omega) ?_
  refine jr_iload_n (pc := 100) h dX7_init_100 rfl ?_
  refine nw_X7_26 (pc := 101) h hR dX7_init_101 ⟨(Nat.le_of_ble_eq_true rfl), (Nat.le_of_ble_eq_true rfl)⟩ (by omega) ?_
  refine jm_gen (fun M24 h24 => ?_)
  have o24 := (congrFun h24 a).trans ((up_ne (by omega)).trans o23)
  have g24 : fr (fun k => k = a ∨ a + 43 ≤ k) M23 M24 := fr_up h24 (Or.inr (by omega))
  refine jr_dup (pc := 104) h dX7_init_104 rfl ?_
  refine iv_X7_28 (pc := 105) h hl hR dX7_init_105 ⟨(Nat.le_of_ble_eq_true rfl), (Nat.le_of_ble_eq_true rfl), (Nat.le_of_ble_eq_true rfl), (Nat.le_of_ble_eq_true rfl)⟩ (Nat.le_of_ble_eq_true rfl) (s_X3_init (n := a + 43 + 1) (b := a + 43) rfl (by omega) ((congrFun h24 (a + 43)).trans up_eq)) (fun v25 n25 M25 hn25 hp => ?_)
  obtain ⟨⟨rfl, rfl⟩, c25, f25⟩ := hp
  have o25 := (f25 a (fun q => by have q : a = a + 43 ∨ a + 43 < a := q; omega)).trans o24
  have g25 : fr (fun k => k = a ∨ a + 43 ≤ k) M24 M25 := fr_mo f25 (fun k q => Or.inr (by have q : k = a + 43 ∨ a + 43 < k := q; omega))
  have r0 := (g14 (a + 24) (fun z => by have z : a + 24 = a ∨ a + 25 ≤ a + 24 := z; omega)).trans r0
  have r0 := (g15 (a + 24) (fun z => by have z : a + 24 = a ∨ a + 25 ≤ a + 24 := z; omega)).trans r0
  have r0 := (g16 (a + 24) (fun z => by have z : a + 24 = a ∨ a + 25 ≤ a + 24 := z; omega)).trans r0
  have r0 := (g17 (a + 24) (fun z => by have z : a + 24 = a ∨ a + 29 ≤ a + 24 := z; omega)).trans r0
  have r0 := (g18 (a + 24) (fun z => by have z : a + 24 = a ∨ a + 29 ≤ a + 24 := z; omega)).trans r0
  have r0 := (g19 (a + 24) (fun z => by have z : a + 24 = a ∨ a + 29 ≤ a + 24 := z; omega)).trans r0
  have r0 := (g20 (a + 24) (fun z => by have z : a + 24 = a ∨ a + 31 ≤ a + 24 := z; omega)).trans r0
  have r0 := (g21 (a + 24) (fun z => by have z : a + 24 = a ∨ a + 31 ≤ a + 24 := z; omega)).trans r0
  have r0 := (g22 (a + 24) (fun z => by have z : a + 24 = a ∨ a + 31 ≤ a + 24 := z; omega)).trans r0
  have r0 := (g23 (a + 24) (fun z => by have z : a + 24 = a ∨ a + 43 ≤ a + 24 := z; omega)).trans r0
  have r0 := (g24 (a + 24) (fun z => by have z : a + 24 = a ∨ a + 43 ≤ a + 24 := z; omega)).trans r0
  have r0 := (g25 (a + 24) (fun z => by have z : a + 24 = a ∨ a + 43 ≤ a + 24 := z; omega)).trans r0
  refine jr_aast (pc := 108) h dX7_init_108 r0 (by omega) c25.2.1 (by omega) (by omega) ?_
  refine jm_gen (fun M26 h26 => ?_)
  have o26 := (congrFun h26 a).trans ((up_ne (by omega)).trans o25)
  have r0 : M26 (a + 24) = jdR 4 4 (up (fun _ => none) 0 (some (a + 43))) := (congrFun h26 (a + 24)).trans up_eq
  have g26 : fr (fun k => k = a ∨ k = a + 24) M25 M26 := fr_up h26 (Or.inr rfl)
  refine jr_iinc (pc := 109) h [_, _] dX7_init_109 (by decide) rfl rfl ?_
  rw [show ((0 : Int) + 1) = 1 from rfl]
  refine jr_goto (pc := 112) h 91 dX7_init_112 (by decide) ?_
  refine jr_iload_n (pc := 91) h dX7_init_91 rfl ?_
  refine jr_iconst (pc := 92) h dX7_init_92 ?_
  refine jr_icmp_ge (pc := 93) h 115 dX7_init_93 (by decide) (by omega) (by omega) (fun c => absurd c (by omega)) (fun _ => ?_)
  refine jr_aload_n (pc := 96) h dX7_init_96 rfl ?_
  refine gf_X7_33 (pc := 97) h dX7_init_97 (by assumption) (by omega) ?_
  refine jr_iload_n (pc := 100) h dX7_init_100 rfl ?_
  refine nw_X7_26 (pc := 101) h hR dX7_init_101 ⟨(Nat.le_of_ble_eq_true rfl), (Nat.le_of_ble_eq_true rfl)⟩ (by omega) ?_
  refine jm_gen (fun M27 h27 => ?_)
  have o27 := (congrFun h27 a).trans ((up_ne (by omega)).trans o26)
  have g27 : fr (fun k => k = a ∨ a + 48 ≤ k) M26 M27 := fr_up h27 (Or.inr (by omega))
  refine jr_dup (pc := 104) h dX7_init_104 rfl ?_
  refine iv_X7_28 (pc := 105) h hl hR dX7_init_105 ⟨(Nat.le_of_ble_eq_true rfl), (Nat.le_of_ble_eq_true rfl), (Nat.le_of_ble_eq_true rfl), (Nat.le_of_ble_eq_true rfl)⟩ (Nat.le_of_ble_eq_true rfl) (s_X3_init (n := a + 48 + 1) (b := a + 48) rfl (by omega) ((congrFun h27 (a + 48)).trans up_eq)) (fun v28 n28 M28 hn28 hp => ?_)
  obtain ⟨⟨rfl, rfl⟩, c28, f28⟩ := hp
  have o28 := (f28 a (fun q => by have q : a = a + 48 ∨ a + 48 < a := q; omega)).trans o27
  have g28 : fr (fun k => k = a ∨ a + 48 ≤ k) M27 M28 := fr_mo f28 (fun k q => Or.inr (by have q : k = a + 48 ∨ a + 48 < k := q; omega))
  have r0 := (g27 (a + 24) (fun z => by have z : a + 24 = a ∨ a + 48 ≤ a + 24 := z; omega)).trans r0
  have r0 := (g28 (a + 24) (fun z => by have z : a + 24 = a ∨ a + 48 ≤ a + 24 := z; omega)).trans r0
  refine jr_aast (pc := 108) h dX7_init_108 r0 (by omega) c28.2.1 (by omega) (by omega) ?_
  refine jm_gen (fun M29 h29 => ?_)
  have o29 := (congrFun h29 a).trans ((up_ne (by omega)).trans o28)
  have r0 : M29 (a + 24) = jdR 4 4 (up (up (fun _ => none) 0 (some (a + 43))) 1 (some (a + 48))) := (congrFun h29 (a + 24)).trans up_eq
  have g29 : fr (fun k => k = a ∨ k = a + 24) M28 M29 := fr_up h29 (Or.inr rfl)
  refine jr_iinc (pc := 109) h [_, _] dX7_init_109 (by decide) rfl rfl ?_
  rw [show ((1 : Int) + 1) = 2 from rfl]
  refine jr_goto (pc := 112) h 91 dX7_init_112 (by decide) ?_
  refine jr_iload_n (pc := 91) h dX7_init_91 rfl ?_
  refine jr_iconst (pc := 92) h dX7_init_92 ?_
  refine jr_icmp_ge (pc := 93) h 115 dX7_init_93 (by decide) (by omega) (by omega) (fun c => absurd c (by omega)) (fun _ => ?_)
  refine jr_aload_n (pc := 96) h dX7_init_96 rfl ?_
  refine gf_X7_33 (pc := 97) h dX7_init_97 (by assumption) (by omega) ?_
  refine jr_iload_n (pc := 100) h dX7_init_100 rfl ?_
  refine nw_X7_26 (pc := 101) h hR dX7_init_101 ⟨(Nat.le_of_ble_eq_true rfl), (Nat.le_of_ble_eq_true rfl)⟩ (by omega) ?_
  refine jm_gen (fun M30 h30 => ?_)
  have o30 := (congrFun h30 a).trans ((up_ne (by omega)).trans o29)
  have g30 : fr (fun k => k = a ∨ a + 53 ≤ k) M29 M30 := fr_up h30 (Or.inr (by omega))
  refine jr_dup (pc := 104) h dX7_init_104 rfl ?_
  refine iv_X7_28 (pc := 105) h hl hR dX7_init_105 ⟨(Nat.le_of_ble_eq_true rfl), (Nat.le_of_ble_eq_true rfl), (Nat.le_of_ble_eq_true rfl), (Nat.le_of_ble_eq_true rfl)⟩ (Nat.le_of_ble_eq_true rfl) (s_X3_init (n := a + 53 + 1) (b := a + 53) rfl (by omega) ((congrFun h30 (a + 53)).trans up_eq)) (fun v31 n31 M31 hn31 hp => ?_)
  obtain ⟨⟨rfl, rfl⟩, c31, f31⟩ := hp
  have o31 := (f31 a (fun q => by have q : a = a + 53 ∨ a + 53 < a := q; omega)).trans o30
  have g31 : fr (fun k => k = a ∨ a + 53 ≤ k) M30 M31 := fr_mo f31 (fun k q => Or.inr (by have q : k = a + 53 ∨ a + 53 < k := q; omega))
  have r0 := (g30 (a + 24) (fun z => by have z : a + 24 = a ∨ a + 53 ≤ a + 24 := z; omega)).trans r0
  have r0 := (g31 (a + 24) (fun z => by have z : a + 24 = a ∨ a + 53 ≤ a + 24 := z; omega)).trans r0
  refine jr_aast (pc := 108) h dX7_init_108 r0 (by omega) c31.2.1 (by omega) (by omega) ?_
  refine jm_gen (fun M32 h32 => ?_)
  have o32 := (congrFun h32 a).trans ((up_ne (by omega)).trans o31)
  have r0 : M32 (a + 24) = jdR 4 4 (up (up (up (fun _ => none) 0 (some (a + 43))) 1 (some (a + 48))) 2 (some (a + 53))) := (congrFun h32 (a + 24)).trans up_eq
  have g32 : fr (fun k => k = a ∨ k = a + 24) M31 M32 := fr_up h32 (Or.inr rfl)
  refine jr_iinc (pc := 109) h [_, _] dX7_init_109 (by decide) rfl rfl ?_
  rw [show ((2 : Int) + 1) = 3 from rfl]
  refine jr_goto (pc := 112) h 91 dX7_init_112 (by decide) ?_
  refine jr_iload_n (pc := 91) h dX7_init_91 rfl ?_
  refine jr_iconst (pc := 92) h dX7_init_92 ?_
  refine jr_icmp_ge (pc := 93) h 115 dX7_init_93 (by decide) (by omega) (by omega) (fun c => absurd c (by omega)) (fun _ => ?_)
  refine jr_aload_n (pc := 96) h dX7_init_96 rfl ?_
  refine gf_X7_33 (pc := 97) h dX7_init_97 (by assumption) (by omega) ?_
  refine jr_iload_n (pc := 100) h dX7_init_100 rfl ?_
  refine nw_X7_26 (pc := 101) h hR dX7_init_101 ⟨(Nat.le_of_ble_eq_true rfl), (Nat.le_of_ble_eq_true rfl)⟩ (by omega) ?_
  refine jm_gen (fun M33 h33 => ?_)
  have o33 := (congrFun h33 a).trans ((up_ne (by omega)).trans o32)
  have g33 : fr (fun k => k = a ∨ a + 58 ≤ k) M32 M33 := fr_up h33 (Or.inr (by omega))
  refine jr_dup (pc := 104) h dX7_init_104 rfl ?_
  refine iv_X7_28 (pc := 105) h hl hR dX7_init_105 ⟨(Nat.le_of_ble_eq_true rfl), (Nat.le_of_ble_eq_true rfl), (Nat.le_of_ble_eq_true rfl), (Nat.le_of_ble_eq_true rfl)⟩ (Nat.le_of_ble_eq_true rfl) (s_X3_init (n := a + 58 + 1) (b := a + 58) rfl (by omega) ((congrFun h33 (a + 58)).trans up_eq)) (fun v34 n34 M34 hn34 hp => ?_)
  obtain ⟨⟨rfl, rfl⟩, c34, f34⟩ := hp
  have o34 := (f34 a (fun q => by have q : a = a + 58 ∨ a + 58 < a := q; omega)).trans o33
  have g34 : fr (fun k => k = a ∨ a + 58 ≤ k) M33 M34 := fr_mo f34 (fun k q => Or.inr (by have q : k = a + 58 ∨ a + 58 < k := q; omega))
  have r0 := (g33 (a + 24) (fun z => by have z : a + 24 = a ∨ a + 58 ≤ a + 24 := z; omega)).trans r0
  have r0 := (g34 (a + 24) (fun z => by have z : a + 24 = a ∨ a + 58 ≤ a + 24 := z; omega)).trans r0
  refine jr_aast (pc := 108) h dX7_init_108 r0 (by omega) c34.2.1 (by omega) (by omega) ?_
  refine jm_gen (fun M35 h35 => ?_)
  have o35 := (congrFun h35 a).trans ((up_ne (by omega)).trans o34)
  have r0 : M35 (a + 24) = jdR 4 4 (up (up (up (up (fun _ => none) 0 (some (a + 43))) 1 (some (a + 48))) 2 (some (a + 53))) 3 (some (a + 58))) := (congrFun h35 (a + 24)).trans up_eq
  have g35 : fr (fun k => k = a ∨ k = a + 24) M34 M35 := fr_up h35 (Or.inr rfl)
  refine jr_iinc (pc := 109) h [_, _] dX7_init_109 (by decide) rfl rfl ?_
  rw [show ((3 : Int) + 1) = 4 from rfl]
  refine jr_goto (pc := 112) h 91 dX7_init_112 (by decide) ?_
  refine jr_iload_n (pc := 91) h dX7_init_91 rfl ?_
  refine jr_iconst (pc := 92) h dX7_init_92 ?_
  refine jr_icmp_ge (pc := 93) h 115 dX7_init_93 (by decide) (by omega) (by omega) (fun _ => ?_) (fun c => absurd c (by omega))
  refine jr_same (k := a) (F' := fX7 a (a + 7) (a + 13) (fun _ => 0)) o35 (fun j hj => match j, hj with
    | 0, _ => rfl
    | 1, _ => rfl
    | 2, _ => rfl
    | 3, _ => rfl
    | 4, _ => rfl
    | 5, _ => rfl
    | 6, _ => rfl
    | 7, _ => rfl
    | 8, _ => rfl
    | 9, _ => rfl
    | 10, _ => rfl
    | 11, _ => rfl
    | 12, _ => rfl
    | q + 13, hq => absurd hq (Nat.not_lt.mpr (Nat.le_add_left 13 q))) ?_
  refine jm_gen (fun Mz hz => ?_)
  have oz := (congrFun hz a).trans up_eq
  have gz : fr (fun k => k = a) M35 Mz := fr_up hz rfl
  have r0 := (gz (a + 24) (fun z => by have z : a + 24 = a := z; omega)).trans r0
  have c2 := c2
  have G : fr (fun k => k = a ∨ k = a + 24 ∨ a + 7 ≤ k) M2 M2 := fr_rf
  have G := fr_tr G (fr_mo g3 (fun k z => z.elim Or.inl (fun z => Or.inr (Or.inr (by omega)))))
  have G := fr_tr G (fr_mo g4 (fun k z => z.elim Or.inl (fun z => Or.inr (Or.inr (by omega)))))
  have G := fr_tr G (fr_mo g5 (fun k z => z.elim Or.inl (fun z => Or.inr (Or.inr (by omega)))))
  have G := fr_tr G (fr_mo g6 (fun k z => z.elim Or.inl (fun z => Or.inr (Or.inr (by omega)))))
  have G := fr_tr G (fr_mo g7 (fun k z => z.elim Or.inl (fun z => Or.inr (Or.inr (by omega)))))
  have G := fr_tr G (fr_mo g8 (fun k z => z.elim Or.inl (fun z => Or.inr (Or.inr (by omega)))))
  have G := fr_tr G (fr_mo g9 (fun k z => z.elim Or.inl (fun z => Or.inr (Or.inr (by omega)))))
  have G := fr_tr G (fr_mo g10 (fun k z => z.elim Or.inl (fun z => Or.inr (Or.inr (by omega)))))
  have G := fr_tr G (fr_mo g11 (fun k z => z.elim Or.inl (fun z => Or.inr (Or.inr (by omega)))))
  have G := fr_tr G (fr_mo g12 (fun k z => z.elim Or.inl (fun z => Or.inr (Or.inr (by omega)))))
  have G := fr_tr G (fr_mo g13 (fun k z => z.elim Or.inl (fun z => Or.inr (Or.inr (by omega)))))
  have G := fr_tr G (fr_mo g14 (fun k z => z.elim Or.inl (fun z => Or.inr (Or.inr (by omega)))))
  have G := fr_tr G (fr_mo g15 (fun k z => z.elim Or.inl (fun z => Or.inr (Or.inr (by omega)))))
  have G := fr_tr G (fr_mo g16 (fun k z => z.elim Or.inl (fun z => Or.inr (Or.inr (by omega)))))
  have G := fr_tr G (fr_mo g17 (fun k z => z.elim Or.inl (fun z => Or.inr (Or.inr (by omega)))))
  have G := fr_tr G (fr_mo g18 (fun k z => z.elim Or.inl (fun z => Or.inr (Or.inr (by omega)))))
  have G := fr_tr G (fr_mo g19 (fun k z => z.elim Or.inl (fun z => Or.inr (Or.inr (by omega)))))
  have G := fr_tr G (fr_mo g20 (fun k z => z.elim Or.inl (fun z => Or.inr (Or.inr (by omega)))))
  have G := fr_tr G (fr_mo g21 (fun k z => z.elim Or.inl (fun z => Or.inr (Or.inr (by omega)))))
  have G := fr_tr G (fr_mo g22 (fun k z => z.elim Or.inl (fun z => Or.inr (Or.inr (by omega)))))
  have G := fr_tr G (fr_mo g23 (fun k z => z.elim Or.inl (fun z => Or.inr (Or.inr (by omega)))))
  have G := fr_tr G (fr_mo g24 (fun k z => z.elim Or.inl (fun z => Or.inr (Or.inr (by omega)))))
  have G := fr_tr G (fr_mo g25 (fun k z => z.elim Or.inl (fun z => Or.inr (Or.inr (by omega)))))
  have G := fr_tr G (fr_mo g26 (fun k z => z.elim Or.inl (fun z => Or.inr (Or.inl z))))
  have G := fr_tr G (fr_mo g27 (fun k z => z.elim Or.inl (fun z => Or.inr (Or.inr (by omega)))))
  have G := fr_tr G (fr_mo g28 (fun k z => z.elim Or.inl (fun z => Or.inr (Or.inr (by omega)))))
  have G := fr_tr G (fr_mo g29 (fun k z => z.elim Or.inl (fun z => Or.inr (Or.inl z))))
  have G := fr_tr G (fr_mo g30 (fun k z => z.elim Or.inl (fun z => Or.inr (Or.inr (by omega)))))
  have G := fr_tr G (fr_mo g31 (fun k z => z.elim Or.inl (fun z => Or.inr (Or.inr (by omega)))))
  have G := fr_tr G (fr_mo g32 (fun k z => z.elim Or.inl (fun z => Or.inr (Or.inl z))))
  have G := fr_tr G (fr_mo g33 (fun k z => z.elim Or.inl (fun z => Or.inr (Or.inr (by omega)))))
  have G := fr_tr G (fr_mo g34 (fun k z => z.elim Or.inl (fun z => Or.inr (Or.inr (by omega)))))
  have G := fr_tr G (fr_mo g35 (fun k z => z.elim Or.inl (fun z => Or.inr (Or.inl z))))
  have G := fr_tr G (fr_mo gz (fun k z => Or.inl z))
  have d2 := Te_fr (n1 := a + 63) c2 G (by omega) (fun k h1 h2 z => by have z : k = a ∨ k = a + 24 ∨ a + 7 ≤ k := z; omega) (fun z => by have z : a + 1 = a ∨ a + 1 = a + 24 ∨ a + 7 ≤ a + 1 := z; omega)
  have c5 := c5
  have G : fr (fun k => k = a ∨ k = a + 24 ∨ a + 13 ≤ k) M5 M5 := fr_rf
  have G := fr_tr G (fr_mo g6 (fun k z => z.elim Or.inl (fun z => Or.inr (Or.inr (by omega)))))
  have G := fr_tr G (fr_mo g7 (fun k z => z.elim Or.inl (fun z => Or.inr (Or.inr (by omega)))))
  have G := fr_tr G (fr_mo g8 (fun k z => z.elim Or.inl (fun z => Or.inr (Or.inr (by omega)))))
  have G := fr_tr G (fr_mo g9 (fun k z => z.elim Or.inl (fun z => Or.inr (Or.inr (by omega)))))
  have G := fr_tr G (fr_mo g10 (fun k z => z.elim Or.inl (fun z => Or.inr (Or.inr (by omega)))))
  have G := fr_tr G (fr_mo g11 (fun k z => z.elim Or.inl (fun z => Or.inr (Or.inr (by omega)))))
  have G := fr_tr G (fr_mo g12 (fun k z => z.elim Or.inl (fun z => Or.inr (Or.inr (by omega)))))
  have G := fr_tr G (fr_mo g13 (fun k z => z.elim Or.inl (fun z => Or.inr (Or.inr (by omega)))))
  have G := fr_tr G (fr_mo g14 (fun k z => z.elim Or.inl (fun z => Or.inr (Or.inr (by omega)))))
  have G := fr_tr G (fr_mo g15 (fun k z => z.elim Or.inl (fun z => Or.inr (Or.inr (by omega)))))
  have G := fr_tr G (fr_mo g16 (fun k z => z.elim Or.inl (fun z => Or.inr (Or.inr (by omega)))))
  have G := fr_tr G (fr_mo g17 (fun k z => z.elim Or.inl (fun z => Or.inr (Or.inr (by omega)))))
  have G := fr_tr G (fr_mo g18 (fun k z => z.elim Or.inl (fun z => Or.inr (Or.inr (by omega)))))
  have G := fr_tr G (fr_mo g19 (fun k z => z.elim Or.inl (fun z => Or.inr (Or.inr (by omega)))))
  have G := fr_tr G (fr_mo g20 (fun k z => z.elim Or.inl (fun z => Or.inr (Or.inr (by omega)))))
  have G := fr_tr G (fr_mo g21 (fun k z => z.elim Or.inl (fun z => Or.inr (Or.inr (by omega)))))
  have G := fr_tr G (fr_mo g22 (fun k z => z.elim Or.inl (fun z => Or.inr (Or.inr (by omega)))))
  have G := fr_tr G (fr_mo g23 (fun k z => z.elim Or.inl (fun z => Or.inr (Or.inr (by omega)))))
  have G := fr_tr G (fr_mo g24 (fun k z => z.elim Or.inl (fun z => Or.inr (Or.inr (by omega)))))
  have G := fr_tr G (fr_mo g25 (fun k z => z.elim Or.inl (fun z => Or.inr (Or.inr (by omega)))))
  have G := fr_tr G (fr_mo g26 (fun k z => z.elim Or.inl (fun z => Or.inr (Or.inl z))))
  have G := fr_tr G (fr_mo g27 (fun k z => z.elim Or.inl (fun z => Or.inr (Or.inr (by omega)))))
  have G := fr_tr G (fr_mo g28 (fun k z => z.elim Or.inl (fun z => Or.inr (Or.inr (by omega)))))
  have G := fr_tr G (fr_mo g29 (fun k z => z.elim Or.inl (fun z => Or.inr (Or.inl z))))
  have G := fr_tr G (fr_mo g30 (fun k z => z.elim Or.inl (fun z => Or.inr (Or.inr (by omega)))))
  have G := fr_tr G (fr_mo g31 (fun k z => z.elim Or.inl (fun z => Or.inr (Or.inr (by omega)))))
  have G := fr_tr G (fr_mo g32 (fun k z => z.elim Or.inl (fun z => Or.inr (Or.inl z))))
  have G := fr_tr G (fr_mo g33 (fun k z => z.elim Or.inl (fun z => Or.inr (Or.inr (by omega)))))
  have G := fr_tr G (fr_mo g34 (fun k z => z.elim Or.inl (fun z => Or.inr (Or.inr (by omega)))))
  have G := fr_tr G (fr_mo g35 (fun k z => z.elim Or.inl (fun z => Or.inr (Or.inl z))))
  have G := fr_tr G (fr_mo gz (fun k z => Or.inl z))
  have d5 := Fl_fr (n1 := a + 63) c5 G (by omega) (fun k h1 h2 z => by have z : k = a ∨ k = a + 24 ∨ a + 13 ≤ k := z; omega)
  have c8 := c8
  have G : fr (fun k => k = a ∨ k = a + 24 ∨ a + 19 ≤ k) M8 M8 := fr_rf
  have G := fr_tr G (fr_mo g9 (fun k z => z.elim Or.inl (fun z => Or.inr (Or.inr (by omega)))))
  have G := fr_tr G (fr_mo g10 (fun k z => z.elim Or.inl (fun z => Or.inr (Or.inr (by omega)))))
  have G := fr_tr G (fr_mo g11 (fun k z => z.elim Or.inl (fun z => Or.inr (Or.inr (by omega)))))
  have G := fr_tr G (fr_mo g12 (fun k z => z.elim Or.inl (fun z => Or.inr (Or.inr (by omega)))))
  have G := fr_tr G (fr_mo g13 (fun k z => z.elim Or.inl (fun z => Or.inr (Or.inr (by omega)))))
  have G := fr_tr G (fr_mo g14 (fun k z => z.elim Or.inl (fun z => Or.inr (Or.inr (by omega)))))
  have G := fr_tr G (fr_mo g15 (fun k z => z.elim Or.inl (fun z => Or.inr (Or.inr (by omega)))))
  have G := fr_tr G (fr_mo g16 (fun k z => z.elim Or.inl (fun z => Or.inr (Or.inr (by omega)))))
  have G := fr_tr G (fr_mo g17 (fun k z => z.elim Or.inl (fun z => Or.inr (Or.inr (by omega)))))
  have G := fr_tr G (fr_mo g18 (fun k z => z.elim Or.inl (fun z => Or.inr (Or.inr (by omega)))))
  have G := fr_tr G (fr_mo g19 (fun k z => z.elim Or.inl (fun z => Or.inr (Or.inr (by omega)))))
  have G := fr_tr G (fr_mo g20 (fun k z => z.elim Or.inl (fun z => Or.inr (Or.inr (by omega)))))
  have G := fr_tr G (fr_mo g21 (fun k z => z.elim Or.inl (fun z => Or.inr (Or.inr (by omega)))))
  have G := fr_tr G (fr_mo g22 (fun k z => z.elim Or.inl (fun z => Or.inr (Or.inr (by omega)))))
  have G := fr_tr G (fr_mo g23 (fun k z => z.elim Or.inl (fun z => Or.inr (Or.inr (by omega)))))
  have G := fr_tr G (fr_mo g24 (fun k z => z.elim Or.inl (fun z => Or.inr (Or.inr (by omega)))))
  have G := fr_tr G (fr_mo g25 (fun k z => z.elim Or.inl (fun z => Or.inr (Or.inr (by omega)))))
  have G := fr_tr G (fr_mo g26 (fun k z => z.elim Or.inl (fun z => Or.inr (Or.inl z))))
  have G := fr_tr G (fr_mo g27 (fun k z => z.elim Or.inl (fun z => Or.inr (Or.inr (by omega)))))
  have G := fr_tr G (fr_mo g28 (fun k z => z.elim Or.inl (fun z => Or.inr (Or.inr (by omega)))))
  have G := fr_tr G (fr_mo g29 (fun k z => z.elim Or.inl (fun z => Or.inr (Or.inl z))))
  have G := fr_tr G (fr_mo g30 (fun k z => z.elim Or.inl (fun z => Or.inr (Or.inr (by omega)))))
  have G := fr_tr G (fr_mo g31 (fun k z => z.elim Or.inl (fun z => Or.inr (Or.inr (by omega)))))
  have G := fr_tr G (fr_mo g32 (fun k z => z.elim Or.inl (fun z => Or.inr (Or.inl z))))
  have G := fr_tr G (fr_mo g33 (fun k z => z.elim Or.inl (fun z => Or.inr (Or.inr (by omega)))))
  have G := fr_tr G (fr_mo g34 (fun k z => z.elim Or.inl (fun z => Or.inr (Or.inr (by omega)))))
  have G := fr_tr G (fr_mo g35 (fun k z => z.elim Or.inl (fun z => Or.inr (Or.inl z))))
  have G := fr_tr G (fr_mo gz (fun k z => Or.inl z))
  have d8 := Fl_fr (n1 := a + 63) c8 G (by omega) (fun k h1 h2 z => by have z : k = a ∨ k = a + 24 ∨ a + 19 ≤ k := z; omega)
  have c11 := c11
  have G : fr (fun k => k = a ∨ k = a + 24 ∨ a + 24 ≤ k) M11 M11 := fr_rf
  have G := fr_tr G (fr_mo g12 (fun k z => z.elim Or.inl (fun z => Or.inr (Or.inr (by omega)))))
  have G := fr_tr G (fr_mo g13 (fun k z => z.elim Or.inl (fun z => Or.inr (Or.inr (by omega)))))
  have G := fr_tr G (fr_mo g14 (fun k z => z.elim Or.inl (fun z => Or.inr (Or.inr (by omega)))))
  have G := fr_tr G (fr_mo g15 (fun k z => z.elim Or.inl (fun z => Or.inr (Or.inr (by omega)))))
  have G := fr_tr G (fr_mo g16 (fun k z => z.elim Or.inl (fun z => Or.inr (Or.inr (by omega)))))
  have G := fr_tr G (fr_mo g17 (fun k z => z.elim Or.inl (fun z => Or.inr (Or.inr (by omega)))))
  have G := fr_tr G (fr_mo g18 (fun k z => z.elim Or.inl (fun z => Or.inr (Or.inr (by omega)))))
  have G := fr_tr G (fr_mo g19 (fun k z => z.elim Or.inl (fun z => Or.inr (Or.inr (by omega)))))
  have G := fr_tr G (fr_mo g20 (fun k z => z.elim Or.inl (fun z => Or.inr (Or.inr (by omega)))))
  have G := fr_tr G (fr_mo g21 (fun k z => z.elim Or.inl (fun z => Or.inr (Or.inr (by omega)))))
  have G := fr_tr G (fr_mo g22 (fun k z => z.elim Or.inl (fun z => Or.inr (Or.inr (by omega)))))
  have G := fr_tr G (fr_mo g23 (fun k z => z.elim Or.inl (fun z => Or.inr (Or.inr (by omega)))))
  have G := fr_tr G (fr_mo g24 (fun k z => z.elim Or.inl (fun z => Or.inr (Or.inr (by omega)))))
  have G := fr_tr G (fr_mo g25 (fun k z => z.elim Or.inl (fun z => Or.inr (Or.inr (by omega)))))
  have G := fr_tr G (fr_mo g26 (fun k z => z.elim Or.inl (fun z => Or.inr (Or.inl z))))
  have G := fr_tr G (fr_mo g27 (fun k z => z.elim Or.inl (fun z => Or.inr (Or.inr (by omega)))))
  have G := fr_tr G (fr_mo g28 (fun k z => z.elim Or.inl (fun z => Or.inr (Or.inr (by omega)))))
  have G := fr_tr G (fr_mo g29 (fun k z => z.elim Or.inl (fun z => Or.inr (Or.inl z))))
  have G := fr_tr G (fr_mo g30 (fun k z => z.elim Or.inl (fun z => Or.inr (Or.inr (by omega)))))
  have G := fr_tr G (fr_mo g31 (fun k z => z.elim Or.inl (fun z => Or.inr (Or.inr (by omega)))))
  have G := fr_tr G (fr_mo g32 (fun k z => z.elim Or.inl (fun z => Or.inr (Or.inl z))))
  have G := fr_tr G (fr_mo g33 (fun k z => z.elim Or.inl (fun z => Or.inr (Or.inr (by omega)))))
  have G := fr_tr G (fr_mo g34 (fun k z => z.elim Or.inl (fun z => Or.inr (Or.inr (by omega)))))
  have G := fr_tr G (fr_mo g35 (fun k z => z.elim Or.inl (fun z => Or.inr (Or.inl z))))
  have G := fr_tr G (fr_mo gz (fun k z => Or.inl z))
  have d11 := Rn_fr (n1 := a + 63) c11 G (by omega) (fun k h1 h2 z => by have z : k = a ∨ k = a + 24 ∨ a + 24 ≤ k := z; omega)
  have c16 := c16
  have G : fr (fun k => k = a ∨ k = a + 24 ∨ a + 29 ≤ k) M16 M16 := fr_rf
  have G := fr_tr G (fr_mo g17 (fun k z => z.elim Or.inl (fun z => Or.inr (Or.inr (by omega)))))
  have G := fr_tr G (fr_mo g18 (fun k z => z.elim Or.inl (fun z => Or.inr (Or.inr (by omega)))))
  have G := fr_tr G (fr_mo g19 (fun k z => z.elim Or.inl (fun z => Or.inr (Or.inr (by omega)))))
  have G := fr_tr G (fr_mo g20 (fun k z => z.elim Or.inl (fun z => Or.inr (Or.inr (by omega)))))
  have G := fr_tr G (fr_mo g21 (fun k z => z.elim Or.inl (fun z => Or.inr (Or.inr (by omega)))))
  have G := fr_tr G (fr_mo g22 (fun k z => z.elim Or.inl (fun z => Or.inr (Or.inr (by omega)))))
  have G := fr_tr G (fr_mo g23 (fun k z => z.elim Or.inl (fun z => Or.inr (Or.inr (by omega)))))
  have G := fr_tr G (fr_mo g24 (fun k z => z.elim Or.inl (fun z => Or.inr (Or.inr (by omega)))))
  have G := fr_tr G (fr_mo g25 (fun k z => z.elim Or.inl (fun z => Or.inr (Or.inr (by omega)))))
  have G := fr_tr G (fr_mo g26 (fun k z => z.elim Or.inl (fun z => Or.inr (Or.inl z))))
  have G := fr_tr G (fr_mo g27 (fun k z => z.elim Or.inl (fun z => Or.inr (Or.inr (by omega)))))
  have G := fr_tr G (fr_mo g28 (fun k z => z.elim Or.inl (fun z => Or.inr (Or.inr (by omega)))))
  have G := fr_tr G (fr_mo g29 (fun k z => z.elim Or.inl (fun z => Or.inr (Or.inl z))))
  have G := fr_tr G (fr_mo g30 (fun k z => z.elim Or.inl (fun z => Or.inr (Or.inr (by omega)))))
  have G := fr_tr G (fr_mo g31 (fun k z => z.elim Or.inl (fun z => Or.inr (Or.inr (by omega)))))
  have G := fr_tr G (fr_mo g32 (fun k z => z.elim Or.inl (fun z => Or.inr (Or.inl z))))
  have G := fr_tr G (fr_mo g33 (fun k z => z.elim Or.inl (fun z => Or.inr (Or.inr (by omega)))))
  have G := fr_tr G (fr_mo g34 (fun k z => z.elim Or.inl (fun z => Or.inr (Or.inr (by omega)))))
  have G := fr_tr G (fr_mo g35 (fun k z => z.elim Or.inl (fun z => Or.inr (Or.inl z))))
  have G := fr_tr G (fr_mo gz (fun k z => Or.inl z))
  have d16 := Dr_fr (n1 := a + 63) c16 G (by omega) (fun k h1 h2 z => by have z : k = a ∨ k = a + 24 ∨ a + 29 ≤ k := z; omega)
  have c19 := c19
  have G : fr (fun k => k = a ∨ k = a + 24 ∨ a + 31 ≤ k) M19 M19 := fr_rf
  have G := fr_tr G (fr_mo g20 (fun k z => z.elim Or.inl (fun z => Or.inr (Or.inr (by omega)))))
  have G := fr_tr G (fr_mo g21 (fun k z => z.elim Or.inl (fun z => Or.inr (Or.inr (by omega)))))
  have G := fr_tr G (fr_mo g22 (fun k z => z.elim Or.inl (fun z => Or.inr (Or.inr (by omega)))))
  have G := fr_tr G (fr_mo g23 (fun k z => z.elim Or.inl (fun z => Or.inr (Or.inr (by omega)))))
  have G := fr_tr G (fr_mo g24 (fun k z => z.elim Or.inl (fun z => Or.inr (Or.inr (by omega)))))
  have G := fr_tr G (fr_mo g25 (fun k z => z.elim Or.inl (fun z => Or.inr (Or.inr (by omega)))))
  have G := fr_tr G (fr_mo g26 (fun k z => z.elim Or.inl (fun z => Or.inr (Or.inl z))))
  have G := fr_tr G (fr_mo g27 (fun k z => z.elim Or.inl (fun z => Or.inr (Or.inr (by omega)))))
  have G := fr_tr G (fr_mo g28 (fun k z => z.elim Or.inl (fun z => Or.inr (Or.inr (by omega)))))
  have G := fr_tr G (fr_mo g29 (fun k z => z.elim Or.inl (fun z => Or.inr (Or.inl z))))
  have G := fr_tr G (fr_mo g30 (fun k z => z.elim Or.inl (fun z => Or.inr (Or.inr (by omega)))))
  have G := fr_tr G (fr_mo g31 (fun k z => z.elim Or.inl (fun z => Or.inr (Or.inr (by omega)))))
  have G := fr_tr G (fr_mo g32 (fun k z => z.elim Or.inl (fun z => Or.inr (Or.inl z))))
  have G := fr_tr G (fr_mo g33 (fun k z => z.elim Or.inl (fun z => Or.inr (Or.inr (by omega)))))
  have G := fr_tr G (fr_mo g34 (fun k z => z.elim Or.inl (fun z => Or.inr (Or.inr (by omega)))))
  have G := fr_tr G (fr_mo g35 (fun k z => z.elim Or.inl (fun z => Or.inr (Or.inl z))))
  have G := fr_tr G (fr_mo gz (fun k z => Or.inl z))
  have d19 := Od_fr (n1 := a + 63) c19 G (by omega) (fun k h1 h2 z => by have z : k = a ∨ k = a + 24 ∨ a + 31 ≤ k := z; omega)
  have c22 := c22
  have G : fr (fun k => k = a ∨ k = a + 24 ∨ a + 43 ≤ k) M22 M22 := fr_rf
  have G := fr_tr G (fr_mo g23 (fun k z => z.elim Or.inl (fun z => Or.inr (Or.inr (by omega)))))
  have G := fr_tr G (fr_mo g24 (fun k z => z.elim Or.inl (fun z => Or.inr (Or.inr (by omega)))))
  have G := fr_tr G (fr_mo g25 (fun k z => z.elim Or.inl (fun z => Or.inr (Or.inr (by omega)))))
  have G := fr_tr G (fr_mo g26 (fun k z => z.elim Or.inl (fun z => Or.inr (Or.inl z))))
  have G := fr_tr G (fr_mo g27 (fun k z => z.elim Or.inl (fun z => Or.inr (Or.inr (by omega)))))
  have G := fr_tr G (fr_mo g28 (fun k z => z.elim Or.inl (fun z => Or.inr (Or.inr (by omega)))))
  have G := fr_tr G (fr_mo g29 (fun k z => z.elim Or.inl (fun z => Or.inr (Or.inl z))))
  have G := fr_tr G (fr_mo g30 (fun k z => z.elim Or.inl (fun z => Or.inr (Or.inr (by omega)))))
  have G := fr_tr G (fr_mo g31 (fun k z => z.elim Or.inl (fun z => Or.inr (Or.inr (by omega)))))
  have G := fr_tr G (fr_mo g32 (fun k z => z.elim Or.inl (fun z => Or.inr (Or.inl z))))
  have G := fr_tr G (fr_mo g33 (fun k z => z.elim Or.inl (fun z => Or.inr (Or.inr (by omega)))))
  have G := fr_tr G (fr_mo g34 (fun k z => z.elim Or.inl (fun z => Or.inr (Or.inr (by omega)))))
  have G := fr_tr G (fr_mo g35 (fun k z => z.elim Or.inl (fun z => Or.inr (Or.inl z))))
  have G := fr_tr G (fr_mo gz (fun k z => Or.inl z))
  have d22 := Ti_fr (n1 := a + 63) c22 G (by omega) (fun k h1 h2 z => by have z : k = a ∨ k = a + 24 ∨ a + 43 ≤ k := z; omega)
  have c25 := c25
  have G : fr (fun k => k = a ∨ k = a + 24 ∨ a + 48 ≤ k) M25 M25 := fr_rf
  have G := fr_tr G (fr_mo g26 (fun k z => z.elim Or.inl (fun z => Or.inr (Or.inl z))))
  have G := fr_tr G (fr_mo g27 (fun k z => z.elim Or.inl (fun z => Or.inr (Or.inr (by omega)))))
  have G := fr_tr G (fr_mo g28 (fun k z => z.elim Or.inl (fun z => Or.inr (Or.inr (by omega)))))
  have G := fr_tr G (fr_mo g29 (fun k z => z.elim Or.inl (fun z => Or.inr (Or.inl z))))
  have G := fr_tr G (fr_mo g30 (fun k z => z.elim Or.inl (fun z => Or.inr (Or.inr (by omega)))))
  have G := fr_tr G (fr_mo g31 (fun k z => z.elim Or.inl (fun z => Or.inr (Or.inr (by omega)))))
  have G := fr_tr G (fr_mo g32 (fun k z => z.elim Or.inl (fun z => Or.inr (Or.inl z))))
  have G := fr_tr G (fr_mo g33 (fun k z => z.elim Or.inl (fun z => Or.inr (Or.inr (by omega)))))
  have G := fr_tr G (fr_mo g34 (fun k z => z.elim Or.inl (fun z => Or.inr (Or.inr (by omega)))))
  have G := fr_tr G (fr_mo g35 (fun k z => z.elim Or.inl (fun z => Or.inr (Or.inl z))))
  have G := fr_tr G (fr_mo gz (fun k z => Or.inl z))
  have d25 := Rn_fr (n1 := a + 63) c25 G (by omega) (fun k h1 h2 z => by have z : k = a ∨ k = a + 24 ∨ a + 48 ≤ k := z; omega)
  have c28 := c28
  have G : fr (fun k => k = a ∨ k = a + 24 ∨ a + 53 ≤ k) M28 M28 := fr_rf
  have G := fr_tr G (fr_mo g29 (fun k z => z.elim Or.inl (fun z => Or.inr (Or.inl z))))
  have G := fr_tr G (fr_mo g30 (fun k z => z.elim Or.inl (fun z => Or.inr (Or.inr (by omega)))))
  have G := fr_tr G (fr_mo g31 (fun k z => z.elim Or.inl (fun z => Or.inr (Or.inr (by omega)))))
  have G := fr_tr G (fr_mo g32 (fun k z => z.elim Or.inl (fun z => Or.inr (Or.inl z))))
  have G := fr_tr G (fr_mo g33 (fun k z => z.elim Or.inl (fun z => Or.inr (Or.inr (by omega)))))
  have G := fr_tr G (fr_mo g34 (fun k z => z.elim Or.inl (fun z => Or.inr (Or.inr (by omega)))))
  have G := fr_tr G (fr_mo g35 (fun k z => z.elim Or.inl (fun z => Or.inr (Or.inl z))))
  have G := fr_tr G (fr_mo gz (fun k z => Or.inl z))
  have d28 := Rn_fr (n1 := a + 63) c28 G (by omega) (fun k h1 h2 z => by have z : k = a ∨ k = a + 24 ∨ a + 53 ≤ k := z; omega)
  have c31 := c31
  have G : fr (fun k => k = a ∨ k = a + 24 ∨ a + 58 ≤ k) M31 M31 := fr_rf
  have G := fr_tr G (fr_mo g32 (fun k z => z.elim Or.inl (fun z => Or.inr (Or.inl z))))
  have G := fr_tr G (fr_mo g33 (fun k z => z.elim Or.inl (fun z => Or.inr (Or.inr (by omega)))))
  have G := fr_tr G (fr_mo g34 (fun k z => z.elim Or.inl (fun z => Or.inr (Or.inr (by omega)))))
  have G := fr_tr G (fr_mo g35 (fun k z => z.elim Or.inl (fun z => Or.inr (Or.inl z))))
  have G := fr_tr G (fr_mo gz (fun k z => Or.inl z))
  have d31 := Rn_fr (n1 := a + 63) c31 G (by omega) (fun k h1 h2 z => by have z : k = a ∨ k = a + 24 ∨ a + 58 ≤ k := z; omega)
  have c34 := c34
  have G : fr (fun k => k = a ∨ k = a + 24 ∨ a + 63 ≤ k) M34 M34 := fr_rf
  have G := fr_tr G (fr_mo g35 (fun k z => z.elim Or.inl (fun z => Or.inr (Or.inl z))))
  have G := fr_tr G (fr_mo gz (fun k z => Or.inl z))
  have d34 := Rn_fr (n1 := a + 63) c34 G (by omega) (fun k h1 h2 z => by have z : k = a ∨ k = a + 24 ∨ a + 63 ≤ k := z; omega)
  have G : fr (fun k => k = a ∨ a < k) M M := fr_rf
  have G := fr_tr G (fr_mo g1 (fun k z => z.elim Or.inl (fun z => Or.inr (by omega))))
  have G := fr_tr G (fr_mo g2 (fun k z => z.elim Or.inl (fun z => Or.inr (by omega))))
  have G := fr_tr G (fr_mo g3 (fun k z => z.elim Or.inl (fun z => Or.inr (by omega))))
  have G := fr_tr G (fr_mo g4 (fun k z => z.elim Or.inl (fun z => Or.inr (by omega))))
  have G := fr_tr G (fr_mo g5 (fun k z => z.elim Or.inl (fun z => Or.inr (by omega))))
  have G := fr_tr G (fr_mo g6 (fun k z => z.elim Or.inl (fun z => Or.inr (by omega))))
  have G := fr_tr G (fr_mo g7 (fun k z => z.elim Or.inl (fun z => Or.inr (by omega))))
  have G := fr_tr G (fr_mo g8 (fun k z => z.elim Or.inl (fun z => Or.inr (by omega))))
  have G := fr_tr G (fr_mo g9 (fun k z => z.elim Or.inl (fun z => Or.inr (by omega))))
  have G := fr_tr G (fr_mo g10 (fun k z => z.elim Or.inl (fun z => Or.inr (by omega))))
  have G := fr_tr G (fr_mo g11 (fun k z => z.elim Or.inl (fun z => Or.inr (by omega))))
  have G := fr_tr G (fr_mo g12 (fun k z => z.elim Or.inl (fun z => Or.inr (by omega))))
  have G := fr_tr G (fr_mo g13 (fun k z => z.elim Or.inl (fun z => Or.inr (by omega))))
  have G := fr_tr G (fr_mo g14 (fun k z => z.elim Or.inl (fun z => Or.inr (by omega))))
  have G := fr_tr G (fr_mo g15 (fun k z => z.elim Or.inl (fun z => Or.inr (by omega))))
  have G := fr_tr G (fr_mo g16 (fun k z => z.elim Or.inl (fun z => Or.inr (by omega))))
  have G := fr_tr G (fr_mo g17 (fun k z => z.elim Or.inl (fun z => Or.inr (by omega))))
  have G := fr_tr G (fr_mo g18 (fun k z => z.elim Or.inl (fun z => Or.inr (by omega))))
  have G := fr_tr G (fr_mo g19 (fun k z => z.elim Or.inl (fun z => Or.inr (by omega))))
  have G := fr_tr G (fr_mo g20 (fun k z => z.elim Or.inl (fun z => Or.inr (by omega))))
  have G := fr_tr G (fr_mo g21 (fun k z => z.elim Or.inl (fun z => Or.inr (by omega))))
  have G := fr_tr G (fr_mo g22 (fun k z => z.elim Or.inl (fun z => Or.inr (by omega))))
  have G := fr_tr G (fr_mo g23 (fun k z => z.elim Or.inl (fun z => Or.inr (by omega))))
  have G := fr_tr G (fr_mo g24 (fun k z => z.elim Or.inl (fun z => Or.inr (by omega))))
  have G := fr_tr G (fr_mo g25 (fun k z => z.elim Or.inl (fun z => Or.inr (by omega))))
  have G := fr_tr G (fr_mo g26 (fun k z => z.elim Or.inl (fun z => Or.inr (by omega))))
  have G := fr_tr G (fr_mo g27 (fun k z => z.elim Or.inl (fun z => Or.inr (by omega))))
  have G := fr_tr G (fr_mo g28 (fun k z => z.elim Or.inl (fun z => Or.inr (by omega))))
  have G := fr_tr G (fr_mo g29 (fun k z => z.elim Or.inl (fun z => Or.inr (by omega))))
  have G := fr_tr G (fr_mo g30 (fun k z => z.elim Or.inl (fun z => Or.inr (by omega))))
  have G := fr_tr G (fr_mo g31 (fun k z => z.elim Or.inl (fun z => Or.inr (by omega))))
  have G := fr_tr G (fr_mo g32 (fun k z => z.elim Or.inl (fun z => Or.inr (by omega))))
  have G := fr_tr G (fr_mo g33 (fun k z => z.elim Or.inl (fun z => Or.inr (by omega))))
  have G := fr_tr G (fr_mo g34 (fun k z => z.elim Or.inl (fun z => Or.inr (by omega))))
  have G := fr_tr G (fr_mo g35 (fun k z => z.elim Or.inl (fun z => Or.inr (by omega))))
  have G := fr_tr G (fr_mo gz (fun k z => Or.inl z))
  refine jr_vret (pc := 115) h hRt dX7_init_115 (Nat.le_of_ble_eq_true rfl) (Nat.le_of_ble_eq_true rfl) ?_
  refine ⟨⟨rfl, rfl⟩, ⟨Nat.le_refl _, Or.inl ⟨rfl, rfl⟩, oz, d2, d5, d8, d11, ?_, fun i hi => ?_, ⟨_, _, _, _, d16, fun _ => ⟨Int.le_refl _, (by decide : (0 : Int) ≤ 24)⟩, fun _ => ⟨Int.le_refl _, (by decide : (0 : Int) ≤ 1000000)⟩⟩, ⟨_, _, d19⟩, ⟨_, _, d22⟩⟩, G⟩
  · have e9 : (up (up (up (up (fun _ => none) 0 (some (a + 43))) 1 (some (a + 48))) 2 (some (a + 53))) 3 (some (a + 58))) = mkR a := by
      funext j
      match j with
      | 0 => rfl
      | 1 => rfl
      | 2 => rfl
      | 3 => rfl
      | j + 4 =>
        rw [up_ne (by omega), up_ne (by omega), up_ne (by omega), up_ne (by omega)]
        unfold mkR
        rw [if_neg (by omega)]
    rw [← e9]
    exact r0
  · match i, hi with
    | 0, _ => exact d25
    | 1, _ => exact d28
    | 2, _ => exact d31
    | 3, _ => exact d34
