/-! 50: the class: the till, the run, marks, the tape -/
def y_mark (ct td g : Nat → Int) (mk : Nat → FS) (Rr : FS) : Int × (Nat → Int) × (Nat → FS) := if 0 < c_rows ct td then (if 4 ≤ g 6 then (-1, up g 10 3, mk) else (g 6, up (up g 6 (g 6 + 1)) 10 0, up mk (g 6).toNat (cpR (mk (g 6).toNat) Rr))) else (-1, up g 10 1, mk)
theorem lfM {M M' : jdM} {n a cu dr : Nat} {g1 bs : Nat → Int} {p : TS} {F D Rr : FS} {mk : Nat → FS} {tg tk tr : Nat → Int} {r : Int × (Nat → Int) × (Nat → FS)} {v : Int} (e : r = (v, g1, mk)) (hS : SXc M' n a cu dr (g1, bs, p, F, D, Rr, mk, tg, tk, tr)) (f : fr (XSf a) M M') : (some (jI v) = some (jI r.1) ∧ n = n) ∧ SXc M' n a cu dr (r.2.1, bs, p, F, D, Rr, r.2.2, tg, tk, tr) ∧ fr (XSf a) M M' := by
  subst e
  exact ⟨⟨rfl, rfl⟩, hS, f⟩
def y_feed (g bs : Nat → Int) (x y z u v : Int) : Int × (Nat → Int) × (Nat → Int) := if 900 < g 1 + 20 then (-1, g, bs) else (g 1 + 20, up g 1 (g 1 + 20), wrB (wrB (wrB (wrB (wrB bs (g 1) x 4) (g 1 + 4) y 4) (g 1 + 8) z 4) (g 1 + 12) u 4) (g 1 + 16) v 4)
theorem lfF {M M' : jdM} {n a cu dr : Nat} {g1 bs1 : Nat → Int} {p : TS} {F D Rr : FS} {mk : Nat → FS} {tg tk tr : Nat → Int} {r : Int × (Nat → Int) × (Nat → Int)} {v : Int} (e : r = (v, g1, bs1)) (hS : SXc M' n a cu dr (g1, bs1, p, F, D, Rr, mk, tg, tk, tr)) (f : fr (XSf a) M M') : (some (jI v) = some (jI r.1) ∧ n = n) ∧ SXc M' n a cu dr (r.2.1, r.2.2, p, F, D, Rr, mk, tg, tk, tr) ∧ fr (XSf a) M M' := by
  subst e
  exact ⟨⟨rfl, rfl⟩, hS, f⟩
set_option maxHeartbeats 1000000 in
set_option maxRecDepth 20000 in
theorem s_X7_coins {l : Launch} {n : Nat} {M : jdM} {a cu dr : Nat} {g bs : Nat → Int} {p : TS} {ct td bk si ld : Nat → Int} {D : FS} {g3 sp sk fa go : Nat → Int} {mk : Nat → FS} {tg tk tr : Nat → Int} (hS : SXc M n a cu dr (g, bs, p, (ct, td, bk, si, ld), D, (g3, sp, sk, fa, go), mk, tg, tk, tr))  : Ct l yX7_coins cX7_coins 1 (some .int) rX7_coins [.ref a] n M (fun vv n' M' => vv = some (jI (sumZ (fun i => cv i * tk i.toNat) 6)) ∧ n = n' ∧ M = M') := by
  refine Ct_of [some (.ref a)] (by decide) (Nat.le_of_ble_eq_true rfl) rfl (fun κ hl h hR hRt hmn hn0 => ?_)
  have h : Ok κ RX7 cX7_coins 1 (some .int) := h
  obtain ⟨han, hcd, hO7, hT7, hF7, hG7, hR7, hA7, hK7, hD7, hQ7, hB7⟩ := id hS
  have hO7 : M a = jdO 7 (fX7 a cu dr _) := hO7
  try dsimp only at hO7
  try dsimp only at hT7
  try dsimp only at hK7
  try dsimp only at hB7
  have hF : Fl M n cu ct td bk si ld := hF7
  have hRn : Rn M n (a + 19) g3 sp sk fa go := hR7
  obtain ⟨hnF, hOF, hAF, hBF, hCF, hDF, hEF, rA, rB, r0, rC, rD, rE⟩ := id hF
  obtain ⟨hnR, hOR, -⟩ := id hRn
  obtain ⟨dg, rm, wn, be, hDr, hwn, hbe⟩ := id hD7
  obtain ⟨hnD, hOD, -⟩ := id hDr
  obtain ⟨og, ww, hOd⟩ := id hQ7
  obtain ⟨hnQ, hOQ, -⟩ := id hOd
  obtain ⟨fc, wf, hTi⟩ := id hB7
  obtain ⟨hnB, hOB, -⟩ := id hTi
  obtain ⟨ht7, hOT, hTk, hPO, -⟩ := id hT7
  have ctr : 0 ≤ c_rows ct td ∧ c_rows ct td ≤ 40 := by
    unfold c_rows c_get
    have := (rB 0).1
    split
    · omega
    · rw [if_pos (by omega)]
      exact ⟨this, r0⟩
  have c2 := rA 2
  have c5 := rA 5
  have c8 := rA 8
  have f1 : fr (XSf a) M M := fr_rf
  refine jr_aload_n (pc := 0) h dX7_coins_0 rfl ?_
  refine gf_X7_54 (pc := 1) h dX7_coins_1 (by assumption) (by omega) ?_
  refine iv_X7_277 (pc := 4) h hl hR dX7_coins_4 ⟨(Nat.le_of_ble_eq_true rfl), (Nat.le_of_ble_eq_true rfl), (Nat.le_of_ble_eq_true rfl), (Nat.le_of_ble_eq_true rfl)⟩ (Nat.le_of_ble_eq_true rfl) (by assumption) (by omega) (s_X5_worth hTi) (fun v_4 n_4 M_4 hn_4 hp => ?_)
  obtain ⟨rfl, rfl, rfl⟩ := hp
  refine jr_iret (pc := 7) h hRt dX7_coins_7 rfl (Nat.le_of_ble_eq_true rfl) (Nat.le_of_ble_eq_true rfl) ?_
  exact ⟨rfl, rfl, rfl⟩
set_option maxHeartbeats 1000000 in
set_option maxRecDepth 20000 in
theorem s_X7_fault {l : Launch} {n : Nat} {M : jdM} {a cu dr : Nat} {g bs : Nat → Int} {p : TS} {ct td bk si ld : Nat → Int} {D : FS} {g3 sp sk fa go : Nat → Int} {mk : Nat → FS} {tg tk tr : Nat → Int} (hS : SXc M n a cu dr (g, bs, p, (ct, td, bk, si, ld), D, (g3, sp, sk, fa, go), mk, tg, tk, tr))  : Ct l yX7_fault cX7_fault 1 (some .int) rX7_fault [.ref a] n M (fun vv n' M' => vv = some (jI (g 11)) ∧ n = n' ∧ M = M') := by
  refine Ct_of [some (.ref a)] (by decide) (Nat.le_of_ble_eq_true rfl) rfl (fun κ hl h hR hRt hmn hn0 => ?_)
  have h : Ok κ RX7 cX7_fault 1 (some .int) := h
  obtain ⟨han, hcd, hO7, hT7, hF7, hG7, hR7, hA7, hK7, hD7, hQ7, hB7⟩ := id hS
  have hO7 : M a = jdO 7 (fX7 a cu dr _) := hO7
  try dsimp only at hO7
  try dsimp only at hT7
  try dsimp only at hK7
  try dsimp only at hB7
  have hF : Fl M n cu ct td bk si ld := hF7
  have hRn : Rn M n (a + 19) g3 sp sk fa go := hR7
  obtain ⟨hnF, hOF, hAF, hBF, hCF, hDF, hEF, rA, rB, r0, rC, rD, rE⟩ := id hF
  obtain ⟨hnR, hOR, -⟩ := id hRn
  obtain ⟨dg, rm, wn, be, hDr, hwn, hbe⟩ := id hD7
  obtain ⟨hnD, hOD, -⟩ := id hDr
  obtain ⟨og, ww, hOd⟩ := id hQ7
  obtain ⟨hnQ, hOQ, -⟩ := id hOd
  obtain ⟨fc, wf, hTi⟩ := id hB7
  obtain ⟨hnB, hOB, -⟩ := id hTi
  obtain ⟨ht7, hOT, hTk, hPO, -⟩ := id hT7
  have ctr : 0 ≤ c_rows ct td ∧ c_rows ct td ≤ 40 := by
    unfold c_rows c_get
    have := (rB 0).1
    split
    · omega
    · rw [if_pos (by omega)]
      exact ⟨this, r0⟩
  have c2 := rA 2
  have c5 := rA 5
  have c8 := rA 8
  have f1 : fr (XSf a) M M := fr_rf
  refine jr_aload_n (pc := 0) h dX7_fault_0 rfl ?_
  refine gf_X7_74 (pc := 1) h dX7_fault_1 (by assumption) (by omega) ?_
  refine jr_iret (pc := 4) h hRt dX7_fault_4 rfl (Nat.le_of_ble_eq_true rfl) (Nat.le_of_ble_eq_true rfl) ?_
  exact ⟨rfl, rfl, rfl⟩
set_option maxHeartbeats 1000000 in
set_option maxRecDepth 20000 in
theorem s_X7_trouble {l : Launch} {n : Nat} {M : jdM} {a cu dr : Nat} {g bs : Nat → Int} {p : TS} {ct td bk si ld : Nat → Int} {D : FS} {g3 sp sk fa go : Nat → Int} {mk : Nat → FS} {tg tk tr : Nat → Int} (hS : SXc M n a cu dr (g, bs, p, (ct, td, bk, si, ld), D, (g3, sp, sk, fa, go), mk, tg, tk, tr))  : Ct l yX7_trouble cX7_trouble 1 (some .int) rX7_trouble [.ref a] n M (fun vv n' M' => vv = some (jI (g 10)) ∧ n = n' ∧ M = M') := by
  refine Ct_of [some (.ref a)] (by decide) (Nat.le_of_ble_eq_true rfl) rfl (fun κ hl h hR hRt hmn hn0 => ?_)
  have h : Ok κ RX7 cX7_trouble 1 (some .int) := h
  obtain ⟨han, hcd, hO7, hT7, hF7, hG7, hR7, hA7, hK7, hD7, hQ7, hB7⟩ := id hS
  have hO7 : M a = jdO 7 (fX7 a cu dr _) := hO7
  try dsimp only at hO7
  try dsimp only at hT7
  try dsimp only at hK7
  try dsimp only at hB7
  have hF : Fl M n cu ct td bk si ld := hF7
  have hRn : Rn M n (a + 19) g3 sp sk fa go := hR7
  obtain ⟨hnF, hOF, hAF, hBF, hCF, hDF, hEF, rA, rB, r0, rC, rD, rE⟩ := id hF
  obtain ⟨hnR, hOR, -⟩ := id hRn
  obtain ⟨dg, rm, wn, be, hDr, hwn, hbe⟩ := id hD7
  obtain ⟨hnD, hOD, -⟩ := id hDr
  obtain ⟨og, ww, hOd⟩ := id hQ7
  obtain ⟨hnQ, hOQ, -⟩ := id hOd
  obtain ⟨fc, wf, hTi⟩ := id hB7
  obtain ⟨hnB, hOB, -⟩ := id hTi
  obtain ⟨ht7, hOT, hTk, hPO, -⟩ := id hT7
  have ctr : 0 ≤ c_rows ct td ∧ c_rows ct td ≤ 40 := by
    unfold c_rows c_get
    have := (rB 0).1
    split
    · omega
    · rw [if_pos (by omega)]
      exact ⟨this, r0⟩
  have c2 := rA 2
  have c5 := rA 5
  have c8 := rA 8
  have f1 : fr (XSf a) M M := fr_rf
  refine jr_aload_n (pc := 0) h dX7_trouble_0 rfl ?_
  refine gf_X7_96 (pc := 1) h dX7_trouble_1 (by assumption) (by omega) ?_
  refine jr_iret (pc := 4) h hRt dX7_trouble_4 rfl (Nat.le_of_ble_eq_true rfl) (Nat.le_of_ble_eq_true rfl) ?_
  exact ⟨rfl, rfl, rfl⟩
set_option maxHeartbeats 1000000 in
set_option maxRecDepth 20000 in
theorem s_X7_where {l : Launch} {n : Nat} {M : jdM} {a cu dr : Nat} {g bs : Nat → Int} {p : TS} {ct td bk si ld : Nat → Int} {D : FS} {g3 sp sk fa go : Nat → Int} {mk : Nat → FS} {tg tk tr : Nat → Int} (hS : SXc M n a cu dr (g, bs, p, (ct, td, bk, si, ld), D, (g3, sp, sk, fa, go), mk, tg, tk, tr)) (h10 : 0 ≤ g 10 ∧ g 10 ≤ 100) : Ct l yX7_where cX7_where 1 (some .int) rX7_where [.ref a] n M (fun vv n' M' => vv = some (jI (if g 10 = 4 then g 12 else -1)) ∧ n = n' ∧ M = M') := by
  refine Ct_of [some (.ref a)] (by decide) (Nat.le_of_ble_eq_true rfl) rfl (fun κ hl h hR hRt hmn hn0 => ?_)
  have h : Ok κ RX7 cX7_where 1 (some .int) := h
  obtain ⟨han, hcd, hO7, hT7, hF7, hG7, hR7, hA7, hK7, hD7, hQ7, hB7⟩ := id hS
  have hO7 : M a = jdO 7 (fX7 a cu dr _) := hO7
  try dsimp only at hO7
  try dsimp only at hT7
  try dsimp only at hK7
  try dsimp only at hB7
  have hF : Fl M n cu ct td bk si ld := hF7
  have hRn : Rn M n (a + 19) g3 sp sk fa go := hR7
  obtain ⟨hnF, hOF, hAF, hBF, hCF, hDF, hEF, rA, rB, r0, rC, rD, rE⟩ := id hF
  obtain ⟨hnR, hOR, -⟩ := id hRn
  obtain ⟨dg, rm, wn, be, hDr, hwn, hbe⟩ := id hD7
  obtain ⟨hnD, hOD, -⟩ := id hDr
  obtain ⟨og, ww, hOd⟩ := id hQ7
  obtain ⟨hnQ, hOQ, -⟩ := id hOd
  obtain ⟨fc, wf, hTi⟩ := id hB7
  obtain ⟨hnB, hOB, -⟩ := id hTi
  obtain ⟨ht7, hOT, hTk, hPO, -⟩ := id hT7
  have ctr : 0 ≤ c_rows ct td ∧ c_rows ct td ≤ 40 := by
    unfold c_rows c_get
    have := (rB 0).1
    split
    · omega
    · rw [if_pos (by omega)]
      exact ⟨this, r0⟩
  have c2 := rA 2
  have c5 := rA 5
  have c8 := rA 8
  have f1 : fr (XSf a) M M := fr_rf
  refine jr_aload_n (pc := 0) h dX7_where_0 rfl ?_
  refine gf_X7_96 (pc := 1) h dX7_where_1 (by assumption) (by omega) ?_
  refine jr_iconst (pc := 4) h dX7_where_4 ?_
  refine jr_icmp_ne (pc := 5) h 15 dX7_where_5 (by decide) (by omega) (by omega) (fun c_5 => ?_) (fun c_5 => ?_)
  · first | have d_5 := bz_0.mp c_5 | have d_5 := bz_1.mp c_5 | skip
    refine jr_iconst (pc := 15) h dX7_where_15 ?_
    refine jr_iret (pc := 16) h hRt dX7_where_16 rfl (Nat.le_of_ble_eq_true rfl) (Nat.le_of_ble_eq_true rfl) ?_
    refine ⟨ji_c ?_, rfl, rfl⟩
    first
    | rw [if_pos (by omega)]
    | rw [if_neg (by omega)]
  · first | have d_5 := bz_0.mp c_5 | have d_5 := bz_1.mp c_5 | skip
    refine jr_aload_n (pc := 8) h dX7_where_8 rfl ?_
    refine gf_X7_81 (pc := 9) h dX7_where_9 (by assumption) (by omega) ?_
    refine jr_goto (pc := 12) h 16 dX7_where_12 (by decide) ?_
    refine jr_iret (pc := 16) h hRt dX7_where_16 rfl (Nat.le_of_ble_eq_true rfl) (Nat.le_of_ble_eq_true rfl) ?_
    refine ⟨ji_c ?_, rfl, rfl⟩
    first
    | rw [if_pos (by omega)]
    | rw [if_neg (by omega)]
set_option maxHeartbeats 1000000 in
set_option maxRecDepth 20000 in
theorem s_X7_change {l : Launch} {n : Nat} {M : jdM} {a cu dr : Nat} {g bs : Nat → Int} {p : TS} {ct td bk si ld : Nat → Int} {D : FS} {g3 sp sk fa go : Nat → Int} {mk : Nat → FS} {tg tk tr : Nat → Int} (hS : SXc M n a cu dr (g, bs, p, (ct, td, bk, si, ld), D, (g3, sp, sk, fa, go), mk, tg, tk, tr)) {x : Int} (hx : -2147483648 ≤ x ∧ x < 2147483648) (htk : ∀ j : Nat, 0 ≤ tk j ∧ tk j ≤ 100000) : Ct l yX7_change cX7_change 2 (some .int) rX7_change [.ref a, jI x] n M (fun vv n' M' => (vv = some (jI (x_change tk x).1) ∧ n = n') ∧ SXc M' n a cu dr (up g 10 (x_change tk x).2, bs, p, (ct, td, bk, si, ld), D, (g3, sp, sk, fa, go), mk, tg, tk, tr) ∧ fr (XSf a) M M') := by
  refine Ct_of [some (.ref a), some (jI x)] (by decide) (Nat.le_of_ble_eq_true rfl) rfl (fun κ hl h hR hRt hmn hn0 => ?_)
  have h : Ok κ RX7 cX7_change 2 (some .int) := h
  obtain ⟨han, hcd, hO7, hT7, hF7, hG7, hR7, hA7, hK7, hD7, hQ7, hB7⟩ := id hS
  have hO7 : M a = jdO 7 (fX7 a cu dr _) := hO7
  try dsimp only at hO7
  try dsimp only at hT7
  try dsimp only at hK7
  try dsimp only at hB7
  have hF : Fl M n cu ct td bk si ld := hF7
  have hRn : Rn M n (a + 19) g3 sp sk fa go := hR7
  obtain ⟨hnF, hOF, hAF, hBF, hCF, hDF, hEF, rA, rB, r0, rC, rD, rE⟩ := id hF
  obtain ⟨hnR, hOR, -⟩ := id hRn
  obtain ⟨dg, rm, wn, be, hDr, hwn, hbe⟩ := id hD7
  obtain ⟨hnD, hOD, -⟩ := id hDr
  obtain ⟨og, ww, hOd⟩ := id hQ7
  obtain ⟨hnQ, hOQ, -⟩ := id hOd
  obtain ⟨fc, wf, hTi⟩ := id hB7
  obtain ⟨hnB, hOB, -⟩ := id hTi
  obtain ⟨ht7, hOT, hTk, hPO, -⟩ := id hT7
  have ctr : 0 ≤ c_rows ct td ∧ c_rows ct td ≤ 40 := by
    unfold c_rows c_get
    have := (rB 0).1
    split
    · omega
    · rw [if_pos (by omega)]
      exact ⟨this, r0⟩
  have c2 := rA 2
  have c5 := rA 5
  have c8 := rA 8
  have f1 : fr (XSf a) M M := fr_rf
  refine jr_iload_n (pc := 0) h dX7_change_0 rfl ?_
  refine jr_if_lt (pc := 1) h 11 dX7_change_1 (by decide) (by omega) (fun c_1 => ?_) (fun c_1 => ?_)
  · first | have d_1 := bz_0.mp c_1 | have d_1 := bz_1.mp c_1 | skip
    refine jr_aload_n (pc := 11) h dX7_change_11 rfl ?_
    refine jr_iconst (pc := 12) h dX7_change_12 ?_
    refine iv_X7_66 (pc := 13) h hl hR dX7_change_13 ⟨(Nat.le_of_ble_eq_true rfl), (Nat.le_of_ble_eq_true rfl), (Nat.le_of_ble_eq_true rfl), (Nat.le_of_ble_eq_true rfl)⟩ (Nat.le_of_ble_eq_true rfl) (by assumption) (by omega) (s_X7_refuse hS) (fun v_13 n_13 M_13 hn_13 hp => ?_)
    obtain ⟨⟨rfl, rfl⟩, hS, fa_⟩ := hp
    have f1 := fr_tr f1 fa_
    refine jr_goto (pc := 16) h 31 dX7_change_16 (by decide) ?_
    refine jr_iret (pc := 31) h hRt dX7_change_31 rfl (Nat.le_of_ble_eq_true rfl) (Nat.le_of_ble_eq_true rfl) ?_
    refine lfA ?_ hS f1
    unfold x_change
    (repeat' split) <;> first | rfl | (exfalso; omega) | contradiction
  · first | have d_1 := bz_0.mp c_1 | have d_1 := bz_1.mp c_1 | skip
    refine jr_iload_n (pc := 4) h dX7_change_4 rfl ?_
    refine jr_sipush (pc := 5) h dX7_change_5 sp_199 ?_
    refine jr_icmp_le (pc := 8) h 19 dX7_change_8 (by decide) (by omega) (by omega) (fun c_8 => ?_) (fun c_8 => ?_)
    · first | have d_8 := bz_0.mp c_8 | have d_8 := bz_1.mp c_8 | skip
      refine jr_aload_n (pc := 19) h dX7_change_19 rfl ?_
      refine jr_aload_n (pc := 20) h dX7_change_20 rfl ?_
      refine gf_X7_54 (pc := 21) h dX7_change_21 (by assumption) (by omega) ?_
      refine jr_iload_n (pc := 24) h dX7_change_24 rfl ?_
      refine iv_X7_280 (pc := 25) h hl hR dX7_change_25 ⟨(Nat.le_of_ble_eq_true rfl), (Nat.le_of_ble_eq_true rfl), (Nat.le_of_ble_eq_true rfl), (Nat.le_of_ble_eq_true rfl)⟩ (Nat.le_of_ble_eq_true rfl) (by assumption) (by omega) (s_X5_waysToGive hTi htk (by omega)) (fun v_25 n_25 M_25 hn_25 hp => ?_)
      obtain ⟨⟨rfl, rfl⟩, wf9, T9, ft⟩ := hp
      have hS := SXc_B hS ⟨fc, wf9, T9⟩ ft
      have f1 := fr_tr f1 (fr_mo ft (fun k q => ⟨by have := q.1; omega, by have := q.2; omega⟩))
      obtain ⟨han, hcd, hO7, hT7, hF7, hG7, hR7, hA7, hK7, hD7, hQ7, hB7⟩ := id hS
      have hO7 : M_25 a = jdO 7 (fX7 a cu dr _) := hO7
      try dsimp only at hO7
      try dsimp only at hT7
      try dsimp only at hK7
      try dsimp only at hB7
      have hF : Fl M_25 n cu ct td bk si ld := hF7
      have hRn : Rn M_25 n (a + 19) g3 sp sk fa go := hR7
      obtain ⟨hnF, hOF, hAF, hBF, hCF, hDF, hEF, rA, rB, r0, rC, rD, rE⟩ := id hF
      obtain ⟨hnR, hOR, -⟩ := id hRn
      obtain ⟨dg, rm, wn, be, hDr, hwn, hbe⟩ := id hD7
      obtain ⟨hnD, hOD, -⟩ := id hDr
      obtain ⟨og, ww, hOd⟩ := id hQ7
      obtain ⟨hnQ, hOQ, -⟩ := id hOd
      obtain ⟨fc, wf, hTi⟩ := id hB7
      obtain ⟨hnB, hOB, -⟩ := id hTi
      obtain ⟨ht7, hOT, hTk, hPO, -⟩ := id hT7
      refine iv_X7_93 (pc := 28) h hl hR dX7_change_28 ⟨(Nat.le_of_ble_eq_true rfl), (Nat.le_of_ble_eq_true rfl), (Nat.le_of_ble_eq_true rfl), (Nat.le_of_ble_eq_true rfl)⟩ (Nat.le_of_ble_eq_true rfl) (by assumption) (by omega) (s_X7_accept hS) (fun v_28 n_28 M_28 hn_28 hp => ?_)
      obtain ⟨⟨rfl, rfl⟩, hS, fa_⟩ := hp
      have f1 := fr_tr f1 fa_
      refine jr_iret (pc := 31) h hRt dX7_change_31 rfl (Nat.le_of_ble_eq_true rfl) (Nat.le_of_ble_eq_true rfl) ?_
      refine lfA ?_ hS f1
      unfold x_change
      (repeat' split) <;> first | rfl | (exfalso; omega) | contradiction
    · first | have d_8 := bz_0.mp c_8 | have d_8 := bz_1.mp c_8 | skip
      refine jr_aload_n (pc := 11) h dX7_change_11 rfl ?_
      refine jr_iconst (pc := 12) h dX7_change_12 ?_
      refine iv_X7_66 (pc := 13) h hl hR dX7_change_13 ⟨(Nat.le_of_ble_eq_true rfl), (Nat.le_of_ble_eq_true rfl), (Nat.le_of_ble_eq_true rfl), (Nat.le_of_ble_eq_true rfl)⟩ (Nat.le_of_ble_eq_true rfl) (by assumption) (by omega) (s_X7_refuse hS) (fun v_13 n_13 M_13 hn_13 hp => ?_)
      obtain ⟨⟨rfl, rfl⟩, hS, fa_⟩ := hp
      have f1 := fr_tr f1 fa_
      refine jr_goto (pc := 16) h 31 dX7_change_16 (by decide) ?_
      refine jr_iret (pc := 31) h hRt dX7_change_31 rfl (Nat.le_of_ble_eq_true rfl) (Nat.le_of_ble_eq_true rfl) ?_
      refine lfA ?_ hS f1
      unfold x_change
      (repeat' split) <;> first | rfl | (exfalso; omega) | contradiction
set_option maxHeartbeats 1000000 in
set_option maxRecDepth 20000 in
theorem s_X7_till {l : Launch} {n : Nat} {M : jdM} {a cu dr : Nat} {g bs : Nat → Int} {p : TS} {ct td bk si ld : Nat → Int} {D : FS} {g3 sp sk fa go : Nat → Int} {mk : Nat → FS} {tg tk tr : Nat → Int} (hS : SXc M n a cu dr (g, bs, p, (ct, td, bk, si, ld), D, (g3, sp, sk, fa, go), mk, tg, tk, tr)) {x y : Int} (hx : -2147483648 ≤ x ∧ x < 2147483648) (hy : -2147483648 ≤ y ∧ y < 2147483648)  : Ct l yX7_till cX7_till 4 (some .boolean) rX7_till [.ref a, jI x, jI y] n M (fun vv n' M' => (vv = some (jI (y_till tg tk tr x y).1) ∧ n = n') ∧ SXc M' n a cu dr (up g 10 (y_till tg tk tr x y).2.1, bs, p, (ct, td, bk, si, ld), D, (g3, sp, sk, fa, go), mk, (y_till tg tk tr x y).2.2.1, (y_till tg tk tr x y).2.2.2.1, (y_till tg tk tr x y).2.2.2.2) ∧ fr (XSf a) M M') := by
  refine Ct_of [some (.ref a), some (jI x), some (jI y), none] (by decide) (Nat.le_of_ble_eq_true rfl) rfl (fun κ hl h hR hRt hmn hn0 => ?_)
  have h : Ok κ RX7 cX7_till 4 (some .boolean) := h
  obtain ⟨han, hcd, hO7, hT7, hF7, hG7, hR7, hA7, hK7, hD7, hQ7, hB7⟩ := id hS
  have hO7 : M a = jdO 7 (fX7 a cu dr _) := hO7
  try dsimp only at hO7
  try dsimp only at hT7
  try dsimp only at hK7
  try dsimp only at hB7
  have hF : Fl M n cu ct td bk si ld := hF7
  have hRn : Rn M n (a + 19) g3 sp sk fa go := hR7
  obtain ⟨hnF, hOF, hAF, hBF, hCF, hDF, hEF, rA, rB, r0, rC, rD, rE⟩ := id hF
  obtain ⟨hnR, hOR, -⟩ := id hRn
  obtain ⟨dg, rm, wn, be, hDr, hwn, hbe⟩ := id hD7
  obtain ⟨hnD, hOD, -⟩ := id hDr
  obtain ⟨og, ww, hOd⟩ := id hQ7
  obtain ⟨hnQ, hOQ, -⟩ := id hOd
  obtain ⟨fc, wf, hTi⟩ := id hB7
  obtain ⟨hnB, hOB, -⟩ := id hTi
  obtain ⟨ht7, hOT, hTk, hPO, -⟩ := id hT7
  have ctr : 0 ≤ c_rows ct td ∧ c_rows ct td ≤ 40 := by
    unfold c_rows c_get
    have := (rB 0).1
    split
    · omega
    · rw [if_pos (by omega)]
      exact ⟨this, r0⟩
  have c2 := rA 2
  have c5 := rA 5
  have c8 := rA 8
  have f1 : fr (XSf a) M M := fr_rf
  refine jr_iload_n (pc := 0) h dX7_till_0 rfl ?_
  refine iv_X7_258 (pc := 1) h hl hR dX7_till_1 ⟨(Nat.le_of_ble_eq_true rfl), (Nat.le_of_ble_eq_true rfl), (Nat.le_of_ble_eq_true rfl), (Nat.le_of_ble_eq_true rfl)⟩ (Nat.le_of_ble_eq_true rfl) (s_X5_coinOf (by omega)) (fun v_1 n_1 M_1 hn_1 hp => ?_)
  obtain ⟨⟨rfl, rfl, rfl⟩, gr_1⟩ := hp
  refine jr_istore_n (pc := 4) h [_, _, _, _] dX7_till_4 (by decide) rfl ?_
  refine jr_iload_n (pc := 5) h dX7_till_5 rfl ?_
  refine jr_iconst (pc := 6) h dX7_till_6 ?_
  refine jr_icmp_eq (pc := 7) h 20 dX7_till_7 (by decide) (by omega) (by omega) (fun c_7 => ?_) (fun c_7 => ?_)
  · first | have d_7 := bz_0.mp c_7 | have d_7 := bz_1.mp c_7 | skip
    refine jr_aload_n (pc := 20) h dX7_till_20 rfl ?_
    refine jr_iconst (pc := 21) h dX7_till_21 ?_
    refine iv_X7_133 (pc := 22) h hl hR dX7_till_22 ⟨(Nat.le_of_ble_eq_true rfl), (Nat.le_of_ble_eq_true rfl), (Nat.le_of_ble_eq_true rfl), (Nat.le_of_ble_eq_true rfl)⟩ (Nat.le_of_ble_eq_true rfl) (by assumption) (by omega) (s_X7_deny hS) (fun v_22 n_22 M_22 hn_22 hp => ?_)
    obtain ⟨⟨rfl, rfl⟩, hS, fa_⟩ := hp
    have f1 := fr_tr f1 fa_
    refine jr_iret (pc := 25) h hRt dX7_till_25 rfl (Nat.le_of_ble_eq_true rfl) (Nat.le_of_ble_eq_true rfl) ?_
    refine lfB ?_ hS f1
    unfold y_till
    (repeat' split) <;> first | rfl | (exfalso; omega) | contradiction
  · first | have d_7 := bz_0.mp c_7 | have d_7 := bz_1.mp c_7 | skip
    refine jr_iload_n (pc := 10) h dX7_till_10 rfl ?_
    refine jr_if_lt (pc := 11) h 20 dX7_till_11 (by decide) (by omega) (fun c_11 => ?_) (fun c_11 => ?_)
    · first | have d_11 := bz_0.mp c_11 | have d_11 := bz_1.mp c_11 | skip
      refine jr_aload_n (pc := 20) h dX7_till_20 rfl ?_
      refine jr_iconst (pc := 21) h dX7_till_21 ?_
      refine iv_X7_133 (pc := 22) h hl hR dX7_till_22 ⟨(Nat.le_of_ble_eq_true rfl), (Nat.le_of_ble_eq_true rfl), (Nat.le_of_ble_eq_true rfl), (Nat.le_of_ble_eq_true rfl)⟩ (Nat.le_of_ble_eq_true rfl) (by assumption) (by omega) (s_X7_deny hS) (fun v_22 n_22 M_22 hn_22 hp => ?_)
      obtain ⟨⟨rfl, rfl⟩, hS, fa_⟩ := hp
      have f1 := fr_tr f1 fa_
      refine jr_iret (pc := 25) h hRt dX7_till_25 rfl (Nat.le_of_ble_eq_true rfl) (Nat.le_of_ble_eq_true rfl) ?_
      refine lfB ?_ hS f1
      unfold y_till
      (repeat' split) <;> first | rfl | (exfalso; omega) | contradiction
    · first | have d_11 := bz_0.mp c_11 | have d_11 := bz_1.mp c_11 | skip
      refine jr_iload_n (pc := 14) h dX7_till_14 rfl ?_
      refine jr_bipush (pc := 15) h dX7_till_15 bp_99 ?_
      refine jr_icmp_le (pc := 17) h 26 dX7_till_17 (by decide) (by omega) (by omega) (fun c_17 => ?_) (fun c_17 => ?_)
      · first | have d_17 := bz_0.mp c_17 | have d_17 := bz_1.mp c_17 | skip
        refine jr_aload_n (pc := 26) h dX7_till_26 rfl ?_
        refine gf_X7_54 (pc := 27) h dX7_till_27 (by assumption) (by omega) ?_
        refine jr_iload_n (pc := 30) h dX7_till_30 rfl ?_
        refine jr_iload_n (pc := 31) h dX7_till_31 rfl ?_
        refine iv_X7_261 (pc := 32) h hl hR dX7_till_32 ⟨(Nat.le_of_ble_eq_true rfl), (Nat.le_of_ble_eq_true rfl), (Nat.le_of_ble_eq_true rfl), (Nat.le_of_ble_eq_true rfl)⟩ (Nat.le_of_ble_eq_true rfl) (by assumption) (by omega) (s_X5_fill hTi (by omega) (by omega)) (fun v_32 n_32 M_32 hn_32 hp => ?_)
        obtain ⟨rfl, rfl, T9, ft⟩ := hp
        have hS := SXc_B hS ⟨fc, wf, T9⟩ ft
        have f1 := fr_tr f1 (fr_mo ft (fun k q => ⟨by have := q.1; omega, by have := q.2; omega⟩))
        obtain ⟨han, hcd, hO7, hT7, hF7, hG7, hR7, hA7, hK7, hD7, hQ7, hB7⟩ := id hS
        have hO7 : M_32 a = jdO 7 (fX7 a cu dr _) := hO7
        try dsimp only at hO7
        try dsimp only at hT7
        try dsimp only at hK7
        try dsimp only at hB7
        have hF : Fl M_32 n cu ct td bk si ld := hF7
        have hRn : Rn M_32 n (a + 19) g3 sp sk fa go := hR7
        obtain ⟨hnF, hOF, hAF, hBF, hCF, hDF, hEF, rA, rB, r0, rC, rD, rE⟩ := id hF
        obtain ⟨hnR, hOR, -⟩ := id hRn
        obtain ⟨dg, rm, wn, be, hDr, hwn, hbe⟩ := id hD7
        obtain ⟨hnD, hOD, -⟩ := id hDr
        obtain ⟨og, ww, hOd⟩ := id hQ7
        obtain ⟨hnQ, hOQ, -⟩ := id hOd
        obtain ⟨fc, wf, hTi⟩ := id hB7
        obtain ⟨hnB, hOB, -⟩ := id hTi
        obtain ⟨ht7, hOT, hTk, hPO, -⟩ := id hT7
        refine jr_aload_n (pc := 35) h dX7_till_35 rfl ?_
        refine iv_X7_137 (pc := 36) h hl hR dX7_till_36 ⟨(Nat.le_of_ble_eq_true rfl), (Nat.le_of_ble_eq_true rfl), (Nat.le_of_ble_eq_true rfl), (Nat.le_of_ble_eq_true rfl)⟩ (Nat.le_of_ble_eq_true rfl) (by assumption) (by omega) (s_X7_grant hS) (fun v_36 n_36 M_36 hn_36 hp => ?_)
        obtain ⟨⟨rfl, rfl⟩, hS, fa_⟩ := hp
        have f1 := fr_tr f1 fa_
        refine jr_iret (pc := 39) h hRt dX7_till_39 rfl (Nat.le_of_ble_eq_true rfl) (Nat.le_of_ble_eq_true rfl) ?_
        refine lfB ?_ hS f1
        unfold y_till
        (repeat' split) <;> first | rfl | (exfalso; omega) | contradiction
      · first | have d_17 := bz_0.mp c_17 | have d_17 := bz_1.mp c_17 | skip
        refine jr_aload_n (pc := 20) h dX7_till_20 rfl ?_
        refine jr_iconst (pc := 21) h dX7_till_21 ?_
        refine iv_X7_133 (pc := 22) h hl hR dX7_till_22 ⟨(Nat.le_of_ble_eq_true rfl), (Nat.le_of_ble_eq_true rfl), (Nat.le_of_ble_eq_true rfl), (Nat.le_of_ble_eq_true rfl)⟩ (Nat.le_of_ble_eq_true rfl) (by assumption) (by omega) (s_X7_deny hS) (fun v_22 n_22 M_22 hn_22 hp => ?_)
        obtain ⟨⟨rfl, rfl⟩, hS, fa_⟩ := hp
        have f1 := fr_tr f1 fa_
        refine jr_iret (pc := 25) h hRt dX7_till_25 rfl (Nat.le_of_ble_eq_true rfl) (Nat.le_of_ble_eq_true rfl) ?_
        refine lfB ?_ hS f1
        unfold y_till
        (repeat' split) <;> first | rfl | (exfalso; omega) | contradiction
set_option maxHeartbeats 1000000 in
set_option maxRecDepth 20000 in
theorem s_X7_sell {l : Launch} {n : Nat} {M : jdM} {a cu dr : Nat} {g bs : Nat → Int} {p : TS} {ct td bk si ld : Nat → Int} {D : FS} {g3 sp sk fa go : Nat → Int} {mk : Nat → FS} {tg tk tr : Nat → Int} (hS : SXc M n a cu dr (g, bs, p, (ct, td, bk, si, ld), D, (g3, sp, sk, fa, go), mk, tg, tk, tr)) {x y : Int} (hx : -2147483648 ≤ x ∧ x < 2147483648) (hy : -2147483648 ≤ y ∧ y < 2147483648) (htk : ∀ j : Nat, 0 ≤ tk j ∧ tk j ≤ 100000) (hpr : ∀ i : Int, 0 ≤ i → i < ct 12 → 1 ≤ c_get td 12 i 0) : Ct l yX7_sell cX7_sell 5 (some .int) rX7_sell [.ref a, jI x, jI y] n M (fun vv n' M' => (vv = some (jI (y_sell ct td tg tk tr x y).1) ∧ n = n') ∧ SXc M' n a cu dr (up g 10 (y_sell ct td tg tk tr x y).2.1, bs, p, (ct, td, bk, si, ld), D, (g3, sp, sk, fa, go), mk, (y_sell ct td tg tk tr x y).2.2.1, (y_sell ct td tg tk tr x y).2.2.2.1, (y_sell ct td tg tk tr x y).2.2.2.2) ∧ fr (XSf a) M M') := by
  refine Ct_of [some (.ref a), some (jI x), some (jI y), none, none] (by decide) (Nat.le_of_ble_eq_true rfl) rfl (fun κ hl h hR hRt hmn hn0 => ?_)
  have h : Ok κ RX7 cX7_sell 5 (some .int) := h
  obtain ⟨han, hcd, hO7, hT7, hF7, hG7, hR7, hA7, hK7, hD7, hQ7, hB7⟩ := id hS
  have hO7 : M a = jdO 7 (fX7 a cu dr _) := hO7
  try dsimp only at hO7
  try dsimp only at hT7
  try dsimp only at hK7
  try dsimp only at hB7
  have hF : Fl M n cu ct td bk si ld := hF7
  have hRn : Rn M n (a + 19) g3 sp sk fa go := hR7
  obtain ⟨hnF, hOF, hAF, hBF, hCF, hDF, hEF, rA, rB, r0, rC, rD, rE⟩ := id hF
  obtain ⟨hnR, hOR, -⟩ := id hRn
  obtain ⟨dg, rm, wn, be, hDr, hwn, hbe⟩ := id hD7
  obtain ⟨hnD, hOD, -⟩ := id hDr
  obtain ⟨og, ww, hOd⟩ := id hQ7
  obtain ⟨hnQ, hOQ, -⟩ := id hOd
  obtain ⟨fc, wf, hTi⟩ := id hB7
  obtain ⟨hnB, hOB, -⟩ := id hTi
  obtain ⟨ht7, hOT, hTk, hPO, -⟩ := id hT7
  have ctr : 0 ≤ c_rows ct td ∧ c_rows ct td ≤ 40 := by
    unfold c_rows c_get
    have := (rB 0).1
    split
    · omega
    · rw [if_pos (by omega)]
      exact ⟨this, r0⟩
  have c2 := rA 2
  have c5 := rA 5
  have c8 := rA 8
  have f1 : fr (XSf a) M M := fr_rf
  have c12 := rA 12
  have gp := c_getr rB 12 x 0
  have hcv : coinI y ≠ -1 → 1 ≤ y ∧ y ≤ 50 := coinI_v
  have hpr1 := hpr x
  refine jr_iload_n (pc := 0) h dX7_sell_0 rfl ?_
  refine jr_if_lt (pc := 1) h 17 dX7_sell_1 (by decide) (by omega) (fun c_1 => ?_) (fun c_1 => ?_)
  · first | have d_1 := bz_0.mp c_1 | have d_1 := bz_1.mp c_1 | skip
    refine jr_aload_n (pc := 17) h dX7_sell_17 rfl ?_
    refine jr_iconst (pc := 18) h dX7_sell_18 ?_
    refine iv_X7_66 (pc := 19) h hl hR dX7_sell_19 ⟨(Nat.le_of_ble_eq_true rfl), (Nat.le_of_ble_eq_true rfl), (Nat.le_of_ble_eq_true rfl), (Nat.le_of_ble_eq_true rfl)⟩ (Nat.le_of_ble_eq_true rfl) (by assumption) (by omega) (s_X7_refuse hS) (fun v_19 n_19 M_19 hn_19 hp => ?_)
    obtain ⟨⟨rfl, rfl⟩, hS, fa_⟩ := hp
    have f1 := fr_tr f1 fa_
    refine jr_iret (pc := 22) h hRt dX7_sell_22 rfl (Nat.le_of_ble_eq_true rfl) (Nat.le_of_ble_eq_true rfl) ?_
    refine lfB ?_ hS f1
    unfold y_sell
    first
    | (exfalso; omega)
    | (rw [if_neg (by omega)])
    | (rw [if_pos (by omega), if_pos (by omega)])
    | (rw [if_pos (by omega), if_neg (by omega), if_pos (by omega)])
    | (rw [if_pos (by omega), if_neg (by omega), if_neg (by omega), if_pos (by omega)])
    | (rw [if_pos (by omega), if_neg (by omega), if_neg (by omega), if_neg (by omega)])
  · first | have d_1 := bz_0.mp c_1 | have d_1 := bz_1.mp c_1 | skip
    refine jr_iload_n (pc := 4) h dX7_sell_4 rfl ?_
    refine jr_aload_n (pc := 5) h dX7_sell_5 rfl ?_
    refine gf_X7_19 (pc := 6) h dX7_sell_6 (by assumption) (by omega) ?_
    refine jr_bipush (pc := 9) h dX7_sell_9 bp_12 ?_
    refine iv_X7_90 (pc := 11) h hl hR dX7_sell_11 ⟨(Nat.le_of_ble_eq_true rfl), (Nat.le_of_ble_eq_true rfl), (Nat.le_of_ble_eq_true rfl), (Nat.le_of_ble_eq_true rfl)⟩ (Nat.le_of_ble_eq_true rfl) (by assumption) (by omega) (s_X1_count hF (a := 12) (by omega)) (fun v_11 n_11 M_11 hn_11 hp => ?_)
    obtain ⟨⟨rfl, rfl, rfl⟩, gr_11⟩ := hp
    rw [show c_count ct 12 = ct 12 from if_pos (by omega)]
    refine jr_icmp_lt (pc := 14) h 23 dX7_sell_14 (by decide) (by omega) (by omega) (fun c_14 => ?_) (fun c_14 => ?_)
    · first | have d_14 := bz_0.mp c_14 | have d_14 := bz_1.mp c_14 | skip
      refine jr_iload_n (pc := 23) h dX7_sell_23 rfl ?_
      refine iv_X7_258 (pc := 24) h hl hR dX7_sell_24 ⟨(Nat.le_of_ble_eq_true rfl), (Nat.le_of_ble_eq_true rfl), (Nat.le_of_ble_eq_true rfl), (Nat.le_of_ble_eq_true rfl)⟩ (Nat.le_of_ble_eq_true rfl) (s_X5_coinOf (by omega)) (fun v_24 n_24 M_24 hn_24 hp => ?_)
      obtain ⟨⟨rfl, rfl, rfl⟩, gr_24⟩ := hp
      refine jr_istore_n (pc := 27) h [_, _, _, _, _] dX7_sell_27 (by decide) rfl ?_
      refine jr_iload_n (pc := 28) h dX7_sell_28 rfl ?_
      refine jr_iconst (pc := 29) h dX7_sell_29 ?_
      refine jr_icmp_ne (pc := 30) h 45 dX7_sell_30 (by decide) (by omega) (by omega) (fun c_30 => ?_) (fun c_30 => ?_)
      · first | have d_30 := bz_0.mp c_30 | have d_30 := bz_1.mp c_30 | skip
        refine jr_iload_n (pc := 45) h dX7_sell_45 rfl ?_
        refine jr_aload_n (pc := 46) h dX7_sell_46 rfl ?_
        refine gf_X7_19 (pc := 47) h dX7_sell_47 (by assumption) (by omega) ?_
        refine jr_bipush (pc := 50) h dX7_sell_50 bp_12 ?_
        refine jr_iload_n (pc := 52) h dX7_sell_52 rfl ?_
        refine jr_iconst (pc := 53) h dX7_sell_53 ?_
        refine iv_X7_162 (pc := 54) h hl hR dX7_sell_54 ⟨(Nat.le_of_ble_eq_true rfl), (Nat.le_of_ble_eq_true rfl), (Nat.le_of_ble_eq_true rfl), (Nat.le_of_ble_eq_true rfl)⟩ (Nat.le_of_ble_eq_true rfl) (by assumption) (by omega) (s_X1_get hF (by omega) (by omega) (by omega)) (fun v_54 n_54 M_54 hn_54 hp => ?_)
        obtain ⟨⟨rfl, rfl, rfl⟩, gr_54⟩ := hp
        refine jr_isub (pc := 57) h dX7_sell_57 ?_
        refine jr_istore (pc := 58) h [_, _, _, _, _] dX7_sell_58 (by decide) rfl ?_
        refine jr_iload (pc := 60) h dX7_sell_60 rfl ?_
        refine jr_if_ge (pc := 62) h 71 dX7_sell_62 (by decide) (by omega) (fun c_62 => ?_) (fun c_62 => ?_)
        · first | have d_62 := bz_0.mp c_62 | have d_62 := bz_1.mp c_62 | skip
          refine jr_aload_n (pc := 71) h dX7_sell_71 rfl ?_
          refine gf_X7_54 (pc := 72) h dX7_sell_72 (by assumption) (by omega) ?_
          refine jr_iload_n (pc := 75) h dX7_sell_75 rfl ?_
          refine iv_X7_264 (pc := 76) h hl hR dX7_sell_76 ⟨(Nat.le_of_ble_eq_true rfl), (Nat.le_of_ble_eq_true rfl), (Nat.le_of_ble_eq_true rfl), (Nat.le_of_ble_eq_true rfl)⟩ (Nat.le_of_ble_eq_true rfl) (by assumption) (by omega) (s_X5_isFullOf hTi (by omega) htk) (fun v_76 n_76 M_76 hn_76 hp => ?_)
          obtain ⟨⟨rfl, rfl, rfl⟩, gr_76⟩ := hp
          refine jr_if_ne (pc := 79) h 94 dX7_sell_79 (by decide) (by omega) (fun c_79 => ?_) (fun c_79 => ?_)
          · first | have d_79 := bz_0.mp c_79 | have d_79 := bz_1.mp c_79 | skip
            first
            | (obtain ⟨e1, e2⟩ := h9b d_91
               rw [e1, e2] at hS)
            | skip
            refine jr_aload_n (pc := 94) h dX7_sell_94 rfl ?_
            refine jr_bipush (pc := 95) h dX7_sell_95 bp_6 ?_
            refine iv_X7_66 (pc := 97) h hl hR dX7_sell_97 ⟨(Nat.le_of_ble_eq_true rfl), (Nat.le_of_ble_eq_true rfl), (Nat.le_of_ble_eq_true rfl), (Nat.le_of_ble_eq_true rfl)⟩ (Nat.le_of_ble_eq_true rfl) (by assumption) (by omega) (s_X7_refuse hS) (fun v_97 n_97 M_97 hn_97 hp => ?_)
            obtain ⟨⟨rfl, rfl⟩, hS, fa_⟩ := hp
            have f1 := fr_tr f1 fa_
            refine jr_iret (pc := 100) h hRt dX7_sell_100 rfl (Nat.le_of_ble_eq_true rfl) (Nat.le_of_ble_eq_true rfl) ?_
            refine lfB ?_ hS f1
            unfold y_sell
            first
            | (exfalso; omega)
            | (rw [if_neg (by omega)])
            | (rw [if_pos (by omega), if_pos (by omega)])
            | (rw [if_pos (by omega), if_neg (by omega), if_pos (by omega)])
            | (rw [if_pos (by omega), if_neg (by omega), if_neg (by omega), if_pos (by omega)])
            | (rw [if_pos (by omega), if_neg (by omega), if_neg (by omega), if_neg (by omega)])
          · first | have d_79 := bz_0.mp c_79 | have d_79 := bz_1.mp c_79 | skip
            refine jr_aload_n (pc := 82) h dX7_sell_82 rfl ?_
            refine gf_X7_54 (pc := 83) h dX7_sell_83 (by assumption) (by omega) ?_
            refine jr_iload (pc := 86) h dX7_sell_86 rfl ?_
            refine iv_X7_267 (pc := 88) h hl hR dX7_sell_88 ⟨(Nat.le_of_ble_eq_true rfl), (Nat.le_of_ble_eq_true rfl), (Nat.le_of_ble_eq_true rfl), (Nat.le_of_ble_eq_true rfl)⟩ (Nat.le_of_ble_eq_true rfl) (by assumption) (by omega) (s_X5_giveBack hTi htk (by omega)) (fun v_88 n_88 M_88 hn_88 hp => ?_)
            obtain ⟨⟨rfl, rfl⟩, fc9, sk9, rt9, T9, ft, h9a, h9b⟩ := hp
            have gr_88 := bz_r (mnC tk 6 (y - c_get td 12 x 0) < 1000)
            have hS := SXc_B hS ⟨fc9, wf, T9⟩ ft
            have f1 := fr_tr f1 (fr_mo ft (fun k q => ⟨by have := q.1; omega, by have := q.2; omega⟩))
            obtain ⟨han, hcd, hO7, hT7, hF7, hG7, hR7, hA7, hK7, hD7, hQ7, hB7⟩ := id hS
            have hO7 : M_88 a = jdO 7 (fX7 a cu dr _) := hO7
            try dsimp only at hO7
            try dsimp only at hT7
            try dsimp only at hK7
            try dsimp only at hB7
            have hF : Fl M_88 n cu ct td bk si ld := hF7
            have hRn : Rn M_88 n (a + 19) g3 sp sk fa go := hR7
            obtain ⟨hnF, hOF, hAF, hBF, hCF, hDF, hEF, rA, rB, r0, rC, rD, rE⟩ := id hF
            obtain ⟨hnR, hOR, -⟩ := id hRn
            obtain ⟨dg, rm, wn, be, hDr, hwn, hbe⟩ := id hD7
            obtain ⟨hnD, hOD, -⟩ := id hDr
            obtain ⟨og, ww, hOd⟩ := id hQ7
            obtain ⟨hnQ, hOQ, -⟩ := id hOd
            obtain ⟨fc, wf, hTi⟩ := id hB7
            obtain ⟨hnB, hOB, -⟩ := id hTi
            obtain ⟨ht7, hOT, hTk, hPO, -⟩ := id hT7
            refine jr_if_ne (pc := 91) h 101 dX7_sell_91 (by decide) (by omega) (fun c_91 => ?_) (fun c_91 => ?_)
            · first | have d_91 := bz_0.mp c_91 | have d_91 := bz_1.mp c_91 | skip
              obtain ⟨e1, e2⟩ := h9a d_91
              rw [e1, e2] at hS hTi
              refine jr_aload_n (pc := 101) h dX7_sell_101 rfl ?_
              refine gf_X7_54 (pc := 102) h dX7_sell_102 (by assumption) (by omega) ?_
              refine jr_iload_n (pc := 105) h dX7_sell_105 rfl ?_
              refine iv_X7_270 (pc := 106) h hl hR dX7_sell_106 ⟨(Nat.le_of_ble_eq_true rfl), (Nat.le_of_ble_eq_true rfl), (Nat.le_of_ble_eq_true rfl), (Nat.le_of_ble_eq_true rfl)⟩ (Nat.le_of_ble_eq_true rfl) (by assumption) (by omega) (s_X5_take hTi (by omega)) (fun v_106 n_106 M_106 hn_106 hp => ?_)
              obtain ⟨rfl, rfl, T9, ft⟩ := hp
              have hS := SXc_B hS ⟨_, _, T9⟩ ft
              have f1 := fr_tr f1 (fr_mo ft (fun k q => ⟨by have := q.1; omega, by have := q.2; omega⟩))
              obtain ⟨han, hcd, hO7, hT7, hF7, hG7, hR7, hA7, hK7, hD7, hQ7, hB7⟩ := id hS
              have hO7 : M_106 a = jdO 7 (fX7 a cu dr _) := hO7
              try dsimp only at hO7
              try dsimp only at hT7
              try dsimp only at hK7
              try dsimp only at hB7
              have hF : Fl M_106 n cu ct td bk si ld := hF7
              have hRn : Rn M_106 n (a + 19) g3 sp sk fa go := hR7
              obtain ⟨hnF, hOF, hAF, hBF, hCF, hDF, hEF, rA, rB, r0, rC, rD, rE⟩ := id hF
              obtain ⟨hnR, hOR, -⟩ := id hRn
              obtain ⟨dg, rm, wn, be, hDr, hwn, hbe⟩ := id hD7
              obtain ⟨hnD, hOD, -⟩ := id hDr
              obtain ⟨og, ww, hOd⟩ := id hQ7
              obtain ⟨hnQ, hOQ, -⟩ := id hOd
              obtain ⟨fc, wf, hTi⟩ := id hB7
              obtain ⟨hnB, hOB, -⟩ := id hTi
              obtain ⟨ht7, hOT, hTk, hPO, -⟩ := id hT7
              refine jr_aload_n (pc := 109) h dX7_sell_109 rfl ?_
              refine jr_iload (pc := 110) h dX7_sell_110 rfl ?_
              refine iv_X7_93 (pc := 112) h hl hR dX7_sell_112 ⟨(Nat.le_of_ble_eq_true rfl), (Nat.le_of_ble_eq_true rfl), (Nat.le_of_ble_eq_true rfl), (Nat.le_of_ble_eq_true rfl)⟩ (Nat.le_of_ble_eq_true rfl) (by assumption) (by omega) (s_X7_accept hS) (fun v_112 n_112 M_112 hn_112 hp => ?_)
              obtain ⟨⟨rfl, rfl⟩, hS, fa_⟩ := hp
              have f1 := fr_tr f1 fa_
              refine jr_iret (pc := 115) h hRt dX7_sell_115 rfl (Nat.le_of_ble_eq_true rfl) (Nat.le_of_ble_eq_true rfl) ?_
              refine lfB ?_ hS f1
              unfold y_sell
              first
              | (exfalso; omega)
              | (rw [if_neg (by omega)])
              | (rw [if_pos (by omega), if_pos (by omega)])
              | (rw [if_pos (by omega), if_neg (by omega), if_pos (by omega)])
              | (rw [if_pos (by omega), if_neg (by omega), if_neg (by omega), if_pos (by omega)])
              | (rw [if_pos (by omega), if_neg (by omega), if_neg (by omega), if_neg (by omega)])
            · first | have d_91 := bz_0.mp c_91 | have d_91 := bz_1.mp c_91 | skip
              first
              | (obtain ⟨e1, e2⟩ := h9b d_91
                 rw [e1, e2] at hS)
              | skip
              refine jr_aload_n (pc := 94) h dX7_sell_94 rfl ?_
              refine jr_bipush (pc := 95) h dX7_sell_95 bp_6 ?_
              refine iv_X7_66 (pc := 97) h hl hR dX7_sell_97 ⟨(Nat.le_of_ble_eq_true rfl), (Nat.le_of_ble_eq_true rfl), (Nat.le_of_ble_eq_true rfl), (Nat.le_of_ble_eq_true rfl)⟩ (Nat.le_of_ble_eq_true rfl) (by assumption) (by omega) (s_X7_refuse hS) (fun v_97 n_97 M_97 hn_97 hp => ?_)
              obtain ⟨⟨rfl, rfl⟩, hS, fa_⟩ := hp
              have f1 := fr_tr f1 fa_
              refine jr_iret (pc := 100) h hRt dX7_sell_100 rfl (Nat.le_of_ble_eq_true rfl) (Nat.le_of_ble_eq_true rfl) ?_
              refine lfB ?_ hS f1
              unfold y_sell
              first
              | (exfalso; omega)
              | (rw [if_neg (by omega)])
              | (rw [if_pos (by omega), if_pos (by omega)])
              | (rw [if_pos (by omega), if_neg (by omega), if_pos (by omega)])
              | (rw [if_pos (by omega), if_neg (by omega), if_neg (by omega), if_pos (by omega)])
              | (rw [if_pos (by omega), if_neg (by omega), if_neg (by omega), if_neg (by omega)])
        · first | have d_62 := bz_0.mp c_62 | have d_62 := bz_1.mp c_62 | skip
          refine jr_aload_n (pc := 65) h dX7_sell_65 rfl ?_
          refine jr_iconst (pc := 66) h dX7_sell_66 ?_
          refine iv_X7_66 (pc := 67) h hl hR dX7_sell_67 ⟨(Nat.le_of_ble_eq_true rfl), (Nat.le_of_ble_eq_true rfl), (Nat.le_of_ble_eq_true rfl), (Nat.le_of_ble_eq_true rfl)⟩ (Nat.le_of_ble_eq_true rfl) (by assumption) (by omega) (s_X7_refuse hS) (fun v_67 n_67 M_67 hn_67 hp => ?_)
          obtain ⟨⟨rfl, rfl⟩, hS, fa_⟩ := hp
          have f1 := fr_tr f1 fa_
          refine jr_iret (pc := 70) h hRt dX7_sell_70 rfl (Nat.le_of_ble_eq_true rfl) (Nat.le_of_ble_eq_true rfl) ?_
          refine lfB ?_ hS f1
          unfold y_sell
          first
          | (exfalso; omega)
          | (rw [if_neg (by omega)])
          | (rw [if_pos (by omega), if_pos (by omega)])
          | (rw [if_pos (by omega), if_neg (by omega), if_pos (by omega)])
          | (rw [if_pos (by omega), if_neg (by omega), if_neg (by omega), if_pos (by omega)])
          | (rw [if_pos (by omega), if_neg (by omega), if_neg (by omega), if_neg (by omega)])
      · first | have d_30 := bz_0.mp c_30 | have d_30 := bz_1.mp c_30 | skip
        refine jr_iload_n (pc := 33) h dX7_sell_33 rfl ?_
        refine jr_bipush (pc := 34) h dX7_sell_34 bp_100 ?_
        refine jr_icmp_eq (pc := 36) h 45 dX7_sell_36 (by decide) (by omega) (by omega) (fun c_36 => ?_) (fun c_36 => ?_)
        · first | have d_36 := bz_0.mp c_36 | have d_36 := bz_1.mp c_36 | skip
          refine jr_iload_n (pc := 45) h dX7_sell_45 rfl ?_
          refine jr_aload_n (pc := 46) h dX7_sell_46 rfl ?_
          refine gf_X7_19 (pc := 47) h dX7_sell_47 (by assumption) (by omega) ?_
          refine jr_bipush (pc := 50) h dX7_sell_50 bp_12 ?_
          refine jr_iload_n (pc := 52) h dX7_sell_52 rfl ?_
          refine jr_iconst (pc := 53) h dX7_sell_53 ?_
          refine iv_X7_162 (pc := 54) h hl hR dX7_sell_54 ⟨(Nat.le_of_ble_eq_true rfl), (Nat.le_of_ble_eq_true rfl), (Nat.le_of_ble_eq_true rfl), (Nat.le_of_ble_eq_true rfl)⟩ (Nat.le_of_ble_eq_true rfl) (by assumption) (by omega) (s_X1_get hF (by omega) (by omega) (by omega)) (fun v_54 n_54 M_54 hn_54 hp => ?_)
          obtain ⟨⟨rfl, rfl, rfl⟩, gr_54⟩ := hp
          refine jr_isub (pc := 57) h dX7_sell_57 ?_
          refine jr_istore (pc := 58) h [_, _, _, _, _] dX7_sell_58 (by decide) rfl ?_
          refine jr_iload (pc := 60) h dX7_sell_60 rfl ?_
          refine jr_if_ge (pc := 62) h 71 dX7_sell_62 (by decide) (by omega) (fun c_62 => ?_) (fun c_62 => ?_)
          · first | have d_62 := bz_0.mp c_62 | have d_62 := bz_1.mp c_62 | skip
            refine jr_aload_n (pc := 71) h dX7_sell_71 rfl ?_
            refine gf_X7_54 (pc := 72) h dX7_sell_72 (by assumption) (by omega) ?_
            refine jr_iload_n (pc := 75) h dX7_sell_75 rfl ?_
            refine iv_X7_264 (pc := 76) h hl hR dX7_sell_76 ⟨(Nat.le_of_ble_eq_true rfl), (Nat.le_of_ble_eq_true rfl), (Nat.le_of_ble_eq_true rfl), (Nat.le_of_ble_eq_true rfl)⟩ (Nat.le_of_ble_eq_true rfl) (by assumption) (by omega) (s_X5_isFullOf hTi (by omega) htk) (fun v_76 n_76 M_76 hn_76 hp => ?_)
            obtain ⟨⟨rfl, rfl, rfl⟩, gr_76⟩ := hp
            refine jr_if_ne (pc := 79) h 94 dX7_sell_79 (by decide) (by omega) (fun c_79 => ?_) (fun c_79 => ?_)
            · first | have d_79 := bz_0.mp c_79 | have d_79 := bz_1.mp c_79 | skip
              first
              | (obtain ⟨e1, e2⟩ := h9b d_91
                 rw [e1, e2] at hS)
              | skip
              refine jr_aload_n (pc := 94) h dX7_sell_94 rfl ?_
              refine jr_bipush (pc := 95) h dX7_sell_95 bp_6 ?_
              refine iv_X7_66 (pc := 97) h hl hR dX7_sell_97 ⟨(Nat.le_of_ble_eq_true rfl), (Nat.le_of_ble_eq_true rfl), (Nat.le_of_ble_eq_true rfl), (Nat.le_of_ble_eq_true rfl)⟩ (Nat.le_of_ble_eq_true rfl) (by assumption) (by omega) (s_X7_refuse hS) (fun v_97 n_97 M_97 hn_97 hp => ?_)
              obtain ⟨⟨rfl, rfl⟩, hS, fa_⟩ := hp
              have f1 := fr_tr f1 fa_
              refine jr_iret (pc := 100) h hRt dX7_sell_100 rfl (Nat.le_of_ble_eq_true rfl) (Nat.le_of_ble_eq_true rfl) ?_
              refine lfB ?_ hS f1
              unfold y_sell
              first
              | (exfalso; omega)
              | (rw [if_neg (by omega)])
              | (rw [if_pos (by omega), if_pos (by omega)])
              | (rw [if_pos (by omega), if_neg (by omega), if_pos (by omega)])
              | (rw [if_pos (by omega), if_neg (by omega), if_neg (by omega), if_pos (by omega)])
              | (rw [if_pos (by omega), if_neg (by omega), if_neg (by omega), if_neg (by omega)])
            · first | have d_79 := bz_0.mp c_79 | have d_79 := bz_1.mp c_79 | skip
              refine jr_aload_n (pc := 82) h dX7_sell_82 rfl ?_
              refine gf_X7_54 (pc := 83) h dX7_sell_83 (by assumption) (by omega) ?_
              refine jr_iload (pc := 86) h dX7_sell_86 rfl ?_
              refine iv_X7_267 (pc := 88) h hl hR dX7_sell_88 ⟨(Nat.le_of_ble_eq_true rfl), (Nat.le_of_ble_eq_true rfl), (Nat.le_of_ble_eq_true rfl), (Nat.le_of_ble_eq_true rfl)⟩ (Nat.le_of_ble_eq_true rfl) (by assumption) (by omega) (s_X5_giveBack hTi htk (by omega)) (fun v_88 n_88 M_88 hn_88 hp => ?_)
              obtain ⟨⟨rfl, rfl⟩, fc9, sk9, rt9, T9, ft, h9a, h9b⟩ := hp
              have gr_88 := bz_r (mnC tk 6 (y - c_get td 12 x 0) < 1000)
              have hS := SXc_B hS ⟨fc9, wf, T9⟩ ft
              have f1 := fr_tr f1 (fr_mo ft (fun k q => ⟨by have := q.1; omega, by have := q.2; omega⟩))
              obtain ⟨han, hcd, hO7, hT7, hF7, hG7, hR7, hA7, hK7, hD7, hQ7, hB7⟩ := id hS
              have hO7 : M_88 a = jdO 7 (fX7 a cu dr _) := hO7
              try dsimp only at hO7
              try dsimp only at hT7
              try dsimp only at hK7
              try dsimp only at hB7
              have hF : Fl M_88 n cu ct td bk si ld := hF7
              have hRn : Rn M_88 n (a + 19) g3 sp sk fa go := hR7
              obtain ⟨hnF, hOF, hAF, hBF, hCF, hDF, hEF, rA, rB, r0, rC, rD, rE⟩ := id hF
              obtain ⟨hnR, hOR, -⟩ := id hRn
              obtain ⟨dg, rm, wn, be, hDr, hwn, hbe⟩ := id hD7
              obtain ⟨hnD, hOD, -⟩ := id hDr
              obtain ⟨og, ww, hOd⟩ := id hQ7
              obtain ⟨hnQ, hOQ, -⟩ := id hOd
              obtain ⟨fc, wf, hTi⟩ := id hB7
              obtain ⟨hnB, hOB, -⟩ := id hTi
              obtain ⟨ht7, hOT, hTk, hPO, -⟩ := id hT7
              refine jr_if_ne (pc := 91) h 101 dX7_sell_91 (by decide) (by omega) (fun c_91 => ?_) (fun c_91 => ?_)
              · first | have d_91 := bz_0.mp c_91 | have d_91 := bz_1.mp c_91 | skip
                obtain ⟨e1, e2⟩ := h9a d_91
                rw [e1, e2] at hS hTi
                refine jr_aload_n (pc := 101) h dX7_sell_101 rfl ?_
                refine gf_X7_54 (pc := 102) h dX7_sell_102 (by assumption) (by omega) ?_
                refine jr_iload_n (pc := 105) h dX7_sell_105 rfl ?_
                refine iv_X7_270 (pc := 106) h hl hR dX7_sell_106 ⟨(Nat.le_of_ble_eq_true rfl), (Nat.le_of_ble_eq_true rfl), (Nat.le_of_ble_eq_true rfl), (Nat.le_of_ble_eq_true rfl)⟩ (Nat.le_of_ble_eq_true rfl) (by assumption) (by omega) (s_X5_take hTi (by omega)) (fun v_106 n_106 M_106 hn_106 hp => ?_)
                obtain ⟨rfl, rfl, T9, ft⟩ := hp
                have hS := SXc_B hS ⟨_, _, T9⟩ ft
                have f1 := fr_tr f1 (fr_mo ft (fun k q => ⟨by have := q.1; omega, by have := q.2; omega⟩))
                obtain ⟨han, hcd, hO7, hT7, hF7, hG7, hR7, hA7, hK7, hD7, hQ7, hB7⟩ := id hS
                have hO7 : M_106 a = jdO 7 (fX7 a cu dr _) := hO7
                try dsimp only at hO7
                try dsimp only at hT7
                try dsimp only at hK7
                try dsimp only at hB7
                have hF : Fl M_106 n cu ct td bk si ld := hF7
                have hRn : Rn M_106 n (a + 19) g3 sp sk fa go := hR7
                obtain ⟨hnF, hOF, hAF, hBF, hCF, hDF, hEF, rA, rB, r0, rC, rD, rE⟩ := id hF
                obtain ⟨hnR, hOR, -⟩ := id hRn
                obtain ⟨dg, rm, wn, be, hDr, hwn, hbe⟩ := id hD7
                obtain ⟨hnD, hOD, -⟩ := id hDr
                obtain ⟨og, ww, hOd⟩ := id hQ7
                obtain ⟨hnQ, hOQ, -⟩ := id hOd
                obtain ⟨fc, wf, hTi⟩ := id hB7
                obtain ⟨hnB, hOB, -⟩ := id hTi
                obtain ⟨ht7, hOT, hTk, hPO, -⟩ := id hT7
                refine jr_aload_n (pc := 109) h dX7_sell_109 rfl ?_
                refine jr_iload (pc := 110) h dX7_sell_110 rfl ?_
                refine iv_X7_93 (pc := 112) h hl hR dX7_sell_112 ⟨(Nat.le_of_ble_eq_true rfl), (Nat.le_of_ble_eq_true rfl), (Nat.le_of_ble_eq_true rfl), (Nat.le_of_ble_eq_true rfl)⟩ (Nat.le_of_ble_eq_true rfl) (by assumption) (by omega) (s_X7_accept hS) (fun v_112 n_112 M_112 hn_112 hp => ?_)
                obtain ⟨⟨rfl, rfl⟩, hS, fa_⟩ := hp
                have f1 := fr_tr f1 fa_
                refine jr_iret (pc := 115) h hRt dX7_sell_115 rfl (Nat.le_of_ble_eq_true rfl) (Nat.le_of_ble_eq_true rfl) ?_
                refine lfB ?_ hS f1
                unfold y_sell
                first
                | (exfalso; omega)
                | (rw [if_neg (by omega)])
                | (rw [if_pos (by omega), if_pos (by omega)])
                | (rw [if_pos (by omega), if_neg (by omega), if_pos (by omega)])
                | (rw [if_pos (by omega), if_neg (by omega), if_neg (by omega), if_pos (by omega)])
                | (rw [if_pos (by omega), if_neg (by omega), if_neg (by omega), if_neg (by omega)])
              · first | have d_91 := bz_0.mp c_91 | have d_91 := bz_1.mp c_91 | skip
                first
                | (obtain ⟨e1, e2⟩ := h9b d_91
                   rw [e1, e2] at hS)
                | skip
                refine jr_aload_n (pc := 94) h dX7_sell_94 rfl ?_
                refine jr_bipush (pc := 95) h dX7_sell_95 bp_6 ?_
                refine iv_X7_66 (pc := 97) h hl hR dX7_sell_97 ⟨(Nat.le_of_ble_eq_true rfl), (Nat.le_of_ble_eq_true rfl), (Nat.le_of_ble_eq_true rfl), (Nat.le_of_ble_eq_true rfl)⟩ (Nat.le_of_ble_eq_true rfl) (by assumption) (by omega) (s_X7_refuse hS) (fun v_97 n_97 M_97 hn_97 hp => ?_)
                obtain ⟨⟨rfl, rfl⟩, hS, fa_⟩ := hp
                have f1 := fr_tr f1 fa_
                refine jr_iret (pc := 100) h hRt dX7_sell_100 rfl (Nat.le_of_ble_eq_true rfl) (Nat.le_of_ble_eq_true rfl) ?_
                refine lfB ?_ hS f1
                unfold y_sell
                first
                | (exfalso; omega)
                | (rw [if_neg (by omega)])
                | (rw [if_pos (by omega), if_pos (by omega)])
                | (rw [if_pos (by omega), if_neg (by omega), if_pos (by omega)])
                | (rw [if_pos (by omega), if_neg (by omega), if_neg (by omega), if_pos (by omega)])
                | (rw [if_pos (by omega), if_neg (by omega), if_neg (by omega), if_neg (by omega)])
          · first | have d_62 := bz_0.mp c_62 | have d_62 := bz_1.mp c_62 | skip
            refine jr_aload_n (pc := 65) h dX7_sell_65 rfl ?_
            refine jr_iconst (pc := 66) h dX7_sell_66 ?_
            refine iv_X7_66 (pc := 67) h hl hR dX7_sell_67 ⟨(Nat.le_of_ble_eq_true rfl), (Nat.le_of_ble_eq_true rfl), (Nat.le_of_ble_eq_true rfl), (Nat.le_of_ble_eq_true rfl)⟩ (Nat.le_of_ble_eq_true rfl) (by assumption) (by omega) (s_X7_refuse hS) (fun v_67 n_67 M_67 hn_67 hp => ?_)
            obtain ⟨⟨rfl, rfl⟩, hS, fa_⟩ := hp
            have f1 := fr_tr f1 fa_
            refine jr_iret (pc := 70) h hRt dX7_sell_70 rfl (Nat.le_of_ble_eq_true rfl) (Nat.le_of_ble_eq_true rfl) ?_
            refine lfB ?_ hS f1
            unfold y_sell
            first
            | (exfalso; omega)
            | (rw [if_neg (by omega)])
            | (rw [if_pos (by omega), if_pos (by omega)])
            | (rw [if_pos (by omega), if_neg (by omega), if_pos (by omega)])
            | (rw [if_pos (by omega), if_neg (by omega), if_neg (by omega), if_pos (by omega)])
            | (rw [if_pos (by omega), if_neg (by omega), if_neg (by omega), if_neg (by omega)])
        · first | have d_36 := bz_0.mp c_36 | have d_36 := bz_1.mp c_36 | skip
          refine jr_aload_n (pc := 39) h dX7_sell_39 rfl ?_
          refine jr_iconst (pc := 40) h dX7_sell_40 ?_
          refine iv_X7_66 (pc := 41) h hl hR dX7_sell_41 ⟨(Nat.le_of_ble_eq_true rfl), (Nat.le_of_ble_eq_true rfl), (Nat.le_of_ble_eq_true rfl), (Nat.le_of_ble_eq_true rfl)⟩ (Nat.le_of_ble_eq_true rfl) (by assumption) (by omega) (s_X7_refuse hS) (fun v_41 n_41 M_41 hn_41 hp => ?_)
          obtain ⟨⟨rfl, rfl⟩, hS, fa_⟩ := hp
          have f1 := fr_tr f1 fa_
          refine jr_iret (pc := 44) h hRt dX7_sell_44 rfl (Nat.le_of_ble_eq_true rfl) (Nat.le_of_ble_eq_true rfl) ?_
          refine lfB ?_ hS f1
          unfold y_sell
          first
          | (exfalso; omega)
          | (rw [if_neg (by omega)])
          | (rw [if_pos (by omega), if_pos (by omega)])
          | (rw [if_pos (by omega), if_neg (by omega), if_pos (by omega)])
          | (rw [if_pos (by omega), if_neg (by omega), if_neg (by omega), if_pos (by omega)])
          | (rw [if_pos (by omega), if_neg (by omega), if_neg (by omega), if_neg (by omega)])
    · first | have d_14 := bz_0.mp c_14 | have d_14 := bz_1.mp c_14 | skip
      refine jr_aload_n (pc := 17) h dX7_sell_17 rfl ?_
      refine jr_iconst (pc := 18) h dX7_sell_18 ?_
      refine iv_X7_66 (pc := 19) h hl hR dX7_sell_19 ⟨(Nat.le_of_ble_eq_true rfl), (Nat.le_of_ble_eq_true rfl), (Nat.le_of_ble_eq_true rfl), (Nat.le_of_ble_eq_true rfl)⟩ (Nat.le_of_ble_eq_true rfl) (by assumption) (by omega) (s_X7_refuse hS) (fun v_19 n_19 M_19 hn_19 hp => ?_)
      obtain ⟨⟨rfl, rfl⟩, hS, fa_⟩ := hp
      have f1 := fr_tr f1 fa_
      refine jr_iret (pc := 22) h hRt dX7_sell_22 rfl (Nat.le_of_ble_eq_true rfl) (Nat.le_of_ble_eq_true rfl) ?_
      refine lfB ?_ hS f1
      unfold y_sell
      first
      | (exfalso; omega)
      | (rw [if_neg (by omega)])
      | (rw [if_pos (by omega), if_pos (by omega)])
      | (rw [if_pos (by omega), if_neg (by omega), if_pos (by omega)])
      | (rw [if_pos (by omega), if_neg (by omega), if_neg (by omega), if_pos (by omega)])
      | (rw [if_pos (by omega), if_neg (by omega), if_neg (by omega), if_neg (by omega)])
set_option maxHeartbeats 1000000 in
set_option maxRecDepth 20000 in
theorem s_X7_start {l : Launch} {n : Nat} {M : jdM} {a cu dr : Nat} {g bs : Nat → Int} {p : TS} {ct td bk si ld : Nat → Int} {D : FS} {g3 sp sk fa go : Nat → Int} {mk : Nat → FS} {tg tk tr : Nat → Int} (hS : SXc M n a cu dr (g, bs, p, (ct, td, bk, si, ld), D, (g3, sp, sk, fa, go), mk, tg, tk, tr)) {x : Int} (hx : -2147483648 ≤ x ∧ x < 2147483648)  : Ct l yX7_start cX7_start 2 (some .boolean) rX7_start [.ref a, jI x] n M (fun vv n' M' => (vv = some (jI (y_start ct td ld (g3, sp, sk, fa, go) x).1) ∧ n = n') ∧ SXc M' n a cu dr (up g 10 (y_start ct td ld (g3, sp, sk, fa, go) x).2.1, bs, p, (ct, td, bk, si, ld), D, (y_start ct td ld (g3, sp, sk, fa, go) x).2.2, mk, tg, tk, tr) ∧ fr (XSf a) M M') := by
  refine Ct_of [some (.ref a), some (jI x)] (by decide) (Nat.le_of_ble_eq_true rfl) rfl (fun κ hl h hR hRt hmn hn0 => ?_)
  have h : Ok κ RX7 cX7_start 2 (some .boolean) := h
  obtain ⟨han, hcd, hO7, hT7, hF7, hG7, hR7, hA7, hK7, hD7, hQ7, hB7⟩ := id hS
  have hO7 : M a = jdO 7 (fX7 a cu dr _) := hO7
  try dsimp only at hO7
  try dsimp only at hT7
  try dsimp only at hK7
  try dsimp only at hB7
  have hF : Fl M n cu ct td bk si ld := hF7
  have hRn : Rn M n (a + 19) g3 sp sk fa go := hR7
  obtain ⟨hnF, hOF, hAF, hBF, hCF, hDF, hEF, rA, rB, r0, rC, rD, rE⟩ := id hF
  obtain ⟨hnR, hOR, -⟩ := id hRn
  obtain ⟨dg, rm, wn, be, hDr, hwn, hbe⟩ := id hD7
  obtain ⟨hnD, hOD, -⟩ := id hDr
  obtain ⟨og, ww, hOd⟩ := id hQ7
  obtain ⟨hnQ, hOQ, -⟩ := id hOd
  obtain ⟨fc, wf, hTi⟩ := id hB7
  obtain ⟨hnB, hOB, -⟩ := id hTi
  obtain ⟨ht7, hOT, hTk, hPO, -⟩ := id hT7
  have ctr : 0 ≤ c_rows ct td ∧ c_rows ct td ≤ 40 := by
    unfold c_rows c_get
    have := (rB 0).1
    split
    · omega
    · rw [if_pos (by omega)]
      exact ⟨this, r0⟩
  have c2 := rA 2
  have c5 := rA 5
  have c8 := rA 8
  have f1 : fr (XSf a) M M := fr_rf
  refine jr_aload_n (pc := 0) h dX7_start_0 rfl ?_
  refine iv_X7_106 (pc := 1) h hl hR dX7_start_1 ⟨(Nat.le_of_ble_eq_true rfl), (Nat.le_of_ble_eq_true rfl), (Nat.le_of_ble_eq_true rfl), (Nat.le_of_ble_eq_true rfl)⟩ (Nat.le_of_ble_eq_true rfl) (by assumption) (by omega) (s_X7_hasFlight hS) (fun v_1 n_1 M_1 hn_1 hp => ?_)
  obtain ⟨⟨rfl, rfl, rfl⟩, gr_1⟩ := hp
  refine jr_if_ne (pc := 4) h 13 dX7_start_4 (by decide) (by omega) (fun c_4 => ?_) (fun c_4 => ?_)
  · first | have d_4 := bz_0.mp c_4 | have d_4 := bz_1.mp c_4 | skip
    refine jr_iload_n (pc := 13) h dX7_start_13 rfl ?_
    refine jr_if_lt (pc := 14) h 23 dX7_start_14 (by decide) (by omega) (fun c_14 => ?_) (fun c_14 => ?_)
    · first | have d_14 := bz_0.mp c_14 | have d_14 := bz_1.mp c_14 | skip
      refine jr_aload_n (pc := 23) h dX7_start_23 rfl ?_
      refine jr_iconst (pc := 24) h dX7_start_24 ?_
      refine iv_X7_133 (pc := 25) h hl hR dX7_start_25 ⟨(Nat.le_of_ble_eq_true rfl), (Nat.le_of_ble_eq_true rfl), (Nat.le_of_ble_eq_true rfl), (Nat.le_of_ble_eq_true rfl)⟩ (Nat.le_of_ble_eq_true rfl) (by assumption) (by omega) (s_X7_deny hS) (fun v_25 n_25 M_25 hn_25 hp => ?_)
      obtain ⟨⟨rfl, rfl⟩, hS, fa_⟩ := hp
      have f1 := fr_tr f1 fa_
      refine jr_iret (pc := 28) h hRt dX7_start_28 rfl (Nat.le_of_ble_eq_true rfl) (Nat.le_of_ble_eq_true rfl) ?_
      refine lfR ?_ hS f1
      unfold y_start
      (repeat' split) <;> first | rfl | (exfalso; omega) | contradiction
    · first | have d_14 := bz_0.mp c_14 | have d_14 := bz_1.mp c_14 | skip
      refine jr_iload_n (pc := 17) h dX7_start_17 rfl ?_
      refine jr_ldc (pc := 18) h dX7_start_18 wm_773 ?_
      rw [show (65536 : Int32) = Int32.ofInt 65536 from by decide]
      refine jr_icmp_le (pc := 20) h 29 dX7_start_20 (by decide) (by omega) (by omega) (fun c_20 => ?_) (fun c_20 => ?_)
      · first | have d_20 := bz_0.mp c_20 | have d_20 := bz_1.mp c_20 | skip
        refine jr_aload_n (pc := 29) h dX7_start_29 rfl ?_
        refine gf_X7_29 (pc := 30) h dX7_start_30 (by assumption) (by omega) ?_
        refine jr_aload_n (pc := 33) h dX7_start_33 rfl ?_
        refine gf_X7_19 (pc := 34) h dX7_start_34 (by assumption) (by omega) ?_
        refine jr_iload_n (pc := 37) h dX7_start_37 rfl ?_
        refine iv_X7_83 (pc := 38) h hl hR dX7_start_38 ⟨(Nat.le_of_ble_eq_true rfl), (Nat.le_of_ble_eq_true rfl), (Nat.le_of_ble_eq_true rfl), (Nat.le_of_ble_eq_true rfl)⟩ (Nat.le_of_ble_eq_true rfl) (by assumption) (by omega) (s_X3_restart hRn hF (by omega)) (fun v_38 n_38 M_38 hn_38 hp => ?_)
        obtain ⟨⟨rfl, rfl⟩, R9, fr9⟩ := hp
        have hS := SXc_R (R1 := rsR ct td ld x (g3, sp, sk, fa, go)) hS R9 fr9
        have f1 := fr_tr f1 (fr_mo fr9 (fun k q => ⟨by have := q.1; omega, by have := q.2; omega⟩))
        obtain ⟨-, -, hO7, -⟩ := id hS
        have hO7 : M_38 a = jdO 7 (fX7 a cu dr _) := hO7
        try dsimp only at hO7
        refine jr_aload_n (pc := 41) h dX7_start_41 rfl ?_
        refine iv_X7_137 (pc := 42) h hl hR dX7_start_42 ⟨(Nat.le_of_ble_eq_true rfl), (Nat.le_of_ble_eq_true rfl), (Nat.le_of_ble_eq_true rfl), (Nat.le_of_ble_eq_true rfl)⟩ (Nat.le_of_ble_eq_true rfl) (by assumption) (by omega) (s_X7_grant hS) (fun v_42 n_42 M_42 hn_42 hp => ?_)
        obtain ⟨⟨rfl, rfl⟩, hS, fa_⟩ := hp
        have f1 := fr_tr f1 fa_
        refine jr_iret (pc := 45) h hRt dX7_start_45 rfl (Nat.le_of_ble_eq_true rfl) (Nat.le_of_ble_eq_true rfl) ?_
        refine lfR ?_ hS f1
        unfold y_start
        (repeat' split) <;> first | rfl | (exfalso; omega) | contradiction
      · first | have d_20 := bz_0.mp c_20 | have d_20 := bz_1.mp c_20 | skip
        refine jr_aload_n (pc := 23) h dX7_start_23 rfl ?_
        refine jr_iconst (pc := 24) h dX7_start_24 ?_
        refine iv_X7_133 (pc := 25) h hl hR dX7_start_25 ⟨(Nat.le_of_ble_eq_true rfl), (Nat.le_of_ble_eq_true rfl), (Nat.le_of_ble_eq_true rfl), (Nat.le_of_ble_eq_true rfl)⟩ (Nat.le_of_ble_eq_true rfl) (by assumption) (by omega) (s_X7_deny hS) (fun v_25 n_25 M_25 hn_25 hp => ?_)
        obtain ⟨⟨rfl, rfl⟩, hS, fa_⟩ := hp
        have f1 := fr_tr f1 fa_
        refine jr_iret (pc := 28) h hRt dX7_start_28 rfl (Nat.le_of_ble_eq_true rfl) (Nat.le_of_ble_eq_true rfl) ?_
        refine lfR ?_ hS f1
        unfold y_start
        (repeat' split) <;> first | rfl | (exfalso; omega) | contradiction
  · first | have d_4 := bz_0.mp c_4 | have d_4 := bz_1.mp c_4 | skip
    refine jr_aload_n (pc := 7) h dX7_start_7 rfl ?_
    refine jr_iconst (pc := 8) h dX7_start_8 ?_
    refine iv_X7_133 (pc := 9) h hl hR dX7_start_9 ⟨(Nat.le_of_ble_eq_true rfl), (Nat.le_of_ble_eq_true rfl), (Nat.le_of_ble_eq_true rfl), (Nat.le_of_ble_eq_true rfl)⟩ (Nat.le_of_ble_eq_true rfl) (by assumption) (by omega) (s_X7_deny hS) (fun v_9 n_9 M_9 hn_9 hp => ?_)
    obtain ⟨⟨rfl, rfl⟩, hS, fa_⟩ := hp
    have f1 := fr_tr f1 fa_
    refine jr_iret (pc := 12) h hRt dX7_start_12 rfl (Nat.le_of_ble_eq_true rfl) (Nat.le_of_ble_eq_true rfl) ?_
    refine lfR ?_ hS f1
    unfold y_start
    (repeat' split) <;> first | rfl | (exfalso; omega) | contradiction
set_option maxHeartbeats 1000000 in
set_option maxRecDepth 20000 in
theorem s_X7_step {l : Launch} {n : Nat} {M : jdM} {a cu dr : Nat} {g bs : Nat → Int} {p : TS} {ct td bk si ld : Nat → Int} {D : FS} {g3 sp sk fa go : Nat → Int} {mk : Nat → FS} {tg tk tr : Nat → Int} (hS : SXc M n a cu dr (g, bs, p, (ct, td, bk, si, ld), D, (g3, sp, sk, fa, go), mk, tg, tk, tr)) (hRI : RI ct td (g3, sp, sk, fa, go)) (hK : KI ct td bk si) : Ct l yX7_step cX7_step 1 (some .int) rX7_step [.ref a] n M (fun vv n' M' => (vv = some (jI (y_step ct td bk si (g3, sp, sk, fa, go)).1) ∧ n = n') ∧ SXc M' n a cu dr (up g 10 (y_step ct td bk si (g3, sp, sk, fa, go)).2.1, bs, p, (ct, td, bk, si, ld), D, (y_step ct td bk si (g3, sp, sk, fa, go)).2.2, mk, tg, tk, tr) ∧ fr (XSf a) M M') := by
  refine Ct_of [some (.ref a)] (by decide) (Nat.le_of_ble_eq_true rfl) rfl (fun κ hl h hR hRt hmn hn0 => ?_)
  have h : Ok κ RX7 cX7_step 1 (some .int) := h
  obtain ⟨han, hcd, hO7, hT7, hF7, hG7, hR7, hA7, hK7, hD7, hQ7, hB7⟩ := id hS
  have hO7 : M a = jdO 7 (fX7 a cu dr _) := hO7
  try dsimp only at hO7
  try dsimp only at hT7
  try dsimp only at hK7
  try dsimp only at hB7
  have hF : Fl M n cu ct td bk si ld := hF7
  have hRn : Rn M n (a + 19) g3 sp sk fa go := hR7
  obtain ⟨hnF, hOF, hAF, hBF, hCF, hDF, hEF, rA, rB, r0, rC, rD, rE⟩ := id hF
  obtain ⟨hnR, hOR, -⟩ := id hRn
  obtain ⟨dg, rm, wn, be, hDr, hwn, hbe⟩ := id hD7
  obtain ⟨hnD, hOD, -⟩ := id hDr
  obtain ⟨og, ww, hOd⟩ := id hQ7
  obtain ⟨hnQ, hOQ, -⟩ := id hOd
  obtain ⟨fc, wf, hTi⟩ := id hB7
  obtain ⟨hnB, hOB, -⟩ := id hTi
  obtain ⟨ht7, hOT, hTk, hPO, -⟩ := id hT7
  have ctr : 0 ≤ c_rows ct td ∧ c_rows ct td ≤ 40 := by
    unfold c_rows c_get
    have := (rB 0).1
    split
    · omega
    · rw [if_pos (by omega)]
      exact ⟨this, r0⟩
  have c2 := rA 2
  have c5 := rA 5
  have c8 := rA 8
  have f1 : fr (XSf a) M M := fr_rf
  obtain ⟨h4r, hsr, hkr, hzr, h0r, hfr, htr, h2r, h451r⟩ := id hRI
  replace h4r : 1 ≤ g3 4 ∧ g3 4 ≤ g3 5 + 1 ∧ g3 5 ≤ c_rows ct td := h4r
  replace hsr : ∀ j, 0 ≤ sp j ∧ sp j ≤ 60000 + 22000 * (c_rows ct td - (g3 5 - g3 4 + 1)) := hsr
  replace hkr : ∀ j, 0 ≤ sk j ∧ sk j ≤ 9999 := hkr
  replace hzr : 0 ≤ g3 7 ∧ g3 7 ≤ 65536 := hzr
  replace h0r : ∀ ρ : Nat, g3 4 ≤ ρ → (ρ : Int) ≤ g3 5 → ∀ o, o < 11 → fa (11 * ρ + o) = 0 := h0r
  refine jr_aload_n (pc := 0) h dX7_step_0 rfl ?_
  refine iv_X7_106 (pc := 1) h hl hR dX7_step_1 ⟨(Nat.le_of_ble_eq_true rfl), (Nat.le_of_ble_eq_true rfl), (Nat.le_of_ble_eq_true rfl), (Nat.le_of_ble_eq_true rfl)⟩ (Nat.le_of_ble_eq_true rfl) (by assumption) (by omega) (s_X7_hasFlight hS) (fun v_1 n_1 M_1 hn_1 hp => ?_)
  obtain ⟨⟨rfl, rfl, rfl⟩, gr_1⟩ := hp
  refine jr_if_ne (pc := 4) h 13 dX7_step_4 (by decide) (by omega) (fun c_4 => ?_) (fun c_4 => ?_)
  · first | have d_4 := bz_0.mp c_4 | have d_4 := bz_1.mp c_4 | skip
    refine jr_aload_n (pc := 13) h dX7_step_13 rfl ?_
    refine gf_X7_29 (pc := 14) h dX7_step_14 (by assumption) (by omega) ?_
    refine iv_X7_140 (pc := 17) h hl hR dX7_step_17 ⟨(Nat.le_of_ble_eq_true rfl), (Nat.le_of_ble_eq_true rfl), (Nat.le_of_ble_eq_true rfl), (Nat.le_of_ble_eq_true rfl)⟩ (Nat.le_of_ble_eq_true rfl) (by assumption) (by omega) (s_X3_isOver hRn (by omega) (by omega)) (fun v_17 n_17 M_17 hn_17 hp => ?_)
    obtain ⟨⟨rfl, rfl, rfl⟩, gr_17⟩ := hp
    refine jr_if_eq (pc := 20) h 32 dX7_step_20 (by decide) (by omega) (fun c_20 => ?_) (fun c_20 => ?_)
    · first | have d_20 := bz_0.mp c_20 | have d_20 := bz_1.mp c_20 | skip
      refine jr_aload_n (pc := 32) h dX7_step_32 rfl ?_
      refine jr_aload_n (pc := 33) h dX7_step_33 rfl ?_
      refine gf_X7_29 (pc := 34) h dX7_step_34 (by assumption) (by omega) ?_
      refine jr_aload_n (pc := 37) h dX7_step_37 rfl ?_
      refine gf_X7_19 (pc := 38) h dX7_step_38 (by assumption) (by omega) ?_
      refine iv_X7_143 (pc := 41) h hl hR dX7_step_41 ⟨(Nat.le_of_ble_eq_true rfl), (Nat.le_of_ble_eq_true rfl), (Nat.le_of_ble_eq_true rfl), (Nat.le_of_ble_eq_true rfl)⟩ (Nat.le_of_ble_eq_true rfl) (by assumption) (by omega) (s_X3_advance hRn hF (by omega) hK (by omega) (fun j => ⟨(hsr j).1, by have := (hsr j).2; omega⟩) hkr hzr h0r) (fun v_41 n_41 M_41 hn_41 hp => ?_)
      obtain ⟨⟨rfl, rfl⟩, R9, fr9⟩ := hp
      have hS := SXc_R (R1 := avR ct td bk si (g3, sp, sk, fa, go)) hS R9 fr9
      have f1 := fr_tr f1 (fr_mo fr9 (fun k q => ⟨by have := q.1; omega, by have := q.2; omega⟩))
      obtain ⟨-, -, hO7, -⟩ := id hS
      have hO7 : M_41 a = jdO 7 (fX7 a cu dr _) := hO7
      try dsimp only at hO7
      refine iv_X7_93 (pc := 44) h hl hR dX7_step_44 ⟨(Nat.le_of_ble_eq_true rfl), (Nat.le_of_ble_eq_true rfl), (Nat.le_of_ble_eq_true rfl), (Nat.le_of_ble_eq_true rfl)⟩ (Nat.le_of_ble_eq_true rfl) (by assumption) (by omega) (s_X7_accept hS) (fun v_44 n_44 M_44 hn_44 hp => ?_)
      obtain ⟨⟨rfl, rfl⟩, hS, fa_⟩ := hp
      have f1 := fr_tr f1 fa_
      refine jr_iret (pc := 47) h hRt dX7_step_47 rfl (Nat.le_of_ble_eq_true rfl) (Nat.le_of_ble_eq_true rfl) ?_
      refine lfR ?_ hS f1
      unfold y_step
      first
      | (rw [if_neg (by omega)])
      | (rw [if_pos (by omega), if_pos (show g3 5 < g3 4 by omega)])
      | (rw [if_pos (by omega), if_neg (show ¬ g3 5 < g3 4 by omega)]; try rfl)
    · first | have d_20 := bz_0.mp c_20 | have d_20 := bz_1.mp c_20 | skip
      refine jr_aload_n (pc := 23) h dX7_step_23 rfl ?_
      refine jr_bipush (pc := 24) h dX7_step_24 bp_6 ?_
      refine iv_X7_66 (pc := 26) h hl hR dX7_step_26 ⟨(Nat.le_of_ble_eq_true rfl), (Nat.le_of_ble_eq_true rfl), (Nat.le_of_ble_eq_true rfl), (Nat.le_of_ble_eq_true rfl)⟩ (Nat.le_of_ble_eq_true rfl) (by assumption) (by omega) (s_X7_refuse hS) (fun v_26 n_26 M_26 hn_26 hp => ?_)
      obtain ⟨⟨rfl, rfl⟩, hS, fa_⟩ := hp
      have f1 := fr_tr f1 fa_
      refine jr_goto (pc := 29) h 47 dX7_step_29 (by decide) ?_
      refine jr_iret (pc := 47) h hRt dX7_step_47 rfl (Nat.le_of_ble_eq_true rfl) (Nat.le_of_ble_eq_true rfl) ?_
      refine lfR ?_ hS f1
      unfold y_step
      first
      | (rw [if_neg (by omega)])
      | (rw [if_pos (by omega), if_pos (show g3 5 < g3 4 by omega)])
      | (rw [if_pos (by omega), if_neg (show ¬ g3 5 < g3 4 by omega)]; try rfl)
  · first | have d_4 := bz_0.mp c_4 | have d_4 := bz_1.mp c_4 | skip
    refine jr_aload_n (pc := 7) h dX7_step_7 rfl ?_
    refine jr_iconst (pc := 8) h dX7_step_8 ?_
    refine iv_X7_66 (pc := 9) h hl hR dX7_step_9 ⟨(Nat.le_of_ble_eq_true rfl), (Nat.le_of_ble_eq_true rfl), (Nat.le_of_ble_eq_true rfl), (Nat.le_of_ble_eq_true rfl)⟩ (Nat.le_of_ble_eq_true rfl) (by assumption) (by omega) (s_X7_refuse hS) (fun v_9 n_9 M_9 hn_9 hp => ?_)
    obtain ⟨⟨rfl, rfl⟩, hS, fa_⟩ := hp
    have f1 := fr_tr f1 fa_
    refine jr_iret (pc := 12) h hRt dX7_step_12 rfl (Nat.le_of_ble_eq_true rfl) (Nat.le_of_ble_eq_true rfl) ?_
    refine lfR ?_ hS f1
    unfold y_step
    first
    | (rw [if_neg (by omega)])
    | (rw [if_pos (by omega), if_pos (show g3 5 < g3 4 by omega)])
    | (rw [if_pos (by omega), if_neg (show ¬ g3 5 < g3 4 by omega)]; try rfl)
set_option maxHeartbeats 1000000 in
set_option maxRecDepth 20000 in
theorem s_X7_finish {l : Launch} {n : Nat} {M : jdM} {a cu dr : Nat} {g bs : Nat → Int} {p : TS} {ct td bk si ld : Nat → Int} {D : FS} {g3 sp sk fa go : Nat → Int} {mk : Nat → FS} {tg tk tr : Nat → Int} (hS : SXc M n a cu dr (g, bs, p, (ct, td, bk, si, ld), D, (g3, sp, sk, fa, go), mk, tg, tk, tr)) (hRI : RI ct td (g3, sp, sk, fa, go)) (hK : KI ct td bk si) : Ct l yX7_finish cX7_finish 2 (some .int) rX7_finish [.ref a] n M (fun vv n' M' => (vv = some (jI (y_finish ct td bk si (g3, sp, sk, fa, go)).1) ∧ n = n') ∧ SXc M' n a cu dr (up g 10 (y_finish ct td bk si (g3, sp, sk, fa, go)).2.1, bs, p, (ct, td, bk, si, ld), D, (y_finish ct td bk si (g3, sp, sk, fa, go)).2.2, mk, tg, tk, tr) ∧ fr (XSf a) M M') := by
  refine Ct_of [some (.ref a), none] (by decide) (Nat.le_of_ble_eq_true rfl) rfl (fun κ hl h hR hRt hmn hn0 => ?_)
  have h : Ok κ RX7 cX7_finish 2 (some .int) := h
  obtain ⟨han, hcd, hO7, hT7, hF7, hG7, hR7, hA7, hK7, hD7, hQ7, hB7⟩ := id hS
  have hO7 : M a = jdO 7 (fX7 a cu dr _) := hO7
  try dsimp only at hO7
  try dsimp only at hT7
  try dsimp only at hK7
  try dsimp only at hB7
  have hF : Fl M n cu ct td bk si ld := hF7
  have hRn : Rn M n (a + 19) g3 sp sk fa go := hR7
  obtain ⟨hnF, hOF, hAF, hBF, hCF, hDF, hEF, rA, rB, r0, rC, rD, rE⟩ := id hF
  obtain ⟨hnR, hOR, -⟩ := id hRn
  obtain ⟨dg, rm, wn, be, hDr, hwn, hbe⟩ := id hD7
  obtain ⟨hnD, hOD, -⟩ := id hDr
  obtain ⟨og, ww, hOd⟩ := id hQ7
  obtain ⟨hnQ, hOQ, -⟩ := id hOd
  obtain ⟨fc, wf, hTi⟩ := id hB7
  obtain ⟨hnB, hOB, -⟩ := id hTi
  obtain ⟨ht7, hOT, hTk, hPO, -⟩ := id hT7
  have ctr : 0 ≤ c_rows ct td ∧ c_rows ct td ≤ 40 := by
    unfold c_rows c_get
    have := (rB 0).1
    split
    · omega
    · rw [if_pos (by omega)]
      exact ⟨this, r0⟩
  have c2 := rA 2
  have c5 := rA 5
  have c8 := rA 8
  have f1 : fr (XSf a) M M := fr_rf
  obtain ⟨h4r, hsr, hkr, hzr, h0r, hfr, htr, h2r, h451r⟩ := id hRI
  replace h4r : 1 ≤ g3 4 ∧ g3 4 ≤ g3 5 + 1 ∧ g3 5 ≤ c_rows ct td := h4r
  replace hsr : ∀ j, 0 ≤ sp j ∧ sp j ≤ 60000 + 22000 * (c_rows ct td - (g3 5 - g3 4 + 1)) := hsr
  replace hkr : ∀ j, 0 ≤ sk j ∧ sk j ≤ 9999 := hkr
  replace hzr : 0 ≤ g3 7 ∧ g3 7 ≤ 65536 := hzr
  replace h0r : ∀ ρ : Nat, g3 4 ≤ ρ → (ρ : Int) ≤ g3 5 → ∀ o, o < 11 → fa (11 * ρ + o) = 0 := h0r
  obtain ⟨FN, eFN⟩ : ∃ r, finN ct td bk si (40 - 0 : Int).toNat 0 (g3, sp, sk, fa, go) = r := ⟨_, rfl⟩
  have loop : ∀ (dq : Nat) (i : Int) (M1 : jdM) (R1 : FS), (0 ≤ i ∧ i ≤ 40) → (SXc M1 n a cu dr (g, bs, p, (ct, td, bk, si, ld), D, R1, mk, tg, tk, tr)) → (fr (XSf a) M M1) → (RI ct td R1) → (finN ct td bk si (40 - i).toNat i R1 = FN) → (0 < c_rows ct td) → (41 - i).toNat < dq → J κ 2 0 0 n 15 [some (.ref a), some (jI i)] [] M1 := by
    intro dq
    induction dq with
    | zero => intro i M1 R1 hi hS f1 hRI hfin hp0 hd; omega
    | succ dq ih =>
      intro i M1 R1 hi hS f1 hRI hfin hp0 hd
      obtain ⟨g3, sp, sk, fa, go⟩ := R1
      obtain ⟨han, hcd, hO7, hT7, hF7, hG7, hR7, hA7, hK7, hD7, hQ7, hB7⟩ := id hS
      have hO7 : M1 a = jdO 7 (fX7 a cu dr _) := hO7
      try dsimp only at hO7
      try dsimp only at hT7
      try dsimp only at hK7
      try dsimp only at hB7
      have hF : Fl M1 n cu ct td bk si ld := hF7
      have hRn : Rn M1 n (a + 19) g3 sp sk fa go := hR7
      obtain ⟨hnF, hOF, hAF, hBF, hCF, hDF, hEF, rA, rB, r0, rC, rD, rE⟩ := id hF
      obtain ⟨hnR, hOR, -⟩ := id hRn
      obtain ⟨dg, rm, wn, be, hDr, hwn, hbe⟩ := id hD7
      obtain ⟨hnD, hOD, -⟩ := id hDr
      obtain ⟨og, ww, hOd⟩ := id hQ7
      obtain ⟨hnQ, hOQ, -⟩ := id hOd
      obtain ⟨fc, wf, hTi⟩ := id hB7
      obtain ⟨hnB, hOB, -⟩ := id hTi
      obtain ⟨ht7, hOT, hTk, hPO, -⟩ := id hT7
      obtain ⟨h4r, hsr, hkr, hzr, h0r, hfr, htr, h2r, h451r⟩ := id hRI
      replace h4r : 1 ≤ g3 4 ∧ g3 4 ≤ g3 5 + 1 ∧ g3 5 ≤ c_rows ct td := h4r
      replace hsr : ∀ j, 0 ≤ sp j ∧ sp j ≤ 60000 + 22000 * (c_rows ct td - (g3 5 - g3 4 + 1)) := hsr
      replace hkr : ∀ j, 0 ≤ sk j ∧ sk j ≤ 9999 := hkr
      replace hzr : 0 ≤ g3 7 ∧ g3 7 ≤ 65536 := hzr
      replace h0r : ∀ ρ : Nat, g3 4 ≤ ρ → (ρ : Int) ≤ g3 5 → ∀ o, o < 11 → fa (11 * ρ + o) = 0 := h0r
      refine jr_iload_n (pc := 15) h dX7_finish_15 rfl ?_
      refine jr_bipush (pc := 16) h dX7_finish_16 bp_40 ?_
      refine jr_icmp_ge (pc := 18) h 49 dX7_finish_18 (by decide) (by omega) (by omega) (fun c_18 => ?_) (fun c_18 => ?_)
      · first | have d_18 := bz_0.mp c_18 | have d_18 := bz_1.mp c_18 | skip
        refine jr_aload_n (pc := 49) h dX7_finish_49 rfl ?_
        refine jr_iload_n (pc := 50) h dX7_finish_50 rfl ?_
        refine iv_X7_93 (pc := 51) h hl hR dX7_finish_51 ⟨(Nat.le_of_ble_eq_true rfl), (Nat.le_of_ble_eq_true rfl), (Nat.le_of_ble_eq_true rfl), (Nat.le_of_ble_eq_true rfl)⟩ (Nat.le_of_ble_eq_true rfl) (by assumption) (by omega) (s_X7_accept hS) (fun v_51 n_51 M_51 hn_51 hp => ?_)
        obtain ⟨⟨rfl, rfl⟩, hS, fa_⟩ := hp
        have f1 := fr_tr f1 fa_
        refine jr_iret (pc := 54) h hRt dX7_finish_54 rfl (Nat.le_of_ble_eq_true rfl) (Nat.le_of_ble_eq_true rfl) ?_
        refine lfR ?_ hS f1
        unfold y_finish
        first
        | (rw [if_neg (by omega)])
        | (rw [if_pos (by omega), eFN, ← hfin]
           first
           | (rw [show (40 - i).toNat = 0 by omega, finN])
           | (rw [show (40 - i).toNat = (40 - (i + 1)).toNat + 1 by omega, finN, if_pos (show g3 5 < g3 4 by omega)]))
      · first | have d_18 := bz_0.mp c_18 | have d_18 := bz_1.mp c_18 | skip
        refine jr_aload_n (pc := 21) h dX7_finish_21 rfl ?_
        refine gf_X7_29 (pc := 22) h dX7_finish_22 (by assumption) (by omega) ?_
        refine iv_X7_140 (pc := 25) h hl hR dX7_finish_25 ⟨(Nat.le_of_ble_eq_true rfl), (Nat.le_of_ble_eq_true rfl), (Nat.le_of_ble_eq_true rfl), (Nat.le_of_ble_eq_true rfl)⟩ (Nat.le_of_ble_eq_true rfl) (by assumption) (by omega) (s_X3_isOver hRn (by omega) (by omega)) (fun v_25 n_25 M_25 hn_25 hp => ?_)
        obtain ⟨⟨rfl, rfl, rfl⟩, gr_25⟩ := hp
        refine jr_if_ne (pc := 28) h 49 dX7_finish_28 (by decide) (by omega) (fun c_28 => ?_) (fun c_28 => ?_)
        · first | have d_28 := bz_0.mp c_28 | have d_28 := bz_1.mp c_28 | skip
          refine jr_aload_n (pc := 49) h dX7_finish_49 rfl ?_
          refine jr_iload_n (pc := 50) h dX7_finish_50 rfl ?_
          refine iv_X7_93 (pc := 51) h hl hR dX7_finish_51 ⟨(Nat.le_of_ble_eq_true rfl), (Nat.le_of_ble_eq_true rfl), (Nat.le_of_ble_eq_true rfl), (Nat.le_of_ble_eq_true rfl)⟩ (Nat.le_of_ble_eq_true rfl) (by assumption) (by omega) (s_X7_accept hS) (fun v_51 n_51 M_51 hn_51 hp => ?_)
          obtain ⟨⟨rfl, rfl⟩, hS, fa_⟩ := hp
          have f1 := fr_tr f1 fa_
          refine jr_iret (pc := 54) h hRt dX7_finish_54 rfl (Nat.le_of_ble_eq_true rfl) (Nat.le_of_ble_eq_true rfl) ?_
          refine lfR ?_ hS f1
          unfold y_finish
          first
          | (rw [if_neg (by omega)])
          | (rw [if_pos (by omega), eFN, ← hfin]
             first
             | (rw [show (40 - i).toNat = 0 by omega, finN])
             | (rw [show (40 - i).toNat = (40 - (i + 1)).toNat + 1 by omega, finN, if_pos (show g3 5 < g3 4 by omega)]))
        · first | have d_28 := bz_0.mp c_28 | have d_28 := bz_1.mp c_28 | skip
          refine jr_aload_n (pc := 31) h dX7_finish_31 rfl ?_
          refine gf_X7_29 (pc := 32) h dX7_finish_32 (by assumption) (by omega) ?_
          refine jr_aload_n (pc := 35) h dX7_finish_35 rfl ?_
          refine gf_X7_19 (pc := 36) h dX7_finish_36 (by assumption) (by omega) ?_
          refine iv_X7_143 (pc := 39) h hl hR dX7_finish_39 ⟨(Nat.le_of_ble_eq_true rfl), (Nat.le_of_ble_eq_true rfl), (Nat.le_of_ble_eq_true rfl), (Nat.le_of_ble_eq_true rfl)⟩ (Nat.le_of_ble_eq_true rfl) (by assumption) (by omega) (s_X3_advance hRn hF (by omega) hK (by omega) (fun j => ⟨(hsr j).1, by have := (hsr j).2; omega⟩) hkr hzr h0r) (fun v_39 n_39 M_39 hn_39 hp => ?_)
          obtain ⟨⟨rfl, rfl⟩, R9, fr9⟩ := hp
          have hS := SXc_R (R1 := avR ct td bk si (g3, sp, sk, fa, go)) hS R9 fr9
          have f1 := fr_tr f1 (fr_mo fr9 (fun k q => ⟨by have := q.1; omega, by have := q.2; omega⟩))
          obtain ⟨-, -, hO7, -⟩ := id hS
          have hO7 : M_39 a = jdO 7 (fX7 a cu dr _) := hO7
          try dsimp only at hO7
          have hRI := RI_av hRI rB hK (rA 8).1 ctr.2 (show g3 4 ≤ g3 5 by omega)
          refine jr_pop (pc := 42) h dX7_finish_42 rfl ?_
          refine jr_iinc (pc := 43) h [_, _] dX7_finish_43 (by decide) rfl rfl ?_
          refine jr_goto (pc := 46) h 15 dX7_finish_46 (by decide) ?_
          refine ih (i + 1) _ (avR ct td bk si (g3, sp, sk, fa, go)) (by omega) hS f1 hRI ?_ hp0 (by omega)
          rw [show (40 - i).toNat = (40 - (i + 1)).toNat + 1 by omega, finN, if_neg (show ¬ g3 5 < g3 4 by omega)] at hfin
          exact hfin
  refine jr_aload_n (pc := 0) h dX7_finish_0 rfl ?_
  refine iv_X7_106 (pc := 1) h hl hR dX7_finish_1 ⟨(Nat.le_of_ble_eq_true rfl), (Nat.le_of_ble_eq_true rfl), (Nat.le_of_ble_eq_true rfl), (Nat.le_of_ble_eq_true rfl)⟩ (Nat.le_of_ble_eq_true rfl) (by assumption) (by omega) (s_X7_hasFlight hS) (fun v_1 n_1 M_1 hn_1 hp => ?_)
  obtain ⟨⟨rfl, rfl, rfl⟩, gr_1⟩ := hp
  refine jr_if_ne (pc := 4) h 13 dX7_finish_4 (by decide) (by omega) (fun c_4 => ?_) (fun c_4 => ?_)
  · first | have d_4 := bz_0.mp c_4 | have d_4 := bz_1.mp c_4 | skip
    refine jr_iconst (pc := 13) h dX7_finish_13 ?_
    refine jr_istore_n (pc := 14) h [_, _] dX7_finish_14 (by decide) rfl ?_
    exact loop _ _ _ _ (by omega) hS f1 hRI eFN (by omega) (Nat.lt_succ_self _)
  · first | have d_4 := bz_0.mp c_4 | have d_4 := bz_1.mp c_4 | skip
    refine jr_aload_n (pc := 7) h dX7_finish_7 rfl ?_
    refine jr_iconst (pc := 8) h dX7_finish_8 ?_
    refine iv_X7_66 (pc := 9) h hl hR dX7_finish_9 ⟨(Nat.le_of_ble_eq_true rfl), (Nat.le_of_ble_eq_true rfl), (Nat.le_of_ble_eq_true rfl), (Nat.le_of_ble_eq_true rfl)⟩ (Nat.le_of_ble_eq_true rfl) (by assumption) (by omega) (s_X7_refuse hS) (fun v_9 n_9 M_9 hn_9 hp => ?_)
    obtain ⟨⟨rfl, rfl⟩, hS, fa_⟩ := hp
    have f1 := fr_tr f1 fa_
    refine jr_iret (pc := 12) h hRt dX7_finish_12 rfl (Nat.le_of_ble_eq_true rfl) (Nat.le_of_ble_eq_true rfl) ?_
    refine lfR ?_ hS f1
    unfold y_finish
    rw [if_neg (by omega)]
set_option maxHeartbeats 1000000 in
set_option maxRecDepth 20000 in
theorem s_X7_mark {l : Launch} {n : Nat} {M : jdM} {a cu dr : Nat} {g bs : Nat → Int} {p : TS} {ct td bk si ld : Nat → Int} {D : FS} {g3 sp sk fa go : Nat → Int} {mk : Nat → FS} {tg tk tr : Nat → Int} (hS : SXc M n a cu dr (g, bs, p, (ct, td, bk, si, ld), D, (g3, sp, sk, fa, go), mk, tg, tk, tr)) (h6 : 0 ≤ g 6 ∧ g 6 ≤ 4) : Ct l yX7_mark cX7_mark 1 (some .int) rX7_mark [.ref a] n M (fun vv n' M' => (vv = some (jI (y_mark ct td g mk (g3, sp, sk, fa, go)).1) ∧ n = n') ∧ SXc M' n a cu dr ((y_mark ct td g mk (g3, sp, sk, fa, go)).2.1, bs, p, (ct, td, bk, si, ld), D, (g3, sp, sk, fa, go), (y_mark ct td g mk (g3, sp, sk, fa, go)).2.2, tg, tk, tr) ∧ fr (XSf a) M M') := by
  refine Ct_of [some (.ref a)] (by decide) (Nat.le_of_ble_eq_true rfl) rfl (fun κ hl h hR hRt hmn hn0 => ?_)
  have h : Ok κ RX7 cX7_mark 1 (some .int) := h
  obtain ⟨han, hcd, hO7, hT7, hF7, hG7, hR7, hA7, hK7, hD7, hQ7, hB7⟩ := id hS
  have hO7 : M a = jdO 7 (fX7 a cu dr _) := hO7
  try dsimp only at hO7
  try dsimp only at hT7
  try dsimp only at hK7
  try dsimp only at hB7
  have hF : Fl M n cu ct td bk si ld := hF7
  have hRn : Rn M n (a + 19) g3 sp sk fa go := hR7
  obtain ⟨hnF, hOF, hAF, hBF, hCF, hDF, hEF, rA, rB, r0, rC, rD, rE⟩ := id hF
  obtain ⟨hnR, hOR, -⟩ := id hRn
  obtain ⟨dg, rm, wn, be, hDr, hwn, hbe⟩ := id hD7
  obtain ⟨hnD, hOD, -⟩ := id hDr
  obtain ⟨og, ww, hOd⟩ := id hQ7
  obtain ⟨hnQ, hOQ, -⟩ := id hOd
  obtain ⟨fc, wf, hTi⟩ := id hB7
  obtain ⟨hnB, hOB, -⟩ := id hTi
  obtain ⟨ht7, hOT, hTk, hPO, -⟩ := id hT7
  have ctr : 0 ≤ c_rows ct td ∧ c_rows ct td ≤ 40 := by
    unfold c_rows c_get
    have := (rB 0).1
    split
    · omega
    · rw [if_pos (by omega)]
      exact ⟨this, r0⟩
  have c2 := rA 2
  have c5 := rA 5
  have c8 := rA 8
  have f1 : fr (XSf a) M M := fr_rf
  refine jr_aload_n (pc := 0) h dX7_mark_0 rfl ?_
  refine iv_X7_106 (pc := 1) h hl hR dX7_mark_1 ⟨(Nat.le_of_ble_eq_true rfl), (Nat.le_of_ble_eq_true rfl), (Nat.le_of_ble_eq_true rfl), (Nat.le_of_ble_eq_true rfl)⟩ (Nat.le_of_ble_eq_true rfl) (by assumption) (by omega) (s_X7_hasFlight hS) (fun v_1 n_1 M_1 hn_1 hp => ?_)
  obtain ⟨⟨rfl, rfl, rfl⟩, gr_1⟩ := hp
  refine jr_if_ne (pc := 4) h 13 dX7_mark_4 (by decide) (by omega) (fun c_4 => ?_) (fun c_4 => ?_)
  · first | have d_4 := bz_0.mp c_4 | have d_4 := bz_1.mp c_4 | skip
    refine jr_aload_n (pc := 13) h dX7_mark_13 rfl ?_
    refine gf_X7_87 (pc := 14) h dX7_mark_14 (by assumption) (by omega) ?_
    refine jr_iconst (pc := 17) h dX7_mark_17 ?_
    refine jr_icmp_lt (pc := 18) h 27 dX7_mark_18 (by decide) (by omega) (by omega) (fun c_18 => ?_) (fun c_18 => ?_)
    · first | have d_18 := bz_0.mp c_18 | have d_18 := bz_1.mp c_18 | skip
      have hQ : Rn M n (a + 43 + 5 * (g 6).toNat) (mk (g 6).toNat).1 (mk (g 6).toNat).2.1 (mk (g 6).toNat).2.2.1 (mk (g 6).toNat).2.2.2.1 (mk (g 6).toNat).2.2.2.2 := hK7 (g 6).toNat (by omega)
      obtain ⟨hnK, hOK, -⟩ := id hQ
      refine jr_aload_n (pc := 27) h dX7_mark_27 rfl ?_
      refine gf_X7_33 (pc := 28) h dX7_mark_28 (by assumption) (by omega) ?_
      refine jr_aload_n (pc := 31) h dX7_mark_31 rfl ?_
      refine gf_X7_87 (pc := 32) h dX7_mark_32 (by assumption) (by omega) ?_
      refine jr_aald (y := a + 43 + 5 * (g 6).toNat) (pc := 35) h dX7_mark_35 (by assumption) (by omega) (by omega) (by unfold mkR; rw [if_pos (by omega)]) ?_
      refine jr_aload_n (pc := 36) h dX7_mark_36 rfl ?_
      refine gf_X7_29 (pc := 37) h dX7_mark_37 (by assumption) (by omega) ?_
      refine iv_X7_191 (pc := 40) h hl hR dX7_mark_40 ⟨(Nat.le_of_ble_eq_true rfl), (Nat.le_of_ble_eq_true rfl), (Nat.le_of_ble_eq_true rfl), (Nat.le_of_ble_eq_true rfl)⟩ (Nat.le_of_ble_eq_true rfl) (by assumption) (by omega) (s_X3_copy hQ hRn (by omega)) (fun v_40 n_40 M_40 hn_40 hp => ?_)
      obtain ⟨⟨rfl, rfl⟩, R9, fr9⟩ := hp
      have hS := SXc_K (R1 := cpR (mk (g 6).toNat) (g3, sp, sk, fa, go)) (i := (g 6).toNat) hS (by omega) R9 fr9
      have f1 := fr_tr f1 (fr_mo fr9 (fun k q => ⟨by have := q.1; omega, by have := q.2; omega⟩))
      obtain ⟨-, -, hO7, -⟩ := id hS
      have hO7 : M_40 a = jdO 7 (fX7 a cu dr _) := hO7
      try dsimp only at hO7
      refine jr_aload_n (pc := 43) h dX7_mark_43 rfl ?_
      refine jr_dup (pc := 44) h dX7_mark_44 rfl ?_
      refine gf_X7_87 (pc := 45) h dX7_mark_45 (by assumption) (by omega) ?_
      refine jr_iconst (pc := 48) h dX7_mark_48 ?_
      refine jr_iadd (pc := 49) h dX7_mark_49 ?_
      refine pf_X7_87 (pc := 50) h dX7_mark_50 (by assumption) (by omega) ?_
      refine jm_gen (fun M2 hM2 => ?_)
      have hS := SXc_g6 hS hM2
      have f9 : fr (XSf a) _ M2 := fr_up hM2 ⟨by omega, by omega⟩
      have f1 := fr_tr f1 f9
      obtain ⟨-, -, hO7, -⟩ := id hS
      have hO7 : M2 a = jdO 7 (fX7 a cu dr _) := hO7
      try dsimp only at hO7
      refine jr_aload_n (pc := 53) h dX7_mark_53 rfl ?_
      refine jr_aload_n (pc := 54) h dX7_mark_54 rfl ?_
      refine gf_X7_87 (pc := 55) h dX7_mark_55 (by assumption) (by omega) ?_
      refine jr_iconst (pc := 58) h dX7_mark_58 ?_
      refine jr_isub (pc := 59) h dX7_mark_59 ?_
      refine iv_X7_93 (pc := 60) h hl hR dX7_mark_60 ⟨(Nat.le_of_ble_eq_true rfl), (Nat.le_of_ble_eq_true rfl), (Nat.le_of_ble_eq_true rfl), (Nat.le_of_ble_eq_true rfl)⟩ (Nat.le_of_ble_eq_true rfl) (by assumption) (by omega) (s_X7_accept hS) (fun v_60 n_60 M_60 hn_60 hp => ?_)
      obtain ⟨⟨rfl, rfl⟩, hS, fa_⟩ := hp
      have f1 := fr_tr f1 fa_
      refine jr_iret (pc := 63) h hRt dX7_mark_63 rfl (Nat.le_of_ble_eq_true rfl) (Nat.le_of_ble_eq_true rfl) ?_
      refine lfM ?_ hS f1
      unfold y_mark
      first
      | (rw [if_neg (by omega)])
      | (rw [if_pos (by omega), if_pos (by omega)])
      | (rw [if_pos (by omega), if_neg (by omega)]
         congr 1
         rw [up_eq]
         omega)
    · first | have d_18 := bz_0.mp c_18 | have d_18 := bz_1.mp c_18 | skip
      refine jr_aload_n (pc := 21) h dX7_mark_21 rfl ?_
      refine jr_iconst (pc := 22) h dX7_mark_22 ?_
      refine iv_X7_66 (pc := 23) h hl hR dX7_mark_23 ⟨(Nat.le_of_ble_eq_true rfl), (Nat.le_of_ble_eq_true rfl), (Nat.le_of_ble_eq_true rfl), (Nat.le_of_ble_eq_true rfl)⟩ (Nat.le_of_ble_eq_true rfl) (by assumption) (by omega) (s_X7_refuse hS) (fun v_23 n_23 M_23 hn_23 hp => ?_)
      obtain ⟨⟨rfl, rfl⟩, hS, fa_⟩ := hp
      have f1 := fr_tr f1 fa_
      refine jr_iret (pc := 26) h hRt dX7_mark_26 rfl (Nat.le_of_ble_eq_true rfl) (Nat.le_of_ble_eq_true rfl) ?_
      refine lfM ?_ hS f1
      unfold y_mark
      first
      | (rw [if_neg (by omega)])
      | (rw [if_pos (by omega), if_pos (by omega)])
      | (rw [if_pos (by omega), if_neg (by omega)]
         congr 1
         rw [up_eq]
         omega)
  · first | have d_4 := bz_0.mp c_4 | have d_4 := bz_1.mp c_4 | skip
    refine jr_aload_n (pc := 7) h dX7_mark_7 rfl ?_
    refine jr_iconst (pc := 8) h dX7_mark_8 ?_
    refine iv_X7_66 (pc := 9) h hl hR dX7_mark_9 ⟨(Nat.le_of_ble_eq_true rfl), (Nat.le_of_ble_eq_true rfl), (Nat.le_of_ble_eq_true rfl), (Nat.le_of_ble_eq_true rfl)⟩ (Nat.le_of_ble_eq_true rfl) (by assumption) (by omega) (s_X7_refuse hS) (fun v_9 n_9 M_9 hn_9 hp => ?_)
    obtain ⟨⟨rfl, rfl⟩, hS, fa_⟩ := hp
    have f1 := fr_tr f1 fa_
    refine jr_iret (pc := 12) h hRt dX7_mark_12 rfl (Nat.le_of_ble_eq_true rfl) (Nat.le_of_ble_eq_true rfl) ?_
    refine lfM ?_ hS f1
    unfold y_mark
    first
    | (rw [if_neg (by omega)])
    | (rw [if_pos (by omega), if_pos (by omega)])
    | (rw [if_pos (by omega), if_neg (by omega)]
       congr 1
       rw [up_eq]
       omega)
set_option maxHeartbeats 1000000 in
set_option maxRecDepth 20000 in
theorem s_X7_back {l : Launch} {n : Nat} {M : jdM} {a cu dr : Nat} {g bs : Nat → Int} {p : TS} {ct td bk si ld : Nat → Int} {D : FS} {g3 sp sk fa go : Nat → Int} {mk : Nat → FS} {tg tk tr : Nat → Int} (hS : SXc M n a cu dr (g, bs, p, (ct, td, bk, si, ld), D, (g3, sp, sk, fa, go), mk, tg, tk, tr)) {x : Int} (hx : -2147483648 ≤ x ∧ x < 2147483648) (h6 : 0 ≤ g 6 ∧ g 6 ≤ 4) : Ct l yX7_back cX7_back 2 (some .boolean) rX7_back [.ref a, jI x] n M (fun vv n' M' => (vv = some (jI (y_back g mk (g3, sp, sk, fa, go) x).1) ∧ n = n') ∧ SXc M' n a cu dr (up g 10 (y_back g mk (g3, sp, sk, fa, go) x).2.1, bs, p, (ct, td, bk, si, ld), D, (y_back g mk (g3, sp, sk, fa, go) x).2.2, mk, tg, tk, tr) ∧ fr (XSf a) M M') := by
  refine Ct_of [some (.ref a), some (jI x)] (by decide) (Nat.le_of_ble_eq_true rfl) rfl (fun κ hl h hR hRt hmn hn0 => ?_)
  have h : Ok κ RX7 cX7_back 2 (some .boolean) := h
  obtain ⟨han, hcd, hO7, hT7, hF7, hG7, hR7, hA7, hK7, hD7, hQ7, hB7⟩ := id hS
  have hO7 : M a = jdO 7 (fX7 a cu dr _) := hO7
  try dsimp only at hO7
  try dsimp only at hT7
  try dsimp only at hK7
  try dsimp only at hB7
  have hF : Fl M n cu ct td bk si ld := hF7
  have hRn : Rn M n (a + 19) g3 sp sk fa go := hR7
  obtain ⟨hnF, hOF, hAF, hBF, hCF, hDF, hEF, rA, rB, r0, rC, rD, rE⟩ := id hF
  obtain ⟨hnR, hOR, -⟩ := id hRn
  obtain ⟨dg, rm, wn, be, hDr, hwn, hbe⟩ := id hD7
  obtain ⟨hnD, hOD, -⟩ := id hDr
  obtain ⟨og, ww, hOd⟩ := id hQ7
  obtain ⟨hnQ, hOQ, -⟩ := id hOd
  obtain ⟨fc, wf, hTi⟩ := id hB7
  obtain ⟨hnB, hOB, -⟩ := id hTi
  obtain ⟨ht7, hOT, hTk, hPO, -⟩ := id hT7
  have ctr : 0 ≤ c_rows ct td ∧ c_rows ct td ≤ 40 := by
    unfold c_rows c_get
    have := (rB 0).1
    split
    · omega
    · rw [if_pos (by omega)]
      exact ⟨this, r0⟩
  have c2 := rA 2
  have c5 := rA 5
  have c8 := rA 8
  have f1 : fr (XSf a) M M := fr_rf
  refine jr_iload_n (pc := 0) h dX7_back_0 rfl ?_
  refine jr_if_lt (pc := 1) h 12 dX7_back_1 (by decide) (by omega) (fun c_1 => ?_) (fun c_1 => ?_)
  · first | have d_1 := bz_0.mp c_1 | have d_1 := bz_1.mp c_1 | skip
    refine jr_aload_n (pc := 12) h dX7_back_12 rfl ?_
    refine jr_iconst (pc := 13) h dX7_back_13 ?_
    refine iv_X7_133 (pc := 14) h hl hR dX7_back_14 ⟨(Nat.le_of_ble_eq_true rfl), (Nat.le_of_ble_eq_true rfl), (Nat.le_of_ble_eq_true rfl), (Nat.le_of_ble_eq_true rfl)⟩ (Nat.le_of_ble_eq_true rfl) (by assumption) (by omega) (s_X7_deny hS) (fun v_14 n_14 M_14 hn_14 hp => ?_)
    obtain ⟨⟨rfl, rfl⟩, hS, fa_⟩ := hp
    have f1 := fr_tr f1 fa_
    refine jr_iret (pc := 17) h hRt dX7_back_17 rfl (Nat.le_of_ble_eq_true rfl) (Nat.le_of_ble_eq_true rfl) ?_
    refine lfR ?_ hS f1
    unfold y_back
    (repeat' split) <;> first | rfl | (exfalso; omega) | contradiction
  · first | have d_1 := bz_0.mp c_1 | have d_1 := bz_1.mp c_1 | skip
    refine jr_iload_n (pc := 4) h dX7_back_4 rfl ?_
    refine jr_aload_n (pc := 5) h dX7_back_5 rfl ?_
    refine gf_X7_87 (pc := 6) h dX7_back_6 (by assumption) (by omega) ?_
    refine jr_icmp_lt (pc := 9) h 18 dX7_back_9 (by decide) (by omega) (by omega) (fun c_9 => ?_) (fun c_9 => ?_)
    · first | have d_9 := bz_0.mp c_9 | have d_9 := bz_1.mp c_9 | skip
      have hQ : Rn M n (a + 43 + 5 * (x).toNat) (mk (x).toNat).1 (mk (x).toNat).2.1 (mk (x).toNat).2.2.1 (mk (x).toNat).2.2.2.1 (mk (x).toNat).2.2.2.2 := hK7 (x).toNat (by omega)
      obtain ⟨hnK, hOK, -⟩ := id hQ
      refine jr_aload_n (pc := 18) h dX7_back_18 rfl ?_
      refine gf_X7_29 (pc := 19) h dX7_back_19 (by assumption) (by omega) ?_
      refine jr_aload_n (pc := 22) h dX7_back_22 rfl ?_
      refine gf_X7_33 (pc := 23) h dX7_back_23 (by assumption) (by omega) ?_
      refine jr_iload_n (pc := 26) h dX7_back_26 rfl ?_
      refine jr_aald (y := a + 43 + 5 * (x).toNat) (pc := 27) h dX7_back_27 (by assumption) (by omega) (by omega) (by unfold mkR; rw [if_pos (by omega)]) ?_
      refine iv_X7_191 (pc := 28) h hl hR dX7_back_28 ⟨(Nat.le_of_ble_eq_true rfl), (Nat.le_of_ble_eq_true rfl), (Nat.le_of_ble_eq_true rfl), (Nat.le_of_ble_eq_true rfl)⟩ (Nat.le_of_ble_eq_true rfl) (by assumption) (by omega) (s_X3_copy hRn hQ (by omega)) (fun v_28 n_28 M_28 hn_28 hp => ?_)
      obtain ⟨⟨rfl, rfl⟩, R9, fr9⟩ := hp
      have hS := SXc_R (R1 := cpR (g3, sp, sk, fa, go) (mk x.toNat)) hS R9 fr9
      have f1 := fr_tr f1 (fr_mo fr9 (fun k q => ⟨by have := q.1; omega, by have := q.2; omega⟩))
      obtain ⟨-, -, hO7, -⟩ := id hS
      have hO7 : M_28 a = jdO 7 (fX7 a cu dr _) := hO7
      try dsimp only at hO7
      refine jr_aload_n (pc := 31) h dX7_back_31 rfl ?_
      refine iv_X7_137 (pc := 32) h hl hR dX7_back_32 ⟨(Nat.le_of_ble_eq_true rfl), (Nat.le_of_ble_eq_true rfl), (Nat.le_of_ble_eq_true rfl), (Nat.le_of_ble_eq_true rfl)⟩ (Nat.le_of_ble_eq_true rfl) (by assumption) (by omega) (s_X7_grant hS) (fun v_32 n_32 M_32 hn_32 hp => ?_)
      obtain ⟨⟨rfl, rfl⟩, hS, fa_⟩ := hp
      have f1 := fr_tr f1 fa_
      refine jr_iret (pc := 35) h hRt dX7_back_35 rfl (Nat.le_of_ble_eq_true rfl) (Nat.le_of_ble_eq_true rfl) ?_
      refine lfR ?_ hS f1
      unfold y_back
      (repeat' split) <;> first | rfl | (exfalso; omega) | contradiction
    · first | have d_9 := bz_0.mp c_9 | have d_9 := bz_1.mp c_9 | skip
      refine jr_aload_n (pc := 12) h dX7_back_12 rfl ?_
      refine jr_iconst (pc := 13) h dX7_back_13 ?_
      refine iv_X7_133 (pc := 14) h hl hR dX7_back_14 ⟨(Nat.le_of_ble_eq_true rfl), (Nat.le_of_ble_eq_true rfl), (Nat.le_of_ble_eq_true rfl), (Nat.le_of_ble_eq_true rfl)⟩ (Nat.le_of_ble_eq_true rfl) (by assumption) (by omega) (s_X7_deny hS) (fun v_14 n_14 M_14 hn_14 hp => ?_)
      obtain ⟨⟨rfl, rfl⟩, hS, fa_⟩ := hp
      have f1 := fr_tr f1 fa_
      refine jr_iret (pc := 17) h hRt dX7_back_17 rfl (Nat.le_of_ble_eq_true rfl) (Nat.le_of_ble_eq_true rfl) ?_
      refine lfR ?_ hS f1
      unfold y_back
      (repeat' split) <;> first | rfl | (exfalso; omega) | contradiction
set_option maxHeartbeats 1000000 in
set_option maxRecDepth 20000 in
theorem s_X7_feed {l : Launch} {n : Nat} {M : jdM} {a cu dr : Nat} {g bs : Nat → Int} {p : TS} {ct td bk si ld : Nat → Int} {D : FS} {g3 sp sk fa go : Nat → Int} {mk : Nat → FS} {tg tk tr : Nat → Int} (hS : SXc M n a cu dr (g, bs, p, (ct, td, bk, si, ld), D, (g3, sp, sk, fa, go), mk, tg, tk, tr)) {x y z u v : Int} (hx : -2147483648 ≤ x ∧ x < 2147483648) (hy : -2147483648 ≤ y ∧ y < 2147483648) (hz : -2147483648 ≤ z ∧ z < 2147483648) (hu : -2147483648 ≤ u ∧ u < 2147483648) (hv : -2147483648 ≤ v ∧ v < 2147483648) (hby : ∀ i, -128 ≤ bs i ∧ bs i < 128) (h1 : 0 ≤ g 1 ∧ g 1 ≤ 900) : Ct l yX7_feed cX7_feed 6 (some .int) rX7_feed [.ref a, jI x, jI y, jI z, jI u, jI v] n M (fun vv n' M' => (vv = some (jI (y_feed g bs x y z u v).1) ∧ n = n') ∧ SXc M' n a cu dr ((y_feed g bs x y z u v).2.1, (y_feed g bs x y z u v).2.2, p, (ct, td, bk, si, ld), D, (g3, sp, sk, fa, go), mk, tg, tk, tr) ∧ fr (XSf a) M M') := by
  refine Ct_of [some (.ref a), some (jI x), some (jI y), some (jI z), some (jI u), some (jI v)] (by decide) (Nat.le_of_ble_eq_true rfl) rfl (fun κ hl h hR hRt hmn hn0 => ?_)
  have h : Ok κ RX7 cX7_feed 6 (some .int) := h
  obtain ⟨han, hcd, hO7, hT7, hF7, hG7, hR7, hA7, hK7, hD7, hQ7, hB7⟩ := id hS
  have hO7 : M a = jdO 7 (fX7 a cu dr _) := hO7
  try dsimp only at hO7
  try dsimp only at hT7
  try dsimp only at hK7
  try dsimp only at hB7
  have hF : Fl M n cu ct td bk si ld := hF7
  have hRn : Rn M n (a + 19) g3 sp sk fa go := hR7
  obtain ⟨hnF, hOF, hAF, hBF, hCF, hDF, hEF, rA, rB, r0, rC, rD, rE⟩ := id hF
  obtain ⟨hnR, hOR, -⟩ := id hRn
  obtain ⟨dg, rm, wn, be, hDr, hwn, hbe⟩ := id hD7
  obtain ⟨hnD, hOD, -⟩ := id hDr
  obtain ⟨og, ww, hOd⟩ := id hQ7
  obtain ⟨hnQ, hOQ, -⟩ := id hOd
  obtain ⟨fc, wf, hTi⟩ := id hB7
  obtain ⟨hnB, hOB, -⟩ := id hTi
  obtain ⟨ht7, hOT, hTk, hPO, -⟩ := id hT7
  have ctr : 0 ≤ c_rows ct td ∧ c_rows ct td ≤ 40 := by
    unfold c_rows c_get
    have := (rB 0).1
    split
    · omega
    · rw [if_pos (by omega)]
      exact ⟨this, r0⟩
  have c2 := rA 2
  have c5 := rA 5
  have c8 := rA 8
  have f1 : fr (XSf a) M M := fr_rf
  refine jr_aload_n (pc := 0) h dX7_feed_0 rfl ?_
  refine gf_X7_58 (pc := 1) h dX7_feed_1 (by assumption) (by omega) ?_
  refine jr_bipush (pc := 4) h dX7_feed_4 bp_20 ?_
  refine jr_iadd (pc := 6) h dX7_feed_6 ?_
  refine jr_sipush (pc := 7) h dX7_feed_7 sp_900 ?_
  refine jr_icmp_le (pc := 10) h 15 dX7_feed_10 (by decide) (by omega) (by omega) (fun c_10 => ?_) (fun c_10 => ?_)
  · first | have d_10 := bz_0.mp c_10 | have d_10 := bz_1.mp c_10 | skip
    refine jr_aload_n (pc := 15) h dX7_feed_15 rfl ?_
    refine gf_X7_10 (pc := 16) h dX7_feed_16 (by assumption) (by omega) ?_
    refine jr_aload_n (pc := 19) h dX7_feed_19 rfl ?_
    refine gf_X7_58 (pc := 20) h dX7_feed_20 (by assumption) (by omega) ?_
    refine jr_iload_n (pc := 23) h dX7_feed_23 rfl ?_
    refine iv_X7_62 (pc := 24) h hl hR dX7_feed_24 ⟨(Nat.le_of_ble_eq_true rfl), (Nat.le_of_ble_eq_true rfl), (Nat.le_of_ble_eq_true rfl), (Nat.le_of_ble_eq_true rfl)⟩ (Nat.le_of_ble_eq_true rfl) (by assumption) (by omega) (s_X4_write hT7 hby (by omega) (by omega)) (fun v_24 n_24 M_24 hn_24 hp => ?_)
    obtain ⟨⟨rfl, rfl⟩, T9, ft⟩ := hp
    have hS := SXc_T hS T9 ft
    have f1 := fr_tr f1 (fr_mo ft (fun k q => ⟨by have := q.1; omega, by have := q.2; omega⟩))
    have hb1 := wrB_b (a := g 1) (x := x) (e := 4) hby
    obtain ⟨han, hcd, hO7, hT7, hF7, hG7, hR7, hA7, hK7, hD7, hQ7, hB7⟩ := id hS
    have hO7 : M_24 a = jdO 7 (fX7 a cu dr _) := hO7
    try dsimp only at hO7
    try dsimp only at hT7
    try dsimp only at hK7
    try dsimp only at hB7
    have hF : Fl M_24 n cu ct td bk si ld := hF7
    have hRn : Rn M_24 n (a + 19) g3 sp sk fa go := hR7
    obtain ⟨hnF, hOF, hAF, hBF, hCF, hDF, hEF, rA, rB, r0, rC, rD, rE⟩ := id hF
    obtain ⟨hnR, hOR, -⟩ := id hRn
    obtain ⟨dg, rm, wn, be, hDr, hwn, hbe⟩ := id hD7
    obtain ⟨hnD, hOD, -⟩ := id hDr
    obtain ⟨og, ww, hOd⟩ := id hQ7
    obtain ⟨hnQ, hOQ, -⟩ := id hOd
    obtain ⟨fc, wf, hTi⟩ := id hB7
    obtain ⟨hnB, hOB, -⟩ := id hTi
    obtain ⟨ht7, hOT, hTk, hPO, -⟩ := id hT7
    refine jr_aload_n (pc := 27) h dX7_feed_27 rfl ?_
    refine gf_X7_10 (pc := 28) h dX7_feed_28 (by assumption) (by omega) ?_
    refine jr_aload_n (pc := 31) h dX7_feed_31 rfl ?_
    refine gf_X7_58 (pc := 32) h dX7_feed_32 (by assumption) (by omega) ?_
    refine jr_iconst (pc := 35) h dX7_feed_35 ?_
    refine jr_iadd (pc := 36) h dX7_feed_36 ?_
    refine jr_iload_n (pc := 37) h dX7_feed_37 rfl ?_
    refine iv_X7_62 (pc := 38) h hl hR dX7_feed_38 ⟨(Nat.le_of_ble_eq_true rfl), (Nat.le_of_ble_eq_true rfl), (Nat.le_of_ble_eq_true rfl), (Nat.le_of_ble_eq_true rfl)⟩ (Nat.le_of_ble_eq_true rfl) (by assumption) (by omega) (s_X4_write hT7 hb1 (by omega) (by omega)) (fun v_38 n_38 M_38 hn_38 hp => ?_)
    obtain ⟨⟨rfl, rfl⟩, T9, ft⟩ := hp
    have hS := SXc_T hS T9 ft
    have f1 := fr_tr f1 (fr_mo ft (fun k q => ⟨by have := q.1; omega, by have := q.2; omega⟩))
    have hb2 := wrB_b (a := g 1 + 4) (x := y) (e := 4) hb1
    obtain ⟨han, hcd, hO7, hT7, hF7, hG7, hR7, hA7, hK7, hD7, hQ7, hB7⟩ := id hS
    have hO7 : M_38 a = jdO 7 (fX7 a cu dr _) := hO7
    try dsimp only at hO7
    try dsimp only at hT7
    try dsimp only at hK7
    try dsimp only at hB7
    have hF : Fl M_38 n cu ct td bk si ld := hF7
    have hRn : Rn M_38 n (a + 19) g3 sp sk fa go := hR7
    obtain ⟨hnF, hOF, hAF, hBF, hCF, hDF, hEF, rA, rB, r0, rC, rD, rE⟩ := id hF
    obtain ⟨hnR, hOR, -⟩ := id hRn
    obtain ⟨dg, rm, wn, be, hDr, hwn, hbe⟩ := id hD7
    obtain ⟨hnD, hOD, -⟩ := id hDr
    obtain ⟨og, ww, hOd⟩ := id hQ7
    obtain ⟨hnQ, hOQ, -⟩ := id hOd
    obtain ⟨fc, wf, hTi⟩ := id hB7
    obtain ⟨hnB, hOB, -⟩ := id hTi
    obtain ⟨ht7, hOT, hTk, hPO, -⟩ := id hT7
    refine jr_aload_n (pc := 41) h dX7_feed_41 rfl ?_
    refine gf_X7_10 (pc := 42) h dX7_feed_42 (by assumption) (by omega) ?_
    refine jr_aload_n (pc := 45) h dX7_feed_45 rfl ?_
    refine gf_X7_58 (pc := 46) h dX7_feed_46 (by assumption) (by omega) ?_
    refine jr_bipush (pc := 49) h dX7_feed_49 bp_8 ?_
    refine jr_iadd (pc := 51) h dX7_feed_51 ?_
    refine jr_iload_n (pc := 52) h dX7_feed_52 rfl ?_
    refine iv_X7_62 (pc := 53) h hl hR dX7_feed_53 ⟨(Nat.le_of_ble_eq_true rfl), (Nat.le_of_ble_eq_true rfl), (Nat.le_of_ble_eq_true rfl), (Nat.le_of_ble_eq_true rfl)⟩ (Nat.le_of_ble_eq_true rfl) (by assumption) (by omega) (s_X4_write hT7 hb2 (by omega) (by omega)) (fun v_53 n_53 M_53 hn_53 hp => ?_)
    obtain ⟨⟨rfl, rfl⟩, T9, ft⟩ := hp
    have hS := SXc_T hS T9 ft
    have f1 := fr_tr f1 (fr_mo ft (fun k q => ⟨by have := q.1; omega, by have := q.2; omega⟩))
    have hb3 := wrB_b (a := g 1 + 8) (x := z) (e := 4) hb2
    obtain ⟨han, hcd, hO7, hT7, hF7, hG7, hR7, hA7, hK7, hD7, hQ7, hB7⟩ := id hS
    have hO7 : M_53 a = jdO 7 (fX7 a cu dr _) := hO7
    try dsimp only at hO7
    try dsimp only at hT7
    try dsimp only at hK7
    try dsimp only at hB7
    have hF : Fl M_53 n cu ct td bk si ld := hF7
    have hRn : Rn M_53 n (a + 19) g3 sp sk fa go := hR7
    obtain ⟨hnF, hOF, hAF, hBF, hCF, hDF, hEF, rA, rB, r0, rC, rD, rE⟩ := id hF
    obtain ⟨hnR, hOR, -⟩ := id hRn
    obtain ⟨dg, rm, wn, be, hDr, hwn, hbe⟩ := id hD7
    obtain ⟨hnD, hOD, -⟩ := id hDr
    obtain ⟨og, ww, hOd⟩ := id hQ7
    obtain ⟨hnQ, hOQ, -⟩ := id hOd
    obtain ⟨fc, wf, hTi⟩ := id hB7
    obtain ⟨hnB, hOB, -⟩ := id hTi
    obtain ⟨ht7, hOT, hTk, hPO, -⟩ := id hT7
    refine jr_aload_n (pc := 56) h dX7_feed_56 rfl ?_
    refine gf_X7_10 (pc := 57) h dX7_feed_57 (by assumption) (by omega) ?_
    refine jr_aload_n (pc := 60) h dX7_feed_60 rfl ?_
    refine gf_X7_58 (pc := 61) h dX7_feed_61 (by assumption) (by omega) ?_
    refine jr_bipush (pc := 64) h dX7_feed_64 bp_12 ?_
    refine jr_iadd (pc := 66) h dX7_feed_66 ?_
    refine jr_iload (pc := 67) h dX7_feed_67 rfl ?_
    refine iv_X7_62 (pc := 69) h hl hR dX7_feed_69 ⟨(Nat.le_of_ble_eq_true rfl), (Nat.le_of_ble_eq_true rfl), (Nat.le_of_ble_eq_true rfl), (Nat.le_of_ble_eq_true rfl)⟩ (Nat.le_of_ble_eq_true rfl) (by assumption) (by omega) (s_X4_write hT7 hb3 (by omega) (by omega)) (fun v_69 n_69 M_69 hn_69 hp => ?_)
    obtain ⟨⟨rfl, rfl⟩, T9, ft⟩ := hp
    have hS := SXc_T hS T9 ft
    have f1 := fr_tr f1 (fr_mo ft (fun k q => ⟨by have := q.1; omega, by have := q.2; omega⟩))
    have hb4 := wrB_b (a := g 1 + 12) (x := u) (e := 4) hb3
    obtain ⟨han, hcd, hO7, hT7, hF7, hG7, hR7, hA7, hK7, hD7, hQ7, hB7⟩ := id hS
    have hO7 : M_69 a = jdO 7 (fX7 a cu dr _) := hO7
    try dsimp only at hO7
    try dsimp only at hT7
    try dsimp only at hK7
    try dsimp only at hB7
    have hF : Fl M_69 n cu ct td bk si ld := hF7
    have hRn : Rn M_69 n (a + 19) g3 sp sk fa go := hR7
    obtain ⟨hnF, hOF, hAF, hBF, hCF, hDF, hEF, rA, rB, r0, rC, rD, rE⟩ := id hF
    obtain ⟨hnR, hOR, -⟩ := id hRn
    obtain ⟨dg, rm, wn, be, hDr, hwn, hbe⟩ := id hD7
    obtain ⟨hnD, hOD, -⟩ := id hDr
    obtain ⟨og, ww, hOd⟩ := id hQ7
    obtain ⟨hnQ, hOQ, -⟩ := id hOd
    obtain ⟨fc, wf, hTi⟩ := id hB7
    obtain ⟨hnB, hOB, -⟩ := id hTi
    obtain ⟨ht7, hOT, hTk, hPO, -⟩ := id hT7
    refine jr_aload_n (pc := 72) h dX7_feed_72 rfl ?_
    refine gf_X7_10 (pc := 73) h dX7_feed_73 (by assumption) (by omega) ?_
    refine jr_aload_n (pc := 76) h dX7_feed_76 rfl ?_
    refine gf_X7_58 (pc := 77) h dX7_feed_77 (by assumption) (by omega) ?_
    refine jr_bipush (pc := 80) h dX7_feed_80 bp_16 ?_
    refine jr_iadd (pc := 82) h dX7_feed_82 ?_
    refine jr_iload (pc := 83) h dX7_feed_83 rfl ?_
    refine iv_X7_62 (pc := 85) h hl hR dX7_feed_85 ⟨(Nat.le_of_ble_eq_true rfl), (Nat.le_of_ble_eq_true rfl), (Nat.le_of_ble_eq_true rfl), (Nat.le_of_ble_eq_true rfl)⟩ (Nat.le_of_ble_eq_true rfl) (by assumption) (by omega) (s_X4_write hT7 hb4 (by omega) (by omega)) (fun v_85 n_85 M_85 hn_85 hp => ?_)
    obtain ⟨⟨rfl, rfl⟩, T9, ft⟩ := hp
    have hS := SXc_T hS T9 ft
    have f1 := fr_tr f1 (fr_mo ft (fun k q => ⟨by have := q.1; omega, by have := q.2; omega⟩))
    have hb5 := wrB_b (a := g 1 + 16) (x := v) (e := 4) hb4
    obtain ⟨han, hcd, hO7, hT7, hF7, hG7, hR7, hA7, hK7, hD7, hQ7, hB7⟩ := id hS
    have hO7 : M_85 a = jdO 7 (fX7 a cu dr _) := hO7
    try dsimp only at hO7
    try dsimp only at hT7
    try dsimp only at hK7
    try dsimp only at hB7
    have hF : Fl M_85 n cu ct td bk si ld := hF7
    have hRn : Rn M_85 n (a + 19) g3 sp sk fa go := hR7
    obtain ⟨hnF, hOF, hAF, hBF, hCF, hDF, hEF, rA, rB, r0, rC, rD, rE⟩ := id hF
    obtain ⟨hnR, hOR, -⟩ := id hRn
    obtain ⟨dg, rm, wn, be, hDr, hwn, hbe⟩ := id hD7
    obtain ⟨hnD, hOD, -⟩ := id hDr
    obtain ⟨og, ww, hOd⟩ := id hQ7
    obtain ⟨hnQ, hOQ, -⟩ := id hOd
    obtain ⟨fc, wf, hTi⟩ := id hB7
    obtain ⟨hnB, hOB, -⟩ := id hTi
    obtain ⟨ht7, hOT, hTk, hPO, -⟩ := id hT7
    refine jr_aload_n (pc := 88) h dX7_feed_88 rfl ?_
    refine jr_dup (pc := 89) h dX7_feed_89 rfl ?_
    refine gf_X7_58 (pc := 90) h dX7_feed_90 (by assumption) (by omega) ?_
    refine jr_bipush (pc := 93) h dX7_feed_93 bp_20 ?_
    refine jr_iadd (pc := 95) h dX7_feed_95 ?_
    refine pf_X7_58 (pc := 96) h dX7_feed_96 (by assumption) (by omega) ?_
    refine jm_gen (fun M2 hM2 => ?_)
    have hS := SXc_g1 hS hM2
    have f9 : fr (XSf a) _ M2 := fr_up hM2 ⟨by omega, by omega⟩
    have f1 := fr_tr f1 f9
    obtain ⟨-, -, hO7, -⟩ := id hS
    have hO7 : M2 a = jdO 7 (fX7 a cu dr _) := hO7
    try dsimp only at hO7
    refine jr_aload_n (pc := 99) h dX7_feed_99 rfl ?_
    refine gf_X7_58 (pc := 100) h dX7_feed_100 (by assumption) (by omega) ?_
    refine jr_iret (pc := 103) h hRt dX7_feed_103 rfl (Nat.le_of_ble_eq_true rfl) (Nat.le_of_ble_eq_true rfl) ?_
    refine lfF ?_ hS f1
    unfold y_feed
    first
    | (rw [if_pos (by omega)])
    | (rw [if_neg (by omega)]
       congr 1)
  · first | have d_10 := bz_0.mp c_10 | have d_10 := bz_1.mp c_10 | skip
    refine jr_iconst (pc := 13) h dX7_feed_13 ?_
    refine jr_iret (pc := 14) h hRt dX7_feed_14 rfl (Nat.le_of_ble_eq_true rfl) (Nat.le_of_ble_eq_true rfl) ?_
    refine lfF ?_ hS f1
    unfold y_feed
    first
    | (rw [if_pos (by omega)])
    | (rw [if_neg (by omega)]
       congr 1)
