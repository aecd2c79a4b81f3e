/-! 47: the class: calls that ask -/
theorem lfA {M M' : jdM} {n a cu dr : Nat} {g bs : Nat → Int} {p : TS} {F D Rr : FS} {mk : Nat → FS} {tg tk tr : Nat → Int} {r : Int × Int} {v t : Int} (e : r = (v, t)) (hS : SXc M' n a cu dr (up g 10 t, bs, p, F, D, Rr, mk, tg, tk, tr)) (f : fr (XSf a) M M') : (some (jI v) = some (jI r.1) ∧ n = n) ∧ SXc M' n a cu dr (up g 10 r.2, bs, p, F, D, Rr, mk, tg, tk, tr) ∧ fr (XSf a) M M' := by
  subst e
  exact ⟨⟨rfl, rfl⟩, hS, f⟩
def x_sits (ct td si : Nat → Int) (a : Int) : Int × Int := if 1 ≤ a ∧ a ≤ c_rows ct td then (c_sit si a, 0) else (-1, 1)
def x_all (ct td si : Nat → Int) : Int × Int := if 0 < c_rows ct td then (c_sw si 1 (c_rows ct td), 0) else (-1, 1)
def x_likes (ct td bk : Nat → Int) (a b : Int) : Int × Int := if (1 ≤ a ∧ a ≤ c_rows ct td) ∧ 0 ≤ b ∧ b < ct 2 then (c_win td (c_blk bk a) b, 0) else (-1, 1)
def x_loaded (ct ld : Nat → Int) (a b : Int) : Int × Int := if (0 ≤ a ∧ a < ct 5) ∧ 0 ≤ b ∧ b < ct 2 then (c_load ld a b, 0) else (-1, 1)
def x_fits (ct td ld : Nat → Int) (a : Int) : Int × Int := if 0 ≤ a ∧ a < ct 5 then (if (c_hl ct td ld a).1 = 0 then 1 else 0, 0) else (-1, 1)
def x_seconds (ct sp : Nat → Int) (a : Int) : Int × Int := if 0 ≤ a ∧ a < ct 5 then (c_two sp a, 0) else (-1, 1)
def x_left (ct sk : Nat → Int) (a b : Int) : Int × Int := if (0 ≤ a ∧ a < ct 5) ∧ 0 ≤ b ∧ b < ct 2 then (c_left sk a b, 0) else (-1, 1)
def x_served (ct td g3 fa : Nat → Int) (a b : Int) : Int × Int := if (1 ≤ a ∧ a ≤ c_rows ct td) ∧ 0 ≤ b ∧ b ≤ 6 then (if a < g3 4 ∨ g3 5 < a then (c_fact fa a b, 0) else (-1, 6)) else (-1, 1)
def x_trays (ct td g3 fa : Nat → Int) (a b : Int) : Int × Int := if (1 ≤ a ∧ a ≤ c_rows ct td) ∧ 0 ≤ b ∧ b < ct 2 then (if a < g3 4 ∨ g3 5 < a then (c_fact fa a (7 + b), 0) else (-1, 6)) else (-1, 1)
def x_got (ct td g3 go : Nat → Int) (a : Int) : Int × Int := if 0 ≤ a ∧ a < ct 8 ∧ c_get td 8 a 0 ≤ c_rows ct td then (if c_get td 8 a 0 < g3 4 ∨ g3 5 < c_get td 8 a 0 then (c_six go a, 0) else (-1, 6)) else (-1, 1)
def x_heat (ct td : Nat → Int) (a b : Int) : Int × Int := if 0 ≤ a ∧ a < ct 2 then (if 0 ≤ b ∧ b ≤ 999 then (c_deg ct td a b, 0) else (-1000, 2)) else (-1000, 1)
noncomputable def x_cold (ct td : Nat → Int) (a b : Int) : Int × Int := if 0 ≤ a ∧ a < ct 2 then (if 0 ≤ b ∧ b ≤ 999 then (if fstZ (fun m => c_deg ct td a m < c_get td 1 0 0) b (1000 - b).toNat = -1 then -2 else fstZ (fun m => c_deg ct td a m < c_get td 1 0 0) b (1000 - b).toNat, 0) else (-1, 2)) else (-1, 1)
def x_meets (ct td si : Nat → Int) (a : Int) : Int × Int := if 0 < c_rows ct td then (if 0 ≤ a ∧ a ≤ c_rows ct td then (c_sec ct td si a, 0) else (-1, 2)) else (-1, 1)
def x_lacking (ct td si ld : Nat → Int) (a : Int) : Int × Int := if 0 < c_rows ct td then (if 0 ≤ a ∧ a ≤ c_rows ct td then (c_lack ct td si ld a, 0) else (-1, 2)) else (-1, 1)
def so1 (f : Int → Int) (s : Int × Int) (x : Int) : Int × Int := if f (1 + x) < s.2 then (1 + x, f (1 + x)) else s
def soF (f : Int → Int) (k : Nat) : Int × Int := foldS (so1 f) (0, f 0) k
def x_soonest (ct td si : Nat → Int) : Int × Int := if 0 < c_rows ct td then ((soF (c_sec ct td si) (c_rows ct td).toNat).1, 0) else (-1, 1)
def x_fairest (ct td si ld : Nat → Int) : Int × Int := if 0 < c_rows ct td then ((soF (c_lack ct td si ld) (c_rows ct td).toNat).1, 0) else (-1, 1)
noncomputable def x_met (ct td g3 : Nat → Int) : Int × Int := @ite (Int × Int) (∃ i : Int, 0 ≤ i ∧ i < ct 5 ∧ c_get td 5 i 0 = 0) (Classical.propDecidable _) (if g3 5 < g3 4 then (g3 4 - 1, 0) else (-1, 5)) (-1, 1)
def x_load (ct td si : Nat → Int) (a b : Int) : Int × Int := if 0 ≤ a ∧ a < ct 2 then (if c_former ct td si a b = -1 then (-1, 6) else (c_former ct td si a b, 0)) else (-1, 1)
def x_spare (ct td si ld : Nat → Int) (a : Int) : Int × Int := if 0 ≤ a ∧ a < ct 2 then (if c_former ct td si a 1 = -1 then (-1000, 6) else (c_load ld 0 a + c_load ld 1 a - c_former ct td si a 1, 0)) else (-1000, 1)
noncomputable def x_waits (ct td g3 fa : Nat → Int) (a : Int) : Int × Int := if 0 ≤ a ∧ a < ct 11 then (c_wait ct td g3 fa a, 0) else (-1, 1)
noncomputable def x_on (ct td g3 fa : Nat → Int) (a b : Int) : Int × Int := if 0 ≤ a ∧ a < ct 5 then (if 0 ≤ b ∧ b ≤ 99999 then (if c_on ct td g3 fa a b = -1 then -2 else c_on ct td g3 fa a b, 0) else (-1, 2)) else (-1, 1)
def x_given (tr : Nat → Int) (a : Int) : Int × Int := if coinI a = -1 then (-1, 2) else (tr (coinI a).toNat, 0)
def x_sum (ct td g3 fa : Nat → Int) (a : Int) : Int × Int := if 0 < c_rows ct td then (if a = 0 then (c_sumf fa 6, 0) else if a = 1 then (c_sumf fa 3, 0) else if a = 2 then (c_sumf fa 4, 0) else if a = 3 then (c_sumf fa 5, 0) else if a = 4 then (g3 6, 0) else if a = 5 then (c_rows ct td - (g3 5 - g3 4 + 1), 0) else (-1, 1)) else (-1, 1)
set_option maxHeartbeats 1000000 in
set_option maxRecDepth 20000 in
theorem s_X7_sits {l : Launch} {n : Nat} {M : jdM} {a cu dr : Nat} {g bs : Nat → Int} {p : TS} {ct td bk si ld : Nat → Int} {D : FS} {g3 sp sk fa go : Nat → Int} {mk : Nat → FS} {tg tk tr : Nat → Int} (hS : SXc M n a cu dr (g, bs, p, (ct, td, bk, si, ld), D, (g3, sp, sk, fa, go), mk, tg, tk, tr)) {x : Int} (hx : -2147483648 ≤ x ∧ x < 2147483648)  : Ct l yX7_sits cX7_sits 2 (some .int) rX7_sits [.ref a, jI x] n M (fun vv n' M' => (vv = some (jI (x_sits ct td si x).1) ∧ n = n') ∧ SXc M' n a cu dr (up g 10 (x_sits ct td si x).2, bs, p, (ct, td, bk, si, ld), D, (g3, sp, sk, fa, go), mk, tg, tk, tr) ∧ fr (XSf a) M M') := by
  refine Ct_of [some (.ref a), some (jI x)] (by decide) (Nat.le_of_ble_eq_true rfl) rfl (fun κ hl h hR hRt hmn hn0 => ?_)
  have h : Ok κ RX7 cX7_sits 2 (some .int) := h
  obtain ⟨han, hcd, hO7, hT7, hF7, hG7, hR7, hA7, hK7, hD7, hQ7, hB7⟩ := id hS
  have hO7 : M a = jdO 7 (fX7 a cu dr _) := hO7
  try dsimp only at hO7
  try dsimp only at hT7
  try dsimp only at hK7
  try dsimp only at hB7
  have hF : Fl M n cu ct td bk si ld := hF7
  have hRn : Rn M n (a + 19) g3 sp sk fa go := hR7
  obtain ⟨hnF, hOF, hAF, hBF, hCF, hDF, hEF, rA, rB, r0, rC, rD, rE⟩ := id hF
  obtain ⟨hnR, hOR, -⟩ := id hRn
  obtain ⟨dg, rm, wn, be, hDr, hwn, hbe⟩ := id hD7
  obtain ⟨hnD, hOD, -⟩ := id hDr
  obtain ⟨og, ww, hOd⟩ := id hQ7
  obtain ⟨hnQ, hOQ, -⟩ := id hOd
  obtain ⟨fc, wf, hTi⟩ := id hB7
  obtain ⟨hnB, hOB, -⟩ := id hTi
  obtain ⟨ht7, hOT, hTk, hPO, -⟩ := id hT7
  have ctr : 0 ≤ c_rows ct td ∧ c_rows ct td ≤ 40 := by
    unfold c_rows c_get
    have := (rB 0).1
    split
    · omega
    · rw [if_pos (by omega)]
      exact ⟨this, r0⟩
  have c2 := rA 2
  have c5 := rA 5
  have c8 := rA 8
  have f1 : fr (XSf a) M M := fr_rf
  refine jr_aload_n (pc := 0) h dX7_sits_0 rfl ?_
  refine jr_iload_n (pc := 1) h dX7_sits_1 rfl ?_
  refine iv_X7_99 (pc := 2) h hl hR dX7_sits_2 ⟨(Nat.le_of_ble_eq_true rfl), (Nat.le_of_ble_eq_true rfl), (Nat.le_of_ble_eq_true rfl), (Nat.le_of_ble_eq_true rfl)⟩ (Nat.le_of_ble_eq_true rfl) (by assumption) (by omega) (s_X7_isRow hS (by omega)) (fun v_2 n_2 M_2 hn_2 hp => ?_)
  obtain ⟨⟨rfl, rfl, rfl⟩, gr_2⟩ := hp
  refine jr_if_eq (pc := 5) h 23 dX7_sits_5 (by decide) (by omega) (fun c_5 => ?_) (fun c_5 => ?_)
  · first | have d_5 := bz_0.mp c_5 | have d_5 := bz_1.mp c_5 | skip
    refine jr_aload_n (pc := 23) h dX7_sits_23 rfl ?_
    refine jr_iconst (pc := 24) h dX7_sits_24 ?_
    refine iv_X7_66 (pc := 25) h hl hR dX7_sits_25 ⟨(Nat.le_of_ble_eq_true rfl), (Nat.le_of_ble_eq_true rfl), (Nat.le_of_ble_eq_true rfl), (Nat.le_of_ble_eq_true rfl)⟩ (Nat.le_of_ble_eq_true rfl) (by assumption) (by omega) (s_X7_refuse hS) (fun v_25 n_25 M_25 hn_25 hp => ?_)
    obtain ⟨⟨rfl, rfl⟩, hS, fa_⟩ := hp
    have f1 := fr_tr f1 fa_
    refine jr_iret (pc := 28) h hRt dX7_sits_28 rfl (Nat.le_of_ble_eq_true rfl) (Nat.le_of_ble_eq_true rfl) ?_
    refine lfA ?_ hS f1
    unfold x_sits
    (repeat' split) <;> first | rfl | (exfalso; omega) | contradiction
  · first | have d_5 := bz_0.mp c_5 | have d_5 := bz_1.mp c_5 | skip
    refine jr_aload_n (pc := 8) h dX7_sits_8 rfl ?_
    refine jr_aload_n (pc := 9) h dX7_sits_9 rfl ?_
    refine gf_X7_19 (pc := 10) h dX7_sits_10 (by assumption) (by omega) ?_
    refine jr_iload_n (pc := 13) h dX7_sits_13 rfl ?_
    refine iv_X7_103 (pc := 14) h hl hR dX7_sits_14 ⟨(Nat.le_of_ble_eq_true rfl), (Nat.le_of_ble_eq_true rfl), (Nat.le_of_ble_eq_true rfl), (Nat.le_of_ble_eq_true rfl)⟩ (Nat.le_of_ble_eq_true rfl) (by assumption) (by omega) (s_X1_sitting hF (by omega)) (fun v_14 n_14 M_14 hn_14 hp => ?_)
    obtain ⟨⟨rfl, rfl, rfl⟩, gr_14⟩ := hp
    refine iv_X7_93 (pc := 17) h hl hR dX7_sits_17 ⟨(Nat.le_of_ble_eq_true rfl), (Nat.le_of_ble_eq_true rfl), (Nat.le_of_ble_eq_true rfl), (Nat.le_of_ble_eq_true rfl)⟩ (Nat.le_of_ble_eq_true rfl) (by assumption) (by omega) (s_X7_accept hS) (fun v_17 n_17 M_17 hn_17 hp => ?_)
    obtain ⟨⟨rfl, rfl⟩, hS, fa_⟩ := hp
    have f1 := fr_tr f1 fa_
    refine jr_goto (pc := 20) h 28 dX7_sits_20 (by decide) ?_
    refine jr_iret (pc := 28) h hRt dX7_sits_28 rfl (Nat.le_of_ble_eq_true rfl) (Nat.le_of_ble_eq_true rfl) ?_
    refine lfA ?_ hS f1
    unfold x_sits
    (repeat' split) <;> first | rfl | (exfalso; omega) | contradiction
set_option maxHeartbeats 1000000 in
set_option maxRecDepth 20000 in
theorem s_X7_all {l : Launch} {n : Nat} {M : jdM} {a cu dr : Nat} {g bs : Nat → Int} {p : TS} {ct td bk si ld : Nat → Int} {D : FS} {g3 sp sk fa go : Nat → Int} {mk : Nat → FS} {tg tk tr : Nat → Int} (hS : SXc M n a cu dr (g, bs, p, (ct, td, bk, si, ld), D, (g3, sp, sk, fa, go), mk, tg, tk, tr))  : Ct l yX7_all cX7_all 1 (some .int) rX7_all [.ref a] n M (fun vv n' M' => (vv = some (jI (x_all ct td si).1) ∧ n = n') ∧ SXc M' n a cu dr (up g 10 (x_all ct td si).2, bs, p, (ct, td, bk, si, ld), D, (g3, sp, sk, fa, go), mk, tg, tk, tr) ∧ fr (XSf a) M M') := by
  refine Ct_of [some (.ref a)] (by decide) (Nat.le_of_ble_eq_true rfl) rfl (fun κ hl h hR hRt hmn hn0 => ?_)
  have h : Ok κ RX7 cX7_all 1 (some .int) := h
  obtain ⟨han, hcd, hO7, hT7, hF7, hG7, hR7, hA7, hK7, hD7, hQ7, hB7⟩ := id hS
  have hO7 : M a = jdO 7 (fX7 a cu dr _) := hO7
  try dsimp only at hO7
  try dsimp only at hT7
  try dsimp only at hK7
  try dsimp only at hB7
  have hF : Fl M n cu ct td bk si ld := hF7
  have hRn : Rn M n (a + 19) g3 sp sk fa go := hR7
  obtain ⟨hnF, hOF, hAF, hBF, hCF, hDF, hEF, rA, rB, r0, rC, rD, rE⟩ := id hF
  obtain ⟨hnR, hOR, -⟩ := id hRn
  obtain ⟨dg, rm, wn, be, hDr, hwn, hbe⟩ := id hD7
  obtain ⟨hnD, hOD, -⟩ := id hDr
  obtain ⟨og, ww, hOd⟩ := id hQ7
  obtain ⟨hnQ, hOQ, -⟩ := id hOd
  obtain ⟨fc, wf, hTi⟩ := id hB7
  obtain ⟨hnB, hOB, -⟩ := id hTi
  obtain ⟨ht7, hOT, hTk, hPO, -⟩ := id hT7
  have ctr : 0 ≤ c_rows ct td ∧ c_rows ct td ≤ 40 := by
    unfold c_rows c_get
    have := (rB 0).1
    split
    · omega
    · rw [if_pos (by omega)]
      exact ⟨this, r0⟩
  have c2 := rA 2
  have c5 := rA 5
  have c8 := rA 8
  have f1 : fr (XSf a) M M := fr_rf
  refine jr_aload_n (pc := 0) h dX7_all_0 rfl ?_
  refine iv_X7_106 (pc := 1) h hl hR dX7_all_1 ⟨(Nat.le_of_ble_eq_true rfl), (Nat.le_of_ble_eq_true rfl), (Nat.le_of_ble_eq_true rfl), (Nat.le_of_ble_eq_true rfl)⟩ (Nat.le_of_ble_eq_true rfl) (by assumption) (by omega) (s_X7_hasFlight hS) (fun v_1 n_1 M_1 hn_1 hp => ?_)
  obtain ⟨⟨rfl, rfl, rfl⟩, gr_1⟩ := hp
  refine jr_if_eq (pc := 4) h 29 dX7_all_4 (by decide) (by omega) (fun c_4 => ?_) (fun c_4 => ?_)
  · first | have d_4 := bz_0.mp c_4 | have d_4 := bz_1.mp c_4 | skip
    refine jr_aload_n (pc := 29) h dX7_all_29 rfl ?_
    refine jr_iconst (pc := 30) h dX7_all_30 ?_
    refine iv_X7_66 (pc := 31) h hl hR dX7_all_31 ⟨(Nat.le_of_ble_eq_true rfl), (Nat.le_of_ble_eq_true rfl), (Nat.le_of_ble_eq_true rfl), (Nat.le_of_ble_eq_true rfl)⟩ (Nat.le_of_ble_eq_true rfl) (by assumption) (by omega) (s_X7_refuse hS) (fun v_31 n_31 M_31 hn_31 hp => ?_)
    obtain ⟨⟨rfl, rfl⟩, hS, fa_⟩ := hp
    have f1 := fr_tr f1 fa_
    refine jr_iret (pc := 34) h hRt dX7_all_34 rfl (Nat.le_of_ble_eq_true rfl) (Nat.le_of_ble_eq_true rfl) ?_
    refine lfA ?_ hS f1
    unfold x_all
    (repeat' split) <;> first | rfl | (exfalso; omega) | contradiction
  · first | have d_4 := bz_0.mp c_4 | have d_4 := bz_1.mp c_4 | skip
    refine jr_aload_n (pc := 7) h dX7_all_7 rfl ?_
    refine jr_aload_n (pc := 8) h dX7_all_8 rfl ?_
    refine gf_X7_19 (pc := 9) h dX7_all_9 (by assumption) (by omega) ?_
    refine jr_iconst (pc := 12) h dX7_all_12 ?_
    refine jr_aload_n (pc := 13) h dX7_all_13 rfl ?_
    refine gf_X7_19 (pc := 14) h dX7_all_14 (by assumption) (by omega) ?_
    refine iv_X7_110 (pc := 17) h hl hR dX7_all_17 ⟨(Nat.le_of_ble_eq_true rfl), (Nat.le_of_ble_eq_true rfl), (Nat.le_of_ble_eq_true rfl), (Nat.le_of_ble_eq_true rfl)⟩ (Nat.le_of_ble_eq_true rfl) (by assumption) (by omega) (s_X1_rows hF) (fun v_17 n_17 M_17 hn_17 hp => ?_)
    obtain ⟨⟨rfl, rfl, rfl⟩, gr_17⟩ := hp
    refine iv_X7_113 (pc := 20) h hl hR dX7_all_20 ⟨(Nat.le_of_ble_eq_true rfl), (Nat.le_of_ble_eq_true rfl), (Nat.le_of_ble_eq_true rfl), (Nat.le_of_ble_eq_true rfl)⟩ (Nat.le_of_ble_eq_true rfl) (by assumption) (by omega) (s_X1_sittingWithin hF (by omega) (by omega)) (fun v_20 n_20 M_20 hn_20 hp => ?_)
    obtain ⟨⟨rfl, rfl, rfl⟩, gr_20⟩ := hp
    refine iv_X7_93 (pc := 23) h hl hR dX7_all_23 ⟨(Nat.le_of_ble_eq_true rfl), (Nat.le_of_ble_eq_true rfl), (Nat.le_of_ble_eq_true rfl), (Nat.le_of_ble_eq_true rfl)⟩ (Nat.le_of_ble_eq_true rfl) (by assumption) (by omega) (s_X7_accept hS) (fun v_23 n_23 M_23 hn_23 hp => ?_)
    obtain ⟨⟨rfl, rfl⟩, hS, fa_⟩ := hp
    have f1 := fr_tr f1 fa_
    refine jr_goto (pc := 26) h 34 dX7_all_26 (by decide) ?_
    refine jr_iret (pc := 34) h hRt dX7_all_34 rfl (Nat.le_of_ble_eq_true rfl) (Nat.le_of_ble_eq_true rfl) ?_
    refine lfA ?_ hS f1
    unfold x_all
    (repeat' split) <;> first | rfl | (exfalso; omega) | contradiction
set_option maxHeartbeats 1000000 in
set_option maxRecDepth 20000 in
theorem s_X7_likes {l : Launch} {n : Nat} {M : jdM} {a cu dr : Nat} {g bs : Nat → Int} {p : TS} {ct td bk si ld : Nat → Int} {D : FS} {g3 sp sk fa go : Nat → Int} {mk : Nat → FS} {tg tk tr : Nat → Int} (hS : SXc M n a cu dr (g, bs, p, (ct, td, bk, si, ld), D, (g3, sp, sk, fa, go), mk, tg, tk, tr)) {x y : Int} (hx : -2147483648 ≤ x ∧ x < 2147483648) (hy : -2147483648 ≤ y ∧ y < 2147483648)  : Ct l yX7_likes cX7_likes 3 (some .int) rX7_likes [.ref a, jI x, jI y] n M (fun vv n' M' => (vv = some (jI (x_likes ct td bk x y).1) ∧ n = n') ∧ SXc M' n a cu dr (up g 10 (x_likes ct td bk x y).2, bs, p, (ct, td, bk, si, ld), D, (g3, sp, sk, fa, go), mk, tg, tk, tr) ∧ fr (XSf a) M M') := by
  refine Ct_of [some (.ref a), some (jI x), some (jI y)] (by decide) (Nat.le_of_ble_eq_true rfl) rfl (fun κ hl h hR hRt hmn hn0 => ?_)
  have h : Ok κ RX7 cX7_likes 3 (some .int) := h
  obtain ⟨han, hcd, hO7, hT7, hF7, hG7, hR7, hA7, hK7, hD7, hQ7, hB7⟩ := id hS
  have hO7 : M a = jdO 7 (fX7 a cu dr _) := hO7
  try dsimp only at hO7
  try dsimp only at hT7
  try dsimp only at hK7
  try dsimp only at hB7
  have hF : Fl M n cu ct td bk si ld := hF7
  have hRn : Rn M n (a + 19) g3 sp sk fa go := hR7
  obtain ⟨hnF, hOF, hAF, hBF, hCF, hDF, hEF, rA, rB, r0, rC, rD, rE⟩ := id hF
  obtain ⟨hnR, hOR, -⟩ := id hRn
  obtain ⟨dg, rm, wn, be, hDr, hwn, hbe⟩ := id hD7
  obtain ⟨hnD, hOD, -⟩ := id hDr
  obtain ⟨og, ww, hOd⟩ := id hQ7
  obtain ⟨hnQ, hOQ, -⟩ := id hOd
  obtain ⟨fc, wf, hTi⟩ := id hB7
  obtain ⟨hnB, hOB, -⟩ := id hTi
  obtain ⟨ht7, hOT, hTk, hPO, -⟩ := id hT7
  have ctr : 0 ≤ c_rows ct td ∧ c_rows ct td ≤ 40 := by
    unfold c_rows c_get
    have := (rB 0).1
    split
    · omega
    · rw [if_pos (by omega)]
      exact ⟨this, r0⟩
  have c2 := rA 2
  have c5 := rA 5
  have c8 := rA 8
  have f1 : fr (XSf a) M M := fr_rf
  refine jr_aload_n (pc := 0) h dX7_likes_0 rfl ?_
  refine jr_iload_n (pc := 1) h dX7_likes_1 rfl ?_
  refine iv_X7_99 (pc := 2) h hl hR dX7_likes_2 ⟨(Nat.le_of_ble_eq_true rfl), (Nat.le_of_ble_eq_true rfl), (Nat.le_of_ble_eq_true rfl), (Nat.le_of_ble_eq_true rfl)⟩ (Nat.le_of_ble_eq_true rfl) (by assumption) (by omega) (s_X7_isRow hS (by omega)) (fun v_2 n_2 M_2 hn_2 hp => ?_)
  obtain ⟨⟨rfl, rfl, rfl⟩, gr_2⟩ := hp
  refine jr_if_eq (pc := 5) h 32 dX7_likes_5 (by decide) (by omega) (fun c_5 => ?_) (fun c_5 => ?_)
  · first | have d_5 := bz_0.mp c_5 | have d_5 := bz_1.mp c_5 | skip
    refine jr_aload_n (pc := 32) h dX7_likes_32 rfl ?_
    refine jr_iconst (pc := 33) h dX7_likes_33 ?_
    refine iv_X7_66 (pc := 34) h hl hR dX7_likes_34 ⟨(Nat.le_of_ble_eq_true rfl), (Nat.le_of_ble_eq_true rfl), (Nat.le_of_ble_eq_true rfl), (Nat.le_of_ble_eq_true rfl)⟩ (Nat.le_of_ble_eq_true rfl) (by assumption) (by omega) (s_X7_refuse hS) (fun v_34 n_34 M_34 hn_34 hp => ?_)
    obtain ⟨⟨rfl, rfl⟩, hS, fa_⟩ := hp
    have f1 := fr_tr f1 fa_
    refine jr_iret (pc := 37) h hRt dX7_likes_37 rfl (Nat.le_of_ble_eq_true rfl) (Nat.le_of_ble_eq_true rfl) ?_
    refine lfA ?_ hS f1
    unfold x_likes
    (repeat' split) <;> first | rfl | (exfalso; omega) | contradiction
  · first | have d_5 := bz_0.mp c_5 | have d_5 := bz_1.mp c_5 | skip
    refine jr_aload_n (pc := 8) h dX7_likes_8 rfl ?_
    refine jr_iload_n (pc := 9) h dX7_likes_9 rfl ?_
    refine iv_X7_117 (pc := 10) h hl hR dX7_likes_10 ⟨(Nat.le_of_ble_eq_true rfl), (Nat.le_of_ble_eq_true rfl), (Nat.le_of_ble_eq_true rfl), (Nat.le_of_ble_eq_true rfl)⟩ (Nat.le_of_ble_eq_true rfl) (by assumption) (by omega) (s_X7_isKind hS (by omega)) (fun v_10 n_10 M_10 hn_10 hp => ?_)
    obtain ⟨⟨rfl, rfl, rfl⟩, gr_10⟩ := hp
    refine jr_if_eq (pc := 13) h 32 dX7_likes_13 (by decide) (by omega) (fun c_13 => ?_) (fun c_13 => ?_)
    · first | have d_13 := bz_0.mp c_13 | have d_13 := bz_1.mp c_13 | skip
      refine jr_aload_n (pc := 32) h dX7_likes_32 rfl ?_
      refine jr_iconst (pc := 33) h dX7_likes_33 ?_
      refine iv_X7_66 (pc := 34) h hl hR dX7_likes_34 ⟨(Nat.le_of_ble_eq_true rfl), (Nat.le_of_ble_eq_true rfl), (Nat.le_of_ble_eq_true rfl), (Nat.le_of_ble_eq_true rfl)⟩ (Nat.le_of_ble_eq_true rfl) (by assumption) (by omega) (s_X7_refuse hS) (fun v_34 n_34 M_34 hn_34 hp => ?_)
      obtain ⟨⟨rfl, rfl⟩, hS, fa_⟩ := hp
      have f1 := fr_tr f1 fa_
      refine jr_iret (pc := 37) h hRt dX7_likes_37 rfl (Nat.le_of_ble_eq_true rfl) (Nat.le_of_ble_eq_true rfl) ?_
      refine lfA ?_ hS f1
      unfold x_likes
      (repeat' split) <;> first | rfl | (exfalso; omega) | contradiction
    · first | have d_13 := bz_0.mp c_13 | have d_13 := bz_1.mp c_13 | skip
      refine jr_aload_n (pc := 16) h dX7_likes_16 rfl ?_
      refine jr_aload_n (pc := 17) h dX7_likes_17 rfl ?_
      refine gf_X7_19 (pc := 18) h dX7_likes_18 (by assumption) (by omega) ?_
      refine jr_iload_n (pc := 21) h dX7_likes_21 rfl ?_
      refine jr_iload_n (pc := 22) h dX7_likes_22 rfl ?_
      refine iv_X7_120 (pc := 23) h hl hR dX7_likes_23 ⟨(Nat.le_of_ble_eq_true rfl), (Nat.le_of_ble_eq_true rfl), (Nat.le_of_ble_eq_true rfl), (Nat.le_of_ble_eq_true rfl)⟩ (Nat.le_of_ble_eq_true rfl) (by assumption) (by omega) (s_X1_weight hF (by omega) (by omega)) (fun v_23 n_23 M_23 hn_23 hp => ?_)
      obtain ⟨⟨rfl, rfl, rfl⟩, gr_23⟩ := hp
      refine iv_X7_93 (pc := 26) h hl hR dX7_likes_26 ⟨(Nat.le_of_ble_eq_true rfl), (Nat.le_of_ble_eq_true rfl), (Nat.le_of_ble_eq_true rfl), (Nat.le_of_ble_eq_true rfl)⟩ (Nat.le_of_ble_eq_true rfl) (by assumption) (by omega) (s_X7_accept hS) (fun v_26 n_26 M_26 hn_26 hp => ?_)
      obtain ⟨⟨rfl, rfl⟩, hS, fa_⟩ := hp
      have f1 := fr_tr f1 fa_
      refine jr_goto (pc := 29) h 37 dX7_likes_29 (by decide) ?_
      refine jr_iret (pc := 37) h hRt dX7_likes_37 rfl (Nat.le_of_ble_eq_true rfl) (Nat.le_of_ble_eq_true rfl) ?_
      refine lfA ?_ hS f1
      unfold x_likes
      (repeat' split) <;> first | rfl | (exfalso; omega) | contradiction
set_option maxHeartbeats 1000000 in
set_option maxRecDepth 20000 in
theorem s_X7_loaded {l : Launch} {n : Nat} {M : jdM} {a cu dr : Nat} {g bs : Nat → Int} {p : TS} {ct td bk si ld : Nat → Int} {D : FS} {g3 sp sk fa go : Nat → Int} {mk : Nat → FS} {tg tk tr : Nat → Int} (hS : SXc M n a cu dr (g, bs, p, (ct, td, bk, si, ld), D, (g3, sp, sk, fa, go), mk, tg, tk, tr)) {x y : Int} (hx : -2147483648 ≤ x ∧ x < 2147483648) (hy : -2147483648 ≤ y ∧ y < 2147483648)  : Ct l yX7_loaded cX7_loaded 3 (some .int) rX7_loaded [.ref a, jI x, jI y] n M (fun vv n' M' => (vv = some (jI (x_loaded ct ld x y).1) ∧ n = n') ∧ SXc M' n a cu dr (up g 10 (x_loaded ct ld x y).2, bs, p, (ct, td, bk, si, ld), D, (g3, sp, sk, fa, go), mk, tg, tk, tr) ∧ fr (XSf a) M M') := by
  refine Ct_of [some (.ref a), some (jI x), some (jI y)] (by decide) (Nat.le_of_ble_eq_true rfl) rfl (fun κ hl h hR hRt hmn hn0 => ?_)
  have h : Ok κ RX7 cX7_loaded 3 (some .int) := h
  obtain ⟨han, hcd, hO7, hT7, hF7, hG7, hR7, hA7, hK7, hD7, hQ7, hB7⟩ := id hS
  have hO7 : M a = jdO 7 (fX7 a cu dr _) := hO7
  try dsimp only at hO7
  try dsimp only at hT7
  try dsimp only at hK7
  try dsimp only at hB7
  have hF : Fl M n cu ct td bk si ld := hF7
  have hRn : Rn M n (a + 19) g3 sp sk fa go := hR7
  obtain ⟨hnF, hOF, hAF, hBF, hCF, hDF, hEF, rA, rB, r0, rC, rD, rE⟩ := id hF
  obtain ⟨hnR, hOR, -⟩ := id hRn
  obtain ⟨dg, rm, wn, be, hDr, hwn, hbe⟩ := id hD7
  obtain ⟨hnD, hOD, -⟩ := id hDr
  obtain ⟨og, ww, hOd⟩ := id hQ7
  obtain ⟨hnQ, hOQ, -⟩ := id hOd
  obtain ⟨fc, wf, hTi⟩ := id hB7
  obtain ⟨hnB, hOB, -⟩ := id hTi
  obtain ⟨ht7, hOT, hTk, hPO, -⟩ := id hT7
  have ctr : 0 ≤ c_rows ct td ∧ c_rows ct td ≤ 40 := by
    unfold c_rows c_get
    have := (rB 0).1
    split
    · omega
    · rw [if_pos (by omega)]
      exact ⟨this, r0⟩
  have c2 := rA 2
  have c5 := rA 5
  have c8 := rA 8
  have f1 : fr (XSf a) M M := fr_rf
  refine jr_aload_n (pc := 0) h dX7_loaded_0 rfl ?_
  refine jr_iload_n (pc := 1) h dX7_loaded_1 rfl ?_
  refine iv_X7_123 (pc := 2) h hl hR dX7_loaded_2 ⟨(Nat.le_of_ble_eq_true rfl), (Nat.le_of_ble_eq_true rfl), (Nat.le_of_ble_eq_true rfl), (Nat.le_of_ble_eq_true rfl)⟩ (Nat.le_of_ble_eq_true rfl) (by assumption) (by omega) (s_X7_isTrolley hS (by omega)) (fun v_2 n_2 M_2 hn_2 hp => ?_)
  obtain ⟨⟨rfl, rfl, rfl⟩, gr_2⟩ := hp
  refine jr_if_eq (pc := 5) h 32 dX7_loaded_5 (by decide) (by omega) (fun c_5 => ?_) (fun c_5 => ?_)
  · first | have d_5 := bz_0.mp c_5 | have d_5 := bz_1.mp c_5 | skip
    refine jr_aload_n (pc := 32) h dX7_loaded_32 rfl ?_
    refine jr_iconst (pc := 33) h dX7_loaded_33 ?_
    refine iv_X7_66 (pc := 34) h hl hR dX7_loaded_34 ⟨(Nat.le_of_ble_eq_true rfl), (Nat.le_of_ble_eq_true rfl), (Nat.le_of_ble_eq_true rfl), (Nat.le_of_ble_eq_true rfl)⟩ (Nat.le_of_ble_eq_true rfl) (by assumption) (by omega) (s_X7_refuse hS) (fun v_34 n_34 M_34 hn_34 hp => ?_)
    obtain ⟨⟨rfl, rfl⟩, hS, fa_⟩ := hp
    have f1 := fr_tr f1 fa_
    refine jr_iret (pc := 37) h hRt dX7_loaded_37 rfl (Nat.le_of_ble_eq_true rfl) (Nat.le_of_ble_eq_true rfl) ?_
    refine lfA ?_ hS f1
    unfold x_loaded
    (repeat' split) <;> first | rfl | (exfalso; omega) | contradiction
  · first | have d_5 := bz_0.mp c_5 | have d_5 := bz_1.mp c_5 | skip
    refine jr_aload_n (pc := 8) h dX7_loaded_8 rfl ?_
    refine jr_iload_n (pc := 9) h dX7_loaded_9 rfl ?_
    refine iv_X7_117 (pc := 10) h hl hR dX7_loaded_10 ⟨(Nat.le_of_ble_eq_true rfl), (Nat.le_of_ble_eq_true rfl), (Nat.le_of_ble_eq_true rfl), (Nat.le_of_ble_eq_true rfl)⟩ (Nat.le_of_ble_eq_true rfl) (by assumption) (by omega) (s_X7_isKind hS (by omega)) (fun v_10 n_10 M_10 hn_10 hp => ?_)
    obtain ⟨⟨rfl, rfl, rfl⟩, gr_10⟩ := hp
    refine jr_if_eq (pc := 13) h 32 dX7_loaded_13 (by decide) (by omega) (fun c_13 => ?_) (fun c_13 => ?_)
    · first | have d_13 := bz_0.mp c_13 | have d_13 := bz_1.mp c_13 | skip
      refine jr_aload_n (pc := 32) h dX7_loaded_32 rfl ?_
      refine jr_iconst (pc := 33) h dX7_loaded_33 ?_
      refine iv_X7_66 (pc := 34) h hl hR dX7_loaded_34 ⟨(Nat.le_of_ble_eq_true rfl), (Nat.le_of_ble_eq_true rfl), (Nat.le_of_ble_eq_true rfl), (Nat.le_of_ble_eq_true rfl)⟩ (Nat.le_of_ble_eq_true rfl) (by assumption) (by omega) (s_X7_refuse hS) (fun v_34 n_34 M_34 hn_34 hp => ?_)
      obtain ⟨⟨rfl, rfl⟩, hS, fa_⟩ := hp
      have f1 := fr_tr f1 fa_
      refine jr_iret (pc := 37) h hRt dX7_loaded_37 rfl (Nat.le_of_ble_eq_true rfl) (Nat.le_of_ble_eq_true rfl) ?_
      refine lfA ?_ hS f1
      unfold x_loaded
      (repeat' split) <;> first | rfl | (exfalso; omega) | contradiction
    · first | have d_13 := bz_0.mp c_13 | have d_13 := bz_1.mp c_13 | skip
      refine jr_aload_n (pc := 16) h dX7_loaded_16 rfl ?_
      refine jr_aload_n (pc := 17) h dX7_loaded_17 rfl ?_
      refine gf_X7_19 (pc := 18) h dX7_loaded_18 (by assumption) (by omega) ?_
      refine jr_iload_n (pc := 21) h dX7_loaded_21 rfl ?_
      refine jr_iload_n (pc := 22) h dX7_loaded_22 rfl ?_
      refine iv_X7_126 (pc := 23) h hl hR dX7_loaded_23 ⟨(Nat.le_of_ble_eq_true rfl), (Nat.le_of_ble_eq_true rfl), (Nat.le_of_ble_eq_true rfl), (Nat.le_of_ble_eq_true rfl)⟩ (Nat.le_of_ble_eq_true rfl) (by assumption) (by omega) (s_X1_loadOf hF (by omega) (by omega)) (fun v_23 n_23 M_23 hn_23 hp => ?_)
      obtain ⟨⟨rfl, rfl, rfl⟩, gr_23⟩ := hp
      refine iv_X7_93 (pc := 26) h hl hR dX7_loaded_26 ⟨(Nat.le_of_ble_eq_true rfl), (Nat.le_of_ble_eq_true rfl), (Nat.le_of_ble_eq_true rfl), (Nat.le_of_ble_eq_true rfl)⟩ (Nat.le_of_ble_eq_true rfl) (by assumption) (by omega) (s_X7_accept hS) (fun v_26 n_26 M_26 hn_26 hp => ?_)
      obtain ⟨⟨rfl, rfl⟩, hS, fa_⟩ := hp
      have f1 := fr_tr f1 fa_
      refine jr_goto (pc := 29) h 37 dX7_loaded_29 (by decide) ?_
      refine jr_iret (pc := 37) h hRt dX7_loaded_37 rfl (Nat.le_of_ble_eq_true rfl) (Nat.le_of_ble_eq_true rfl) ?_
      refine lfA ?_ hS f1
      unfold x_loaded
      (repeat' split) <;> first | rfl | (exfalso; omega) | contradiction
set_option maxHeartbeats 1000000 in
set_option maxRecDepth 20000 in
theorem s_X7_seconds {l : Launch} {n : Nat} {M : jdM} {a cu dr : Nat} {g bs : Nat → Int} {p : TS} {ct td bk si ld : Nat → Int} {D : FS} {g3 sp sk fa go : Nat → Int} {mk : Nat → FS} {tg tk tr : Nat → Int} (hS : SXc M n a cu dr (g, bs, p, (ct, td, bk, si, ld), D, (g3, sp, sk, fa, go), mk, tg, tk, tr)) {x : Int} (hx : -2147483648 ≤ x ∧ x < 2147483648)  : Ct l yX7_seconds cX7_seconds 2 (some .int) rX7_seconds [.ref a, jI x] n M (fun vv n' M' => (vv = some (jI (x_seconds ct sp x).1) ∧ n = n') ∧ SXc M' n a cu dr (up g 10 (x_seconds ct sp x).2, bs, p, (ct, td, bk, si, ld), D, (g3, sp, sk, fa, go), mk, tg, tk, tr) ∧ fr (XSf a) M M') := by
  refine Ct_of [some (.ref a), some (jI x)] (by decide) (Nat.le_of_ble_eq_true rfl) rfl (fun κ hl h hR hRt hmn hn0 => ?_)
  have h : Ok κ RX7 cX7_seconds 2 (some .int) := h
  obtain ⟨han, hcd, hO7, hT7, hF7, hG7, hR7, hA7, hK7, hD7, hQ7, hB7⟩ := id hS
  have hO7 : M a = jdO 7 (fX7 a cu dr _) := hO7
  try dsimp only at hO7
  try dsimp only at hT7
  try dsimp only at hK7
  try dsimp only at hB7
  have hF : Fl M n cu ct td bk si ld := hF7
  have hRn : Rn M n (a + 19) g3 sp sk fa go := hR7
  obtain ⟨hnF, hOF, hAF, hBF, hCF, hDF, hEF, rA, rB, r0, rC, rD, rE⟩ := id hF
  obtain ⟨hnR, hOR, -⟩ := id hRn
  obtain ⟨dg, rm, wn, be, hDr, hwn, hbe⟩ := id hD7
  obtain ⟨hnD, hOD, -⟩ := id hDr
  obtain ⟨og, ww, hOd⟩ := id hQ7
  obtain ⟨hnQ, hOQ, -⟩ := id hOd
  obtain ⟨fc, wf, hTi⟩ := id hB7
  obtain ⟨hnB, hOB, -⟩ := id hTi
  obtain ⟨ht7, hOT, hTk, hPO, -⟩ := id hT7
  have ctr : 0 ≤ c_rows ct td ∧ c_rows ct td ≤ 40 := by
    unfold c_rows c_get
    have := (rB 0).1
    split
    · omega
    · rw [if_pos (by omega)]
      exact ⟨this, r0⟩
  have c2 := rA 2
  have c5 := rA 5
  have c8 := rA 8
  have f1 : fr (XSf a) M M := fr_rf
  refine jr_aload_n (pc := 0) h dX7_seconds_0 rfl ?_
  refine jr_iload_n (pc := 1) h dX7_seconds_1 rfl ?_
  refine iv_X7_123 (pc := 2) h hl hR dX7_seconds_2 ⟨(Nat.le_of_ble_eq_true rfl), (Nat.le_of_ble_eq_true rfl), (Nat.le_of_ble_eq_true rfl), (Nat.le_of_ble_eq_true rfl)⟩ (Nat.le_of_ble_eq_true rfl) (by assumption) (by omega) (s_X7_isTrolley hS (by omega)) (fun v_2 n_2 M_2 hn_2 hp => ?_)
  obtain ⟨⟨rfl, rfl, rfl⟩, gr_2⟩ := hp
  refine jr_if_eq (pc := 5) h 23 dX7_seconds_5 (by decide) (by omega) (fun c_5 => ?_) (fun c_5 => ?_)
  · first | have d_5 := bz_0.mp c_5 | have d_5 := bz_1.mp c_5 | skip
    refine jr_aload_n (pc := 23) h dX7_seconds_23 rfl ?_
    refine jr_iconst (pc := 24) h dX7_seconds_24 ?_
    refine iv_X7_66 (pc := 25) h hl hR dX7_seconds_25 ⟨(Nat.le_of_ble_eq_true rfl), (Nat.le_of_ble_eq_true rfl), (Nat.le_of_ble_eq_true rfl), (Nat.le_of_ble_eq_true rfl)⟩ (Nat.le_of_ble_eq_true rfl) (by assumption) (by omega) (s_X7_refuse hS) (fun v_25 n_25 M_25 hn_25 hp => ?_)
    obtain ⟨⟨rfl, rfl⟩, hS, fa_⟩ := hp
    have f1 := fr_tr f1 fa_
    refine jr_iret (pc := 28) h hRt dX7_seconds_28 rfl (Nat.le_of_ble_eq_true rfl) (Nat.le_of_ble_eq_true rfl) ?_
    refine lfA ?_ hS f1
    unfold x_seconds
    (repeat' split) <;> first | rfl | (exfalso; omega) | contradiction
  · first | have d_5 := bz_0.mp c_5 | have d_5 := bz_1.mp c_5 | skip
    refine jr_aload_n (pc := 8) h dX7_seconds_8 rfl ?_
    refine jr_aload_n (pc := 9) h dX7_seconds_9 rfl ?_
    refine gf_X7_29 (pc := 10) h dX7_seconds_10 (by assumption) (by omega) ?_
    refine jr_iload_n (pc := 13) h dX7_seconds_13 rfl ?_
    refine iv_X7_147 (pc := 14) h hl hR dX7_seconds_14 ⟨(Nat.le_of_ble_eq_true rfl), (Nat.le_of_ble_eq_true rfl), (Nat.le_of_ble_eq_true rfl), (Nat.le_of_ble_eq_true rfl)⟩ (Nat.le_of_ble_eq_true rfl) (by assumption) (by omega) (s_X3_secondsOf hRn (by omega)) (fun v_14 n_14 M_14 hn_14 hp => ?_)
    obtain ⟨rfl, rfl, rfl⟩ := hp
    refine iv_X7_93 (pc := 17) h hl hR dX7_seconds_17 ⟨(Nat.le_of_ble_eq_true rfl), (Nat.le_of_ble_eq_true rfl), (Nat.le_of_ble_eq_true rfl), (Nat.le_of_ble_eq_true rfl)⟩ (Nat.le_of_ble_eq_true rfl) (by assumption) (by omega) (s_X7_accept hS) (fun v_17 n_17 M_17 hn_17 hp => ?_)
    obtain ⟨⟨rfl, rfl⟩, hS, fa_⟩ := hp
    have f1 := fr_tr f1 fa_
    refine jr_goto (pc := 20) h 28 dX7_seconds_20 (by decide) ?_
    refine jr_iret (pc := 28) h hRt dX7_seconds_28 rfl (Nat.le_of_ble_eq_true rfl) (Nat.le_of_ble_eq_true rfl) ?_
    refine lfA ?_ hS f1
    unfold x_seconds
    (repeat' split) <;> first | rfl | (exfalso; omega) | contradiction
set_option maxHeartbeats 1000000 in
set_option maxRecDepth 20000 in
theorem s_X7_left {l : Launch} {n : Nat} {M : jdM} {a cu dr : Nat} {g bs : Nat → Int} {p : TS} {ct td bk si ld : Nat → Int} {D : FS} {g3 sp sk fa go : Nat → Int} {mk : Nat → FS} {tg tk tr : Nat → Int} (hS : SXc M n a cu dr (g, bs, p, (ct, td, bk, si, ld), D, (g3, sp, sk, fa, go), mk, tg, tk, tr)) {x y : Int} (hx : -2147483648 ≤ x ∧ x < 2147483648) (hy : -2147483648 ≤ y ∧ y < 2147483648)  : Ct l yX7_left cX7_left 3 (some .int) rX7_left [.ref a, jI x, jI y] n M (fun vv n' M' => (vv = some (jI (x_left ct sk x y).1) ∧ n = n') ∧ SXc M' n a cu dr (up g 10 (x_left ct sk x y).2, bs, p, (ct, td, bk, si, ld), D, (g3, sp, sk, fa, go), mk, tg, tk, tr) ∧ fr (XSf a) M M') := by
  refine Ct_of [some (.ref a), some (jI x), some (jI y)] (by decide) (Nat.le_of_ble_eq_true rfl) rfl (fun κ hl h hR hRt hmn hn0 => ?_)
  have h : Ok κ RX7 cX7_left 3 (some .int) := h
  obtain ⟨han, hcd, hO7, hT7, hF7, hG7, hR7, hA7, hK7, hD7, hQ7, hB7⟩ := id hS
  have hO7 : M a = jdO 7 (fX7 a cu dr _) := hO7
  try dsimp only at hO7
  try dsimp only at hT7
  try dsimp only at hK7
  try dsimp only at hB7
  have hF : Fl M n cu ct td bk si ld := hF7
  have hRn : Rn M n (a + 19) g3 sp sk fa go := hR7
  obtain ⟨hnF, hOF, hAF, hBF, hCF, hDF, hEF, rA, rB, r0, rC, rD, rE⟩ := id hF
  obtain ⟨hnR, hOR, -⟩ := id hRn
  obtain ⟨dg, rm, wn, be, hDr, hwn, hbe⟩ := id hD7
  obtain ⟨hnD, hOD, -⟩ := id hDr
  obtain ⟨og, ww, hOd⟩ := id hQ7
  obtain ⟨hnQ, hOQ, -⟩ := id hOd
  obtain ⟨fc, wf, hTi⟩ := id hB7
  obtain ⟨hnB, hOB, -⟩ := id hTi
  obtain ⟨ht7, hOT, hTk, hPO, -⟩ := id hT7
  have ctr : 0 ≤ c_rows ct td ∧ c_rows ct td ≤ 40 := by
    unfold c_rows c_get
    have := (rB 0).1
    split
    · omega
    · rw [if_pos (by omega)]
      exact ⟨this, r0⟩
  have c2 := rA 2
  have c5 := rA 5
  have c8 := rA 8
  have f1 : fr (XSf a) M M := fr_rf
  refine jr_aload_n (pc := 0) h dX7_left_0 rfl ?_
  refine jr_iload_n (pc := 1) h dX7_left_1 rfl ?_
  refine iv_X7_123 (pc := 2) h hl hR dX7_left_2 ⟨(Nat.le_of_ble_eq_true rfl), (Nat.le_of_ble_eq_true rfl), (Nat.le_of_ble_eq_true rfl), (Nat.le_of_ble_eq_true rfl)⟩ (Nat.le_of_ble_eq_true rfl) (by assumption) (by omega) (s_X7_isTrolley hS (by omega)) (fun v_2 n_2 M_2 hn_2 hp => ?_)
  obtain ⟨⟨rfl, rfl, rfl⟩, gr_2⟩ := hp
  refine jr_if_eq (pc := 5) h 32 dX7_left_5 (by decide) (by omega) (fun c_5 => ?_) (fun c_5 => ?_)
  · first | have d_5 := bz_0.mp c_5 | have d_5 := bz_1.mp c_5 | skip
    refine jr_aload_n (pc := 32) h dX7_left_32 rfl ?_
    refine jr_iconst (pc := 33) h dX7_left_33 ?_
    refine iv_X7_66 (pc := 34) h hl hR dX7_left_34 ⟨(Nat.le_of_ble_eq_true rfl), (Nat.le_of_ble_eq_true rfl), (Nat.le_of_ble_eq_true rfl), (Nat.le_of_ble_eq_true rfl)⟩ (Nat.le_of_ble_eq_true rfl) (by assumption) (by omega) (s_X7_refuse hS) (fun v_34 n_34 M_34 hn_34 hp => ?_)
    obtain ⟨⟨rfl, rfl⟩, hS, fa_⟩ := hp
    have f1 := fr_tr f1 fa_
    refine jr_iret (pc := 37) h hRt dX7_left_37 rfl (Nat.le_of_ble_eq_true rfl) (Nat.le_of_ble_eq_true rfl) ?_
    refine lfA ?_ hS f1
    unfold x_left
    (repeat' split) <;> first | rfl | (exfalso; omega) | contradiction
  · first | have d_5 := bz_0.mp c_5 | have d_5 := bz_1.mp c_5 | skip
    refine jr_aload_n (pc := 8) h dX7_left_8 rfl ?_
    refine jr_iload_n (pc := 9) h dX7_left_9 rfl ?_
    refine iv_X7_117 (pc := 10) h hl hR dX7_left_10 ⟨(Nat.le_of_ble_eq_true rfl), (Nat.le_of_ble_eq_true rfl), (Nat.le_of_ble_eq_true rfl), (Nat.le_of_ble_eq_true rfl)⟩ (Nat.le_of_ble_eq_true rfl) (by assumption) (by omega) (s_X7_isKind hS (by omega)) (fun v_10 n_10 M_10 hn_10 hp => ?_)
    obtain ⟨⟨rfl, rfl, rfl⟩, gr_10⟩ := hp
    refine jr_if_eq (pc := 13) h 32 dX7_left_13 (by decide) (by omega) (fun c_13 => ?_) (fun c_13 => ?_)
    · first | have d_13 := bz_0.mp c_13 | have d_13 := bz_1.mp c_13 | skip
      refine jr_aload_n (pc := 32) h dX7_left_32 rfl ?_
      refine jr_iconst (pc := 33) h dX7_left_33 ?_
      refine iv_X7_66 (pc := 34) h hl hR dX7_left_34 ⟨(Nat.le_of_ble_eq_true rfl), (Nat.le_of_ble_eq_true rfl), (Nat.le_of_ble_eq_true rfl), (Nat.le_of_ble_eq_true rfl)⟩ (Nat.le_of_ble_eq_true rfl) (by assumption) (by omega) (s_X7_refuse hS) (fun v_34 n_34 M_34 hn_34 hp => ?_)
      obtain ⟨⟨rfl, rfl⟩, hS, fa_⟩ := hp
      have f1 := fr_tr f1 fa_
      refine jr_iret (pc := 37) h hRt dX7_left_37 rfl (Nat.le_of_ble_eq_true rfl) (Nat.le_of_ble_eq_true rfl) ?_
      refine lfA ?_ hS f1
      unfold x_left
      (repeat' split) <;> first | rfl | (exfalso; omega) | contradiction
    · first | have d_13 := bz_0.mp c_13 | have d_13 := bz_1.mp c_13 | skip
      refine jr_aload_n (pc := 16) h dX7_left_16 rfl ?_
      refine jr_aload_n (pc := 17) h dX7_left_17 rfl ?_
      refine gf_X7_29 (pc := 18) h dX7_left_18 (by assumption) (by omega) ?_
      refine jr_iload_n (pc := 21) h dX7_left_21 rfl ?_
      refine jr_iload_n (pc := 22) h dX7_left_22 rfl ?_
      refine iv_X7_150 (pc := 23) h hl hR dX7_left_23 ⟨(Nat.le_of_ble_eq_true rfl), (Nat.le_of_ble_eq_true rfl), (Nat.le_of_ble_eq_true rfl), (Nat.le_of_ble_eq_true rfl)⟩ (Nat.le_of_ble_eq_true rfl) (by assumption) (by omega) (s_X3_leftOf hRn (by omega) (by omega)) (fun v_23 n_23 M_23 hn_23 hp => ?_)
      obtain ⟨rfl, rfl, rfl⟩ := hp
      refine iv_X7_93 (pc := 26) h hl hR dX7_left_26 ⟨(Nat.le_of_ble_eq_true rfl), (Nat.le_of_ble_eq_true rfl), (Nat.le_of_ble_eq_true rfl), (Nat.le_of_ble_eq_true rfl)⟩ (Nat.le_of_ble_eq_true rfl) (by assumption) (by omega) (s_X7_accept hS) (fun v_26 n_26 M_26 hn_26 hp => ?_)
      obtain ⟨⟨rfl, rfl⟩, hS, fa_⟩ := hp
      have f1 := fr_tr f1 fa_
      refine jr_goto (pc := 29) h 37 dX7_left_29 (by decide) ?_
      refine jr_iret (pc := 37) h hRt dX7_left_37 rfl (Nat.le_of_ble_eq_true rfl) (Nat.le_of_ble_eq_true rfl) ?_
      refine lfA ?_ hS f1
      unfold x_left
      (repeat' split) <;> first | rfl | (exfalso; omega) | contradiction
set_option maxHeartbeats 1000000 in
set_option maxRecDepth 20000 in
theorem s_X7_served {l : Launch} {n : Nat} {M : jdM} {a cu dr : Nat} {g bs : Nat → Int} {p : TS} {ct td bk si ld : Nat → Int} {D : FS} {g3 sp sk fa go : Nat → Int} {mk : Nat → FS} {tg tk tr : Nat → Int} (hS : SXc M n a cu dr (g, bs, p, (ct, td, bk, si, ld), D, (g3, sp, sk, fa, go), mk, tg, tk, tr)) {x y : Int} (hx : -2147483648 ≤ x ∧ x < 2147483648) (hy : -2147483648 ≤ y ∧ y < 2147483648) (h45 : (0 ≤ g3 4 ∧ g3 4 ≤ 1000) ∧ -1 ≤ g3 5 ∧ g3 5 ≤ 1000) : Ct l yX7_served cX7_served 3 (some .int) rX7_served [.ref a, jI x, jI y] n M (fun vv n' M' => (vv = some (jI (x_served ct td g3 fa x y).1) ∧ n = n') ∧ SXc M' n a cu dr (up g 10 (x_served ct td g3 fa x y).2, bs, p, (ct, td, bk, si, ld), D, (g3, sp, sk, fa, go), mk, tg, tk, tr) ∧ fr (XSf a) M M') := by
  refine Ct_of [some (.ref a), some (jI x), some (jI y)] (by decide) (Nat.le_of_ble_eq_true rfl) rfl (fun κ hl h hR hRt hmn hn0 => ?_)
  have h : Ok κ RX7 cX7_served 3 (some .int) := h
  obtain ⟨han, hcd, hO7, hT7, hF7, hG7, hR7, hA7, hK7, hD7, hQ7, hB7⟩ := id hS
  have hO7 : M a = jdO 7 (fX7 a cu dr _) := hO7
  try dsimp only at hO7
  try dsimp only at hT7
  try dsimp only at hK7
  try dsimp only at hB7
  have hF : Fl M n cu ct td bk si ld := hF7
  have hRn : Rn M n (a + 19) g3 sp sk fa go := hR7
  obtain ⟨hnF, hOF, hAF, hBF, hCF, hDF, hEF, rA, rB, r0, rC, rD, rE⟩ := id hF
  obtain ⟨hnR, hOR, -⟩ := id hRn
  obtain ⟨dg, rm, wn, be, hDr, hwn, hbe⟩ := id hD7
  obtain ⟨hnD, hOD, -⟩ := id hDr
  obtain ⟨og, ww, hOd⟩ := id hQ7
  obtain ⟨hnQ, hOQ, -⟩ := id hOd
  obtain ⟨fc, wf, hTi⟩ := id hB7
  obtain ⟨hnB, hOB, -⟩ := id hTi
  obtain ⟨ht7, hOT, hTk, hPO, -⟩ := id hT7
  have ctr : 0 ≤ c_rows ct td ∧ c_rows ct td ≤ 40 := by
    unfold c_rows c_get
    have := (rB 0).1
    split
    · omega
    · rw [if_pos (by omega)]
      exact ⟨this, r0⟩
  have c2 := rA 2
  have c5 := rA 5
  have c8 := rA 8
  have f1 : fr (XSf a) M M := fr_rf
  refine jr_aload_n (pc := 0) h dX7_served_0 rfl ?_
  refine jr_iload_n (pc := 1) h dX7_served_1 rfl ?_
  refine iv_X7_99 (pc := 2) h hl hR dX7_served_2 ⟨(Nat.le_of_ble_eq_true rfl), (Nat.le_of_ble_eq_true rfl), (Nat.le_of_ble_eq_true rfl), (Nat.le_of_ble_eq_true rfl)⟩ (Nat.le_of_ble_eq_true rfl) (by assumption) (by omega) (s_X7_isRow hS (by omega)) (fun v_2 n_2 M_2 hn_2 hp => ?_)
  obtain ⟨⟨rfl, rfl, rfl⟩, gr_2⟩ := hp
  refine jr_if_eq (pc := 5) h 18 dX7_served_5 (by decide) (by omega) (fun c_5 => ?_) (fun c_5 => ?_)
  · first | have d_5 := bz_0.mp c_5 | have d_5 := bz_1.mp c_5 | skip
    refine jr_aload_n (pc := 18) h dX7_served_18 rfl ?_
    refine jr_iconst (pc := 19) h dX7_served_19 ?_
    refine iv_X7_66 (pc := 20) h hl hR dX7_served_20 ⟨(Nat.le_of_ble_eq_true rfl), (Nat.le_of_ble_eq_true rfl), (Nat.le_of_ble_eq_true rfl), (Nat.le_of_ble_eq_true rfl)⟩ (Nat.le_of_ble_eq_true rfl) (by assumption) (by omega) (s_X7_refuse hS) (fun v_20 n_20 M_20 hn_20 hp => ?_)
    obtain ⟨⟨rfl, rfl⟩, hS, fa_⟩ := hp
    have f1 := fr_tr f1 fa_
    refine jr_iret (pc := 23) h hRt dX7_served_23 rfl (Nat.le_of_ble_eq_true rfl) (Nat.le_of_ble_eq_true rfl) ?_
    refine lfA ?_ hS f1
    unfold x_served
    (repeat' split) <;> first | rfl | (exfalso; omega) | contradiction
  · first | have d_5 := bz_0.mp c_5 | have d_5 := bz_1.mp c_5 | skip
    refine jr_iload_n (pc := 8) h dX7_served_8 rfl ?_
    refine jr_if_lt (pc := 9) h 18 dX7_served_9 (by decide) (by omega) (fun c_9 => ?_) (fun c_9 => ?_)
    · first | have d_9 := bz_0.mp c_9 | have d_9 := bz_1.mp c_9 | skip
      refine jr_aload_n (pc := 18) h dX7_served_18 rfl ?_
      refine jr_iconst (pc := 19) h dX7_served_19 ?_
      refine iv_X7_66 (pc := 20) h hl hR dX7_served_20 ⟨(Nat.le_of_ble_eq_true rfl), (Nat.le_of_ble_eq_true rfl), (Nat.le_of_ble_eq_true rfl), (Nat.le_of_ble_eq_true rfl)⟩ (Nat.le_of_ble_eq_true rfl) (by assumption) (by omega) (s_X7_refuse hS) (fun v_20 n_20 M_20 hn_20 hp => ?_)
      obtain ⟨⟨rfl, rfl⟩, hS, fa_⟩ := hp
      have f1 := fr_tr f1 fa_
      refine jr_iret (pc := 23) h hRt dX7_served_23 rfl (Nat.le_of_ble_eq_true rfl) (Nat.le_of_ble_eq_true rfl) ?_
      refine lfA ?_ hS f1
      unfold x_served
      (repeat' split) <;> first | rfl | (exfalso; omega) | contradiction
    · first | have d_9 := bz_0.mp c_9 | have d_9 := bz_1.mp c_9 | skip
      refine jr_iload_n (pc := 12) h dX7_served_12 rfl ?_
      refine jr_bipush (pc := 13) h dX7_served_13 bp_6 ?_
      refine jr_icmp_le (pc := 15) h 24 dX7_served_15 (by decide) (by omega) (by omega) (fun c_15 => ?_) (fun c_15 => ?_)
      · first | have d_15 := bz_0.mp c_15 | have d_15 := bz_1.mp c_15 | skip
        refine jr_aload_n (pc := 24) h dX7_served_24 rfl ?_
        refine gf_X7_29 (pc := 25) h dX7_served_25 (by assumption) (by omega) ?_
        refine jr_iload_n (pc := 28) h dX7_served_28 rfl ?_
        refine iv_X7_153 (pc := 29) h hl hR dX7_served_29 ⟨(Nat.le_of_ble_eq_true rfl), (Nat.le_of_ble_eq_true rfl), (Nat.le_of_ble_eq_true rfl), (Nat.le_of_ble_eq_true rfl)⟩ (Nat.le_of_ble_eq_true rfl) (by assumption) (by omega) (s_X3_isServed hRn h45.1 h45.2 (by omega)) (fun v_29 n_29 M_29 hn_29 hp => ?_)
        obtain ⟨⟨rfl, rfl, rfl⟩, gr_29⟩ := hp
        refine jr_if_eq (pc := 32) h 51 dX7_served_32 (by decide) (by omega) (fun c_32 => ?_) (fun c_32 => ?_)
        · first | have d_32 := bz_0.mp c_32 | have d_32 := bz_1.mp c_32 | skip
          refine jr_aload_n (pc := 51) h dX7_served_51 rfl ?_
          refine jr_bipush (pc := 52) h dX7_served_52 bp_6 ?_
          refine iv_X7_66 (pc := 54) h hl hR dX7_served_54 ⟨(Nat.le_of_ble_eq_true rfl), (Nat.le_of_ble_eq_true rfl), (Nat.le_of_ble_eq_true rfl), (Nat.le_of_ble_eq_true rfl)⟩ (Nat.le_of_ble_eq_true rfl) (by assumption) (by omega) (s_X7_refuse hS) (fun v_54 n_54 M_54 hn_54 hp => ?_)
          obtain ⟨⟨rfl, rfl⟩, hS, fa_⟩ := hp
          have f1 := fr_tr f1 fa_
          refine jr_iret (pc := 57) h hRt dX7_served_57 rfl (Nat.le_of_ble_eq_true rfl) (Nat.le_of_ble_eq_true rfl) ?_
          refine lfA ?_ hS f1
          unfold x_served
          (repeat' split) <;> first | rfl | (exfalso; omega) | contradiction
        · first | have d_32 := bz_0.mp c_32 | have d_32 := bz_1.mp c_32 | skip
          refine jr_aload_n (pc := 35) h dX7_served_35 rfl ?_
          refine jr_aload_n (pc := 36) h dX7_served_36 rfl ?_
          refine gf_X7_29 (pc := 37) h dX7_served_37 (by assumption) (by omega) ?_
          refine jr_iload_n (pc := 40) h dX7_served_40 rfl ?_
          refine jr_iload_n (pc := 41) h dX7_served_41 rfl ?_
          refine iv_X7_156 (pc := 42) h hl hR dX7_served_42 ⟨(Nat.le_of_ble_eq_true rfl), (Nat.le_of_ble_eq_true rfl), (Nat.le_of_ble_eq_true rfl), (Nat.le_of_ble_eq_true rfl)⟩ (Nat.le_of_ble_eq_true rfl) (by assumption) (by omega) (s_X3_fact hRn (by omega) (by omega)) (fun v_42 n_42 M_42 hn_42 hp => ?_)
          obtain ⟨rfl, rfl, rfl⟩ := hp
          refine iv_X7_93 (pc := 45) h hl hR dX7_served_45 ⟨(Nat.le_of_ble_eq_true rfl), (Nat.le_of_ble_eq_true rfl), (Nat.le_of_ble_eq_true rfl), (Nat.le_of_ble_eq_true rfl)⟩ (Nat.le_of_ble_eq_true rfl) (by assumption) (by omega) (s_X7_accept hS) (fun v_45 n_45 M_45 hn_45 hp => ?_)
          obtain ⟨⟨rfl, rfl⟩, hS, fa_⟩ := hp
          have f1 := fr_tr f1 fa_
          refine jr_goto (pc := 48) h 57 dX7_served_48 (by decide) ?_
          refine jr_iret (pc := 57) h hRt dX7_served_57 rfl (Nat.le_of_ble_eq_true rfl) (Nat.le_of_ble_eq_true rfl) ?_
          refine lfA ?_ hS f1
          unfold x_served
          (repeat' split) <;> first | rfl | (exfalso; omega) | contradiction
      · first | have d_15 := bz_0.mp c_15 | have d_15 := bz_1.mp c_15 | skip
        refine jr_aload_n (pc := 18) h dX7_served_18 rfl ?_
        refine jr_iconst (pc := 19) h dX7_served_19 ?_
        refine iv_X7_66 (pc := 20) h hl hR dX7_served_20 ⟨(Nat.le_of_ble_eq_true rfl), (Nat.le_of_ble_eq_true rfl), (Nat.le_of_ble_eq_true rfl), (Nat.le_of_ble_eq_true rfl)⟩ (Nat.le_of_ble_eq_true rfl) (by assumption) (by omega) (s_X7_refuse hS) (fun v_20 n_20 M_20 hn_20 hp => ?_)
        obtain ⟨⟨rfl, rfl⟩, hS, fa_⟩ := hp
        have f1 := fr_tr f1 fa_
        refine jr_iret (pc := 23) h hRt dX7_served_23 rfl (Nat.le_of_ble_eq_true rfl) (Nat.le_of_ble_eq_true rfl) ?_
        refine lfA ?_ hS f1
        unfold x_served
        (repeat' split) <;> first | rfl | (exfalso; omega) | contradiction
set_option maxHeartbeats 1000000 in
set_option maxRecDepth 20000 in
theorem s_X7_trays {l : Launch} {n : Nat} {M : jdM} {a cu dr : Nat} {g bs : Nat → Int} {p : TS} {ct td bk si ld : Nat → Int} {D : FS} {g3 sp sk fa go : Nat → Int} {mk : Nat → FS} {tg tk tr : Nat → Int} (hS : SXc M n a cu dr (g, bs, p, (ct, td, bk, si, ld), D, (g3, sp, sk, fa, go), mk, tg, tk, tr)) {x y : Int} (hx : -2147483648 ≤ x ∧ x < 2147483648) (hy : -2147483648 ≤ y ∧ y < 2147483648) (h45 : (0 ≤ g3 4 ∧ g3 4 ≤ 1000) ∧ -1 ≤ g3 5 ∧ g3 5 ≤ 1000) : Ct l yX7_trays cX7_trays 3 (some .int) rX7_trays [.ref a, jI x, jI y] n M (fun vv n' M' => (vv = some (jI (x_trays ct td g3 fa x y).1) ∧ n = n') ∧ SXc M' n a cu dr (up g 10 (x_trays ct td g3 fa x y).2, bs, p, (ct, td, bk, si, ld), D, (g3, sp, sk, fa, go), mk, tg, tk, tr) ∧ fr (XSf a) M M') := by
  refine Ct_of [some (.ref a), some (jI x), some (jI y)] (by decide) (Nat.le_of_ble_eq_true rfl) rfl (fun κ hl h hR hRt hmn hn0 => ?_)
  have h : Ok κ RX7 cX7_trays 3 (some .int) := h
  obtain ⟨han, hcd, hO7, hT7, hF7, hG7, hR7, hA7, hK7, hD7, hQ7, hB7⟩ := id hS
  have hO7 : M a = jdO 7 (fX7 a cu dr _) := hO7
  try dsimp only at hO7
  try dsimp only at hT7
  try dsimp only at hK7
  try dsimp only at hB7
  have hF : Fl M n cu ct td bk si ld := hF7
  have hRn : Rn M n (a + 19) g3 sp sk fa go := hR7
  obtain ⟨hnF, hOF, hAF, hBF, hCF, hDF, hEF, rA, rB, r0, rC, rD, rE⟩ := id hF
  obtain ⟨hnR, hOR, -⟩ := id hRn
  obtain ⟨dg, rm, wn, be, hDr, hwn, hbe⟩ := id hD7
  obtain ⟨hnD, hOD, -⟩ := id hDr
  obtain ⟨og, ww, hOd⟩ := id hQ7
  obtain ⟨hnQ, hOQ, -⟩ := id hOd
  obtain ⟨fc, wf, hTi⟩ := id hB7
  obtain ⟨hnB, hOB, -⟩ := id hTi
  obtain ⟨ht7, hOT, hTk, hPO, -⟩ := id hT7
  have ctr : 0 ≤ c_rows ct td ∧ c_rows ct td ≤ 40 := by
    unfold c_rows c_get
    have := (rB 0).1
    split
    · omega
    · rw [if_pos (by omega)]
      exact ⟨this, r0⟩
  have c2 := rA 2
  have c5 := rA 5
  have c8 := rA 8
  have f1 : fr (XSf a) M M := fr_rf
  refine jr_aload_n (pc := 0) h dX7_trays_0 rfl ?_
  refine jr_iload_n (pc := 1) h dX7_trays_1 rfl ?_
  refine iv_X7_99 (pc := 2) h hl hR dX7_trays_2 ⟨(Nat.le_of_ble_eq_true rfl), (Nat.le_of_ble_eq_true rfl), (Nat.le_of_ble_eq_true rfl), (Nat.le_of_ble_eq_true rfl)⟩ (Nat.le_of_ble_eq_true rfl) (by assumption) (by omega) (s_X7_isRow hS (by omega)) (fun v_2 n_2 M_2 hn_2 hp => ?_)
  obtain ⟨⟨rfl, rfl, rfl⟩, gr_2⟩ := hp
  refine jr_if_eq (pc := 5) h 16 dX7_trays_5 (by decide) (by omega) (fun c_5 => ?_) (fun c_5 => ?_)
  · first | have d_5 := bz_0.mp c_5 | have d_5 := bz_1.mp c_5 | skip
    refine jr_aload_n (pc := 16) h dX7_trays_16 rfl ?_
    refine jr_iconst (pc := 17) h dX7_trays_17 ?_
    refine iv_X7_66 (pc := 18) h hl hR dX7_trays_18 ⟨(Nat.le_of_ble_eq_true rfl), (Nat.le_of_ble_eq_true rfl), (Nat.le_of_ble_eq_true rfl), (Nat.le_of_ble_eq_true rfl)⟩ (Nat.le_of_ble_eq_true rfl) (by assumption) (by omega) (s_X7_refuse hS) (fun v_18 n_18 M_18 hn_18 hp => ?_)
    obtain ⟨⟨rfl, rfl⟩, hS, fa_⟩ := hp
    have f1 := fr_tr f1 fa_
    refine jr_iret (pc := 21) h hRt dX7_trays_21 rfl (Nat.le_of_ble_eq_true rfl) (Nat.le_of_ble_eq_true rfl) ?_
    refine lfA ?_ hS f1
    unfold x_trays
    (repeat' split) <;> first | rfl | (exfalso; omega) | contradiction
  · first | have d_5 := bz_0.mp c_5 | have d_5 := bz_1.mp c_5 | skip
    refine jr_aload_n (pc := 8) h dX7_trays_8 rfl ?_
    refine jr_iload_n (pc := 9) h dX7_trays_9 rfl ?_
    refine iv_X7_117 (pc := 10) h hl hR dX7_trays_10 ⟨(Nat.le_of_ble_eq_true rfl), (Nat.le_of_ble_eq_true rfl), (Nat.le_of_ble_eq_true rfl), (Nat.le_of_ble_eq_true rfl)⟩ (Nat.le_of_ble_eq_true rfl) (by assumption) (by omega) (s_X7_isKind hS (by omega)) (fun v_10 n_10 M_10 hn_10 hp => ?_)
    obtain ⟨⟨rfl, rfl, rfl⟩, gr_10⟩ := hp
    refine jr_if_ne (pc := 13) h 22 dX7_trays_13 (by decide) (by omega) (fun c_13 => ?_) (fun c_13 => ?_)
    · first | have d_13 := bz_0.mp c_13 | have d_13 := bz_1.mp c_13 | skip
      refine jr_aload_n (pc := 22) h dX7_trays_22 rfl ?_
      refine gf_X7_29 (pc := 23) h dX7_trays_23 (by assumption) (by omega) ?_
      refine jr_iload_n (pc := 26) h dX7_trays_26 rfl ?_
      refine iv_X7_153 (pc := 27) h hl hR dX7_trays_27 ⟨(Nat.le_of_ble_eq_true rfl), (Nat.le_of_ble_eq_true rfl), (Nat.le_of_ble_eq_true rfl), (Nat.le_of_ble_eq_true rfl)⟩ (Nat.le_of_ble_eq_true rfl) (by assumption) (by omega) (s_X3_isServed hRn h45.1 h45.2 (by omega)) (fun v_27 n_27 M_27 hn_27 hp => ?_)
      obtain ⟨⟨rfl, rfl, rfl⟩, gr_27⟩ := hp
      refine jr_if_eq (pc := 30) h 52 dX7_trays_30 (by decide) (by omega) (fun c_30 => ?_) (fun c_30 => ?_)
      · first | have d_30 := bz_0.mp c_30 | have d_30 := bz_1.mp c_30 | skip
        refine jr_aload_n (pc := 52) h dX7_trays_52 rfl ?_
        refine jr_bipush (pc := 53) h dX7_trays_53 bp_6 ?_
        refine iv_X7_66 (pc := 55) h hl hR dX7_trays_55 ⟨(Nat.le_of_ble_eq_true rfl), (Nat.le_of_ble_eq_true rfl), (Nat.le_of_ble_eq_true rfl), (Nat.le_of_ble_eq_true rfl)⟩ (Nat.le_of_ble_eq_true rfl) (by assumption) (by omega) (s_X7_refuse hS) (fun v_55 n_55 M_55 hn_55 hp => ?_)
        obtain ⟨⟨rfl, rfl⟩, hS, fa_⟩ := hp
        have f1 := fr_tr f1 fa_
        refine jr_iret (pc := 58) h hRt dX7_trays_58 rfl (Nat.le_of_ble_eq_true rfl) (Nat.le_of_ble_eq_true rfl) ?_
        refine lfA ?_ hS f1
        unfold x_trays
        (repeat' split) <;> first | rfl | (exfalso; omega) | contradiction
      · first | have d_30 := bz_0.mp c_30 | have d_30 := bz_1.mp c_30 | skip
        refine jr_aload_n (pc := 33) h dX7_trays_33 rfl ?_
        refine jr_aload_n (pc := 34) h dX7_trays_34 rfl ?_
        refine gf_X7_29 (pc := 35) h dX7_trays_35 (by assumption) (by omega) ?_
        refine jr_iload_n (pc := 38) h dX7_trays_38 rfl ?_
        refine jr_bipush (pc := 39) h dX7_trays_39 bp_7 ?_
        refine jr_iload_n (pc := 41) h dX7_trays_41 rfl ?_
        refine jr_iadd (pc := 42) h dX7_trays_42 ?_
        refine iv_X7_156 (pc := 43) h hl hR dX7_trays_43 ⟨(Nat.le_of_ble_eq_true rfl), (Nat.le_of_ble_eq_true rfl), (Nat.le_of_ble_eq_true rfl), (Nat.le_of_ble_eq_true rfl)⟩ (Nat.le_of_ble_eq_true rfl) (by assumption) (by omega) (s_X3_fact hRn (by omega) (by omega)) (fun v_43 n_43 M_43 hn_43 hp => ?_)
        obtain ⟨rfl, rfl, rfl⟩ := hp
        refine iv_X7_93 (pc := 46) h hl hR dX7_trays_46 ⟨(Nat.le_of_ble_eq_true rfl), (Nat.le_of_ble_eq_true rfl), (Nat.le_of_ble_eq_true rfl), (Nat.le_of_ble_eq_true rfl)⟩ (Nat.le_of_ble_eq_true rfl) (by assumption) (by omega) (s_X7_accept hS) (fun v_46 n_46 M_46 hn_46 hp => ?_)
        obtain ⟨⟨rfl, rfl⟩, hS, fa_⟩ := hp
        have f1 := fr_tr f1 fa_
        refine jr_goto (pc := 49) h 58 dX7_trays_49 (by decide) ?_
        refine jr_iret (pc := 58) h hRt dX7_trays_58 rfl (Nat.le_of_ble_eq_true rfl) (Nat.le_of_ble_eq_true rfl) ?_
        refine lfA ?_ hS f1
        unfold x_trays
        (repeat' split) <;> first | rfl | (exfalso; omega) | contradiction
    · first | have d_13 := bz_0.mp c_13 | have d_13 := bz_1.mp c_13 | skip
      refine jr_aload_n (pc := 16) h dX7_trays_16 rfl ?_
      refine jr_iconst (pc := 17) h dX7_trays_17 ?_
      refine iv_X7_66 (pc := 18) h hl hR dX7_trays_18 ⟨(Nat.le_of_ble_eq_true rfl), (Nat.le_of_ble_eq_true rfl), (Nat.le_of_ble_eq_true rfl), (Nat.le_of_ble_eq_true rfl)⟩ (Nat.le_of_ble_eq_true rfl) (by assumption) (by omega) (s_X7_refuse hS) (fun v_18 n_18 M_18 hn_18 hp => ?_)
      obtain ⟨⟨rfl, rfl⟩, hS, fa_⟩ := hp
      have f1 := fr_tr f1 fa_
      refine jr_iret (pc := 21) h hRt dX7_trays_21 rfl (Nat.le_of_ble_eq_true rfl) (Nat.le_of_ble_eq_true rfl) ?_
      refine lfA ?_ hS f1
      unfold x_trays
      (repeat' split) <;> first | rfl | (exfalso; omega) | contradiction
set_option maxHeartbeats 1000000 in
set_option maxRecDepth 20000 in
theorem s_X7_got {l : Launch} {n : Nat} {M : jdM} {a cu dr : Nat} {g bs : Nat → Int} {p : TS} {ct td bk si ld : Nat → Int} {D : FS} {g3 sp sk fa go : Nat → Int} {mk : Nat → FS} {tg tk tr : Nat → Int} (hS : SXc M n a cu dr (g, bs, p, (ct, td, bk, si, ld), D, (g3, sp, sk, fa, go), mk, tg, tk, tr)) {x : Int} (hx : -2147483648 ≤ x ∧ x < 2147483648) (h45 : (0 ≤ g3 4 ∧ g3 4 ≤ 1000) ∧ -1 ≤ g3 5 ∧ g3 5 ≤ 1000) : Ct l yX7_got cX7_got 3 (some .int) rX7_got [.ref a, jI x] n M (fun vv n' M' => (vv = some (jI (x_got ct td g3 go x).1) ∧ n = n') ∧ SXc M' n a cu dr (up g 10 (x_got ct td g3 go x).2, bs, p, (ct, td, bk, si, ld), D, (g3, sp, sk, fa, go), mk, tg, tk, tr) ∧ fr (XSf a) M M') := by
  refine Ct_of [some (.ref a), some (jI x), none] (by decide) (Nat.le_of_ble_eq_true rfl) rfl (fun κ hl h hR hRt hmn hn0 => ?_)
  have h : Ok κ RX7 cX7_got 3 (some .int) := h
  obtain ⟨han, hcd, hO7, hT7, hF7, hG7, hR7, hA7, hK7, hD7, hQ7, hB7⟩ := id hS
  have hO7 : M a = jdO 7 (fX7 a cu dr _) := hO7
  try dsimp only at hO7
  try dsimp only at hT7
  try dsimp only at hK7
  try dsimp only at hB7
  have hF : Fl M n cu ct td bk si ld := hF7
  have hRn : Rn M n (a + 19) g3 sp sk fa go := hR7
  obtain ⟨hnF, hOF, hAF, hBF, hCF, hDF, hEF, rA, rB, r0, rC, rD, rE⟩ := id hF
  obtain ⟨hnR, hOR, -⟩ := id hRn
  obtain ⟨dg, rm, wn, be, hDr, hwn, hbe⟩ := id hD7
  obtain ⟨hnD, hOD, -⟩ := id hDr
  obtain ⟨og, ww, hOd⟩ := id hQ7
  obtain ⟨hnQ, hOQ, -⟩ := id hOd
  obtain ⟨fc, wf, hTi⟩ := id hB7
  obtain ⟨hnB, hOB, -⟩ := id hTi
  obtain ⟨ht7, hOT, hTk, hPO, -⟩ := id hT7
  have ctr : 0 ≤ c_rows ct td ∧ c_rows ct td ≤ 40 := by
    unfold c_rows c_get
    have := (rB 0).1
    split
    · omega
    · rw [if_pos (by omega)]
      exact ⟨this, r0⟩
  have c2 := rA 2
  have c5 := rA 5
  have c8 := rA 8
  have f1 : fr (XSf a) M M := fr_rf
  refine jr_aload_n (pc := 0) h dX7_got_0 rfl ?_
  refine gf_X7_19 (pc := 1) h dX7_got_1 (by assumption) (by omega) ?_
  refine jr_iload_n (pc := 4) h dX7_got_4 rfl ?_
  refine iv_X7_159 (pc := 5) h hl hR dX7_got_5 ⟨(Nat.le_of_ble_eq_true rfl), (Nat.le_of_ble_eq_true rfl), (Nat.le_of_ble_eq_true rfl), (Nat.le_of_ble_eq_true rfl)⟩ (Nat.le_of_ble_eq_true rfl) (by assumption) (by omega) (s_X1_isNamedInside hF (by omega)) (fun v_5 n_5 M_5 hn_5 hp => ?_)
  obtain ⟨⟨rfl, rfl, rfl⟩, gr_5⟩ := hp
  refine jr_if_ne (pc := 8) h 17 dX7_got_8 (by decide) (by omega) (fun c_8 => ?_) (fun c_8 => ?_)
  · first | have d_8 := bz_0.mp c_8 | have d_8 := bz_1.mp c_8 | skip
    refine jr_aload_n (pc := 17) h dX7_got_17 rfl ?_
    refine gf_X7_29 (pc := 18) h dX7_got_18 (by assumption) (by omega) ?_
    refine jr_aload_n (pc := 21) h dX7_got_21 rfl ?_
    refine gf_X7_19 (pc := 22) h dX7_got_22 (by assumption) (by omega) ?_
    refine jr_bipush (pc := 25) h dX7_got_25 bp_8 ?_
    refine jr_iload_n (pc := 27) h dX7_got_27 rfl ?_
    refine jr_iconst (pc := 28) h dX7_got_28 ?_
    refine iv_X7_162 (pc := 29) h hl hR dX7_got_29 ⟨(Nat.le_of_ble_eq_true rfl), (Nat.le_of_ble_eq_true rfl), (Nat.le_of_ble_eq_true rfl), (Nat.le_of_ble_eq_true rfl)⟩ (Nat.le_of_ble_eq_true rfl) (by assumption) (by omega) (s_X1_get hF (by omega) (by omega) (by omega)) (fun v_29 n_29 M_29 hn_29 hp => ?_)
    obtain ⟨⟨rfl, rfl, rfl⟩, gr_29⟩ := hp
    refine iv_X7_153 (pc := 32) h hl hR dX7_got_32 ⟨(Nat.le_of_ble_eq_true rfl), (Nat.le_of_ble_eq_true rfl), (Nat.le_of_ble_eq_true rfl), (Nat.le_of_ble_eq_true rfl)⟩ (Nat.le_of_ble_eq_true rfl) (by assumption) (by omega) (s_X3_isServed hRn h45.1 h45.2 (by omega)) (fun v_32 n_32 M_32 hn_32 hp => ?_)
    obtain ⟨⟨rfl, rfl, rfl⟩, gr_32⟩ := hp
    refine jr_istore_n (pc := 35) h [_, _, _] dX7_got_35 (by decide) rfl ?_
    refine jr_iload_n (pc := 36) h dX7_got_36 rfl ?_
    refine jr_if_eq (pc := 37) h 55 dX7_got_37 (by decide) (by omega) (fun c_37 => ?_) (fun c_37 => ?_)
    · first | have d_37 := bz_0.mp c_37 | have d_37 := bz_1.mp c_37 | skip
      refine jr_aload_n (pc := 55) h dX7_got_55 rfl ?_
      refine jr_bipush (pc := 56) h dX7_got_56 bp_6 ?_
      refine iv_X7_66 (pc := 58) h hl hR dX7_got_58 ⟨(Nat.le_of_ble_eq_true rfl), (Nat.le_of_ble_eq_true rfl), (Nat.le_of_ble_eq_true rfl), (Nat.le_of_ble_eq_true rfl)⟩ (Nat.le_of_ble_eq_true rfl) (by assumption) (by omega) (s_X7_refuse hS) (fun v_58 n_58 M_58 hn_58 hp => ?_)
      obtain ⟨⟨rfl, rfl⟩, hS, fa_⟩ := hp
      have f1 := fr_tr f1 fa_
      refine jr_iret (pc := 61) h hRt dX7_got_61 rfl (Nat.le_of_ble_eq_true rfl) (Nat.le_of_ble_eq_true rfl) ?_
      refine lfA ?_ hS f1
      unfold x_got
      unfold c_inside at d_8
      (repeat' split) <;> first | rfl | (exfalso; omega) | contradiction
    · first | have d_37 := bz_0.mp c_37 | have d_37 := bz_1.mp c_37 | skip
      refine jr_aload_n (pc := 40) h dX7_got_40 rfl ?_
      refine jr_aload_n (pc := 41) h dX7_got_41 rfl ?_
      refine gf_X7_29 (pc := 42) h dX7_got_42 (by assumption) (by omega) ?_
      refine jr_iload_n (pc := 45) h dX7_got_45 rfl ?_
      refine iv_X7_166 (pc := 46) h hl hR dX7_got_46 ⟨(Nat.le_of_ble_eq_true rfl), (Nat.le_of_ble_eq_true rfl), (Nat.le_of_ble_eq_true rfl), (Nat.le_of_ble_eq_true rfl)⟩ (Nat.le_of_ble_eq_true rfl) (by assumption) (by omega) (s_X3_gotOf hRn (by omega)) (fun v_46 n_46 M_46 hn_46 hp => ?_)
      obtain ⟨rfl, rfl, rfl⟩ := hp
      refine iv_X7_93 (pc := 49) h hl hR dX7_got_49 ⟨(Nat.le_of_ble_eq_true rfl), (Nat.le_of_ble_eq_true rfl), (Nat.le_of_ble_eq_true rfl), (Nat.le_of_ble_eq_true rfl)⟩ (Nat.le_of_ble_eq_true rfl) (by assumption) (by omega) (s_X7_accept hS) (fun v_49 n_49 M_49 hn_49 hp => ?_)
      obtain ⟨⟨rfl, rfl⟩, hS, fa_⟩ := hp
      have f1 := fr_tr f1 fa_
      refine jr_goto (pc := 52) h 61 dX7_got_52 (by decide) ?_
      refine jr_iret (pc := 61) h hRt dX7_got_61 rfl (Nat.le_of_ble_eq_true rfl) (Nat.le_of_ble_eq_true rfl) ?_
      refine lfA ?_ hS f1
      unfold x_got
      unfold c_inside at d_8
      (repeat' split) <;> first | rfl | (exfalso; omega) | contradiction
  · first | have d_8 := bz_0.mp c_8 | have d_8 := bz_1.mp c_8 | skip
    refine jr_aload_n (pc := 11) h dX7_got_11 rfl ?_
    refine jr_iconst (pc := 12) h dX7_got_12 ?_
    refine iv_X7_66 (pc := 13) h hl hR dX7_got_13 ⟨(Nat.le_of_ble_eq_true rfl), (Nat.le_of_ble_eq_true rfl), (Nat.le_of_ble_eq_true rfl), (Nat.le_of_ble_eq_true rfl)⟩ (Nat.le_of_ble_eq_true rfl) (by assumption) (by omega) (s_X7_refuse hS) (fun v_13 n_13 M_13 hn_13 hp => ?_)
    obtain ⟨⟨rfl, rfl⟩, hS, fa_⟩ := hp
    have f1 := fr_tr f1 fa_
    refine jr_iret (pc := 16) h hRt dX7_got_16 rfl (Nat.le_of_ble_eq_true rfl) (Nat.le_of_ble_eq_true rfl) ?_
    refine lfA ?_ hS f1
    unfold x_got
    unfold c_inside at d_8
    (repeat' split) <;> first | rfl | (exfalso; omega) | contradiction
set_option maxHeartbeats 1000000 in
set_option maxRecDepth 20000 in
theorem s_X7_heat {l : Launch} {n : Nat} {M : jdM} {a cu dr : Nat} {g bs : Nat → Int} {p : TS} {ct td bk si ld : Nat → Int} {D : FS} {g3 sp sk fa go : Nat → Int} {mk : Nat → FS} {tg tk tr : Nat → Int} (hS : SXc M n a cu dr (g, bs, p, (ct, td, bk, si, ld), D, (g3, sp, sk, fa, go), mk, tg, tk, tr)) {x y : Int} (hx : -2147483648 ≤ x ∧ x < 2147483648) (hy : -2147483648 ≤ y ∧ y < 2147483648)  : Ct l yX7_heat cX7_heat 3 (some .int) rX7_heat [.ref a, jI x, jI y] n M (fun vv n' M' => (vv = some (jI (x_heat ct td x y).1) ∧ n = n') ∧ SXc M' n a cu dr (up g 10 (x_heat ct td x y).2, bs, p, (ct, td, bk, si, ld), D, (g3, sp, sk, fa, go), mk, tg, tk, tr) ∧ fr (XSf a) M M') := by
  refine Ct_of [some (.ref a), some (jI x), some (jI y)] (by decide) (Nat.le_of_ble_eq_true rfl) rfl (fun κ hl h hR hRt hmn hn0 => ?_)
  have h : Ok κ RX7 cX7_heat 3 (some .int) := h
  obtain ⟨han, hcd, hO7, hT7, hF7, hG7, hR7, hA7, hK7, hD7, hQ7, hB7⟩ := id hS
  have hO7 : M a = jdO 7 (fX7 a cu dr _) := hO7
  try dsimp only at hO7
  try dsimp only at hT7
  try dsimp only at hK7
  try dsimp only at hB7
  have hF : Fl M n cu ct td bk si ld := hF7
  have hRn : Rn M n (a + 19) g3 sp sk fa go := hR7
  obtain ⟨hnF, hOF, hAF, hBF, hCF, hDF, hEF, rA, rB, r0, rC, rD, rE⟩ := id hF
  obtain ⟨hnR, hOR, -⟩ := id hRn
  obtain ⟨dg, rm, wn, be, hDr, hwn, hbe⟩ := id hD7
  obtain ⟨hnD, hOD, -⟩ := id hDr
  obtain ⟨og, ww, hOd⟩ := id hQ7
  obtain ⟨hnQ, hOQ, -⟩ := id hOd
  obtain ⟨fc, wf, hTi⟩ := id hB7
  obtain ⟨hnB, hOB, -⟩ := id hTi
  obtain ⟨ht7, hOT, hTk, hPO, -⟩ := id hT7
  have ctr : 0 ≤ c_rows ct td ∧ c_rows ct td ≤ 40 := by
    unfold c_rows c_get
    have := (rB 0).1
    split
    · omega
    · rw [if_pos (by omega)]
      exact ⟨this, r0⟩
  have c2 := rA 2
  have c5 := rA 5
  have c8 := rA 8
  have f1 : fr (XSf a) M M := fr_rf
  refine jr_aload_n (pc := 0) h dX7_heat_0 rfl ?_
  refine jr_iload_n (pc := 1) h dX7_heat_1 rfl ?_
  refine iv_X7_117 (pc := 2) h hl hR dX7_heat_2 ⟨(Nat.le_of_ble_eq_true rfl), (Nat.le_of_ble_eq_true rfl), (Nat.le_of_ble_eq_true rfl), (Nat.le_of_ble_eq_true rfl)⟩ (Nat.le_of_ble_eq_true rfl) (by assumption) (by omega) (s_X7_isKind hS (by omega)) (fun v_2 n_2 M_2 hn_2 hp => ?_)
  obtain ⟨⟨rfl, rfl, rfl⟩, gr_2⟩ := hp
  refine jr_if_ne (pc := 5) h 14 dX7_heat_5 (by decide) (by omega) (fun c_5 => ?_) (fun c_5 => ?_)
  · first | have d_5 := bz_0.mp c_5 | have d_5 := bz_1.mp c_5 | skip
    refine jr_iload_n (pc := 14) h dX7_heat_14 rfl ?_
    refine iv_X7_181 (pc := 15) h hl hR dX7_heat_15 ⟨(Nat.le_of_ble_eq_true rfl), (Nat.le_of_ble_eq_true rfl), (Nat.le_of_ble_eq_true rfl), (Nat.le_of_ble_eq_true rfl)⟩ (Nat.le_of_ble_eq_true rfl) (s_X7_isMinute (by omega)) (fun v_15 n_15 M_15 hn_15 hp => ?_)
    obtain ⟨⟨rfl, rfl, rfl⟩, gr_15⟩ := hp
    refine jr_if_ne (pc := 18) h 27 dX7_heat_18 (by decide) (by omega) (fun c_18 => ?_) (fun c_18 => ?_)
    · first | have d_18 := bz_0.mp c_18 | have d_18 := bz_1.mp c_18 | skip
      refine jr_aload_n (pc := 27) h dX7_heat_27 rfl ?_
      refine jr_aload_n (pc := 28) h dX7_heat_28 rfl ?_
      refine gf_X7_19 (pc := 29) h dX7_heat_29 (by assumption) (by omega) ?_
      refine jr_iload_n (pc := 32) h dX7_heat_32 rfl ?_
      refine jr_iload_n (pc := 33) h dX7_heat_33 rfl ?_
      refine iv_X7_184 (pc := 34) h hl hR dX7_heat_34 ⟨(Nat.le_of_ble_eq_true rfl), (Nat.le_of_ble_eq_true rfl), (Nat.le_of_ble_eq_true rfl), (Nat.le_of_ble_eq_true rfl)⟩ (Nat.le_of_ble_eq_true rfl) (by assumption) (by omega) (s_X1_degrees hF (by omega) (by omega)) (fun v_34 n_34 M_34 hn_34 hp => ?_)
      obtain ⟨⟨rfl, rfl, rfl⟩, gr_34⟩ := hp
      refine iv_X7_93 (pc := 37) h hl hR dX7_heat_37 ⟨(Nat.le_of_ble_eq_true rfl), (Nat.le_of_ble_eq_true rfl), (Nat.le_of_ble_eq_true rfl), (Nat.le_of_ble_eq_true rfl)⟩ (Nat.le_of_ble_eq_true rfl) (by assumption) (by omega) (s_X7_accept hS) (fun v_37 n_37 M_37 hn_37 hp => ?_)
      obtain ⟨⟨rfl, rfl⟩, hS, fa_⟩ := hp
      have f1 := fr_tr f1 fa_
      refine jr_iret (pc := 40) h hRt dX7_heat_40 rfl (Nat.le_of_ble_eq_true rfl) (Nat.le_of_ble_eq_true rfl) ?_
      refine lfA ?_ hS f1
      unfold x_heat
      (repeat' split) <;> first | rfl | (exfalso; omega) | contradiction
    · first | have d_18 := bz_0.mp c_18 | have d_18 := bz_1.mp c_18 | skip
      refine jr_aload_n (pc := 21) h dX7_heat_21 rfl ?_
      refine jr_iconst (pc := 22) h dX7_heat_22 ?_
      refine iv_X7_178 (pc := 23) h hl hR dX7_heat_23 ⟨(Nat.le_of_ble_eq_true rfl), (Nat.le_of_ble_eq_true rfl), (Nat.le_of_ble_eq_true rfl), (Nat.le_of_ble_eq_true rfl)⟩ (Nat.le_of_ble_eq_true rfl) (by assumption) (by omega) (s_X7_refuseFarBelow hS) (fun v_23 n_23 M_23 hn_23 hp => ?_)
      obtain ⟨⟨rfl, rfl⟩, hS, fa_⟩ := hp
      have f1 := fr_tr f1 fa_
      refine jr_iret (pc := 26) h hRt dX7_heat_26 rfl (Nat.le_of_ble_eq_true rfl) (Nat.le_of_ble_eq_true rfl) ?_
      refine lfA ?_ hS f1
      unfold x_heat
      (repeat' split) <;> first | rfl | (exfalso; omega) | contradiction
  · first | have d_5 := bz_0.mp c_5 | have d_5 := bz_1.mp c_5 | skip
    refine jr_aload_n (pc := 8) h dX7_heat_8 rfl ?_
    refine jr_iconst (pc := 9) h dX7_heat_9 ?_
    refine iv_X7_178 (pc := 10) h hl hR dX7_heat_10 ⟨(Nat.le_of_ble_eq_true rfl), (Nat.le_of_ble_eq_true rfl), (Nat.le_of_ble_eq_true rfl), (Nat.le_of_ble_eq_true rfl)⟩ (Nat.le_of_ble_eq_true rfl) (by assumption) (by omega) (s_X7_refuseFarBelow hS) (fun v_10 n_10 M_10 hn_10 hp => ?_)
    obtain ⟨⟨rfl, rfl⟩, hS, fa_⟩ := hp
    have f1 := fr_tr f1 fa_
    refine jr_iret (pc := 13) h hRt dX7_heat_13 rfl (Nat.le_of_ble_eq_true rfl) (Nat.le_of_ble_eq_true rfl) ?_
    refine lfA ?_ hS f1
    unfold x_heat
    (repeat' split) <;> first | rfl | (exfalso; omega) | contradiction
set_option maxHeartbeats 1000000 in
set_option maxRecDepth 20000 in
theorem s_X7_meets {l : Launch} {n : Nat} {M : jdM} {a cu dr : Nat} {g bs : Nat → Int} {p : TS} {ct td bk si ld : Nat → Int} {D : FS} {g3 sp sk fa go : Nat → Int} {mk : Nat → FS} {tg tk tr : Nat → Int} (hS : SXc M n a cu dr (g, bs, p, (ct, td, bk, si, ld), D, (g3, sp, sk, fa, go), mk, tg, tk, tr)) {x : Int} (hx : -2147483648 ≤ x ∧ x < 2147483648)  : Ct l yX7_meets cX7_meets 2 (some .int) rX7_meets [.ref a, jI x] n M (fun vv n' M' => (vv = some (jI (x_meets ct td si x).1) ∧ n = n') ∧ SXc M' n a cu dr (up g 10 (x_meets ct td si x).2, bs, p, (ct, td, bk, si, ld), D, (g3, sp, sk, fa, go), mk, tg, tk, tr) ∧ fr (XSf a) M M') := by
  refine Ct_of [some (.ref a), some (jI x)] (by decide) (Nat.le_of_ble_eq_true rfl) rfl (fun κ hl h hR hRt hmn hn0 => ?_)
  have h : Ok κ RX7 cX7_meets 2 (some .int) := h
  obtain ⟨han, hcd, hO7, hT7, hF7, hG7, hR7, hA7, hK7, hD7, hQ7, hB7⟩ := id hS
  have hO7 : M a = jdO 7 (fX7 a cu dr _) := hO7
  try dsimp only at hO7
  try dsimp only at hT7
  try dsimp only at hK7
  try dsimp only at hB7
  have hF : Fl M n cu ct td bk si ld := hF7
  have hRn : Rn M n (a + 19) g3 sp sk fa go := hR7
  obtain ⟨hnF, hOF, hAF, hBF, hCF, hDF, hEF, rA, rB, r0, rC, rD, rE⟩ := id hF
  obtain ⟨hnR, hOR, -⟩ := id hRn
  obtain ⟨dg, rm, wn, be, hDr, hwn, hbe⟩ := id hD7
  obtain ⟨hnD, hOD, -⟩ := id hDr
  obtain ⟨og, ww, hOd⟩ := id hQ7
  obtain ⟨hnQ, hOQ, -⟩ := id hOd
  obtain ⟨fc, wf, hTi⟩ := id hB7
  obtain ⟨hnB, hOB, -⟩ := id hTi
  obtain ⟨ht7, hOT, hTk, hPO, -⟩ := id hT7
  have ctr : 0 ≤ c_rows ct td ∧ c_rows ct td ≤ 40 := by
    unfold c_rows c_get
    have := (rB 0).1
    split
    · omega
    · rw [if_pos (by omega)]
      exact ⟨this, r0⟩
  have c2 := rA 2
  have c5 := rA 5
  have c8 := rA 8
  have f1 : fr (XSf a) M M := fr_rf
  refine jr_aload_n (pc := 0) h dX7_meets_0 rfl ?_
  refine iv_X7_106 (pc := 1) h hl hR dX7_meets_1 ⟨(Nat.le_of_ble_eq_true rfl), (Nat.le_of_ble_eq_true rfl), (Nat.le_of_ble_eq_true rfl), (Nat.le_of_ble_eq_true rfl)⟩ (Nat.le_of_ble_eq_true rfl) (by assumption) (by omega) (s_X7_hasFlight hS) (fun v_1 n_1 M_1 hn_1 hp => ?_)
  obtain ⟨⟨rfl, rfl, rfl⟩, gr_1⟩ := hp
  refine jr_if_ne (pc := 4) h 13 dX7_meets_4 (by decide) (by omega) (fun c_4 => ?_) (fun c_4 => ?_)
  · first | have d_4 := bz_0.mp c_4 | have d_4 := bz_1.mp c_4 | skip
    refine jr_aload_n (pc := 13) h dX7_meets_13 rfl ?_
    refine jr_iload_n (pc := 14) h dX7_meets_14 rfl ?_
    refine iv_X7_195 (pc := 15) h hl hR dX7_meets_15 ⟨(Nat.le_of_ble_eq_true rfl), (Nat.le_of_ble_eq_true rfl), (Nat.le_of_ble_eq_true rfl), (Nat.le_of_ble_eq_true rfl)⟩ (Nat.le_of_ble_eq_true rfl) (by assumption) (by omega) (s_X7_isMeeting hS (by omega)) (fun v_15 n_15 M_15 hn_15 hp => ?_)
    obtain ⟨⟨rfl, rfl, rfl⟩, gr_15⟩ := hp
    refine jr_if_eq (pc := 18) h 36 dX7_meets_18 (by decide) (by omega) (fun c_18 => ?_) (fun c_18 => ?_)
    · first | have d_18 := bz_0.mp c_18 | have d_18 := bz_1.mp c_18 | skip
      refine jr_aload_n (pc := 36) h dX7_meets_36 rfl ?_
      refine jr_iconst (pc := 37) h dX7_meets_37 ?_
      refine iv_X7_66 (pc := 38) h hl hR dX7_meets_38 ⟨(Nat.le_of_ble_eq_true rfl), (Nat.le_of_ble_eq_true rfl), (Nat.le_of_ble_eq_true rfl), (Nat.le_of_ble_eq_true rfl)⟩ (Nat.le_of_ble_eq_true rfl) (by assumption) (by omega) (s_X7_refuse hS) (fun v_38 n_38 M_38 hn_38 hp => ?_)
      obtain ⟨⟨rfl, rfl⟩, hS, fa_⟩ := hp
      have f1 := fr_tr f1 fa_
      refine jr_iret (pc := 41) h hRt dX7_meets_41 rfl (Nat.le_of_ble_eq_true rfl) (Nat.le_of_ble_eq_true rfl) ?_
      refine lfA ?_ hS f1
      unfold x_meets
      (repeat' split) <;> first | rfl | (exfalso; omega) | contradiction
    · first | have d_18 := bz_0.mp c_18 | have d_18 := bz_1.mp c_18 | skip
      refine jr_aload_n (pc := 21) h dX7_meets_21 rfl ?_
      refine jr_aload_n (pc := 22) h dX7_meets_22 rfl ?_
      refine gf_X7_19 (pc := 23) h dX7_meets_23 (by assumption) (by omega) ?_
      refine jr_iload_n (pc := 26) h dX7_meets_26 rfl ?_
      refine iv_X7_198 (pc := 27) h hl hR dX7_meets_27 ⟨(Nat.le_of_ble_eq_true rfl), (Nat.le_of_ble_eq_true rfl), (Nat.le_of_ble_eq_true rfl), (Nat.le_of_ble_eq_true rfl)⟩ (Nat.le_of_ble_eq_true rfl) (by assumption) (by omega) (s_X1_secondsMeetingAt hF (by omega)) (fun v_27 n_27 M_27 hn_27 hp => ?_)
      obtain ⟨⟨rfl, rfl, rfl⟩, gr_27⟩ := hp
      refine iv_X7_93 (pc := 30) h hl hR dX7_meets_30 ⟨(Nat.le_of_ble_eq_true rfl), (Nat.le_of_ble_eq_true rfl), (Nat.le_of_ble_eq_true rfl), (Nat.le_of_ble_eq_true rfl)⟩ (Nat.le_of_ble_eq_true rfl) (by assumption) (by omega) (s_X7_accept hS) (fun v_30 n_30 M_30 hn_30 hp => ?_)
      obtain ⟨⟨rfl, rfl⟩, hS, fa_⟩ := hp
      have f1 := fr_tr f1 fa_
      refine jr_goto (pc := 33) h 41 dX7_meets_33 (by decide) ?_
      refine jr_iret (pc := 41) h hRt dX7_meets_41 rfl (Nat.le_of_ble_eq_true rfl) (Nat.le_of_ble_eq_true rfl) ?_
      refine lfA ?_ hS f1
      unfold x_meets
      (repeat' split) <;> first | rfl | (exfalso; omega) | contradiction
  · first | have d_4 := bz_0.mp c_4 | have d_4 := bz_1.mp c_4 | skip
    refine jr_aload_n (pc := 7) h dX7_meets_7 rfl ?_
    refine jr_iconst (pc := 8) h dX7_meets_8 ?_
    refine iv_X7_66 (pc := 9) h hl hR dX7_meets_9 ⟨(Nat.le_of_ble_eq_true rfl), (Nat.le_of_ble_eq_true rfl), (Nat.le_of_ble_eq_true rfl), (Nat.le_of_ble_eq_true rfl)⟩ (Nat.le_of_ble_eq_true rfl) (by assumption) (by omega) (s_X7_refuse hS) (fun v_9 n_9 M_9 hn_9 hp => ?_)
    obtain ⟨⟨rfl, rfl⟩, hS, fa_⟩ := hp
    have f1 := fr_tr f1 fa_
    refine jr_iret (pc := 12) h hRt dX7_meets_12 rfl (Nat.le_of_ble_eq_true rfl) (Nat.le_of_ble_eq_true rfl) ?_
    refine lfA ?_ hS f1
    unfold x_meets
    (repeat' split) <;> first | rfl | (exfalso; omega) | contradiction
set_option maxHeartbeats 1000000 in
set_option maxRecDepth 20000 in
theorem s_X7_lacking {l : Launch} {n : Nat} {M : jdM} {a cu dr : Nat} {g bs : Nat → Int} {p : TS} {ct td bk si ld : Nat → Int} {D : FS} {g3 sp sk fa go : Nat → Int} {mk : Nat → FS} {tg tk tr : Nat → Int} (hS : SXc M n a cu dr (g, bs, p, (ct, td, bk, si, ld), D, (g3, sp, sk, fa, go), mk, tg, tk, tr)) {x : Int} (hx : -2147483648 ≤ x ∧ x < 2147483648)  : Ct l yX7_lacking cX7_lacking 2 (some .int) rX7_lacking [.ref a, jI x] n M (fun vv n' M' => (vv = some (jI (x_lacking ct td si ld x).1) ∧ n = n') ∧ SXc M' n a cu dr (up g 10 (x_lacking ct td si ld x).2, bs, p, (ct, td, bk, si, ld), D, (g3, sp, sk, fa, go), mk, tg, tk, tr) ∧ fr (XSf a) M M') := by
  refine Ct_of [some (.ref a), some (jI x)] (by decide) (Nat.le_of_ble_eq_true rfl) rfl (fun κ hl h hR hRt hmn hn0 => ?_)
  have h : Ok κ RX7 cX7_lacking 2 (some .int) := h
  obtain ⟨han, hcd, hO7, hT7, hF7, hG7, hR7, hA7, hK7, hD7, hQ7, hB7⟩ := id hS
  have hO7 : M a = jdO 7 (fX7 a cu dr _) := hO7
  try dsimp only at hO7
  try dsimp only at hT7
  try dsimp only at hK7
  try dsimp only at hB7
  have hF : Fl M n cu ct td bk si ld := hF7
  have hRn : Rn M n (a + 19) g3 sp sk fa go := hR7
  obtain ⟨hnF, hOF, hAF, hBF, hCF, hDF, hEF, rA, rB, r0, rC, rD, rE⟩ := id hF
  obtain ⟨hnR, hOR, -⟩ := id hRn
  obtain ⟨dg, rm, wn, be, hDr, hwn, hbe⟩ := id hD7
  obtain ⟨hnD, hOD, -⟩ := id hDr
  obtain ⟨og, ww, hOd⟩ := id hQ7
  obtain ⟨hnQ, hOQ, -⟩ := id hOd
  obtain ⟨fc, wf, hTi⟩ := id hB7
  obtain ⟨hnB, hOB, -⟩ := id hTi
  obtain ⟨ht7, hOT, hTk, hPO, -⟩ := id hT7
  have ctr : 0 ≤ c_rows ct td ∧ c_rows ct td ≤ 40 := by
    unfold c_rows c_get
    have := (rB 0).1
    split
    · omega
    · rw [if_pos (by omega)]
      exact ⟨this, r0⟩
  have c2 := rA 2
  have c5 := rA 5
  have c8 := rA 8
  have f1 : fr (XSf a) M M := fr_rf
  refine jr_aload_n (pc := 0) h dX7_lacking_0 rfl ?_
  refine iv_X7_106 (pc := 1) h hl hR dX7_lacking_1 ⟨(Nat.le_of_ble_eq_true rfl), (Nat.le_of_ble_eq_true rfl), (Nat.le_of_ble_eq_true rfl), (Nat.le_of_ble_eq_true rfl)⟩ (Nat.le_of_ble_eq_true rfl) (by assumption) (by omega) (s_X7_hasFlight hS) (fun v_1 n_1 M_1 hn_1 hp => ?_)
  obtain ⟨⟨rfl, rfl, rfl⟩, gr_1⟩ := hp
  refine jr_if_ne (pc := 4) h 13 dX7_lacking_4 (by decide) (by omega) (fun c_4 => ?_) (fun c_4 => ?_)
  · first | have d_4 := bz_0.mp c_4 | have d_4 := bz_1.mp c_4 | skip
    refine jr_aload_n (pc := 13) h dX7_lacking_13 rfl ?_
    refine jr_iload_n (pc := 14) h dX7_lacking_14 rfl ?_
    refine iv_X7_195 (pc := 15) h hl hR dX7_lacking_15 ⟨(Nat.le_of_ble_eq_true rfl), (Nat.le_of_ble_eq_true rfl), (Nat.le_of_ble_eq_true rfl), (Nat.le_of_ble_eq_true rfl)⟩ (Nat.le_of_ble_eq_true rfl) (by assumption) (by omega) (s_X7_isMeeting hS (by omega)) (fun v_15 n_15 M_15 hn_15 hp => ?_)
    obtain ⟨⟨rfl, rfl, rfl⟩, gr_15⟩ := hp
    refine jr_if_eq (pc := 18) h 36 dX7_lacking_18 (by decide) (by omega) (fun c_18 => ?_) (fun c_18 => ?_)
    · first | have d_18 := bz_0.mp c_18 | have d_18 := bz_1.mp c_18 | skip
      refine jr_aload_n (pc := 36) h dX7_lacking_36 rfl ?_
      refine jr_iconst (pc := 37) h dX7_lacking_37 ?_
      refine iv_X7_66 (pc := 38) h hl hR dX7_lacking_38 ⟨(Nat.le_of_ble_eq_true rfl), (Nat.le_of_ble_eq_true rfl), (Nat.le_of_ble_eq_true rfl), (Nat.le_of_ble_eq_true rfl)⟩ (Nat.le_of_ble_eq_true rfl) (by assumption) (by omega) (s_X7_refuse hS) (fun v_38 n_38 M_38 hn_38 hp => ?_)
      obtain ⟨⟨rfl, rfl⟩, hS, fa_⟩ := hp
      have f1 := fr_tr f1 fa_
      refine jr_iret (pc := 41) h hRt dX7_lacking_41 rfl (Nat.le_of_ble_eq_true rfl) (Nat.le_of_ble_eq_true rfl) ?_
      refine lfA ?_ hS f1
      unfold x_lacking
      (repeat' split) <;> first | rfl | (exfalso; omega) | contradiction
    · first | have d_18 := bz_0.mp c_18 | have d_18 := bz_1.mp c_18 | skip
      refine jr_aload_n (pc := 21) h dX7_lacking_21 rfl ?_
      refine jr_aload_n (pc := 22) h dX7_lacking_22 rfl ?_
      refine gf_X7_19 (pc := 23) h dX7_lacking_23 (by assumption) (by omega) ?_
      refine jr_iload_n (pc := 26) h dX7_lacking_26 rfl ?_
      refine iv_X7_201 (pc := 27) h hl hR dX7_lacking_27 ⟨(Nat.le_of_ble_eq_true rfl), (Nat.le_of_ble_eq_true rfl), (Nat.le_of_ble_eq_true rfl), (Nat.le_of_ble_eq_true rfl)⟩ (Nat.le_of_ble_eq_true rfl) (by assumption) (by omega) (s_X1_lackingMeetingAt hF (by omega)) (fun v_27 n_27 M_27 hn_27 hp => ?_)
      obtain ⟨⟨rfl, rfl, rfl⟩, gr_27⟩ := hp
      refine iv_X7_93 (pc := 30) h hl hR dX7_lacking_30 ⟨(Nat.le_of_ble_eq_true rfl), (Nat.le_of_ble_eq_true rfl), (Nat.le_of_ble_eq_true rfl), (Nat.le_of_ble_eq_true rfl)⟩ (Nat.le_of_ble_eq_true rfl) (by assumption) (by omega) (s_X7_accept hS) (fun v_30 n_30 M_30 hn_30 hp => ?_)
      obtain ⟨⟨rfl, rfl⟩, hS, fa_⟩ := hp
      have f1 := fr_tr f1 fa_
      refine jr_goto (pc := 33) h 41 dX7_lacking_33 (by decide) ?_
      refine jr_iret (pc := 41) h hRt dX7_lacking_41 rfl (Nat.le_of_ble_eq_true rfl) (Nat.le_of_ble_eq_true rfl) ?_
      refine lfA ?_ hS f1
      unfold x_lacking
      (repeat' split) <;> first | rfl | (exfalso; omega) | contradiction
  · first | have d_4 := bz_0.mp c_4 | have d_4 := bz_1.mp c_4 | skip
    refine jr_aload_n (pc := 7) h dX7_lacking_7 rfl ?_
    refine jr_iconst (pc := 8) h dX7_lacking_8 ?_
    refine iv_X7_66 (pc := 9) h hl hR dX7_lacking_9 ⟨(Nat.le_of_ble_eq_true rfl), (Nat.le_of_ble_eq_true rfl), (Nat.le_of_ble_eq_true rfl), (Nat.le_of_ble_eq_true rfl)⟩ (Nat.le_of_ble_eq_true rfl) (by assumption) (by omega) (s_X7_refuse hS) (fun v_9 n_9 M_9 hn_9 hp => ?_)
    obtain ⟨⟨rfl, rfl⟩, hS, fa_⟩ := hp
    have f1 := fr_tr f1 fa_
    refine jr_iret (pc := 12) h hRt dX7_lacking_12 rfl (Nat.le_of_ble_eq_true rfl) (Nat.le_of_ble_eq_true rfl) ?_
    refine lfA ?_ hS f1
    unfold x_lacking
    (repeat' split) <;> first | rfl | (exfalso; omega) | contradiction
set_option maxHeartbeats 1000000 in
set_option maxRecDepth 20000 in
theorem s_X7_met {l : Launch} {n : Nat} {M : jdM} {a cu dr : Nat} {g bs : Nat → Int} {p : TS} {ct td bk si ld : Nat → Int} {D : FS} {g3 sp sk fa go : Nat → Int} {mk : Nat → FS} {tg tk tr : Nat → Int} (hS : SXc M n a cu dr (g, bs, p, (ct, td, bk, si, ld), D, (g3, sp, sk, fa, go), mk, tg, tk, tr)) (h45 : (0 ≤ g3 4 ∧ g3 4 ≤ 1000) ∧ -1 ≤ g3 5 ∧ g3 5 ≤ 1000) : Ct l yX7_met cX7_met 1 (some .int) rX7_met [.ref a] n M (fun vv n' M' => (vv = some (jI (x_met ct td g3).1) ∧ n = n') ∧ SXc M' n a cu dr (up g 10 (x_met ct td g3).2, bs, p, (ct, td, bk, si, ld), D, (g3, sp, sk, fa, go), mk, tg, tk, tr) ∧ fr (XSf a) M M') := by
  refine Ct_of [some (.ref a)] (by decide) (Nat.le_of_ble_eq_true rfl) rfl (fun κ hl h hR hRt hmn hn0 => ?_)
  have h : Ok κ RX7 cX7_met 1 (some .int) := h
  obtain ⟨han, hcd, hO7, hT7, hF7, hG7, hR7, hA7, hK7, hD7, hQ7, hB7⟩ := id hS
  have hO7 : M a = jdO 7 (fX7 a cu dr _) := hO7
  try dsimp only at hO7
  try dsimp only at hT7
  try dsimp only at hK7
  try dsimp only at hB7
  have hF : Fl M n cu ct td bk si ld := hF7
  have hRn : Rn M n (a + 19) g3 sp sk fa go := hR7
  obtain ⟨hnF, hOF, hAF, hBF, hCF, hDF, hEF, rA, rB, r0, rC, rD, rE⟩ := id hF
  obtain ⟨hnR, hOR, -⟩ := id hRn
  obtain ⟨dg, rm, wn, be, hDr, hwn, hbe⟩ := id hD7
  obtain ⟨hnD, hOD, -⟩ := id hDr
  obtain ⟨og, ww, hOd⟩ := id hQ7
  obtain ⟨hnQ, hOQ, -⟩ := id hOd
  obtain ⟨fc, wf, hTi⟩ := id hB7
  obtain ⟨hnB, hOB, -⟩ := id hTi
  obtain ⟨ht7, hOT, hTk, hPO, -⟩ := id hT7
  have ctr : 0 ≤ c_rows ct td ∧ c_rows ct td ≤ 40 := by
    unfold c_rows c_get
    have := (rB 0).1
    split
    · omega
    · rw [if_pos (by omega)]
      exact ⟨this, r0⟩
  have c2 := rA 2
  have c5 := rA 5
  have c8 := rA 8
  have f1 : fr (XSf a) M M := fr_rf
  refine jr_aload_n (pc := 0) h dX7_met_0 rfl ?_
  refine gf_X7_19 (pc := 1) h dX7_met_1 (by assumption) (by omega) ?_
  refine jr_iconst (pc := 4) h dX7_met_4 ?_
  refine iv_X7_204 (pc := 5) h hl hR dX7_met_5 ⟨(Nat.le_of_ble_eq_true rfl), (Nat.le_of_ble_eq_true rfl), (Nat.le_of_ble_eq_true rfl), (Nat.le_of_ble_eq_true rfl)⟩ (Nat.le_of_ble_eq_true rfl) (by assumption) (by omega) (s_X1_hasTrolleyFrom hF (by omega)) (fun v_5 n_5 M_5 hn_5 hp => ?_)
  obtain ⟨⟨rfl, rfl, rfl⟩, gr_5⟩ := hp
  refine jr_if_ne (pc := 8) h 17 dX7_met_8 (by decide) (by omega) (fun c_8 => ?_) (fun c_8 => ?_)
  · first | have d_8 := bz_0.mp c_8 | have d_8 := bz_1.mp c_8 | skip
    refine jr_aload_n (pc := 17) h dX7_met_17 rfl ?_
    refine gf_X7_29 (pc := 18) h dX7_met_18 (by assumption) (by omega) ?_
    refine iv_X7_140 (pc := 21) h hl hR dX7_met_21 ⟨(Nat.le_of_ble_eq_true rfl), (Nat.le_of_ble_eq_true rfl), (Nat.le_of_ble_eq_true rfl), (Nat.le_of_ble_eq_true rfl)⟩ (Nat.le_of_ble_eq_true rfl) (by assumption) (by omega) (s_X3_isOver hRn h45.1 h45.2) (fun v_21 n_21 M_21 hn_21 hp => ?_)
    obtain ⟨⟨rfl, rfl, rfl⟩, gr_21⟩ := hp
    refine jr_if_eq (pc := 24) h 41 dX7_met_24 (by decide) (by omega) (fun c_24 => ?_) (fun c_24 => ?_)
    · first | have d_24 := bz_0.mp c_24 | have d_24 := bz_1.mp c_24 | skip
      refine jr_aload_n (pc := 41) h dX7_met_41 rfl ?_
      refine jr_iconst (pc := 42) h dX7_met_42 ?_
      refine iv_X7_66 (pc := 43) h hl hR dX7_met_43 ⟨(Nat.le_of_ble_eq_true rfl), (Nat.le_of_ble_eq_true rfl), (Nat.le_of_ble_eq_true rfl), (Nat.le_of_ble_eq_true rfl)⟩ (Nat.le_of_ble_eq_true rfl) (by assumption) (by omega) (s_X7_refuse hS) (fun v_43 n_43 M_43 hn_43 hp => ?_)
      obtain ⟨⟨rfl, rfl⟩, hS, fa_⟩ := hp
      have f1 := fr_tr f1 fa_
      refine jr_iret (pc := 46) h hRt dX7_met_46 rfl (Nat.le_of_ble_eq_true rfl) (Nat.le_of_ble_eq_true rfl) ?_
      refine lfA ?_ hS f1
      unfold x_met
      first
      | (rw [if_neg d_8])
      | (rw [if_pos d_8, if_pos (by omega)])
      | (rw [if_pos d_8, if_neg (by omega)])
    · first | have d_24 := bz_0.mp c_24 | have d_24 := bz_1.mp c_24 | skip
      refine jr_aload_n (pc := 27) h dX7_met_27 rfl ?_
      refine jr_aload_n (pc := 28) h dX7_met_28 rfl ?_
      refine gf_X7_29 (pc := 29) h dX7_met_29 (by assumption) (by omega) ?_
      refine iv_X7_207 (pc := 32) h hl hR dX7_met_32 ⟨(Nat.le_of_ble_eq_true rfl), (Nat.le_of_ble_eq_true rfl), (Nat.le_of_ble_eq_true rfl), (Nat.le_of_ble_eq_true rfl)⟩ (Nat.le_of_ble_eq_true rfl) (by assumption) (by omega) (s_X3_frontRows hRn) (fun v_32 n_32 M_32 hn_32 hp => ?_)
      obtain ⟨rfl, rfl, rfl⟩ := hp
      refine iv_X7_93 (pc := 35) h hl hR dX7_met_35 ⟨(Nat.le_of_ble_eq_true rfl), (Nat.le_of_ble_eq_true rfl), (Nat.le_of_ble_eq_true rfl), (Nat.le_of_ble_eq_true rfl)⟩ (Nat.le_of_ble_eq_true rfl) (by assumption) (by omega) (s_X7_accept hS) (fun v_35 n_35 M_35 hn_35 hp => ?_)
      obtain ⟨⟨rfl, rfl⟩, hS, fa_⟩ := hp
      have f1 := fr_tr f1 fa_
      refine jr_goto (pc := 38) h 46 dX7_met_38 (by decide) ?_
      refine jr_iret (pc := 46) h hRt dX7_met_46 rfl (Nat.le_of_ble_eq_true rfl) (Nat.le_of_ble_eq_true rfl) ?_
      refine lfA ?_ hS f1
      unfold x_met
      first
      | (rw [if_neg d_8])
      | (rw [if_pos d_8, if_pos (by omega)])
      | (rw [if_pos d_8, if_neg (by omega)])
  · first | have d_8 := bz_0.mp c_8 | have d_8 := bz_1.mp c_8 | skip
    refine jr_aload_n (pc := 11) h dX7_met_11 rfl ?_
    refine jr_iconst (pc := 12) h dX7_met_12 ?_
    refine iv_X7_66 (pc := 13) h hl hR dX7_met_13 ⟨(Nat.le_of_ble_eq_true rfl), (Nat.le_of_ble_eq_true rfl), (Nat.le_of_ble_eq_true rfl), (Nat.le_of_ble_eq_true rfl)⟩ (Nat.le_of_ble_eq_true rfl) (by assumption) (by omega) (s_X7_refuse hS) (fun v_13 n_13 M_13 hn_13 hp => ?_)
    obtain ⟨⟨rfl, rfl⟩, hS, fa_⟩ := hp
    have f1 := fr_tr f1 fa_
    refine jr_iret (pc := 16) h hRt dX7_met_16 rfl (Nat.le_of_ble_eq_true rfl) (Nat.le_of_ble_eq_true rfl) ?_
    refine lfA ?_ hS f1
    unfold x_met
    first
    | (rw [if_neg d_8])
    | (rw [if_pos d_8, if_pos (by omega)])
    | (rw [if_pos d_8, if_neg (by omega)])
set_option maxHeartbeats 1000000 in
set_option maxRecDepth 20000 in
theorem s_X7_load {l : Launch} {n : Nat} {M : jdM} {a cu dr : Nat} {g bs : Nat → Int} {p : TS} {ct td bk si ld : Nat → Int} {D : FS} {g3 sp sk fa go : Nat → Int} {mk : Nat → FS} {tg tk tr : Nat → Int} (hS : SXc M n a cu dr (g, bs, p, (ct, td, bk, si, ld), D, (g3, sp, sk, fa, go), mk, tg, tk, tr)) {x y : Int} (hx : -2147483648 ≤ x ∧ x < 2147483648) (hy : -2147483648 ≤ y ∧ y < 2147483648)  : Ct l yX7_load cX7_load 4 (some .int) rX7_load [.ref a, jI x, jI y] n M (fun vv n' M' => (vv = some (jI (x_load ct td si x y).1) ∧ n = n') ∧ SXc M' n a cu dr (up g 10 (x_load ct td si x y).2, bs, p, (ct, td, bk, si, ld), D, (g3, sp, sk, fa, go), mk, tg, tk, tr) ∧ fr (XSf a) M M') := by
  refine Ct_of [some (.ref a), some (jI x), some (jI y), none] (by decide) (Nat.le_of_ble_eq_true rfl) rfl (fun κ hl h hR hRt hmn hn0 => ?_)
  have h : Ok κ RX7 cX7_load 4 (some .int) := h
  obtain ⟨han, hcd, hO7, hT7, hF7, hG7, hR7, hA7, hK7, hD7, hQ7, hB7⟩ := id hS
  have hO7 : M a = jdO 7 (fX7 a cu dr _) := hO7
  try dsimp only at hO7
  try dsimp only at hT7
  try dsimp only at hK7
  try dsimp only at hB7
  have hF : Fl M n cu ct td bk si ld := hF7
  have hRn : Rn M n (a + 19) g3 sp sk fa go := hR7
  obtain ⟨hnF, hOF, hAF, hBF, hCF, hDF, hEF, rA, rB, r0, rC, rD, rE⟩ := id hF
  obtain ⟨hnR, hOR, -⟩ := id hRn
  obtain ⟨dg, rm, wn, be, hDr, hwn, hbe⟩ := id hD7
  obtain ⟨hnD, hOD, -⟩ := id hDr
  obtain ⟨og, ww, hOd⟩ := id hQ7
  obtain ⟨hnQ, hOQ, -⟩ := id hOd
  obtain ⟨fc, wf, hTi⟩ := id hB7
  obtain ⟨hnB, hOB, -⟩ := id hTi
  obtain ⟨ht7, hOT, hTk, hPO, -⟩ := id hT7
  have ctr : 0 ≤ c_rows ct td ∧ c_rows ct td ≤ 40 := by
    unfold c_rows c_get
    have := (rB 0).1
    split
    · omega
    · rw [if_pos (by omega)]
      exact ⟨this, r0⟩
  have c2 := rA 2
  have c5 := rA 5
  have c8 := rA 8
  have f1 : fr (XSf a) M M := fr_rf
  refine jr_aload_n (pc := 0) h dX7_load_0 rfl ?_
  refine jr_iload_n (pc := 1) h dX7_load_1 rfl ?_
  refine iv_X7_117 (pc := 2) h hl hR dX7_load_2 ⟨(Nat.le_of_ble_eq_true rfl), (Nat.le_of_ble_eq_true rfl), (Nat.le_of_ble_eq_true rfl), (Nat.le_of_ble_eq_true rfl)⟩ (Nat.le_of_ble_eq_true rfl) (by assumption) (by omega) (s_X7_isKind hS (by omega)) (fun v_2 n_2 M_2 hn_2 hp => ?_)
  obtain ⟨⟨rfl, rfl, rfl⟩, gr_2⟩ := hp
  refine jr_if_ne (pc := 5) h 14 dX7_load_5 (by decide) (by omega) (fun c_5 => ?_) (fun c_5 => ?_)
  · first | have d_5 := bz_0.mp c_5 | have d_5 := bz_1.mp c_5 | skip
    refine jr_aload_n (pc := 14) h dX7_load_14 rfl ?_
    refine gf_X7_19 (pc := 15) h dX7_load_15 (by assumption) (by omega) ?_
    refine jr_iload_n (pc := 18) h dX7_load_18 rfl ?_
    refine jr_iload_n (pc := 19) h dX7_load_19 rfl ?_
    refine iv_X7_225 (pc := 20) h hl hR dX7_load_20 ⟨(Nat.le_of_ble_eq_true rfl), (Nat.le_of_ble_eq_true rfl), (Nat.le_of_ble_eq_true rfl), (Nat.le_of_ble_eq_true rfl)⟩ (Nat.le_of_ble_eq_true rfl) (by assumption) (by omega) (s_X1_formerLoad hF (by omega) (by omega)) (fun v_20 n_20 M_20 hn_20 hp => ?_)
    obtain ⟨⟨rfl, rfl, rfl⟩, gr_20⟩ := hp
    refine jr_istore_n (pc := 23) h [_, _, _, _] dX7_load_23 (by decide) rfl ?_
    refine jr_iload_n (pc := 24) h dX7_load_24 rfl ?_
    refine jr_iconst (pc := 25) h dX7_load_25 ?_
    refine jr_icmp_ne (pc := 26) h 38 dX7_load_26 (by decide) (by omega) (by omega) (fun c_26 => ?_) (fun c_26 => ?_)
    · first | have d_26 := bz_0.mp c_26 | have d_26 := bz_1.mp c_26 | skip
      refine jr_aload_n (pc := 38) h dX7_load_38 rfl ?_
      refine jr_iload_n (pc := 39) h dX7_load_39 rfl ?_
      refine iv_X7_93 (pc := 40) h hl hR dX7_load_40 ⟨(Nat.le_of_ble_eq_true rfl), (Nat.le_of_ble_eq_true rfl), (Nat.le_of_ble_eq_true rfl), (Nat.le_of_ble_eq_true rfl)⟩ (Nat.le_of_ble_eq_true rfl) (by assumption) (by omega) (s_X7_accept hS) (fun v_40 n_40 M_40 hn_40 hp => ?_)
      obtain ⟨⟨rfl, rfl⟩, hS, fa_⟩ := hp
      have f1 := fr_tr f1 fa_
      refine jr_iret (pc := 43) h hRt dX7_load_43 rfl (Nat.le_of_ble_eq_true rfl) (Nat.le_of_ble_eq_true rfl) ?_
      refine lfA ?_ hS f1
      unfold x_load
      (repeat' split) <;> first | rfl | (exfalso; omega) | contradiction
    · first | have d_26 := bz_0.mp c_26 | have d_26 := bz_1.mp c_26 | skip
      refine jr_aload_n (pc := 29) h dX7_load_29 rfl ?_
      refine jr_bipush (pc := 30) h dX7_load_30 bp_6 ?_
      refine iv_X7_66 (pc := 32) h hl hR dX7_load_32 ⟨(Nat.le_of_ble_eq_true rfl), (Nat.le_of_ble_eq_true rfl), (Nat.le_of_ble_eq_true rfl), (Nat.le_of_ble_eq_true rfl)⟩ (Nat.le_of_ble_eq_true rfl) (by assumption) (by omega) (s_X7_refuse hS) (fun v_32 n_32 M_32 hn_32 hp => ?_)
      obtain ⟨⟨rfl, rfl⟩, hS, fa_⟩ := hp
      have f1 := fr_tr f1 fa_
      refine jr_goto (pc := 35) h 43 dX7_load_35 (by decide) ?_
      refine jr_iret (pc := 43) h hRt dX7_load_43 rfl (Nat.le_of_ble_eq_true rfl) (Nat.le_of_ble_eq_true rfl) ?_
      refine lfA ?_ hS f1
      unfold x_load
      (repeat' split) <;> first | rfl | (exfalso; omega) | contradiction
  · first | have d_5 := bz_0.mp c_5 | have d_5 := bz_1.mp c_5 | skip
    refine jr_aload_n (pc := 8) h dX7_load_8 rfl ?_
    refine jr_iconst (pc := 9) h dX7_load_9 ?_
    refine iv_X7_66 (pc := 10) h hl hR dX7_load_10 ⟨(Nat.le_of_ble_eq_true rfl), (Nat.le_of_ble_eq_true rfl), (Nat.le_of_ble_eq_true rfl), (Nat.le_of_ble_eq_true rfl)⟩ (Nat.le_of_ble_eq_true rfl) (by assumption) (by omega) (s_X7_refuse hS) (fun v_10 n_10 M_10 hn_10 hp => ?_)
    obtain ⟨⟨rfl, rfl⟩, hS, fa_⟩ := hp
    have f1 := fr_tr f1 fa_
    refine jr_iret (pc := 13) h hRt dX7_load_13 rfl (Nat.le_of_ble_eq_true rfl) (Nat.le_of_ble_eq_true rfl) ?_
    refine lfA ?_ hS f1
    unfold x_load
    (repeat' split) <;> first | rfl | (exfalso; omega) | contradiction
set_option maxHeartbeats 1000000 in
set_option maxRecDepth 20000 in
theorem s_X7_spare {l : Launch} {n : Nat} {M : jdM} {a cu dr : Nat} {g bs : Nat → Int} {p : TS} {ct td bk si ld : Nat → Int} {D : FS} {g3 sp sk fa go : Nat → Int} {mk : Nat → FS} {tg tk tr : Nat → Int} (hS : SXc M n a cu dr (g, bs, p, (ct, td, bk, si, ld), D, (g3, sp, sk, fa, go), mk, tg, tk, tr)) {x : Int} (hx : -2147483648 ≤ x ∧ x < 2147483648)  : Ct l yX7_spare cX7_spare 3 (some .int) rX7_spare [.ref a, jI x] n M (fun vv n' M' => (vv = some (jI (x_spare ct td si ld x).1) ∧ n = n') ∧ SXc M' n a cu dr (up g 10 (x_spare ct td si ld x).2, bs, p, (ct, td, bk, si, ld), D, (g3, sp, sk, fa, go), mk, tg, tk, tr) ∧ fr (XSf a) M M') := by
  refine Ct_of [some (.ref a), some (jI x), none] (by decide) (Nat.le_of_ble_eq_true rfl) rfl (fun κ hl h hR hRt hmn hn0 => ?_)
  have h : Ok κ RX7 cX7_spare 3 (some .int) := h
  obtain ⟨han, hcd, hO7, hT7, hF7, hG7, hR7, hA7, hK7, hD7, hQ7, hB7⟩ := id hS
  have hO7 : M a = jdO 7 (fX7 a cu dr _) := hO7
  try dsimp only at hO7
  try dsimp only at hT7
  try dsimp only at hK7
  try dsimp only at hB7
  have hF : Fl M n cu ct td bk si ld := hF7
  have hRn : Rn M n (a + 19) g3 sp sk fa go := hR7
  obtain ⟨hnF, hOF, hAF, hBF, hCF, hDF, hEF, rA, rB, r0, rC, rD, rE⟩ := id hF
  obtain ⟨hnR, hOR, -⟩ := id hRn
  obtain ⟨dg, rm, wn, be, hDr, hwn, hbe⟩ := id hD7
  obtain ⟨hnD, hOD, -⟩ := id hDr
  obtain ⟨og, ww, hOd⟩ := id hQ7
  obtain ⟨hnQ, hOQ, -⟩ := id hOd
  obtain ⟨fc, wf, hTi⟩ := id hB7
  obtain ⟨hnB, hOB, -⟩ := id hTi
  obtain ⟨ht7, hOT, hTk, hPO, -⟩ := id hT7
  have ctr : 0 ≤ c_rows ct td ∧ c_rows ct td ≤ 40 := by
    unfold c_rows c_get
    have := (rB 0).1
    split
    · omega
    · rw [if_pos (by omega)]
      exact ⟨this, r0⟩
  have c2 := rA 2
  have c5 := rA 5
  have c8 := rA 8
  have f1 : fr (XSf a) M M := fr_rf
  refine jr_aload_n (pc := 0) h dX7_spare_0 rfl ?_
  refine jr_iload_n (pc := 1) h dX7_spare_1 rfl ?_
  refine iv_X7_117 (pc := 2) h hl hR dX7_spare_2 ⟨(Nat.le_of_ble_eq_true rfl), (Nat.le_of_ble_eq_true rfl), (Nat.le_of_ble_eq_true rfl), (Nat.le_of_ble_eq_true rfl)⟩ (Nat.le_of_ble_eq_true rfl) (by assumption) (by omega) (s_X7_isKind hS (by omega)) (fun v_2 n_2 M_2 hn_2 hp => ?_)
  obtain ⟨⟨rfl, rfl, rfl⟩, gr_2⟩ := hp
  refine jr_if_ne (pc := 5) h 14 dX7_spare_5 (by decide) (by omega) (fun c_5 => ?_) (fun c_5 => ?_)
  · first | have d_5 := bz_0.mp c_5 | have d_5 := bz_1.mp c_5 | skip
    refine jr_aload_n (pc := 14) h dX7_spare_14 rfl ?_
    refine gf_X7_19 (pc := 15) h dX7_spare_15 (by assumption) (by omega) ?_
    refine jr_iload_n (pc := 18) h dX7_spare_18 rfl ?_
    refine jr_iconst (pc := 19) h dX7_spare_19 ?_
    refine iv_X7_225 (pc := 20) h hl hR dX7_spare_20 ⟨(Nat.le_of_ble_eq_true rfl), (Nat.le_of_ble_eq_true rfl), (Nat.le_of_ble_eq_true rfl), (Nat.le_of_ble_eq_true rfl)⟩ (Nat.le_of_ble_eq_true rfl) (by assumption) (by omega) (s_X1_formerLoad hF (by omega) (by omega)) (fun v_20 n_20 M_20 hn_20 hp => ?_)
    obtain ⟨⟨rfl, rfl, rfl⟩, gr_20⟩ := hp
    refine jr_istore_n (pc := 23) h [_, _, _] dX7_spare_23 (by decide) rfl ?_
    refine jr_iload_n (pc := 24) h dX7_spare_24 rfl ?_
    refine jr_iconst (pc := 25) h dX7_spare_25 ?_
    refine jr_icmp_ne (pc := 26) h 38 dX7_spare_26 (by decide) (by omega) (by omega) (fun c_26 => ?_) (fun c_26 => ?_)
    · first | have d_26 := bz_0.mp c_26 | have d_26 := bz_1.mp c_26 | skip
      refine jr_aload_n (pc := 38) h dX7_spare_38 rfl ?_
      refine jr_aload_n (pc := 39) h dX7_spare_39 rfl ?_
      refine gf_X7_19 (pc := 40) h dX7_spare_40 (by assumption) (by omega) ?_
      refine jr_iload_n (pc := 43) h dX7_spare_43 rfl ?_
      refine iv_X7_229 (pc := 44) h hl hR dX7_spare_44 ⟨(Nat.le_of_ble_eq_true rfl), (Nat.le_of_ble_eq_true rfl), (Nat.le_of_ble_eq_true rfl), (Nat.le_of_ble_eq_true rfl)⟩ (Nat.le_of_ble_eq_true rfl) (by assumption) (by omega) (s_X1_loadOfKind hF (by omega)) (fun v_44 n_44 M_44 hn_44 hp => ?_)
      obtain ⟨⟨rfl, rfl, rfl⟩, gr_44⟩ := hp
      refine jr_iload_n (pc := 47) h dX7_spare_47 rfl ?_
      refine jr_isub (pc := 48) h dX7_spare_48 ?_
      refine iv_X7_93 (pc := 49) h hl hR dX7_spare_49 ⟨(Nat.le_of_ble_eq_true rfl), (Nat.le_of_ble_eq_true rfl), (Nat.le_of_ble_eq_true rfl), (Nat.le_of_ble_eq_true rfl)⟩ (Nat.le_of_ble_eq_true rfl) (by assumption) (by omega) (s_X7_accept hS) (fun v_49 n_49 M_49 hn_49 hp => ?_)
      obtain ⟨⟨rfl, rfl⟩, hS, fa_⟩ := hp
      have f1 := fr_tr f1 fa_
      refine jr_iret (pc := 52) h hRt dX7_spare_52 rfl (Nat.le_of_ble_eq_true rfl) (Nat.le_of_ble_eq_true rfl) ?_
      refine lfA ?_ hS f1
      unfold x_spare
      (repeat' split) <;> first | rfl | (exfalso; omega) | contradiction
    · first | have d_26 := bz_0.mp c_26 | have d_26 := bz_1.mp c_26 | skip
      refine jr_aload_n (pc := 29) h dX7_spare_29 rfl ?_
      refine jr_bipush (pc := 30) h dX7_spare_30 bp_6 ?_
      refine iv_X7_178 (pc := 32) h hl hR dX7_spare_32 ⟨(Nat.le_of_ble_eq_true rfl), (Nat.le_of_ble_eq_true rfl), (Nat.le_of_ble_eq_true rfl), (Nat.le_of_ble_eq_true rfl)⟩ (Nat.le_of_ble_eq_true rfl) (by assumption) (by omega) (s_X7_refuseFarBelow hS) (fun v_32 n_32 M_32 hn_32 hp => ?_)
      obtain ⟨⟨rfl, rfl⟩, hS, fa_⟩ := hp
      have f1 := fr_tr f1 fa_
      refine jr_goto (pc := 35) h 52 dX7_spare_35 (by decide) ?_
      refine jr_iret (pc := 52) h hRt dX7_spare_52 rfl (Nat.le_of_ble_eq_true rfl) (Nat.le_of_ble_eq_true rfl) ?_
      refine lfA ?_ hS f1
      unfold x_spare
      (repeat' split) <;> first | rfl | (exfalso; omega) | contradiction
  · first | have d_5 := bz_0.mp c_5 | have d_5 := bz_1.mp c_5 | skip
    refine jr_aload_n (pc := 8) h dX7_spare_8 rfl ?_
    refine jr_iconst (pc := 9) h dX7_spare_9 ?_
    refine iv_X7_178 (pc := 10) h hl hR dX7_spare_10 ⟨(Nat.le_of_ble_eq_true rfl), (Nat.le_of_ble_eq_true rfl), (Nat.le_of_ble_eq_true rfl), (Nat.le_of_ble_eq_true rfl)⟩ (Nat.le_of_ble_eq_true rfl) (by assumption) (by omega) (s_X7_refuseFarBelow hS) (fun v_10 n_10 M_10 hn_10 hp => ?_)
    obtain ⟨⟨rfl, rfl⟩, hS, fa_⟩ := hp
    have f1 := fr_tr f1 fa_
    refine jr_iret (pc := 13) h hRt dX7_spare_13 rfl (Nat.le_of_ble_eq_true rfl) (Nat.le_of_ble_eq_true rfl) ?_
    refine lfA ?_ hS f1
    unfold x_spare
    (repeat' split) <;> first | rfl | (exfalso; omega) | contradiction
set_option maxHeartbeats 1000000 in
set_option maxRecDepth 20000 in
theorem s_X7_on {l : Launch} {n : Nat} {M : jdM} {a cu dr : Nat} {g bs : Nat → Int} {p : TS} {ct td bk si ld : Nat → Int} {D : FS} {g3 sp sk fa go : Nat → Int} {mk : Nat → FS} {tg tk tr : Nat → Int} (hS : SXc M n a cu dr (g, bs, p, (ct, td, bk, si, ld), D, (g3, sp, sk, fa, go), mk, tg, tk, tr)) {x y : Int} (hx : -2147483648 ≤ x ∧ x < 2147483648) (hy : -2147483648 ≤ y ∧ y < 2147483648) (h45 : (0 ≤ g3 4 ∧ g3 4 ≤ 1000) ∧ -1 ≤ g3 5 ∧ g3 5 ≤ 1000) (hfa : ∀ a b : Int, -100000000 ≤ c_fact fa a b ∧ c_fact fa a b ≤ 100000000) : Ct l yX7_on cX7_on 4 (some .int) rX7_on [.ref a, jI x, jI y] n M (fun vv n' M' => (vv = some (jI (x_on ct td g3 fa x y).1) ∧ n = n') ∧ SXc M' n a cu dr (up g 10 (x_on ct td g3 fa x y).2, bs, p, (ct, td, bk, si, ld), D, (g3, sp, sk, fa, go), mk, tg, tk, tr) ∧ fr (XSf a) M M') := by
  refine Ct_of [some (.ref a), some (jI x), some (jI y), none] (by decide) (Nat.le_of_ble_eq_true rfl) rfl (fun κ hl h hR hRt hmn hn0 => ?_)
  have h : Ok κ RX7 cX7_on 4 (some .int) := h
  obtain ⟨han, hcd, hO7, hT7, hF7, hG7, hR7, hA7, hK7, hD7, hQ7, hB7⟩ := id hS
  have hO7 : M a = jdO 7 (fX7 a cu dr _) := hO7
  try dsimp only at hO7
  try dsimp only at hT7
  try dsimp only at hK7
  try dsimp only at hB7
  have hF : Fl M n cu ct td bk si ld := hF7
  have hRn : Rn M n (a + 19) g3 sp sk fa go := hR7
  obtain ⟨hnF, hOF, hAF, hBF, hCF, hDF, hEF, rA, rB, r0, rC, rD, rE⟩ := id hF
  obtain ⟨hnR, hOR, -⟩ := id hRn
  obtain ⟨dg, rm, wn, be, hDr, hwn, hbe⟩ := id hD7
  obtain ⟨hnD, hOD, -⟩ := id hDr
  obtain ⟨og, ww, hOd⟩ := id hQ7
  obtain ⟨hnQ, hOQ, -⟩ := id hOd
  obtain ⟨fc, wf, hTi⟩ := id hB7
  obtain ⟨hnB, hOB, -⟩ := id hTi
  obtain ⟨ht7, hOT, hTk, hPO, -⟩ := id hT7
  have ctr : 0 ≤ c_rows ct td ∧ c_rows ct td ≤ 40 := by
    unfold c_rows c_get
    have := (rB 0).1
    split
    · omega
    · rw [if_pos (by omega)]
      exact ⟨this, r0⟩
  have c2 := rA 2
  have c5 := rA 5
  have c8 := rA 8
  have f1 : fr (XSf a) M M := fr_rf
  refine jr_aload_n (pc := 0) h dX7_on_0 rfl ?_
  refine jr_iload_n (pc := 1) h dX7_on_1 rfl ?_
  refine iv_X7_123 (pc := 2) h hl hR dX7_on_2 ⟨(Nat.le_of_ble_eq_true rfl), (Nat.le_of_ble_eq_true rfl), (Nat.le_of_ble_eq_true rfl), (Nat.le_of_ble_eq_true rfl)⟩ (Nat.le_of_ble_eq_true rfl) (by assumption) (by omega) (s_X7_isTrolley hS (by omega)) (fun v_2 n_2 M_2 hn_2 hp => ?_)
  obtain ⟨⟨rfl, rfl, rfl⟩, gr_2⟩ := hp
  refine jr_if_ne (pc := 5) h 14 dX7_on_5 (by decide) (by omega) (fun c_5 => ?_) (fun c_5 => ?_)
  · first | have d_5 := bz_0.mp c_5 | have d_5 := bz_1.mp c_5 | skip
    refine jr_iload_n (pc := 14) h dX7_on_14 rfl ?_
    refine jr_if_lt (pc := 15) h 24 dX7_on_15 (by decide) (by omega) (fun c_15 => ?_) (fun c_15 => ?_)
    · first | have d_15 := bz_0.mp c_15 | have d_15 := bz_1.mp c_15 | skip
      refine jr_aload_n (pc := 24) h dX7_on_24 rfl ?_
      refine jr_iconst (pc := 25) h dX7_on_25 ?_
      refine iv_X7_66 (pc := 26) h hl hR dX7_on_26 ⟨(Nat.le_of_ble_eq_true rfl), (Nat.le_of_ble_eq_true rfl), (Nat.le_of_ble_eq_true rfl), (Nat.le_of_ble_eq_true rfl)⟩ (Nat.le_of_ble_eq_true rfl) (by assumption) (by omega) (s_X7_refuse hS) (fun v_26 n_26 M_26 hn_26 hp => ?_)
      obtain ⟨⟨rfl, rfl⟩, hS, fa_⟩ := hp
      have f1 := fr_tr f1 fa_
      refine jr_iret (pc := 29) h hRt dX7_on_29 rfl (Nat.le_of_ble_eq_true rfl) (Nat.le_of_ble_eq_true rfl) ?_
      refine lfA ?_ hS f1
      unfold x_on
      (repeat' split) <;> first | rfl | (exfalso; omega) | contradiction
    · first | have d_15 := bz_0.mp c_15 | have d_15 := bz_1.mp c_15 | skip
      refine jr_iload_n (pc := 18) h dX7_on_18 rfl ?_
      refine jr_ldc (pc := 19) h dX7_on_19 wm_1336 ?_
      rw [show (99999 : Int32) = Int32.ofInt 99999 from by decide]
      refine jr_icmp_le (pc := 21) h 30 dX7_on_21 (by decide) (by omega) (by omega) (fun c_21 => ?_) (fun c_21 => ?_)
      · first | have d_21 := bz_0.mp c_21 | have d_21 := bz_1.mp c_21 | skip
        refine jr_aload_n (pc := 30) h dX7_on_30 rfl ?_
        refine gf_X7_29 (pc := 31) h dX7_on_31 (by assumption) (by omega) ?_
        refine jr_aload_n (pc := 34) h dX7_on_34 rfl ?_
        refine gf_X7_19 (pc := 35) h dX7_on_35 (by assumption) (by omega) ?_
        refine jr_iload_n (pc := 38) h dX7_on_38 rfl ?_
        refine jr_iload_n (pc := 39) h dX7_on_39 rfl ?_
        refine iv_X7_236 (pc := 40) h hl hR dX7_on_40 ⟨(Nat.le_of_ble_eq_true rfl), (Nat.le_of_ble_eq_true rfl), (Nat.le_of_ble_eq_true rfl), (Nat.le_of_ble_eq_true rfl)⟩ (Nat.le_of_ble_eq_true rfl) (by assumption) (by omega) (s_X3_rowOf hRn hF h45.1 h45.2 hfa (by omega) (by omega)) (fun v_40 n_40 M_40 hn_40 hp => ?_)
        obtain ⟨⟨rfl, rfl, rfl⟩, gr_40⟩ := hp
        refine jr_istore_n (pc := 43) h [_, _, _, _] dX7_on_43 (by decide) rfl ?_
        refine jr_aload_n (pc := 44) h dX7_on_44 rfl ?_
        refine jr_iload_n (pc := 45) h dX7_on_45 rfl ?_
        refine jr_iconst (pc := 46) h dX7_on_46 ?_
        refine jr_icmp_ne (pc := 47) h 55 dX7_on_47 (by decide) (by omega) (by omega) (fun c_47 => ?_) (fun c_47 => ?_)
        · first | have d_47 := bz_0.mp c_47 | have d_47 := bz_1.mp c_47 | skip
          refine jr_iload_n (pc := 55) h dX7_on_55 rfl ?_
          refine iv_X7_93 (pc := 56) h hl hR dX7_on_56 ⟨(Nat.le_of_ble_eq_true rfl), (Nat.le_of_ble_eq_true rfl), (Nat.le_of_ble_eq_true rfl), (Nat.le_of_ble_eq_true rfl)⟩ (Nat.le_of_ble_eq_true rfl) (by assumption) (by omega) (s_X7_accept hS) (fun v_56 n_56 M_56 hn_56 hp => ?_)
          obtain ⟨⟨rfl, rfl⟩, hS, fa_⟩ := hp
          have f1 := fr_tr f1 fa_
          refine jr_iret (pc := 59) h hRt dX7_on_59 rfl (Nat.le_of_ble_eq_true rfl) (Nat.le_of_ble_eq_true rfl) ?_
          refine lfA ?_ hS f1
          unfold x_on
          (repeat' split) <;> first | rfl | (exfalso; omega) | contradiction
        · first | have d_47 := bz_0.mp c_47 | have d_47 := bz_1.mp c_47 | skip
          refine jr_bipush (pc := 50) h dX7_on_50 bp_m2 ?_
          refine jr_goto (pc := 52) h 56 dX7_on_52 (by decide) ?_
          refine iv_X7_93 (pc := 56) h hl hR dX7_on_56 ⟨(Nat.le_of_ble_eq_true rfl), (Nat.le_of_ble_eq_true rfl), (Nat.le_of_ble_eq_true rfl), (Nat.le_of_ble_eq_true rfl)⟩ (Nat.le_of_ble_eq_true rfl) (by assumption) (by omega) (s_X7_accept hS) (fun v_56 n_56 M_56 hn_56 hp => ?_)
          obtain ⟨⟨rfl, rfl⟩, hS, fa_⟩ := hp
          have f1 := fr_tr f1 fa_
          refine jr_iret (pc := 59) h hRt dX7_on_59 rfl (Nat.le_of_ble_eq_true rfl) (Nat.le_of_ble_eq_true rfl) ?_
          refine lfA ?_ hS f1
          unfold x_on
          (repeat' split) <;> first | rfl | (exfalso; omega) | contradiction
      · first | have d_21 := bz_0.mp c_21 | have d_21 := bz_1.mp c_21 | skip
        refine jr_aload_n (pc := 24) h dX7_on_24 rfl ?_
        refine jr_iconst (pc := 25) h dX7_on_25 ?_
        refine iv_X7_66 (pc := 26) h hl hR dX7_on_26 ⟨(Nat.le_of_ble_eq_true rfl), (Nat.le_of_ble_eq_true rfl), (Nat.le_of_ble_eq_true rfl), (Nat.le_of_ble_eq_true rfl)⟩ (Nat.le_of_ble_eq_true rfl) (by assumption) (by omega) (s_X7_refuse hS) (fun v_26 n_26 M_26 hn_26 hp => ?_)
        obtain ⟨⟨rfl, rfl⟩, hS, fa_⟩ := hp
        have f1 := fr_tr f1 fa_
        refine jr_iret (pc := 29) h hRt dX7_on_29 rfl (Nat.le_of_ble_eq_true rfl) (Nat.le_of_ble_eq_true rfl) ?_
        refine lfA ?_ hS f1
        unfold x_on
        (repeat' split) <;> first | rfl | (exfalso; omega) | contradiction
  · first | have d_5 := bz_0.mp c_5 | have d_5 := bz_1.mp c_5 | skip
    refine jr_aload_n (pc := 8) h dX7_on_8 rfl ?_
    refine jr_iconst (pc := 9) h dX7_on_9 ?_
    refine iv_X7_66 (pc := 10) h hl hR dX7_on_10 ⟨(Nat.le_of_ble_eq_true rfl), (Nat.le_of_ble_eq_true rfl), (Nat.le_of_ble_eq_true rfl), (Nat.le_of_ble_eq_true rfl)⟩ (Nat.le_of_ble_eq_true rfl) (by assumption) (by omega) (s_X7_refuse hS) (fun v_10 n_10 M_10 hn_10 hp => ?_)
    obtain ⟨⟨rfl, rfl⟩, hS, fa_⟩ := hp
    have f1 := fr_tr f1 fa_
    refine jr_iret (pc := 13) h hRt dX7_on_13 rfl (Nat.le_of_ble_eq_true rfl) (Nat.le_of_ble_eq_true rfl) ?_
    refine lfA ?_ hS f1
    unfold x_on
    (repeat' split) <;> first | rfl | (exfalso; omega) | contradiction
set_option maxHeartbeats 1000000 in
set_option maxRecDepth 20000 in
theorem s_X7_waits {l : Launch} {n : Nat} {M : jdM} {a cu dr : Nat} {g bs : Nat → Int} {p : TS} {ct td bk si ld : Nat → Int} {D : FS} {g3 sp sk fa go : Nat → Int} {mk : Nat → FS} {tg tk tr : Nat → Int} (hS : SXc M n a cu dr (g, bs, p, (ct, td, bk, si, ld), D, (g3, sp, sk, fa, go), mk, tg, tk, tr)) {x : Int} (hx : -2147483648 ≤ x ∧ x < 2147483648) (h45 : (0 ≤ g3 4 ∧ g3 4 ≤ 1000) ∧ -1 ≤ g3 5 ∧ g3 5 ≤ 1000) (hfa : ∀ a b : Int, -100000000 ≤ c_fact fa a b ∧ c_fact fa a b ≤ 100000000) (hlv : ∀ a : Int, 0 ≤ a → a ≤ 40 → 0 ≤ c_lv ct td g3 fa a) : Ct l yX7_waits cX7_waits 2 (some .int) rX7_waits [.ref a, jI x] n M (fun vv n' M' => (vv = some (jI (x_waits ct td g3 fa x).1) ∧ n = n') ∧ SXc M' n a cu dr (up g 10 (x_waits ct td g3 fa x).2, bs, p, (ct, td, bk, si, ld), D, (g3, sp, sk, fa, go), mk, tg, tk, tr) ∧ fr (XSf a) M M') := by
  refine Ct_of [some (.ref a), some (jI x)] (by decide) (Nat.le_of_ble_eq_true rfl) rfl (fun κ hl h hR hRt hmn hn0 => ?_)
  have h : Ok κ RX7 cX7_waits 2 (some .int) := h
  obtain ⟨han, hcd, hO7, hT7, hF7, hG7, hR7, hA7, hK7, hD7, hQ7, hB7⟩ := id hS
  have hO7 : M a = jdO 7 (fX7 a cu dr _) := hO7
  try dsimp only at hO7
  try dsimp only at hT7
  try dsimp only at hK7
  try dsimp only at hB7
  have hF : Fl M n cu ct td bk si ld := hF7
  have hRn : Rn M n (a + 19) g3 sp sk fa go := hR7
  obtain ⟨hnF, hOF, hAF, hBF, hCF, hDF, hEF, rA, rB, r0, rC, rD, rE⟩ := id hF
  obtain ⟨hnR, hOR, -⟩ := id hRn
  obtain ⟨dg, rm, wn, be, hDr, hwn, hbe⟩ := id hD7
  obtain ⟨hnD, hOD, -⟩ := id hDr
  obtain ⟨og, ww, hOd⟩ := id hQ7
  obtain ⟨hnQ, hOQ, -⟩ := id hOd
  obtain ⟨fc, wf, hTi⟩ := id hB7
  obtain ⟨hnB, hOB, -⟩ := id hTi
  obtain ⟨ht7, hOT, hTk, hPO, -⟩ := id hT7
  have ctr : 0 ≤ c_rows ct td ∧ c_rows ct td ≤ 40 := by
    unfold c_rows c_get
    have := (rB 0).1
    split
    · omega
    · rw [if_pos (by omega)]
      exact ⟨this, r0⟩
  have c2 := rA 2
  have c5 := rA 5
  have c8 := rA 8
  have f1 : fr (XSf a) M M := fr_rf
  have c11 := rA 11
  refine jr_iload_n (pc := 0) h dX7_waits_0 rfl ?_
  refine jr_if_lt (pc := 1) h 17 dX7_waits_1 (by decide) (by omega) (fun c_1 => ?_) (fun c_1 => ?_)
  · first | have d_1 := bz_0.mp c_1 | have d_1 := bz_1.mp c_1 | skip
    refine jr_aload_n (pc := 17) h dX7_waits_17 rfl ?_
    refine jr_iconst (pc := 18) h dX7_waits_18 ?_
    refine iv_X7_66 (pc := 19) h hl hR dX7_waits_19 ⟨(Nat.le_of_ble_eq_true rfl), (Nat.le_of_ble_eq_true rfl), (Nat.le_of_ble_eq_true rfl), (Nat.le_of_ble_eq_true rfl)⟩ (Nat.le_of_ble_eq_true rfl) (by assumption) (by omega) (s_X7_refuse hS) (fun v_19 n_19 M_19 hn_19 hp => ?_)
    obtain ⟨⟨rfl, rfl⟩, hS, fa_⟩ := hp
    have f1 := fr_tr f1 fa_
    refine jr_iret (pc := 22) h hRt dX7_waits_22 rfl (Nat.le_of_ble_eq_true rfl) (Nat.le_of_ble_eq_true rfl) ?_
    refine lfA ?_ hS f1
    unfold x_waits
    (repeat' split) <;> first | rfl | (exfalso; omega) | contradiction
  · first | have d_1 := bz_0.mp c_1 | have d_1 := bz_1.mp c_1 | skip
    refine jr_iload_n (pc := 4) h dX7_waits_4 rfl ?_
    refine jr_aload_n (pc := 5) h dX7_waits_5 rfl ?_
    refine gf_X7_19 (pc := 6) h dX7_waits_6 (by assumption) (by omega) ?_
    refine jr_bipush (pc := 9) h dX7_waits_9 bp_11 ?_
    refine iv_X7_90 (pc := 11) h hl hR dX7_waits_11 ⟨(Nat.le_of_ble_eq_true rfl), (Nat.le_of_ble_eq_true rfl), (Nat.le_of_ble_eq_true rfl), (Nat.le_of_ble_eq_true rfl)⟩ (Nat.le_of_ble_eq_true rfl) (by assumption) (by omega) (s_X1_count hF (a := 11) (by omega)) (fun v_11 n_11 M_11 hn_11 hp => ?_)
    obtain ⟨⟨rfl, rfl, rfl⟩, gr_11⟩ := hp
    rw [show c_count ct 11 = ct 11 from if_pos (by omega)]
    refine jr_icmp_lt (pc := 14) h 23 dX7_waits_14 (by decide) (by omega) (by omega) (fun c_14 => ?_) (fun c_14 => ?_)
    · first | have d_14 := bz_0.mp c_14 | have d_14 := bz_1.mp c_14 | skip
      refine jr_aload_n (pc := 23) h dX7_waits_23 rfl ?_
      refine jr_aload_n (pc := 24) h dX7_waits_24 rfl ?_
      refine gf_X7_29 (pc := 25) h dX7_waits_25 (by assumption) (by omega) ?_
      refine jr_aload_n (pc := 28) h dX7_waits_28 rfl ?_
      refine gf_X7_19 (pc := 29) h dX7_waits_29 (by assumption) (by omega) ?_
      refine jr_iload_n (pc := 32) h dX7_waits_32 rfl ?_
      refine iv_X7_232 (pc := 33) h hl hR dX7_waits_33 ⟨(Nat.le_of_ble_eq_true rfl), (Nat.le_of_ble_eq_true rfl), (Nat.le_of_ble_eq_true rfl), (Nat.le_of_ble_eq_true rfl)⟩ (Nat.le_of_ble_eq_true rfl) (by assumption) (by omega) (s_X3_waitOf hRn hF h45.1 h45.2 hfa hlv (by omega)) (fun v_33 n_33 M_33 hn_33 hp => ?_)
      obtain ⟨rfl, rfl, rfl⟩ := hp
      refine iv_X7_93 (pc := 36) h hl hR dX7_waits_36 ⟨(Nat.le_of_ble_eq_true rfl), (Nat.le_of_ble_eq_true rfl), (Nat.le_of_ble_eq_true rfl), (Nat.le_of_ble_eq_true rfl)⟩ (Nat.le_of_ble_eq_true rfl) (by assumption) (by omega) (s_X7_accept hS) (fun v_36 n_36 M_36 hn_36 hp => ?_)
      obtain ⟨⟨rfl, rfl⟩, hS, fa_⟩ := hp
      have f1 := fr_tr f1 fa_
      refine jr_iret (pc := 39) h hRt dX7_waits_39 rfl (Nat.le_of_ble_eq_true rfl) (Nat.le_of_ble_eq_true rfl) ?_
      refine lfA ?_ hS f1
      unfold x_waits
      (repeat' split) <;> first | rfl | (exfalso; omega) | contradiction
    · first | have d_14 := bz_0.mp c_14 | have d_14 := bz_1.mp c_14 | skip
      refine jr_aload_n (pc := 17) h dX7_waits_17 rfl ?_
      refine jr_iconst (pc := 18) h dX7_waits_18 ?_
      refine iv_X7_66 (pc := 19) h hl hR dX7_waits_19 ⟨(Nat.le_of_ble_eq_true rfl), (Nat.le_of_ble_eq_true rfl), (Nat.le_of_ble_eq_true rfl), (Nat.le_of_ble_eq_true rfl)⟩ (Nat.le_of_ble_eq_true rfl) (by assumption) (by omega) (s_X7_refuse hS) (fun v_19 n_19 M_19 hn_19 hp => ?_)
      obtain ⟨⟨rfl, rfl⟩, hS, fa_⟩ := hp
      have f1 := fr_tr f1 fa_
      refine jr_iret (pc := 22) h hRt dX7_waits_22 rfl (Nat.le_of_ble_eq_true rfl) (Nat.le_of_ble_eq_true rfl) ?_
      refine lfA ?_ hS f1
      unfold x_waits
      (repeat' split) <;> first | rfl | (exfalso; omega) | contradiction
set_option maxHeartbeats 1000000 in
set_option maxRecDepth 20000 in
theorem s_X7_given {l : Launch} {n : Nat} {M : jdM} {a cu dr : Nat} {g bs : Nat → Int} {p : TS} {ct td bk si ld : Nat → Int} {D : FS} {g3 sp sk fa go : Nat → Int} {mk : Nat → FS} {tg tk tr : Nat → Int} (hS : SXc M n a cu dr (g, bs, p, (ct, td, bk, si, ld), D, (g3, sp, sk, fa, go), mk, tg, tk, tr)) {x : Int} (hx : -2147483648 ≤ x ∧ x < 2147483648)  : Ct l yX7_given cX7_given 3 (some .int) rX7_given [.ref a, jI x] n M (fun vv n' M' => (vv = some (jI (x_given tr x).1) ∧ n = n') ∧ SXc M' n a cu dr (up g 10 (x_given tr x).2, bs, p, (ct, td, bk, si, ld), D, (g3, sp, sk, fa, go), mk, tg, tk, tr) ∧ fr (XSf a) M M') := by
  refine Ct_of [some (.ref a), some (jI x), none] (by decide) (Nat.le_of_ble_eq_true rfl) rfl (fun κ hl h hR hRt hmn hn0 => ?_)
  have h : Ok κ RX7 cX7_given 3 (some .int) := h
  obtain ⟨han, hcd, hO7, hT7, hF7, hG7, hR7, hA7, hK7, hD7, hQ7, hB7⟩ := id hS
  have hO7 : M a = jdO 7 (fX7 a cu dr _) := hO7
  try dsimp only at hO7
  try dsimp only at hT7
  try dsimp only at hK7
  try dsimp only at hB7
  have hF : Fl M n cu ct td bk si ld := hF7
  have hRn : Rn M n (a + 19) g3 sp sk fa go := hR7
  obtain ⟨hnF, hOF, hAF, hBF, hCF, hDF, hEF, rA, rB, r0, rC, rD, rE⟩ := id hF
  obtain ⟨hnR, hOR, -⟩ := id hRn
  obtain ⟨dg, rm, wn, be, hDr, hwn, hbe⟩ := id hD7
  obtain ⟨hnD, hOD, -⟩ := id hDr
  obtain ⟨og, ww, hOd⟩ := id hQ7
  obtain ⟨hnQ, hOQ, -⟩ := id hOd
  obtain ⟨fc, wf, hTi⟩ := id hB7
  obtain ⟨hnB, hOB, -⟩ := id hTi
  obtain ⟨ht7, hOT, hTk, hPO, -⟩ := id hT7
  have ctr : 0 ≤ c_rows ct td ∧ c_rows ct td ≤ 40 := by
    unfold c_rows c_get
    have := (rB 0).1
    split
    · omega
    · rw [if_pos (by omega)]
      exact ⟨this, r0⟩
  have c2 := rA 2
  have c5 := rA 5
  have c8 := rA 8
  have f1 : fr (XSf a) M M := fr_rf
  refine jr_iload_n (pc := 0) h dX7_given_0 rfl ?_
  refine iv_X7_258 (pc := 1) h hl hR dX7_given_1 ⟨(Nat.le_of_ble_eq_true rfl), (Nat.le_of_ble_eq_true rfl), (Nat.le_of_ble_eq_true rfl), (Nat.le_of_ble_eq_true rfl)⟩ (Nat.le_of_ble_eq_true rfl) (s_X5_coinOf (by omega)) (fun v_1 n_1 M_1 hn_1 hp => ?_)
  obtain ⟨⟨rfl, rfl, rfl⟩, gr_1⟩ := hp
  refine jr_istore_n (pc := 4) h [_, _, _] dX7_given_4 (by decide) rfl ?_
  refine jr_iload_n (pc := 5) h dX7_given_5 rfl ?_
  refine jr_iconst (pc := 6) h dX7_given_6 ?_
  refine jr_icmp_ne (pc := 7) h 18 dX7_given_7 (by decide) (by omega) (by omega) (fun c_7 => ?_) (fun c_7 => ?_)
  · first | have d_7 := bz_0.mp c_7 | have d_7 := bz_1.mp c_7 | skip
    refine jr_aload_n (pc := 18) h dX7_given_18 rfl ?_
    refine jr_aload_n (pc := 19) h dX7_given_19 rfl ?_
    refine gf_X7_54 (pc := 20) h dX7_given_20 (by assumption) (by omega) ?_
    refine jr_iload_n (pc := 23) h dX7_given_23 rfl ?_
    refine iv_X7_274 (pc := 24) h hl hR dX7_given_24 ⟨(Nat.le_of_ble_eq_true rfl), (Nat.le_of_ble_eq_true rfl), (Nat.le_of_ble_eq_true rfl), (Nat.le_of_ble_eq_true rfl)⟩ (Nat.le_of_ble_eq_true rfl) (by assumption) (by omega) (s_X5_givenOf hTi (by omega)) (fun v_24 n_24 M_24 hn_24 hp => ?_)
    obtain ⟨rfl, rfl, rfl⟩ := hp
    rw [if_pos (show 0 ≤ coinI x ∧ coinI x < 6 by omega)]
    refine iv_X7_93 (pc := 27) h hl hR dX7_given_27 ⟨(Nat.le_of_ble_eq_true rfl), (Nat.le_of_ble_eq_true rfl), (Nat.le_of_ble_eq_true rfl), (Nat.le_of_ble_eq_true rfl)⟩ (Nat.le_of_ble_eq_true rfl) (by assumption) (by omega) (s_X7_accept hS) (fun v_27 n_27 M_27 hn_27 hp => ?_)
    obtain ⟨⟨rfl, rfl⟩, hS, fa_⟩ := hp
    have f1 := fr_tr f1 fa_
    refine jr_iret (pc := 30) h hRt dX7_given_30 rfl (Nat.le_of_ble_eq_true rfl) (Nat.le_of_ble_eq_true rfl) ?_
    refine lfA ?_ hS f1
    unfold x_given
    (repeat' split) <;> first | rfl | (exfalso; omega) | contradiction
  · first | have d_7 := bz_0.mp c_7 | have d_7 := bz_1.mp c_7 | skip
    refine jr_aload_n (pc := 10) h dX7_given_10 rfl ?_
    refine jr_iconst (pc := 11) h dX7_given_11 ?_
    refine iv_X7_66 (pc := 12) h hl hR dX7_given_12 ⟨(Nat.le_of_ble_eq_true rfl), (Nat.le_of_ble_eq_true rfl), (Nat.le_of_ble_eq_true rfl), (Nat.le_of_ble_eq_true rfl)⟩ (Nat.le_of_ble_eq_true rfl) (by assumption) (by omega) (s_X7_refuse hS) (fun v_12 n_12 M_12 hn_12 hp => ?_)
    obtain ⟨⟨rfl, rfl⟩, hS, fa_⟩ := hp
    have f1 := fr_tr f1 fa_
    refine jr_goto (pc := 15) h 30 dX7_given_15 (by decide) ?_
    refine jr_iret (pc := 30) h hRt dX7_given_30 rfl (Nat.le_of_ble_eq_true rfl) (Nat.le_of_ble_eq_true rfl) ?_
    refine lfA ?_ hS f1
    unfold x_given
    (repeat' split) <;> first | rfl | (exfalso; omega) | contradiction
