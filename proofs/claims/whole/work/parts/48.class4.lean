/-! 48: the class: more calls -/
theorem lfR {M M' : jdM} {n a cu dr : Nat} {g bs : Nat → Int} {p : TS} {F D R1 : FS} {mk : Nat → FS} {tg tk tr : Nat → Int} {r : Int × Int × FS} {v t : Int} (e : r = (v, t, R1)) (hS : SXc M' n a cu dr (up g 10 t, bs, p, F, D, R1, mk, tg, tk, tr)) (f : fr (XSf a) M M') : (some (jI v) = some (jI r.1) ∧ n = n) ∧ SXc M' n a cu dr (up g 10 r.2.1, bs, p, F, D, r.2.2, mk, tg, tk, tr) ∧ fr (XSf a) M M' := by
  subst e
  exact ⟨⟨rfl, rfl⟩, hS, f⟩
theorem lfB {M M' : jdM} {n a cu dr : Nat} {g bs : Nat → Int} {p : TS} {F D Rr : FS} {mk : Nat → FS} {tg tk tr : Nat → Int} {r : Int × Int × (Nat → Int) × (Nat → Int) × (Nat → Int)} {v t : Int} (e : r = (v, t, tg, tk, tr)) (hS : SXc M' n a cu dr (up g 10 t, bs, p, F, D, Rr, mk, tg, tk, tr)) (f : fr (XSf a) M M') : (some (jI v) = some (jI r.1) ∧ n = n) ∧ SXc M' n a cu dr (up g 10 r.2.1, bs, p, F, D, Rr, mk, r.2.2.1, r.2.2.2.1, r.2.2.2.2) ∧ fr (XSf a) M M' := by
  subst e
  exact ⟨⟨rfl, rfl⟩, hS, f⟩
noncomputable def un1 (ct td ld : Nat → Int) (s : Int32) (i : Int) : Int32 := if c_get td 8 i 0 ≤ c_rows ct td ∧ c_load ld 0 (c_get td 8 i 1) + c_load ld 1 (c_get td 8 i 1) = 0 then s ||| (Int32.ofInt 1 <<< (Int32.ofInt i &&& 31)) else s
noncomputable def x_unl (ct td ld : Nat → Int) : Int × Int := if 0 < c_rows ct td then ((foldS (un1 ct td ld) (Int32.ofInt 0) (ct 8).toNat).toInt, 0) else (-1, 1)
theorem jI_to (x : Int32) : Value.int x = jI x.toInt := by
  show Value.int x = Value.int (Int32.ofInt x.toInt)
  rw [Int32.ofInt_toInt]
def x_size (ct td g g3 tg : Nat → Int) (a : Int) : Int := if 1 ≤ a ∧ a ≤ 11 then c_count ct ((jtab 1).2.2 (a - 1).toNat) else if a = 0 then c_rows ct td else if a = 12 then g 6 else if a = 13 then g3 7 else if a = 14 then g 1 else if a = 15 then tg 2 else -1
theorem sizes_r : ∀ j : Nat, j < 11 → 0 ≤ (jtab 1).2.2 j ∧ (jtab 1).2.2 j ≤ 12 := by decide
def y_start (ct td ld : Nat → Int) (Rr : FS) (a : Int) : Int × Int × FS := if 0 < c_rows ct td then (if 0 ≤ a ∧ a ≤ 65536 then (1, 0, rsR ct td ld a Rr) else (0, 2, Rr)) else (0, 1, Rr)
def y_step (ct td bk si : Nat → Int) (Rr : FS) : Int × Int × FS := if 0 < c_rows ct td then (if Rr.1 5 < Rr.1 4 then (-1, 6, Rr) else (av_row ct td Rr.1 Rr.2.1, 0, avR ct td bk si Rr)) else (-1, 1, Rr)
def finN (ct td bk si : Nat → Int) : Nat → Int → FS → Int × FS
  | 0, s, Rr => (s, Rr)
  | k + 1, s, Rr => if Rr.1 5 < Rr.1 4 then (s, Rr) else finN ct td bk si k (s + 1) (avR ct td bk si Rr)
def y_finish (ct td bk si : Nat → Int) (Rr : FS) : Int × Int × FS := if 0 < c_rows ct td then ((finN ct td bk si (40 - 0 : Int).toNat 0 Rr).1, 0, (finN ct td bk si (40 - 0 : Int).toNat 0 Rr).2) else (-1, 1, Rr)
def y_back (g : Nat → Int) (mk : Nat → FS) (Rr : FS) (a : Int) : Int × Int × FS := if 0 ≤ a ∧ a < g 6 then (1, 0, cpR Rr (mk a.toNat)) else (0, 1, Rr)
def y_till (tg tk tr : Nat → Int) (a b : Int) : Int × Int × (Nat → Int) × (Nat → Int) × (Nat → Int) := if coinI a ≠ -1 ∧ 0 ≤ b ∧ b ≤ 99 then (1, 0, tg, up tk (coinI a).toNat b, tr) else (0, 2, tg, tk, tr)
def y_sell (ct td tg tk tr : Nat → Int) (a b : Int) : Int × Int × (Nat → Int) × (Nat → Int) × (Nat → Int) :=
  if 0 ≤ a ∧ a < ct 12 then (if coinI b = -1 ∧ b ≠ 100 then (-1, 2, tg, tk, tr) else if b - c_get td 12 a 0 < 0 then (-1, 5, tg, tk, tr) else if (0 ≤ coinI b ∧ coinI b < 6 ∧ 99 ≤ tk (coinI b).toNat) ∨ 1000 ≤ mnC tk 6 (b - c_get td 12 a 0) then (-1, 6, tg, tk, tr) else
    (b - c_get td 12 a 0, 0, (if 0 ≤ coinI b ∧ coinI b < 6 then tg else up tg 2 (tg 2 + 1)), (if 0 ≤ coinI b ∧ coinI b < 6 then up (gbSk tk (b - c_get td 12 a 0) (-1)) (coinI b).toNat (gbSk tk (b - c_get td 12 a 0) (-1) (coinI b).toNat + 1) else gbSk tk (b - c_get td 12 a 0) (-1)), gbRt tk tr (b - c_get td 12 a 0) (-1))) else (-1, 1, tg, tk, tr)
def x_change (tk : Nat → Int) (a : Int) : Int × Int := if 0 ≤ a ∧ a ≤ 199 then (wayC tk 6 a, 0) else (-1, 2)
def x_clear (ct td fa : Nat → Int) (a : Int) : Int × Int := if 0 ≤ a ∧ a < ct 5 then ((c_tb ct td fa a).2.1, 0) else (-1, 1)
def x_room (ct td fa : Nat → Int) (a b : Int) : Int × Int := if (0 ≤ a ∧ a < ct 5) ∧ 0 ≤ b ∧ b < c_get td 5 a 1 then ((c_tb ct td fa a).2.2 b.toNat, 0) else (-1, 1)
def wnF (m q r s : Int) : Nat → Int
  | 0 => m
  | 1 => q
  | 2 => r
  | 3 => s
  | _ => 0
set_option maxHeartbeats 1000000 in
set_option maxRecDepth 20000 in
theorem s_X7_sum_0 {l : Launch} {n : Nat} {M : jdM} {a cu dr : Nat} {g bs : Nat → Int} {p : TS} {ct td bk si ld : Nat → Int} {D : FS} {g3 sp sk fa go : Nat → Int} {mk : Nat → FS} {tg tk tr : Nat → Int} (hS : SXc M n a cu dr (g, bs, p, (ct, td, bk, si, ld), D, (g3, sp, sk, fa, go), mk, tg, tk, tr))  : Ct l yX7_sum cX7_sum 2 (some .int) rX7_sum [.ref a, jI 0] n M (fun vv n' M' => (vv = some (jI (x_sum ct td g3 fa 0).1) ∧ n = n') ∧ SXc M' n a cu dr (up g 10 (x_sum ct td g3 fa 0).2, bs, p, (ct, td, bk, si, ld), D, (g3, sp, sk, fa, go), mk, tg, tk, tr) ∧ fr (XSf a) M M') := by
  refine Ct_of [some (.ref a), some (jI 0)] (by decide) (Nat.le_of_ble_eq_true rfl) rfl (fun κ hl h hR hRt hmn hn0 => ?_)
  have h : Ok κ RX7 cX7_sum 2 (some .int) := h
  obtain ⟨han, hcd, hO7, hT7, hF7, hG7, hR7, hA7, hK7, hD7, hQ7, hB7⟩ := id hS
  have hO7 : M a = jdO 7 (fX7 a cu dr _) := hO7
  try dsimp only at hO7
  try dsimp only at hT7
  try dsimp only at hK7
  try dsimp only at hB7
  have hF : Fl M n cu ct td bk si ld := hF7
  have hRn : Rn M n (a + 19) g3 sp sk fa go := hR7
  obtain ⟨hnF, hOF, hAF, hBF, hCF, hDF, hEF, rA, rB, r0, rC, rD, rE⟩ := id hF
  obtain ⟨hnR, hOR, -⟩ := id hRn
  obtain ⟨dg, rm, wn, be, hDr, hwn, hbe⟩ := id hD7
  obtain ⟨hnD, hOD, -⟩ := id hDr
  obtain ⟨og, ww, hOd⟩ := id hQ7
  obtain ⟨hnQ, hOQ, -⟩ := id hOd
  obtain ⟨fc, wf, hTi⟩ := id hB7
  obtain ⟨hnB, hOB, -⟩ := id hTi
  obtain ⟨ht7, hOT, hTk, hPO, -⟩ := id hT7
  have ctr : 0 ≤ c_rows ct td ∧ c_rows ct td ≤ 40 := by
    unfold c_rows c_get
    have := (rB 0).1
    split
    · omega
    · rw [if_pos (by omega)]
      exact ⟨this, r0⟩
  have c2 := rA 2
  have c5 := rA 5
  have c8 := rA 8
  have f1 : fr (XSf a) M M := fr_rf
  refine jr_aload_n (pc := 0) h dX7_sum_0 rfl ?_
  refine iv_X7_106 (pc := 1) h hl hR dX7_sum_1 ⟨(Nat.le_of_ble_eq_true rfl), (Nat.le_of_ble_eq_true rfl), (Nat.le_of_ble_eq_true rfl), (Nat.le_of_ble_eq_true rfl)⟩ (Nat.le_of_ble_eq_true rfl) (by assumption) (by omega) (s_X7_hasFlight hS) (fun v_1 n_1 M_1 hn_1 hp => ?_)
  obtain ⟨⟨rfl, rfl, rfl⟩, gr_1⟩ := hp
  refine jr_if_ne (pc := 4) h 13 dX7_sum_4 (by decide) (by omega) (fun c_4 => ?_) (fun c_4 => ?_)
  · first | have d_4 := bz_0.mp c_4 | have d_4 := bz_1.mp c_4 | skip
    refine jr_iload_n (pc := 13) h dX7_sum_13 rfl ?_
    refine jr_tableIn (pc := 14) h (x := 0) (off := 38) 52 dX7_sum_14 (by omega) (by omega) (by omega) rfl (by decide) ?_
    refine jr_aload_n (pc := 52) h dX7_sum_52 rfl ?_
    refine jr_aload_n (pc := 53) h dX7_sum_53 rfl ?_
    refine gf_X7_29 (pc := 54) h dX7_sum_54 (by assumption) (by omega) ?_
    refine jr_bipush (pc := 57) h dX7_sum_57 bp_6 ?_
    refine iv_X7_169 (pc := 59) h hl hR dX7_sum_59 ⟨(Nat.le_of_ble_eq_true rfl), (Nat.le_of_ble_eq_true rfl), (Nat.le_of_ble_eq_true rfl), (Nat.le_of_ble_eq_true rfl)⟩ (Nat.le_of_ble_eq_true rfl) (by assumption) (by omega) (s_X3_sumOf hRn (by omega)) (fun v_59 n_59 M_59 hn_59 hp => ?_)
    obtain ⟨rfl, rfl, rfl⟩ := hp
    refine iv_X7_93 (pc := 62) h hl hR dX7_sum_62 ⟨(Nat.le_of_ble_eq_true rfl), (Nat.le_of_ble_eq_true rfl), (Nat.le_of_ble_eq_true rfl), (Nat.le_of_ble_eq_true rfl)⟩ (Nat.le_of_ble_eq_true rfl) (by assumption) (by omega) (s_X7_accept hS) (fun v_62 n_62 M_62 hn_62 hp => ?_)
    obtain ⟨⟨rfl, rfl⟩, hS, fa_⟩ := hp
    have f1 := fr_tr f1 fa_
    refine jr_iret (pc := 65) h hRt dX7_sum_65 rfl (Nat.le_of_ble_eq_true rfl) (Nat.le_of_ble_eq_true rfl) ?_
    refine lfA ?_ hS f1
    unfold x_sum
    (repeat' split) <;> first | rfl | (exfalso; omega) | contradiction
  · first | have d_4 := bz_0.mp c_4 | have d_4 := bz_1.mp c_4 | skip
    refine jr_aload_n (pc := 7) h dX7_sum_7 rfl ?_
    refine jr_iconst (pc := 8) h dX7_sum_8 ?_
    refine iv_X7_66 (pc := 9) h hl hR dX7_sum_9 ⟨(Nat.le_of_ble_eq_true rfl), (Nat.le_of_ble_eq_true rfl), (Nat.le_of_ble_eq_true rfl), (Nat.le_of_ble_eq_true rfl)⟩ (Nat.le_of_ble_eq_true rfl) (by assumption) (by omega) (s_X7_refuse hS) (fun v_9 n_9 M_9 hn_9 hp => ?_)
    obtain ⟨⟨rfl, rfl⟩, hS, fa_⟩ := hp
    have f1 := fr_tr f1 fa_
    refine jr_iret (pc := 12) h hRt dX7_sum_12 rfl (Nat.le_of_ble_eq_true rfl) (Nat.le_of_ble_eq_true rfl) ?_
    refine lfA ?_ hS f1
    unfold x_sum
    (repeat' split) <;> first | rfl | (exfalso; omega) | contradiction
set_option maxHeartbeats 1000000 in
set_option maxRecDepth 20000 in
theorem s_X7_sum_1 {l : Launch} {n : Nat} {M : jdM} {a cu dr : Nat} {g bs : Nat → Int} {p : TS} {ct td bk si ld : Nat → Int} {D : FS} {g3 sp sk fa go : Nat → Int} {mk : Nat → FS} {tg tk tr : Nat → Int} (hS : SXc M n a cu dr (g, bs, p, (ct, td, bk, si, ld), D, (g3, sp, sk, fa, go), mk, tg, tk, tr))  : Ct l yX7_sum cX7_sum 2 (some .int) rX7_sum [.ref a, jI 1] n M (fun vv n' M' => (vv = some (jI (x_sum ct td g3 fa 1).1) ∧ n = n') ∧ SXc M' n a cu dr (up g 10 (x_sum ct td g3 fa 1).2, bs, p, (ct, td, bk, si, ld), D, (g3, sp, sk, fa, go), mk, tg, tk, tr) ∧ fr (XSf a) M M') := by
  refine Ct_of [some (.ref a), some (jI 1)] (by decide) (Nat.le_of_ble_eq_true rfl) rfl (fun κ hl h hR hRt hmn hn0 => ?_)
  have h : Ok κ RX7 cX7_sum 2 (some .int) := h
  obtain ⟨han, hcd, hO7, hT7, hF7, hG7, hR7, hA7, hK7, hD7, hQ7, hB7⟩ := id hS
  have hO7 : M a = jdO 7 (fX7 a cu dr _) := hO7
  try dsimp only at hO7
  try dsimp only at hT7
  try dsimp only at hK7
  try dsimp only at hB7
  have hF : Fl M n cu ct td bk si ld := hF7
  have hRn : Rn M n (a + 19) g3 sp sk fa go := hR7
  obtain ⟨hnF, hOF, hAF, hBF, hCF, hDF, hEF, rA, rB, r0, rC, rD, rE⟩ := id hF
  obtain ⟨hnR, hOR, -⟩ := id hRn
  obtain ⟨dg, rm, wn, be, hDr, hwn, hbe⟩ := id hD7
  obtain ⟨hnD, hOD, -⟩ := id hDr
  obtain ⟨og, ww, hOd⟩ := id hQ7
  obtain ⟨hnQ, hOQ, -⟩ := id hOd
  obtain ⟨fc, wf, hTi⟩ := id hB7
  obtain ⟨hnB, hOB, -⟩ := id hTi
  obtain ⟨ht7, hOT, hTk, hPO, -⟩ := id hT7
  have ctr : 0 ≤ c_rows ct td ∧ c_rows ct td ≤ 40 := by
    unfold c_rows c_get
    have := (rB 0).1
    split
    · omega
    · rw [if_pos (by omega)]
      exact ⟨this, r0⟩
  have c2 := rA 2
  have c5 := rA 5
  have c8 := rA 8
  have f1 : fr (XSf a) M M := fr_rf
  refine jr_aload_n (pc := 0) h dX7_sum_0 rfl ?_
  refine iv_X7_106 (pc := 1) h hl hR dX7_sum_1 ⟨(Nat.le_of_ble_eq_true rfl), (Nat.le_of_ble_eq_true rfl), (Nat.le_of_ble_eq_true rfl), (Nat.le_of_ble_eq_true rfl)⟩ (Nat.le_of_ble_eq_true rfl) (by assumption) (by omega) (s_X7_hasFlight hS) (fun v_1 n_1 M_1 hn_1 hp => ?_)
  obtain ⟨⟨rfl, rfl, rfl⟩, gr_1⟩ := hp
  refine jr_if_ne (pc := 4) h 13 dX7_sum_4 (by decide) (by omega) (fun c_4 => ?_) (fun c_4 => ?_)
  · first | have d_4 := bz_0.mp c_4 | have d_4 := bz_1.mp c_4 | skip
    refine jr_iload_n (pc := 13) h dX7_sum_13 rfl ?_
    refine jr_tableIn (pc := 14) h (x := 1) (off := 52) 66 dX7_sum_14 (by omega) (by omega) (by omega) rfl (by decide) ?_
    refine jr_aload_n (pc := 66) h dX7_sum_66 rfl ?_
    refine jr_aload_n (pc := 67) h dX7_sum_67 rfl ?_
    refine gf_X7_29 (pc := 68) h dX7_sum_68 (by assumption) (by omega) ?_
    refine jr_iconst (pc := 71) h dX7_sum_71 ?_
    refine iv_X7_169 (pc := 72) h hl hR dX7_sum_72 ⟨(Nat.le_of_ble_eq_true rfl), (Nat.le_of_ble_eq_true rfl), (Nat.le_of_ble_eq_true rfl), (Nat.le_of_ble_eq_true rfl)⟩ (Nat.le_of_ble_eq_true rfl) (by assumption) (by omega) (s_X3_sumOf hRn (by omega)) (fun v_72 n_72 M_72 hn_72 hp => ?_)
    obtain ⟨rfl, rfl, rfl⟩ := hp
    refine iv_X7_93 (pc := 75) h hl hR dX7_sum_75 ⟨(Nat.le_of_ble_eq_true rfl), (Nat.le_of_ble_eq_true rfl), (Nat.le_of_ble_eq_true rfl), (Nat.le_of_ble_eq_true rfl)⟩ (Nat.le_of_ble_eq_true rfl) (by assumption) (by omega) (s_X7_accept hS) (fun v_75 n_75 M_75 hn_75 hp => ?_)
    obtain ⟨⟨rfl, rfl⟩, hS, fa_⟩ := hp
    have f1 := fr_tr f1 fa_
    refine jr_iret (pc := 78) h hRt dX7_sum_78 rfl (Nat.le_of_ble_eq_true rfl) (Nat.le_of_ble_eq_true rfl) ?_
    refine lfA ?_ hS f1
    unfold x_sum
    (repeat' split) <;> first | rfl | (exfalso; omega) | contradiction
  · first | have d_4 := bz_0.mp c_4 | have d_4 := bz_1.mp c_4 | skip
    refine jr_aload_n (pc := 7) h dX7_sum_7 rfl ?_
    refine jr_iconst (pc := 8) h dX7_sum_8 ?_
    refine iv_X7_66 (pc := 9) h hl hR dX7_sum_9 ⟨(Nat.le_of_ble_eq_true rfl), (Nat.le_of_ble_eq_true rfl), (Nat.le_of_ble_eq_true rfl), (Nat.le_of_ble_eq_true rfl)⟩ (Nat.le_of_ble_eq_true rfl) (by assumption) (by omega) (s_X7_refuse hS) (fun v_9 n_9 M_9 hn_9 hp => ?_)
    obtain ⟨⟨rfl, rfl⟩, hS, fa_⟩ := hp
    have f1 := fr_tr f1 fa_
    refine jr_iret (pc := 12) h hRt dX7_sum_12 rfl (Nat.le_of_ble_eq_true rfl) (Nat.le_of_ble_eq_true rfl) ?_
    refine lfA ?_ hS f1
    unfold x_sum
    (repeat' split) <;> first | rfl | (exfalso; omega) | contradiction
set_option maxHeartbeats 1000000 in
set_option maxRecDepth 20000 in
theorem s_X7_sum_2 {l : Launch} {n : Nat} {M : jdM} {a cu dr : Nat} {g bs : Nat → Int} {p : TS} {ct td bk si ld : Nat → Int} {D : FS} {g3 sp sk fa go : Nat → Int} {mk : Nat → FS} {tg tk tr : Nat → Int} (hS : SXc M n a cu dr (g, bs, p, (ct, td, bk, si, ld), D, (g3, sp, sk, fa, go), mk, tg, tk, tr))  : Ct l yX7_sum cX7_sum 2 (some .int) rX7_sum [.ref a, jI 2] n M (fun vv n' M' => (vv = some (jI (x_sum ct td g3 fa 2).1) ∧ n = n') ∧ SXc M' n a cu dr (up g 10 (x_sum ct td g3 fa 2).2, bs, p, (ct, td, bk, si, ld), D, (g3, sp, sk, fa, go), mk, tg, tk, tr) ∧ fr (XSf a) M M') := by
  refine Ct_of [some (.ref a), some (jI 2)] (by decide) (Nat.le_of_ble_eq_true rfl) rfl (fun κ hl h hR hRt hmn hn0 => ?_)
  have h : Ok κ RX7 cX7_sum 2 (some .int) := h
  obtain ⟨han, hcd, hO7, hT7, hF7, hG7, hR7, hA7, hK7, hD7, hQ7, hB7⟩ := id hS
  have hO7 : M a = jdO 7 (fX7 a cu dr _) := hO7
  try dsimp only at hO7
  try dsimp only at hT7
  try dsimp only at hK7
  try dsimp only at hB7
  have hF : Fl M n cu ct td bk si ld := hF7
  have hRn : Rn M n (a + 19) g3 sp sk fa go := hR7
  obtain ⟨hnF, hOF, hAF, hBF, hCF, hDF, hEF, rA, rB, r0, rC, rD, rE⟩ := id hF
  obtain ⟨hnR, hOR, -⟩ := id hRn
  obtain ⟨dg, rm, wn, be, hDr, hwn, hbe⟩ := id hD7
  obtain ⟨hnD, hOD, -⟩ := id hDr
  obtain ⟨og, ww, hOd⟩ := id hQ7
  obtain ⟨hnQ, hOQ, -⟩ := id hOd
  obtain ⟨fc, wf, hTi⟩ := id hB7
  obtain ⟨hnB, hOB, -⟩ := id hTi
  obtain ⟨ht7, hOT, hTk, hPO, -⟩ := id hT7
  have ctr : 0 ≤ c_rows ct td ∧ c_rows ct td ≤ 40 := by
    unfold c_rows c_get
    have := (rB 0).1
    split
    · omega
    · rw [if_pos (by omega)]
      exact ⟨this, r0⟩
  have c2 := rA 2
  have c5 := rA 5
  have c8 := rA 8
  have f1 : fr (XSf a) M M := fr_rf
  refine jr_aload_n (pc := 0) h dX7_sum_0 rfl ?_
  refine iv_X7_106 (pc := 1) h hl hR dX7_sum_1 ⟨(Nat.le_of_ble_eq_true rfl), (Nat.le_of_ble_eq_true rfl), (Nat.le_of_ble_eq_true rfl), (Nat.le_of_ble_eq_true rfl)⟩ (Nat.le_of_ble_eq_true rfl) (by assumption) (by omega) (s_X7_hasFlight hS) (fun v_1 n_1 M_1 hn_1 hp => ?_)
  obtain ⟨⟨rfl, rfl, rfl⟩, gr_1⟩ := hp
  refine jr_if_ne (pc := 4) h 13 dX7_sum_4 (by decide) (by omega) (fun c_4 => ?_) (fun c_4 => ?_)
  · first | have d_4 := bz_0.mp c_4 | have d_4 := bz_1.mp c_4 | skip
    refine jr_iload_n (pc := 13) h dX7_sum_13 rfl ?_
    refine jr_tableIn (pc := 14) h (x := 2) (off := 65) 79 dX7_sum_14 (by omega) (by omega) (by omega) rfl (by decide) ?_
    refine jr_aload_n (pc := 79) h dX7_sum_79 rfl ?_
    refine jr_aload_n (pc := 80) h dX7_sum_80 rfl ?_
    refine gf_X7_29 (pc := 81) h dX7_sum_81 (by assumption) (by omega) ?_
    refine jr_iconst (pc := 84) h dX7_sum_84 ?_
    refine iv_X7_169 (pc := 85) h hl hR dX7_sum_85 ⟨(Nat.le_of_ble_eq_true rfl), (Nat.le_of_ble_eq_true rfl), (Nat.le_of_ble_eq_true rfl), (Nat.le_of_ble_eq_true rfl)⟩ (Nat.le_of_ble_eq_true rfl) (by assumption) (by omega) (s_X3_sumOf hRn (by omega)) (fun v_85 n_85 M_85 hn_85 hp => ?_)
    obtain ⟨rfl, rfl, rfl⟩ := hp
    refine iv_X7_93 (pc := 88) h hl hR dX7_sum_88 ⟨(Nat.le_of_ble_eq_true rfl), (Nat.le_of_ble_eq_true rfl), (Nat.le_of_ble_eq_true rfl), (Nat.le_of_ble_eq_true rfl)⟩ (Nat.le_of_ble_eq_true rfl) (by assumption) (by omega) (s_X7_accept hS) (fun v_88 n_88 M_88 hn_88 hp => ?_)
    obtain ⟨⟨rfl, rfl⟩, hS, fa_⟩ := hp
    have f1 := fr_tr f1 fa_
    refine jr_iret (pc := 91) h hRt dX7_sum_91 rfl (Nat.le_of_ble_eq_true rfl) (Nat.le_of_ble_eq_true rfl) ?_
    refine lfA ?_ hS f1
    unfold x_sum
    (repeat' split) <;> first | rfl | (exfalso; omega) | contradiction
  · first | have d_4 := bz_0.mp c_4 | have d_4 := bz_1.mp c_4 | skip
    refine jr_aload_n (pc := 7) h dX7_sum_7 rfl ?_
    refine jr_iconst (pc := 8) h dX7_sum_8 ?_
    refine iv_X7_66 (pc := 9) h hl hR dX7_sum_9 ⟨(Nat.le_of_ble_eq_true rfl), (Nat.le_of_ble_eq_true rfl), (Nat.le_of_ble_eq_true rfl), (Nat.le_of_ble_eq_true rfl)⟩ (Nat.le_of_ble_eq_true rfl) (by assumption) (by omega) (s_X7_refuse hS) (fun v_9 n_9 M_9 hn_9 hp => ?_)
    obtain ⟨⟨rfl, rfl⟩, hS, fa_⟩ := hp
    have f1 := fr_tr f1 fa_
    refine jr_iret (pc := 12) h hRt dX7_sum_12 rfl (Nat.le_of_ble_eq_true rfl) (Nat.le_of_ble_eq_true rfl) ?_
    refine lfA ?_ hS f1
    unfold x_sum
    (repeat' split) <;> first | rfl | (exfalso; omega) | contradiction
set_option maxHeartbeats 1000000 in
set_option maxRecDepth 20000 in
theorem s_X7_sum_3 {l : Launch} {n : Nat} {M : jdM} {a cu dr : Nat} {g bs : Nat → Int} {p : TS} {ct td bk si ld : Nat → Int} {D : FS} {g3 sp sk fa go : Nat → Int} {mk : Nat → FS} {tg tk tr : Nat → Int} (hS : SXc M n a cu dr (g, bs, p, (ct, td, bk, si, ld), D, (g3, sp, sk, fa, go), mk, tg, tk, tr))  : Ct l yX7_sum cX7_sum 2 (some .int) rX7_sum [.ref a, jI 3] n M (fun vv n' M' => (vv = some (jI (x_sum ct td g3 fa 3).1) ∧ n = n') ∧ SXc M' n a cu dr (up g 10 (x_sum ct td g3 fa 3).2, bs, p, (ct, td, bk, si, ld), D, (g3, sp, sk, fa, go), mk, tg, tk, tr) ∧ fr (XSf a) M M') := by
  refine Ct_of [some (.ref a), some (jI 3)] (by decide) (Nat.le_of_ble_eq_true rfl) rfl (fun κ hl h hR hRt hmn hn0 => ?_)
  have h : Ok κ RX7 cX7_sum 2 (some .int) := h
  obtain ⟨han, hcd, hO7, hT7, hF7, hG7, hR7, hA7, hK7, hD7, hQ7, hB7⟩ := id hS
  have hO7 : M a = jdO 7 (fX7 a cu dr _) := hO7
  try dsimp only at hO7
  try dsimp only at hT7
  try dsimp only at hK7
  try dsimp only at hB7
  have hF : Fl M n cu ct td bk si ld := hF7
  have hRn : Rn M n (a + 19) g3 sp sk fa go := hR7
  obtain ⟨hnF, hOF, hAF, hBF, hCF, hDF, hEF, rA, rB, r0, rC, rD, rE⟩ := id hF
  obtain ⟨hnR, hOR, -⟩ := id hRn
  obtain ⟨dg, rm, wn, be, hDr, hwn, hbe⟩ := id hD7
  obtain ⟨hnD, hOD, -⟩ := id hDr
  obtain ⟨og, ww, hOd⟩ := id hQ7
  obtain ⟨hnQ, hOQ, -⟩ := id hOd
  obtain ⟨fc, wf, hTi⟩ := id hB7
  obtain ⟨hnB, hOB, -⟩ := id hTi
  obtain ⟨ht7, hOT, hTk, hPO, -⟩ := id hT7
  have ctr : 0 ≤ c_rows ct td ∧ c_rows ct td ≤ 40 := by
    unfold c_rows c_get
    have := (rB 0).1
    split
    · omega
    · rw [if_pos (by omega)]
      exact ⟨this, r0⟩
  have c2 := rA 2
  have c5 := rA 5
  have c8 := rA 8
  have f1 : fr (XSf a) M M := fr_rf
  refine jr_aload_n (pc := 0) h dX7_sum_0 rfl ?_
  refine iv_X7_106 (pc := 1) h hl hR dX7_sum_1 ⟨(Nat.le_of_ble_eq_true rfl), (Nat.le_of_ble_eq_true rfl), (Nat.le_of_ble_eq_true rfl), (Nat.le_of_ble_eq_true rfl)⟩ (Nat.le_of_ble_eq_true rfl) (by assumption) (by omega) (s_X7_hasFlight hS) (fun v_1 n_1 M_1 hn_1 hp => ?_)
  obtain ⟨⟨rfl, rfl, rfl⟩, gr_1⟩ := hp
  refine jr_if_ne (pc := 4) h 13 dX7_sum_4 (by decide) (by omega) (fun c_4 => ?_) (fun c_4 => ?_)
  · first | have d_4 := bz_0.mp c_4 | have d_4 := bz_1.mp c_4 | skip
    refine jr_iload_n (pc := 13) h dX7_sum_13 rfl ?_
    refine jr_tableIn (pc := 14) h (x := 3) (off := 78) 92 dX7_sum_14 (by omega) (by omega) (by omega) rfl (by decide) ?_
    refine jr_aload_n (pc := 92) h dX7_sum_92 rfl ?_
    refine jr_aload_n (pc := 93) h dX7_sum_93 rfl ?_
    refine gf_X7_29 (pc := 94) h dX7_sum_94 (by assumption) (by omega) ?_
    refine jr_iconst (pc := 97) h dX7_sum_97 ?_
    refine iv_X7_169 (pc := 98) h hl hR dX7_sum_98 ⟨(Nat.le_of_ble_eq_true rfl), (Nat.le_of_ble_eq_true rfl), (Nat.le_of_ble_eq_true rfl), (Nat.le_of_ble_eq_true rfl)⟩ (Nat.le_of_ble_eq_true rfl) (by assumption) (by omega) (s_X3_sumOf hRn (by omega)) (fun v_98 n_98 M_98 hn_98 hp => ?_)
    obtain ⟨rfl, rfl, rfl⟩ := hp
    refine iv_X7_93 (pc := 101) h hl hR dX7_sum_101 ⟨(Nat.le_of_ble_eq_true rfl), (Nat.le_of_ble_eq_true rfl), (Nat.le_of_ble_eq_true rfl), (Nat.le_of_ble_eq_true rfl)⟩ (Nat.le_of_ble_eq_true rfl) (by assumption) (by omega) (s_X7_accept hS) (fun v_101 n_101 M_101 hn_101 hp => ?_)
    obtain ⟨⟨rfl, rfl⟩, hS, fa_⟩ := hp
    have f1 := fr_tr f1 fa_
    refine jr_iret (pc := 104) h hRt dX7_sum_104 rfl (Nat.le_of_ble_eq_true rfl) (Nat.le_of_ble_eq_true rfl) ?_
    refine lfA ?_ hS f1
    unfold x_sum
    (repeat' split) <;> first | rfl | (exfalso; omega) | contradiction
  · first | have d_4 := bz_0.mp c_4 | have d_4 := bz_1.mp c_4 | skip
    refine jr_aload_n (pc := 7) h dX7_sum_7 rfl ?_
    refine jr_iconst (pc := 8) h dX7_sum_8 ?_
    refine iv_X7_66 (pc := 9) h hl hR dX7_sum_9 ⟨(Nat.le_of_ble_eq_true rfl), (Nat.le_of_ble_eq_true rfl), (Nat.le_of_ble_eq_true rfl), (Nat.le_of_ble_eq_true rfl)⟩ (Nat.le_of_ble_eq_true rfl) (by assumption) (by omega) (s_X7_refuse hS) (fun v_9 n_9 M_9 hn_9 hp => ?_)
    obtain ⟨⟨rfl, rfl⟩, hS, fa_⟩ := hp
    have f1 := fr_tr f1 fa_
    refine jr_iret (pc := 12) h hRt dX7_sum_12 rfl (Nat.le_of_ble_eq_true rfl) (Nat.le_of_ble_eq_true rfl) ?_
    refine lfA ?_ hS f1
    unfold x_sum
    (repeat' split) <;> first | rfl | (exfalso; omega) | contradiction
set_option maxHeartbeats 1000000 in
set_option maxRecDepth 20000 in
theorem s_X7_sum_4 {l : Launch} {n : Nat} {M : jdM} {a cu dr : Nat} {g bs : Nat → Int} {p : TS} {ct td bk si ld : Nat → Int} {D : FS} {g3 sp sk fa go : Nat → Int} {mk : Nat → FS} {tg tk tr : Nat → Int} (hS : SXc M n a cu dr (g, bs, p, (ct, td, bk, si, ld), D, (g3, sp, sk, fa, go), mk, tg, tk, tr))  : Ct l yX7_sum cX7_sum 2 (some .int) rX7_sum [.ref a, jI 4] n M (fun vv n' M' => (vv = some (jI (x_sum ct td g3 fa 4).1) ∧ n = n') ∧ SXc M' n a cu dr (up g 10 (x_sum ct td g3 fa 4).2, bs, p, (ct, td, bk, si, ld), D, (g3, sp, sk, fa, go), mk, tg, tk, tr) ∧ fr (XSf a) M M') := by
  refine Ct_of [some (.ref a), some (jI 4)] (by decide) (Nat.le_of_ble_eq_true rfl) rfl (fun κ hl h hR hRt hmn hn0 => ?_)
  have h : Ok κ RX7 cX7_sum 2 (some .int) := h
  obtain ⟨han, hcd, hO7, hT7, hF7, hG7, hR7, hA7, hK7, hD7, hQ7, hB7⟩ := id hS
  have hO7 : M a = jdO 7 (fX7 a cu dr _) := hO7
  try dsimp only at hO7
  try dsimp only at hT7
  try dsimp only at hK7
  try dsimp only at hB7
  have hF : Fl M n cu ct td bk si ld := hF7
  have hRn : Rn M n (a + 19) g3 sp sk fa go := hR7
  obtain ⟨hnF, hOF, hAF, hBF, hCF, hDF, hEF, rA, rB, r0, rC, rD, rE⟩ := id hF
  obtain ⟨hnR, hOR, -⟩ := id hRn
  obtain ⟨dg, rm, wn, be, hDr, hwn, hbe⟩ := id hD7
  obtain ⟨hnD, hOD, -⟩ := id hDr
  obtain ⟨og, ww, hOd⟩ := id hQ7
  obtain ⟨hnQ, hOQ, -⟩ := id hOd
  obtain ⟨fc, wf, hTi⟩ := id hB7
  obtain ⟨hnB, hOB, -⟩ := id hTi
  obtain ⟨ht7, hOT, hTk, hPO, -⟩ := id hT7
  have ctr : 0 ≤ c_rows ct td ∧ c_rows ct td ≤ 40 := by
    unfold c_rows c_get
    have := (rB 0).1
    split
    · omega
    · rw [if_pos (by omega)]
      exact ⟨this, r0⟩
  have c2 := rA 2
  have c5 := rA 5
  have c8 := rA 8
  have f1 : fr (XSf a) M M := fr_rf
  refine jr_aload_n (pc := 0) h dX7_sum_0 rfl ?_
  refine iv_X7_106 (pc := 1) h hl hR dX7_sum_1 ⟨(Nat.le_of_ble_eq_true rfl), (Nat.le_of_ble_eq_true rfl), (Nat.le_of_ble_eq_true rfl), (Nat.le_of_ble_eq_true rfl)⟩ (Nat.le_of_ble_eq_true rfl) (by assumption) (by omega) (s_X7_hasFlight hS) (fun v_1 n_1 M_1 hn_1 hp => ?_)
  obtain ⟨⟨rfl, rfl, rfl⟩, gr_1⟩ := hp
  refine jr_if_ne (pc := 4) h 13 dX7_sum_4 (by decide) (by omega) (fun c_4 => ?_) (fun c_4 => ?_)
  · first | have d_4 := bz_0.mp c_4 | have d_4 := bz_1.mp c_4 | skip
    refine jr_iload_n (pc := 13) h dX7_sum_13 rfl ?_
    refine jr_tableIn (pc := 14) h (x := 4) (off := 91) 105 dX7_sum_14 (by omega) (by omega) (by omega) rfl (by decide) ?_
    refine jr_aload_n (pc := 105) h dX7_sum_105 rfl ?_
    refine jr_aload_n (pc := 106) h dX7_sum_106 rfl ?_
    refine gf_X7_29 (pc := 107) h dX7_sum_107 (by assumption) (by omega) ?_
    refine iv_X7_172 (pc := 110) h hl hR dX7_sum_110 ⟨(Nat.le_of_ble_eq_true rfl), (Nat.le_of_ble_eq_true rfl), (Nat.le_of_ble_eq_true rfl), (Nat.le_of_ble_eq_true rfl)⟩ (Nat.le_of_ble_eq_true rfl) (by assumption) (by omega) (s_X3_spilt hRn) (fun v_110 n_110 M_110 hn_110 hp => ?_)
    obtain ⟨rfl, rfl, rfl⟩ := hp
    refine iv_X7_93 (pc := 113) h hl hR dX7_sum_113 ⟨(Nat.le_of_ble_eq_true rfl), (Nat.le_of_ble_eq_true rfl), (Nat.le_of_ble_eq_true rfl), (Nat.le_of_ble_eq_true rfl)⟩ (Nat.le_of_ble_eq_true rfl) (by assumption) (by omega) (s_X7_accept hS) (fun v_113 n_113 M_113 hn_113 hp => ?_)
    obtain ⟨⟨rfl, rfl⟩, hS, fa_⟩ := hp
    have f1 := fr_tr f1 fa_
    refine jr_iret (pc := 116) h hRt dX7_sum_116 rfl (Nat.le_of_ble_eq_true rfl) (Nat.le_of_ble_eq_true rfl) ?_
    refine lfA ?_ hS f1
    unfold x_sum
    (repeat' split) <;> first | rfl | (exfalso; omega) | contradiction
  · first | have d_4 := bz_0.mp c_4 | have d_4 := bz_1.mp c_4 | skip
    refine jr_aload_n (pc := 7) h dX7_sum_7 rfl ?_
    refine jr_iconst (pc := 8) h dX7_sum_8 ?_
    refine iv_X7_66 (pc := 9) h hl hR dX7_sum_9 ⟨(Nat.le_of_ble_eq_true rfl), (Nat.le_of_ble_eq_true rfl), (Nat.le_of_ble_eq_true rfl), (Nat.le_of_ble_eq_true rfl)⟩ (Nat.le_of_ble_eq_true rfl) (by assumption) (by omega) (s_X7_refuse hS) (fun v_9 n_9 M_9 hn_9 hp => ?_)
    obtain ⟨⟨rfl, rfl⟩, hS, fa_⟩ := hp
    have f1 := fr_tr f1 fa_
    refine jr_iret (pc := 12) h hRt dX7_sum_12 rfl (Nat.le_of_ble_eq_true rfl) (Nat.le_of_ble_eq_true rfl) ?_
    refine lfA ?_ hS f1
    unfold x_sum
    (repeat' split) <;> first | rfl | (exfalso; omega) | contradiction
set_option maxHeartbeats 1000000 in
set_option maxRecDepth 20000 in
theorem s_X7_sum_5 {l : Launch} {n : Nat} {M : jdM} {a cu dr : Nat} {g bs : Nat → Int} {p : TS} {ct td bk si ld : Nat → Int} {D : FS} {g3 sp sk fa go : Nat → Int} {mk : Nat → FS} {tg tk tr : Nat → Int} (hS : SXc M n a cu dr (g, bs, p, (ct, td, bk, si, ld), D, (g3, sp, sk, fa, go), mk, tg, tk, tr))  : Ct l yX7_sum cX7_sum 2 (some .int) rX7_sum [.ref a, jI 5] n M (fun vv n' M' => (vv = some (jI (x_sum ct td g3 fa 5).1) ∧ n = n') ∧ SXc M' n a cu dr (up g 10 (x_sum ct td g3 fa 5).2, bs, p, (ct, td, bk, si, ld), D, (g3, sp, sk, fa, go), mk, tg, tk, tr) ∧ fr (XSf a) M M') := by
  refine Ct_of [some (.ref a), some (jI 5)] (by decide) (Nat.le_of_ble_eq_true rfl) rfl (fun κ hl h hR hRt hmn hn0 => ?_)
  have h : Ok κ RX7 cX7_sum 2 (some .int) := h
  obtain ⟨han, hcd, hO7, hT7, hF7, hG7, hR7, hA7, hK7, hD7, hQ7, hB7⟩ := id hS
  have hO7 : M a = jdO 7 (fX7 a cu dr _) := hO7
  try dsimp only at hO7
  try dsimp only at hT7
  try dsimp only at hK7
  try dsimp only at hB7
  have hF : Fl M n cu ct td bk si ld := hF7
  have hRn : Rn M n (a + 19) g3 sp sk fa go := hR7
  obtain ⟨hnF, hOF, hAF, hBF, hCF, hDF, hEF, rA, rB, r0, rC, rD, rE⟩ := id hF
  obtain ⟨hnR, hOR, -⟩ := id hRn
  obtain ⟨dg, rm, wn, be, hDr, hwn, hbe⟩ := id hD7
  obtain ⟨hnD, hOD, -⟩ := id hDr
  obtain ⟨og, ww, hOd⟩ := id hQ7
  obtain ⟨hnQ, hOQ, -⟩ := id hOd
  obtain ⟨fc, wf, hTi⟩ := id hB7
  obtain ⟨hnB, hOB, -⟩ := id hTi
  obtain ⟨ht7, hOT, hTk, hPO, -⟩ := id hT7
  have ctr : 0 ≤ c_rows ct td ∧ c_rows ct td ≤ 40 := by
    unfold c_rows c_get
    have := (rB 0).1
    split
    · omega
    · rw [if_pos (by omega)]
      exact ⟨this, r0⟩
  have c2 := rA 2
  have c5 := rA 5
  have c8 := rA 8
  have f1 : fr (XSf a) M M := fr_rf
  refine jr_aload_n (pc := 0) h dX7_sum_0 rfl ?_
  refine iv_X7_106 (pc := 1) h hl hR dX7_sum_1 ⟨(Nat.le_of_ble_eq_true rfl), (Nat.le_of_ble_eq_true rfl), (Nat.le_of_ble_eq_true rfl), (Nat.le_of_ble_eq_true rfl)⟩ (Nat.le_of_ble_eq_true rfl) (by assumption) (by omega) (s_X7_hasFlight hS) (fun v_1 n_1 M_1 hn_1 hp => ?_)
  obtain ⟨⟨rfl, rfl, rfl⟩, gr_1⟩ := hp
  refine jr_if_ne (pc := 4) h 13 dX7_sum_4 (by decide) (by omega) (fun c_4 => ?_) (fun c_4 => ?_)
  · first | have d_4 := bz_0.mp c_4 | have d_4 := bz_1.mp c_4 | skip
    refine jr_iload_n (pc := 13) h dX7_sum_13 rfl ?_
    refine jr_tableIn (pc := 14) h (x := 5) (off := 103) 117 dX7_sum_14 (by omega) (by omega) (by omega) rfl (by decide) ?_
    refine jr_aload_n (pc := 117) h dX7_sum_117 rfl ?_
    refine jr_aload_n (pc := 118) h dX7_sum_118 rfl ?_
    refine gf_X7_29 (pc := 119) h dX7_sum_119 (by assumption) (by omega) ?_
    refine jr_aload_n (pc := 122) h dX7_sum_122 rfl ?_
    refine gf_X7_19 (pc := 123) h dX7_sum_123 (by assumption) (by omega) ?_
    refine iv_X7_175 (pc := 126) h hl hR dX7_sum_126 ⟨(Nat.le_of_ble_eq_true rfl), (Nat.le_of_ble_eq_true rfl), (Nat.le_of_ble_eq_true rfl), (Nat.le_of_ble_eq_true rfl)⟩ (Nat.le_of_ble_eq_true rfl) (by assumption) (by omega) (s_X3_rowsServed hRn hF) (fun v_126 n_126 M_126 hn_126 hp => ?_)
    obtain ⟨rfl, rfl, rfl⟩ := hp
    refine iv_X7_93 (pc := 129) h hl hR dX7_sum_129 ⟨(Nat.le_of_ble_eq_true rfl), (Nat.le_of_ble_eq_true rfl), (Nat.le_of_ble_eq_true rfl), (Nat.le_of_ble_eq_true rfl)⟩ (Nat.le_of_ble_eq_true rfl) (by assumption) (by omega) (s_X7_accept hS) (fun v_129 n_129 M_129 hn_129 hp => ?_)
    obtain ⟨⟨rfl, rfl⟩, hS, fa_⟩ := hp
    have f1 := fr_tr f1 fa_
    refine jr_iret (pc := 132) h hRt dX7_sum_132 rfl (Nat.le_of_ble_eq_true rfl) (Nat.le_of_ble_eq_true rfl) ?_
    refine lfA ?_ hS f1
    unfold x_sum
    (repeat' split) <;> first | rfl | (exfalso; omega) | contradiction
  · first | have d_4 := bz_0.mp c_4 | have d_4 := bz_1.mp c_4 | skip
    refine jr_aload_n (pc := 7) h dX7_sum_7 rfl ?_
    refine jr_iconst (pc := 8) h dX7_sum_8 ?_
    refine iv_X7_66 (pc := 9) h hl hR dX7_sum_9 ⟨(Nat.le_of_ble_eq_true rfl), (Nat.le_of_ble_eq_true rfl), (Nat.le_of_ble_eq_true rfl), (Nat.le_of_ble_eq_true rfl)⟩ (Nat.le_of_ble_eq_true rfl) (by assumption) (by omega) (s_X7_refuse hS) (fun v_9 n_9 M_9 hn_9 hp => ?_)
    obtain ⟨⟨rfl, rfl⟩, hS, fa_⟩ := hp
    have f1 := fr_tr f1 fa_
    refine jr_iret (pc := 12) h hRt dX7_sum_12 rfl (Nat.le_of_ble_eq_true rfl) (Nat.le_of_ble_eq_true rfl) ?_
    refine lfA ?_ hS f1
    unfold x_sum
    (repeat' split) <;> first | rfl | (exfalso; omega) | contradiction
set_option maxHeartbeats 1000000 in
set_option maxRecDepth 20000 in
theorem s_X7_sum_o {l : Launch} {n : Nat} {M : jdM} {a cu dr : Nat} {g bs : Nat → Int} {p : TS} {ct td bk si ld : Nat → Int} {D : FS} {g3 sp sk fa go : Nat → Int} {mk : Nat → FS} {tg tk tr : Nat → Int} (hS : SXc M n a cu dr (g, bs, p, (ct, td, bk, si, ld), D, (g3, sp, sk, fa, go), mk, tg, tk, tr)) {x : Int} (hx : -2147483648 ≤ x ∧ x < 2147483648) (ho : x < 0 ∨ 5 < x) : Ct l yX7_sum cX7_sum 2 (some .int) rX7_sum [.ref a, jI x] n M (fun vv n' M' => (vv = some (jI (x_sum ct td g3 fa x).1) ∧ n = n') ∧ SXc M' n a cu dr (up g 10 (x_sum ct td g3 fa x).2, bs, p, (ct, td, bk, si, ld), D, (g3, sp, sk, fa, go), mk, tg, tk, tr) ∧ fr (XSf a) M M') := by
  refine Ct_of [some (.ref a), some (jI x)] (by decide) (Nat.le_of_ble_eq_true rfl) rfl (fun κ hl h hR hRt hmn hn0 => ?_)
  have h : Ok κ RX7 cX7_sum 2 (some .int) := h
  obtain ⟨han, hcd, hO7, hT7, hF7, hG7, hR7, hA7, hK7, hD7, hQ7, hB7⟩ := id hS
  have hO7 : M a = jdO 7 (fX7 a cu dr _) := hO7
  try dsimp only at hO7
  try dsimp only at hT7
  try dsimp only at hK7
  try dsimp only at hB7
  have hF : Fl M n cu ct td bk si ld := hF7
  have hRn : Rn M n (a + 19) g3 sp sk fa go := hR7
  obtain ⟨hnF, hOF, hAF, hBF, hCF, hDF, hEF, rA, rB, r0, rC, rD, rE⟩ := id hF
  obtain ⟨hnR, hOR, -⟩ := id hRn
  obtain ⟨dg, rm, wn, be, hDr, hwn, hbe⟩ := id hD7
  obtain ⟨hnD, hOD, -⟩ := id hDr
  obtain ⟨og, ww, hOd⟩ := id hQ7
  obtain ⟨hnQ, hOQ, -⟩ := id hOd
  obtain ⟨fc, wf, hTi⟩ := id hB7
  obtain ⟨hnB, hOB, -⟩ := id hTi
  obtain ⟨ht7, hOT, hTk, hPO, -⟩ := id hT7
  have ctr : 0 ≤ c_rows ct td ∧ c_rows ct td ≤ 40 := by
    unfold c_rows c_get
    have := (rB 0).1
    split
    · omega
    · rw [if_pos (by omega)]
      exact ⟨this, r0⟩
  have c2 := rA 2
  have c5 := rA 5
  have c8 := rA 8
  have f1 : fr (XSf a) M M := fr_rf
  refine jr_aload_n (pc := 0) h dX7_sum_0 rfl ?_
  refine iv_X7_106 (pc := 1) h hl hR dX7_sum_1 ⟨(Nat.le_of_ble_eq_true rfl), (Nat.le_of_ble_eq_true rfl), (Nat.le_of_ble_eq_true rfl), (Nat.le_of_ble_eq_true rfl)⟩ (Nat.le_of_ble_eq_true rfl) (by assumption) (by omega) (s_X7_hasFlight hS) (fun v_1 n_1 M_1 hn_1 hp => ?_)
  obtain ⟨⟨rfl, rfl, rfl⟩, gr_1⟩ := hp
  refine jr_if_ne (pc := 4) h 13 dX7_sum_4 (by decide) (by omega) (fun c_4 => ?_) (fun c_4 => ?_)
  · first | have d_4 := bz_0.mp c_4 | have d_4 := bz_1.mp c_4 | skip
    refine jr_iload_n (pc := 13) h dX7_sum_13 rfl ?_
    refine jr_tableOut (pc := 14) h (x := x) 133 dX7_sum_14 (by omega) (by omega) (by decide) ?_
    refine jr_aload_n (pc := 133) h dX7_sum_133 rfl ?_
    refine jr_iconst (pc := 134) h dX7_sum_134 ?_
    refine iv_X7_66 (pc := 135) h hl hR dX7_sum_135 ⟨(Nat.le_of_ble_eq_true rfl), (Nat.le_of_ble_eq_true rfl), (Nat.le_of_ble_eq_true rfl), (Nat.le_of_ble_eq_true rfl)⟩ (Nat.le_of_ble_eq_true rfl) (by assumption) (by omega) (s_X7_refuse hS) (fun v_135 n_135 M_135 hn_135 hp => ?_)
    obtain ⟨⟨rfl, rfl⟩, hS, fa_⟩ := hp
    have f1 := fr_tr f1 fa_
    refine jr_iret (pc := 138) h hRt dX7_sum_138 rfl (Nat.le_of_ble_eq_true rfl) (Nat.le_of_ble_eq_true rfl) ?_
    refine lfA ?_ hS f1
    unfold x_sum
    (repeat' split) <;> first | rfl | (exfalso; omega) | contradiction
  · first | have d_4 := bz_0.mp c_4 | have d_4 := bz_1.mp c_4 | skip
    refine jr_aload_n (pc := 7) h dX7_sum_7 rfl ?_
    refine jr_iconst (pc := 8) h dX7_sum_8 ?_
    refine iv_X7_66 (pc := 9) h hl hR dX7_sum_9 ⟨(Nat.le_of_ble_eq_true rfl), (Nat.le_of_ble_eq_true rfl), (Nat.le_of_ble_eq_true rfl), (Nat.le_of_ble_eq_true rfl)⟩ (Nat.le_of_ble_eq_true rfl) (by assumption) (by omega) (s_X7_refuse hS) (fun v_9 n_9 M_9 hn_9 hp => ?_)
    obtain ⟨⟨rfl, rfl⟩, hS, fa_⟩ := hp
    have f1 := fr_tr f1 fa_
    refine jr_iret (pc := 12) h hRt dX7_sum_12 rfl (Nat.le_of_ble_eq_true rfl) (Nat.le_of_ble_eq_true rfl) ?_
    refine lfA ?_ hS f1
    unfold x_sum
    (repeat' split) <;> first | rfl | (exfalso; omega) | contradiction
theorem s_X7_sum {l : Launch} {n : Nat} {M : jdM} {a cu dr : Nat} {g bs : Nat → Int} {p : TS} {ct td bk si ld : Nat → Int} {D : FS} {g3 sp sk fa go : Nat → Int} {mk : Nat → FS} {tg tk tr : Nat → Int} (hS : SXc M n a cu dr (g, bs, p, (ct, td, bk, si, ld), D, (g3, sp, sk, fa, go), mk, tg, tk, tr)) {x : Int} (hx : -2147483648 ≤ x ∧ x < 2147483648) : Ct l yX7_sum cX7_sum 2 (some .int) rX7_sum [.ref a, jI x] n M (fun vv n' M' => (vv = some (jI (x_sum ct td g3 fa x).1) ∧ n = n') ∧ SXc M' n a cu dr (up g 10 (x_sum ct td g3 fa x).2, bs, p, (ct, td, bk, si, ld), D, (g3, sp, sk, fa, go), mk, tg, tk, tr) ∧ fr (XSf a) M M') := by
  by_cases ho : x < 0 ∨ 5 < x
  · exact s_X7_sum_o hS hx ho
  · have h3 : x = 0 ∨ x = 1 ∨ x = 2 ∨ x = 3 ∨ x = 4 ∨ x = 5 := by omega
    rcases h3 with rfl | rfl | rfl | rfl | rfl | rfl
    · exact s_X7_sum_0 hS
    · exact s_X7_sum_1 hS
    · exact s_X7_sum_2 hS
    · exact s_X7_sum_3 hS
    · exact s_X7_sum_4 hS
    · exact s_X7_sum_5 hS
set_option maxHeartbeats 1000000 in
set_option maxRecDepth 20000 in
theorem s_X7_cold {l : Launch} {n : Nat} {M : jdM} {a cu dr : Nat} {g bs : Nat → Int} {p : TS} {ct td bk si ld : Nat → Int} {D : FS} {g3 sp sk fa go : Nat → Int} {mk : Nat → FS} {tg tk tr : Nat → Int} (hS : SXc M n a cu dr (g, bs, p, (ct, td, bk, si, ld), D, (g3, sp, sk, fa, go), mk, tg, tk, tr)) {x y : Int} (hx : -2147483648 ≤ x ∧ x < 2147483648) (hy : -2147483648 ≤ y ∧ y < 2147483648)  : Ct l yX7_cold cX7_cold 4 (some .int) rX7_cold [.ref a, jI x, jI y] n M (fun vv n' M' => (vv = some (jI (x_cold ct td x y).1) ∧ n = n') ∧ SXc M' n a cu dr (up g 10 (x_cold ct td x y).2, bs, p, (ct, td, bk, si, ld), D, (g3, sp, sk, fa, go), mk, tg, tk, tr) ∧ fr (XSf a) M M') := by
  refine Ct_of [some (.ref a), some (jI x), some (jI y), none] (by decide) (Nat.le_of_ble_eq_true rfl) rfl (fun κ hl h hR hRt hmn hn0 => ?_)
  have h : Ok κ RX7 cX7_cold 4 (some .int) := h
  obtain ⟨han, hcd, hO7, hT7, hF7, hG7, hR7, hA7, hK7, hD7, hQ7, hB7⟩ := id hS
  have hO7 : M a = jdO 7 (fX7 a cu dr _) := hO7
  try dsimp only at hO7
  try dsimp only at hT7
  try dsimp only at hK7
  try dsimp only at hB7
  have hF : Fl M n cu ct td bk si ld := hF7
  have hRn : Rn M n (a + 19) g3 sp sk fa go := hR7
  obtain ⟨hnF, hOF, hAF, hBF, hCF, hDF, hEF, rA, rB, r0, rC, rD, rE⟩ := id hF
  obtain ⟨hnR, hOR, -⟩ := id hRn
  obtain ⟨dg, rm, wn, be, hDr, hwn, hbe⟩ := id hD7
  obtain ⟨hnD, hOD, -⟩ := id hDr
  obtain ⟨og, ww, hOd⟩ := id hQ7
  obtain ⟨hnQ, hOQ, -⟩ := id hOd
  obtain ⟨fc, wf, hTi⟩ := id hB7
  obtain ⟨hnB, hOB, -⟩ := id hTi
  obtain ⟨ht7, hOT, hTk, hPO, -⟩ := id hT7
  have ctr : 0 ≤ c_rows ct td ∧ c_rows ct td ≤ 40 := by
    unfold c_rows c_get
    have := (rB 0).1
    split
    · omega
    · rw [if_pos (by omega)]
      exact ⟨this, r0⟩
  have c2 := rA 2
  have c5 := rA 5
  have c8 := rA 8
  have f1 : fr (XSf a) M M := fr_rf
  have loop : ∀ (dq : Nat) (i : Int), (y ≤ i ∧ i ≤ 1000) → (0 ≤ x ∧ x < ct 2) → (0 ≤ y ∧ y ≤ 999) → (fstZ (fun m => c_deg ct td x m < c_get td 1 0 0) y (1000 - y).toNat = fstZ (fun m => c_deg ct td x m < c_get td 1 0 0) i (1000 - i).toNat) → (1001 - i).toNat < dq → J κ 4 0 0 n 29 [some (.ref a), some (jI x), some (jI y), some (jI i)] [] M := by
    intro dq
    induction dq with
    | zero => intro i hi hk hm hxx hd; omega
    | succ dq ih =>
      intro i hi hk hm hxx hd
      refine jr_iload_n (pc := 29) h dX7_cold_29 rfl ?_
      refine jr_sipush (pc := 30) h dX7_cold_30 sp_999 ?_
      refine jr_icmp_gt (pc := 33) h 60 dX7_cold_33 (by decide) (by omega) (by omega) (fun c_33 => ?_) (fun c_33 => ?_)
      · first | have d_33 := bz_0.mp c_33 | have d_33 := bz_1.mp c_33 | skip
        refine jr_aload_n (pc := 60) h dX7_cold_60 rfl ?_
        refine jr_bipush (pc := 61) h dX7_cold_61 bp_m2 ?_
        refine iv_X7_93 (pc := 63) h hl hR dX7_cold_63 ⟨(Nat.le_of_ble_eq_true rfl), (Nat.le_of_ble_eq_true rfl), (Nat.le_of_ble_eq_true rfl), (Nat.le_of_ble_eq_true rfl)⟩ (Nat.le_of_ble_eq_true rfl) (by assumption) (by omega) (s_X7_accept hS) (fun v_63 n_63 M_63 hn_63 hp => ?_)
        obtain ⟨⟨rfl, rfl⟩, hS, fa_⟩ := hp
        have f1 := fr_tr f1 fa_
        refine jr_iret (pc := 66) h hRt dX7_cold_66 rfl (Nat.le_of_ble_eq_true rfl) (Nat.le_of_ble_eq_true rfl) ?_
        refine lfA ?_ hS f1
        unfold x_cold
        first
        | (rw [if_neg (by omega)])
        | (rw [if_pos (by omega), if_neg (by omega)])
        | (rw [if_pos (by omega), if_pos (by omega), show (1000 - y).toNat = (1000 - y).toNat from rfl, hxx, fstZ_0 (by omega), if_pos rfl])
        | (rw [if_pos (by omega), if_pos (by omega), hxx, fstZ_t (p := (fun m => c_deg ct td x m < c_get td 1 0 0)) (by omega) d_45, if_neg (by omega)])
      · first | have d_33 := bz_0.mp c_33 | have d_33 := bz_1.mp c_33 | skip
        refine jr_aload_n (pc := 36) h dX7_cold_36 rfl ?_
        refine gf_X7_19 (pc := 37) h dX7_cold_37 (by assumption) (by omega) ?_
        refine jr_iload_n (pc := 40) h dX7_cold_40 rfl ?_
        refine jr_iload_n (pc := 41) h dX7_cold_41 rfl ?_
        refine iv_X7_187 (pc := 42) h hl hR dX7_cold_42 ⟨(Nat.le_of_ble_eq_true rfl), (Nat.le_of_ble_eq_true rfl), (Nat.le_of_ble_eq_true rfl), (Nat.le_of_ble_eq_true rfl)⟩ (Nat.le_of_ble_eq_true rfl) (by assumption) (by omega) (s_X1_isCold hF (by omega) (by omega)) (fun v_42 n_42 M_42 hn_42 hp => ?_)
        obtain ⟨⟨rfl, rfl, rfl⟩, gr_42⟩ := hp
        refine jr_if_eq (pc := 45) h 54 dX7_cold_45 (by decide) (by omega) (fun c_45 => ?_) (fun c_45 => ?_)
        · first | have d_45 := bz_0.mp c_45 | have d_45 := bz_1.mp c_45 | skip
          refine jr_iinc (pc := 54) h [_, _, _, _] dX7_cold_54 (by decide) rfl rfl ?_
          refine jr_goto (pc := 57) h 29 dX7_cold_57 (by decide) ?_
          refine ih _ (by omega) hk hm ?_ (by omega)
          rw [hxx, fstZ_f (p := (fun m => c_deg ct td x m < c_get td 1 0 0)) (by omega) d_45]
        · first | have d_45 := bz_0.mp c_45 | have d_45 := bz_1.mp c_45 | skip
          refine jr_aload_n (pc := 48) h dX7_cold_48 rfl ?_
          refine jr_iload_n (pc := 49) h dX7_cold_49 rfl ?_
          refine iv_X7_93 (pc := 50) h hl hR dX7_cold_50 ⟨(Nat.le_of_ble_eq_true rfl), (Nat.le_of_ble_eq_true rfl), (Nat.le_of_ble_eq_true rfl), (Nat.le_of_ble_eq_true rfl)⟩ (Nat.le_of_ble_eq_true rfl) (by assumption) (by omega) (s_X7_accept hS) (fun v_50 n_50 M_50 hn_50 hp => ?_)
          obtain ⟨⟨rfl, rfl⟩, hS, fa_⟩ := hp
          have f1 := fr_tr f1 fa_
          refine jr_iret (pc := 53) h hRt dX7_cold_53 rfl (Nat.le_of_ble_eq_true rfl) (Nat.le_of_ble_eq_true rfl) ?_
          refine lfA ?_ hS f1
          unfold x_cold
          first
          | (rw [if_neg (by omega)])
          | (rw [if_pos (by omega), if_neg (by omega)])
          | (rw [if_pos (by omega), if_pos (by omega), show (1000 - y).toNat = (1000 - y).toNat from rfl, hxx, fstZ_0 (by omega), if_pos rfl])
          | (rw [if_pos (by omega), if_pos (by omega), hxx, fstZ_t (p := (fun m => c_deg ct td x m < c_get td 1 0 0)) (by omega) d_45, if_neg (by omega)])
  refine jr_aload_n (pc := 0) h dX7_cold_0 rfl ?_
  refine jr_iload_n (pc := 1) h dX7_cold_1 rfl ?_
  refine iv_X7_117 (pc := 2) h hl hR dX7_cold_2 ⟨(Nat.le_of_ble_eq_true rfl), (Nat.le_of_ble_eq_true rfl), (Nat.le_of_ble_eq_true rfl), (Nat.le_of_ble_eq_true rfl)⟩ (Nat.le_of_ble_eq_true rfl) (by assumption) (by omega) (s_X7_isKind hS (by omega)) (fun v_2 n_2 M_2 hn_2 hp => ?_)
  obtain ⟨⟨rfl, rfl, rfl⟩, gr_2⟩ := hp
  refine jr_if_ne (pc := 5) h 14 dX7_cold_5 (by decide) (by omega) (fun c_5 => ?_) (fun c_5 => ?_)
  · first | have d_5 := bz_0.mp c_5 | have d_5 := bz_1.mp c_5 | skip
    refine jr_iload_n (pc := 14) h dX7_cold_14 rfl ?_
    refine iv_X7_181 (pc := 15) h hl hR dX7_cold_15 ⟨(Nat.le_of_ble_eq_true rfl), (Nat.le_of_ble_eq_true rfl), (Nat.le_of_ble_eq_true rfl), (Nat.le_of_ble_eq_true rfl)⟩ (Nat.le_of_ble_eq_true rfl) (s_X7_isMinute (by omega)) (fun v_15 n_15 M_15 hn_15 hp => ?_)
    obtain ⟨⟨rfl, rfl, rfl⟩, gr_15⟩ := hp
    refine jr_if_ne (pc := 18) h 27 dX7_cold_18 (by decide) (by omega) (fun c_18 => ?_) (fun c_18 => ?_)
    · first | have d_18 := bz_0.mp c_18 | have d_18 := bz_1.mp c_18 | skip
      refine jr_iload_n (pc := 27) h dX7_cold_27 rfl ?_
      refine jr_istore_n (pc := 28) h [_, _, _, _] dX7_cold_28 (by decide) rfl ?_
      exact loop _ _ (by omega) d_5 d_18 rfl (Nat.lt_succ_self _)
    · first | have d_18 := bz_0.mp c_18 | have d_18 := bz_1.mp c_18 | skip
      refine jr_aload_n (pc := 21) h dX7_cold_21 rfl ?_
      refine jr_iconst (pc := 22) h dX7_cold_22 ?_
      refine iv_X7_66 (pc := 23) h hl hR dX7_cold_23 ⟨(Nat.le_of_ble_eq_true rfl), (Nat.le_of_ble_eq_true rfl), (Nat.le_of_ble_eq_true rfl), (Nat.le_of_ble_eq_true rfl)⟩ (Nat.le_of_ble_eq_true rfl) (by assumption) (by omega) (s_X7_refuse hS) (fun v_23 n_23 M_23 hn_23 hp => ?_)
      obtain ⟨⟨rfl, rfl⟩, hS, fa_⟩ := hp
      have f1 := fr_tr f1 fa_
      refine jr_iret (pc := 26) h hRt dX7_cold_26 rfl (Nat.le_of_ble_eq_true rfl) (Nat.le_of_ble_eq_true rfl) ?_
      refine lfA ?_ hS f1
      unfold x_cold
      first
      | (rw [if_neg (by omega)])
      | (rw [if_pos (by omega), if_neg (by omega)])
      | (rw [if_pos (by omega), if_pos (by omega), show (1000 - y).toNat = (1000 - y).toNat from rfl, hxx, fstZ_0 (by omega), if_pos rfl])
      | (rw [if_pos (by omega), if_pos (by omega), hxx, fstZ_t (p := (fun m => c_deg ct td x m < c_get td 1 0 0)) (by omega) d_45, if_neg (by omega)])
  · first | have d_5 := bz_0.mp c_5 | have d_5 := bz_1.mp c_5 | skip
    refine jr_aload_n (pc := 8) h dX7_cold_8 rfl ?_
    refine jr_iconst (pc := 9) h dX7_cold_9 ?_
    refine iv_X7_66 (pc := 10) h hl hR dX7_cold_10 ⟨(Nat.le_of_ble_eq_true rfl), (Nat.le_of_ble_eq_true rfl), (Nat.le_of_ble_eq_true rfl), (Nat.le_of_ble_eq_true rfl)⟩ (Nat.le_of_ble_eq_true rfl) (by assumption) (by omega) (s_X7_refuse hS) (fun v_10 n_10 M_10 hn_10 hp => ?_)
    obtain ⟨⟨rfl, rfl⟩, hS, fa_⟩ := hp
    have f1 := fr_tr f1 fa_
    refine jr_iret (pc := 13) h hRt dX7_cold_13 rfl (Nat.le_of_ble_eq_true rfl) (Nat.le_of_ble_eq_true rfl) ?_
    refine lfA ?_ hS f1
    unfold x_cold
    first
    | (rw [if_neg (by omega)])
    | (rw [if_pos (by omega), if_neg (by omega)])
    | (rw [if_pos (by omega), if_pos (by omega), show (1000 - y).toNat = (1000 - y).toNat from rfl, hxx, fstZ_0 (by omega), if_pos rfl])
    | (rw [if_pos (by omega), if_pos (by omega), hxx, fstZ_t (p := (fun m => c_deg ct td x m < c_get td 1 0 0)) (by omega) d_45, if_neg (by omega)])
set_option maxHeartbeats 1000000 in
set_option maxRecDepth 20000 in
theorem s_X7_soonest {l : Launch} {n : Nat} {M : jdM} {a cu dr : Nat} {g bs : Nat → Int} {p : TS} {ct td bk si ld : Nat → Int} {D : FS} {g3 sp sk fa go : Nat → Int} {mk : Nat → FS} {tg tk tr : Nat → Int} (hS : SXc M n a cu dr (g, bs, p, (ct, td, bk, si, ld), D, (g3, sp, sk, fa, go), mk, tg, tk, tr))  : Ct l yX7_soonest cX7_soonest 5 (some .int) rX7_soonest [.ref a] n M (fun vv n' M' => (vv = some (jI (x_soonest ct td si).1) ∧ n = n') ∧ SXc M' n a cu dr (up g 10 (x_soonest ct td si).2, bs, p, (ct, td, bk, si, ld), D, (g3, sp, sk, fa, go), mk, tg, tk, tr) ∧ fr (XSf a) M M') := by
  refine Ct_of [some (.ref a), none, none, none, none] (by decide) (Nat.le_of_ble_eq_true rfl) rfl (fun κ hl h hR hRt hmn hn0 => ?_)
  have h : Ok κ RX7 cX7_soonest 5 (some .int) := h
  obtain ⟨han, hcd, hO7, hT7, hF7, hG7, hR7, hA7, hK7, hD7, hQ7, hB7⟩ := id hS
  have hO7 : M a = jdO 7 (fX7 a cu dr _) := hO7
  try dsimp only at hO7
  try dsimp only at hT7
  try dsimp only at hK7
  try dsimp only at hB7
  have hF : Fl M n cu ct td bk si ld := hF7
  have hRn : Rn M n (a + 19) g3 sp sk fa go := hR7
  obtain ⟨hnF, hOF, hAF, hBF, hCF, hDF, hEF, rA, rB, r0, rC, rD, rE⟩ := id hF
  obtain ⟨hnR, hOR, -⟩ := id hRn
  obtain ⟨dg, rm, wn, be, hDr, hwn, hbe⟩ := id hD7
  obtain ⟨hnD, hOD, -⟩ := id hDr
  obtain ⟨og, ww, hOd⟩ := id hQ7
  obtain ⟨hnQ, hOQ, -⟩ := id hOd
  obtain ⟨fc, wf, hTi⟩ := id hB7
  obtain ⟨hnB, hOB, -⟩ := id hTi
  obtain ⟨ht7, hOT, hTk, hPO, -⟩ := id hT7
  have ctr : 0 ≤ c_rows ct td ∧ c_rows ct td ≤ 40 := by
    unfold c_rows c_get
    have := (rB 0).1
    split
    · omega
    · rw [if_pos (by omega)]
      exact ⟨this, r0⟩
  have c2 := rA 2
  have c5 := rA 5
  have c8 := rA 8
  have f1 : fr (XSf a) M M := fr_rf
  have loop : ∀ (dq : Nat) (b v i : Int) (u4 : Option Value), (1 ≤ i ∧ i ≤ c_rows ct td + 1) → (0 < c_rows ct td) → (0 ≤ v ∧ v ≤ 1000000000) → ((b, v) = soF (c_sec ct td si) (i - 1).toNat) → (50 - i).toNat < dq → J κ 5 0 0 n 26 [some (.ref a), some (jI b), some (jI v), some (jI i), u4] [] M := by
    intro dq
    induction dq with
    | zero => intro b v i u4 hi hp0 hv hxx hd; omega
    | succ dq ih =>
      intro b v i u4 hi hp0 hv hxx hd
      refine jr_iload_n (pc := 26) h dX7_soonest_26 rfl ?_
      refine jr_aload_n (pc := 27) h dX7_soonest_27 rfl ?_
      refine gf_X7_19 (pc := 28) h dX7_soonest_28 (by assumption) (by omega) ?_
      refine iv_X7_110 (pc := 31) h hl hR dX7_soonest_31 ⟨(Nat.le_of_ble_eq_true rfl), (Nat.le_of_ble_eq_true rfl), (Nat.le_of_ble_eq_true rfl), (Nat.le_of_ble_eq_true rfl)⟩ (Nat.le_of_ble_eq_true rfl) (by assumption) (by omega) (s_X1_rows hF) (fun v_31 n_31 M_31 hn_31 hp => ?_)
      obtain ⟨⟨rfl, rfl, rfl⟩, gr_31⟩ := hp
      refine jr_icmp_gt (pc := 34) h 64 dX7_soonest_34 (by decide) (by omega) (by omega) (fun c_34 => ?_) (fun c_34 => ?_)
      · first | have d_34 := bz_0.mp c_34 | have d_34 := bz_1.mp c_34 | skip
        refine jr_aload_n (pc := 64) h dX7_soonest_64 rfl ?_
        refine jr_iload_n (pc := 65) h dX7_soonest_65 rfl ?_
        refine iv_X7_93 (pc := 66) h hl hR dX7_soonest_66 ⟨(Nat.le_of_ble_eq_true rfl), (Nat.le_of_ble_eq_true rfl), (Nat.le_of_ble_eq_true rfl), (Nat.le_of_ble_eq_true rfl)⟩ (Nat.le_of_ble_eq_true rfl) (by assumption) (by omega) (s_X7_accept hS) (fun v_66 n_66 M_66 hn_66 hp => ?_)
        obtain ⟨⟨rfl, rfl⟩, hS, fa_⟩ := hp
        have f1 := fr_tr f1 fa_
        refine jr_iret (pc := 69) h hRt dX7_soonest_69 rfl (Nat.le_of_ble_eq_true rfl) (Nat.le_of_ble_eq_true rfl) ?_
        refine lfA ?_ hS f1
        unfold x_soonest
        first
        | (rw [if_neg (by omega)])
        | (rw [if_pos (by omega), show (c_rows ct td).toNat = (i - 1).toNat by omega, ← hxx])
      · first | have d_34 := bz_0.mp c_34 | have d_34 := bz_1.mp c_34 | skip
        refine jr_aload_n (pc := 37) h dX7_soonest_37 rfl ?_
        refine gf_X7_19 (pc := 38) h dX7_soonest_38 (by assumption) (by omega) ?_
        refine jr_iload_n (pc := 41) h dX7_soonest_41 rfl ?_
        refine iv_X7_198 (pc := 42) h hl hR dX7_soonest_42 ⟨(Nat.le_of_ble_eq_true rfl), (Nat.le_of_ble_eq_true rfl), (Nat.le_of_ble_eq_true rfl), (Nat.le_of_ble_eq_true rfl)⟩ (Nat.le_of_ble_eq_true rfl) (by assumption) (by omega) (s_X1_secondsMeetingAt hF (by omega)) (fun v_42 n_42 M_42 hn_42 hp => ?_)
        obtain ⟨⟨rfl, rfl, rfl⟩, gr_42⟩ := hp
        refine jr_istore (pc := 45) h [_, _, _, _, _] dX7_soonest_45 (by decide) rfl ?_
        refine jr_iload (pc := 47) h dX7_soonest_47 rfl ?_
        refine jr_iload_n (pc := 49) h dX7_soonest_49 rfl ?_
        refine jr_icmp_ge (pc := 50) h 58 dX7_soonest_50 (by decide) (by omega) (by omega) (fun c_50 => ?_) (fun c_50 => ?_)
        · first | have d_50 := bz_0.mp c_50 | have d_50 := bz_1.mp c_50 | skip
          refine jr_iinc (pc := 58) h [_, _, _, _, _] dX7_soonest_58 (by decide) rfl rfl ?_
          refine jr_goto (pc := 61) h 26 dX7_soonest_61 (by decide) ?_
          refine ih _ _ _ _ (by omega) hp0 (by omega) ?_ (by omega)
          unfold soF at hxx ⊢
          rw [show i + 1 - 1 = i - 1 + 1 by omega, foldS_s (by omega), ← hxx]
          unfold so1
          dsimp only
          rw [show 1 + (i - 1) = i by omega]
          first
          | rw [if_pos (by omega)]
          | rw [if_neg (by omega)]
        · first | have d_50 := bz_0.mp c_50 | have d_50 := bz_1.mp c_50 | skip
          refine jr_iload_n (pc := 53) h dX7_soonest_53 rfl ?_
          refine jr_istore_n (pc := 54) h [_, _, _, _, _] dX7_soonest_54 (by decide) rfl ?_
          refine jr_iload (pc := 55) h dX7_soonest_55 rfl ?_
          refine jr_istore_n (pc := 57) h [_, _, _, _, _] dX7_soonest_57 (by decide) rfl ?_
          refine jr_iinc (pc := 58) h [_, _, _, _, _] dX7_soonest_58 (by decide) rfl rfl ?_
          refine jr_goto (pc := 61) h 26 dX7_soonest_61 (by decide) ?_
          refine ih _ _ _ _ (by omega) hp0 (by omega) ?_ (by omega)
          unfold soF at hxx ⊢
          rw [show i + 1 - 1 = i - 1 + 1 by omega, foldS_s (by omega), ← hxx]
          unfold so1
          dsimp only
          rw [show 1 + (i - 1) = i by omega]
          first
          | rw [if_pos (by omega)]
          | rw [if_neg (by omega)]
  refine jr_aload_n (pc := 0) h dX7_soonest_0 rfl ?_
  refine iv_X7_106 (pc := 1) h hl hR dX7_soonest_1 ⟨(Nat.le_of_ble_eq_true rfl), (Nat.le_of_ble_eq_true rfl), (Nat.le_of_ble_eq_true rfl), (Nat.le_of_ble_eq_true rfl)⟩ (Nat.le_of_ble_eq_true rfl) (by assumption) (by omega) (s_X7_hasFlight hS) (fun v_1 n_1 M_1 hn_1 hp => ?_)
  obtain ⟨⟨rfl, rfl, rfl⟩, gr_1⟩ := hp
  refine jr_if_ne (pc := 4) h 13 dX7_soonest_4 (by decide) (by omega) (fun c_4 => ?_) (fun c_4 => ?_)
  · first | have d_4 := bz_0.mp c_4 | have d_4 := bz_1.mp c_4 | skip
    refine jr_iconst (pc := 13) h dX7_soonest_13 ?_
    refine jr_istore_n (pc := 14) h [_, _, _, _, _] dX7_soonest_14 (by decide) rfl ?_
    refine jr_aload_n (pc := 15) h dX7_soonest_15 rfl ?_
    refine gf_X7_19 (pc := 16) h dX7_soonest_16 (by assumption) (by omega) ?_
    refine jr_iconst (pc := 19) h dX7_soonest_19 ?_
    refine iv_X7_198 (pc := 20) h hl hR dX7_soonest_20 ⟨(Nat.le_of_ble_eq_true rfl), (Nat.le_of_ble_eq_true rfl), (Nat.le_of_ble_eq_true rfl), (Nat.le_of_ble_eq_true rfl)⟩ (Nat.le_of_ble_eq_true rfl) (by assumption) (by omega) (s_X1_secondsMeetingAt hF (by omega)) (fun v_20 n_20 M_20 hn_20 hp => ?_)
    obtain ⟨⟨rfl, rfl, rfl⟩, gr_20⟩ := hp
    refine jr_istore_n (pc := 23) h [_, _, _, _, _] dX7_soonest_23 (by decide) rfl ?_
    refine jr_iconst (pc := 24) h dX7_soonest_24 ?_
    refine jr_istore_n (pc := 25) h [_, _, _, _, _] dX7_soonest_25 (by decide) rfl ?_
    exact loop _ _ _ _ _ (by omega) (by omega) (by omega) rfl (Nat.lt_succ_self _)
  · first | have d_4 := bz_0.mp c_4 | have d_4 := bz_1.mp c_4 | skip
    refine jr_aload_n (pc := 7) h dX7_soonest_7 rfl ?_
    refine jr_iconst (pc := 8) h dX7_soonest_8 ?_
    refine iv_X7_66 (pc := 9) h hl hR dX7_soonest_9 ⟨(Nat.le_of_ble_eq_true rfl), (Nat.le_of_ble_eq_true rfl), (Nat.le_of_ble_eq_true rfl), (Nat.le_of_ble_eq_true rfl)⟩ (Nat.le_of_ble_eq_true rfl) (by assumption) (by omega) (s_X7_refuse hS) (fun v_9 n_9 M_9 hn_9 hp => ?_)
    obtain ⟨⟨rfl, rfl⟩, hS, fa_⟩ := hp
    have f1 := fr_tr f1 fa_
    refine jr_iret (pc := 12) h hRt dX7_soonest_12 rfl (Nat.le_of_ble_eq_true rfl) (Nat.le_of_ble_eq_true rfl) ?_
    refine lfA ?_ hS f1
    unfold x_soonest
    first
    | (rw [if_neg (by omega)])
    | (rw [if_pos (by omega), show (c_rows ct td).toNat = (i - 1).toNat by omega, ← hxx])
set_option maxHeartbeats 1000000 in
set_option maxRecDepth 20000 in
theorem s_X7_fairest {l : Launch} {n : Nat} {M : jdM} {a cu dr : Nat} {g bs : Nat → Int} {p : TS} {ct td bk si ld : Nat → Int} {D : FS} {g3 sp sk fa go : Nat → Int} {mk : Nat → FS} {tg tk tr : Nat → Int} (hS : SXc M n a cu dr (g, bs, p, (ct, td, bk, si, ld), D, (g3, sp, sk, fa, go), mk, tg, tk, tr))  : Ct l yX7_fairest cX7_fairest 5 (some .int) rX7_fairest [.ref a] n M (fun vv n' M' => (vv = some (jI (x_fairest ct td si ld).1) ∧ n = n') ∧ SXc M' n a cu dr (up g 10 (x_fairest ct td si ld).2, bs, p, (ct, td, bk, si, ld), D, (g3, sp, sk, fa, go), mk, tg, tk, tr) ∧ fr (XSf a) M M') := by
  refine Ct_of [some (.ref a), none, none, none, none] (by decide) (Nat.le_of_ble_eq_true rfl) rfl (fun κ hl h hR hRt hmn hn0 => ?_)
  have h : Ok κ RX7 cX7_fairest 5 (some .int) := h
  obtain ⟨han, hcd, hO7, hT7, hF7, hG7, hR7, hA7, hK7, hD7, hQ7, hB7⟩ := id hS
  have hO7 : M a = jdO 7 (fX7 a cu dr _) := hO7
  try dsimp only at hO7
  try dsimp only at hT7
  try dsimp only at hK7
  try dsimp only at hB7
  have hF : Fl M n cu ct td bk si ld := hF7
  have hRn : Rn M n (a + 19) g3 sp sk fa go := hR7
  obtain ⟨hnF, hOF, hAF, hBF, hCF, hDF, hEF, rA, rB, r0, rC, rD, rE⟩ := id hF
  obtain ⟨hnR, hOR, -⟩ := id hRn
  obtain ⟨dg, rm, wn, be, hDr, hwn, hbe⟩ := id hD7
  obtain ⟨hnD, hOD, -⟩ := id hDr
  obtain ⟨og, ww, hOd⟩ := id hQ7
  obtain ⟨hnQ, hOQ, -⟩ := id hOd
  obtain ⟨fc, wf, hTi⟩ := id hB7
  obtain ⟨hnB, hOB, -⟩ := id hTi
  obtain ⟨ht7, hOT, hTk, hPO, -⟩ := id hT7
  have ctr : 0 ≤ c_rows ct td ∧ c_rows ct td ≤ 40 := by
    unfold c_rows c_get
    have := (rB 0).1
    split
    · omega
    · rw [if_pos (by omega)]
      exact ⟨this, r0⟩
  have c2 := rA 2
  have c5 := rA 5
  have c8 := rA 8
  have f1 : fr (XSf a) M M := fr_rf
  have loop : ∀ (dq : Nat) (b v i : Int) (u4 : Option Value), (1 ≤ i ∧ i ≤ c_rows ct td + 1) → (0 < c_rows ct td) → (0 ≤ v ∧ v ≤ 1000000000) → ((b, v) = soF (c_lack ct td si ld) (i - 1).toNat) → (50 - i).toNat < dq → J κ 5 0 0 n 26 [some (.ref a), some (jI b), some (jI v), some (jI i), u4] [] M := by
    intro dq
    induction dq with
    | zero => intro b v i u4 hi hp0 hv hxx hd; omega
    | succ dq ih =>
      intro b v i u4 hi hp0 hv hxx hd
      refine jr_iload_n (pc := 26) h dX7_fairest_26 rfl ?_
      refine jr_aload_n (pc := 27) h dX7_fairest_27 rfl ?_
      refine gf_X7_19 (pc := 28) h dX7_fairest_28 (by assumption) (by omega) ?_
      refine iv_X7_110 (pc := 31) h hl hR dX7_fairest_31 ⟨(Nat.le_of_ble_eq_true rfl), (Nat.le_of_ble_eq_true rfl), (Nat.le_of_ble_eq_true rfl), (Nat.le_of_ble_eq_true rfl)⟩ (Nat.le_of_ble_eq_true rfl) (by assumption) (by omega) (s_X1_rows hF) (fun v_31 n_31 M_31 hn_31 hp => ?_)
      obtain ⟨⟨rfl, rfl, rfl⟩, gr_31⟩ := hp
      refine jr_icmp_gt (pc := 34) h 64 dX7_fairest_34 (by decide) (by omega) (by omega) (fun c_34 => ?_) (fun c_34 => ?_)
      · first | have d_34 := bz_0.mp c_34 | have d_34 := bz_1.mp c_34 | skip
        refine jr_aload_n (pc := 64) h dX7_fairest_64 rfl ?_
        refine jr_iload_n (pc := 65) h dX7_fairest_65 rfl ?_
        refine iv_X7_93 (pc := 66) h hl hR dX7_fairest_66 ⟨(Nat.le_of_ble_eq_true rfl), (Nat.le_of_ble_eq_true rfl), (Nat.le_of_ble_eq_true rfl), (Nat.le_of_ble_eq_true rfl)⟩ (Nat.le_of_ble_eq_true rfl) (by assumption) (by omega) (s_X7_accept hS) (fun v_66 n_66 M_66 hn_66 hp => ?_)
        obtain ⟨⟨rfl, rfl⟩, hS, fa_⟩ := hp
        have f1 := fr_tr f1 fa_
        refine jr_iret (pc := 69) h hRt dX7_fairest_69 rfl (Nat.le_of_ble_eq_true rfl) (Nat.le_of_ble_eq_true rfl) ?_
        refine lfA ?_ hS f1
        unfold x_fairest
        first
        | (rw [if_neg (by omega)])
        | (rw [if_pos (by omega), show (c_rows ct td).toNat = (i - 1).toNat by omega, ← hxx])
      · first | have d_34 := bz_0.mp c_34 | have d_34 := bz_1.mp c_34 | skip
        refine jr_aload_n (pc := 37) h dX7_fairest_37 rfl ?_
        refine gf_X7_19 (pc := 38) h dX7_fairest_38 (by assumption) (by omega) ?_
        refine jr_iload_n (pc := 41) h dX7_fairest_41 rfl ?_
        refine iv_X7_201 (pc := 42) h hl hR dX7_fairest_42 ⟨(Nat.le_of_ble_eq_true rfl), (Nat.le_of_ble_eq_true rfl), (Nat.le_of_ble_eq_true rfl), (Nat.le_of_ble_eq_true rfl)⟩ (Nat.le_of_ble_eq_true rfl) (by assumption) (by omega) (s_X1_lackingMeetingAt hF (by omega)) (fun v_42 n_42 M_42 hn_42 hp => ?_)
        obtain ⟨⟨rfl, rfl, rfl⟩, gr_42⟩ := hp
        refine jr_istore (pc := 45) h [_, _, _, _, _] dX7_fairest_45 (by decide) rfl ?_
        refine jr_iload (pc := 47) h dX7_fairest_47 rfl ?_
        refine jr_iload_n (pc := 49) h dX7_fairest_49 rfl ?_
        refine jr_icmp_ge (pc := 50) h 58 dX7_fairest_50 (by decide) (by omega) (by omega) (fun c_50 => ?_) (fun c_50 => ?_)
        · first | have d_50 := bz_0.mp c_50 | have d_50 := bz_1.mp c_50 | skip
          refine jr_iinc (pc := 58) h [_, _, _, _, _] dX7_fairest_58 (by decide) rfl rfl ?_
          refine jr_goto (pc := 61) h 26 dX7_fairest_61 (by decide) ?_
          refine ih _ _ _ _ (by omega) hp0 (by omega) ?_ (by omega)
          unfold soF at hxx ⊢
          rw [show i + 1 - 1 = i - 1 + 1 by omega, foldS_s (by omega), ← hxx]
          unfold so1
          dsimp only
          rw [show 1 + (i - 1) = i by omega]
          first
          | rw [if_pos (by omega)]
          | rw [if_neg (by omega)]
        · first | have d_50 := bz_0.mp c_50 | have d_50 := bz_1.mp c_50 | skip
          refine jr_iload_n (pc := 53) h dX7_fairest_53 rfl ?_
          refine jr_istore_n (pc := 54) h [_, _, _, _, _] dX7_fairest_54 (by decide) rfl ?_
          refine jr_iload (pc := 55) h dX7_fairest_55 rfl ?_
          refine jr_istore_n (pc := 57) h [_, _, _, _, _] dX7_fairest_57 (by decide) rfl ?_
          refine jr_iinc (pc := 58) h [_, _, _, _, _] dX7_fairest_58 (by decide) rfl rfl ?_
          refine jr_goto (pc := 61) h 26 dX7_fairest_61 (by decide) ?_
          refine ih _ _ _ _ (by omega) hp0 (by omega) ?_ (by omega)
          unfold soF at hxx ⊢
          rw [show i + 1 - 1 = i - 1 + 1 by omega, foldS_s (by omega), ← hxx]
          unfold so1
          dsimp only
          rw [show 1 + (i - 1) = i by omega]
          first
          | rw [if_pos (by omega)]
          | rw [if_neg (by omega)]
  refine jr_aload_n (pc := 0) h dX7_fairest_0 rfl ?_
  refine iv_X7_106 (pc := 1) h hl hR dX7_fairest_1 ⟨(Nat.le_of_ble_eq_true rfl), (Nat.le_of_ble_eq_true rfl), (Nat.le_of_ble_eq_true rfl), (Nat.le_of_ble_eq_true rfl)⟩ (Nat.le_of_ble_eq_true rfl) (by assumption) (by omega) (s_X7_hasFlight hS) (fun v_1 n_1 M_1 hn_1 hp => ?_)
  obtain ⟨⟨rfl, rfl, rfl⟩, gr_1⟩ := hp
  refine jr_if_ne (pc := 4) h 13 dX7_fairest_4 (by decide) (by omega) (fun c_4 => ?_) (fun c_4 => ?_)
  · first | have d_4 := bz_0.mp c_4 | have d_4 := bz_1.mp c_4 | skip
    refine jr_iconst (pc := 13) h dX7_fairest_13 ?_
    refine jr_istore_n (pc := 14) h [_, _, _, _, _] dX7_fairest_14 (by decide) rfl ?_
    refine jr_aload_n (pc := 15) h dX7_fairest_15 rfl ?_
    refine gf_X7_19 (pc := 16) h dX7_fairest_16 (by assumption) (by omega) ?_
    refine jr_iconst (pc := 19) h dX7_fairest_19 ?_
    refine iv_X7_201 (pc := 20) h hl hR dX7_fairest_20 ⟨(Nat.le_of_ble_eq_true rfl), (Nat.le_of_ble_eq_true rfl), (Nat.le_of_ble_eq_true rfl), (Nat.le_of_ble_eq_true rfl)⟩ (Nat.le_of_ble_eq_true rfl) (by assumption) (by omega) (s_X1_lackingMeetingAt hF (by omega)) (fun v_20 n_20 M_20 hn_20 hp => ?_)
    obtain ⟨⟨rfl, rfl, rfl⟩, gr_20⟩ := hp
    refine jr_istore_n (pc := 23) h [_, _, _, _, _] dX7_fairest_23 (by decide) rfl ?_
    refine jr_iconst (pc := 24) h dX7_fairest_24 ?_
    refine jr_istore_n (pc := 25) h [_, _, _, _, _] dX7_fairest_25 (by decide) rfl ?_
    exact loop _ _ _ _ _ (by omega) (by omega) (by omega) rfl (Nat.lt_succ_self _)
  · first | have d_4 := bz_0.mp c_4 | have d_4 := bz_1.mp c_4 | skip
    refine jr_aload_n (pc := 7) h dX7_fairest_7 rfl ?_
    refine jr_iconst (pc := 8) h dX7_fairest_8 ?_
    refine iv_X7_66 (pc := 9) h hl hR dX7_fairest_9 ⟨(Nat.le_of_ble_eq_true rfl), (Nat.le_of_ble_eq_true rfl), (Nat.le_of_ble_eq_true rfl), (Nat.le_of_ble_eq_true rfl)⟩ (Nat.le_of_ble_eq_true rfl) (by assumption) (by omega) (s_X7_refuse hS) (fun v_9 n_9 M_9 hn_9 hp => ?_)
    obtain ⟨⟨rfl, rfl⟩, hS, fa_⟩ := hp
    have f1 := fr_tr f1 fa_
    refine jr_iret (pc := 12) h hRt dX7_fairest_12 rfl (Nat.le_of_ble_eq_true rfl) (Nat.le_of_ble_eq_true rfl) ?_
    refine lfA ?_ hS f1
    unfold x_fairest
    first
    | (rw [if_neg (by omega)])
    | (rw [if_pos (by omega), show (c_rows ct td).toNat = (i - 1).toNat by omega, ← hxx])
set_option maxHeartbeats 1000000 in
set_option maxRecDepth 20000 in
theorem s_X7_unloaded {l : Launch} {n : Nat} {M : jdM} {a cu dr : Nat} {g bs : Nat → Int} {p : TS} {ct td bk si ld : Nat → Int} {D : FS} {g3 sp sk fa go : Nat → Int} {mk : Nat → FS} {tg tk tr : Nat → Int} (hS : SXc M n a cu dr (g, bs, p, (ct, td, bk, si, ld), D, (g3, sp, sk, fa, go), mk, tg, tk, tr))  : Ct l yX7_unloaded cX7_unloaded 3 (some .int) rX7_unloaded [.ref a] n M (fun vv n' M' => (vv = some (jI (x_unl ct td ld).1) ∧ n = n') ∧ SXc M' n a cu dr (up g 10 (x_unl ct td ld).2, bs, p, (ct, td, bk, si, ld), D, (g3, sp, sk, fa, go), mk, tg, tk, tr) ∧ fr (XSf a) M M') := by
  refine Ct_of [some (.ref a), none, none] (by decide) (Nat.le_of_ble_eq_true rfl) rfl (fun κ hl h hR hRt hmn hn0 => ?_)
  have h : Ok κ RX7 cX7_unloaded 3 (some .int) := h
  obtain ⟨han, hcd, hO7, hT7, hF7, hG7, hR7, hA7, hK7, hD7, hQ7, hB7⟩ := id hS
  have hO7 : M a = jdO 7 (fX7 a cu dr _) := hO7
  try dsimp only at hO7
  try dsimp only at hT7
  try dsimp only at hK7
  try dsimp only at hB7
  have hF : Fl M n cu ct td bk si ld := hF7
  have hRn : Rn M n (a + 19) g3 sp sk fa go := hR7
  obtain ⟨hnF, hOF, hAF, hBF, hCF, hDF, hEF, rA, rB, r0, rC, rD, rE⟩ := id hF
  obtain ⟨hnR, hOR, -⟩ := id hRn
  obtain ⟨dg, rm, wn, be, hDr, hwn, hbe⟩ := id hD7
  obtain ⟨hnD, hOD, -⟩ := id hDr
  obtain ⟨og, ww, hOd⟩ := id hQ7
  obtain ⟨hnQ, hOQ, -⟩ := id hOd
  obtain ⟨fc, wf, hTi⟩ := id hB7
  obtain ⟨hnB, hOB, -⟩ := id hTi
  obtain ⟨ht7, hOT, hTk, hPO, -⟩ := id hT7
  have ctr : 0 ≤ c_rows ct td ∧ c_rows ct td ≤ 40 := by
    unfold c_rows c_get
    have := (rB 0).1
    split
    · omega
    · rw [if_pos (by omega)]
      exact ⟨this, r0⟩
  have c2 := rA 2
  have c5 := rA 5
  have c8 := rA 8
  have f1 : fr (XSf a) M M := fr_rf
  have loop : ∀ (dq : Nat) (i : Int) (s : Int32), (0 ≤ i ∧ i ≤ ct 8) → (0 < c_rows ct td) → (s = foldS (un1 ct td ld) (Int32.ofInt 0) i.toNat) → (10 - i).toNat < dq → J κ 3 0 0 n 17 [some (.ref a), some (.int s), some (jI i)] [] M := by
    intro dq
    induction dq with
    | zero => intro i s hi hp0 hxx hd; omega
    | succ dq ih =>
      intro i s hi hp0 hxx hd
      refine jr_iload_n (pc := 17) h dX7_unloaded_17 rfl ?_
      refine jr_aload_n (pc := 18) h dX7_unloaded_18 rfl ?_
      refine gf_X7_19 (pc := 19) h dX7_unloaded_19 (by assumption) (by omega) ?_
      refine jr_bipush (pc := 22) h dX7_unloaded_22 bp_8 ?_
      refine iv_X7_90 (pc := 24) h hl hR dX7_unloaded_24 ⟨(Nat.le_of_ble_eq_true rfl), (Nat.le_of_ble_eq_true rfl), (Nat.le_of_ble_eq_true rfl), (Nat.le_of_ble_eq_true rfl)⟩ (Nat.le_of_ble_eq_true rfl) (by assumption) (by omega) (s_X1_count hF (a := 8) (by omega)) (fun v_24 n_24 M_24 hn_24 hp => ?_)
      obtain ⟨⟨rfl, rfl, rfl⟩, gr_24⟩ := hp
      rw [show c_count ct 8 = ct 8 from if_pos (by omega)]
      refine jr_icmp_ge (pc := 27) h 74 dX7_unloaded_27 (by decide) (by omega) (by omega) (fun c_27 => ?_) (fun c_27 => ?_)
      · first | have d_27 := bz_0.mp c_27 | have d_27 := bz_1.mp c_27 | skip
        refine jr_aload_n (pc := 74) h dX7_unloaded_74 rfl ?_
        refine jr_iload_n (pc := 75) h dX7_unloaded_75 rfl ?_
        rw [jI_to]
        refine iv_X7_93 (pc := 76) h hl hR dX7_unloaded_76 ⟨(Nat.le_of_ble_eq_true rfl), (Nat.le_of_ble_eq_true rfl), (Nat.le_of_ble_eq_true rfl), (Nat.le_of_ble_eq_true rfl)⟩ (Nat.le_of_ble_eq_true rfl) (by assumption) (by omega) (s_X7_accept hS) (fun v_76 n_76 M_76 hn_76 hp => ?_)
        obtain ⟨⟨rfl, rfl⟩, hS, fa_⟩ := hp
        have f1 := fr_tr f1 fa_
        refine jr_iret (pc := 79) h hRt dX7_unloaded_79 rfl (Nat.le_of_ble_eq_true rfl) (Nat.le_of_ble_eq_true rfl) ?_
        refine lfA ?_ hS f1
        unfold x_unl
        first
        | (rw [if_neg (by omega)])
        | (rw [if_pos (by omega), show (ct 8).toNat = i.toNat by omega, ← hxx])
      · first | have d_27 := bz_0.mp c_27 | have d_27 := bz_1.mp c_27 | skip
        refine jr_aload_n (pc := 30) h dX7_unloaded_30 rfl ?_
        refine gf_X7_19 (pc := 31) h dX7_unloaded_31 (by assumption) (by omega) ?_
        refine jr_iload_n (pc := 34) h dX7_unloaded_34 rfl ?_
        refine iv_X7_159 (pc := 35) h hl hR dX7_unloaded_35 ⟨(Nat.le_of_ble_eq_true rfl), (Nat.le_of_ble_eq_true rfl), (Nat.le_of_ble_eq_true rfl), (Nat.le_of_ble_eq_true rfl)⟩ (Nat.le_of_ble_eq_true rfl) (by assumption) (by omega) (s_X1_isNamedInside hF (by omega)) (fun v_35 n_35 M_35 hn_35 hp => ?_)
        obtain ⟨⟨rfl, rfl, rfl⟩, gr_35⟩ := hp
        refine jr_if_eq (pc := 38) h 68 dX7_unloaded_38 (by decide) (by omega) (fun c_38 => ?_) (fun c_38 => ?_)
        · first | have d_38 := bz_0.mp c_38 | have d_38 := bz_1.mp c_38 | skip
          refine jr_iinc (pc := 68) h [_, _, _] dX7_unloaded_68 (by decide) rfl rfl ?_
          refine jr_goto (pc := 71) h 17 dX7_unloaded_71 (by decide) ?_
          refine ih _ _ (by omega) hp0 ?_ (by omega)
          rw [foldS_s (by omega), ← hxx]
          unfold un1
          rw [if_neg (fun z => d_38 ⟨by omega, by omega, z.1⟩)]
        · first | have d_38 := bz_0.mp c_38 | have d_38 := bz_1.mp c_38 | skip
          refine jr_aload_n (pc := 41) h dX7_unloaded_41 rfl ?_
          refine gf_X7_19 (pc := 42) h dX7_unloaded_42 (by assumption) (by omega) ?_
          refine jr_aload_n (pc := 45) h dX7_unloaded_45 rfl ?_
          refine gf_X7_19 (pc := 46) h dX7_unloaded_46 (by assumption) (by omega) ?_
          refine jr_bipush (pc := 49) h dX7_unloaded_49 bp_8 ?_
          refine jr_iload_n (pc := 51) h dX7_unloaded_51 rfl ?_
          refine jr_iconst (pc := 52) h dX7_unloaded_52 ?_
          refine iv_X7_162 (pc := 53) h hl hR dX7_unloaded_53 ⟨(Nat.le_of_ble_eq_true rfl), (Nat.le_of_ble_eq_true rfl), (Nat.le_of_ble_eq_true rfl), (Nat.le_of_ble_eq_true rfl)⟩ (Nat.le_of_ble_eq_true rfl) (by assumption) (by omega) (s_X1_get hF (by omega) (by omega) (by omega)) (fun v_53 n_53 M_53 hn_53 hp => ?_)
          obtain ⟨⟨rfl, rfl, rfl⟩, gr_53⟩ := hp
          refine iv_X7_229 (pc := 56) h hl hR dX7_unloaded_56 ⟨(Nat.le_of_ble_eq_true rfl), (Nat.le_of_ble_eq_true rfl), (Nat.le_of_ble_eq_true rfl), (Nat.le_of_ble_eq_true rfl)⟩ (Nat.le_of_ble_eq_true rfl) (by assumption) (by omega) (s_X1_loadOfKind hF (by omega)) (fun v_56 n_56 M_56 hn_56 hp => ?_)
          obtain ⟨⟨rfl, rfl, rfl⟩, gr_56⟩ := hp
          refine jr_if_ne (pc := 59) h 68 dX7_unloaded_59 (by decide) (by omega) (fun c_59 => ?_) (fun c_59 => ?_)
          · first | have d_59 := bz_0.mp c_59 | have d_59 := bz_1.mp c_59 | skip
            refine jr_iinc (pc := 68) h [_, _, _] dX7_unloaded_68 (by decide) rfl rfl ?_
            refine jr_goto (pc := 71) h 17 dX7_unloaded_71 (by decide) ?_
            refine ih _ _ (by omega) hp0 ?_ (by omega)
            rw [foldS_s (by omega), ← hxx]
            unfold un1
            rw [if_neg (fun z => c_59 z.2)]
          · first | have d_59 := bz_0.mp c_59 | have d_59 := bz_1.mp c_59 | skip
            refine jr_iload_n (pc := 62) h dX7_unloaded_62 rfl ?_
            refine jr_iconst (pc := 63) h dX7_unloaded_63 ?_
            refine jr_iload_n (pc := 64) h dX7_unloaded_64 rfl ?_
            refine jr_ishl (pc := 65) h dX7_unloaded_65 ?_
            refine jr_ior (pc := 66) h dX7_unloaded_66 ?_
            refine jr_istore_n (pc := 67) h [_, _, _] dX7_unloaded_67 (by decide) rfl ?_
            refine jr_iinc (pc := 68) h [_, _, _] dX7_unloaded_68 (by decide) rfl rfl ?_
            refine jr_goto (pc := 71) h 17 dX7_unloaded_71 (by decide) ?_
            refine ih _ _ (by omega) hp0 ?_ (by omega)
            rw [foldS_s (by omega), ← hxx]
            unfold un1
            rw [if_pos ⟨d_38.2.2, by omega⟩]
  refine jr_aload_n (pc := 0) h dX7_unloaded_0 rfl ?_
  refine iv_X7_106 (pc := 1) h hl hR dX7_unloaded_1 ⟨(Nat.le_of_ble_eq_true rfl), (Nat.le_of_ble_eq_true rfl), (Nat.le_of_ble_eq_true rfl), (Nat.le_of_ble_eq_true rfl)⟩ (Nat.le_of_ble_eq_true rfl) (by assumption) (by omega) (s_X7_hasFlight hS) (fun v_1 n_1 M_1 hn_1 hp => ?_)
  obtain ⟨⟨rfl, rfl, rfl⟩, gr_1⟩ := hp
  refine jr_if_ne (pc := 4) h 13 dX7_unloaded_4 (by decide) (by omega) (fun c_4 => ?_) (fun c_4 => ?_)
  · first | have d_4 := bz_0.mp c_4 | have d_4 := bz_1.mp c_4 | skip
    refine jr_iconst (pc := 13) h dX7_unloaded_13 ?_
    refine jr_istore_n (pc := 14) h [_, _, _] dX7_unloaded_14 (by decide) rfl ?_
    refine jr_iconst (pc := 15) h dX7_unloaded_15 ?_
    refine jr_istore_n (pc := 16) h [_, _, _] dX7_unloaded_16 (by decide) rfl ?_
    exact loop _ _ _ (by omega) (by omega) rfl (Nat.lt_succ_self _)
  · first | have d_4 := bz_0.mp c_4 | have d_4 := bz_1.mp c_4 | skip
    refine jr_aload_n (pc := 7) h dX7_unloaded_7 rfl ?_
    refine jr_iconst (pc := 8) h dX7_unloaded_8 ?_
    refine iv_X7_66 (pc := 9) h hl hR dX7_unloaded_9 ⟨(Nat.le_of_ble_eq_true rfl), (Nat.le_of_ble_eq_true rfl), (Nat.le_of_ble_eq_true rfl), (Nat.le_of_ble_eq_true rfl)⟩ (Nat.le_of_ble_eq_true rfl) (by assumption) (by omega) (s_X7_refuse hS) (fun v_9 n_9 M_9 hn_9 hp => ?_)
    obtain ⟨⟨rfl, rfl⟩, hS, fa_⟩ := hp
    have f1 := fr_tr f1 fa_
    refine jr_iret (pc := 12) h hRt dX7_unloaded_12 rfl (Nat.le_of_ble_eq_true rfl) (Nat.le_of_ble_eq_true rfl) ?_
    refine lfA ?_ hS f1
    unfold x_unl
    first
    | (rw [if_neg (by omega)])
    | (rw [if_pos (by omega), show (ct 8).toNat = i.toNat by omega, ← hxx])
