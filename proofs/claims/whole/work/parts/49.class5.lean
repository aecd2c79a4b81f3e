/-! 49: the class: drawers, odds, the till -/
theorem coinR_v {v : Int} : ∀ {d : Nat} {i : Int}, 0 ≤ i → coinR v i d ≠ -1 → cv (coinR v i d) = v
  | 0, i, _, h => absurd rfl h
  | d + 1, i, hi, h => by
    rw [coinR] at h ⊢
    split
    · assumption
    · rename_i q
      rw [if_neg q] at h
      exact coinR_v (by omega) h
theorem coinI_v {v : Int} (h : coinI v ≠ -1) : 1 ≤ v ∧ v ≤ 50 := by
  have h1 := coinR_v (v := v) (d := 6) (i := 0) (by omega) h
  have h2 := coinR_r (v := v) (d := 6) (i := 0) (by omega)
  have h3 := cv_b (i := coinR v 0 6) (by rcases h2 with h2 | h2; exact absurd h2 h; omega)
  omega
theorem c_wab_c {a b : Nat → Int} {m : Int} (h : agw a b) (hm : -1 ≤ m) : c_wab a m = c_wab b m := by
  unfold c_wab
  refine sumZ_cong (fun i h1 h2 => ?_)
  rw [h i.toNat (by omega)]
theorem fewR_c {a b : Nat → Int} {p : Int} (h : agw a b) : ∀ {d : Nat} {i : Int}, 0 ≤ i → fewR a p i d = fewR b p i d
  | 0, i, _ => rfl
  | d + 1, i, hi => by
    rw [fewR, fewR, c_wab_c h (by omega), c_wab_c h (show -1 ≤ i by omega), fewR_c h (by omega)]
theorem bf_c {td wn wn' be be' : Nat → Int} {st ho : Int} (hw : ∀ j, j < 4 → wn j = wn' j ∧ 0 ≤ wn j) (hb : ∀ j : Nat, (j : Int) < st → be j = be' j) (hst : 0 ≤ st) : ∀ k : Nat, k ≤ 4 → foldS (bf1 td wn be st ho) (1000000, 1) k = foldS (bf1 td wn' be' st ho) (1000000, 1) k ∧ 1 ≤ (foldS (bf1 td wn be st ho) (1000000, 1) k).2
  | 0, _ => ⟨rfl, by simp [foldS]⟩
  | k + 1, hk => by
    obtain ⟨h1, h2⟩ := bf_c (ho := ho) (td := td) hw hb hst k (by omega)
    rw [foldS, foldS, ← h1]
    generalize foldS (bf1 td wn be st ho) (1000000, 1) k = s at h2
    obtain ⟨e1, e2⟩ := hw ((k : Int).toNat) (by omega)
    unfold bf1
    rw [← e1]
    refine ⟨?_, ?_⟩
    · by_cases q : 0 < st / s.2 % (wn (k : Int).toNat + 1)
      · have hss : s.2 ≤ st := by
          by_cases q2 : st < s.2
          · rw [Int.ediv_eq_zero_of_lt hst q2, Int.zero_emod] at q
            omega
          · omega
        rw [if_pos q, if_pos q, hb (st - s.2).toNat (by omega)]
      · rw [if_neg q, if_neg q]
    · show 1 ≤ s.2 * (wn (k : Int).toNat + 1)
      have := Int.mul_le_mul (a := 1) (b := 1) h2 (show 1 ≤ wn (k : Int).toNat + 1 by omega) (by omega) (by omega)
      omega
theorem c_bf_c {td wn wn' be be' : Nat → Int} {st ho : Int} (hw : ∀ j, j < 4 → wn j = wn' j ∧ 0 ≤ wn j) (hb : ∀ j : Nat, (j : Int) < st → be j = be' j) (hst : 0 ≤ st) : c_bf td wn be st ho = c_bf td wn' be' st ho := by
  unfold c_bf
  rw [(bf_c hw hb hst 4 (by omega)).1]
theorem c_tab_c {td wn wn' be be' : Nat → Int} {ho : Int} (hw : ∀ j, j < 4 → wn j = wn' j ∧ 0 ≤ wn j) : ∀ (k : Nat) (j : Nat), j ≤ k → c_tab td wn be ho k j = c_tab td wn' be' ho k j
  | 0, j, hj => by
    rw [show j = 0 by omega]
    unfold c_tab
    rw [foldS, foldS, up_eq, up_eq]
  | k + 1, j, hj => by
    have ih := c_tab_c (td := td) (be := be) (be' := be') (ho := ho) hw k
    unfold c_tab at ih ⊢
    rw [foldS, foldS]
    by_cases q : j = (1 + (k : Int)).toNat
    · rw [q, up_eq, up_eq]
      exact c_bf_c hw (fun i hi => ih i (by omega)) (by omega)
    · rw [up_ne q, up_ne q]
      exact ih j (by omega)
theorem c_few_c {td wn wn' be be' : Nat → Int} {ho : Int} (hw : ∀ j, j < 4 → wn j = wn' j ∧ 0 ≤ wn j) : c_few td wn be ho = c_few td wn' be' ho := by
  have e : c_sts wn = c_sts wn' := by
    unfold c_sts
    rw [(hw 0 (by omega)).1, (hw 1 (by omega)).1, (hw 2 (by omega)).1, (hw 3 (by omega)).1]
  unfold c_few
  rw [e, c_tab_c (be' := be') hw _ _ (Nat.le_refl _)]
theorem sts_24 {wn : Nat → Int} (h : ∀ j, j < 4 → 0 ≤ wn j) (hs : wn 0 + wn 1 + wn 2 + wn 3 ≤ 24) : c_sts wn ≤ 2401 := by
  have h0 := h 0 (by omega)
  have h1 := h 1 (by omega)
  have h2 := h 2 (by omega)
  have h3 := h 3 (by omega)
  unfold c_sts
  generalize hA : wn 0 + 1 = A
  generalize hB : wn 1 + 1 = B
  generalize hC : wn 2 + 1 = C
  generalize hD : wn 3 + 1 = D
  have sq : ∀ x : Int, 0 ≤ x * x := fun x => by
    rcases Int.le_total 0 x with q | q
    · exact Int.mul_nonneg q q
    · have := Int.mul_nonneg (show 0 ≤ -x by omega) (show 0 ≤ -x by omega)
      rwa [Int.neg_mul_neg] at this
  have gm : ∀ x y : Int, 4 * (x * y) ≤ (x + y) * (x + y) := fun x y => by
    have q := sq (x - y)
    rw [Int.sub_mul, Int.mul_sub, Int.mul_sub] at q
    rw [Int.add_mul, Int.mul_add, Int.mul_add]
    have := Int.mul_comm x y
    omega
  have g1 := gm A B
  have g2 := gm C D
  have g3 := gm (A + B) (C + D)
  have p1 : 0 ≤ A * B := Int.mul_nonneg (by omega) (by omega)
  have p2 : 0 ≤ C * D := Int.mul_nonneg (by omega) (by omega)
  have q1 : (A + B + (C + D)) * (A + B + (C + D)) ≤ 28 * 28 := Int.mul_le_mul (by omega) (by omega) (by omega) (by omega)
  have q2 : 0 ≤ (A + B) * (C + D) := Int.mul_nonneg (by omega) (by omega)
  have q3 : ((A + B) * (C + D)) * ((A + B) * (C + D)) ≤ 196 * 196 := Int.mul_le_mul (by omega) (by omega) q2 (by omega)
  have q4 : (4 * (A * B)) * (4 * (C * D)) ≤ ((A + B) * (A + B)) * ((C + D) * (C + D)) := Int.mul_le_mul g1 g2 (by omega) (by have := sq (A + B); omega)
  have e1 : ((A + B) * (A + B)) * ((C + D) * (C + D)) = ((A + B) * (C + D)) * ((A + B) * (C + D)) := by
    rw [Int.mul_assoc (A + B) (A + B), ← Int.mul_assoc (A + B) (C + D) (C + D), Int.mul_comm (A + B) (C + D), Int.mul_assoc (C + D) (A + B) (C + D), ← Int.mul_assoc (A + B) (C + D), Int.mul_comm (A + B) (C + D)]
  have e2 : (4 * (A * B)) * (4 * (C * D)) = 16 * (1 * A * B * C * D) := by
    rw [Int.one_mul, Int.mul_assoc (A * B) C D]
    generalize A * B = P
    generalize C * D = Q
    rw [Int.mul_assoc 4 P, ← Int.mul_assoc P 4 Q, Int.mul_comm P 4, Int.mul_assoc 4 P Q, ← Int.mul_assoc]
    rfl
  rw [e1, e2] at q4
  omega
def x_out (ct td bk si : Nat → Int) (a b m : Int) : Int × Int := if (1 ≤ a ∧ a ≤ c_rows ct td) ∧ 0 ≤ b ∧ b < ct 2 then (if 0 ≤ m ∧ m ≤ 99 then (if c_ahead ct td si (a - 1).toNat ≤ 10 then (c_wab (c_wgh ct td bk si b (a - 1).toNat) m, 0) else (-1, 3)) else (-1, 2)) else (-1, 1)
def x_ways (ct td bk si : Nat → Int) (a : Int) : Int × Int := if 1 ≤ a ∧ a ≤ c_rows ct td then (if c_ahead ct td si (a - 1).toNat ≤ 10 then (c_wab (c_wgh ct td bk si 0 (a - 1).toNat) (-1), 0) else (-1, 3)) else (-1, 1)
def x_enough (ct td bk si : Nat → Int) (a b m : Int) : Int × Int := if (1 ≤ a ∧ a ≤ c_rows ct td) ∧ 0 ≤ b ∧ b < ct 2 then (if 0 ≤ m ∧ m ≤ 99 then (if c_ahead ct td si (a - 1).toNat ≤ 10 then (fewR (c_wgh ct td bk si b (a - 1).toNat) m 0 10, 0) else (-1, 3)) else (-1, 2)) else (-1, 1)
def x_wtd (ct : Nat → Int) (k y : Int) : Prop := y = 0 ∨ (0 < y ∧ 0 ≤ k ∧ k < ct 2)
noncomputable def x_fewest (ct td : Nat → Int) (a y z u v : Int) : Int × Int := if 0 ≤ a ∧ a < ct 5 then @ite (Int × Int) (x_wtd ct 0 y ∧ x_wtd ct 1 z ∧ x_wtd ct 2 u ∧ x_wtd ct 3 v) (Classical.propDecidable _) (if 24 < y + z + u + v then (-1, 3) else (c_few td (wnF y z u v) (fun _ => 0) (c_get td 5 a 2), 0)) (-1, 2) else (-1, 1)
theorem lfL {M M' : jdM} {n a cu dr : Nat} {g bs : Nat → Int} {p : TS} {F D Rr : FS} {mk : Nat → FS} {tg tk tr : Nat → Int} {r : Int × Int} {v t : Int} (e : r = (v, t)) (hS : SXc M' n a cu dr (up g 10 t, bs, p, F, D, Rr, mk, tg, tk, tr)) (f : fr (XSf a) M M') : (some (jL v) = some (jL r.1) ∧ n = n) ∧ SXc M' n a cu dr (up g 10 r.2, bs, p, F, D, Rr, mk, tg, tk, tr) ∧ fr (XSf a) M M' := by
  subst e
  exact ⟨⟨rfl, rfl⟩, hS, f⟩
set_option maxHeartbeats 1000000 in
set_option maxRecDepth 20000 in
theorem s_X7_fitsIn {l : Launch} {n : Nat} {M : jdM} {a cu dr : Nat} {g bs : Nat → Int} {p : TS} {ct td bk si ld : Nat → Int} {D : FS} {g3 sp sk fa go : Nat → Int} {mk : Nat → FS} {tg tk tr : Nat → Int} (hS : SXc M n a cu dr (g, bs, p, (ct, td, bk, si, ld), D, (g3, sp, sk, fa, go), mk, tg, tk, tr)) {x : Int} (hx : -2147483648 ≤ x ∧ x < 2147483648)  : Ct l yX7_fitsIn cX7_fitsIn 2 (some .int) rX7_fitsIn [.ref a, jI x] n M (fun vv n' M' => (vv = some (jI (x_fits ct td ld x).1) ∧ n = n') ∧ SXc M' n a cu dr (up g 10 (x_fits ct td ld x).2, bs, p, (ct, td, bk, si, ld), D, (g3, sp, sk, fa, go), mk, tg, tk, tr) ∧ fr (XSf a) M M') := by
  refine Ct_of [some (.ref a), some (jI x)] (by decide) (Nat.le_of_ble_eq_true rfl) rfl (fun κ hl h hR hRt hmn hn0 => ?_)
  have h : Ok κ RX7 cX7_fitsIn 2 (some .int) := h
  obtain ⟨han, hcd, hO7, hT7, hF7, hG7, hR7, hA7, hK7, hD7, hQ7, hB7⟩ := id hS
  have hO7 : M a = jdO 7 (fX7 a cu dr _) := hO7
  try dsimp only at hO7
  try dsimp only at hT7
  try dsimp only at hK7
  try dsimp only at hB7
  have hF : Fl M n cu ct td bk si ld := hF7
  have hRn : Rn M n (a + 19) g3 sp sk fa go := hR7
  obtain ⟨hnF, hOF, hAF, hBF, hCF, hDF, hEF, rA, rB, r0, rC, rD, rE⟩ := id hF
  obtain ⟨hnR, hOR, -⟩ := id hRn
  obtain ⟨dg, rm, wn, be, hDr, hwn, hbe⟩ := id hD7
  obtain ⟨hnD, hOD, -⟩ := id hDr
  obtain ⟨og, ww, hOd⟩ := id hQ7
  obtain ⟨hnQ, hOQ, -⟩ := id hOd
  obtain ⟨fc, wf, hTi⟩ := id hB7
  obtain ⟨hnB, hOB, -⟩ := id hTi
  obtain ⟨ht7, hOT, hTk, hPO, -⟩ := id hT7
  have ctr : 0 ≤ c_rows ct td ∧ c_rows ct td ≤ 40 := by
    unfold c_rows c_get
    have := (rB 0).1
    split
    · omega
    · rw [if_pos (by omega)]
      exact ⟨this, r0⟩
  have c2 := rA 2
  have c5 := rA 5
  have c8 := rA 8
  have f1 : fr (XSf a) M M := fr_rf
  refine jr_aload_n (pc := 0) h dX7_fitsIn_0 rfl ?_
  refine jr_iload_n (pc := 1) h dX7_fitsIn_1 rfl ?_
  refine iv_X7_123 (pc := 2) h hl hR dX7_fitsIn_2 ⟨(Nat.le_of_ble_eq_true rfl), (Nat.le_of_ble_eq_true rfl), (Nat.le_of_ble_eq_true rfl), (Nat.le_of_ble_eq_true rfl)⟩ (Nat.le_of_ble_eq_true rfl) (by assumption) (by omega) (s_X7_isTrolley hS (by omega)) (fun v_2 n_2 M_2 hn_2 hp => ?_)
  obtain ⟨⟨rfl, rfl, rfl⟩, gr_2⟩ := hp
  refine jr_if_ne (pc := 5) h 14 dX7_fitsIn_5 (by decide) (by omega) (fun c_5 => ?_) (fun c_5 => ?_)
  · first | have d_5 := bz_0.mp c_5 | have d_5 := bz_1.mp c_5 | skip
    refine jr_aload_n (pc := 14) h dX7_fitsIn_14 rfl ?_
    refine jr_aload_n (pc := 15) h dX7_fitsIn_15 rfl ?_
    refine gf_X7_40 (pc := 16) h dX7_fitsIn_16 (by assumption) (by omega) ?_
    refine jr_aload_n (pc := 19) h dX7_fitsIn_19 rfl ?_
    refine gf_X7_19 (pc := 20) h dX7_fitsIn_20 (by assumption) (by omega) ?_
    refine jr_iload_n (pc := 23) h dX7_fitsIn_23 rfl ?_
    refine iv_X7_129 (pc := 24) h hl hR dX7_fitsIn_24 ⟨(Nat.le_of_ble_eq_true rfl), (Nat.le_of_ble_eq_true rfl), (Nat.le_of_ble_eq_true rfl), (Nat.le_of_ble_eq_true rfl)⟩ (Nat.le_of_ble_eq_true rfl) (by assumption) (by omega) (s_X0_holdLoad hDr hF (by omega) (by omega)) (fun v_24 n_24 M_24 hn_24 hp => ?_)
    obtain ⟨⟨rfl, rfl⟩, g9, rm9, D9, fd⟩ := hp
    have gr_24 := bz_r ((c_hl ct td ld x).1 = 0)
    have hS := SXc_D hS ⟨g9, rm9, wn, be, D9, hwn, hbe⟩ fd
    have f1 := fr_tr f1 (fr_mo fd (fun k q => ⟨by have := q.1; omega, by have := q.2; omega⟩))
    obtain ⟨han, hcd, hO7, hT7, hF7, hG7, hR7, hA7, hK7, hD7, hQ7, hB7⟩ := id hS
    have hO7 : M_24 a = jdO 7 (fX7 a cu dr _) := hO7
    try dsimp only at hO7
    try dsimp only at hT7
    try dsimp only at hK7
    try dsimp only at hB7
    have hF : Fl M_24 n cu ct td bk si ld := hF7
    have hRn : Rn M_24 n (a + 19) g3 sp sk fa go := hR7
    obtain ⟨hnF, hOF, hAF, hBF, hCF, hDF, hEF, rA, rB, r0, rC, rD, rE⟩ := id hF
    obtain ⟨hnR, hOR, -⟩ := id hRn
    obtain ⟨dg, rm, wn, be, hDr, hwn, hbe⟩ := id hD7
    obtain ⟨hnD, hOD, -⟩ := id hDr
    obtain ⟨og, ww, hOd⟩ := id hQ7
    obtain ⟨hnQ, hOQ, -⟩ := id hOd
    obtain ⟨fc, wf, hTi⟩ := id hB7
    obtain ⟨hnB, hOB, -⟩ := id hTi
    obtain ⟨ht7, hOT, hTk, hPO, -⟩ := id hT7
    refine jr_if_eq (pc := 27) h 34 dX7_fitsIn_27 (by decide) (by omega) (fun c_27 => ?_) (fun c_27 => ?_)
    · first | have d_27 := bz_0.mp c_27 | have d_27 := bz_1.mp c_27 | skip
      refine jr_iconst (pc := 34) h dX7_fitsIn_34 ?_
      refine iv_X7_93 (pc := 35) h hl hR dX7_fitsIn_35 ⟨(Nat.le_of_ble_eq_true rfl), (Nat.le_of_ble_eq_true rfl), (Nat.le_of_ble_eq_true rfl), (Nat.le_of_ble_eq_true rfl)⟩ (Nat.le_of_ble_eq_true rfl) (by assumption) (by omega) (s_X7_accept hS) (fun v_35 n_35 M_35 hn_35 hp => ?_)
      obtain ⟨⟨rfl, rfl⟩, hS, fa_⟩ := hp
      have f1 := fr_tr f1 fa_
      refine jr_iret (pc := 38) h hRt dX7_fitsIn_38 rfl (Nat.le_of_ble_eq_true rfl) (Nat.le_of_ble_eq_true rfl) ?_
      refine lfA ?_ hS f1
      unfold x_fits
      (repeat' split) <;> first | rfl | (exfalso; omega) | contradiction
    · first | have d_27 := bz_0.mp c_27 | have d_27 := bz_1.mp c_27 | skip
      refine jr_iconst (pc := 30) h dX7_fitsIn_30 ?_
      refine jr_goto (pc := 31) h 35 dX7_fitsIn_31 (by decide) ?_
      refine iv_X7_93 (pc := 35) h hl hR dX7_fitsIn_35 ⟨(Nat.le_of_ble_eq_true rfl), (Nat.le_of_ble_eq_true rfl), (Nat.le_of_ble_eq_true rfl), (Nat.le_of_ble_eq_true rfl)⟩ (Nat.le_of_ble_eq_true rfl) (by assumption) (by omega) (s_X7_accept hS) (fun v_35 n_35 M_35 hn_35 hp => ?_)
      obtain ⟨⟨rfl, rfl⟩, hS, fa_⟩ := hp
      have f1 := fr_tr f1 fa_
      refine jr_iret (pc := 38) h hRt dX7_fitsIn_38 rfl (Nat.le_of_ble_eq_true rfl) (Nat.le_of_ble_eq_true rfl) ?_
      refine lfA ?_ hS f1
      unfold x_fits
      (repeat' split) <;> first | rfl | (exfalso; omega) | contradiction
  · first | have d_5 := bz_0.mp c_5 | have d_5 := bz_1.mp c_5 | skip
    refine jr_aload_n (pc := 8) h dX7_fitsIn_8 rfl ?_
    refine jr_iconst (pc := 9) h dX7_fitsIn_9 ?_
    refine iv_X7_66 (pc := 10) h hl hR dX7_fitsIn_10 ⟨(Nat.le_of_ble_eq_true rfl), (Nat.le_of_ble_eq_true rfl), (Nat.le_of_ble_eq_true rfl), (Nat.le_of_ble_eq_true rfl)⟩ (Nat.le_of_ble_eq_true rfl) (by assumption) (by omega) (s_X7_refuse hS) (fun v_10 n_10 M_10 hn_10 hp => ?_)
    obtain ⟨⟨rfl, rfl⟩, hS, fa_⟩ := hp
    have f1 := fr_tr f1 fa_
    refine jr_iret (pc := 13) h hRt dX7_fitsIn_13 rfl (Nat.le_of_ble_eq_true rfl) (Nat.le_of_ble_eq_true rfl) ?_
    refine lfA ?_ hS f1
    unfold x_fits
    (repeat' split) <;> first | rfl | (exfalso; omega) | contradiction
set_option maxHeartbeats 1000000 in
set_option maxRecDepth 20000 in
theorem s_X7_clear {l : Launch} {n : Nat} {M : jdM} {a cu dr : Nat} {g bs : Nat → Int} {p : TS} {ct td bk si ld : Nat → Int} {D : FS} {g3 sp sk fa go : Nat → Int} {mk : Nat → FS} {tg tk tr : Nat → Int} (hS : SXc M n a cu dr (g, bs, p, (ct, td, bk, si, ld), D, (g3, sp, sk, fa, go), mk, tg, tk, tr)) {x : Int} (hx : -2147483648 ≤ x ∧ x < 2147483648) (hc2 : ct 2 ≤ 4) (hfl : 0 < ct 5 → 0 < c_rows ct td) (hfa : ∀ i k : Int, 1 ≤ i → i ≤ 40 → 0 ≤ k → k < 4 → 0 ≤ c_fact fa i (7 + k) ∧ c_fact fa i (7 + k) ≤ 1000) : Ct l yX7_clear cX7_clear 2 (some .int) rX7_clear [.ref a, jI x] n M (fun vv n' M' => (vv = some (jI (x_clear ct td fa x).1) ∧ n = n') ∧ SXc M' n a cu dr (up g 10 (x_clear ct td fa x).2, bs, p, (ct, td, bk, si, ld), D, (g3, sp, sk, fa, go), mk, tg, tk, tr) ∧ fr (XSf a) M M') := by
  refine Ct_of [some (.ref a), some (jI x)] (by decide) (Nat.le_of_ble_eq_true rfl) rfl (fun κ hl h hR hRt hmn hn0 => ?_)
  have h : Ok κ RX7 cX7_clear 2 (some .int) := h
  obtain ⟨han, hcd, hO7, hT7, hF7, hG7, hR7, hA7, hK7, hD7, hQ7, hB7⟩ := id hS
  have hO7 : M a = jdO 7 (fX7 a cu dr _) := hO7
  try dsimp only at hO7
  try dsimp only at hT7
  try dsimp only at hK7
  try dsimp only at hB7
  have hF : Fl M n cu ct td bk si ld := hF7
  have hRn : Rn M n (a + 19) g3 sp sk fa go := hR7
  obtain ⟨hnF, hOF, hAF, hBF, hCF, hDF, hEF, rA, rB, r0, rC, rD, rE⟩ := id hF
  obtain ⟨hnR, hOR, -⟩ := id hRn
  obtain ⟨dg, rm, wn, be, hDr, hwn, hbe⟩ := id hD7
  obtain ⟨hnD, hOD, -⟩ := id hDr
  obtain ⟨og, ww, hOd⟩ := id hQ7
  obtain ⟨hnQ, hOQ, -⟩ := id hOd
  obtain ⟨fc, wf, hTi⟩ := id hB7
  obtain ⟨hnB, hOB, -⟩ := id hTi
  obtain ⟨ht7, hOT, hTk, hPO, -⟩ := id hT7
  have ctr : 0 ≤ c_rows ct td ∧ c_rows ct td ≤ 40 := by
    unfold c_rows c_get
    have := (rB 0).1
    split
    · omega
    · rw [if_pos (by omega)]
      exact ⟨this, r0⟩
  have c2 := rA 2
  have c5 := rA 5
  have c8 := rA 8
  have f1 : fr (XSf a) M M := fr_rf
  refine jr_aload_n (pc := 0) h dX7_clear_0 rfl ?_
  refine jr_iload_n (pc := 1) h dX7_clear_1 rfl ?_
  refine iv_X7_123 (pc := 2) h hl hR dX7_clear_2 ⟨(Nat.le_of_ble_eq_true rfl), (Nat.le_of_ble_eq_true rfl), (Nat.le_of_ble_eq_true rfl), (Nat.le_of_ble_eq_true rfl)⟩ (Nat.le_of_ble_eq_true rfl) (by assumption) (by omega) (s_X7_isTrolley hS (by omega)) (fun v_2 n_2 M_2 hn_2 hp => ?_)
  obtain ⟨⟨rfl, rfl, rfl⟩, gr_2⟩ := hp
  refine jr_if_eq (pc := 5) h 31 dX7_clear_5 (by decide) (by omega) (fun c_5 => ?_) (fun c_5 => ?_)
  · first | have d_5 := bz_0.mp c_5 | have d_5 := bz_1.mp c_5 | skip
    refine jr_aload_n (pc := 31) h dX7_clear_31 rfl ?_
    refine jr_iconst (pc := 32) h dX7_clear_32 ?_
    refine iv_X7_66 (pc := 33) h hl hR dX7_clear_33 ⟨(Nat.le_of_ble_eq_true rfl), (Nat.le_of_ble_eq_true rfl), (Nat.le_of_ble_eq_true rfl), (Nat.le_of_ble_eq_true rfl)⟩ (Nat.le_of_ble_eq_true rfl) (by assumption) (by omega) (s_X7_refuse hS) (fun v_33 n_33 M_33 hn_33 hp => ?_)
    obtain ⟨⟨rfl, rfl⟩, hS, fa_⟩ := hp
    have f1 := fr_tr f1 fa_
    refine jr_iret (pc := 36) h hRt dX7_clear_36 rfl (Nat.le_of_ble_eq_true rfl) (Nat.le_of_ble_eq_true rfl) ?_
    refine lfA ?_ hS f1
    unfold x_clear
    (repeat' split) <;> first | rfl | (exfalso; omega) | contradiction
  · first | have d_5 := bz_0.mp c_5 | have d_5 := bz_1.mp c_5 | skip
    refine jr_aload_n (pc := 8) h dX7_clear_8 rfl ?_
    refine jr_aload_n (pc := 9) h dX7_clear_9 rfl ?_
    refine gf_X7_40 (pc := 10) h dX7_clear_10 (by assumption) (by omega) ?_
    refine jr_aload_n (pc := 13) h dX7_clear_13 rfl ?_
    refine gf_X7_19 (pc := 14) h dX7_clear_14 (by assumption) (by omega) ?_
    refine jr_aload_n (pc := 17) h dX7_clear_17 rfl ?_
    refine gf_X7_29 (pc := 18) h dX7_clear_18 (by assumption) (by omega) ?_
    refine jr_iload_n (pc := 21) h dX7_clear_21 rfl ?_
    refine iv_X7_240 (pc := 22) h hl hR dX7_clear_22 ⟨(Nat.le_of_ble_eq_true rfl), (Nat.le_of_ble_eq_true rfl), (Nat.le_of_ble_eq_true rfl), (Nat.le_of_ble_eq_true rfl)⟩ (Nat.le_of_ble_eq_true rfl) (by assumption) (by omega) (s_X0_takeBack hDr hF (by omega) hRn (by omega) hc2 hfa (hfl (by omega)) (by omega)) (fun v_22 n_22 M_22 hn_22 hp => ?_)
    obtain ⟨⟨rfl, rfl⟩, g9, rm9, D9, fd, ecn, hag⟩ := hp
    have hS := SXc_D hS ⟨g9, rm9, wn, be, D9, hwn, hbe⟩ fd
    have f1 := fr_tr f1 (fr_mo fd (fun k q => ⟨by have := q.1; omega, by have := q.2; omega⟩))
    obtain ⟨han, hcd, hO7, hT7, hF7, hG7, hR7, hA7, hK7, hD7, hQ7, hB7⟩ := id hS
    have hO7 : M_22 a = jdO 7 (fX7 a cu dr _) := hO7
    try dsimp only at hO7
    try dsimp only at hT7
    try dsimp only at hK7
    try dsimp only at hB7
    have hF : Fl M_22 n cu ct td bk si ld := hF7
    have hRn : Rn M_22 n (a + 19) g3 sp sk fa go := hR7
    obtain ⟨hnF, hOF, hAF, hBF, hCF, hDF, hEF, rA, rB, r0, rC, rD, rE⟩ := id hF
    obtain ⟨hnR, hOR, -⟩ := id hRn
    obtain ⟨dg, rm, wn, be, hDr, hwn, hbe⟩ := id hD7
    obtain ⟨hnD, hOD, -⟩ := id hDr
    obtain ⟨og, ww, hOd⟩ := id hQ7
    obtain ⟨hnQ, hOQ, -⟩ := id hOd
    obtain ⟨fc, wf, hTi⟩ := id hB7
    obtain ⟨hnB, hOB, -⟩ := id hTi
    obtain ⟨ht7, hOT, hTk, hPO, -⟩ := id hT7
    refine iv_X7_93 (pc := 25) h hl hR dX7_clear_25 ⟨(Nat.le_of_ble_eq_true rfl), (Nat.le_of_ble_eq_true rfl), (Nat.le_of_ble_eq_true rfl), (Nat.le_of_ble_eq_true rfl)⟩ (Nat.le_of_ble_eq_true rfl) (by assumption) (by omega) (s_X7_accept hS) (fun v_25 n_25 M_25 hn_25 hp => ?_)
    obtain ⟨⟨rfl, rfl⟩, hS, fa_⟩ := hp
    have f1 := fr_tr f1 fa_
    refine jr_goto (pc := 28) h 36 dX7_clear_28 (by decide) ?_
    refine jr_iret (pc := 36) h hRt dX7_clear_36 rfl (Nat.le_of_ble_eq_true rfl) (Nat.le_of_ble_eq_true rfl) ?_
    refine lfA ?_ hS f1
    unfold x_clear
    (repeat' split) <;> first | rfl | (exfalso; omega) | contradiction
set_option maxHeartbeats 1000000 in
set_option maxRecDepth 20000 in
theorem s_X7_room {l : Launch} {n : Nat} {M : jdM} {a cu dr : Nat} {g bs : Nat → Int} {p : TS} {ct td bk si ld : Nat → Int} {D : FS} {g3 sp sk fa go : Nat → Int} {mk : Nat → FS} {tg tk tr : Nat → Int} (hS : SXc M n a cu dr (g, bs, p, (ct, td, bk, si, ld), D, (g3, sp, sk, fa, go), mk, tg, tk, tr)) {x y : Int} (hx : -2147483648 ≤ x ∧ x < 2147483648) (hy : -2147483648 ≤ y ∧ y < 2147483648) (hc2 : ct 2 ≤ 4) (hfl : 0 < ct 5 → 0 < c_rows ct td) (hfa : ∀ i k : Int, 1 ≤ i → i ≤ 40 → 0 ≤ k → k < 4 → 0 ≤ c_fact fa i (7 + k) ∧ c_fact fa i (7 + k) ≤ 1000) (hdr : ∀ i : Int, 0 ≤ i → i < ct 5 → c_get td 5 i 1 ≤ 14) : Ct l yX7_room cX7_room 3 (some .int) rX7_room [.ref a, jI x, jI y] n M (fun vv n' M' => (vv = some (jI (x_room ct td fa x y).1) ∧ n = n') ∧ SXc M' n a cu dr (up g 10 (x_room ct td fa x y).2, bs, p, (ct, td, bk, si, ld), D, (g3, sp, sk, fa, go), mk, tg, tk, tr) ∧ fr (XSf a) M M') := by
  refine Ct_of [some (.ref a), some (jI x), some (jI y)] (by decide) (Nat.le_of_ble_eq_true rfl) rfl (fun κ hl h hR hRt hmn hn0 => ?_)
  have h : Ok κ RX7 cX7_room 3 (some .int) := h
  obtain ⟨han, hcd, hO7, hT7, hF7, hG7, hR7, hA7, hK7, hD7, hQ7, hB7⟩ := id hS
  have hO7 : M a = jdO 7 (fX7 a cu dr _) := hO7
  try dsimp only at hO7
  try dsimp only at hT7
  try dsimp only at hK7
  try dsimp only at hB7
  have hF : Fl M n cu ct td bk si ld := hF7
  have hRn : Rn M n (a + 19) g3 sp sk fa go := hR7
  obtain ⟨hnF, hOF, hAF, hBF, hCF, hDF, hEF, rA, rB, r0, rC, rD, rE⟩ := id hF
  obtain ⟨hnR, hOR, -⟩ := id hRn
  obtain ⟨dg, rm, wn, be, hDr, hwn, hbe⟩ := id hD7
  obtain ⟨hnD, hOD, -⟩ := id hDr
  obtain ⟨og, ww, hOd⟩ := id hQ7
  obtain ⟨hnQ, hOQ, -⟩ := id hOd
  obtain ⟨fc, wf, hTi⟩ := id hB7
  obtain ⟨hnB, hOB, -⟩ := id hTi
  obtain ⟨ht7, hOT, hTk, hPO, -⟩ := id hT7
  have ctr : 0 ≤ c_rows ct td ∧ c_rows ct td ≤ 40 := by
    unfold c_rows c_get
    have := (rB 0).1
    split
    · omega
    · rw [if_pos (by omega)]
      exact ⟨this, r0⟩
  have c2 := rA 2
  have c5 := rA 5
  have c8 := rA 8
  have f1 : fr (XSf a) M M := fr_rf
  have gxy := c_getr rB 5 x 1
  refine jr_aload_n (pc := 0) h dX7_room_0 rfl ?_
  refine jr_iload_n (pc := 1) h dX7_room_1 rfl ?_
  refine iv_X7_123 (pc := 2) h hl hR dX7_room_2 ⟨(Nat.le_of_ble_eq_true rfl), (Nat.le_of_ble_eq_true rfl), (Nat.le_of_ble_eq_true rfl), (Nat.le_of_ble_eq_true rfl)⟩ (Nat.le_of_ble_eq_true rfl) (by assumption) (by omega) (s_X7_isTrolley hS (by omega)) (fun v_2 n_2 M_2 hn_2 hp => ?_)
  obtain ⟨⟨rfl, rfl, rfl⟩, gr_2⟩ := hp
  refine jr_if_eq (pc := 5) h 26 dX7_room_5 (by decide) (by omega) (fun c_5 => ?_) (fun c_5 => ?_)
  · first | have d_5 := bz_0.mp c_5 | have d_5 := bz_1.mp c_5 | skip
    refine jr_aload_n (pc := 26) h dX7_room_26 rfl ?_
    refine jr_iconst (pc := 27) h dX7_room_27 ?_
    refine iv_X7_66 (pc := 28) h hl hR dX7_room_28 ⟨(Nat.le_of_ble_eq_true rfl), (Nat.le_of_ble_eq_true rfl), (Nat.le_of_ble_eq_true rfl), (Nat.le_of_ble_eq_true rfl)⟩ (Nat.le_of_ble_eq_true rfl) (by assumption) (by omega) (s_X7_refuse hS) (fun v_28 n_28 M_28 hn_28 hp => ?_)
    obtain ⟨⟨rfl, rfl⟩, hS, fa_⟩ := hp
    have f1 := fr_tr f1 fa_
    refine jr_iret (pc := 31) h hRt dX7_room_31 rfl (Nat.le_of_ble_eq_true rfl) (Nat.le_of_ble_eq_true rfl) ?_
    refine lfA ?_ hS f1
    unfold x_room
    (repeat' split) <;> first | rfl | (exfalso; omega) | contradiction
  · first | have d_5 := bz_0.mp c_5 | have d_5 := bz_1.mp c_5 | skip
    refine jr_iload_n (pc := 8) h dX7_room_8 rfl ?_
    refine jr_if_lt (pc := 9) h 26 dX7_room_9 (by decide) (by omega) (fun c_9 => ?_) (fun c_9 => ?_)
    · first | have d_9 := bz_0.mp c_9 | have d_9 := bz_1.mp c_9 | skip
      refine jr_aload_n (pc := 26) h dX7_room_26 rfl ?_
      refine jr_iconst (pc := 27) h dX7_room_27 ?_
      refine iv_X7_66 (pc := 28) h hl hR dX7_room_28 ⟨(Nat.le_of_ble_eq_true rfl), (Nat.le_of_ble_eq_true rfl), (Nat.le_of_ble_eq_true rfl), (Nat.le_of_ble_eq_true rfl)⟩ (Nat.le_of_ble_eq_true rfl) (by assumption) (by omega) (s_X7_refuse hS) (fun v_28 n_28 M_28 hn_28 hp => ?_)
      obtain ⟨⟨rfl, rfl⟩, hS, fa_⟩ := hp
      have f1 := fr_tr f1 fa_
      refine jr_iret (pc := 31) h hRt dX7_room_31 rfl (Nat.le_of_ble_eq_true rfl) (Nat.le_of_ble_eq_true rfl) ?_
      refine lfA ?_ hS f1
      unfold x_room
      (repeat' split) <;> first | rfl | (exfalso; omega) | contradiction
    · first | have d_9 := bz_0.mp c_9 | have d_9 := bz_1.mp c_9 | skip
      refine jr_iload_n (pc := 12) h dX7_room_12 rfl ?_
      refine jr_aload_n (pc := 13) h dX7_room_13 rfl ?_
      refine gf_X7_19 (pc := 14) h dX7_room_14 (by assumption) (by omega) ?_
      refine jr_iconst (pc := 17) h dX7_room_17 ?_
      refine jr_iload_n (pc := 18) h dX7_room_18 rfl ?_
      refine jr_iconst (pc := 19) h dX7_room_19 ?_
      refine iv_X7_162 (pc := 20) h hl hR dX7_room_20 ⟨(Nat.le_of_ble_eq_true rfl), (Nat.le_of_ble_eq_true rfl), (Nat.le_of_ble_eq_true rfl), (Nat.le_of_ble_eq_true rfl)⟩ (Nat.le_of_ble_eq_true rfl) (by assumption) (by omega) (s_X1_get hF (by omega) (by omega) (by omega)) (fun v_20 n_20 M_20 hn_20 hp => ?_)
      obtain ⟨⟨rfl, rfl, rfl⟩, gr_20⟩ := hp
      refine jr_icmp_lt (pc := 23) h 32 dX7_room_23 (by decide) (by omega) (by omega) (fun c_23 => ?_) (fun c_23 => ?_)
      · first | have d_23 := bz_0.mp c_23 | have d_23 := bz_1.mp c_23 | skip
        refine jr_aload_n (pc := 32) h dX7_room_32 rfl ?_
        refine gf_X7_40 (pc := 33) h dX7_room_33 (by assumption) (by omega) ?_
        refine jr_aload_n (pc := 36) h dX7_room_36 rfl ?_
        refine gf_X7_19 (pc := 37) h dX7_room_37 (by assumption) (by omega) ?_
        refine jr_aload_n (pc := 40) h dX7_room_40 rfl ?_
        refine gf_X7_29 (pc := 41) h dX7_room_41 (by assumption) (by omega) ?_
        refine jr_iload_n (pc := 44) h dX7_room_44 rfl ?_
        refine iv_X7_240 (pc := 45) h hl hR dX7_room_45 ⟨(Nat.le_of_ble_eq_true rfl), (Nat.le_of_ble_eq_true rfl), (Nat.le_of_ble_eq_true rfl), (Nat.le_of_ble_eq_true rfl)⟩ (Nat.le_of_ble_eq_true rfl) (by assumption) (by omega) (s_X0_takeBack hDr hF (by omega) hRn (by omega) hc2 hfa (hfl (by omega)) (by omega)) (fun v_45 n_45 M_45 hn_45 hp => ?_)
        obtain ⟨⟨rfl, rfl⟩, g9, rm9, D9, fd, ecn, hag⟩ := hp
        have hS := SXc_D hS ⟨g9, rm9, wn, be, D9, hwn, hbe⟩ fd
        have f1 := fr_tr f1 (fr_mo fd (fun k q => ⟨by have := q.1; omega, by have := q.2; omega⟩))
        obtain ⟨han, hcd, hO7, hT7, hF7, hG7, hR7, hA7, hK7, hD7, hQ7, hB7⟩ := id hS
        have hO7 : M_45 a = jdO 7 (fX7 a cu dr _) := hO7
        try dsimp only at hO7
        try dsimp only at hT7
        try dsimp only at hK7
        try dsimp only at hB7
        have hF : Fl M_45 n cu ct td bk si ld := hF7
        have hRn : Rn M_45 n (a + 19) g3 sp sk fa go := hR7
        obtain ⟨hnF, hOF, hAF, hBF, hCF, hDF, hEF, rA, rB, r0, rC, rD, rE⟩ := id hF
        obtain ⟨hnR, hOR, -⟩ := id hRn
        obtain ⟨dg, rm, wn, be, hDr, hwn, hbe⟩ := id hD7
        obtain ⟨hnD, hOD, -⟩ := id hDr
        obtain ⟨og, ww, hOd⟩ := id hQ7
        obtain ⟨hnQ, hOQ, -⟩ := id hOd
        obtain ⟨fc, wf, hTi⟩ := id hB7
        obtain ⟨hnB, hOB, -⟩ := id hTi
        obtain ⟨ht7, hOT, hTk, hPO, -⟩ := id hT7
        refine jr_pop (pc := 48) h dX7_room_48 rfl ?_
        refine jr_aload_n (pc := 49) h dX7_room_49 rfl ?_
        refine jr_aload_n (pc := 50) h dX7_room_50 rfl ?_
        refine gf_X7_40 (pc := 51) h dX7_room_51 (by assumption) (by omega) ?_
        refine jr_iload_n (pc := 54) h dX7_room_54 rfl ?_
        obtain ⟨hnD, hOD, -⟩ := id D9
        refine iv_X7_244 (pc := 55) h hl hR dX7_room_55 ⟨(Nat.le_of_ble_eq_true rfl), (Nat.le_of_ble_eq_true rfl), (Nat.le_of_ble_eq_true rfl), (Nat.le_of_ble_eq_true rfl)⟩ (Nat.le_of_ble_eq_true rfl) (by assumption) (by omega) (s_X0_roomIn D9 (by omega)) (fun v_55 n_55 M_55 hn_55 hp => ?_)
        obtain ⟨rfl, rfl, rfl⟩ := hp
        have hd14 := hdr x (by omega) (by omega)
        rw [if_pos (show 0 ≤ y ∧ y < 14 by omega), hag y.toNat (by unfold c_cnt; omega)]
        refine iv_X7_93 (pc := 58) h hl hR dX7_room_58 ⟨(Nat.le_of_ble_eq_true rfl), (Nat.le_of_ble_eq_true rfl), (Nat.le_of_ble_eq_true rfl), (Nat.le_of_ble_eq_true rfl)⟩ (Nat.le_of_ble_eq_true rfl) (by assumption) (by omega) (s_X7_accept hS) (fun v_58 n_58 M_58 hn_58 hp => ?_)
        obtain ⟨⟨rfl, rfl⟩, hS, fa_⟩ := hp
        have f1 := fr_tr f1 fa_
        refine jr_iret (pc := 61) h hRt dX7_room_61 rfl (Nat.le_of_ble_eq_true rfl) (Nat.le_of_ble_eq_true rfl) ?_
        refine lfA ?_ hS f1
        unfold x_room
        (repeat' split) <;> first | rfl | (exfalso; omega) | contradiction
      · first | have d_23 := bz_0.mp c_23 | have d_23 := bz_1.mp c_23 | skip
        refine jr_aload_n (pc := 26) h dX7_room_26 rfl ?_
        refine jr_iconst (pc := 27) h dX7_room_27 ?_
        refine iv_X7_66 (pc := 28) h hl hR dX7_room_28 ⟨(Nat.le_of_ble_eq_true rfl), (Nat.le_of_ble_eq_true rfl), (Nat.le_of_ble_eq_true rfl), (Nat.le_of_ble_eq_true rfl)⟩ (Nat.le_of_ble_eq_true rfl) (by assumption) (by omega) (s_X7_refuse hS) (fun v_28 n_28 M_28 hn_28 hp => ?_)
        obtain ⟨⟨rfl, rfl⟩, hS, fa_⟩ := hp
        have f1 := fr_tr f1 fa_
        refine jr_iret (pc := 31) h hRt dX7_room_31 rfl (Nat.le_of_ble_eq_true rfl) (Nat.le_of_ble_eq_true rfl) ?_
        refine lfA ?_ hS f1
        unfold x_room
        (repeat' split) <;> first | rfl | (exfalso; omega) | contradiction
set_option maxHeartbeats 1000000 in
set_option maxRecDepth 20000 in
theorem s_X7_fewest {l : Launch} {n : Nat} {M : jdM} {a cu dr : Nat} {g bs : Nat → Int} {p : TS} {ct td bk si ld : Nat → Int} {D : FS} {g3 sp sk fa go : Nat → Int} {mk : Nat → FS} {tg tk tr : Nat → Int} (hS : SXc M n a cu dr (g, bs, p, (ct, td, bk, si, ld), D, (g3, sp, sk, fa, go), mk, tg, tk, tr)) {x y z u v : Int} (hx : -2147483648 ≤ x ∧ x < 2147483648) (hy : -2147483648 ≤ y ∧ y < 2147483648) (hz : -2147483648 ≤ z ∧ z < 2147483648) (hu : -2147483648 ≤ u ∧ u < 2147483648) (hv : -2147483648 ≤ v ∧ v < 2147483648)  : Ct l yX7_fewest cX7_fewest 6 (some .int) rX7_fewest [.ref a, jI x, jI y, jI z, jI u, jI v] n M (fun vv n' M' => (vv = some (jI (x_fewest ct td x y z u v).1) ∧ n = n') ∧ SXc M' n a cu dr (up g 10 (x_fewest ct td x y z u v).2, bs, p, (ct, td, bk, si, ld), D, (g3, sp, sk, fa, go), mk, tg, tk, tr) ∧ fr (XSf a) M M') := by
  refine Ct_of [some (.ref a), some (jI x), some (jI y), some (jI z), some (jI u), some (jI v)] (by decide) (Nat.le_of_ble_eq_true rfl) rfl (fun κ hl h hR hRt hmn hn0 => ?_)
  have h : Ok κ RX7 cX7_fewest 6 (some .int) := h
  obtain ⟨han, hcd, hO7, hT7, hF7, hG7, hR7, hA7, hK7, hD7, hQ7, hB7⟩ := id hS
  have hO7 : M a = jdO 7 (fX7 a cu dr _) := hO7
  try dsimp only at hO7
  try dsimp only at hT7
  try dsimp only at hK7
  try dsimp only at hB7
  have hF : Fl M n cu ct td bk si ld := hF7
  have hRn : Rn M n (a + 19) g3 sp sk fa go := hR7
  obtain ⟨hnF, hOF, hAF, hBF, hCF, hDF, hEF, rA, rB, r0, rC, rD, rE⟩ := id hF
  obtain ⟨hnR, hOR, -⟩ := id hRn
  obtain ⟨dg, rm, wn, be, hDr, hwn, hbe⟩ := id hD7
  obtain ⟨hnD, hOD, -⟩ := id hDr
  obtain ⟨og, ww, hOd⟩ := id hQ7
  obtain ⟨hnQ, hOQ, -⟩ := id hOd
  obtain ⟨fc, wf, hTi⟩ := id hB7
  obtain ⟨hnB, hOB, -⟩ := id hTi
  obtain ⟨ht7, hOT, hTk, hPO, -⟩ := id hT7
  have ctr : 0 ≤ c_rows ct td ∧ c_rows ct td ≤ 40 := by
    unfold c_rows c_get
    have := (rB 0).1
    split
    · omega
    · rw [if_pos (by omega)]
      exact ⟨this, r0⟩
  have c2 := rA 2
  have c5 := rA 5
  have c8 := rA 8
  have f1 : fr (XSf a) M M := fr_rf
  refine jr_aload_n (pc := 0) h dX7_fewest_0 rfl ?_
  refine jr_iload_n (pc := 1) h dX7_fewest_1 rfl ?_
  refine iv_X7_123 (pc := 2) h hl hR dX7_fewest_2 ⟨(Nat.le_of_ble_eq_true rfl), (Nat.le_of_ble_eq_true rfl), (Nat.le_of_ble_eq_true rfl), (Nat.le_of_ble_eq_true rfl)⟩ (Nat.le_of_ble_eq_true rfl) (by assumption) (by omega) (s_X7_isTrolley hS (by omega)) (fun v_2 n_2 M_2 hn_2 hp => ?_)
  obtain ⟨⟨rfl, rfl, rfl⟩, gr_2⟩ := hp
  refine jr_if_ne (pc := 5) h 14 dX7_fewest_5 (by decide) (by omega) (fun c_5 => ?_) (fun c_5 => ?_)
  · first | have d_5 := bz_0.mp c_5 | have d_5 := bz_1.mp c_5 | skip
    refine jr_aload_n (pc := 14) h dX7_fewest_14 rfl ?_
    refine jr_iconst (pc := 15) h dX7_fewest_15 ?_
    refine jr_iload_n (pc := 16) h dX7_fewest_16 rfl ?_
    refine iv_X7_247 (pc := 17) h hl hR dX7_fewest_17 ⟨(Nat.le_of_ble_eq_true rfl), (Nat.le_of_ble_eq_true rfl), (Nat.le_of_ble_eq_true rfl), (Nat.le_of_ble_eq_true rfl)⟩ (Nat.le_of_ble_eq_true rfl) (by assumption) (by omega) (s_X7_isWanted hS (by omega) (by omega)) (fun v_17 n_17 M_17 hn_17 hp => ?_)
    obtain ⟨⟨rfl, rfl, rfl⟩, gr_17⟩ := hp
    refine jr_if_eq (pc := 20) h 52 dX7_fewest_20 (by decide) (by omega) (fun c_20 => ?_) (fun c_20 => ?_)
    · first | have d_20 := bz_0.mp c_20 | have d_20 := bz_1.mp c_20 | skip
      refine jr_aload_n (pc := 52) h dX7_fewest_52 rfl ?_
      refine jr_iconst (pc := 53) h dX7_fewest_53 ?_
      refine iv_X7_66 (pc := 54) h hl hR dX7_fewest_54 ⟨(Nat.le_of_ble_eq_true rfl), (Nat.le_of_ble_eq_true rfl), (Nat.le_of_ble_eq_true rfl), (Nat.le_of_ble_eq_true rfl)⟩ (Nat.le_of_ble_eq_true rfl) (by assumption) (by omega) (s_X7_refuse hS) (fun v_54 n_54 M_54 hn_54 hp => ?_)
      obtain ⟨⟨rfl, rfl⟩, hS, fa_⟩ := hp
      have f1 := fr_tr f1 fa_
      refine jr_iret (pc := 57) h hRt dX7_fewest_57 rfl (Nat.le_of_ble_eq_true rfl) (Nat.le_of_ble_eq_true rfl) ?_
      refine lfA ?_ hS f1
      unfold x_fewest
      first
      | (rw [if_neg (by omega)])
      | (rw [if_pos (by omega), if_neg (fun q => by unfold x_wtd at q; omega)])
      | (rw [if_pos (by omega), if_pos (by unfold x_wtd; omega), if_pos (by omega)])
      | (rw [if_pos (by omega), if_pos (by unfold x_wtd; omega), if_neg (by omega)])
    · first | have d_20 := bz_0.mp c_20 | have d_20 := bz_1.mp c_20 | skip
      refine jr_aload_n (pc := 23) h dX7_fewest_23 rfl ?_
      refine jr_iconst (pc := 24) h dX7_fewest_24 ?_
      refine jr_iload_n (pc := 25) h dX7_fewest_25 rfl ?_
      refine iv_X7_247 (pc := 26) h hl hR dX7_fewest_26 ⟨(Nat.le_of_ble_eq_true rfl), (Nat.le_of_ble_eq_true rfl), (Nat.le_of_ble_eq_true rfl), (Nat.le_of_ble_eq_true rfl)⟩ (Nat.le_of_ble_eq_true rfl) (by assumption) (by omega) (s_X7_isWanted hS (by omega) (by omega)) (fun v_26 n_26 M_26 hn_26 hp => ?_)
      obtain ⟨⟨rfl, rfl, rfl⟩, gr_26⟩ := hp
      refine jr_if_eq (pc := 29) h 52 dX7_fewest_29 (by decide) (by omega) (fun c_29 => ?_) (fun c_29 => ?_)
      · first | have d_29 := bz_0.mp c_29 | have d_29 := bz_1.mp c_29 | skip
        refine jr_aload_n (pc := 52) h dX7_fewest_52 rfl ?_
        refine jr_iconst (pc := 53) h dX7_fewest_53 ?_
        refine iv_X7_66 (pc := 54) h hl hR dX7_fewest_54 ⟨(Nat.le_of_ble_eq_true rfl), (Nat.le_of_ble_eq_true rfl), (Nat.le_of_ble_eq_true rfl), (Nat.le_of_ble_eq_true rfl)⟩ (Nat.le_of_ble_eq_true rfl) (by assumption) (by omega) (s_X7_refuse hS) (fun v_54 n_54 M_54 hn_54 hp => ?_)
        obtain ⟨⟨rfl, rfl⟩, hS, fa_⟩ := hp
        have f1 := fr_tr f1 fa_
        refine jr_iret (pc := 57) h hRt dX7_fewest_57 rfl (Nat.le_of_ble_eq_true rfl) (Nat.le_of_ble_eq_true rfl) ?_
        refine lfA ?_ hS f1
        unfold x_fewest
        first
        | (rw [if_neg (by omega)])
        | (rw [if_pos (by omega), if_neg (fun q => by unfold x_wtd at q; omega)])
        | (rw [if_pos (by omega), if_pos (by unfold x_wtd; omega), if_pos (by omega)])
        | (rw [if_pos (by omega), if_pos (by unfold x_wtd; omega), if_neg (by omega)])
      · first | have d_29 := bz_0.mp c_29 | have d_29 := bz_1.mp c_29 | skip
        refine jr_aload_n (pc := 32) h dX7_fewest_32 rfl ?_
        refine jr_iconst (pc := 33) h dX7_fewest_33 ?_
        refine jr_iload (pc := 34) h dX7_fewest_34 rfl ?_
        refine iv_X7_247 (pc := 36) h hl hR dX7_fewest_36 ⟨(Nat.le_of_ble_eq_true rfl), (Nat.le_of_ble_eq_true rfl), (Nat.le_of_ble_eq_true rfl), (Nat.le_of_ble_eq_true rfl)⟩ (Nat.le_of_ble_eq_true rfl) (by assumption) (by omega) (s_X7_isWanted hS (by omega) (by omega)) (fun v_36 n_36 M_36 hn_36 hp => ?_)
        obtain ⟨⟨rfl, rfl, rfl⟩, gr_36⟩ := hp
        refine jr_if_eq (pc := 39) h 52 dX7_fewest_39 (by decide) (by omega) (fun c_39 => ?_) (fun c_39 => ?_)
        · first | have d_39 := bz_0.mp c_39 | have d_39 := bz_1.mp c_39 | skip
          refine jr_aload_n (pc := 52) h dX7_fewest_52 rfl ?_
          refine jr_iconst (pc := 53) h dX7_fewest_53 ?_
          refine iv_X7_66 (pc := 54) h hl hR dX7_fewest_54 ⟨(Nat.le_of_ble_eq_true rfl), (Nat.le_of_ble_eq_true rfl), (Nat.le_of_ble_eq_true rfl), (Nat.le_of_ble_eq_true rfl)⟩ (Nat.le_of_ble_eq_true rfl) (by assumption) (by omega) (s_X7_refuse hS) (fun v_54 n_54 M_54 hn_54 hp => ?_)
          obtain ⟨⟨rfl, rfl⟩, hS, fa_⟩ := hp
          have f1 := fr_tr f1 fa_
          refine jr_iret (pc := 57) h hRt dX7_fewest_57 rfl (Nat.le_of_ble_eq_true rfl) (Nat.le_of_ble_eq_true rfl) ?_
          refine lfA ?_ hS f1
          unfold x_fewest
          first
          | (rw [if_neg (by omega)])
          | (rw [if_pos (by omega), if_neg (fun q => by unfold x_wtd at q; omega)])
          | (rw [if_pos (by omega), if_pos (by unfold x_wtd; omega), if_pos (by omega)])
          | (rw [if_pos (by omega), if_pos (by unfold x_wtd; omega), if_neg (by omega)])
        · first | have d_39 := bz_0.mp c_39 | have d_39 := bz_1.mp c_39 | skip
          refine jr_aload_n (pc := 42) h dX7_fewest_42 rfl ?_
          refine jr_iconst (pc := 43) h dX7_fewest_43 ?_
          refine jr_iload (pc := 44) h dX7_fewest_44 rfl ?_
          refine iv_X7_247 (pc := 46) h hl hR dX7_fewest_46 ⟨(Nat.le_of_ble_eq_true rfl), (Nat.le_of_ble_eq_true rfl), (Nat.le_of_ble_eq_true rfl), (Nat.le_of_ble_eq_true rfl)⟩ (Nat.le_of_ble_eq_true rfl) (by assumption) (by omega) (s_X7_isWanted hS (by omega) (by omega)) (fun v_46 n_46 M_46 hn_46 hp => ?_)
          obtain ⟨⟨rfl, rfl, rfl⟩, gr_46⟩ := hp
          refine jr_if_ne (pc := 49) h 58 dX7_fewest_49 (by decide) (by omega) (fun c_49 => ?_) (fun c_49 => ?_)
          · first | have d_49 := bz_0.mp c_49 | have d_49 := bz_1.mp c_49 | skip
            refine jr_iload_n (pc := 58) h dX7_fewest_58 rfl ?_
            refine jr_i2l (pc := 59) h dX7_fewest_59 (by omega) ?_
            refine jr_iload_n (pc := 60) h dX7_fewest_60 rfl ?_
            refine jr_i2l (pc := 61) h dX7_fewest_61 (by omega) ?_
            refine jr_ladd (pc := 62) h dX7_fewest_62 ?_
            refine jr_iload (pc := 63) h dX7_fewest_63 rfl ?_
            refine jr_i2l (pc := 65) h dX7_fewest_65 (by omega) ?_
            refine jr_ladd (pc := 66) h dX7_fewest_66 ?_
            refine jr_iload (pc := 67) h dX7_fewest_67 rfl ?_
            refine jr_i2l (pc := 69) h dX7_fewest_69 (by omega) ?_
            refine jr_ladd (pc := 70) h dX7_fewest_70 ?_
            refine jr_ldc2 (pc := 71) h dX7_fewest_71 wm_1377 ?_
            rw [show (24 : Int64) = Int64.ofInt 24 from by decide]
            refine jr_lcmp (pc := 74) h dX7_fewest_74 (by omega) (by omega) ?_
            have lz := lcz_s (y + z + u + v) 24
            refine jr_if_le (pc := 75) h 84 dX7_fewest_75 (by decide) (by omega) (fun c_75 => ?_) (fun c_75 => ?_)
            · first | have d_75 := bz_0.mp c_75 | have d_75 := bz_1.mp c_75 | skip
              refine jr_aload_n (pc := 84) h dX7_fewest_84 rfl ?_
              refine gf_X7_40 (pc := 85) h dX7_fewest_85 (by assumption) (by omega) ?_
              refine jr_iconst (pc := 88) h dX7_fewest_88 ?_
              refine jr_iload_n (pc := 89) h dX7_fewest_89 rfl ?_
              refine iv_X7_252 (pc := 90) h hl hR dX7_fewest_90 ⟨(Nat.le_of_ble_eq_true rfl), (Nat.le_of_ble_eq_true rfl), (Nat.le_of_ble_eq_true rfl), (Nat.le_of_ble_eq_true rfl)⟩ (Nat.le_of_ble_eq_true rfl) (by assumption) (by omega) (s_X0_want hDr (a := 0) (by omega) (by omega)) (fun v_90 n_90 M_90 hn_90 hp => ?_)
              obtain ⟨rfl, rfl, D9, fd⟩ := hp
              have fD := fd
              obtain ⟨hnD, hOD, -⟩ := id D9
              have hO7 := (fd _ (fun q => by have := q.1; omega)).trans hO7
              refine jr_aload_n (pc := 93) h dX7_fewest_93 rfl ?_
              refine gf_X7_40 (pc := 94) h dX7_fewest_94 (by assumption) (by omega) ?_
              refine jr_iconst (pc := 97) h dX7_fewest_97 ?_
              refine jr_iload_n (pc := 98) h dX7_fewest_98 rfl ?_
              refine iv_X7_252 (pc := 99) h hl hR dX7_fewest_99 ⟨(Nat.le_of_ble_eq_true rfl), (Nat.le_of_ble_eq_true rfl), (Nat.le_of_ble_eq_true rfl), (Nat.le_of_ble_eq_true rfl)⟩ (Nat.le_of_ble_eq_true rfl) (by assumption) (by omega) (s_X0_want D9 (a := 1) (by omega) (by omega)) (fun v_99 n_99 M_99 hn_99 hp => ?_)
              obtain ⟨rfl, rfl, D9, fd⟩ := hp
              have fD := fr_tr fD fd
              obtain ⟨hnD, hOD, -⟩ := id D9
              have hO7 := (fd _ (fun q => by have := q.1; omega)).trans hO7
              refine jr_aload_n (pc := 102) h dX7_fewest_102 rfl ?_
              refine gf_X7_40 (pc := 103) h dX7_fewest_103 (by assumption) (by omega) ?_
              refine jr_iconst (pc := 106) h dX7_fewest_106 ?_
              refine jr_iload (pc := 107) h dX7_fewest_107 rfl ?_
              refine iv_X7_252 (pc := 109) h hl hR dX7_fewest_109 ⟨(Nat.le_of_ble_eq_true rfl), (Nat.le_of_ble_eq_true rfl), (Nat.le_of_ble_eq_true rfl), (Nat.le_of_ble_eq_true rfl)⟩ (Nat.le_of_ble_eq_true rfl) (by assumption) (by omega) (s_X0_want D9 (a := 2) (by omega) (by omega)) (fun v_109 n_109 M_109 hn_109 hp => ?_)
              obtain ⟨rfl, rfl, D9, fd⟩ := hp
              have fD := fr_tr fD fd
              obtain ⟨hnD, hOD, -⟩ := id D9
              have hO7 := (fd _ (fun q => by have := q.1; omega)).trans hO7
              refine jr_aload_n (pc := 112) h dX7_fewest_112 rfl ?_
              refine gf_X7_40 (pc := 113) h dX7_fewest_113 (by assumption) (by omega) ?_
              refine jr_iconst (pc := 116) h dX7_fewest_116 ?_
              refine jr_iload (pc := 117) h dX7_fewest_117 rfl ?_
              refine iv_X7_252 (pc := 119) h hl hR dX7_fewest_119 ⟨(Nat.le_of_ble_eq_true rfl), (Nat.le_of_ble_eq_true rfl), (Nat.le_of_ble_eq_true rfl), (Nat.le_of_ble_eq_true rfl)⟩ (Nat.le_of_ble_eq_true rfl) (by assumption) (by omega) (s_X0_want D9 (a := 3) (by omega) (by omega)) (fun v_119 n_119 M_119 hn_119 hp => ?_)
              obtain ⟨rfl, rfl, D9, fd⟩ := hp
              have fD := fr_tr fD fd
              obtain ⟨hnD, hOD, -⟩ := id D9
              have hO7 := (fd _ (fun q => by have := q.1; omega)).trans hO7
              have hF4 := Fl_fr hF fD (Nat.le_refl _) (fun k h1 h2 q => by have := q.1; have := q.2; omega)
              have ew : ∀ j, j < 4 → (up (up (up (up wn (Int.toNat 0) (max 0 y)) (Int.toNat 1) (max 0 z)) (Int.toNat 2) (max 0 u)) (Int.toNat 3) (max 0 v)) j = wnF y z u v j ∧ 0 ≤ (up (up (up (up wn (Int.toNat 0) (max 0 y)) (Int.toNat 1) (max 0 z)) (Int.toNat 2) (max 0 u)) (Int.toNat 3) (max 0 v)) j := fun j hj => by
                have hy0 : 0 ≤ y ∧ 0 ≤ z ∧ 0 ≤ u ∧ 0 ≤ v := by omega
                match j, hj with
                | 0, _ => exact ⟨by show max 0 y = y; omega, by show 0 ≤ max 0 y; omega⟩
                | 1, _ => exact ⟨by show max 0 z = z; omega, by show 0 ≤ max 0 z; omega⟩
                | 2, _ => exact ⟨by show max 0 u = u; omega, by show 0 ≤ max 0 u; omega⟩
                | 3, _ => exact ⟨by show max 0 v = v; omega, by show 0 ≤ max 0 v; omega⟩
              have hw24 : ∀ j, 0 ≤ (up (up (up (up wn (Int.toNat 0) (max 0 y)) (Int.toNat 1) (max 0 z)) (Int.toNat 2) (max 0 u)) (Int.toNat 3) (max 0 v)) j ∧ (up (up (up (up wn (Int.toNat 0) (max 0 y)) (Int.toNat 1) (max 0 z)) (Int.toNat 2) (max 0 u)) (Int.toNat 3) (max 0 v)) j ≤ 24 := fun j => by
                by_cases q : j < 4
                · have h1 := ew j q
                  have h2 : wnF y z u v j ≤ 24 := by
                    match j, q with
                    | 0, _ => show y ≤ 24; omega
                    | 1, _ => show z ≤ 24; omega
                    | 2, _ => show u ≤ 24; omega
                    | 3, _ => show v ≤ 24; omega
                  omega
                · rw [up_ne (by show j ≠ 3; omega), up_ne (by show j ≠ 2; omega), up_ne (by show j ≠ 1; omega), up_ne (by show j ≠ 0; omega)]
                  exact hwn j
              have h24 : c_sts (up (up (up (up wn (Int.toNat 0) (max 0 y)) (Int.toNat 1) (max 0 z)) (Int.toNat 2) (max 0 u)) (Int.toNat 3) (max 0 v)) ≤ 2401 := sts_24 (fun j hj => (ew j hj).2) (by rw [(ew 0 (by omega)).1, (ew 1 (by omega)).1, (ew 2 (by omega)).1, (ew 3 (by omega)).1]; show y + z + u + v ≤ 24; omega)
              obtain ⟨hnF4, hOF4, -⟩ := id hF4
              have gho := c_getr rB 5 x 2
              refine jr_aload_n (pc := 122) h dX7_fewest_122 rfl ?_
              refine jr_aload_n (pc := 123) h dX7_fewest_123 rfl ?_
              refine gf_X7_40 (pc := 124) h dX7_fewest_124 (by assumption) (by omega) ?_
              refine jr_aload_n (pc := 127) h dX7_fewest_127 rfl ?_
              refine gf_X7_19 (pc := 128) h dX7_fewest_128 (by assumption) (by omega) ?_
              refine jr_aload_n (pc := 131) h dX7_fewest_131 rfl ?_
              refine gf_X7_19 (pc := 132) h dX7_fewest_132 (by assumption) (by omega) ?_
              refine jr_iconst (pc := 135) h dX7_fewest_135 ?_
              refine jr_iload_n (pc := 136) h dX7_fewest_136 rfl ?_
              refine jr_iconst (pc := 137) h dX7_fewest_137 ?_
              refine iv_X7_162 (pc := 138) h hl hR dX7_fewest_138 ⟨(Nat.le_of_ble_eq_true rfl), (Nat.le_of_ble_eq_true rfl), (Nat.le_of_ble_eq_true rfl), (Nat.le_of_ble_eq_true rfl)⟩ (Nat.le_of_ble_eq_true rfl) (by assumption) (by omega) (s_X1_get hF4 (by omega) (by omega) (by omega)) (fun v_138 n_138 M_138 hn_138 hp => ?_)
              obtain ⟨⟨rfl, rfl, rfl⟩, gr_138⟩ := hp
              refine iv_X7_255 (pc := 141) h hl hR dX7_fewest_141 ⟨(Nat.le_of_ble_eq_true rfl), (Nat.le_of_ble_eq_true rfl), (Nat.le_of_ble_eq_true rfl), (Nat.le_of_ble_eq_true rfl)⟩ (Nat.le_of_ble_eq_true rfl) (by assumption) (by omega) (s_X0_fewestOf D9 hF4 (by omega) hw24 hbe (by omega) h24) (fun v_141 n_141 M_141 hn_141 hp => ?_)
              obtain ⟨⟨rfl, rfl⟩, be9, D9, fd, hb9⟩ := hp
              have fD := fr_tr fD fd
              have hS := SXc_D hS ⟨_, _, _, _, D9, hw24, hb9⟩ fD
              have f1 := fr_tr f1 (fr_mo fD (fun k q => ⟨by have := q.1; omega, by have := q.2; omega⟩))
              have hO7 := (fd _ (fun q => by have := q.1; omega)).trans hO7
              rw [c_few_c (be' := fun _ => 0) ew]
              refine iv_X7_93 (pc := 144) h hl hR dX7_fewest_144 ⟨(Nat.le_of_ble_eq_true rfl), (Nat.le_of_ble_eq_true rfl), (Nat.le_of_ble_eq_true rfl), (Nat.le_of_ble_eq_true rfl)⟩ (Nat.le_of_ble_eq_true rfl) (by assumption) (by omega) (s_X7_accept hS) (fun v_144 n_144 M_144 hn_144 hp => ?_)
              obtain ⟨⟨rfl, rfl⟩, hS, fa_⟩ := hp
              have f1 := fr_tr f1 fa_
              refine jr_iret (pc := 147) h hRt dX7_fewest_147 rfl (Nat.le_of_ble_eq_true rfl) (Nat.le_of_ble_eq_true rfl) ?_
              refine lfA ?_ hS f1
              unfold x_fewest
              first
              | (rw [if_neg (by omega)])
              | (rw [if_pos (by omega), if_neg (fun q => by unfold x_wtd at q; omega)])
              | (rw [if_pos (by omega), if_pos (by unfold x_wtd; omega), if_pos (by omega)])
              | (rw [if_pos (by omega), if_pos (by unfold x_wtd; omega), if_neg (by omega)])
            · first | have d_75 := bz_0.mp c_75 | have d_75 := bz_1.mp c_75 | skip
              refine jr_aload_n (pc := 78) h dX7_fewest_78 rfl ?_
              refine jr_iconst (pc := 79) h dX7_fewest_79 ?_
              refine iv_X7_66 (pc := 80) h hl hR dX7_fewest_80 ⟨(Nat.le_of_ble_eq_true rfl), (Nat.le_of_ble_eq_true rfl), (Nat.le_of_ble_eq_true rfl), (Nat.le_of_ble_eq_true rfl)⟩ (Nat.le_of_ble_eq_true rfl) (by assumption) (by omega) (s_X7_refuse hS) (fun v_80 n_80 M_80 hn_80 hp => ?_)
              obtain ⟨⟨rfl, rfl⟩, hS, fa_⟩ := hp
              have f1 := fr_tr f1 fa_
              refine jr_iret (pc := 83) h hRt dX7_fewest_83 rfl (Nat.le_of_ble_eq_true rfl) (Nat.le_of_ble_eq_true rfl) ?_
              refine lfA ?_ hS f1
              unfold x_fewest
              first
              | (rw [if_neg (by omega)])
              | (rw [if_pos (by omega), if_neg (fun q => by unfold x_wtd at q; omega)])
              | (rw [if_pos (by omega), if_pos (by unfold x_wtd; omega), if_pos (by omega)])
              | (rw [if_pos (by omega), if_pos (by unfold x_wtd; omega), if_neg (by omega)])
          · first | have d_49 := bz_0.mp c_49 | have d_49 := bz_1.mp c_49 | skip
            refine jr_aload_n (pc := 52) h dX7_fewest_52 rfl ?_
            refine jr_iconst (pc := 53) h dX7_fewest_53 ?_
            refine iv_X7_66 (pc := 54) h hl hR dX7_fewest_54 ⟨(Nat.le_of_ble_eq_true rfl), (Nat.le_of_ble_eq_true rfl), (Nat.le_of_ble_eq_true rfl), (Nat.le_of_ble_eq_true rfl)⟩ (Nat.le_of_ble_eq_true rfl) (by assumption) (by omega) (s_X7_refuse hS) (fun v_54 n_54 M_54 hn_54 hp => ?_)
            obtain ⟨⟨rfl, rfl⟩, hS, fa_⟩ := hp
            have f1 := fr_tr f1 fa_
            refine jr_iret (pc := 57) h hRt dX7_fewest_57 rfl (Nat.le_of_ble_eq_true rfl) (Nat.le_of_ble_eq_true rfl) ?_
            refine lfA ?_ hS f1
            unfold x_fewest
            first
            | (rw [if_neg (by omega)])
            | (rw [if_pos (by omega), if_neg (fun q => by unfold x_wtd at q; omega)])
            | (rw [if_pos (by omega), if_pos (by unfold x_wtd; omega), if_pos (by omega)])
            | (rw [if_pos (by omega), if_pos (by unfold x_wtd; omega), if_neg (by omega)])
  · first | have d_5 := bz_0.mp c_5 | have d_5 := bz_1.mp c_5 | skip
    refine jr_aload_n (pc := 8) h dX7_fewest_8 rfl ?_
    refine jr_iconst (pc := 9) h dX7_fewest_9 ?_
    refine iv_X7_66 (pc := 10) h hl hR dX7_fewest_10 ⟨(Nat.le_of_ble_eq_true rfl), (Nat.le_of_ble_eq_true rfl), (Nat.le_of_ble_eq_true rfl), (Nat.le_of_ble_eq_true rfl)⟩ (Nat.le_of_ble_eq_true rfl) (by assumption) (by omega) (s_X7_refuse hS) (fun v_10 n_10 M_10 hn_10 hp => ?_)
    obtain ⟨⟨rfl, rfl⟩, hS, fa_⟩ := hp
    have f1 := fr_tr f1 fa_
    refine jr_iret (pc := 13) h hRt dX7_fewest_13 rfl (Nat.le_of_ble_eq_true rfl) (Nat.le_of_ble_eq_true rfl) ?_
    refine lfA ?_ hS f1
    unfold x_fewest
    first
    | (rw [if_neg (by omega)])
    | (rw [if_pos (by omega), if_neg (fun q => by unfold x_wtd at q; omega)])
    | (rw [if_pos (by omega), if_pos (by unfold x_wtd; omega), if_pos (by omega)])
    | (rw [if_pos (by omega), if_pos (by unfold x_wtd; omega), if_neg (by omega)])
set_option maxHeartbeats 1000000 in
set_option maxRecDepth 20000 in
theorem s_X7_acceptQ {l : Launch} {n : Nat} {M : jdM} {a cu dr : Nat} {g bs : Nat → Int} {p : TS} {ct td bk si ld : Nat → Int} {D : FS} {g3 sp sk fa go : Nat → Int} {mk : Nat → FS} {tg tk tr : Nat → Int} (hS : SXc M n a cu dr (g, bs, p, (ct, td, bk, si, ld), D, (g3, sp, sk, fa, go), mk, tg, tk, tr)) {x : Int} {og ww9 : Nat → Int} (Q9 : Od M n (a + 29) og ww9) : Ct l yX7_accept cX7_accept 2 (some .int) rX7_accept [.ref a, jI x] n M (fun vv n' M' => (vv = some (jI x) ∧ n = n') ∧ SXc M' n a cu dr (up g 10 0, bs, p, (ct, td, bk, si, ld), D, (g3, sp, sk, fa, go), mk, tg, tk, tr) ∧ fr (XSf a) M M' ∧ Od M' n (a + 29) og ww9) := by
  refine Ct_of [some (.ref a), some (jI x)] (by decide) (Nat.le_of_ble_eq_true rfl) rfl (fun κ hl h hR hRt hmn hn0 => ?_)
  have h : Ok κ RX7 cX7_accept 2 (some .int) := h
  obtain ⟨han, hcd, hO7, -⟩ := id hS
  have hO7 : M a = jdO 7 (fX7 a cu dr g) := hO7
  refine jr_aload_n (pc := 0) h dX7_accept_0 rfl ?_
  refine jr_iconst (pc := 1) h dX7_accept_1 ?_
  refine pf_X7_96 (pc := 2) h dX7_accept_2 (by assumption) (by omega) ?_
  refine jm_gen (fun M2 hM2 => ?_)
  have hS := SXc_g10 hS hM2
  have f9 : fr (XSf a) _ M2 := fr_up hM2 ⟨by omega, by omega⟩
  have Q8 := Od_fr Q9 (fr_up (S := fun k => k = a) hM2 rfl) (Nat.le_refl _) (fun k h1 h2 q => by have q : k = a := q; omega)
  refine jr_iload_n (pc := 5) h dX7_accept_5 rfl ?_
  refine jr_iret (pc := 6) h hRt dX7_accept_6 rfl (Nat.le_of_ble_eq_true rfl) (Nat.le_of_ble_eq_true rfl) ?_
  exact ⟨⟨rfl, rfl⟩, hS, f9, Q8⟩
set_option maxHeartbeats 1000000 in
set_option maxRecDepth 20000 in
theorem s_X7_out {l : Launch} {n : Nat} {M : jdM} {a cu dr : Nat} {g bs : Nat → Int} {p : TS} {ct td bk si ld : Nat → Int} {D : FS} {g3 sp sk fa go : Nat → Int} {mk : Nat → FS} {tg tk tr : Nat → Int} (hS : SXc M n a cu dr (g, bs, p, (ct, td, bk, si, ld), D, (g3, sp, sk, fa, go), mk, tg, tk, tr)) {x y z : Int} (hx : -2147483648 ≤ x ∧ x < 2147483648) (hy : -2147483648 ≤ y ∧ y < 2147483648) (hz : -2147483648 ≤ z ∧ z < 2147483648) (hun : ∀ r : Int, 0 ≤ c_unn ct td si r ∧ c_unn ct td si r ≤ 9) : Ct l yX7_out cX7_out 4 (some .long) rX7_out [.ref a, jI x, jI y, jI z] n M (fun vv n' M' => (vv = some (jL (x_out ct td bk si x y z).1) ∧ n = n') ∧ SXc M' n a cu dr (up g 10 (x_out ct td bk si x y z).2, bs, p, (ct, td, bk, si, ld), D, (g3, sp, sk, fa, go), mk, tg, tk, tr) ∧ fr (XSf a) M M') := by
  refine Ct_of [some (.ref a), some (jI x), some (jI y), some (jI z)] (by decide) (Nat.le_of_ble_eq_true rfl) rfl (fun κ hl h hR hRt hmn hn0 => ?_)
  have h : Ok κ RX7 cX7_out 4 (some .long) := h
  obtain ⟨han, hcd, hO7, hT7, hF7, hG7, hR7, hA7, hK7, hD7, hQ7, hB7⟩ := id hS
  have hO7 : M a = jdO 7 (fX7 a cu dr _) := hO7
  try dsimp only at hO7
  try dsimp only at hT7
  try dsimp only at hK7
  try dsimp only at hB7
  have hF : Fl M n cu ct td bk si ld := hF7
  have hRn : Rn M n (a + 19) g3 sp sk fa go := hR7
  obtain ⟨hnF, hOF, hAF, hBF, hCF, hDF, hEF, rA, rB, r0, rC, rD, rE⟩ := id hF
  obtain ⟨hnR, hOR, -⟩ := id hRn
  obtain ⟨dg, rm, wn, be, hDr, hwn, hbe⟩ := id hD7
  obtain ⟨hnD, hOD, -⟩ := id hDr
  obtain ⟨og, ww, hOd⟩ := id hQ7
  obtain ⟨hnQ, hOQ, -⟩ := id hOd
  obtain ⟨fc, wf, hTi⟩ := id hB7
  obtain ⟨hnB, hOB, -⟩ := id hTi
  obtain ⟨ht7, hOT, hTk, hPO, -⟩ := id hT7
  have ctr : 0 ≤ c_rows ct td ∧ c_rows ct td ≤ 40 := by
    unfold c_rows c_get
    have := (rB 0).1
    split
    · omega
    · rw [if_pos (by omega)]
      exact ⟨this, r0⟩
  have c2 := rA 2
  have c5 := rA 5
  have c8 := rA 8
  have f1 : fr (XSf a) M M := fr_rf
  refine jr_aload_n (pc := 0) h dX7_out_0 rfl ?_
  refine jr_iload_n (pc := 1) h dX7_out_1 rfl ?_
  refine iv_X7_99 (pc := 2) h hl hR dX7_out_2 ⟨(Nat.le_of_ble_eq_true rfl), (Nat.le_of_ble_eq_true rfl), (Nat.le_of_ble_eq_true rfl), (Nat.le_of_ble_eq_true rfl)⟩ (Nat.le_of_ble_eq_true rfl) (by assumption) (by omega) (s_X7_isRow hS (by omega)) (fun v_2 n_2 M_2 hn_2 hp => ?_)
  obtain ⟨⟨rfl, rfl, rfl⟩, gr_2⟩ := hp
  refine jr_if_eq (pc := 5) h 16 dX7_out_5 (by decide) (by omega) (fun c_5 => ?_) (fun c_5 => ?_)
  · first | have d_5 := bz_0.mp c_5 | have d_5 := bz_1.mp c_5 | skip
    refine jr_aload_n (pc := 16) h dX7_out_16 rfl ?_
    refine jr_iconst (pc := 17) h dX7_out_17 ?_
    refine iv_X7_66 (pc := 18) h hl hR dX7_out_18 ⟨(Nat.le_of_ble_eq_true rfl), (Nat.le_of_ble_eq_true rfl), (Nat.le_of_ble_eq_true rfl), (Nat.le_of_ble_eq_true rfl)⟩ (Nat.le_of_ble_eq_true rfl) (by assumption) (by omega) (s_X7_refuse hS) (fun v_18 n_18 M_18 hn_18 hp => ?_)
    obtain ⟨⟨rfl, rfl⟩, hS, fa_⟩ := hp
    have f1 := fr_tr f1 fa_
    refine jr_i2l (pc := 21) h dX7_out_21 (by omega) ?_
    refine jr_lret (pc := 22) h hRt dX7_out_22 (Nat.le_of_ble_eq_true rfl) (Nat.le_of_ble_eq_true rfl) ?_
    refine lfL ?_ hS f1
    unfold x_out
    (repeat' split) <;> first | rfl | (exfalso; omega) | contradiction
  · first | have d_5 := bz_0.mp c_5 | have d_5 := bz_1.mp c_5 | skip
    refine jr_aload_n (pc := 8) h dX7_out_8 rfl ?_
    refine jr_iload_n (pc := 9) h dX7_out_9 rfl ?_
    refine iv_X7_117 (pc := 10) h hl hR dX7_out_10 ⟨(Nat.le_of_ble_eq_true rfl), (Nat.le_of_ble_eq_true rfl), (Nat.le_of_ble_eq_true rfl), (Nat.le_of_ble_eq_true rfl)⟩ (Nat.le_of_ble_eq_true rfl) (by assumption) (by omega) (s_X7_isKind hS (by omega)) (fun v_10 n_10 M_10 hn_10 hp => ?_)
    obtain ⟨⟨rfl, rfl, rfl⟩, gr_10⟩ := hp
    refine jr_if_ne (pc := 13) h 23 dX7_out_13 (by decide) (by omega) (fun c_13 => ?_) (fun c_13 => ?_)
    · first | have d_13 := bz_0.mp c_13 | have d_13 := bz_1.mp c_13 | skip
      refine jr_iload_n (pc := 23) h dX7_out_23 rfl ?_
      refine jr_if_lt (pc := 24) h 33 dX7_out_24 (by decide) (by omega) (fun c_24 => ?_) (fun c_24 => ?_)
      · first | have d_24 := bz_0.mp c_24 | have d_24 := bz_1.mp c_24 | skip
        refine jr_aload_n (pc := 33) h dX7_out_33 rfl ?_
        refine jr_iconst (pc := 34) h dX7_out_34 ?_
        refine iv_X7_66 (pc := 35) h hl hR dX7_out_35 ⟨(Nat.le_of_ble_eq_true rfl), (Nat.le_of_ble_eq_true rfl), (Nat.le_of_ble_eq_true rfl), (Nat.le_of_ble_eq_true rfl)⟩ (Nat.le_of_ble_eq_true rfl) (by assumption) (by omega) (s_X7_refuse hS) (fun v_35 n_35 M_35 hn_35 hp => ?_)
        obtain ⟨⟨rfl, rfl⟩, hS, fa_⟩ := hp
        have f1 := fr_tr f1 fa_
        refine jr_i2l (pc := 38) h dX7_out_38 (by omega) ?_
        refine jr_lret (pc := 39) h hRt dX7_out_39 (Nat.le_of_ble_eq_true rfl) (Nat.le_of_ble_eq_true rfl) ?_
        refine lfL ?_ hS f1
        unfold x_out
        (repeat' split) <;> first | rfl | (exfalso; omega) | contradiction
      · first | have d_24 := bz_0.mp c_24 | have d_24 := bz_1.mp c_24 | skip
        refine jr_iload_n (pc := 27) h dX7_out_27 rfl ?_
        refine jr_bipush (pc := 28) h dX7_out_28 bp_99 ?_
        refine jr_icmp_le (pc := 30) h 40 dX7_out_30 (by decide) (by omega) (by omega) (fun c_30 => ?_) (fun c_30 => ?_)
        · first | have d_30 := bz_0.mp c_30 | have d_30 := bz_1.mp c_30 | skip
          refine jr_aload_n (pc := 40) h dX7_out_40 rfl ?_
          refine gf_X7_47 (pc := 41) h dX7_out_41 (by assumption) (by omega) ?_
          refine jr_aload_n (pc := 44) h dX7_out_44 rfl ?_
          refine gf_X7_19 (pc := 45) h dX7_out_45 (by assumption) (by omega) ?_
          refine jr_iload_n (pc := 48) h dX7_out_48 rfl ?_
          refine jr_iload_n (pc := 49) h dX7_out_49 rfl ?_
          refine iv_X7_210 (pc := 50) h hl hR dX7_out_50 ⟨(Nat.le_of_ble_eq_true rfl), (Nat.le_of_ble_eq_true rfl), (Nat.le_of_ble_eq_true rfl), (Nat.le_of_ble_eq_true rfl)⟩ (Nat.le_of_ble_eq_true rfl) (by assumption) (by omega) (s_X2_weigh hOd hF (by omega) hun (by omega) (b := y) (by omega)) (fun v_50 n_50 M_50 hn_50 hp => ?_)
          obtain ⟨⟨rfl, rfl⟩, ww9, Q9, fq, hag⟩ := hp
          have gr_50 := bz_r (c_ahead ct td si (x - 1).toNat ≤ 10)
          have hS := SXc_Q hS ⟨og, ww9, Q9⟩ fq
          have f1 := fr_tr f1 (fr_mo fq (fun k q => ⟨by have := q.1; omega, by have := q.2; omega⟩))
          obtain ⟨han, hcd, hO7, hT7, hF7, hG7, hR7, hA7, hK7, hD7, hQ7, hB7⟩ := id hS
          have hO7 : M_50 a = jdO 7 (fX7 a cu dr _) := hO7
          try dsimp only at hO7
          try dsimp only at hT7
          try dsimp only at hK7
          try dsimp only at hB7
          have hF : Fl M_50 n cu ct td bk si ld := hF7
          have hRn : Rn M_50 n (a + 19) g3 sp sk fa go := hR7
          obtain ⟨hnF, hOF, hAF, hBF, hCF, hDF, hEF, rA, rB, r0, rC, rD, rE⟩ := id hF
          obtain ⟨hnR, hOR, -⟩ := id hRn
          obtain ⟨dg, rm, wn, be, hDr, hwn, hbe⟩ := id hD7
          obtain ⟨hnD, hOD, -⟩ := id hDr
          obtain ⟨og, ww, hOd⟩ := id hQ7
          obtain ⟨hnQ, hOQ, -⟩ := id hOd
          obtain ⟨fc, wf, hTi⟩ := id hB7
          obtain ⟨hnB, hOB, -⟩ := id hTi
          obtain ⟨ht7, hOT, hTk, hPO, -⟩ := id hT7
          obtain ⟨hnQ, hOQ, -⟩ := id Q9
          refine jr_if_ne (pc := 53) h 63 dX7_out_53 (by decide) (by omega) (fun c_53 => ?_) (fun c_53 => ?_)
          · first | have d_53 := bz_0.mp c_53 | have d_53 := bz_1.mp c_53 | skip
            refine jr_aload_n (pc := 63) h dX7_out_63 rfl ?_
            refine jr_iconst (pc := 64) h dX7_out_64 ?_
            refine iv_X7_93 (pc := 65) h hl hR dX7_out_65 ⟨(Nat.le_of_ble_eq_true rfl), (Nat.le_of_ble_eq_true rfl), (Nat.le_of_ble_eq_true rfl), (Nat.le_of_ble_eq_true rfl)⟩ (Nat.le_of_ble_eq_true rfl) (by assumption) (by omega) (s_X7_acceptQ hS Q9) (fun v_65 n_65 M_65 hn_65 hp => ?_)
            obtain ⟨⟨rfl, rfl⟩, hS, fa2, Q9⟩ := hp
            have f1 := fr_tr f1 fa2
            obtain ⟨hnQ, hOQ, -⟩ := id Q9
            obtain ⟨han, hcd, hO7, hT7, hF7, hG7, hR7, hA7, hK7, hD7, hQ7, hB7⟩ := id hS
            have hO7 : M_65 a = jdO 7 (fX7 a cu dr _) := hO7
            try dsimp only at hO7
            try dsimp only at hT7
            try dsimp only at hK7
            try dsimp only at hB7
            have hF : Fl M_65 n cu ct td bk si ld := hF7
            have hRn : Rn M_65 n (a + 19) g3 sp sk fa go := hR7
            obtain ⟨hnF, hOF, hAF, hBF, hCF, hDF, hEF, rA, rB, r0, rC, rD, rE⟩ := id hF
            obtain ⟨hnR, hOR, -⟩ := id hRn
            obtain ⟨dg, rm, wn, be, hDr, hwn, hbe⟩ := id hD7
            obtain ⟨hnD, hOD, -⟩ := id hDr
            obtain ⟨og, ww, hOd⟩ := id hQ7
            obtain ⟨hnQ, hOQ, -⟩ := id hOd
            obtain ⟨fc, wf, hTi⟩ := id hB7
            obtain ⟨hnB, hOB, -⟩ := id hTi
            obtain ⟨ht7, hOT, hTk, hPO, -⟩ := id hT7
            obtain ⟨hnQ, hOQ, -⟩ := id Q9
            refine jr_pop (pc := 68) h dX7_out_68 rfl ?_
            refine jr_aload_n (pc := 69) h dX7_out_69 rfl ?_
            refine gf_X7_47 (pc := 70) h dX7_out_70 (by assumption) (by omega) ?_
            refine jr_iload_n (pc := 73) h dX7_out_73 rfl ?_
            refine iv_X7_214 (pc := 74) h hl hR dX7_out_74 ⟨(Nat.le_of_ble_eq_true rfl), (Nat.le_of_ble_eq_true rfl), (Nat.le_of_ble_eq_true rfl), (Nat.le_of_ble_eq_true rfl)⟩ (Nat.le_of_ble_eq_true rfl) (by assumption) (by omega) (s_X2_waysAbove Q9 (by omega)) (fun v_74 n_74 M_74 hn_74 hp => ?_)
            obtain ⟨rfl, rfl, rfl⟩ := hp
            rw [c_wab_c (hag (by omega)) (by omega)]
            refine jr_lret (pc := 77) h hRt dX7_out_77 (Nat.le_of_ble_eq_true rfl) (Nat.le_of_ble_eq_true rfl) ?_
            refine lfL ?_ hS f1
            unfold x_out
            (repeat' split) <;> first | rfl | (exfalso; omega) | contradiction
          · first | have d_53 := bz_0.mp c_53 | have d_53 := bz_1.mp c_53 | skip
            refine jr_aload_n (pc := 56) h dX7_out_56 rfl ?_
            refine jr_iconst (pc := 57) h dX7_out_57 ?_
            refine iv_X7_66 (pc := 58) h hl hR dX7_out_58 ⟨(Nat.le_of_ble_eq_true rfl), (Nat.le_of_ble_eq_true rfl), (Nat.le_of_ble_eq_true rfl), (Nat.le_of_ble_eq_true rfl)⟩ (Nat.le_of_ble_eq_true rfl) (by assumption) (by omega) (s_X7_refuse hS) (fun v_58 n_58 M_58 hn_58 hp => ?_)
            obtain ⟨⟨rfl, rfl⟩, hS, fa_⟩ := hp
            have f1 := fr_tr f1 fa_
            refine jr_i2l (pc := 61) h dX7_out_61 (by omega) ?_
            refine jr_lret (pc := 62) h hRt dX7_out_62 (Nat.le_of_ble_eq_true rfl) (Nat.le_of_ble_eq_true rfl) ?_
            refine lfL ?_ hS f1
            unfold x_out
            (repeat' split) <;> first | rfl | (exfalso; omega) | contradiction
        · first | have d_30 := bz_0.mp c_30 | have d_30 := bz_1.mp c_30 | skip
          refine jr_aload_n (pc := 33) h dX7_out_33 rfl ?_
          refine jr_iconst (pc := 34) h dX7_out_34 ?_
          refine iv_X7_66 (pc := 35) h hl hR dX7_out_35 ⟨(Nat.le_of_ble_eq_true rfl), (Nat.le_of_ble_eq_true rfl), (Nat.le_of_ble_eq_true rfl), (Nat.le_of_ble_eq_true rfl)⟩ (Nat.le_of_ble_eq_true rfl) (by assumption) (by omega) (s_X7_refuse hS) (fun v_35 n_35 M_35 hn_35 hp => ?_)
          obtain ⟨⟨rfl, rfl⟩, hS, fa_⟩ := hp
          have f1 := fr_tr f1 fa_
          refine jr_i2l (pc := 38) h dX7_out_38 (by omega) ?_
          refine jr_lret (pc := 39) h hRt dX7_out_39 (Nat.le_of_ble_eq_true rfl) (Nat.le_of_ble_eq_true rfl) ?_
          refine lfL ?_ hS f1
          unfold x_out
          (repeat' split) <;> first | rfl | (exfalso; omega) | contradiction
    · first | have d_13 := bz_0.mp c_13 | have d_13 := bz_1.mp c_13 | skip
      refine jr_aload_n (pc := 16) h dX7_out_16 rfl ?_
      refine jr_iconst (pc := 17) h dX7_out_17 ?_
      refine iv_X7_66 (pc := 18) h hl hR dX7_out_18 ⟨(Nat.le_of_ble_eq_true rfl), (Nat.le_of_ble_eq_true rfl), (Nat.le_of_ble_eq_true rfl), (Nat.le_of_ble_eq_true rfl)⟩ (Nat.le_of_ble_eq_true rfl) (by assumption) (by omega) (s_X7_refuse hS) (fun v_18 n_18 M_18 hn_18 hp => ?_)
      obtain ⟨⟨rfl, rfl⟩, hS, fa_⟩ := hp
      have f1 := fr_tr f1 fa_
      refine jr_i2l (pc := 21) h dX7_out_21 (by omega) ?_
      refine jr_lret (pc := 22) h hRt dX7_out_22 (Nat.le_of_ble_eq_true rfl) (Nat.le_of_ble_eq_true rfl) ?_
      refine lfL ?_ hS f1
      unfold x_out
      (repeat' split) <;> first | rfl | (exfalso; omega) | contradiction
set_option maxHeartbeats 1000000 in
set_option maxRecDepth 20000 in
theorem s_X7_ways {l : Launch} {n : Nat} {M : jdM} {a cu dr : Nat} {g bs : Nat → Int} {p : TS} {ct td bk si ld : Nat → Int} {D : FS} {g3 sp sk fa go : Nat → Int} {mk : Nat → FS} {tg tk tr : Nat → Int} (hS : SXc M n a cu dr (g, bs, p, (ct, td, bk, si, ld), D, (g3, sp, sk, fa, go), mk, tg, tk, tr)) {x : Int} (hx : -2147483648 ≤ x ∧ x < 2147483648) (hun : ∀ r : Int, 0 ≤ c_unn ct td si r ∧ c_unn ct td si r ≤ 9) : Ct l yX7_ways cX7_ways 2 (some .long) rX7_ways [.ref a, jI x] n M (fun vv n' M' => (vv = some (jL (x_ways ct td bk si x).1) ∧ n = n') ∧ SXc M' n a cu dr (up g 10 (x_ways ct td bk si x).2, bs, p, (ct, td, bk, si, ld), D, (g3, sp, sk, fa, go), mk, tg, tk, tr) ∧ fr (XSf a) M M') := by
  refine Ct_of [some (.ref a), some (jI x)] (by decide) (Nat.le_of_ble_eq_true rfl) rfl (fun κ hl h hR hRt hmn hn0 => ?_)
  have h : Ok κ RX7 cX7_ways 2 (some .long) := h
  obtain ⟨han, hcd, hO7, hT7, hF7, hG7, hR7, hA7, hK7, hD7, hQ7, hB7⟩ := id hS
  have hO7 : M a = jdO 7 (fX7 a cu dr _) := hO7
  try dsimp only at hO7
  try dsimp only at hT7
  try dsimp only at hK7
  try dsimp only at hB7
  have hF : Fl M n cu ct td bk si ld := hF7
  have hRn : Rn M n (a + 19) g3 sp sk fa go := hR7
  obtain ⟨hnF, hOF, hAF, hBF, hCF, hDF, hEF, rA, rB, r0, rC, rD, rE⟩ := id hF
  obtain ⟨hnR, hOR, -⟩ := id hRn
  obtain ⟨dg, rm, wn, be, hDr, hwn, hbe⟩ := id hD7
  obtain ⟨hnD, hOD, -⟩ := id hDr
  obtain ⟨og, ww, hOd⟩ := id hQ7
  obtain ⟨hnQ, hOQ, -⟩ := id hOd
  obtain ⟨fc, wf, hTi⟩ := id hB7
  obtain ⟨hnB, hOB, -⟩ := id hTi
  obtain ⟨ht7, hOT, hTk, hPO, -⟩ := id hT7
  have ctr : 0 ≤ c_rows ct td ∧ c_rows ct td ≤ 40 := by
    unfold c_rows c_get
    have := (rB 0).1
    split
    · omega
    · rw [if_pos (by omega)]
      exact ⟨this, r0⟩
  have c2 := rA 2
  have c5 := rA 5
  have c8 := rA 8
  have f1 : fr (XSf a) M M := fr_rf
  refine jr_aload_n (pc := 0) h dX7_ways_0 rfl ?_
  refine jr_iload_n (pc := 1) h dX7_ways_1 rfl ?_
  refine iv_X7_99 (pc := 2) h hl hR dX7_ways_2 ⟨(Nat.le_of_ble_eq_true rfl), (Nat.le_of_ble_eq_true rfl), (Nat.le_of_ble_eq_true rfl), (Nat.le_of_ble_eq_true rfl)⟩ (Nat.le_of_ble_eq_true rfl) (by assumption) (by omega) (s_X7_isRow hS (by omega)) (fun v_2 n_2 M_2 hn_2 hp => ?_)
  obtain ⟨⟨rfl, rfl, rfl⟩, gr_2⟩ := hp
  refine jr_if_ne (pc := 5) h 15 dX7_ways_5 (by decide) (by omega) (fun c_5 => ?_) (fun c_5 => ?_)
  · first | have d_5 := bz_0.mp c_5 | have d_5 := bz_1.mp c_5 | skip
    refine jr_aload_n (pc := 15) h dX7_ways_15 rfl ?_
    refine gf_X7_47 (pc := 16) h dX7_ways_16 (by assumption) (by omega) ?_
    refine jr_aload_n (pc := 19) h dX7_ways_19 rfl ?_
    refine gf_X7_19 (pc := 20) h dX7_ways_20 (by assumption) (by omega) ?_
    refine jr_iload_n (pc := 23) h dX7_ways_23 rfl ?_
    refine jr_iconst (pc := 24) h dX7_ways_24 ?_
    refine iv_X7_210 (pc := 25) h hl hR dX7_ways_25 ⟨(Nat.le_of_ble_eq_true rfl), (Nat.le_of_ble_eq_true rfl), (Nat.le_of_ble_eq_true rfl), (Nat.le_of_ble_eq_true rfl)⟩ (Nat.le_of_ble_eq_true rfl) (by assumption) (by omega) (s_X2_weigh hOd hF (by omega) hun (by omega) (b := 0) (by omega)) (fun v_25 n_25 M_25 hn_25 hp => ?_)
    obtain ⟨⟨rfl, rfl⟩, ww9, Q9, fq, hag⟩ := hp
    have gr_25 := bz_r (c_ahead ct td si (x - 1).toNat ≤ 10)
    have hS := SXc_Q hS ⟨og, ww9, Q9⟩ fq
    have f1 := fr_tr f1 (fr_mo fq (fun k q => ⟨by have := q.1; omega, by have := q.2; omega⟩))
    obtain ⟨han, hcd, hO7, hT7, hF7, hG7, hR7, hA7, hK7, hD7, hQ7, hB7⟩ := id hS
    have hO7 : M_25 a = jdO 7 (fX7 a cu dr _) := hO7
    try dsimp only at hO7
    try dsimp only at hT7
    try dsimp only at hK7
    try dsimp only at hB7
    have hF : Fl M_25 n cu ct td bk si ld := hF7
    have hRn : Rn M_25 n (a + 19) g3 sp sk fa go := hR7
    obtain ⟨hnF, hOF, hAF, hBF, hCF, hDF, hEF, rA, rB, r0, rC, rD, rE⟩ := id hF
    obtain ⟨hnR, hOR, -⟩ := id hRn
    obtain ⟨dg, rm, wn, be, hDr, hwn, hbe⟩ := id hD7
    obtain ⟨hnD, hOD, -⟩ := id hDr
    obtain ⟨og, ww, hOd⟩ := id hQ7
    obtain ⟨hnQ, hOQ, -⟩ := id hOd
    obtain ⟨fc, wf, hTi⟩ := id hB7
    obtain ⟨hnB, hOB, -⟩ := id hTi
    obtain ⟨ht7, hOT, hTk, hPO, -⟩ := id hT7
    obtain ⟨hnQ, hOQ, -⟩ := id Q9
    refine jr_if_ne (pc := 28) h 38 dX7_ways_28 (by decide) (by omega) (fun c_28 => ?_) (fun c_28 => ?_)
    · first | have d_28 := bz_0.mp c_28 | have d_28 := bz_1.mp c_28 | skip
      refine jr_aload_n (pc := 38) h dX7_ways_38 rfl ?_
      refine jr_iconst (pc := 39) h dX7_ways_39 ?_
      refine iv_X7_93 (pc := 40) h hl hR dX7_ways_40 ⟨(Nat.le_of_ble_eq_true rfl), (Nat.le_of_ble_eq_true rfl), (Nat.le_of_ble_eq_true rfl), (Nat.le_of_ble_eq_true rfl)⟩ (Nat.le_of_ble_eq_true rfl) (by assumption) (by omega) (s_X7_acceptQ hS Q9) (fun v_40 n_40 M_40 hn_40 hp => ?_)
      obtain ⟨⟨rfl, rfl⟩, hS, fa2, Q9⟩ := hp
      have f1 := fr_tr f1 fa2
      obtain ⟨hnQ, hOQ, -⟩ := id Q9
      obtain ⟨han, hcd, hO7, hT7, hF7, hG7, hR7, hA7, hK7, hD7, hQ7, hB7⟩ := id hS
      have hO7 : M_40 a = jdO 7 (fX7 a cu dr _) := hO7
      try dsimp only at hO7
      try dsimp only at hT7
      try dsimp only at hK7
      try dsimp only at hB7
      have hF : Fl M_40 n cu ct td bk si ld := hF7
      have hRn : Rn M_40 n (a + 19) g3 sp sk fa go := hR7
      obtain ⟨hnF, hOF, hAF, hBF, hCF, hDF, hEF, rA, rB, r0, rC, rD, rE⟩ := id hF
      obtain ⟨hnR, hOR, -⟩ := id hRn
      obtain ⟨dg, rm, wn, be, hDr, hwn, hbe⟩ := id hD7
      obtain ⟨hnD, hOD, -⟩ := id hDr
      obtain ⟨og, ww, hOd⟩ := id hQ7
      obtain ⟨hnQ, hOQ, -⟩ := id hOd
      obtain ⟨fc, wf, hTi⟩ := id hB7
      obtain ⟨hnB, hOB, -⟩ := id hTi
      obtain ⟨ht7, hOT, hTk, hPO, -⟩ := id hT7
      obtain ⟨hnQ, hOQ, -⟩ := id Q9
      refine jr_pop (pc := 43) h dX7_ways_43 rfl ?_
      refine jr_aload_n (pc := 44) h dX7_ways_44 rfl ?_
      refine gf_X7_47 (pc := 45) h dX7_ways_45 (by assumption) (by omega) ?_
      refine iv_X7_218 (pc := 48) h hl hR dX7_ways_48 ⟨(Nat.le_of_ble_eq_true rfl), (Nat.le_of_ble_eq_true rfl), (Nat.le_of_ble_eq_true rfl), (Nat.le_of_ble_eq_true rfl)⟩ (Nat.le_of_ble_eq_true rfl) (by assumption) (by omega) (s_X2_allWays Q9) (fun v_48 n_48 M_48 hn_48 hp => ?_)
      obtain ⟨rfl, rfl, rfl⟩ := hp
      rw [c_wab_c (hag (by omega)) (by omega)]
      refine jr_lret (pc := 51) h hRt dX7_ways_51 (Nat.le_of_ble_eq_true rfl) (Nat.le_of_ble_eq_true rfl) ?_
      refine lfL ?_ hS f1
      unfold x_ways
      (repeat' split) <;> first | rfl | (exfalso; omega) | contradiction
    · first | have d_28 := bz_0.mp c_28 | have d_28 := bz_1.mp c_28 | skip
      refine jr_aload_n (pc := 31) h dX7_ways_31 rfl ?_
      refine jr_iconst (pc := 32) h dX7_ways_32 ?_
      refine iv_X7_66 (pc := 33) h hl hR dX7_ways_33 ⟨(Nat.le_of_ble_eq_true rfl), (Nat.le_of_ble_eq_true rfl), (Nat.le_of_ble_eq_true rfl), (Nat.le_of_ble_eq_true rfl)⟩ (Nat.le_of_ble_eq_true rfl) (by assumption) (by omega) (s_X7_refuse hS) (fun v_33 n_33 M_33 hn_33 hp => ?_)
      obtain ⟨⟨rfl, rfl⟩, hS, fa_⟩ := hp
      have f1 := fr_tr f1 fa_
      refine jr_i2l (pc := 36) h dX7_ways_36 (by omega) ?_
      refine jr_lret (pc := 37) h hRt dX7_ways_37 (Nat.le_of_ble_eq_true rfl) (Nat.le_of_ble_eq_true rfl) ?_
      refine lfL ?_ hS f1
      unfold x_ways
      (repeat' split) <;> first | rfl | (exfalso; omega) | contradiction
  · first | have d_5 := bz_0.mp c_5 | have d_5 := bz_1.mp c_5 | skip
    refine jr_aload_n (pc := 8) h dX7_ways_8 rfl ?_
    refine jr_iconst (pc := 9) h dX7_ways_9 ?_
    refine iv_X7_66 (pc := 10) h hl hR dX7_ways_10 ⟨(Nat.le_of_ble_eq_true rfl), (Nat.le_of_ble_eq_true rfl), (Nat.le_of_ble_eq_true rfl), (Nat.le_of_ble_eq_true rfl)⟩ (Nat.le_of_ble_eq_true rfl) (by assumption) (by omega) (s_X7_refuse hS) (fun v_10 n_10 M_10 hn_10 hp => ?_)
    obtain ⟨⟨rfl, rfl⟩, hS, fa_⟩ := hp
    have f1 := fr_tr f1 fa_
    refine jr_i2l (pc := 13) h dX7_ways_13 (by omega) ?_
    refine jr_lret (pc := 14) h hRt dX7_ways_14 (Nat.le_of_ble_eq_true rfl) (Nat.le_of_ble_eq_true rfl) ?_
    refine lfL ?_ hS f1
    unfold x_ways
    (repeat' split) <;> first | rfl | (exfalso; omega) | contradiction
set_option maxHeartbeats 1000000 in
set_option maxRecDepth 20000 in
theorem s_X7_enough {l : Launch} {n : Nat} {M : jdM} {a cu dr : Nat} {g bs : Nat → Int} {p : TS} {ct td bk si ld : Nat → Int} {D : FS} {g3 sp sk fa go : Nat → Int} {mk : Nat → FS} {tg tk tr : Nat → Int} (hS : SXc M n a cu dr (g, bs, p, (ct, td, bk, si, ld), D, (g3, sp, sk, fa, go), mk, tg, tk, tr)) {x y z : Int} (hx : -2147483648 ≤ x ∧ x < 2147483648) (hy : -2147483648 ≤ y ∧ y < 2147483648) (hz : -2147483648 ≤ z ∧ z < 2147483648) (hun : ∀ r : Int, 0 ≤ c_unn ct td si r ∧ c_unn ct td si r ≤ 9) (hW : ∀ (e : Nat), c_ahead ct td si e ≤ 10 → ∀ m : Int, 0 ≤ c_wab (c_wgh ct td bk si y e) m ∧ c_wab (c_wgh ct td bk si y e) m ≤ 90000000000000000) : Ct l yX7_enough cX7_enough 4 (some .int) rX7_enough [.ref a, jI x, jI y, jI z] n M (fun vv n' M' => (vv = some (jI (x_enough ct td bk si x y z).1) ∧ n = n') ∧ SXc M' n a cu dr (up g 10 (x_enough ct td bk si x y z).2, bs, p, (ct, td, bk, si, ld), D, (g3, sp, sk, fa, go), mk, tg, tk, tr) ∧ fr (XSf a) M M') := by
  refine Ct_of [some (.ref a), some (jI x), some (jI y), some (jI z)] (by decide) (Nat.le_of_ble_eq_true rfl) rfl (fun κ hl h hR hRt hmn hn0 => ?_)
  have h : Ok κ RX7 cX7_enough 4 (some .int) := h
  obtain ⟨han, hcd, hO7, hT7, hF7, hG7, hR7, hA7, hK7, hD7, hQ7, hB7⟩ := id hS
  have hO7 : M a = jdO 7 (fX7 a cu dr _) := hO7
  try dsimp only at hO7
  try dsimp only at hT7
  try dsimp only at hK7
  try dsimp only at hB7
  have hF : Fl M n cu ct td bk si ld := hF7
  have hRn : Rn M n (a + 19) g3 sp sk fa go := hR7
  obtain ⟨hnF, hOF, hAF, hBF, hCF, hDF, hEF, rA, rB, r0, rC, rD, rE⟩ := id hF
  obtain ⟨hnR, hOR, -⟩ := id hRn
  obtain ⟨dg, rm, wn, be, hDr, hwn, hbe⟩ := id hD7
  obtain ⟨hnD, hOD, -⟩ := id hDr
  obtain ⟨og, ww, hOd⟩ := id hQ7
  obtain ⟨hnQ, hOQ, -⟩ := id hOd
  obtain ⟨fc, wf, hTi⟩ := id hB7
  obtain ⟨hnB, hOB, -⟩ := id hTi
  obtain ⟨ht7, hOT, hTk, hPO, -⟩ := id hT7
  have ctr : 0 ≤ c_rows ct td ∧ c_rows ct td ≤ 40 := by
    unfold c_rows c_get
    have := (rB 0).1
    split
    · omega
    · rw [if_pos (by omega)]
      exact ⟨this, r0⟩
  have c2 := rA 2
  have c5 := rA 5
  have c8 := rA 8
  have f1 : fr (XSf a) M M := fr_rf
  refine jr_aload_n (pc := 0) h dX7_enough_0 rfl ?_
  refine jr_iload_n (pc := 1) h dX7_enough_1 rfl ?_
  refine iv_X7_99 (pc := 2) h hl hR dX7_enough_2 ⟨(Nat.le_of_ble_eq_true rfl), (Nat.le_of_ble_eq_true rfl), (Nat.le_of_ble_eq_true rfl), (Nat.le_of_ble_eq_true rfl)⟩ (Nat.le_of_ble_eq_true rfl) (by assumption) (by omega) (s_X7_isRow hS (by omega)) (fun v_2 n_2 M_2 hn_2 hp => ?_)
  obtain ⟨⟨rfl, rfl, rfl⟩, gr_2⟩ := hp
  refine jr_if_eq (pc := 5) h 16 dX7_enough_5 (by decide) (by omega) (fun c_5 => ?_) (fun c_5 => ?_)
  · first | have d_5 := bz_0.mp c_5 | have d_5 := bz_1.mp c_5 | skip
    refine jr_aload_n (pc := 16) h dX7_enough_16 rfl ?_
    refine jr_iconst (pc := 17) h dX7_enough_17 ?_
    refine iv_X7_66 (pc := 18) h hl hR dX7_enough_18 ⟨(Nat.le_of_ble_eq_true rfl), (Nat.le_of_ble_eq_true rfl), (Nat.le_of_ble_eq_true rfl), (Nat.le_of_ble_eq_true rfl)⟩ (Nat.le_of_ble_eq_true rfl) (by assumption) (by omega) (s_X7_refuse hS) (fun v_18 n_18 M_18 hn_18 hp => ?_)
    obtain ⟨⟨rfl, rfl⟩, hS, fa_⟩ := hp
    have f1 := fr_tr f1 fa_
    refine jr_iret (pc := 21) h hRt dX7_enough_21 rfl (Nat.le_of_ble_eq_true rfl) (Nat.le_of_ble_eq_true rfl) ?_
    refine lfA ?_ hS f1
    unfold x_enough
    (repeat' split) <;> first | rfl | (exfalso; omega) | contradiction
  · first | have d_5 := bz_0.mp c_5 | have d_5 := bz_1.mp c_5 | skip
    refine jr_aload_n (pc := 8) h dX7_enough_8 rfl ?_
    refine jr_iload_n (pc := 9) h dX7_enough_9 rfl ?_
    refine iv_X7_117 (pc := 10) h hl hR dX7_enough_10 ⟨(Nat.le_of_ble_eq_true rfl), (Nat.le_of_ble_eq_true rfl), (Nat.le_of_ble_eq_true rfl), (Nat.le_of_ble_eq_true rfl)⟩ (Nat.le_of_ble_eq_true rfl) (by assumption) (by omega) (s_X7_isKind hS (by omega)) (fun v_10 n_10 M_10 hn_10 hp => ?_)
    obtain ⟨⟨rfl, rfl, rfl⟩, gr_10⟩ := hp
    refine jr_if_ne (pc := 13) h 22 dX7_enough_13 (by decide) (by omega) (fun c_13 => ?_) (fun c_13 => ?_)
    · first | have d_13 := bz_0.mp c_13 | have d_13 := bz_1.mp c_13 | skip
      refine jr_iload_n (pc := 22) h dX7_enough_22 rfl ?_
      refine jr_if_lt (pc := 23) h 32 dX7_enough_23 (by decide) (by omega) (fun c_23 => ?_) (fun c_23 => ?_)
      · first | have d_23 := bz_0.mp c_23 | have d_23 := bz_1.mp c_23 | skip
        refine jr_aload_n (pc := 32) h dX7_enough_32 rfl ?_
        refine jr_iconst (pc := 33) h dX7_enough_33 ?_
        refine iv_X7_66 (pc := 34) h hl hR dX7_enough_34 ⟨(Nat.le_of_ble_eq_true rfl), (Nat.le_of_ble_eq_true rfl), (Nat.le_of_ble_eq_true rfl), (Nat.le_of_ble_eq_true rfl)⟩ (Nat.le_of_ble_eq_true rfl) (by assumption) (by omega) (s_X7_refuse hS) (fun v_34 n_34 M_34 hn_34 hp => ?_)
        obtain ⟨⟨rfl, rfl⟩, hS, fa_⟩ := hp
        have f1 := fr_tr f1 fa_
        refine jr_iret (pc := 37) h hRt dX7_enough_37 rfl (Nat.le_of_ble_eq_true rfl) (Nat.le_of_ble_eq_true rfl) ?_
        refine lfA ?_ hS f1
        unfold x_enough
        (repeat' split) <;> first | rfl | (exfalso; omega) | contradiction
      · first | have d_23 := bz_0.mp c_23 | have d_23 := bz_1.mp c_23 | skip
        refine jr_iload_n (pc := 26) h dX7_enough_26 rfl ?_
        refine jr_bipush (pc := 27) h dX7_enough_27 bp_99 ?_
        refine jr_icmp_le (pc := 29) h 38 dX7_enough_29 (by decide) (by omega) (by omega) (fun c_29 => ?_) (fun c_29 => ?_)
        · first | have d_29 := bz_0.mp c_29 | have d_29 := bz_1.mp c_29 | skip
          refine jr_aload_n (pc := 38) h dX7_enough_38 rfl ?_
          refine gf_X7_47 (pc := 39) h dX7_enough_39 (by assumption) (by omega) ?_
          refine jr_aload_n (pc := 42) h dX7_enough_42 rfl ?_
          refine gf_X7_19 (pc := 43) h dX7_enough_43 (by assumption) (by omega) ?_
          refine jr_iload_n (pc := 46) h dX7_enough_46 rfl ?_
          refine jr_iload_n (pc := 47) h dX7_enough_47 rfl ?_
          refine iv_X7_210 (pc := 48) h hl hR dX7_enough_48 ⟨(Nat.le_of_ble_eq_true rfl), (Nat.le_of_ble_eq_true rfl), (Nat.le_of_ble_eq_true rfl), (Nat.le_of_ble_eq_true rfl)⟩ (Nat.le_of_ble_eq_true rfl) (by assumption) (by omega) (s_X2_weigh hOd hF (by omega) hun (by omega) (b := y) (by omega)) (fun v_48 n_48 M_48 hn_48 hp => ?_)
          obtain ⟨⟨rfl, rfl⟩, ww9, Q9, fq, hag⟩ := hp
          have gr_48 := bz_r (c_ahead ct td si (x - 1).toNat ≤ 10)
          have hS := SXc_Q hS ⟨og, ww9, Q9⟩ fq
          have f1 := fr_tr f1 (fr_mo fq (fun k q => ⟨by have := q.1; omega, by have := q.2; omega⟩))
          obtain ⟨han, hcd, hO7, hT7, hF7, hG7, hR7, hA7, hK7, hD7, hQ7, hB7⟩ := id hS
          have hO7 : M_48 a = jdO 7 (fX7 a cu dr _) := hO7
          try dsimp only at hO7
          try dsimp only at hT7
          try dsimp only at hK7
          try dsimp only at hB7
          have hF : Fl M_48 n cu ct td bk si ld := hF7
          have hRn : Rn M_48 n (a + 19) g3 sp sk fa go := hR7
          obtain ⟨hnF, hOF, hAF, hBF, hCF, hDF, hEF, rA, rB, r0, rC, rD, rE⟩ := id hF
          obtain ⟨hnR, hOR, -⟩ := id hRn
          obtain ⟨dg, rm, wn, be, hDr, hwn, hbe⟩ := id hD7
          obtain ⟨hnD, hOD, -⟩ := id hDr
          obtain ⟨og, ww, hOd⟩ := id hQ7
          obtain ⟨hnQ, hOQ, -⟩ := id hOd
          obtain ⟨fc, wf, hTi⟩ := id hB7
          obtain ⟨hnB, hOB, -⟩ := id hTi
          obtain ⟨ht7, hOT, hTk, hPO, -⟩ := id hT7
          obtain ⟨hnQ, hOQ, -⟩ := id Q9
          refine jr_if_ne (pc := 51) h 60 dX7_enough_51 (by decide) (by omega) (fun c_51 => ?_) (fun c_51 => ?_)
          · first | have d_51 := bz_0.mp c_51 | have d_51 := bz_1.mp c_51 | skip
            have hWb : ∀ m : Int, 0 ≤ c_wab ww9 m ∧ c_wab ww9 m ≤ 90000000000000000 := fun m => by
              have hh := hW (x - 1).toNat (by omega)
              by_cases qm : -1 ≤ m
              · rw [c_wab_c (hag (by omega)) qm]
                exact hh m
              · have e9 : c_wab ww9 m = c_wab (c_wgh ct td bk si y (x - 1).toNat) m := by
                  unfold c_wab
                  refine sumZ_cong (fun i h1 h2 => ?_)
                  rw [hag (by omega) i.toNat (by omega)]
                rw [e9]
                exact hh m
            refine jr_aload_n (pc := 60) h dX7_enough_60 rfl ?_
            refine jr_aload_n (pc := 61) h dX7_enough_61 rfl ?_
            refine gf_X7_47 (pc := 62) h dX7_enough_62 (by assumption) (by omega) ?_
            refine jr_iload_n (pc := 65) h dX7_enough_65 rfl ?_
            refine iv_X7_222 (pc := 66) h hl hR dX7_enough_66 ⟨(Nat.le_of_ble_eq_true rfl), (Nat.le_of_ble_eq_true rfl), (Nat.le_of_ble_eq_true rfl), (Nat.le_of_ble_eq_true rfl)⟩ (Nat.le_of_ble_eq_true rfl) (by assumption) (by omega) (s_X2_fewestFor Q9 (by omega) hWb) (fun v_66 n_66 M_66 hn_66 hp => ?_)
            obtain ⟨⟨rfl, rfl, rfl⟩, -⟩ := hp
            rw [fewR_c (hag (by omega)) (by omega)]
            refine iv_X7_93 (pc := 69) h hl hR dX7_enough_69 ⟨(Nat.le_of_ble_eq_true rfl), (Nat.le_of_ble_eq_true rfl), (Nat.le_of_ble_eq_true rfl), (Nat.le_of_ble_eq_true rfl)⟩ (Nat.le_of_ble_eq_true rfl) (by assumption) (by omega) (s_X7_accept hS) (fun v_69 n_69 M_69 hn_69 hp => ?_)
            obtain ⟨⟨rfl, rfl⟩, hS, fa_⟩ := hp
            have f1 := fr_tr f1 fa_
            refine jr_iret (pc := 72) h hRt dX7_enough_72 rfl (Nat.le_of_ble_eq_true rfl) (Nat.le_of_ble_eq_true rfl) ?_
            refine lfA ?_ hS f1
            unfold x_enough
            (repeat' split) <;> first | rfl | (exfalso; omega) | contradiction
          · first | have d_51 := bz_0.mp c_51 | have d_51 := bz_1.mp c_51 | skip
            refine jr_aload_n (pc := 54) h dX7_enough_54 rfl ?_
            refine jr_iconst (pc := 55) h dX7_enough_55 ?_
            refine iv_X7_66 (pc := 56) h hl hR dX7_enough_56 ⟨(Nat.le_of_ble_eq_true rfl), (Nat.le_of_ble_eq_true rfl), (Nat.le_of_ble_eq_true rfl), (Nat.le_of_ble_eq_true rfl)⟩ (Nat.le_of_ble_eq_true rfl) (by assumption) (by omega) (s_X7_refuse hS) (fun v_56 n_56 M_56 hn_56 hp => ?_)
            obtain ⟨⟨rfl, rfl⟩, hS, fa_⟩ := hp
            have f1 := fr_tr f1 fa_
            refine jr_iret (pc := 59) h hRt dX7_enough_59 rfl (Nat.le_of_ble_eq_true rfl) (Nat.le_of_ble_eq_true rfl) ?_
            refine lfA ?_ hS f1
            unfold x_enough
            (repeat' split) <;> first | rfl | (exfalso; omega) | contradiction
        · first | have d_29 := bz_0.mp c_29 | have d_29 := bz_1.mp c_29 | skip
          refine jr_aload_n (pc := 32) h dX7_enough_32 rfl ?_
          refine jr_iconst (pc := 33) h dX7_enough_33 ?_
          refine iv_X7_66 (pc := 34) h hl hR dX7_enough_34 ⟨(Nat.le_of_ble_eq_true rfl), (Nat.le_of_ble_eq_true rfl), (Nat.le_of_ble_eq_true rfl), (Nat.le_of_ble_eq_true rfl)⟩ (Nat.le_of_ble_eq_true rfl) (by assumption) (by omega) (s_X7_refuse hS) (fun v_34 n_34 M_34 hn_34 hp => ?_)
          obtain ⟨⟨rfl, rfl⟩, hS, fa_⟩ := hp
          have f1 := fr_tr f1 fa_
          refine jr_iret (pc := 37) h hRt dX7_enough_37 rfl (Nat.le_of_ble_eq_true rfl) (Nat.le_of_ble_eq_true rfl) ?_
          refine lfA ?_ hS f1
          unfold x_enough
          (repeat' split) <;> first | rfl | (exfalso; omega) | contradiction
    · first | have d_13 := bz_0.mp c_13 | have d_13 := bz_1.mp c_13 | skip
      refine jr_aload_n (pc := 16) h dX7_enough_16 rfl ?_
      refine jr_iconst (pc := 17) h dX7_enough_17 ?_
      refine iv_X7_66 (pc := 18) h hl hR dX7_enough_18 ⟨(Nat.le_of_ble_eq_true rfl), (Nat.le_of_ble_eq_true rfl), (Nat.le_of_ble_eq_true rfl), (Nat.le_of_ble_eq_true rfl)⟩ (Nat.le_of_ble_eq_true rfl) (by assumption) (by omega) (s_X7_refuse hS) (fun v_18 n_18 M_18 hn_18 hp => ?_)
      obtain ⟨⟨rfl, rfl⟩, hS, fa_⟩ := hp
      have f1 := fr_tr f1 fa_
      refine jr_iret (pc := 21) h hRt dX7_enough_21 rfl (Nat.le_of_ble_eq_true rfl) (Nat.le_of_ble_eq_true rfl) ?_
      refine lfA ?_ hS f1
      unfold x_enough
      (repeat' split) <;> first | rfl | (exfalso; omega) | contradiction
