/-! 98.k: the class: led, with its throw -/
def rX7_ledX : Room := { rX7_led with frames := rX7_led.frames + 6, locals := rX7_led.locals + 90, cells := 1, slots := 6 }
theorem ji_w {z : Int} : jI z = jI (z + 4294967296) := by
  show Value.int (Int32.ofInt z) = Value.int (Int32.ofInt (z + 4294967296))
  congr 1
  apply Int32.toInt_inj.mp
  rw [Int32.toInt_ofInt, Int32.toInt_ofInt]
  simp only [Int32.size]
  unfold Int.bmod
  have e : (z + 4294967296) % ((4294967296 : Nat) : Int) = z % ((4294967296 : Nat) : Int) := by omega
  first
  | rw [e]
  | (simp only []; rw [e])
  | simp [e]
set_option maxHeartbeats 2000000 in
set_option maxRecDepth 20000 in
theorem s_X7_led {l : Launch} (hst : l.stackTraces = false) {n : Nat} {M : jdM} {a cu dr : Nat} {g bs : Nat → Int} {p : TS} {ct td bk si ld : Nat → Int} {D : FS} {g3 sp sk fa go : Nat → Int} {mk : Nat → FS} {tg tk tr : Nat → Int} (hS : SXc M n a cu dr (g, bs, p, (ct, td, bk, si, ld), D, (g3, sp, sk, fa, go), mk, tg, tk, tr)) {x : Int} (hx : -2147483648 ≤ x ∧ x < 2147483648) (h45 : (0 ≤ g3 4 ∧ g3 4 ≤ 1000) ∧ -1 ≤ g3 5 ∧ g3 5 ≤ 1000) (hRI : RI ct td (g3, sp, sk, fa, go)) : CtX l NSE yX7_led cX7_led 4 (some .int) rX7_ledX [.ref a, jI x] n M (fun vv n' M' => (x_led ct td fa x) ≠ 0 ∧ vv = some (jI (x_led ct td fa x)) ∧ n = n' ∧ M = M') (fun n' M' => (x_led ct td fa x) = 0 ∧ n = n' ∧ M = M') nseX := by
  refine CtX_of [some (.ref a), some (jI x), none, none] (by decide) (Nat.le_of_ble_eq_true rfl) rfl (fun κ hl h hR hRt hmn hn0 hex hX4 => ?_)
  have h : Ok κ RX7 cX7_led 4 (some .int) := h
  obtain ⟨han, hcd, hO7, hT7, hF7, hG7, hR7, hA7, hK7, hD7, hQ7, hB7⟩ := id hS
  have hO7 : M a = jdO 7 (fX7 a cu dr _) := hO7
  try dsimp only at hO7
  try dsimp only at hT7
  try dsimp only at hK7
  try dsimp only at hB7
  have hF : Fl M n cu ct td bk si ld := hF7
  have hRn : Rn M n (a + 19) g3 sp sk fa go := hR7
  obtain ⟨hnF, hOF, hAF, hBF, hCF, hDF, hEF, rA, rB, r0, rC, rD, rE⟩ := id hF
  obtain ⟨hnR, hOR, -⟩ := id hRn
  obtain ⟨dg, rm, wn, be, hDr, hwn, hbe⟩ := id hD7
  obtain ⟨hnD, hOD, -⟩ := id hDr
  obtain ⟨og, ww, hOd⟩ := id hQ7
  obtain ⟨hnQ, hOQ, -⟩ := id hOd
  obtain ⟨fc, wf, hTi⟩ := id hB7
  obtain ⟨hnB, hOB, -⟩ := id hTi
  obtain ⟨ht7, hOT, hTk, hPO, -⟩ := id hT7
  have ctr : 0 ≤ c_rows ct td ∧ c_rows ct td ≤ 40 := by
    unfold c_rows c_get
    have := (rB 0).1
    split
    · omega
    · rw [if_pos (by omega)]
      exact ⟨this, r0⟩
  refine jr_iload_n (pc := 0) h dX7_led_0 rfl ?_
  refine jr_istore_n (pc := 1) h [_, _, _, _] dX7_led_1 (by decide) rfl ?_
  refine jr_iconst (pc := 2) h dX7_led_2 ?_
  refine jr_istore_n (pc := 3) h [_, _, _, _] dX7_led_3 (by decide) rfl ?_
  rcases Int.lt_or_le x 0 with hx0 | hx0
  · have loop2 : ∀ (dq2 : Nat) (jj r k : Int), ((1 ≤ r ∧ r ≤ c_rows ct td + 1) ∧ ((-2147483648 ≤ jj ∧ jj < 0) ∨ (2147483600 - r ≤ jj ∧ jj ≤ 2147483647)) ∧ x < 0 ∧ 0 ≤ k) → (x_led ct td fa x = ledN fa x r k (c_rows ct td + 1 - r).toNat) → (50 - r).toNat < dq2 → J κ 4 0 0 n 4 [some (.ref a), some (jI x), some (jI jj), some (jI r)] [] M := by
      intro dq2
      induction dq2 with
      | zero => intro jj r k hr hl9 hd; omega
      | succ dq2 ih2 =>
        intro jj r k hr hl9 hd
        refine jr_iload_n (pc := 4) h dX7_led_4 rfl ?_
        refine jr_aload_n (pc := 5) h dX7_led_5 rfl ?_
        refine gf_X7_19 (pc := 6) h dX7_led_6 (by assumption) (by omega) ?_
        refine iv_X7_110 (pc := 9) h hl hR dX7_led_9 ⟨(Nat.le_of_ble_eq_true rfl), (Nat.le_of_ble_eq_true rfl), (Nat.le_of_ble_eq_true rfl), (Nat.le_of_ble_eq_true rfl)⟩ (Nat.le_of_ble_eq_true rfl) (by assumption) (by omega) (s_X1_rows hF) (fun v_9 n_9 M_9 hn_9 hp => ?_)
        obtain ⟨⟨rfl, rfl, rfl⟩, gr_9⟩ := hp
        skip
        refine jr_icmp_gt (pc := 12) h 63 dX7_led_12 (by decide) (by omega) (by omega) (fun c_12 => ?_) (fun c_12 => ?_)
        · first | have d_12 := bz_0.mp c_12 | have d_12 := bz_1.mp c_12 | skip
          have e9 : x_led ct td fa x = 0 := by
            rw [hl9, show (c_rows ct td + 1 - r).toNat = 0 by omega, ledN]
          exact jr_throwX (E0 := NSE) (names := nseN) (ik := 283) (ic := 285) h hR hRt (by rw [hl]; exact hst) hex nse_f nse_n nse_k nse_i hX4 nse_hat nse_g dX7_led_63 dX7_led_66 dX7_led_67 dX7_led_70 (Nat.le_of_ble_eq_true rfl) (Nat.le_of_ble_eq_true rfl) (Nat.le_of_ble_eq_true rfl) (Nat.le_of_ble_eq_true rfl) (Nat.le_of_ble_eq_true rfl) (Nat.le_of_ble_eq_true rfl) ⟨e9, rfl, rfl⟩
        · first | have d_12 := bz_0.mp c_12 | have d_12 := bz_1.mp c_12 | skip
          refine jr_aload_n (pc := 15) h dX7_led_15 rfl ?_
          refine gf_X7_29 (pc := 16) h dX7_led_16 (by assumption) (by omega) ?_
          refine jr_iload_n (pc := 19) h dX7_led_19 rfl ?_
          refine iv_X7_153 (pc := 20) h hl hR dX7_led_20 ⟨(Nat.le_of_ble_eq_true rfl), (Nat.le_of_ble_eq_true rfl), (Nat.le_of_ble_eq_true rfl), (Nat.le_of_ble_eq_true rfl)⟩ (Nat.le_of_ble_eq_true rfl) (by assumption) (by omega) (s_X3_isServed hRn h45.1 h45.2 (by omega)) (fun v_20 n_20 M_20 hn_20 hp => ?_)
          obtain ⟨⟨rfl, rfl, rfl⟩, gr_20⟩ := hp
          refine jr_if_eq (pc := 23) h 57 dX7_led_23 (by decide) (by omega) (fun c_23 => ?_) (fun c_23 => ?_)
          · first | have d_23 := bz_0.mp c_23 | have d_23 := bz_1.mp c_23 | skip
            refine jr_iinc (pc := 57) h [_, _, _, _] dX7_led_57 (by decide) rfl rfl ?_
            refine jr_goto (pc := 60) h 4 dX7_led_60 (by decide) ?_
            first
            | (by_cases qw : jj + -1 < -2147483648
               · rw [show jI (jj + -1) = jI (jj + -1 + 4294967296) from ji_w]
                 refine ih2 _ _ (k + 1) (by omega) ?_ (by omega)
                 rw [hl9, show (c_rows ct td + 1 - r).toNat = (c_rows ct td + 1 - (r + 1)).toNat + 1 by omega, ledN, if_neg (by omega), if_neg (by omega)]
               · refine ih2 _ _ (k + 1) (by omega) ?_ (by omega)
                 rw [hl9, show (c_rows ct td + 1 - r).toNat = (c_rows ct td + 1 - (r + 1)).toNat + 1 by omega, ledN, if_neg (by omega), if_neg (by omega)])
            | (refine ih2 _ _ k (by omega) ?_ (by omega)
               rw [hl9, show (c_rows ct td + 1 - r).toNat = (c_rows ct td + 1 - (r + 1)).toNat + 1 by omega, ledN]
               first
               | (rw [if_pos (by omega)])
               | (have hz := hRI.2.2.2.2.1 r.toNat (by show g3 4 ≤ _; omega) (by show _ ≤ g3 5; omega)
                  have z3 : c_fact fa r 3 = 0 := by
                    unfold c_fact
                    rw [if_pos (by omega), show (r * 11 + 3).toNat = 11 * r.toNat + 3 by omega]
                    exact hz 3 (by omega)
                  have z4 : c_fact fa r 4 = 0 := by
                    unfold c_fact
                    rw [if_pos (by omega), show (r * 11 + 4).toNat = 11 * r.toNat + 4 by omega]
                    exact hz 4 (by omega)
                  rw [if_pos (by omega)]))
          · first | have d_23 := bz_0.mp c_23 | have d_23 := bz_1.mp c_23 | skip
            refine jr_aload_n (pc := 26) h dX7_led_26 rfl ?_
            refine gf_X7_29 (pc := 27) h dX7_led_27 (by assumption) (by omega) ?_
            refine jr_iload_n (pc := 30) h dX7_led_30 rfl ?_
            refine jr_iconst (pc := 31) h dX7_led_31 ?_
            refine iv_X7_156 (pc := 32) h hl hR dX7_led_32 ⟨(Nat.le_of_ble_eq_true rfl), (Nat.le_of_ble_eq_true rfl), (Nat.le_of_ble_eq_true rfl), (Nat.le_of_ble_eq_true rfl)⟩ (Nat.le_of_ble_eq_true rfl) (by assumption) (by omega) (s_X3_fact hRn (by omega) (by omega)) (fun v_32 n_32 M_32 hn_32 hp => ?_)
            obtain ⟨rfl, rfl, rfl⟩ := hp
            refine jr_aload_n (pc := 35) h dX7_led_35 rfl ?_
            refine gf_X7_29 (pc := 36) h dX7_led_36 (by assumption) (by omega) ?_
            refine jr_iload_n (pc := 39) h dX7_led_39 rfl ?_
            refine jr_iconst (pc := 40) h dX7_led_40 ?_
            refine iv_X7_156 (pc := 41) h hl hR dX7_led_41 ⟨(Nat.le_of_ble_eq_true rfl), (Nat.le_of_ble_eq_true rfl), (Nat.le_of_ble_eq_true rfl), (Nat.le_of_ble_eq_true rfl)⟩ (Nat.le_of_ble_eq_true rfl) (by assumption) (by omega) (s_X3_fact hRn (by omega) (by omega)) (fun v_41 n_41 M_41 hn_41 hp => ?_)
            obtain ⟨rfl, rfl, rfl⟩ := hp
            have f3 := cf_b (x := r) (y := 3) hRI (by omega)
            have f4 := cf_b (x := r) (y := 4) hRI (by omega)
            replace f3 : 0 ≤ c_fact fa r 3 ∧ c_fact fa r 3 ≤ 21 := f3
            replace f4 : 0 ≤ c_fact fa r 4 ∧ c_fact fa r 4 ≤ 21 := f4
            refine jr_iadd (pc := 44) h dX7_led_44 ?_
            refine jr_if_le (pc := 45) h 57 dX7_led_45 (by decide) (by omega) (fun c_45 => ?_) (fun c_45 => ?_)
            · first | have d_45 := bz_0.mp c_45 | have d_45 := bz_1.mp c_45 | skip
              refine jr_iinc (pc := 57) h [_, _, _, _] dX7_led_57 (by decide) rfl rfl ?_
              refine jr_goto (pc := 60) h 4 dX7_led_60 (by decide) ?_
              first
              | (by_cases qw : jj + -1 < -2147483648
                 · rw [show jI (jj + -1) = jI (jj + -1 + 4294967296) from ji_w]
                   refine ih2 _ _ (k + 1) (by omega) ?_ (by omega)
                   rw [hl9, show (c_rows ct td + 1 - r).toNat = (c_rows ct td + 1 - (r + 1)).toNat + 1 by omega, ledN, if_neg (by omega), if_neg (by omega)]
                 · refine ih2 _ _ (k + 1) (by omega) ?_ (by omega)
                   rw [hl9, show (c_rows ct td + 1 - r).toNat = (c_rows ct td + 1 - (r + 1)).toNat + 1 by omega, ledN, if_neg (by omega), if_neg (by omega)])
              | (refine ih2 _ _ k (by omega) ?_ (by omega)
                 rw [hl9, show (c_rows ct td + 1 - r).toNat = (c_rows ct td + 1 - (r + 1)).toNat + 1 by omega, ledN]
                 first
                 | (rw [if_pos (by omega)])
                 | (have hz := hRI.2.2.2.2.1 r.toNat (by show g3 4 ≤ _; omega) (by show _ ≤ g3 5; omega)
                    have z3 : c_fact fa r 3 = 0 := by
                      unfold c_fact
                      rw [if_pos (by omega), show (r * 11 + 3).toNat = 11 * r.toNat + 3 by omega]
                      exact hz 3 (by omega)
                    have z4 : c_fact fa r 4 = 0 := by
                      unfold c_fact
                      rw [if_pos (by omega), show (r * 11 + 4).toNat = 11 * r.toNat + 4 by omega]
                      exact hz 4 (by omega)
                    rw [if_pos (by omega)]))
            · first | have d_45 := bz_0.mp c_45 | have d_45 := bz_1.mp c_45 | skip
              refine jr_iload_n (pc := 48) h dX7_led_48 rfl ?_
              refine jr_if_ne (pc := 49) h 54 dX7_led_49 (by decide) (by omega) (fun c_49 => ?_) (fun c_49 => ?_)
              · first | have d_49 := bz_0.mp c_49 | have d_49 := bz_1.mp c_49 | skip
                refine jr_iinc (pc := 54) h [_, _, _, _] dX7_led_54 (by decide) rfl rfl ?_
                refine jr_iinc (pc := 57) h [_, _, _, _] dX7_led_57 (by decide) rfl rfl ?_
                refine jr_goto (pc := 60) h 4 dX7_led_60 (by decide) ?_
                first
                | (by_cases qw : jj + -1 < -2147483648
                   · rw [show jI (jj + -1) = jI (jj + -1 + 4294967296) from ji_w]
                     refine ih2 _ _ (k + 1) (by omega) ?_ (by omega)
                     rw [hl9, show (c_rows ct td + 1 - r).toNat = (c_rows ct td + 1 - (r + 1)).toNat + 1 by omega, ledN, if_neg (by omega), if_neg (by omega)]
                   · refine ih2 _ _ (k + 1) (by omega) ?_ (by omega)
                     rw [hl9, show (c_rows ct td + 1 - r).toNat = (c_rows ct td + 1 - (r + 1)).toNat + 1 by omega, ledN, if_neg (by omega), if_neg (by omega)])
                | (refine ih2 _ _ k (by omega) ?_ (by omega)
                   rw [hl9, show (c_rows ct td + 1 - r).toNat = (c_rows ct td + 1 - (r + 1)).toNat + 1 by omega, ledN]
                   first
                   | (rw [if_pos (by omega)])
                   | (have hz := hRI.2.2.2.2.1 r.toNat (by show g3 4 ≤ _; omega) (by show _ ≤ g3 5; omega)
                      have z3 : c_fact fa r 3 = 0 := by
                        unfold c_fact
                        rw [if_pos (by omega), show (r * 11 + 3).toNat = 11 * r.toNat + 3 by omega]
                        exact hz 3 (by omega)
                      have z4 : c_fact fa r 4 = 0 := by
                        unfold c_fact
                        rw [if_pos (by omega), show (r * 11 + 4).toNat = 11 * r.toNat + 4 by omega]
                        exact hz 4 (by omega)
                      rw [if_pos (by omega)]))
              · first | have d_49 := bz_0.mp c_49 | have d_49 := bz_1.mp c_49 | skip
                refine jr_iload_n (pc := 52) h dX7_led_52 rfl ?_
                exfalso
                omega
    exact loop2 _ x 1 0 (by omega) (by unfold x_led; rw [show c_rows ct td + 1 - 1 = c_rows ct td by omega]) (Nat.lt_succ_self _)
  have loop : ∀ (dq : Nat) (jj r : Int), ((1 ≤ r ∧ r ≤ c_rows ct td + 1) ∧ (jj ≤ x ∧ x - r + 1 ≤ jj) ∧ 0 ≤ x) → (x_led ct td fa x = ledN fa x r (x - jj) (c_rows ct td + 1 - r).toNat) → (50 - r).toNat < dq → J κ 4 0 0 n 4 [some (.ref a), some (jI x), some (jI jj), some (jI r)] [] M := by
    intro dq
    induction dq with
    | zero => intro jj r hr hl9 hd; omega
    | succ dq ih =>
      intro jj r hr hl9 hd
      refine jr_iload_n (pc := 4) h dX7_led_4 rfl ?_
      refine jr_aload_n (pc := 5) h dX7_led_5 rfl ?_
      refine gf_X7_19 (pc := 6) h dX7_led_6 (by assumption) (by omega) ?_
      refine iv_X7_110 (pc := 9) h hl hR dX7_led_9 ⟨(Nat.le_of_ble_eq_true rfl), (Nat.le_of_ble_eq_true rfl), (Nat.le_of_ble_eq_true rfl), (Nat.le_of_ble_eq_true rfl)⟩ (Nat.le_of_ble_eq_true rfl) (by assumption) (by omega) (s_X1_rows hF) (fun v_9 n_9 M_9 hn_9 hp => ?_)
      obtain ⟨⟨rfl, rfl, rfl⟩, gr_9⟩ := hp
      skip
      refine jr_icmp_gt (pc := 12) h 63 dX7_led_12 (by decide) (by omega) (by omega) (fun c_12 => ?_) (fun c_12 => ?_)
      · first | have d_12 := bz_0.mp c_12 | have d_12 := bz_1.mp c_12 | skip
        have e9 : x_led ct td fa x = 0 := by
          rw [hl9, show (c_rows ct td + 1 - r).toNat = 0 by omega, ledN]
        exact jr_throwX (E0 := NSE) (names := nseN) (ik := 283) (ic := 285) h hR hRt (by rw [hl]; exact hst) hex nse_f nse_n nse_k nse_i hX4 nse_hat nse_g dX7_led_63 dX7_led_66 dX7_led_67 dX7_led_70 (Nat.le_of_ble_eq_true rfl) (Nat.le_of_ble_eq_true rfl) (Nat.le_of_ble_eq_true rfl) (Nat.le_of_ble_eq_true rfl) (Nat.le_of_ble_eq_true rfl) (Nat.le_of_ble_eq_true rfl) ⟨e9, rfl, rfl⟩
      · first | have d_12 := bz_0.mp c_12 | have d_12 := bz_1.mp c_12 | skip
        refine jr_aload_n (pc := 15) h dX7_led_15 rfl ?_
        refine gf_X7_29 (pc := 16) h dX7_led_16 (by assumption) (by omega) ?_
        refine jr_iload_n (pc := 19) h dX7_led_19 rfl ?_
        refine iv_X7_153 (pc := 20) h hl hR dX7_led_20 ⟨(Nat.le_of_ble_eq_true rfl), (Nat.le_of_ble_eq_true rfl), (Nat.le_of_ble_eq_true rfl), (Nat.le_of_ble_eq_true rfl)⟩ (Nat.le_of_ble_eq_true rfl) (by assumption) (by omega) (s_X3_isServed hRn h45.1 h45.2 (by omega)) (fun v_20 n_20 M_20 hn_20 hp => ?_)
        obtain ⟨⟨rfl, rfl, rfl⟩, gr_20⟩ := hp
        refine jr_if_eq (pc := 23) h 57 dX7_led_23 (by decide) (by omega) (fun c_23 => ?_) (fun c_23 => ?_)
        · first | have d_23 := bz_0.mp c_23 | have d_23 := bz_1.mp c_23 | skip
          refine jr_iinc (pc := 57) h [_, _, _, _] dX7_led_57 (by decide) rfl rfl ?_
          refine jr_goto (pc := 60) h 4 dX7_led_60 (by decide) ?_
          refine ih _ _ (by omega) ?_ (by omega)
          rw [hl9, show (c_rows ct td + 1 - r).toNat = (c_rows ct td + 1 - (r + 1)).toNat + 1 by omega, ledN]
          first
          | (rw [if_neg (by omega), if_neg (by omega), show x - jj + 1 = x - (jj + -1) by omega])
          | (rw [if_pos (by omega)])
          | (have hz := hRI.2.2.2.2.1 r.toNat (by show g3 4 ≤ _; omega) (by show _ ≤ g3 5; omega)
             have z3 : c_fact fa r 3 = 0 := by
               unfold c_fact
               rw [if_pos (by omega), show (r * 11 + 3).toNat = 11 * r.toNat + 3 by omega]
               exact hz 3 (by omega)
             have z4 : c_fact fa r 4 = 0 := by
               unfold c_fact
               rw [if_pos (by omega), show (r * 11 + 4).toNat = 11 * r.toNat + 4 by omega]
               exact hz 4 (by omega)
             rw [if_pos (by omega)])
        · first | have d_23 := bz_0.mp c_23 | have d_23 := bz_1.mp c_23 | skip
          refine jr_aload_n (pc := 26) h dX7_led_26 rfl ?_
          refine gf_X7_29 (pc := 27) h dX7_led_27 (by assumption) (by omega) ?_
          refine jr_iload_n (pc := 30) h dX7_led_30 rfl ?_
          refine jr_iconst (pc := 31) h dX7_led_31 ?_
          refine iv_X7_156 (pc := 32) h hl hR dX7_led_32 ⟨(Nat.le_of_ble_eq_true rfl), (Nat.le_of_ble_eq_true rfl), (Nat.le_of_ble_eq_true rfl), (Nat.le_of_ble_eq_true rfl)⟩ (Nat.le_of_ble_eq_true rfl) (by assumption) (by omega) (s_X3_fact hRn (by omega) (by omega)) (fun v_32 n_32 M_32 hn_32 hp => ?_)
          obtain ⟨rfl, rfl, rfl⟩ := hp
          refine jr_aload_n (pc := 35) h dX7_led_35 rfl ?_
          refine gf_X7_29 (pc := 36) h dX7_led_36 (by assumption) (by omega) ?_
          refine jr_iload_n (pc := 39) h dX7_led_39 rfl ?_
          refine jr_iconst (pc := 40) h dX7_led_40 ?_
          refine iv_X7_156 (pc := 41) h hl hR dX7_led_41 ⟨(Nat.le_of_ble_eq_true rfl), (Nat.le_of_ble_eq_true rfl), (Nat.le_of_ble_eq_true rfl), (Nat.le_of_ble_eq_true rfl)⟩ (Nat.le_of_ble_eq_true rfl) (by assumption) (by omega) (s_X3_fact hRn (by omega) (by omega)) (fun v_41 n_41 M_41 hn_41 hp => ?_)
          obtain ⟨rfl, rfl, rfl⟩ := hp
          have f3 := cf_b (x := r) (y := 3) hRI (by omega)
          have f4 := cf_b (x := r) (y := 4) hRI (by omega)
          replace f3 : 0 ≤ c_fact fa r 3 ∧ c_fact fa r 3 ≤ 21 := f3
          replace f4 : 0 ≤ c_fact fa r 4 ∧ c_fact fa r 4 ≤ 21 := f4
          refine jr_iadd (pc := 44) h dX7_led_44 ?_
          refine jr_if_le (pc := 45) h 57 dX7_led_45 (by decide) (by omega) (fun c_45 => ?_) (fun c_45 => ?_)
          · first | have d_45 := bz_0.mp c_45 | have d_45 := bz_1.mp c_45 | skip
            refine jr_iinc (pc := 57) h [_, _, _, _] dX7_led_57 (by decide) rfl rfl ?_
            refine jr_goto (pc := 60) h 4 dX7_led_60 (by decide) ?_
            refine ih _ _ (by omega) ?_ (by omega)
            rw [hl9, show (c_rows ct td + 1 - r).toNat = (c_rows ct td + 1 - (r + 1)).toNat + 1 by omega, ledN]
            first
            | (rw [if_neg (by omega), if_neg (by omega), show x - jj + 1 = x - (jj + -1) by omega])
            | (rw [if_pos (by omega)])
            | (have hz := hRI.2.2.2.2.1 r.toNat (by show g3 4 ≤ _; omega) (by show _ ≤ g3 5; omega)
               have z3 : c_fact fa r 3 = 0 := by
                 unfold c_fact
                 rw [if_pos (by omega), show (r * 11 + 3).toNat = 11 * r.toNat + 3 by omega]
                 exact hz 3 (by omega)
               have z4 : c_fact fa r 4 = 0 := by
                 unfold c_fact
                 rw [if_pos (by omega), show (r * 11 + 4).toNat = 11 * r.toNat + 4 by omega]
                 exact hz 4 (by omega)
               rw [if_pos (by omega)])
          · first | have d_45 := bz_0.mp c_45 | have d_45 := bz_1.mp c_45 | skip
            refine jr_iload_n (pc := 48) h dX7_led_48 rfl ?_
            refine jr_if_ne (pc := 49) h 54 dX7_led_49 (by decide) (by omega) (fun c_49 => ?_) (fun c_49 => ?_)
            · first | have d_49 := bz_0.mp c_49 | have d_49 := bz_1.mp c_49 | skip
              refine jr_iinc (pc := 54) h [_, _, _, _] dX7_led_54 (by decide) rfl rfl ?_
              refine jr_iinc (pc := 57) h [_, _, _, _] dX7_led_57 (by decide) rfl rfl ?_
              refine jr_goto (pc := 60) h 4 dX7_led_60 (by decide) ?_
              refine ih _ _ (by omega) ?_ (by omega)
              rw [hl9, show (c_rows ct td + 1 - r).toNat = (c_rows ct td + 1 - (r + 1)).toNat + 1 by omega, ledN]
              first
              | (rw [if_neg (by omega), if_neg (by omega), show x - jj + 1 = x - (jj + -1) by omega])
              | (rw [if_pos (by omega)])
              | (have hz := hRI.2.2.2.2.1 r.toNat (by show g3 4 ≤ _; omega) (by show _ ≤ g3 5; omega)
                 have z3 : c_fact fa r 3 = 0 := by
                   unfold c_fact
                   rw [if_pos (by omega), show (r * 11 + 3).toNat = 11 * r.toNat + 3 by omega]
                   exact hz 3 (by omega)
                 have z4 : c_fact fa r 4 = 0 := by
                   unfold c_fact
                   rw [if_pos (by omega), show (r * 11 + 4).toNat = 11 * r.toNat + 4 by omega]
                   exact hz 4 (by omega)
                 rw [if_pos (by omega)])
            · first | have d_49 := bz_0.mp c_49 | have d_49 := bz_1.mp c_49 | skip
              refine jr_iload_n (pc := 52) h dX7_led_52 rfl ?_
              refine jr_iretX (pc := 53) h hRt dX7_led_53 rfl (Nat.le_of_ble_eq_true rfl) (Nat.le_of_ble_eq_true rfl) ?_
              have e9 : x_led ct td fa x = r := by
                rw [hl9, show (c_rows ct td + 1 - r).toNat = (c_rows ct td + 1 - (r + 1)).toNat + 1 by omega, ledN, if_neg (by omega), if_pos (by omega)]
              rw [e9]
              exact ⟨by omega, rfl, rfl, rfl⟩
  exact loop _ x 1 (by omega) (by unfold x_led; rw [show c_rows ct td + 1 - 1 = c_rows ct td by omega, Int.sub_self]) (Nat.lt_succ_self _)
