/-! 98.s: a flight is told; who is led to -/
theorem wm_1517 : (.methodLink RL 200 yL_led : Cond) ∈ wsL_law := sr_64 _ (List.mem_of_getElem? (i := 5) rfl)
theorem wm_1518 : (.static yL_led : Cond) ∈ wsL_law := sr_64 _ (List.mem_of_getElem? (i := 6) rfl)
theorem wm_1519 : (.initialized RL : Cond) ∈ wsL_law := sr_64 _ (List.mem_of_getElem? (i := 7) rfl)
theorem wm_1520 : (.codeWith yL_led cL_led 4 (some .int) [(0, 9, 12, 13)] : Cond) ∈ wsL_law := sr_64 _ (List.mem_of_getElem? (i := 8) rfl)
theorem bR_c {a b : Nat → Int} {z : Int} {j : Nat} (h : ∀ k, k < 8 → a k = b k) : bR a z j = bR b z j := by
  unfold bR
  split
  · rfl
  · split
    · exact h _ (by omega)
    · rfl
theorem lw_drop {κ : jC} {cc : ByteArray} {c sl n pc : Nat} {st : List Value} {M : jdM} {a b x : Option Value} {v0 v1 v2 v3 : Option Value} (h : Ok κ RL cc 7 (some .boolean)) (k : J κ 7 c sl n pc [v0, v1, v2, v3, x, none, none] st M) : J κ 7 c sl n pc [v0, v1, v2, v3, x, a, b] st M :=
  jr_drop h (fun j v hj => by
    match j, hj with
    | 0, hj => exact hj
    | 1, hj => exact hj
    | 2, hj => exact hj
    | 3, hj => exact hj
    | 4, hj => exact hj
    | 5, hj => exact absurd hj (by simp)
    | 6, hj => exact absurd hj (by simp)
    | j + 7, hj => exact absurd hj (by simp)) k
set_option maxHeartbeats 1000000 in
set_option maxRecDepth 20000 in
theorem lc_1 {κ : jC} {l : Launch} (h : Ok κ RL cL_law 7 (some .boolean)) (hl : κ.2.1 = l) (hR : Rm κ 16 600 601024 7293034) {L : Nat} {X : Nat → Int} (hsc : Sc κ L X) {i : Int} (hi : 0 ≤ i ∧ i + 6 ≤ L ∧ L ≤ 3072) {c sl n : Nat} {M : jdM} (hc : c ≤ 600000) (hsl : sl ≤ 7200000) (hn : n ≤ 700000) (hB : BN n M) (kk : KK κ c sl n i) : J κ 7 c sl n 313 [some (.ref 1000999), some (.ref 0), some (.ref 63), some (.ref 76), some (jI i), none, none] [] M := by
  unfold KK at kk
  obtain ⟨cu, dr, g, bs, p, ct, td, bk, si, ld, D, g3, sp, sk, fa, go, mk, tg, tk, tr, g', w, fl, rd, B, fo, ⟨h77, hS, hX, hF, hfl, ho⟩, hI⟩ := hB
  obtain ⟨⟨a1, a2, a3, a4, a5, a6, a7, a8, a9, a10, a11⟩, ⟨b1, b2⟩, ⟨c1, c2, c3⟩, ⟨d1, d2, d3⟩, e9, ⟨r1, r2, r3⟩, ⟨k1, k2⟩, l9, ⟨qK, qr, q2, qfl, qdr, qW, qpr, q5⟩⟩ := id hI
  subst d1
  subst d2
  have hx9 := Sc_r hsc (i + 1).toNat
  refine jr_aload_n (pc := 313) h dL_law_313 rfl ?_
  refine jr_aload_n (pc := 314) h dL_law_314 rfl ?_
  refine jr_iload (pc := 315) h dL_law_315 rfl ?_
  refine jr_iconst (pc := 317) h dL_law_317 ?_
  refine jr_iadd (pc := 318) h dL_law_318 ?_
  refine jr_sld (pc := 319) h hsc dL_law_319 (by omega) ?_
  by_cases q : 0 ≤ (X (i + 1).toNat) ∧ (X (i + 1).toNat) ≤ g 1
  · obtain ⟨ct2, td2, bk2, si2, ld2⟩ := D
    obtain ⟨-, -, -, -, -, -, -, -, htd, -, -, -, -⟩ := hS.2.2.2.2.2.1
    have hPO := hS.2.2.2.1.2.2.2.1
    refine iv_L_24 (pc := 320) h hl hR dL_law_320 ⟨(Nat.le_of_ble_eq_true rfl), (Nat.le_of_ble_eq_true rfl), (Nat.le_trans (Nat.add_le_add_right hc _) (Nat.le_of_ble_eq_true rfl)), (Nat.le_trans (Nat.add_le_add_right hsl _) (Nat.le_of_ble_eq_true rfl))⟩ (Nat.le_of_ble_eq_true rfl) hS.2.2.1 (by omega) (s_X7_flight hS a1 q b2 c2 c3) (fun v_320 n_320 M_320 hn_320 hp => ?_)
    obtain ⟨rfl, f1, bk9, si9, ld9, hHS, hNO, hp⟩ := hp
    obtain ⟨hX1, hF1, ho1⟩ := LSt_7 f1 hX hF hfl ho
    have hfn : ∀ f : Nat, fl = .ref f → f + 31 ≤ n := by
      intro f e
      rcases hF with ⟨e2, -⟩ | ⟨f', gf, A, e2, -, hMF, -⟩
      · rw [e] at e2
        cases e2
      · rw [e] at e2
        cases e2
        exact hMF.1
    rcases hp with ⟨hz, rfl, hS1⟩ | ⟨hz, rfl, ⟨e1, e2, e3⟩, hS1⟩
    · skip
      refine jr_aload_n (pc := 323) h dL_law_323 rfl ?_
      refine jr_aload_n (pc := 324) h dL_law_324 rfl ?_
      refine jr_iload (pc := 325) h dL_law_325 rfl ?_
      refine jr_iconst (pc := 327) h dL_law_327 ?_
      refine jr_iadd (pc := 328) h dL_law_328 ?_
      refine jr_sld (pc := 329) h hsc dL_law_329 (by omega) ?_
      refine iv_L_27 (pc := 330) h hl hR dL_law_330 ⟨(Nat.le_of_ble_eq_true rfl), (Nat.le_of_ble_eq_true rfl), (Nat.le_trans (Nat.add_le_add_right (Nat.add_le_add_right hc _) _) (Nat.le_of_ble_eq_true rfl)), (Nat.le_trans (Nat.add_le_add_right (Nat.add_le_add_right hsl _) _) (Nat.le_of_ble_eq_true rfl))⟩ (Nat.le_of_ble_eq_true rfl) hX1.2.1 (by omega) (s_X9_flight (ct2 := ct2) (td2 := td2) hX1 hx9 (by rw [a6]; exact a1) (by rw [a6]; exact q) b1 (fun j => by have := b2 j; omega) hPO htd a10 a11 (by omega)) (fun v_330 n_330 M_330 hn_330 hp => ?_)
      obtain ⟨hn9, f2, g2, w2, h12, ⟨-, h6, h13, h26⟩, -, hp9⟩ := hp
      subst hn9
      have ho2 : M_330 76 = jdL 1 fo := by
        rw [f2 76 (fun z => z.elim (fun z => by have := z.2; omega) (fun z => by omega))]
        exact ho1
      rcases hp9 with ⟨hz2, rfl, hX2, h1, h2, h19⟩ | ⟨hz2, -⟩
      · have hS2 := SXc_fr (n1 := n + 31) hS1 f2 (by omega) (fun k a b z => z.elim (fun z => by have := z.1; omega) (fun z => by omega))
        have hF2 := FX_frS (n1 := n + 31) hF1 f2 (by omega) (fun f e k a b z => z.elim (fun z => by have := hfl f e; have := z.2; omega) (fun z => by have := hfn f e; omega))
        refine jr_same2 (pc := 333) h 1583 dL_law_333 (by decide) ?_
        exact kk _ _ _ _ (by
          have q9 : rX7_flight.cells + rX9_flight.cells ≤ 31 := (Nat.le_of_ble_eq_true rfl)
          omega) (by
          have q9 : rX7_flight.slots + rX9_flight.slots ≤ 250 := (Nat.le_of_ble_eq_true rfl)
          omega) (Nat.le_add_right _ _) (Nat.le_refl _) ⟨cu, dr, _, _, _, ct, td, bk, si, ld, _, g3, sp, sk, fa, go, _, _, _, _, _, _, fl, _, _, _, ⟨Nat.le_trans h77 (Nat.le_add_right _ _), hS2, hX2, hF2, hfl, ho2⟩, IV_fl4 hI hHS hNO h12 h6 h13 h26 h1 h2 h19⟩
      · exact absurd hz2 hz
    · skip
      refine jr_aload_n (pc := 323) h dL_law_323 rfl ?_
      refine jr_aload_n (pc := 324) h dL_law_324 rfl ?_
      refine jr_iload (pc := 325) h dL_law_325 rfl ?_
      refine jr_iconst (pc := 327) h dL_law_327 ?_
      refine jr_iadd (pc := 328) h dL_law_328 ?_
      refine jr_sld (pc := 329) h hsc dL_law_329 (by omega) ?_
      refine iv_L_27 (pc := 330) h hl hR dL_law_330 ⟨(Nat.le_of_ble_eq_true rfl), (Nat.le_of_ble_eq_true rfl), (Nat.le_trans (Nat.add_le_add_right (Nat.add_le_add_right hc _) _) (Nat.le_of_ble_eq_true rfl)), (Nat.le_trans (Nat.add_le_add_right (Nat.add_le_add_right hsl _) _) (Nat.le_of_ble_eq_true rfl))⟩ (Nat.le_of_ble_eq_true rfl) hX1.2.1 (by omega) (s_X9_flight (ct2 := ct2) (td2 := td2) hX1 hx9 (by rw [a6]; exact a1) (by rw [a6]; exact q) b1 (fun j => by have := b2 j; omega) hPO htd a10 a11 (by omega)) (fun v_330 n_330 M_330 hn_330 hp => ?_)
      obtain ⟨hn9, f2, g2, w2, h12, ⟨-, h6, h13, h26⟩, -, hp9⟩ := hp
      subst hn9
      have ho2 : M_330 76 = jdL 1 fo := by
        rw [f2 76 (fun z => z.elim (fun z => by have := z.2; omega) (fun z => by omega))]
        exact ho1
      rcases hp9 with ⟨hz2, -⟩ | ⟨hz2, rfl, ⟨b3, gF, A, hX2, hMF, hFM, hb3⟩, h1, h2, h19⟩
      · exact absurd hz hz2
      · have hS2 := SXc_fr (n1 := n + 31) hS1 f2 (by omega) (fun k a b z => z.elim (fun z => by have := z.1; omega) (fun z => by omega))
        obtain ⟨-, -, -, -, -, -, -, -, -, -, -, -, rE⟩ := hS1.2.2.2.2.1
        have hFM9 : FM (rdB bs (X (i + 1).toNat) p ct2 td2).2.1 (rdB bs (X (i + 1).toNat) p ct2 td2).2.2 bk9 si9 ld9 gF A := by
          rw [e1, e2, e3]
          exact hFM bk2 si2 ld2
        have hb9 : ∀ j : Nat, j < 431 → b3 j = bR ld9 0 j := fun j hj => by
          rw [hb3 j hj, e3]
          refine bR_c (fun k hk => ?_)
          unfold c_ldp
          rw [if_pos hk, if_pos hk]
        have hF2 : FX M_330 (n + 31) 63 (.ref n) (rdB bs (X (i + 1).toNat) p ct2 td2).2.1 (rdB bs (X (i + 1).toNat) p ct2 td2).2.2 bk9 si9 ld9 := Or.inr ⟨n, gF, A, rfl, Or.inr (by omega), hMF, hFM9⟩
        have hI2 := IV_fl0 hI hHS hNO hFM9 rE hb9 h12 h6 h13 h26 h1 h2 h19
        obtain ⟨g9, sp9, sk9, fa9, go9, eR⟩ : ∃ a b c d e, rsR (rdB bs (X (i + 1).toNat) p ct2 td2).2.1 (rdB bs (X (i + 1).toNat) p ct2 td2).2.2 ld9 0 (g3, sp, sk, fa, go) = (a, b, c, d, e) := ⟨_, _, _, _, _, rfl⟩
        rw [eR] at hS2 hI2
        refine jr_same2 (pc := 333) h 1583 dL_law_333 (by decide) ?_
        exact kk _ _ _ _ (by
          have q9 : rX7_flight.cells + rX9_flight.cells ≤ 31 := (Nat.le_of_ble_eq_true rfl)
          omega) (by
          have q9 : rX7_flight.slots + rX9_flight.slots ≤ 250 := (Nat.le_of_ble_eq_true rfl)
          omega) (Nat.le_add_right _ _) (Nat.le_refl _) ⟨dr, cu, _, _, _, _, _, bk9, si9, ld9, _, g9, sp9, sk9, fa9, go9, _, _, _, _, _, _, .ref n, .ref n, _, _, ⟨Nat.le_trans h77 (Nat.le_add_right _ _), hS2, hX2, hF2, fun f e => (by cases e; exact h77), ho2⟩, hI2⟩
  · have qn : (X (i + 1).toNat) < 0 ∨ g 1 < (X (i + 1).toNat) := by omega
    refine iv_L_24 (pc := 320) h hl hR dL_law_320 ⟨(Nat.le_of_ble_eq_true rfl), (Nat.le_of_ble_eq_true rfl), (Nat.le_trans (Nat.add_le_add_right hc _) (Nat.le_of_ble_eq_true rfl)), (Nat.le_trans (Nat.add_le_add_right hsl _) (Nat.le_of_ble_eq_true rfl))⟩ (Nat.le_of_ble_eq_true rfl) hS.2.2.1 (by omega) (s_X7_flight_r hS hx9 a1 qn) (fun v_320 n_320 M_320 hn_320 hp => ?_)
    obtain ⟨⟨rfl, rfl⟩, hS1, f1⟩ := hp
    obtain ⟨hX1, hF1, ho1⟩ := LSt_7 f1 hX hF hfl ho
    refine jr_aload_n (pc := 323) h dL_law_323 rfl ?_
    refine jr_aload_n (pc := 324) h dL_law_324 rfl ?_
    refine jr_iload (pc := 325) h dL_law_325 rfl ?_
    refine jr_iconst (pc := 327) h dL_law_327 ?_
    refine jr_iadd (pc := 328) h dL_law_328 ?_
    refine jr_sld (pc := 329) h hsc dL_law_329 (by omega) ?_
    refine iv_L_27 (pc := 330) h hl hR dL_law_330 ⟨(Nat.le_of_ble_eq_true rfl), (Nat.le_of_ble_eq_true rfl), (Nat.le_trans (Nat.add_le_add_right (Nat.add_le_add_right hc _) _) (Nat.le_of_ble_eq_true rfl)), (Nat.le_trans (Nat.add_le_add_right (Nat.add_le_add_right hsl _) _) (Nat.le_of_ble_eq_true rfl))⟩ (Nat.le_of_ble_eq_true rfl) hX1.2.1 (by omega) (s_X9_flight_r hX1 hx9 (by rw [a6]; exact a1) (by rw [a6]; exact qn)) (fun v_330 n_330 M_330 hn_330 hp => ?_)
    obtain ⟨⟨rfl, rfl⟩, hX2, f2⟩ := hp
    obtain ⟨hS2, hF2, ho2⟩ := LSt_9 f2 hS1 hF1 hfl ho1
    refine jr_same2 (pc := 333) h 1583 dL_law_333 (by decide) ?_
    exact kk _ _ _ _ (by
      have q9 : rX7_flight.cells + rX9_flight.cells ≤ 31 := (Nat.le_of_ble_eq_true rfl)
      omega) (by
      have q9 : rX7_flight.slots + rX9_flight.slots ≤ 250 := (Nat.le_of_ble_eq_true rfl)
      omega) (Nat.le_refl _) (Nat.le_add_right _ _) ⟨cu, dr, _, _, _, ct, td, bk, si, ld, _, g3, sp, sk, fa, go, _, _, _, _, _, _, fl, rd, _, _, ⟨h77, hS2, hX2, hF2, hfl, ho2⟩, IV_q hI t4_2⟩
set_option maxHeartbeats 1000000 in
set_option maxRecDepth 20000 in
theorem lc_43 {κ : jC} {l : Launch} (h : Ok κ RL cL_law 7 (some .boolean)) (hst : l.stackTraces = false) (hX4 : ∀ w ∈ nseX, w.before κ.2.2.2.2.2.2.1 κ.2.2.2.2.1 = true) (hl : κ.2.1 = l) (hR : Rm κ 16 600 601024 7293034) {L : Nat} {X : Nat → Int} (hsc : Sc κ L X) {i : Int} (hi : 0 ≤ i ∧ i + 6 ≤ L ∧ L ≤ 3072) {c sl n : Nat} {M : jdM} (hc : c ≤ 600000) (hsl : sl ≤ 7200000) (hn : n ≤ 700000) (hB : BN n M) (kk : KK κ c sl n i) : J κ 7 c sl n 1489 [some (.ref 1000999), some (.ref 0), some (.ref 63), some (.ref 76), some (jI i), none, none] [] M := by
  unfold KK at kk
  obtain ⟨cu, dr, g, bs, p, ct, td, bk, si, ld, D, g3, sp, sk, fa, go, mk, tg, tk, tr, g', w, fl, rd, B, fo, ⟨h77, hS, hX, hF, hfl, ho⟩, hI⟩ := hB
  obtain ⟨⟨a1, a2, a3, a4, a5, a6, a7, a8, a9, a10, a11⟩, ⟨b1, b2⟩, ⟨c1, c2, c3⟩, ⟨d1, d2, d3⟩, e9, ⟨r1, r2, r3⟩, ⟨k1, k2⟩, l9, ⟨qK, qr, q2, qfl, qdr, qW, qpr, q5⟩⟩ := id hI
  subst d1
  subst d2
  replace qr : 0 ≤ c_rows ct td ∧ c_rows ct td ≤ 40 := qr
  have hb9 := x_led_b (fa := fa) (x := (X (i + 1).toNat)) (ct := ct) (td := td) (by omega)
  refine jr_aload_n (pc := 1489) h dL_law_1489 rfl ?_
  refine jr_aload_n (pc := 1490) h dL_law_1490 rfl ?_
  refine jr_iload (pc := 1491) h dL_law_1491 rfl ?_
  refine jr_iconst (pc := 1493) h dL_law_1493 ?_
  refine jr_iadd (pc := 1494) h dL_law_1494 ?_
  refine jr_sld (pc := 1495) h hsc dL_law_1495 (by omega) ?_
  refine jr_aload_n (pc := 1496) h dL_law_1496 rfl ?_
  refine jr_invSH (pc := 1497) h hl hR (vs := [.ref 0, jI (X (i + 1).toNat), .ref 76]) (rest := []) wm_1517 wm_1518 wm_1519 wm_1520 ⟨by decide, by decide, by show (parseMethodDescriptor yL_led.desc).map (fun d => d.parameters.length) = some 3; decide +kernel⟩ dL_law_1497 ⟨(Nat.le_of_ble_eq_true rfl), (Nat.le_of_ble_eq_true rfl), (Nat.le_trans (Nat.add_le_add_right hc _) (Nat.le_of_ble_eq_true rfl)), (Nat.le_trans (Nat.add_le_add_right hsl _) (Nat.le_of_ble_eq_true rfl))⟩ (Nat.le_of_ble_eq_true rfl) rfl hX4 (s_L_led hst hS (Sc_r hsc _) (IV_h45 hI) r2 (by omega) ho (by omega)) (fun v_1497 n_1497 M_1497 hn_1497 hp => ?_)
  obtain ⟨rfl, hp⟩ := hp
  rcases hp with ⟨hne, rfl, hM1⟩ | ⟨he, rfl, hM1⟩
  · have f0 : fr (fun k => k = 76) M M_1497 := fr_up hM1 rfl
    have hS1 := SXc_fr hS f0 (Nat.le_refl n) (fun k a b z => by omega)
    have hX1 := MX_fr hX f0 (Nat.le_refl n) (fun k a b z => by omega)
    have hF1 := FX_frS hF f0 (Nat.le_refl n) (fun f e k a b z => by have := hfl f e; omega)
    have ho1 : M_1497 76 = jdL 1 (up fo 0 (x_led ct td fa (X (i + 1).toNat))) := by rw [hM1, up_eq]
    refine jr_istore (pc := 1500) h [some (.ref 1000999), some (.ref 0), some (.ref 63), some (.ref 76), some (jI i), some (jI 0), none] dL_law_1500 (by decide) rfl ?_
    refine jr_aload_n (pc := 1502) h dL_law_1502 rfl ?_
    refine jr_aload_n (pc := 1503) h dL_law_1503 rfl ?_
    refine jr_iload (pc := 1504) h dL_law_1504 rfl ?_
    refine jr_iconst (pc := 1506) h dL_law_1506 ?_
    refine jr_iadd (pc := 1507) h dL_law_1507 ?_
    refine jr_sld (pc := 1508) h hsc dL_law_1508 (by omega) ?_
    refine iv_L_205 (pc := 1509) h hl hR dL_law_1509 ⟨(Nat.le_of_ble_eq_true rfl), (Nat.le_of_ble_eq_true rfl), (Nat.le_trans (Nat.add_le_add_right (Nat.add_le_add_right hc _) _) (Nat.le_of_ble_eq_true rfl)), (Nat.le_trans (Nat.add_le_add_right (Nat.add_le_add_right hsl _) _) (Nat.le_of_ble_eq_true rfl))⟩ (Nat.le_of_ble_eq_true rfl) hX1.2.1 (by omega) (s_X9_led hX1 hF1 (Sc_r hsc _) r1 r2 r3) (fun v_1509 n_1509 M_1509 hn_1509 hp => ?_)
    obtain ⟨⟨rfl, rfl⟩, hX2, f2⟩ := hp
    obtain ⟨hS2, hF2, ho2⟩ := LSt_9 f2 hS1 hF1 hfl ho1
    refine jr_istore (pc := 1512) h [some (.ref 1000999), some (.ref 0), some (.ref 63), some (.ref 76), some (jI i), some (jI 0), some (jI (x_led ct td fa (X (i + 1).toNat)))] dL_law_1512 (by decide) rfl ?_
    refine jr_aload_n (pc := 1514) h dL_law_1514 rfl ?_
    refine iv_L_206 (pc := 1515) h hl hR dL_law_1515 ⟨(Nat.le_of_ble_eq_true rfl), (Nat.le_of_ble_eq_true rfl), (Nat.le_trans (Nat.add_le_add_right (Nat.add_le_add_right (Nat.add_le_add_right hc _) _) _) (Nat.le_of_ble_eq_true rfl)), (Nat.le_trans (Nat.add_le_add_right (Nat.add_le_add_right (Nat.add_le_add_right hsl _) _) _) (Nat.le_of_ble_eq_true rfl))⟩ (Nat.le_of_ble_eq_true rfl) hX2.2.1 (by omega) (s_X9_thrown hX2) (fun v_1515 n_1515 M_1515 hn_1515 hp => ?_)
    obtain ⟨rfl, rfl, rfl⟩ := hp
    rw [up_eq, if_neg hne]
    refine jr_iload (pc := 1518) h dL_law_1518 rfl ?_
    refine jr_same2 (pc := 1520) h 1525 dL_law_1520 (by decide) ?_
    refine jr_iload (pc := 1525) h dL_law_1525 rfl ?_
    refine jr_if_ne (pc := 1527) h 1542 dL_law_1527 (by decide) (by omega) (fun z => absurd rfl z) (fun _ => ?_)
    refine jr_aload_n (pc := 1530) h dL_law_1530 rfl ?_
    refine jr_iconst (pc := 1531) h dL_law_1531 ?_
    refine jr_lald (pc := 1532) h dL_law_1532 ho2 (by omega) (by omega) ?_
    rw [show (up fo 0 (x_led ct td fa (X (i + 1).toNat))) (0 : Int).toNat = (x_led ct td fa (X (i + 1).toNat)) from up_eq]
    refine jr_iload (pc := 1533) h dL_law_1533 rfl ?_
    refine jr_i2l (pc := 1535) h dL_law_1535 (by omega) ?_
    refine jr_sameL (pc := 1536) h dL_law_1536 ?_
    refine jr_if_eq (pc := 1537) h 1542 dL_law_1537 (by decide) (by omega) (fun _ => ?_) (fun z => absurd rfl z)
    refine jr_goto (pc := 1542) h 1583 dL_law_1542 (by decide) ?_
    refine lw_drop h ?_
    exact kk _ _ _ _ (by
      have q9 : rL_ledX.cells + rX9_led.cells + rX9_thrown.cells ≤ 31 := (Nat.le_of_ble_eq_true rfl)
      omega) (by
      have q9 : rL_ledX.slots + rX9_led.slots + rX9_thrown.slots ≤ 250 := (Nat.le_of_ble_eq_true rfl)
      omega) (Nat.le_refl _) (Nat.le_add_right _ _) ⟨cu, dr, _, _, _, ct, td, bk, si, ld, _, g3, sp, sk, fa, go, _, _, _, _, _, _, fl, rd, _, _, ⟨h77, hS2, hX2, hF2, hfl, ho2⟩, IV_0 hI⟩
  · subst hM1
    have hS1 := hS
    have hX1 := hX
    have hF1 := hF
    have ho1 := ho
    refine jr_istore (pc := 1500) h [some (.ref 1000999), some (.ref 0), some (.ref 63), some (.ref 76), some (jI i), some (jI 1), none] dL_law_1500 (by decide) rfl ?_
    refine jr_aload_n (pc := 1502) h dL_law_1502 rfl ?_
    refine jr_aload_n (pc := 1503) h dL_law_1503 rfl ?_
    refine jr_iload (pc := 1504) h dL_law_1504 rfl ?_
    refine jr_iconst (pc := 1506) h dL_law_1506 ?_
    refine jr_iadd (pc := 1507) h dL_law_1507 ?_
    refine jr_sld (pc := 1508) h hsc dL_law_1508 (by omega) ?_
    refine iv_L_205 (pc := 1509) h hl hR dL_law_1509 ⟨(Nat.le_of_ble_eq_true rfl), (Nat.le_of_ble_eq_true rfl), (Nat.le_trans (Nat.add_le_add_right (Nat.add_le_add_right hc _) _) (Nat.le_of_ble_eq_true rfl)), (Nat.le_trans (Nat.add_le_add_right (Nat.add_le_add_right hsl _) _) (Nat.le_of_ble_eq_true rfl))⟩ (Nat.le_of_ble_eq_true rfl) hX1.2.1 (by omega) (s_X9_led hX1 hF1 (Sc_r hsc _) r1 r2 r3) (fun v_1509 n_1509 M_1509 hn_1509 hp => ?_)
    obtain ⟨⟨rfl, rfl⟩, hX2, f2⟩ := hp
    obtain ⟨hS2, hF2, ho2⟩ := LSt_9 f2 hS1 hF1 hfl ho1
    refine jr_istore (pc := 1512) h [some (.ref 1000999), some (.ref 0), some (.ref 63), some (.ref 76), some (jI i), some (jI 1), some (jI (x_led ct td fa (X (i + 1).toNat)))] dL_law_1512 (by decide) rfl ?_
    refine jr_aload_n (pc := 1514) h dL_law_1514 rfl ?_
    refine iv_L_206 (pc := 1515) h hl hR dL_law_1515 ⟨(Nat.le_of_ble_eq_true rfl), (Nat.le_of_ble_eq_true rfl), (Nat.le_trans (Nat.add_le_add_right (Nat.add_le_add_right (Nat.add_le_add_right hc _) _) _) (Nat.le_of_ble_eq_true rfl)), (Nat.le_trans (Nat.add_le_add_right (Nat.add_le_add_right (Nat.add_le_add_right hsl _) _) _) (Nat.le_of_ble_eq_true rfl))⟩ (Nat.le_of_ble_eq_true rfl) hX2.2.1 (by omega) (s_X9_thrown hX2) (fun v_1515 n_1515 M_1515 hn_1515 hp => ?_)
    obtain ⟨rfl, rfl, rfl⟩ := hp
    rw [up_eq, if_pos he]
    refine jr_iload (pc := 1518) h dL_law_1518 rfl ?_
    refine jr_same2 (pc := 1520) h 1525 dL_law_1520 (by decide) ?_
    refine jr_iload (pc := 1525) h dL_law_1525 rfl ?_
    refine jr_if_ne (pc := 1527) h 1542 dL_law_1527 (by decide) (by omega) (fun _ => ?_) (fun z => absurd z (by decide))
    refine jr_goto (pc := 1542) h 1583 dL_law_1542 (by decide) ?_
    refine lw_drop h ?_
    exact kk _ _ _ _ (by
      have q9 : rL_ledX.cells + rX9_led.cells + rX9_thrown.cells ≤ 31 := (Nat.le_of_ble_eq_true rfl)
      omega) (by
      have q9 : rL_ledX.slots + rX9_led.slots + rX9_thrown.slots ≤ 250 := (Nat.le_of_ble_eq_true rfl)
      omega) (Nat.le_refl _) (Nat.le_add_right _ _) ⟨cu, dr, _, _, _, ct, td, bk, si, ld, _, g3, sp, sk, fa, go, _, _, _, _, _, _, fl, rd, _, _, ⟨h77, hS2, hX2, hF2, hfl, ho2⟩, IV_0 hI⟩
