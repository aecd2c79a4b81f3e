/-! 98.r: calls that change -/
set_option maxHeartbeats 1000000 in
set_option maxRecDepth 20000 in
theorem lc_0 {κ : jC} {l : Launch} (h : Ok κ RL cL_law 7 (some .boolean)) (hl : κ.2.1 = l) (hR : Rm κ 16 600 601024 7293034) {L : Nat} {X : Nat → Int} (hsc : Sc κ L X) {i : Int} (hi : 0 ≤ i ∧ i + 6 ≤ L ∧ L ≤ 3072) {c sl n : Nat} {M : jdM} (hc : c ≤ 600000) (hsl : sl ≤ 7200000) (hn : n ≤ 700000) (hB : BN n M) (kk : KK κ c sl n i) : J κ 7 c sl n 240 [some (.ref 1000999), some (.ref 0), some (.ref 63), some (.ref 76), some (jI i), none, none] [] M := by
  unfold KK at kk
  obtain ⟨cu, dr, g, bs, p, ct, td, bk, si, ld, D, g3, sp, sk, fa, go, mk, tg, tk, tr, g', w, fl, rd, B, fo, ⟨h77, hS, hX, hF, hfl, ho⟩, hI⟩ := hB
  obtain ⟨⟨a1, a2, a3, a4, a5, a6, a7, a8, a9, a10, a11⟩, ⟨b1, b2⟩, ⟨c1, c2, c3⟩, ⟨d1, d2, d3⟩, e9, ⟨r1, r2, r3⟩, ⟨k1, k2⟩, l9, ⟨qK, qr, q2, qfl, qdr, qW, qpr, q5⟩⟩ := id hI
  subst d1
  subst d2
  refine jr_aload_n (pc := 240) h dL_law_240 rfl ?_
  refine jr_aload_n (pc := 241) h dL_law_241 rfl ?_
  refine jr_iload (pc := 242) h dL_law_242 rfl ?_
  refine jr_iconst (pc := 244) h dL_law_244 ?_
  refine jr_iadd (pc := 245) h dL_law_245 ?_
  refine jr_sld (pc := 246) h hsc dL_law_246 (by omega) ?_
  refine jr_aload_n (pc := 247) h dL_law_247 rfl ?_
  refine jr_iload (pc := 248) h dL_law_248 rfl ?_
  refine jr_iconst (pc := 250) h dL_law_250 ?_
  refine jr_iadd (pc := 251) h dL_law_251 ?_
  refine jr_sld (pc := 252) h hsc dL_law_252 (by omega) ?_
  refine jr_aload_n (pc := 253) h dL_law_253 rfl ?_
  refine jr_iload (pc := 254) h dL_law_254 rfl ?_
  refine jr_iconst (pc := 256) h dL_law_256 ?_
  refine jr_iadd (pc := 257) h dL_law_257 ?_
  refine jr_sld (pc := 258) h hsc dL_law_258 (by omega) ?_
  refine jr_aload_n (pc := 259) h dL_law_259 rfl ?_
  refine jr_iload (pc := 260) h dL_law_260 rfl ?_
  refine jr_iconst (pc := 262) h dL_law_262 ?_
  refine jr_iadd (pc := 263) h dL_law_263 ?_
  refine jr_sld (pc := 264) h hsc dL_law_264 (by omega) ?_
  refine jr_aload_n (pc := 265) h dL_law_265 rfl ?_
  refine jr_iload (pc := 266) h dL_law_266 rfl ?_
  refine jr_iconst (pc := 268) h dL_law_268 ?_
  refine jr_iadd (pc := 269) h dL_law_269 ?_
  refine jr_sld (pc := 270) h hsc dL_law_270 (by omega) ?_
  refine iv_L_19 (pc := 271) h hl hR dL_law_271 ⟨(Nat.le_of_ble_eq_true rfl), (Nat.le_of_ble_eq_true rfl), (Nat.le_trans (Nat.add_le_add_right hc _) (Nat.le_of_ble_eq_true rfl)), (Nat.le_trans (Nat.add_le_add_right hsl _) (Nat.le_of_ble_eq_true rfl))⟩ (Nat.le_of_ble_eq_true rfl) hS.2.2.1 (by omega) (s_X7_feed hS (Sc_r hsc _) (Sc_r hsc _) (Sc_r hsc _) (Sc_r hsc _) (Sc_r hsc _) b2 a1) (fun v_271 n_271 M_271 hn_271 hp => ?_)
  obtain ⟨⟨rfl, rfl⟩, hS1, f1⟩ := hp
  obtain ⟨hX1, hF1, ho1⟩ := LSt_7 f1 hX hF hfl ho
  refine jr_aload_n (pc := 274) h dL_law_274 rfl ?_
  refine jr_aload_n (pc := 275) h dL_law_275 rfl ?_
  refine jr_iload (pc := 276) h dL_law_276 rfl ?_
  refine jr_iconst (pc := 278) h dL_law_278 ?_
  refine jr_iadd (pc := 279) h dL_law_279 ?_
  refine jr_sld (pc := 280) h hsc dL_law_280 (by omega) ?_
  refine jr_aload_n (pc := 281) h dL_law_281 rfl ?_
  refine jr_iload (pc := 282) h dL_law_282 rfl ?_
  refine jr_iconst (pc := 284) h dL_law_284 ?_
  refine jr_iadd (pc := 285) h dL_law_285 ?_
  refine jr_sld (pc := 286) h hsc dL_law_286 (by omega) ?_
  refine jr_aload_n (pc := 287) h dL_law_287 rfl ?_
  refine jr_iload (pc := 288) h dL_law_288 rfl ?_
  refine jr_iconst (pc := 290) h dL_law_290 ?_
  refine jr_iadd (pc := 291) h dL_law_291 ?_
  refine jr_sld (pc := 292) h hsc dL_law_292 (by omega) ?_
  refine jr_aload_n (pc := 293) h dL_law_293 rfl ?_
  refine jr_iload (pc := 294) h dL_law_294 rfl ?_
  refine jr_iconst (pc := 296) h dL_law_296 ?_
  refine jr_iadd (pc := 297) h dL_law_297 ?_
  refine jr_sld (pc := 298) h hsc dL_law_298 (by omega) ?_
  refine jr_aload_n (pc := 299) h dL_law_299 rfl ?_
  refine jr_iload (pc := 300) h dL_law_300 rfl ?_
  refine jr_iconst (pc := 302) h dL_law_302 ?_
  refine jr_iadd (pc := 303) h dL_law_303 ?_
  refine jr_sld (pc := 304) h hsc dL_law_304 (by omega) ?_
  refine iv_L_23 (pc := 305) h hl hR dL_law_305 ⟨(Nat.le_of_ble_eq_true rfl), (Nat.le_of_ble_eq_true rfl), (Nat.le_trans (Nat.add_le_add_right (Nat.add_le_add_right hc _) _) (Nat.le_of_ble_eq_true rfl)), (Nat.le_trans (Nat.add_le_add_right (Nat.add_le_add_right hsl _) _) (Nat.le_of_ble_eq_true rfl))⟩ (Nat.le_of_ble_eq_true rfl) hX1.2.1 (by omega) (s_X9_feed hX1 (Sc_r hsc _) (Sc_r hsc _) (Sc_r hsc _) (Sc_r hsc _) (Sc_r hsc _) (by rw [a6]; exact a1)) (fun v_305 n_305 M_305 hn_305 hp => ?_)
  obtain ⟨⟨rfl, rfl⟩, hX2, f2⟩ := hp
  obtain ⟨hS2, hF2, ho2⟩ := LSt_9 f2 hS1 hF1 hfl ho1
  obtain ⟨e0, hI2⟩ := IV_feed (x := (X (i + 1).toNat)) (y := (X (i + 2).toNat)) (z := (X (i + 3).toNat)) (u := (X (i + 4).toNat)) (v := (X (i + 5).toNat)) hI
  rw [e0]
  refine jr_same2 (pc := 308) h 1583 dL_law_308 (by decide) ?_
  exact kk _ _ _ _ (by
    have q9 : rX7_feed.cells + rX9_feed.cells ≤ 31 := (Nat.le_of_ble_eq_true rfl)
    omega) (by
    have q9 : rX7_feed.slots + rX9_feed.slots ≤ 250 := (Nat.le_of_ble_eq_true rfl)
    omega) (Nat.le_refl _) (Nat.le_add_right _ _) ⟨cu, dr, _, _, _, ct, td, bk, si, ld, _, g3, sp, sk, fa, go, _, _, _, _, _, _, fl, rd, _, _, ⟨h77, hS2, hX2, hF2, hfl, ho2⟩, hI2⟩
set_option maxHeartbeats 1000000 in
set_option maxRecDepth 20000 in
theorem lc_2 {κ : jC} {l : Launch} (h : Ok κ RL cL_law 7 (some .boolean)) (hl : κ.2.1 = l) (hR : Rm κ 16 600 601024 7293034) {L : Nat} {X : Nat → Int} (hsc : Sc κ L X) {i : Int} (hi : 0 ≤ i ∧ i + 6 ≤ L ∧ L ≤ 3072) {c sl n : Nat} {M : jdM} (hc : c ≤ 600000) (hsl : sl ≤ 7200000) (hn : n ≤ 700000) (hB : BN n M) (kk : KK κ c sl n i) : J κ 7 c sl n 338 [some (.ref 1000999), some (.ref 0), some (.ref 63), some (.ref 76), some (jI i), none, none] [] M := by
  unfold KK at kk
  obtain ⟨cu, dr, g, bs, p, ct, td, bk, si, ld, D, g3, sp, sk, fa, go, mk, tg, tk, tr, g', w, fl, rd, B, fo, ⟨h77, hS, hX, hF, hfl, ho⟩, hI⟩ := hB
  obtain ⟨⟨a1, a2, a3, a4, a5, a6, a7, a8, a9, a10, a11⟩, ⟨b1, b2⟩, ⟨c1, c2, c3⟩, ⟨d1, d2, d3⟩, e9, ⟨r1, r2, r3⟩, ⟨k1, k2⟩, l9, ⟨qK, qr, q2, qfl, qdr, qW, qpr, q5⟩⟩ := id hI
  subst d1
  subst d2
  refine jr_aload_n (pc := 338) h dL_law_338 rfl ?_
  refine iv_L_28 (pc := 339) h hl hR dL_law_339 ⟨(Nat.le_of_ble_eq_true rfl), (Nat.le_of_ble_eq_true rfl), (Nat.le_trans (Nat.add_le_add_right hc _) (Nat.le_of_ble_eq_true rfl)), (Nat.le_trans (Nat.add_le_add_right hsl _) (Nat.le_of_ble_eq_true rfl))⟩ (Nat.le_of_ble_eq_true rfl) hS.2.2.1 (by omega) (s_X7_fault hS) (fun v_339 n_339 M_339 hn_339 hp => ?_)
  obtain ⟨rfl, rfl, rfl⟩ := hp
  have hS1 := hS
  have hX1 := hX
  have hF1 := hF
  have ho1 := ho
  refine jr_aload_n (pc := 342) h dL_law_342 rfl ?_
  refine iv_L_32 (pc := 343) h hl hR dL_law_343 ⟨(Nat.le_of_ble_eq_true rfl), (Nat.le_of_ble_eq_true rfl), (Nat.le_trans (Nat.add_le_add_right (Nat.add_le_add_right hc _) _) (Nat.le_of_ble_eq_true rfl)), (Nat.le_trans (Nat.add_le_add_right (Nat.add_le_add_right hsl _) _) (Nat.le_of_ble_eq_true rfl))⟩ (Nat.le_of_ble_eq_true rfl) hX1.2.1 (by omega) (s_X9_fault hX1) (fun v_343 n_343 M_343 hn_343 hp => ?_)
  obtain ⟨⟨rfl, rfl⟩, hX2, f2⟩ := hp
  obtain ⟨hS2, hF2, ho2⟩ := LSt_9 f2 hS1 hF1 hfl ho1
  rw [a7]
  refine jr_same2 (pc := 346) h 1583 dL_law_346 (by decide) ?_
  exact kk _ _ _ _ (by
    have q9 : rX7_fault.cells + rX9_fault.cells ≤ 31 := (Nat.le_of_ble_eq_true rfl)
    omega) (by
    have q9 : rX7_fault.slots + rX9_fault.slots ≤ 250 := (Nat.le_of_ble_eq_true rfl)
    omega) (Nat.le_refl _) (Nat.le_add_right _ _) ⟨cu, dr, _, _, _, ct, td, bk, si, ld, _, g3, sp, sk, fa, go, _, _, _, _, _, _, fl, rd, _, _, ⟨h77, hS2, hX2, hF2, hfl, ho2⟩, IV_0 hI⟩
set_option maxHeartbeats 1000000 in
set_option maxRecDepth 20000 in
theorem lc_3 {κ : jC} {l : Launch} (h : Ok κ RL cL_law 7 (some .boolean)) (hl : κ.2.1 = l) (hR : Rm κ 16 600 601024 7293034) {L : Nat} {X : Nat → Int} (hsc : Sc κ L X) {i : Int} (hi : 0 ≤ i ∧ i + 6 ≤ L ∧ L ≤ 3072) {c sl n : Nat} {M : jdM} (hc : c ≤ 600000) (hsl : sl ≤ 7200000) (hn : n ≤ 700000) (hB : BN n M) (kk : KK κ c sl n i) : J κ 7 c sl n 351 [some (.ref 1000999), some (.ref 0), some (.ref 63), some (.ref 76), some (jI i), none, none] [] M := by
  unfold KK at kk
  obtain ⟨cu, dr, g, bs, p, ct, td, bk, si, ld, D, g3, sp, sk, fa, go, mk, tg, tk, tr, g', w, fl, rd, B, fo, ⟨h77, hS, hX, hF, hfl, ho⟩, hI⟩ := hB
  obtain ⟨⟨a1, a2, a3, a4, a5, a6, a7, a8, a9, a10, a11⟩, ⟨b1, b2⟩, ⟨c1, c2, c3⟩, ⟨d1, d2, d3⟩, e9, ⟨r1, r2, r3⟩, ⟨k1, k2⟩, l9, ⟨qK, qr, q2, qfl, qdr, qW, qpr, q5⟩⟩ := id hI
  subst d1
  subst d2
  refine jr_aload_n (pc := 351) h dL_law_351 rfl ?_
  refine iv_L_33 (pc := 352) h hl hR dL_law_352 ⟨(Nat.le_of_ble_eq_true rfl), (Nat.le_of_ble_eq_true rfl), (Nat.le_trans (Nat.add_le_add_right hc _) (Nat.le_of_ble_eq_true rfl)), (Nat.le_trans (Nat.add_le_add_right hsl _) (Nat.le_of_ble_eq_true rfl))⟩ (Nat.le_of_ble_eq_true rfl) hS.2.2.1 (by omega) (s_X7_where hS a3) (fun v_352 n_352 M_352 hn_352 hp => ?_)
  obtain ⟨rfl, rfl, rfl⟩ := hp
  have hS1 := hS
  have hX1 := hX
  have hF1 := hF
  have ho1 := ho
  refine jr_aload_n (pc := 355) h dL_law_355 rfl ?_
  refine iv_L_36 (pc := 356) h hl hR dL_law_356 ⟨(Nat.le_of_ble_eq_true rfl), (Nat.le_of_ble_eq_true rfl), (Nat.le_trans (Nat.add_le_add_right (Nat.add_le_add_right hc _) _) (Nat.le_of_ble_eq_true rfl)), (Nat.le_trans (Nat.add_le_add_right (Nat.add_le_add_right hsl _) _) (Nat.le_of_ble_eq_true rfl))⟩ (Nat.le_of_ble_eq_true rfl) hX1.2.1 (by omega) (s_X9_where hX1) (fun v_356 n_356 M_356 hn_356 hp => ?_)
  obtain ⟨⟨rfl, rfl⟩, hX2, f2⟩ := hp
  obtain ⟨hS2, hF2, ho2⟩ := LSt_9 f2 hS1 hF1 hfl ho1
  rw [a5]
  refine jr_same2 (pc := 359) h 1583 dL_law_359 (by decide) ?_
  exact kk _ _ _ _ (by
    have q9 : rX7_where.cells + rX9_where.cells ≤ 31 := (Nat.le_of_ble_eq_true rfl)
    omega) (by
    have q9 : rX7_where.slots + rX9_where.slots ≤ 250 := (Nat.le_of_ble_eq_true rfl)
    omega) (Nat.le_refl _) (Nat.le_add_right _ _) ⟨cu, dr, _, _, _, ct, td, bk, si, ld, _, g3, sp, sk, fa, go, _, _, _, _, _, _, fl, rd, _, _, ⟨h77, hS2, hX2, hF2, hfl, ho2⟩, IV_0 hI⟩
set_option maxHeartbeats 1000000 in
set_option maxRecDepth 20000 in
theorem lc_9 {κ : jC} {l : Launch} (h : Ok κ RL cL_law 7 (some .boolean)) (hl : κ.2.1 = l) (hR : Rm κ 16 600 601024 7293034) {L : Nat} {X : Nat → Int} (hsc : Sc κ L X) {i : Int} (hi : 0 ≤ i ∧ i + 6 ≤ L ∧ L ≤ 3072) {c sl n : Nat} {M : jdM} (hc : c ≤ 600000) (hsl : sl ≤ 7200000) (hn : n ≤ 700000) (hB : BN n M) (kk : KK κ c sl n i) : J κ 7 c sl n 501 [some (.ref 1000999), some (.ref 0), some (.ref 63), some (.ref 76), some (jI i), none, none] [] M := by
  unfold KK at kk
  obtain ⟨cu, dr, g, bs, p, ct, td, bk, si, ld, D, g3, sp, sk, fa, go, mk, tg, tk, tr, g', w, fl, rd, B, fo, ⟨h77, hS, hX, hF, hfl, ho⟩, hI⟩ := hB
  obtain ⟨⟨a1, a2, a3, a4, a5, a6, a7, a8, a9, a10, a11⟩, ⟨b1, b2⟩, ⟨c1, c2, c3⟩, ⟨d1, d2, d3⟩, e9, ⟨r1, r2, r3⟩, ⟨k1, k2⟩, l9, ⟨qK, qr, q2, qfl, qdr, qW, qpr, q5⟩⟩ := id hI
  subst d1
  subst d2
  refine jr_aload_n (pc := 501) h dL_law_501 rfl ?_
  refine jr_aload_n (pc := 502) h dL_law_502 rfl ?_
  refine jr_iload (pc := 503) h dL_law_503 rfl ?_
  refine jr_iconst (pc := 505) h dL_law_505 ?_
  refine jr_iadd (pc := 506) h dL_law_506 ?_
  refine jr_sld (pc := 507) h hsc dL_law_507 (by omega) ?_
  refine iv_L_58 (pc := 508) h hl hR dL_law_508 ⟨(Nat.le_of_ble_eq_true rfl), (Nat.le_of_ble_eq_true rfl), (Nat.le_trans (Nat.add_le_add_right hc _) (Nat.le_of_ble_eq_true rfl)), (Nat.le_trans (Nat.add_le_add_right hsl _) (Nat.le_of_ble_eq_true rfl))⟩ (Nat.le_of_ble_eq_true rfl) hS.2.2.1 (by omega) (s_X7_start hS (Sc_r hsc _)) (fun v_508 n_508 M_508 hn_508 hp => ?_)
  obtain ⟨⟨rfl, rfl⟩, hS1, f1⟩ := hp
  obtain ⟨hX1, hF1, ho1⟩ := LSt_7 f1 hX hF hfl ho
  refine jr_aload_n (pc := 511) h dL_law_511 rfl ?_
  refine jr_aload_n (pc := 512) h dL_law_512 rfl ?_
  refine jr_iload (pc := 513) h dL_law_513 rfl ?_
  refine jr_iconst (pc := 515) h dL_law_515 ?_
  refine jr_iadd (pc := 516) h dL_law_516 ?_
  refine jr_sld (pc := 517) h hsc dL_law_517 (by omega) ?_
  refine iv_L_62 (pc := 518) h hl hR dL_law_518 ⟨(Nat.le_of_ble_eq_true rfl), (Nat.le_of_ble_eq_true rfl), (Nat.le_trans (Nat.add_le_add_right (Nat.add_le_add_right hc _) _) (Nat.le_of_ble_eq_true rfl)), (Nat.le_trans (Nat.add_le_add_right (Nat.add_le_add_right hsl _) _) (Nat.le_of_ble_eq_true rfl))⟩ (Nat.le_of_ble_eq_true rfl) hX1.2.1 (by omega) (s_X9_start hX1 hF1 (Sc_r hsc _) r1 r2 r3) (fun v_518 n_518 M_518 hn_518 hp => ?_)
  obtain ⟨⟨rfl, rfl⟩, b3, hX2, hRR, f2⟩ := hp
  obtain ⟨hS2, hF2, ho2⟩ := LSt_9 f2 hS1 hF1 hfl ho1
  obtain ⟨-, -, -, -, -, -, -, -, -, -, -, -, rE⟩ := hS.2.2.2.2.1
  obtain ⟨u1, u2⟩ := RU_start hF qr rE r2 r3
  have hI2 := IV_q (IV_R hI hRR u1 u2 (fun z => by
    have hz : c_rows ct td = 0 := rows0 (td := td) z
    have z7 := (l9 z).2
    have e : (y_start ct td ld (g3, sp, sk, fa, go) (X (i + 1).toNat)).2.2 = (g3, sp, sk, fa, go) := by
      unfold y_start
      rw [if_neg (by omega)]
    rw [e]
    exact z7)) (t := (y_start ct td ld (g3, sp, sk, fa, go) (X (i + 1).toNat)).2.1) t4_ystart
  obtain ⟨g9, sp9, sk9, fa9, go9, eR⟩ : ∃ a b c d e, (y_start ct td ld (g3, sp, sk, fa, go) (X (i + 1).toNat)).2.2 = (a, b, c, d, e) := ⟨_, _, _, _, _, rfl⟩
  rw [eR] at hS2 hI2
  refine jr_same2 (pc := 521) h 1583 dL_law_521 (by decide) ?_
  exact kk _ _ _ _ (by
    have q9 : rX7_start.cells + rX9_start.cells ≤ 31 := (Nat.le_of_ble_eq_true rfl)
    omega) (by
    have q9 : rX7_start.slots + rX9_start.slots ≤ 250 := (Nat.le_of_ble_eq_true rfl)
    omega) (Nat.le_refl _) (Nat.le_add_right _ _) ⟨cu, dr, _, _, _, ct, td, bk, si, ld, _, g9, sp9, sk9, fa9, go9, _, _, _, _, _, _, fl, rd, _, _, ⟨h77, hS2, hX2, hF2, hfl, ho2⟩, hI2⟩
set_option maxHeartbeats 1000000 in
set_option maxRecDepth 20000 in
theorem lc_10 {κ : jC} {l : Launch} (h : Ok κ RL cL_law 7 (some .boolean)) (hl : κ.2.1 = l) (hR : Rm κ 16 600 601024 7293034) {L : Nat} {X : Nat → Int} (hsc : Sc κ L X) {i : Int} (hi : 0 ≤ i ∧ i + 6 ≤ L ∧ L ≤ 3072) {c sl n : Nat} {M : jdM} (hc : c ≤ 600000) (hsl : sl ≤ 7200000) (hn : n ≤ 700000) (hB : BN n M) (kk : KK κ c sl n i) : J κ 7 c sl n 526 [some (.ref 1000999), some (.ref 0), some (.ref 63), some (.ref 76), some (jI i), none, none] [] M := by
  unfold KK at kk
  obtain ⟨cu, dr, g, bs, p, ct, td, bk, si, ld, D, g3, sp, sk, fa, go, mk, tg, tk, tr, g', w, fl, rd, B, fo, ⟨h77, hS, hX, hF, hfl, ho⟩, hI⟩ := hB
  obtain ⟨⟨a1, a2, a3, a4, a5, a6, a7, a8, a9, a10, a11⟩, ⟨b1, b2⟩, ⟨c1, c2, c3⟩, ⟨d1, d2, d3⟩, e9, ⟨r1, r2, r3⟩, ⟨k1, k2⟩, l9, ⟨qK, qr, q2, qfl, qdr, qW, qpr, q5⟩⟩ := id hI
  subst d1
  subst d2
  refine jr_aload_n (pc := 526) h dL_law_526 rfl ?_
  refine iv_L_63 (pc := 527) h hl hR dL_law_527 ⟨(Nat.le_of_ble_eq_true rfl), (Nat.le_of_ble_eq_true rfl), (Nat.le_trans (Nat.add_le_add_right hc _) (Nat.le_of_ble_eq_true rfl)), (Nat.le_trans (Nat.add_le_add_right hsl _) (Nat.le_of_ble_eq_true rfl))⟩ (Nat.le_of_ble_eq_true rfl) hS.2.2.1 (by omega) (s_X7_step hS r2 qK) (fun v_527 n_527 M_527 hn_527 hp => ?_)
  obtain ⟨⟨rfl, rfl⟩, hS1, f1⟩ := hp
  obtain ⟨hX1, hF1, ho1⟩ := LSt_7 f1 hX hF hfl ho
  refine jr_aload_n (pc := 530) h dL_law_530 rfl ?_
  refine iv_L_66 (pc := 531) h hl hR dL_law_531 ⟨(Nat.le_of_ble_eq_true rfl), (Nat.le_of_ble_eq_true rfl), (Nat.le_trans (Nat.add_le_add_right (Nat.add_le_add_right hc _) _) (Nat.le_of_ble_eq_true rfl)), (Nat.le_trans (Nat.add_le_add_right (Nat.add_le_add_right hsl _) _) (Nat.le_of_ble_eq_true rfl))⟩ (Nat.le_of_ble_eq_true rfl) hX1.2.1 (by omega) (s_X9_step hX1 hF1 r1 r2 r3) (fun v_531 n_531 M_531 hn_531 hp => ?_)
  obtain ⟨⟨rfl, rfl⟩, b3, hX2, hRR, f2⟩ := hp
  obtain ⟨hS2, hF2, ho2⟩ := LSt_9 f2 hS1 hF1 hfl ho1
  obtain ⟨u1, u2⟩ := RU_step hF r2 r3
  have hI2 := IV_q (IV_R hI hRR u1 u2 (fun z => by
    have hz : c_rows ct td = 0 := rows0 (td := td) z
    have z7 := (l9 z).2
    have e : (y_step ct td bk si (g3, sp, sk, fa, go)).2.2 = (g3, sp, sk, fa, go) := by
      unfold y_step
      rw [if_neg (by omega)]
    rw [e]
    exact z7)) (t := (y_step ct td bk si (g3, sp, sk, fa, go)).2.1) t4_ystep
  obtain ⟨g9, sp9, sk9, fa9, go9, eR⟩ : ∃ a b c d e, (y_step ct td bk si (g3, sp, sk, fa, go)).2.2 = (a, b, c, d, e) := ⟨_, _, _, _, _, rfl⟩
  rw [eR] at hS2 hI2
  refine jr_same2 (pc := 534) h 1583 dL_law_534 (by decide) ?_
  exact kk _ _ _ _ (by
    have q9 : rX7_step.cells + rX9_step.cells ≤ 31 := (Nat.le_of_ble_eq_true rfl)
    omega) (by
    have q9 : rX7_step.slots + rX9_step.slots ≤ 250 := (Nat.le_of_ble_eq_true rfl)
    omega) (Nat.le_refl _) (Nat.le_add_right _ _) ⟨cu, dr, _, _, _, ct, td, bk, si, ld, _, g9, sp9, sk9, fa9, go9, _, _, _, _, _, _, fl, rd, _, _, ⟨h77, hS2, hX2, hF2, hfl, ho2⟩, hI2⟩
set_option maxHeartbeats 1000000 in
set_option maxRecDepth 20000 in
theorem lc_11 {κ : jC} {l : Launch} (h : Ok κ RL cL_law 7 (some .boolean)) (hl : κ.2.1 = l) (hR : Rm κ 16 600 601024 7293034) {L : Nat} {X : Nat → Int} (hsc : Sc κ L X) {i : Int} (hi : 0 ≤ i ∧ i + 6 ≤ L ∧ L ≤ 3072) {c sl n : Nat} {M : jdM} (hc : c ≤ 600000) (hsl : sl ≤ 7200000) (hn : n ≤ 700000) (hB : BN n M) (kk : KK κ c sl n i) : J κ 7 c sl n 539 [some (.ref 1000999), some (.ref 0), some (.ref 63), some (.ref 76), some (jI i), none, none] [] M := by
  unfold KK at kk
  obtain ⟨cu, dr, g, bs, p, ct, td, bk, si, ld, D, g3, sp, sk, fa, go, mk, tg, tk, tr, g', w, fl, rd, B, fo, ⟨h77, hS, hX, hF, hfl, ho⟩, hI⟩ := hB
  obtain ⟨⟨a1, a2, a3, a4, a5, a6, a7, a8, a9, a10, a11⟩, ⟨b1, b2⟩, ⟨c1, c2, c3⟩, ⟨d1, d2, d3⟩, e9, ⟨r1, r2, r3⟩, ⟨k1, k2⟩, l9, ⟨qK, qr, q2, qfl, qdr, qW, qpr, q5⟩⟩ := id hI
  subst d1
  subst d2
  refine jr_aload_n (pc := 539) h dL_law_539 rfl ?_
  refine iv_L_67 (pc := 540) h hl hR dL_law_540 ⟨(Nat.le_of_ble_eq_true rfl), (Nat.le_of_ble_eq_true rfl), (Nat.le_trans (Nat.add_le_add_right hc _) (Nat.le_of_ble_eq_true rfl)), (Nat.le_trans (Nat.add_le_add_right hsl _) (Nat.le_of_ble_eq_true rfl))⟩ (Nat.le_of_ble_eq_true rfl) hS.2.2.1 (by omega) (s_X7_finish hS r2 qK) (fun v_540 n_540 M_540 hn_540 hp => ?_)
  obtain ⟨⟨rfl, rfl⟩, hS1, f1⟩ := hp
  obtain ⟨hX1, hF1, ho1⟩ := LSt_7 f1 hX hF hfl ho
  refine jr_aload_n (pc := 543) h dL_law_543 rfl ?_
  refine iv_L_70 (pc := 544) h hl hR dL_law_544 ⟨(Nat.le_of_ble_eq_true rfl), (Nat.le_of_ble_eq_true rfl), (Nat.le_trans (Nat.add_le_add_right (Nat.add_le_add_right hc _) _) (Nat.le_of_ble_eq_true rfl)), (Nat.le_trans (Nat.add_le_add_right (Nat.add_le_add_right hsl _) _) (Nat.le_of_ble_eq_true rfl))⟩ (Nat.le_of_ble_eq_true rfl) hX1.2.1 (by omega) (s_X9_finish hX1 hF1 r1 r2 r3) (fun v_544 n_544 M_544 hn_544 hp => ?_)
  obtain ⟨⟨rfl, rfl⟩, b3, hX2, hRR, f2⟩ := hp
  obtain ⟨hS2, hF2, ho2⟩ := LSt_9 f2 hS1 hF1 hfl ho1
  obtain ⟨u1, u2⟩ := RU_finish hF r2 r3
  have hI2 := IV_q (IV_R hI hRR u1 u2 (fun z => by
    have hz : c_rows ct td = 0 := rows0 (td := td) z
    have z7 := (l9 z).2
    have e : (y_finish ct td bk si (g3, sp, sk, fa, go)).2.2 = (g3, sp, sk, fa, go) := by
      unfold y_finish
      rw [if_neg (by omega)]
    rw [e]
    exact z7)) (t := (y_finish ct td bk si (g3, sp, sk, fa, go)).2.1) t4_yfinish
  obtain ⟨g9, sp9, sk9, fa9, go9, eR⟩ : ∃ a b c d e, (y_finish ct td bk si (g3, sp, sk, fa, go)).2.2 = (a, b, c, d, e) := ⟨_, _, _, _, _, rfl⟩
  rw [eR] at hS2 hI2
  refine jr_same2 (pc := 547) h 1583 dL_law_547 (by decide) ?_
  exact kk _ _ _ _ (by
    have q9 : rX7_finish.cells + rX9_finish.cells ≤ 31 := (Nat.le_of_ble_eq_true rfl)
    omega) (by
    have q9 : rX7_finish.slots + rX9_finish.slots ≤ 250 := (Nat.le_of_ble_eq_true rfl)
    omega) (Nat.le_refl _) (Nat.le_add_right _ _) ⟨cu, dr, _, _, _, ct, td, bk, si, ld, _, g9, sp9, sk9, fa9, go9, _, _, _, _, _, _, fl, rd, _, _, ⟨h77, hS2, hX2, hF2, hfl, ho2⟩, hI2⟩
set_option maxHeartbeats 1000000 in
set_option maxRecDepth 20000 in
theorem lc_20 {κ : jC} {l : Launch} (h : Ok κ RL cL_law 7 (some .boolean)) (hl : κ.2.1 = l) (hR : Rm κ 16 600 601024 7293034) {L : Nat} {X : Nat → Int} (hsc : Sc κ L X) {i : Int} (hi : 0 ≤ i ∧ i + 6 ≤ L ∧ L ≤ 3072) {c sl n : Nat} {M : jdM} (hc : c ≤ 600000) (hsl : sl ≤ 7200000) (hn : n ≤ 700000) (hB : BN n M) (kk : KK κ c sl n i) : J κ 7 c sl n 812 [some (.ref 1000999), some (.ref 0), some (.ref 63), some (.ref 76), some (jI i), none, none] [] M := by
  unfold KK at kk
  obtain ⟨cu, dr, g, bs, p, ct, td, bk, si, ld, D, g3, sp, sk, fa, go, mk, tg, tk, tr, g', w, fl, rd, B, fo, ⟨h77, hS, hX, hF, hfl, ho⟩, hI⟩ := hB
  obtain ⟨⟨a1, a2, a3, a4, a5, a6, a7, a8, a9, a10, a11⟩, ⟨b1, b2⟩, ⟨c1, c2, c3⟩, ⟨d1, d2, d3⟩, e9, ⟨r1, r2, r3⟩, ⟨k1, k2⟩, l9, ⟨qK, qr, q2, qfl, qdr, qW, qpr, q5⟩⟩ := id hI
  subst d1
  subst d2
  refine jr_aload_n (pc := 812) h dL_law_812 rfl ?_
  refine iv_L_103 (pc := 813) h hl hR dL_law_813 ⟨(Nat.le_of_ble_eq_true rfl), (Nat.le_of_ble_eq_true rfl), (Nat.le_trans (Nat.add_le_add_right hc _) (Nat.le_of_ble_eq_true rfl)), (Nat.le_trans (Nat.add_le_add_right hsl _) (Nat.le_of_ble_eq_true rfl))⟩ (Nat.le_of_ble_eq_true rfl) hS.2.2.1 (by omega) (s_X7_mark hS a2) (fun v_813 n_813 M_813 hn_813 hp => ?_)
  obtain ⟨⟨rfl, rfl⟩, hS1, f1⟩ := hp
  obtain ⟨hX1, hF1, ho1⟩ := LSt_7 f1 hX hF hfl ho
  refine jr_aload_n (pc := 816) h dL_law_816 rfl ?_
  refine iv_L_106 (pc := 817) h hl hR dL_law_817 ⟨(Nat.le_of_ble_eq_true rfl), (Nat.le_of_ble_eq_true rfl), (Nat.le_trans (Nat.add_le_add_right (Nat.add_le_add_right hc _) _) (Nat.le_of_ble_eq_true rfl)), (Nat.le_trans (Nat.add_le_add_right (Nat.add_le_add_right hsl _) _) (Nat.le_of_ble_eq_true rfl))⟩ (Nat.le_of_ble_eq_true rfl) hX1.2.1 (by omega) (s_X9_mark hX1 hF1 (by rw [a8]; exact a2)) (fun v_817 n_817 M_817 hn_817 hp => ?_)
  obtain ⟨⟨rfl, rfl⟩, b4, hX2, m1, m2, f2⟩ := hp
  obtain ⟨hS2, hF2, ho2⟩ := LSt_9 f2 hS1 hF1 hfl ho1
  obtain ⟨e0, hI2⟩ := IV_mark hI m1 m2
  replace e0 : (z_mark ct td (g' 19)).1 = (y_mark ct td g mk (g3, sp, sk, fa, go)).1 := e0
  rw [e0]
  refine jr_same2 (pc := 820) h 1583 dL_law_820 (by decide) ?_
  exact kk _ _ _ _ (by
    have q9 : rX7_mark.cells + rX9_mark.cells ≤ 31 := (Nat.le_of_ble_eq_true rfl)
    omega) (by
    have q9 : rX7_mark.slots + rX9_mark.slots ≤ 250 := (Nat.le_of_ble_eq_true rfl)
    omega) (Nat.le_refl _) (Nat.le_add_right _ _) ⟨cu, dr, _, _, _, ct, td, bk, si, ld, _, g3, sp, sk, fa, go, _, _, _, _, _, _, fl, rd, _, _, ⟨h77, hS2, hX2, hF2, hfl, ho2⟩, hI2⟩
set_option maxHeartbeats 1000000 in
set_option maxRecDepth 20000 in
theorem lc_21 {κ : jC} {l : Launch} (h : Ok κ RL cL_law 7 (some .boolean)) (hl : κ.2.1 = l) (hR : Rm κ 16 600 601024 7293034) {L : Nat} {X : Nat → Int} (hsc : Sc κ L X) {i : Int} (hi : 0 ≤ i ∧ i + 6 ≤ L ∧ L ≤ 3072) {c sl n : Nat} {M : jdM} (hc : c ≤ 600000) (hsl : sl ≤ 7200000) (hn : n ≤ 700000) (hB : BN n M) (kk : KK κ c sl n i) : J κ 7 c sl n 825 [some (.ref 1000999), some (.ref 0), some (.ref 63), some (.ref 76), some (jI i), none, none] [] M := by
  unfold KK at kk
  obtain ⟨cu, dr, g, bs, p, ct, td, bk, si, ld, D, g3, sp, sk, fa, go, mk, tg, tk, tr, g', w, fl, rd, B, fo, ⟨h77, hS, hX, hF, hfl, ho⟩, hI⟩ := hB
  obtain ⟨⟨a1, a2, a3, a4, a5, a6, a7, a8, a9, a10, a11⟩, ⟨b1, b2⟩, ⟨c1, c2, c3⟩, ⟨d1, d2, d3⟩, e9, ⟨r1, r2, r3⟩, ⟨k1, k2⟩, l9, ⟨qK, qr, q2, qfl, qdr, qW, qpr, q5⟩⟩ := id hI
  subst d1
  subst d2
  refine jr_aload_n (pc := 825) h dL_law_825 rfl ?_
  refine jr_aload_n (pc := 826) h dL_law_826 rfl ?_
  refine jr_iload (pc := 827) h dL_law_827 rfl ?_
  refine jr_iconst (pc := 829) h dL_law_829 ?_
  refine jr_iadd (pc := 830) h dL_law_830 ?_
  refine jr_sld (pc := 831) h hsc dL_law_831 (by omega) ?_
  refine iv_L_107 (pc := 832) h hl hR dL_law_832 ⟨(Nat.le_of_ble_eq_true rfl), (Nat.le_of_ble_eq_true rfl), (Nat.le_trans (Nat.add_le_add_right hc _) (Nat.le_of_ble_eq_true rfl)), (Nat.le_trans (Nat.add_le_add_right hsl _) (Nat.le_of_ble_eq_true rfl))⟩ (Nat.le_of_ble_eq_true rfl) hS.2.2.1 (by omega) (s_X7_back hS (Sc_r hsc _) a2) (fun v_832 n_832 M_832 hn_832 hp => ?_)
  obtain ⟨⟨rfl, rfl⟩, hS1, f1⟩ := hp
  obtain ⟨hX1, hF1, ho1⟩ := LSt_7 f1 hX hF hfl ho
  refine jr_aload_n (pc := 835) h dL_law_835 rfl ?_
  refine jr_aload_n (pc := 836) h dL_law_836 rfl ?_
  refine jr_iload (pc := 837) h dL_law_837 rfl ?_
  refine jr_iconst (pc := 839) h dL_law_839 ?_
  refine jr_iadd (pc := 840) h dL_law_840 ?_
  refine jr_sld (pc := 841) h hsc dL_law_841 (by omega) ?_
  refine iv_L_110 (pc := 842) h hl hR dL_law_842 ⟨(Nat.le_of_ble_eq_true rfl), (Nat.le_of_ble_eq_true rfl), (Nat.le_trans (Nat.add_le_add_right (Nat.add_le_add_right hc _) _) (Nat.le_of_ble_eq_true rfl)), (Nat.le_trans (Nat.add_le_add_right (Nat.add_le_add_right hsl _) _) (Nat.le_of_ble_eq_true rfl))⟩ (Nat.le_of_ble_eq_true rfl) hX1.2.1 (by omega) (s_X9_back hX1 hF1 (Sc_r hsc _) (by rw [a8]; exact a2) (fun z => by rw [a8]; exact (l9 z).1)) (fun v_842 n_842 M_842 hn_842 hp => ?_)
  obtain ⟨⟨rfl, rfl⟩, b3, hX2, m1, m2, f2⟩ := hp
  obtain ⟨hS2, hF2, ho2⟩ := LSt_9 f2 hS1 hF1 hfl ho1
  obtain ⟨e0, hI2⟩ := IV_back hI m1 m2
  rw [e0]
  obtain ⟨g9, sp9, sk9, fa9, go9, eR⟩ : ∃ a b c d e, (y_back g mk (g3, sp, sk, fa, go) (X (i + 1).toNat)).2.2 = (a, b, c, d, e) := ⟨_, _, _, _, _, rfl⟩
  rw [eR] at hS2 hI2
  refine jr_same2 (pc := 845) h 1583 dL_law_845 (by decide) ?_
  exact kk _ _ _ _ (by
    have q9 : rX7_back.cells + rX9_back.cells ≤ 31 := (Nat.le_of_ble_eq_true rfl)
    omega) (by
    have q9 : rX7_back.slots + rX9_back.slots ≤ 250 := (Nat.le_of_ble_eq_true rfl)
    omega) (Nat.le_refl _) (Nat.le_add_right _ _) ⟨cu, dr, _, _, _, ct, td, bk, si, ld, _, g9, sp9, sk9, fa9, go9, _, _, _, _, _, _, fl, rd, _, _, ⟨h77, hS2, hX2, hF2, hfl, ho2⟩, hI2⟩
set_option maxHeartbeats 1000000 in
set_option maxRecDepth 20000 in
theorem lc_38 {κ : jC} {l : Launch} (h : Ok κ RL cL_law 7 (some .boolean)) (hl : κ.2.1 = l) (hR : Rm κ 16 600 601024 7293034) {L : Nat} {X : Nat → Int} (hsc : Sc κ L X) {i : Int} (hi : 0 ≤ i ∧ i + 6 ≤ L ∧ L ≤ 3072) {c sl n : Nat} {M : jdM} (hc : c ≤ 600000) (hsl : sl ≤ 7200000) (hn : n ≤ 700000) (hB : BN n M) (kk : KK κ c sl n i) : J κ 7 c sl n 1352 [some (.ref 1000999), some (.ref 0), some (.ref 63), some (.ref 76), some (jI i), none, none] [] M := by
  unfold KK at kk
  obtain ⟨cu, dr, g, bs, p, ct, td, bk, si, ld, D, g3, sp, sk, fa, go, mk, tg, tk, tr, g', w, fl, rd, B, fo, ⟨h77, hS, hX, hF, hfl, ho⟩, hI⟩ := hB
  obtain ⟨⟨a1, a2, a3, a4, a5, a6, a7, a8, a9, a10, a11⟩, ⟨b1, b2⟩, ⟨c1, c2, c3⟩, ⟨d1, d2, d3⟩, e9, ⟨r1, r2, r3⟩, ⟨k1, k2⟩, l9, ⟨qK, qr, q2, qfl, qdr, qW, qpr, q5⟩⟩ := id hI
  subst d1
  subst d2
  refine jr_aload_n (pc := 1352) h dL_law_1352 rfl ?_
  refine jr_aload_n (pc := 1353) h dL_law_1353 rfl ?_
  refine jr_iload (pc := 1354) h dL_law_1354 rfl ?_
  refine jr_iconst (pc := 1356) h dL_law_1356 ?_
  refine jr_iadd (pc := 1357) h dL_law_1357 ?_
  refine jr_sld (pc := 1358) h hsc dL_law_1358 (by omega) ?_
  refine jr_aload_n (pc := 1359) h dL_law_1359 rfl ?_
  refine jr_iload (pc := 1360) h dL_law_1360 rfl ?_
  refine jr_iconst (pc := 1362) h dL_law_1362 ?_
  refine jr_iadd (pc := 1363) h dL_law_1363 ?_
  refine jr_sld (pc := 1364) h hsc dL_law_1364 (by omega) ?_
  refine iv_L_179 (pc := 1365) h hl hR dL_law_1365 ⟨(Nat.le_of_ble_eq_true rfl), (Nat.le_of_ble_eq_true rfl), (Nat.le_trans (Nat.add_le_add_right hc _) (Nat.le_of_ble_eq_true rfl)), (Nat.le_trans (Nat.add_le_add_right hsl _) (Nat.le_of_ble_eq_true rfl))⟩ (Nat.le_of_ble_eq_true rfl) hS.2.2.1 (by omega) (s_X7_till hS (Sc_r hsc _) (Sc_r hsc _)) (fun v_1365 n_1365 M_1365 hn_1365 hp => ?_)
  obtain ⟨⟨rfl, rfl⟩, hS1, f1⟩ := hp
  obtain ⟨hX1, hF1, ho1⟩ := LSt_7 f1 hX hF hfl ho
  refine jr_aload_n (pc := 1368) h dL_law_1368 rfl ?_
  refine jr_aload_n (pc := 1369) h dL_law_1369 rfl ?_
  refine jr_iload (pc := 1370) h dL_law_1370 rfl ?_
  refine jr_iconst (pc := 1372) h dL_law_1372 ?_
  refine jr_iadd (pc := 1373) h dL_law_1373 ?_
  refine jr_sld (pc := 1374) h hsc dL_law_1374 (by omega) ?_
  refine jr_aload_n (pc := 1375) h dL_law_1375 rfl ?_
  refine jr_iload (pc := 1376) h dL_law_1376 rfl ?_
  refine jr_iconst (pc := 1378) h dL_law_1378 ?_
  refine jr_iadd (pc := 1379) h dL_law_1379 ?_
  refine jr_sld (pc := 1380) h hsc dL_law_1380 (by omega) ?_
  refine iv_L_183 (pc := 1381) h hl hR dL_law_1381 ⟨(Nat.le_of_ble_eq_true rfl), (Nat.le_of_ble_eq_true rfl), (Nat.le_trans (Nat.add_le_add_right (Nat.add_le_add_right hc _) _) (Nat.le_of_ble_eq_true rfl)), (Nat.le_trans (Nat.add_le_add_right (Nat.add_le_add_right hsl _) _) (Nat.le_of_ble_eq_true rfl))⟩ (Nat.le_of_ble_eq_true rfl) hX1.2.1 (by omega) (s_X9_till hX1 (Sc_r hsc _) (Sc_r hsc _)) (fun v_1381 n_1381 M_1381 hn_1381 hp => ?_)
  obtain ⟨⟨rfl, rfl⟩, hX2, f2⟩ := hp
  obtain ⟨hS2, hF2, ho2⟩ := LSt_9 f2 hS1 hF1 hfl ho1
  obtain ⟨e0, hI2⟩ := IV_till hI (x := (X (i + 1).toNat)) (y := (X (i + 2).toNat))
  rw [e0]
  refine jr_same2 (pc := 1384) h 1583 dL_law_1384 (by decide) ?_
  exact kk _ _ _ _ (by
    have q9 : rX7_till.cells + rX9_till.cells ≤ 31 := (Nat.le_of_ble_eq_true rfl)
    omega) (by
    have q9 : rX7_till.slots + rX9_till.slots ≤ 250 := (Nat.le_of_ble_eq_true rfl)
    omega) (Nat.le_refl _) (Nat.le_add_right _ _) ⟨cu, dr, _, _, _, ct, td, bk, si, ld, _, g3, sp, sk, fa, go, _, _, _, _, _, _, fl, rd, _, _, ⟨h77, hS2, hX2, hF2, hfl, ho2⟩, hI2⟩
set_option maxHeartbeats 1000000 in
set_option maxRecDepth 20000 in
theorem lc_39 {κ : jC} {l : Launch} (h : Ok κ RL cL_law 7 (some .boolean)) (hl : κ.2.1 = l) (hR : Rm κ 16 600 601024 7293034) {L : Nat} {X : Nat → Int} (hsc : Sc κ L X) {i : Int} (hi : 0 ≤ i ∧ i + 6 ≤ L ∧ L ≤ 3072) {c sl n : Nat} {M : jdM} (hc : c ≤ 600000) (hsl : sl ≤ 7200000) (hn : n ≤ 700000) (hB : BN n M) (kk : KK κ c sl n i) : J κ 7 c sl n 1389 [some (.ref 1000999), some (.ref 0), some (.ref 63), some (.ref 76), some (jI i), none, none] [] M := by
  unfold KK at kk
  obtain ⟨cu, dr, g, bs, p, ct, td, bk, si, ld, D, g3, sp, sk, fa, go, mk, tg, tk, tr, g', w, fl, rd, B, fo, ⟨h77, hS, hX, hF, hfl, ho⟩, hI⟩ := hB
  obtain ⟨⟨a1, a2, a3, a4, a5, a6, a7, a8, a9, a10, a11⟩, ⟨b1, b2⟩, ⟨c1, c2, c3⟩, ⟨d1, d2, d3⟩, e9, ⟨r1, r2, r3⟩, ⟨k1, k2⟩, l9, ⟨qK, qr, q2, qfl, qdr, qW, qpr, q5⟩⟩ := id hI
  subst d1
  subst d2
  refine jr_aload_n (pc := 1389) h dL_law_1389 rfl ?_
  refine jr_aload_n (pc := 1390) h dL_law_1390 rfl ?_
  refine jr_iload (pc := 1391) h dL_law_1391 rfl ?_
  refine jr_iconst (pc := 1393) h dL_law_1393 ?_
  refine jr_iadd (pc := 1394) h dL_law_1394 ?_
  refine jr_sld (pc := 1395) h hsc dL_law_1395 (by omega) ?_
  refine jr_aload_n (pc := 1396) h dL_law_1396 rfl ?_
  refine jr_iload (pc := 1397) h dL_law_1397 rfl ?_
  refine jr_iconst (pc := 1399) h dL_law_1399 ?_
  refine jr_iadd (pc := 1400) h dL_law_1400 ?_
  refine jr_sld (pc := 1401) h hsc dL_law_1401 (by omega) ?_
  refine iv_L_184 (pc := 1402) h hl hR dL_law_1402 ⟨(Nat.le_of_ble_eq_true rfl), (Nat.le_of_ble_eq_true rfl), (Nat.le_trans (Nat.add_le_add_right hc _) (Nat.le_of_ble_eq_true rfl)), (Nat.le_trans (Nat.add_le_add_right hsl _) (Nat.le_of_ble_eq_true rfl))⟩ (Nat.le_of_ble_eq_true rfl) hS.2.2.1 (by omega) (s_X7_sell hS (Sc_r hsc _) (Sc_r hsc _) (IV_tk hI) qpr) (fun v_1402 n_1402 M_1402 hn_1402 hp => ?_)
  obtain ⟨⟨rfl, rfl⟩, hS1, f1⟩ := hp
  obtain ⟨hX1, hF1, ho1⟩ := LSt_7 f1 hX hF hfl ho
  refine jr_aload_n (pc := 1405) h dL_law_1405 rfl ?_
  refine jr_aload_n (pc := 1406) h dL_law_1406 rfl ?_
  refine jr_iload (pc := 1407) h dL_law_1407 rfl ?_
  refine jr_iconst (pc := 1409) h dL_law_1409 ?_
  refine jr_iadd (pc := 1410) h dL_law_1410 ?_
  refine jr_sld (pc := 1411) h hsc dL_law_1411 (by omega) ?_
  refine jr_aload_n (pc := 1412) h dL_law_1412 rfl ?_
  refine jr_iload (pc := 1413) h dL_law_1413 rfl ?_
  refine jr_iconst (pc := 1415) h dL_law_1415 ?_
  refine jr_iadd (pc := 1416) h dL_law_1416 ?_
  refine jr_sld (pc := 1417) h hsc dL_law_1417 (by omega) ?_
  refine iv_L_187 (pc := 1418) h hl hR dL_law_1418 ⟨(Nat.le_of_ble_eq_true rfl), (Nat.le_of_ble_eq_true rfl), (Nat.le_trans (Nat.add_le_add_right (Nat.add_le_add_right hc _) _) (Nat.le_of_ble_eq_true rfl)), (Nat.le_trans (Nat.add_le_add_right (Nat.add_le_add_right hsl _) _) (Nat.le_of_ble_eq_true rfl))⟩ (Nat.le_of_ble_eq_true rfl) hX1.2.1 (by omega) (s_X9_sell hX1 hF1 a9 d3 (Sc_r hsc _) (Sc_r hsc _)) (fun v_1418 n_1418 M_1418 hn_1418 hp => ?_)
  obtain ⟨⟨rfl, rfl⟩, B', hX2, h8, h9, hBo, f2⟩ := hp
  obtain ⟨hS2, hF2, ho2⟩ := LSt_9 f2 hS1 hF1 hfl ho1
  have hI2 := IV_sell hI h8 h9 hBo
  refine jr_same2 (pc := 1421) h 1583 dL_law_1421 (by decide) ?_
  exact kk _ _ _ _ (by
    have q9 : rX7_sell.cells + rX9_sell.cells ≤ 31 := (Nat.le_of_ble_eq_true rfl)
    omega) (by
    have q9 : rX7_sell.slots + rX9_sell.slots ≤ 250 := (Nat.le_of_ble_eq_true rfl)
    omega) (Nat.le_refl _) (Nat.le_add_right _ _) ⟨cu, dr, _, _, _, ct, td, bk, si, ld, _, g3, sp, sk, fa, go, _, _, _, _, _, _, fl, rd, _, _, ⟨h77, hS2, hX2, hF2, hfl, ho2⟩, hI2⟩
set_option maxHeartbeats 1000000 in
set_option maxRecDepth 20000 in
theorem lc_40 {κ : jC} {l : Launch} (h : Ok κ RL cL_law 7 (some .boolean)) (hl : κ.2.1 = l) (hR : Rm κ 16 600 601024 7293034) {L : Nat} {X : Nat → Int} (hsc : Sc κ L X) {i : Int} (hi : 0 ≤ i ∧ i + 6 ≤ L ∧ L ≤ 3072) {c sl n : Nat} {M : jdM} (hc : c ≤ 600000) (hsl : sl ≤ 7200000) (hn : n ≤ 700000) (hB : BN n M) (kk : KK κ c sl n i) : J κ 7 c sl n 1426 [some (.ref 1000999), some (.ref 0), some (.ref 63), some (.ref 76), some (jI i), none, none] [] M := by
  unfold KK at kk
  obtain ⟨cu, dr, g, bs, p, ct, td, bk, si, ld, D, g3, sp, sk, fa, go, mk, tg, tk, tr, g', w, fl, rd, B, fo, ⟨h77, hS, hX, hF, hfl, ho⟩, hI⟩ := hB
  obtain ⟨⟨a1, a2, a3, a4, a5, a6, a7, a8, a9, a10, a11⟩, ⟨b1, b2⟩, ⟨c1, c2, c3⟩, ⟨d1, d2, d3⟩, e9, ⟨r1, r2, r3⟩, ⟨k1, k2⟩, l9, ⟨qK, qr, q2, qfl, qdr, qW, qpr, q5⟩⟩ := id hI
  subst d1
  subst d2
  refine jr_aload_n (pc := 1426) h dL_law_1426 rfl ?_
  refine jr_aload_n (pc := 1427) h dL_law_1427 rfl ?_
  refine jr_iload (pc := 1428) h dL_law_1428 rfl ?_
  refine jr_iconst (pc := 1430) h dL_law_1430 ?_
  refine jr_iadd (pc := 1431) h dL_law_1431 ?_
  refine jr_sld (pc := 1432) h hsc dL_law_1432 (by omega) ?_
  refine iv_L_188 (pc := 1433) h hl hR dL_law_1433 ⟨(Nat.le_of_ble_eq_true rfl), (Nat.le_of_ble_eq_true rfl), (Nat.le_trans (Nat.add_le_add_right hc _) (Nat.le_of_ble_eq_true rfl)), (Nat.le_trans (Nat.add_le_add_right hsl _) (Nat.le_of_ble_eq_true rfl))⟩ (Nat.le_of_ble_eq_true rfl) hS.2.2.1 (by omega) (s_X7_given hS (Sc_r hsc _)) (fun v_1433 n_1433 M_1433 hn_1433 hp => ?_)
  obtain ⟨⟨rfl, rfl⟩, hS1, f1⟩ := hp
  obtain ⟨hX1, hF1, ho1⟩ := LSt_7 f1 hX hF hfl ho
  refine jr_aload_n (pc := 1436) h dL_law_1436 rfl ?_
  refine jr_aload_n (pc := 1437) h dL_law_1437 rfl ?_
  refine jr_iload (pc := 1438) h dL_law_1438 rfl ?_
  refine jr_iconst (pc := 1440) h dL_law_1440 ?_
  refine jr_iadd (pc := 1441) h dL_law_1441 ?_
  refine jr_sld (pc := 1442) h hsc dL_law_1442 (by omega) ?_
  refine iv_L_191 (pc := 1443) h hl hR dL_law_1443 ⟨(Nat.le_of_ble_eq_true rfl), (Nat.le_of_ble_eq_true rfl), (Nat.le_trans (Nat.add_le_add_right (Nat.add_le_add_right hc _) _) (Nat.le_of_ble_eq_true rfl)), (Nat.le_trans (Nat.add_le_add_right (Nat.add_le_add_right hsl _) _) (Nat.le_of_ble_eq_true rfl))⟩ (Nat.le_of_ble_eq_true rfl) hX1.2.1 (by omega) (s_X9_given hX1 hF1 (Sc_r hsc _)) (fun v_1443 n_1443 M_1443 hn_1443 hp => ?_)
  obtain ⟨⟨rfl, rfl⟩, hX2, f2⟩ := hp
  obtain ⟨hS2, hF2, ho2⟩ := LSt_9 f2 hS1 hF1 hfl ho1
  refine jr_same2 (pc := 1446) h 1583 dL_law_1446 (by decide) ?_
  exact kk _ _ _ _ (by
    have q9 : rX7_given.cells + rX9_given.cells ≤ 31 := (Nat.le_of_ble_eq_true rfl)
    omega) (by
    have q9 : rX7_given.slots + rX9_given.slots ≤ 250 := (Nat.le_of_ble_eq_true rfl)
    omega) (Nat.le_refl _) (Nat.le_add_right _ _) ⟨cu, dr, _, _, _, ct, td, bk, si, ld, _, g3, sp, sk, fa, go, _, _, _, _, _, _, fl, rd, _, _, ⟨h77, hS2, hX2, hF2, hfl, ho2⟩, IV_q hI t4_given⟩
set_option maxHeartbeats 1000000 in
set_option maxRecDepth 20000 in
theorem lc_41 {κ : jC} {l : Launch} (h : Ok κ RL cL_law 7 (some .boolean)) (hl : κ.2.1 = l) (hR : Rm κ 16 600 601024 7293034) {L : Nat} {X : Nat → Int} (hsc : Sc κ L X) {i : Int} (hi : 0 ≤ i ∧ i + 6 ≤ L ∧ L ≤ 3072) {c sl n : Nat} {M : jdM} (hc : c ≤ 600000) (hsl : sl ≤ 7200000) (hn : n ≤ 700000) (hB : BN n M) (kk : KK κ c sl n i) : J κ 7 c sl n 1451 [some (.ref 1000999), some (.ref 0), some (.ref 63), some (.ref 76), some (jI i), none, none] [] M := by
  unfold KK at kk
  obtain ⟨cu, dr, g, bs, p, ct, td, bk, si, ld, D, g3, sp, sk, fa, go, mk, tg, tk, tr, g', w, fl, rd, B, fo, ⟨h77, hS, hX, hF, hfl, ho⟩, hI⟩ := hB
  obtain ⟨⟨a1, a2, a3, a4, a5, a6, a7, a8, a9, a10, a11⟩, ⟨b1, b2⟩, ⟨c1, c2, c3⟩, ⟨d1, d2, d3⟩, e9, ⟨r1, r2, r3⟩, ⟨k1, k2⟩, l9, ⟨qK, qr, q2, qfl, qdr, qW, qpr, q5⟩⟩ := id hI
  subst d1
  subst d2
  refine jr_aload_n (pc := 1451) h dL_law_1451 rfl ?_
  refine iv_L_192 (pc := 1452) h hl hR dL_law_1452 ⟨(Nat.le_of_ble_eq_true rfl), (Nat.le_of_ble_eq_true rfl), (Nat.le_trans (Nat.add_le_add_right hc _) (Nat.le_of_ble_eq_true rfl)), (Nat.le_trans (Nat.add_le_add_right hsl _) (Nat.le_of_ble_eq_true rfl))⟩ (Nat.le_of_ble_eq_true rfl) hS.2.2.1 (by omega) (s_X7_coins hS) (fun v_1452 n_1452 M_1452 hn_1452 hp => ?_)
  obtain ⟨rfl, rfl, rfl⟩ := hp
  have hS1 := hS
  have hX1 := hX
  have hF1 := hF
  have ho1 := ho
  refine jr_aload_n (pc := 1455) h dL_law_1455 rfl ?_
  refine iv_L_195 (pc := 1456) h hl hR dL_law_1456 ⟨(Nat.le_of_ble_eq_true rfl), (Nat.le_of_ble_eq_true rfl), (Nat.le_trans (Nat.add_le_add_right (Nat.add_le_add_right hc _) _) (Nat.le_of_ble_eq_true rfl)), (Nat.le_trans (Nat.add_le_add_right (Nat.add_le_add_right hsl _) _) (Nat.le_of_ble_eq_true rfl))⟩ (Nat.le_of_ble_eq_true rfl) hX1.2.1 (by omega) (s_X9_coins hX1) (fun v_1456 n_1456 M_1456 hn_1456 hp => ?_)
  obtain ⟨⟨rfl, rfl⟩, hX2, f2⟩ := hp
  obtain ⟨hS2, hF2, ho2⟩ := LSt_9 f2 hS1 hF1 hfl ho1
  refine jr_same2 (pc := 1459) h 1583 dL_law_1459 (by decide) ?_
  exact kk _ _ _ _ (by
    have q9 : rX7_coins.cells + rX9_coins.cells ≤ 31 := (Nat.le_of_ble_eq_true rfl)
    omega) (by
    have q9 : rX7_coins.slots + rX9_coins.slots ≤ 250 := (Nat.le_of_ble_eq_true rfl)
    omega) (Nat.le_refl _) (Nat.le_add_right _ _) ⟨cu, dr, _, _, _, ct, td, bk, si, ld, _, g3, sp, sk, fa, go, _, _, _, _, _, _, fl, rd, _, _, ⟨h77, hS2, hX2, hF2, hfl, ho2⟩, IV_0 hI⟩
set_option maxHeartbeats 1000000 in
set_option maxRecDepth 20000 in
theorem lc_42 {κ : jC} {l : Launch} (h : Ok κ RL cL_law 7 (some .boolean)) (hl : κ.2.1 = l) (hR : Rm κ 16 600 601024 7293034) {L : Nat} {X : Nat → Int} (hsc : Sc κ L X) {i : Int} (hi : 0 ≤ i ∧ i + 6 ≤ L ∧ L ≤ 3072) {c sl n : Nat} {M : jdM} (hc : c ≤ 600000) (hsl : sl ≤ 7200000) (hn : n ≤ 700000) (hB : BN n M) (kk : KK κ c sl n i) : J κ 7 c sl n 1464 [some (.ref 1000999), some (.ref 0), some (.ref 63), some (.ref 76), some (jI i), none, none] [] M := by
  unfold KK at kk
  obtain ⟨cu, dr, g, bs, p, ct, td, bk, si, ld, D, g3, sp, sk, fa, go, mk, tg, tk, tr, g', w, fl, rd, B, fo, ⟨h77, hS, hX, hF, hfl, ho⟩, hI⟩ := hB
  obtain ⟨⟨a1, a2, a3, a4, a5, a6, a7, a8, a9, a10, a11⟩, ⟨b1, b2⟩, ⟨c1, c2, c3⟩, ⟨d1, d2, d3⟩, e9, ⟨r1, r2, r3⟩, ⟨k1, k2⟩, l9, ⟨qK, qr, q2, qfl, qdr, qW, qpr, q5⟩⟩ := id hI
  subst d1
  subst d2
  refine jr_aload_n (pc := 1464) h dL_law_1464 rfl ?_
  refine jr_aload_n (pc := 1465) h dL_law_1465 rfl ?_
  refine jr_iload (pc := 1466) h dL_law_1466 rfl ?_
  refine jr_iconst (pc := 1468) h dL_law_1468 ?_
  refine jr_iadd (pc := 1469) h dL_law_1469 ?_
  refine jr_sld (pc := 1470) h hsc dL_law_1470 (by omega) ?_
  refine iv_L_196 (pc := 1471) h hl hR dL_law_1471 ⟨(Nat.le_of_ble_eq_true rfl), (Nat.le_of_ble_eq_true rfl), (Nat.le_trans (Nat.add_le_add_right hc _) (Nat.le_of_ble_eq_true rfl)), (Nat.le_trans (Nat.add_le_add_right hsl _) (Nat.le_of_ble_eq_true rfl))⟩ (Nat.le_of_ble_eq_true rfl) hS.2.2.1 (by omega) (s_X7_change hS (Sc_r hsc _) (IV_tk hI)) (fun v_1471 n_1471 M_1471 hn_1471 hp => ?_)
  obtain ⟨⟨rfl, rfl⟩, hS1, f1⟩ := hp
  obtain ⟨hX1, hF1, ho1⟩ := LSt_7 f1 hX hF hfl ho
  refine jr_aload_n (pc := 1474) h dL_law_1474 rfl ?_
  refine jr_aload_n (pc := 1475) h dL_law_1475 rfl ?_
  refine jr_iload (pc := 1476) h dL_law_1476 rfl ?_
  refine jr_iconst (pc := 1478) h dL_law_1478 ?_
  refine jr_iadd (pc := 1479) h dL_law_1479 ?_
  refine jr_sld (pc := 1480) h hsc dL_law_1480 (by omega) ?_
  refine iv_L_199 (pc := 1481) h hl hR dL_law_1481 ⟨(Nat.le_of_ble_eq_true rfl), (Nat.le_of_ble_eq_true rfl), (Nat.le_trans (Nat.add_le_add_right (Nat.add_le_add_right hc _) _) (Nat.le_of_ble_eq_true rfl)), (Nat.le_trans (Nat.add_le_add_right (Nat.add_le_add_right hsl _) _) (Nat.le_of_ble_eq_true rfl))⟩ (Nat.le_of_ble_eq_true rfl) hX1.2.1 (by omega) (s_X9_change hX1 (Sc_r hsc _) (fun j _ => d3 j)) (fun v_1481 n_1481 M_1481 hn_1481 hp => ?_)
  obtain ⟨⟨rfl, rfl⟩, b12, hX2, f2⟩ := hp
  obtain ⟨hS2, hF2, ho2⟩ := LSt_9 f2 hS1 hF1 hfl ho1
  have e0 : (if 0 ≤ (X (i + 1).toNat) ∧ (X (i + 1).toNat) ≤ 199 then wayC (B 8) 6 (X (i + 1).toNat) else -1) = (x_change (B 8) (X (i + 1).toNat)).1 := by
    unfold x_change
    split <;> rfl
  have e1 : (if 0 ≤ (X (i + 1).toNat) ∧ (X (i + 1).toNat) ≤ 199 then (0 : Int) else 2) = (x_change (B 8) (X (i + 1).toNat)).2 := by
    unfold x_change
    split <;> rfl
  rw [e0]
  rw [e1] at hX2
  refine jr_same2 (pc := 1484) h 1583 dL_law_1484 (by decide) ?_
  exact kk _ _ _ _ (by
    have q9 : rX7_change.cells + rX9_change.cells ≤ 31 := (Nat.le_of_ble_eq_true rfl)
    omega) (by
    have q9 : rX7_change.slots + rX9_change.slots ≤ 250 := (Nat.le_of_ble_eq_true rfl)
    omega) (Nat.le_refl _) (Nat.le_add_right _ _) ⟨cu, dr, _, _, _, ct, td, bk, si, ld, _, g3, sp, sk, fa, go, _, _, _, _, _, _, fl, rd, _, _, ⟨h77, hS2, hX2, hF2, hfl, ho2⟩, IV_q (IV_B (B' := up B 12 b12) hI rfl e9 rfl rfl rfl rfl) t4_change⟩
set_option maxHeartbeats 1000000 in
set_option maxRecDepth 20000 in
theorem lc_44 {κ : jC} {l : Launch} (h : Ok κ RL cL_law 7 (some .boolean)) (hl : κ.2.1 = l) (hR : Rm κ 16 600 601024 7293034) {L : Nat} {X : Nat → Int} (hsc : Sc κ L X) {i : Int} (hi : 0 ≤ i ∧ i + 6 ≤ L ∧ L ≤ 3072) {c sl n : Nat} {M : jdM} (hc : c ≤ 600000) (hsl : sl ≤ 7200000) (hn : n ≤ 700000) (hB : BN n M) (kk : KK κ c sl n i) : J κ 7 c sl n 1545 [some (.ref 1000999), some (.ref 0), some (.ref 63), some (.ref 76), some (jI i), none, none] [] M := by
  unfold KK at kk
  obtain ⟨cu, dr, g, bs, p, ct, td, bk, si, ld, D, g3, sp, sk, fa, go, mk, tg, tk, tr, g', w, fl, rd, B, fo, ⟨h77, hS, hX, hF, hfl, ho⟩, hI⟩ := hB
  obtain ⟨⟨a1, a2, a3, a4, a5, a6, a7, a8, a9, a10, a11⟩, ⟨b1, b2⟩, ⟨c1, c2, c3⟩, ⟨d1, d2, d3⟩, e9, ⟨r1, r2, r3⟩, ⟨k1, k2⟩, l9, ⟨qK, qr, q2, qfl, qdr, qW, qpr, q5⟩⟩ := id hI
  subst d1
  subst d2
  refine jr_aload_n (pc := 1545) h dL_law_1545 rfl ?_
  refine jr_aload_n (pc := 1546) h dL_law_1546 rfl ?_
  refine jr_iload (pc := 1547) h dL_law_1547 rfl ?_
  refine jr_iconst (pc := 1549) h dL_law_1549 ?_
  refine jr_iadd (pc := 1550) h dL_law_1550 ?_
  refine jr_sld (pc := 1551) h hsc dL_law_1551 (by omega) ?_
  refine iv_L_209 (pc := 1552) h hl hR dL_law_1552 ⟨(Nat.le_of_ble_eq_true rfl), (Nat.le_of_ble_eq_true rfl), (Nat.le_trans (Nat.add_le_add_right hc _) (Nat.le_of_ble_eq_true rfl)), (Nat.le_trans (Nat.add_le_add_right hsl _) (Nat.le_of_ble_eq_true rfl))⟩ (Nat.le_of_ble_eq_true rfl) hS.2.2.1 (by omega) (s_X7_size hS (Sc_r hsc _)) (fun v_1552 n_1552 M_1552 hn_1552 hp => ?_)
  obtain ⟨rfl, rfl, rfl⟩ := hp
  have hS1 := hS
  have hX1 := hX
  have hF1 := hF
  have ho1 := ho
  refine jr_aload_n (pc := 1555) h dL_law_1555 rfl ?_
  refine jr_aload_n (pc := 1556) h dL_law_1556 rfl ?_
  refine jr_iload (pc := 1557) h dL_law_1557 rfl ?_
  refine jr_iconst (pc := 1559) h dL_law_1559 ?_
  refine jr_iadd (pc := 1560) h dL_law_1560 ?_
  refine jr_sld (pc := 1561) h hsc dL_law_1561 (by omega) ?_
  refine iv_L_212 (pc := 1562) h hl hR dL_law_1562 ⟨(Nat.le_of_ble_eq_true rfl), (Nat.le_of_ble_eq_true rfl), (Nat.le_trans (Nat.add_le_add_right (Nat.add_le_add_right hc _) _) (Nat.le_of_ble_eq_true rfl)), (Nat.le_trans (Nat.add_le_add_right (Nat.add_le_add_right hsl _) _) (Nat.le_of_ble_eq_true rfl))⟩ (Nat.le_of_ble_eq_true rfl) hX1.2.1 (by omega) (s_X9_size hX1 hF1 a8 a6 a9 r1.2.2.2.2.2.2.1 l9 (Sc_r hsc _)) (fun v_1562 n_1562 M_1562 hn_1562 hp => ?_)
  obtain ⟨⟨rfl, rfl⟩, hX2, f2⟩ := hp
  obtain ⟨hS2, hF2, ho2⟩ := LSt_9 f2 hS1 hF1 hfl ho1
  refine jr_same2 (pc := 1565) h 1583 dL_law_1565 (by decide) ?_
  exact kk _ _ _ _ (by
    have q9 : rX7_size.cells + rX9_size.cells ≤ 31 := (Nat.le_of_ble_eq_true rfl)
    omega) (by
    have q9 : rX7_size.slots + rX9_size.slots ≤ 250 := (Nat.le_of_ble_eq_true rfl)
    omega) (Nat.le_refl _) (Nat.le_add_right _ _) ⟨cu, dr, _, _, _, ct, td, bk, si, ld, _, g3, sp, sk, fa, go, _, _, _, _, _, _, fl, rd, _, _, ⟨h77, hS2, hX2, hF2, hfl, ho2⟩, IV_0 hI⟩
set_option maxHeartbeats 1000000 in
set_option maxRecDepth 20000 in
theorem lc_45 {κ : jC} {l : Launch} (h : Ok κ RL cL_law 7 (some .boolean)) (hl : κ.2.1 = l) (hR : Rm κ 16 600 601024 7293034) {L : Nat} {X : Nat → Int} (hsc : Sc κ L X) {i : Int} (hi : 0 ≤ i ∧ i + 6 ≤ L ∧ L ≤ 3072) {c sl n : Nat} {M : jdM} (hc : c ≤ 600000) (hsl : sl ≤ 7200000) (hn : n ≤ 700000) (hB : BN n M) (kk : KK κ c sl n i) : J κ 7 c sl n 1570 [some (.ref 1000999), some (.ref 0), some (.ref 63), some (.ref 76), some (jI i), none, none] [] M := by
  unfold KK at kk
  obtain ⟨cu, dr, g, bs, p, ct, td, bk, si, ld, D, g3, sp, sk, fa, go, mk, tg, tk, tr, g', w, fl, rd, B, fo, ⟨h77, hS, hX, hF, hfl, ho⟩, hI⟩ := hB
  obtain ⟨⟨a1, a2, a3, a4, a5, a6, a7, a8, a9, a10, a11⟩, ⟨b1, b2⟩, ⟨c1, c2, c3⟩, ⟨d1, d2, d3⟩, e9, ⟨r1, r2, r3⟩, ⟨k1, k2⟩, l9, ⟨qK, qr, q2, qfl, qdr, qW, qpr, q5⟩⟩ := id hI
  subst d1
  subst d2
  refine jr_aload_n (pc := 1570) h dL_law_1570 rfl ?_
  refine iv_L_213 (pc := 1571) h hl hR dL_law_1571 ⟨(Nat.le_of_ble_eq_true rfl), (Nat.le_of_ble_eq_true rfl), (Nat.le_trans (Nat.add_le_add_right hc _) (Nat.le_of_ble_eq_true rfl)), (Nat.le_trans (Nat.add_le_add_right hsl _) (Nat.le_of_ble_eq_true rfl))⟩ (Nat.le_of_ble_eq_true rfl) hS.2.2.1 (by omega) (s_X7_trouble hS) (fun v_1571 n_1571 M_1571 hn_1571 hp => ?_)
  obtain ⟨rfl, rfl, rfl⟩ := hp
  have hS1 := hS
  have hX1 := hX
  have hF1 := hF
  have ho1 := ho
  refine jr_aload_n (pc := 1574) h dL_law_1574 rfl ?_
  refine iv_L_216 (pc := 1575) h hl hR dL_law_1575 ⟨(Nat.le_of_ble_eq_true rfl), (Nat.le_of_ble_eq_true rfl), (Nat.le_trans (Nat.add_le_add_right (Nat.add_le_add_right hc _) _) (Nat.le_of_ble_eq_true rfl)), (Nat.le_trans (Nat.add_le_add_right (Nat.add_le_add_right hsl _) _) (Nat.le_of_ble_eq_true rfl))⟩ (Nat.le_of_ble_eq_true rfl) hX1.2.1 (by omega) (s_X9_trouble hX1) (fun v_1575 n_1575 M_1575 hn_1575 hp => ?_)
  obtain ⟨⟨rfl, rfl⟩, hX2, f2⟩ := hp
  obtain ⟨hS2, hF2, ho2⟩ := LSt_9 f2 hS1 hF1 hfl ho1
  rw [a4]
  refine jr_same2 (pc := 1578) h 1583 dL_law_1578 (by decide) ?_
  exact kk _ _ _ _ (by
    have q9 : rX7_trouble.cells + rX9_trouble.cells ≤ 31 := (Nat.le_of_ble_eq_true rfl)
    omega) (by
    have q9 : rX7_trouble.slots + rX9_trouble.slots ≤ 250 := (Nat.le_of_ble_eq_true rfl)
    omega) (Nat.le_refl _) (Nat.le_add_right _ _) ⟨cu, dr, _, _, _, ct, td, bk, si, ld, _, g3, sp, sk, fa, go, _, _, _, _, _, _, fl, rd, _, _, ⟨h77, hS2, hX2, hF2, hfl, ho2⟩, IV_0 hI⟩
