/-! 98.p: calls that ask, one behind the other -/
/-- the loop goes on from here -/
def KK (κ : jC) (c sl n : Nat) (i : Int) : Prop := ∀ (c' sl' n' : Nat) (M' : jdM), c' ≤ c + 31 → sl' ≤ sl + 250 → n ≤ n' → n' ≤ n + 31 → BN n' M' → J κ 7 c' sl' n' 1583 [some (.ref 1000999), some (.ref 0), some (.ref 63), some (.ref 76), some (jI i), none, none] [] M'
set_option maxHeartbeats 1000000 in
set_option maxRecDepth 20000 in
theorem lc_4 {κ : jC} {l : Launch} (h : Ok κ RL cL_law 7 (some .boolean)) (hl : κ.2.1 = l) (hR : Rm κ 16 600 601024 7293034) {L : Nat} {X : Nat → Int} (hsc : Sc κ L X) {i : Int} (hi : 0 ≤ i ∧ i + 6 ≤ L ∧ L ≤ 3072) {c sl n : Nat} {M : jdM} (hc : c ≤ 600000) (hsl : sl ≤ 7200000) (hn : n ≤ 700000) (hB : BN n M) (kk : KK κ c sl n i) : J κ 7 c sl n 364 [some (.ref 1000999), some (.ref 0), some (.ref 63), some (.ref 76), some (jI i), none, none] [] M := by
  unfold KK at kk
  obtain ⟨cu, dr, g, bs, p, ct, td, bk, si, ld, D, g3, sp, sk, fa, go, mk, tg, tk, tr, g', w, fl, rd, B, fo, ⟨h77, hS, hX, hF, hfl, ho⟩, hI⟩ := hB
  obtain ⟨⟨a1, a2, a3, a4, a5, a6, a7, a8, a9, a10, a11⟩, ⟨b1, b2⟩, ⟨c1, c2, c3⟩, ⟨d1, d2, d3⟩, e9, ⟨r1, r2, r3⟩, ⟨k1, k2⟩, l9, ⟨qK, qr, q2, qfl, qdr, qW, qpr, q5⟩⟩ := id hI
  subst d1
  subst d2
  refine jr_aload_n (pc := 364) h dL_law_364 rfl ?_
  refine jr_aload_n (pc := 365) h dL_law_365 rfl ?_
  refine jr_iload (pc := 366) h dL_law_366 rfl ?_
  refine jr_iconst (pc := 368) h dL_law_368 ?_
  refine jr_iadd (pc := 369) h dL_law_369 ?_
  refine jr_sld (pc := 370) h hsc dL_law_370 (by omega) ?_
  refine iv_L_37 (pc := 371) h hl hR dL_law_371 ⟨(Nat.le_of_ble_eq_true rfl), (Nat.le_of_ble_eq_true rfl), (Nat.le_trans (Nat.add_le_add_right hc _) (Nat.le_of_ble_eq_true rfl)), (Nat.le_trans (Nat.add_le_add_right hsl _) (Nat.le_of_ble_eq_true rfl))⟩ (Nat.le_of_ble_eq_true rfl) hS.2.2.1 (by omega) (s_X7_sits hS (Sc_r hsc _)) (fun v_371 n_371 M_371 hn_371 hp => ?_)
  obtain ⟨⟨rfl, rfl⟩, hS1, f1⟩ := hp
  obtain ⟨hX1, hF1, ho1⟩ := LSt_7 f1 hX hF hfl ho
  refine jr_aload_n (pc := 374) h dL_law_374 rfl ?_
  refine jr_aload_n (pc := 375) h dL_law_375 rfl ?_
  refine jr_iload (pc := 376) h dL_law_376 rfl ?_
  refine jr_iconst (pc := 378) h dL_law_378 ?_
  refine jr_iadd (pc := 379) h dL_law_379 ?_
  refine jr_sld (pc := 380) h hsc dL_law_380 (by omega) ?_
  refine iv_L_40 (pc := 381) h hl hR dL_law_381 ⟨(Nat.le_of_ble_eq_true rfl), (Nat.le_of_ble_eq_true rfl), (Nat.le_trans (Nat.add_le_add_right (Nat.add_le_add_right hc _) _) (Nat.le_of_ble_eq_true rfl)), (Nat.le_trans (Nat.add_le_add_right (Nat.add_le_add_right hsl _) _) (Nat.le_of_ble_eq_true rfl))⟩ (Nat.le_of_ble_eq_true rfl) hX1.2.1 (by omega) (s_X9_sits hX1 hF1 (Sc_r hsc _)) (fun v_381 n_381 M_381 hn_381 hp => ?_)
  obtain ⟨⟨rfl, rfl⟩, hX2, f2⟩ := hp
  obtain ⟨hS2, hF2, ho2⟩ := LSt_9 f2 hS1 hF1 hfl ho1
  refine jr_same2 (pc := 384) h 1583 dL_law_384 (by decide) ?_
  exact kk _ _ _ _ (by
    have q9 : rX7_sits.cells + rX9_sits.cells ≤ 31 := (Nat.le_of_ble_eq_true rfl)
    omega) (by
    have q9 : rX7_sits.slots + rX9_sits.slots ≤ 250 := (Nat.le_of_ble_eq_true rfl)
    omega) (Nat.le_refl _) (Nat.le_add_right _ _) ⟨cu, dr, _, _, _, ct, td, bk, si, ld, _, g3, sp, sk, fa, go, _, _, _, _, _, _, fl, rd, _, _, ⟨h77, hS2, hX2, hF2, hfl, ho2⟩, IV_q hI t4_sits⟩
set_option maxHeartbeats 1000000 in
set_option maxRecDepth 20000 in
theorem lc_5 {κ : jC} {l : Launch} (h : Ok κ RL cL_law 7 (some .boolean)) (hl : κ.2.1 = l) (hR : Rm κ 16 600 601024 7293034) {L : Nat} {X : Nat → Int} (hsc : Sc κ L X) {i : Int} (hi : 0 ≤ i ∧ i + 6 ≤ L ∧ L ≤ 3072) {c sl n : Nat} {M : jdM} (hc : c ≤ 600000) (hsl : sl ≤ 7200000) (hn : n ≤ 700000) (hB : BN n M) (kk : KK κ c sl n i) : J κ 7 c sl n 389 [some (.ref 1000999), some (.ref 0), some (.ref 63), some (.ref 76), some (jI i), none, none] [] M := by
  unfold KK at kk
  obtain ⟨cu, dr, g, bs, p, ct, td, bk, si, ld, D, g3, sp, sk, fa, go, mk, tg, tk, tr, g', w, fl, rd, B, fo, ⟨h77, hS, hX, hF, hfl, ho⟩, hI⟩ := hB
  obtain ⟨⟨a1, a2, a3, a4, a5, a6, a7, a8, a9, a10, a11⟩, ⟨b1, b2⟩, ⟨c1, c2, c3⟩, ⟨d1, d2, d3⟩, e9, ⟨r1, r2, r3⟩, ⟨k1, k2⟩, l9, ⟨qK, qr, q2, qfl, qdr, qW, qpr, q5⟩⟩ := id hI
  subst d1
  subst d2
  refine jr_aload_n (pc := 389) h dL_law_389 rfl ?_
  refine iv_L_41 (pc := 390) h hl hR dL_law_390 ⟨(Nat.le_of_ble_eq_true rfl), (Nat.le_of_ble_eq_true rfl), (Nat.le_trans (Nat.add_le_add_right hc _) (Nat.le_of_ble_eq_true rfl)), (Nat.le_trans (Nat.add_le_add_right hsl _) (Nat.le_of_ble_eq_true rfl))⟩ (Nat.le_of_ble_eq_true rfl) hS.2.2.1 (by omega) (s_X7_all hS) (fun v_390 n_390 M_390 hn_390 hp => ?_)
  obtain ⟨⟨rfl, rfl⟩, hS1, f1⟩ := hp
  obtain ⟨hX1, hF1, ho1⟩ := LSt_7 f1 hX hF hfl ho
  refine jr_aload_n (pc := 393) h dL_law_393 rfl ?_
  refine iv_L_44 (pc := 394) h hl hR dL_law_394 ⟨(Nat.le_of_ble_eq_true rfl), (Nat.le_of_ble_eq_true rfl), (Nat.le_trans (Nat.add_le_add_right (Nat.add_le_add_right hc _) _) (Nat.le_of_ble_eq_true rfl)), (Nat.le_trans (Nat.add_le_add_right (Nat.add_le_add_right hsl _) _) (Nat.le_of_ble_eq_true rfl))⟩ (Nat.le_of_ble_eq_true rfl) hX1.2.1 (by omega) (s_X9_all hX1 hF1) (fun v_394 n_394 M_394 hn_394 hp => ?_)
  obtain ⟨⟨rfl, rfl⟩, hX2, f2⟩ := hp
  obtain ⟨hS2, hF2, ho2⟩ := LSt_9 f2 hS1 hF1 hfl ho1
  refine jr_same2 (pc := 397) h 1583 dL_law_397 (by decide) ?_
  exact kk _ _ _ _ (by
    have q9 : rX7_all.cells + rX9_all.cells ≤ 31 := (Nat.le_of_ble_eq_true rfl)
    omega) (by
    have q9 : rX7_all.slots + rX9_all.slots ≤ 250 := (Nat.le_of_ble_eq_true rfl)
    omega) (Nat.le_refl _) (Nat.le_add_right _ _) ⟨cu, dr, _, _, _, ct, td, bk, si, ld, _, g3, sp, sk, fa, go, _, _, _, _, _, _, fl, rd, _, _, ⟨h77, hS2, hX2, hF2, hfl, ho2⟩, IV_q hI t4_all⟩
set_option maxHeartbeats 1000000 in
set_option maxRecDepth 20000 in
theorem lc_6 {κ : jC} {l : Launch} (h : Ok κ RL cL_law 7 (some .boolean)) (hl : κ.2.1 = l) (hR : Rm κ 16 600 601024 7293034) {L : Nat} {X : Nat → Int} (hsc : Sc κ L X) {i : Int} (hi : 0 ≤ i ∧ i + 6 ≤ L ∧ L ≤ 3072) {c sl n : Nat} {M : jdM} (hc : c ≤ 600000) (hsl : sl ≤ 7200000) (hn : n ≤ 700000) (hB : BN n M) (kk : KK κ c sl n i) : J κ 7 c sl n 402 [some (.ref 1000999), some (.ref 0), some (.ref 63), some (.ref 76), some (jI i), none, none] [] M := by
  unfold KK at kk
  obtain ⟨cu, dr, g, bs, p, ct, td, bk, si, ld, D, g3, sp, sk, fa, go, mk, tg, tk, tr, g', w, fl, rd, B, fo, ⟨h77, hS, hX, hF, hfl, ho⟩, hI⟩ := hB
  obtain ⟨⟨a1, a2, a3, a4, a5, a6, a7, a8, a9, a10, a11⟩, ⟨b1, b2⟩, ⟨c1, c2, c3⟩, ⟨d1, d2, d3⟩, e9, ⟨r1, r2, r3⟩, ⟨k1, k2⟩, l9, ⟨qK, qr, q2, qfl, qdr, qW, qpr, q5⟩⟩ := id hI
  subst d1
  subst d2
  refine jr_aload_n (pc := 402) h dL_law_402 rfl ?_
  refine jr_aload_n (pc := 403) h dL_law_403 rfl ?_
  refine jr_iload (pc := 404) h dL_law_404 rfl ?_
  refine jr_iconst (pc := 406) h dL_law_406 ?_
  refine jr_iadd (pc := 407) h dL_law_407 ?_
  refine jr_sld (pc := 408) h hsc dL_law_408 (by omega) ?_
  refine jr_aload_n (pc := 409) h dL_law_409 rfl ?_
  refine jr_iload (pc := 410) h dL_law_410 rfl ?_
  refine jr_iconst (pc := 412) h dL_law_412 ?_
  refine jr_iadd (pc := 413) h dL_law_413 ?_
  refine jr_sld (pc := 414) h hsc dL_law_414 (by omega) ?_
  refine iv_L_45 (pc := 415) h hl hR dL_law_415 ⟨(Nat.le_of_ble_eq_true rfl), (Nat.le_of_ble_eq_true rfl), (Nat.le_trans (Nat.add_le_add_right hc _) (Nat.le_of_ble_eq_true rfl)), (Nat.le_trans (Nat.add_le_add_right hsl _) (Nat.le_of_ble_eq_true rfl))⟩ (Nat.le_of_ble_eq_true rfl) hS.2.2.1 (by omega) (s_X7_likes hS (Sc_r hsc _) (Sc_r hsc _)) (fun v_415 n_415 M_415 hn_415 hp => ?_)
  obtain ⟨⟨rfl, rfl⟩, hS1, f1⟩ := hp
  obtain ⟨hX1, hF1, ho1⟩ := LSt_7 f1 hX hF hfl ho
  refine jr_aload_n (pc := 418) h dL_law_418 rfl ?_
  refine jr_aload_n (pc := 419) h dL_law_419 rfl ?_
  refine jr_iload (pc := 420) h dL_law_420 rfl ?_
  refine jr_iconst (pc := 422) h dL_law_422 ?_
  refine jr_iadd (pc := 423) h dL_law_423 ?_
  refine jr_sld (pc := 424) h hsc dL_law_424 (by omega) ?_
  refine jr_aload_n (pc := 425) h dL_law_425 rfl ?_
  refine jr_iload (pc := 426) h dL_law_426 rfl ?_
  refine jr_iconst (pc := 428) h dL_law_428 ?_
  refine jr_iadd (pc := 429) h dL_law_429 ?_
  refine jr_sld (pc := 430) h hsc dL_law_430 (by omega) ?_
  refine iv_L_49 (pc := 431) h hl hR dL_law_431 ⟨(Nat.le_of_ble_eq_true rfl), (Nat.le_of_ble_eq_true rfl), (Nat.le_trans (Nat.add_le_add_right (Nat.add_le_add_right hc _) _) (Nat.le_of_ble_eq_true rfl)), (Nat.le_trans (Nat.add_le_add_right (Nat.add_le_add_right hsl _) _) (Nat.le_of_ble_eq_true rfl))⟩ (Nat.le_of_ble_eq_true rfl) hX1.2.1 (by omega) (s_X9_likes hX1 hF1 (Sc_r hsc _) (Sc_r hsc _)) (fun v_431 n_431 M_431 hn_431 hp => ?_)
  obtain ⟨⟨rfl, rfl⟩, hX2, f2⟩ := hp
  obtain ⟨hS2, hF2, ho2⟩ := LSt_9 f2 hS1 hF1 hfl ho1
  refine jr_same2 (pc := 434) h 1583 dL_law_434 (by decide) ?_
  exact kk _ _ _ _ (by
    have q9 : rX7_likes.cells + rX9_likes.cells ≤ 31 := (Nat.le_of_ble_eq_true rfl)
    omega) (by
    have q9 : rX7_likes.slots + rX9_likes.slots ≤ 250 := (Nat.le_of_ble_eq_true rfl)
    omega) (Nat.le_refl _) (Nat.le_add_right _ _) ⟨cu, dr, _, _, _, ct, td, bk, si, ld, _, g3, sp, sk, fa, go, _, _, _, _, _, _, fl, rd, _, _, ⟨h77, hS2, hX2, hF2, hfl, ho2⟩, IV_q hI t4_likes⟩
set_option maxHeartbeats 1000000 in
set_option maxRecDepth 20000 in
theorem lc_7 {κ : jC} {l : Launch} (h : Ok κ RL cL_law 7 (some .boolean)) (hl : κ.2.1 = l) (hR : Rm κ 16 600 601024 7293034) {L : Nat} {X : Nat → Int} (hsc : Sc κ L X) {i : Int} (hi : 0 ≤ i ∧ i + 6 ≤ L ∧ L ≤ 3072) {c sl n : Nat} {M : jdM} (hc : c ≤ 600000) (hsl : sl ≤ 7200000) (hn : n ≤ 700000) (hB : BN n M) (kk : KK κ c sl n i) : J κ 7 c sl n 439 [some (.ref 1000999), some (.ref 0), some (.ref 63), some (.ref 76), some (jI i), none, none] [] M := by
  unfold KK at kk
  obtain ⟨cu, dr, g, bs, p, ct, td, bk, si, ld, D, g3, sp, sk, fa, go, mk, tg, tk, tr, g', w, fl, rd, B, fo, ⟨h77, hS, hX, hF, hfl, ho⟩, hI⟩ := hB
  obtain ⟨⟨a1, a2, a3, a4, a5, a6, a7, a8, a9, a10, a11⟩, ⟨b1, b2⟩, ⟨c1, c2, c3⟩, ⟨d1, d2, d3⟩, e9, ⟨r1, r2, r3⟩, ⟨k1, k2⟩, l9, ⟨qK, qr, q2, qfl, qdr, qW, qpr, q5⟩⟩ := id hI
  subst d1
  subst d2
  refine jr_aload_n (pc := 439) h dL_law_439 rfl ?_
  refine jr_aload_n (pc := 440) h dL_law_440 rfl ?_
  refine jr_iload (pc := 441) h dL_law_441 rfl ?_
  refine jr_iconst (pc := 443) h dL_law_443 ?_
  refine jr_iadd (pc := 444) h dL_law_444 ?_
  refine jr_sld (pc := 445) h hsc dL_law_445 (by omega) ?_
  refine jr_aload_n (pc := 446) h dL_law_446 rfl ?_
  refine jr_iload (pc := 447) h dL_law_447 rfl ?_
  refine jr_iconst (pc := 449) h dL_law_449 ?_
  refine jr_iadd (pc := 450) h dL_law_450 ?_
  refine jr_sld (pc := 451) h hsc dL_law_451 (by omega) ?_
  refine iv_L_50 (pc := 452) h hl hR dL_law_452 ⟨(Nat.le_of_ble_eq_true rfl), (Nat.le_of_ble_eq_true rfl), (Nat.le_trans (Nat.add_le_add_right hc _) (Nat.le_of_ble_eq_true rfl)), (Nat.le_trans (Nat.add_le_add_right hsl _) (Nat.le_of_ble_eq_true rfl))⟩ (Nat.le_of_ble_eq_true rfl) hS.2.2.1 (by omega) (s_X7_loaded hS (Sc_r hsc _) (Sc_r hsc _)) (fun v_452 n_452 M_452 hn_452 hp => ?_)
  obtain ⟨⟨rfl, rfl⟩, hS1, f1⟩ := hp
  obtain ⟨hX1, hF1, ho1⟩ := LSt_7 f1 hX hF hfl ho
  refine jr_aload_n (pc := 455) h dL_law_455 rfl ?_
  refine jr_aload_n (pc := 456) h dL_law_456 rfl ?_
  refine jr_iload (pc := 457) h dL_law_457 rfl ?_
  refine jr_iconst (pc := 459) h dL_law_459 ?_
  refine jr_iadd (pc := 460) h dL_law_460 ?_
  refine jr_sld (pc := 461) h hsc dL_law_461 (by omega) ?_
  refine jr_aload_n (pc := 462) h dL_law_462 rfl ?_
  refine jr_iload (pc := 463) h dL_law_463 rfl ?_
  refine jr_iconst (pc := 465) h dL_law_465 ?_
  refine jr_iadd (pc := 466) h dL_law_466 ?_
  refine jr_sld (pc := 467) h hsc dL_law_467 (by omega) ?_
  refine iv_L_53 (pc := 468) h hl hR dL_law_468 ⟨(Nat.le_of_ble_eq_true rfl), (Nat.le_of_ble_eq_true rfl), (Nat.le_trans (Nat.add_le_add_right (Nat.add_le_add_right hc _) _) (Nat.le_of_ble_eq_true rfl)), (Nat.le_trans (Nat.add_le_add_right (Nat.add_le_add_right hsl _) _) (Nat.le_of_ble_eq_true rfl))⟩ (Nat.le_of_ble_eq_true rfl) hX1.2.1 (by omega) (s_X9_loaded hX1 hF1 (Sc_r hsc _) (Sc_r hsc _)) (fun v_468 n_468 M_468 hn_468 hp => ?_)
  obtain ⟨⟨rfl, rfl⟩, hX2, f2⟩ := hp
  obtain ⟨hS2, hF2, ho2⟩ := LSt_9 f2 hS1 hF1 hfl ho1
  refine jr_same2 (pc := 471) h 1583 dL_law_471 (by decide) ?_
  exact kk _ _ _ _ (by
    have q9 : rX7_loaded.cells + rX9_loaded.cells ≤ 31 := (Nat.le_of_ble_eq_true rfl)
    omega) (by
    have q9 : rX7_loaded.slots + rX9_loaded.slots ≤ 250 := (Nat.le_of_ble_eq_true rfl)
    omega) (Nat.le_refl _) (Nat.le_add_right _ _) ⟨cu, dr, _, _, _, ct, td, bk, si, ld, _, g3, sp, sk, fa, go, _, _, _, _, _, _, fl, rd, _, _, ⟨h77, hS2, hX2, hF2, hfl, ho2⟩, IV_q hI t4_loaded⟩
set_option maxHeartbeats 1000000 in
set_option maxRecDepth 20000 in
theorem lc_8 {κ : jC} {l : Launch} (h : Ok κ RL cL_law 7 (some .boolean)) (hl : κ.2.1 = l) (hR : Rm κ 16 600 601024 7293034) {L : Nat} {X : Nat → Int} (hsc : Sc κ L X) {i : Int} (hi : 0 ≤ i ∧ i + 6 ≤ L ∧ L ≤ 3072) {c sl n : Nat} {M : jdM} (hc : c ≤ 600000) (hsl : sl ≤ 7200000) (hn : n ≤ 700000) (hB : BN n M) (kk : KK κ c sl n i) : J κ 7 c sl n 476 [some (.ref 1000999), some (.ref 0), some (.ref 63), some (.ref 76), some (jI i), none, none] [] M := by
  unfold KK at kk
  obtain ⟨cu, dr, g, bs, p, ct, td, bk, si, ld, D, g3, sp, sk, fa, go, mk, tg, tk, tr, g', w, fl, rd, B, fo, ⟨h77, hS, hX, hF, hfl, ho⟩, hI⟩ := hB
  obtain ⟨⟨a1, a2, a3, a4, a5, a6, a7, a8, a9, a10, a11⟩, ⟨b1, b2⟩, ⟨c1, c2, c3⟩, ⟨d1, d2, d3⟩, e9, ⟨r1, r2, r3⟩, ⟨k1, k2⟩, l9, ⟨qK, qr, q2, qfl, qdr, qW, qpr, q5⟩⟩ := id hI
  subst d1
  subst d2
  refine jr_aload_n (pc := 476) h dL_law_476 rfl ?_
  refine jr_aload_n (pc := 477) h dL_law_477 rfl ?_
  refine jr_iload (pc := 478) h dL_law_478 rfl ?_
  refine jr_iconst (pc := 480) h dL_law_480 ?_
  refine jr_iadd (pc := 481) h dL_law_481 ?_
  refine jr_sld (pc := 482) h hsc dL_law_482 (by omega) ?_
  refine iv_L_54 (pc := 483) h hl hR dL_law_483 ⟨(Nat.le_of_ble_eq_true rfl), (Nat.le_of_ble_eq_true rfl), (Nat.le_trans (Nat.add_le_add_right hc _) (Nat.le_of_ble_eq_true rfl)), (Nat.le_trans (Nat.add_le_add_right hsl _) (Nat.le_of_ble_eq_true rfl))⟩ (Nat.le_of_ble_eq_true rfl) hS.2.2.1 (by omega) (s_X7_fitsIn hS (Sc_r hsc _)) (fun v_483 n_483 M_483 hn_483 hp => ?_)
  obtain ⟨⟨rfl, rfl⟩, hS1, f1⟩ := hp
  obtain ⟨hX1, hF1, ho1⟩ := LSt_7 f1 hX hF hfl ho
  refine jr_aload_n (pc := 486) h dL_law_486 rfl ?_
  refine jr_aload_n (pc := 487) h dL_law_487 rfl ?_
  refine jr_iload (pc := 488) h dL_law_488 rfl ?_
  refine jr_iconst (pc := 490) h dL_law_490 ?_
  refine jr_iadd (pc := 491) h dL_law_491 ?_
  refine jr_sld (pc := 492) h hsc dL_law_492 (by omega) ?_
  refine iv_L_57 (pc := 493) h hl hR dL_law_493 ⟨(Nat.le_of_ble_eq_true rfl), (Nat.le_of_ble_eq_true rfl), (Nat.le_trans (Nat.add_le_add_right (Nat.add_le_add_right hc _) _) (Nat.le_of_ble_eq_true rfl)), (Nat.le_trans (Nat.add_le_add_right (Nat.add_le_add_right hsl _) _) (Nat.le_of_ble_eq_true rfl))⟩ (Nat.le_of_ble_eq_true rfl) hX1.2.1 (by omega) (s_X9_fitsIn hX1 hF1 e9 (Sc_r hsc _)) (fun v_493 n_493 M_493 hn_493 hp => ?_)
  obtain ⟨⟨rfl, rfl⟩, D1, hD1, hX2, f2⟩ := hp
  obtain ⟨hS2, hF2, ho2⟩ := LSt_9 f2 hS1 hF1 hfl ho1
  refine jr_same2 (pc := 496) h 1583 dL_law_496 (by decide) ?_
  exact kk _ _ _ _ (by
    have q9 : rX7_fitsIn.cells + rX9_fitsIn.cells ≤ 31 := (Nat.le_of_ble_eq_true rfl)
    omega) (by
    have q9 : rX7_fitsIn.slots + rX9_fitsIn.slots ≤ 250 := (Nat.le_of_ble_eq_true rfl)
    omega) (Nat.le_refl _) (Nat.le_add_right _ _) ⟨cu, dr, _, _, _, ct, td, bk, si, ld, _, g3, sp, sk, fa, go, _, _, _, _, _, _, fl, rd, _, _, ⟨h77, hS2, hX2, hF2, hfl, ho2⟩, IV_q (IV_B (B' := up B 2 D1) hI rfl hD1 rfl rfl rfl rfl) t4_fits⟩
set_option maxHeartbeats 1000000 in
set_option maxRecDepth 20000 in
theorem lc_12 {κ : jC} {l : Launch} (h : Ok κ RL cL_law 7 (some .boolean)) (hl : κ.2.1 = l) (hR : Rm κ 16 600 601024 7293034) {L : Nat} {X : Nat → Int} (hsc : Sc κ L X) {i : Int} (hi : 0 ≤ i ∧ i + 6 ≤ L ∧ L ≤ 3072) {c sl n : Nat} {M : jdM} (hc : c ≤ 600000) (hsl : sl ≤ 7200000) (hn : n ≤ 700000) (hB : BN n M) (kk : KK κ c sl n i) : J κ 7 c sl n 552 [some (.ref 1000999), some (.ref 0), some (.ref 63), some (.ref 76), some (jI i), none, none] [] M := by
  unfold KK at kk
  obtain ⟨cu, dr, g, bs, p, ct, td, bk, si, ld, D, g3, sp, sk, fa, go, mk, tg, tk, tr, g', w, fl, rd, B, fo, ⟨h77, hS, hX, hF, hfl, ho⟩, hI⟩ := hB
  obtain ⟨⟨a1, a2, a3, a4, a5, a6, a7, a8, a9, a10, a11⟩, ⟨b1, b2⟩, ⟨c1, c2, c3⟩, ⟨d1, d2, d3⟩, e9, ⟨r1, r2, r3⟩, ⟨k1, k2⟩, l9, ⟨qK, qr, q2, qfl, qdr, qW, qpr, q5⟩⟩ := id hI
  subst d1
  subst d2
  refine jr_aload_n (pc := 552) h dL_law_552 rfl ?_
  refine jr_aload_n (pc := 553) h dL_law_553 rfl ?_
  refine jr_iload (pc := 554) h dL_law_554 rfl ?_
  refine jr_iconst (pc := 556) h dL_law_556 ?_
  refine jr_iadd (pc := 557) h dL_law_557 ?_
  refine jr_sld (pc := 558) h hsc dL_law_558 (by omega) ?_
  refine iv_L_71 (pc := 559) h hl hR dL_law_559 ⟨(Nat.le_of_ble_eq_true rfl), (Nat.le_of_ble_eq_true rfl), (Nat.le_trans (Nat.add_le_add_right hc _) (Nat.le_of_ble_eq_true rfl)), (Nat.le_trans (Nat.add_le_add_right hsl _) (Nat.le_of_ble_eq_true rfl))⟩ (Nat.le_of_ble_eq_true rfl) hS.2.2.1 (by omega) (s_X7_seconds hS (Sc_r hsc _)) (fun v_559 n_559 M_559 hn_559 hp => ?_)
  obtain ⟨⟨rfl, rfl⟩, hS1, f1⟩ := hp
  obtain ⟨hX1, hF1, ho1⟩ := LSt_7 f1 hX hF hfl ho
  refine jr_aload_n (pc := 562) h dL_law_562 rfl ?_
  refine jr_aload_n (pc := 563) h dL_law_563 rfl ?_
  refine jr_iload (pc := 564) h dL_law_564 rfl ?_
  refine jr_iconst (pc := 566) h dL_law_566 ?_
  refine jr_iadd (pc := 567) h dL_law_567 ?_
  refine jr_sld (pc := 568) h hsc dL_law_568 (by omega) ?_
  refine iv_L_74 (pc := 569) h hl hR dL_law_569 ⟨(Nat.le_of_ble_eq_true rfl), (Nat.le_of_ble_eq_true rfl), (Nat.le_trans (Nat.add_le_add_right (Nat.add_le_add_right hc _) _) (Nat.le_of_ble_eq_true rfl)), (Nat.le_trans (Nat.add_le_add_right (Nat.add_le_add_right hsl _) _) (Nat.le_of_ble_eq_true rfl))⟩ (Nat.le_of_ble_eq_true rfl) hX1.2.1 (by omega) (s_X9_seconds hX1 hF1 (Sc_r hsc _) r1 r2 r3) (fun v_569 n_569 M_569 hn_569 hp => ?_)
  obtain ⟨⟨rfl, rfl⟩, hX2, f2⟩ := hp
  obtain ⟨hS2, hF2, ho2⟩ := LSt_9 f2 hS1 hF1 hfl ho1
  refine jr_same2 (pc := 572) h 1583 dL_law_572 (by decide) ?_
  exact kk _ _ _ _ (by
    have q9 : rX7_seconds.cells + rX9_seconds.cells ≤ 31 := (Nat.le_of_ble_eq_true rfl)
    omega) (by
    have q9 : rX7_seconds.slots + rX9_seconds.slots ≤ 250 := (Nat.le_of_ble_eq_true rfl)
    omega) (Nat.le_refl _) (Nat.le_add_right _ _) ⟨cu, dr, _, _, _, ct, td, bk, si, ld, _, g3, sp, sk, fa, go, _, _, _, _, _, _, fl, rd, _, _, ⟨h77, hS2, hX2, hF2, hfl, ho2⟩, IV_q hI t4_seconds⟩
set_option maxHeartbeats 1000000 in
set_option maxRecDepth 20000 in
theorem lc_13 {κ : jC} {l : Launch} (h : Ok κ RL cL_law 7 (some .boolean)) (hl : κ.2.1 = l) (hR : Rm κ 16 600 601024 7293034) {L : Nat} {X : Nat → Int} (hsc : Sc κ L X) {i : Int} (hi : 0 ≤ i ∧ i + 6 ≤ L ∧ L ≤ 3072) {c sl n : Nat} {M : jdM} (hc : c ≤ 600000) (hsl : sl ≤ 7200000) (hn : n ≤ 700000) (hB : BN n M) (kk : KK κ c sl n i) : J κ 7 c sl n 577 [some (.ref 1000999), some (.ref 0), some (.ref 63), some (.ref 76), some (jI i), none, none] [] M := by
  unfold KK at kk
  obtain ⟨cu, dr, g, bs, p, ct, td, bk, si, ld, D, g3, sp, sk, fa, go, mk, tg, tk, tr, g', w, fl, rd, B, fo, ⟨h77, hS, hX, hF, hfl, ho⟩, hI⟩ := hB
  obtain ⟨⟨a1, a2, a3, a4, a5, a6, a7, a8, a9, a10, a11⟩, ⟨b1, b2⟩, ⟨c1, c2, c3⟩, ⟨d1, d2, d3⟩, e9, ⟨r1, r2, r3⟩, ⟨k1, k2⟩, l9, ⟨qK, qr, q2, qfl, qdr, qW, qpr, q5⟩⟩ := id hI
  subst d1
  subst d2
  refine jr_aload_n (pc := 577) h dL_law_577 rfl ?_
  refine jr_aload_n (pc := 578) h dL_law_578 rfl ?_
  refine jr_iload (pc := 579) h dL_law_579 rfl ?_
  refine jr_iconst (pc := 581) h dL_law_581 ?_
  refine jr_iadd (pc := 582) h dL_law_582 ?_
  refine jr_sld (pc := 583) h hsc dL_law_583 (by omega) ?_
  refine jr_aload_n (pc := 584) h dL_law_584 rfl ?_
  refine jr_iload (pc := 585) h dL_law_585 rfl ?_
  refine jr_iconst (pc := 587) h dL_law_587 ?_
  refine jr_iadd (pc := 588) h dL_law_588 ?_
  refine jr_sld (pc := 589) h hsc dL_law_589 (by omega) ?_
  refine iv_L_75 (pc := 590) h hl hR dL_law_590 ⟨(Nat.le_of_ble_eq_true rfl), (Nat.le_of_ble_eq_true rfl), (Nat.le_trans (Nat.add_le_add_right hc _) (Nat.le_of_ble_eq_true rfl)), (Nat.le_trans (Nat.add_le_add_right hsl _) (Nat.le_of_ble_eq_true rfl))⟩ (Nat.le_of_ble_eq_true rfl) hS.2.2.1 (by omega) (s_X7_left hS (Sc_r hsc _) (Sc_r hsc _)) (fun v_590 n_590 M_590 hn_590 hp => ?_)
  obtain ⟨⟨rfl, rfl⟩, hS1, f1⟩ := hp
  obtain ⟨hX1, hF1, ho1⟩ := LSt_7 f1 hX hF hfl ho
  refine jr_aload_n (pc := 593) h dL_law_593 rfl ?_
  refine jr_aload_n (pc := 594) h dL_law_594 rfl ?_
  refine jr_iload (pc := 595) h dL_law_595 rfl ?_
  refine jr_iconst (pc := 597) h dL_law_597 ?_
  refine jr_iadd (pc := 598) h dL_law_598 ?_
  refine jr_sld (pc := 599) h hsc dL_law_599 (by omega) ?_
  refine jr_aload_n (pc := 600) h dL_law_600 rfl ?_
  refine jr_iload (pc := 601) h dL_law_601 rfl ?_
  refine jr_iconst (pc := 603) h dL_law_603 ?_
  refine jr_iadd (pc := 604) h dL_law_604 ?_
  refine jr_sld (pc := 605) h hsc dL_law_605 (by omega) ?_
  refine iv_L_78 (pc := 606) h hl hR dL_law_606 ⟨(Nat.le_of_ble_eq_true rfl), (Nat.le_of_ble_eq_true rfl), (Nat.le_trans (Nat.add_le_add_right (Nat.add_le_add_right hc _) _) (Nat.le_of_ble_eq_true rfl)), (Nat.le_trans (Nat.add_le_add_right (Nat.add_le_add_right hsl _) _) (Nat.le_of_ble_eq_true rfl))⟩ (Nat.le_of_ble_eq_true rfl) hX1.2.1 (by omega) (s_X9_left hX1 hF1 (Sc_r hsc _) (Sc_r hsc _) r1 r2 r3) (fun v_606 n_606 M_606 hn_606 hp => ?_)
  obtain ⟨⟨rfl, rfl⟩, hX2, f2⟩ := hp
  obtain ⟨hS2, hF2, ho2⟩ := LSt_9 f2 hS1 hF1 hfl ho1
  refine jr_same2 (pc := 609) h 1583 dL_law_609 (by decide) ?_
  exact kk _ _ _ _ (by
    have q9 : rX7_left.cells + rX9_left.cells ≤ 31 := (Nat.le_of_ble_eq_true rfl)
    omega) (by
    have q9 : rX7_left.slots + rX9_left.slots ≤ 250 := (Nat.le_of_ble_eq_true rfl)
    omega) (Nat.le_refl _) (Nat.le_add_right _ _) ⟨cu, dr, _, _, _, ct, td, bk, si, ld, _, g3, sp, sk, fa, go, _, _, _, _, _, _, fl, rd, _, _, ⟨h77, hS2, hX2, hF2, hfl, ho2⟩, IV_q hI t4_left⟩
set_option maxHeartbeats 1000000 in
set_option maxRecDepth 20000 in
theorem lc_14 {κ : jC} {l : Launch} (h : Ok κ RL cL_law 7 (some .boolean)) (hl : κ.2.1 = l) (hR : Rm κ 16 600 601024 7293034) {L : Nat} {X : Nat → Int} (hsc : Sc κ L X) {i : Int} (hi : 0 ≤ i ∧ i + 6 ≤ L ∧ L ≤ 3072) {c sl n : Nat} {M : jdM} (hc : c ≤ 600000) (hsl : sl ≤ 7200000) (hn : n ≤ 700000) (hB : BN n M) (kk : KK κ c sl n i) : J κ 7 c sl n 614 [some (.ref 1000999), some (.ref 0), some (.ref 63), some (.ref 76), some (jI i), none, none] [] M := by
  unfold KK at kk
  obtain ⟨cu, dr, g, bs, p, ct, td, bk, si, ld, D, g3, sp, sk, fa, go, mk, tg, tk, tr, g', w, fl, rd, B, fo, ⟨h77, hS, hX, hF, hfl, ho⟩, hI⟩ := hB
  obtain ⟨⟨a1, a2, a3, a4, a5, a6, a7, a8, a9, a10, a11⟩, ⟨b1, b2⟩, ⟨c1, c2, c3⟩, ⟨d1, d2, d3⟩, e9, ⟨r1, r2, r3⟩, ⟨k1, k2⟩, l9, ⟨qK, qr, q2, qfl, qdr, qW, qpr, q5⟩⟩ := id hI
  subst d1
  subst d2
  refine jr_aload_n (pc := 614) h dL_law_614 rfl ?_
  refine jr_aload_n (pc := 615) h dL_law_615 rfl ?_
  refine jr_iload (pc := 616) h dL_law_616 rfl ?_
  refine jr_iconst (pc := 618) h dL_law_618 ?_
  refine jr_iadd (pc := 619) h dL_law_619 ?_
  refine jr_sld (pc := 620) h hsc dL_law_620 (by omega) ?_
  refine jr_aload_n (pc := 621) h dL_law_621 rfl ?_
  refine jr_iload (pc := 622) h dL_law_622 rfl ?_
  refine jr_iconst (pc := 624) h dL_law_624 ?_
  refine jr_iadd (pc := 625) h dL_law_625 ?_
  refine jr_sld (pc := 626) h hsc dL_law_626 (by omega) ?_
  refine iv_L_79 (pc := 627) h hl hR dL_law_627 ⟨(Nat.le_of_ble_eq_true rfl), (Nat.le_of_ble_eq_true rfl), (Nat.le_trans (Nat.add_le_add_right hc _) (Nat.le_of_ble_eq_true rfl)), (Nat.le_trans (Nat.add_le_add_right hsl _) (Nat.le_of_ble_eq_true rfl))⟩ (Nat.le_of_ble_eq_true rfl) hS.2.2.1 (by omega) (s_X7_served hS (Sc_r hsc _) (Sc_r hsc _) (IV_h45 hI)) (fun v_627 n_627 M_627 hn_627 hp => ?_)
  obtain ⟨⟨rfl, rfl⟩, hS1, f1⟩ := hp
  obtain ⟨hX1, hF1, ho1⟩ := LSt_7 f1 hX hF hfl ho
  refine jr_aload_n (pc := 630) h dL_law_630 rfl ?_
  refine jr_aload_n (pc := 631) h dL_law_631 rfl ?_
  refine jr_iload (pc := 632) h dL_law_632 rfl ?_
  refine jr_iconst (pc := 634) h dL_law_634 ?_
  refine jr_iadd (pc := 635) h dL_law_635 ?_
  refine jr_sld (pc := 636) h hsc dL_law_636 (by omega) ?_
  refine jr_aload_n (pc := 637) h dL_law_637 rfl ?_
  refine jr_iload (pc := 638) h dL_law_638 rfl ?_
  refine jr_iconst (pc := 640) h dL_law_640 ?_
  refine jr_iadd (pc := 641) h dL_law_641 ?_
  refine jr_sld (pc := 642) h hsc dL_law_642 (by omega) ?_
  refine iv_L_82 (pc := 643) h hl hR dL_law_643 ⟨(Nat.le_of_ble_eq_true rfl), (Nat.le_of_ble_eq_true rfl), (Nat.le_trans (Nat.add_le_add_right (Nat.add_le_add_right hc _) _) (Nat.le_of_ble_eq_true rfl)), (Nat.le_trans (Nat.add_le_add_right (Nat.add_le_add_right hsl _) _) (Nat.le_of_ble_eq_true rfl))⟩ (Nat.le_of_ble_eq_true rfl) hX1.2.1 (by omega) (s_X9_served hX1 hF1 (Sc_r hsc _) (Sc_r hsc _) r1 r2 r3) (fun v_643 n_643 M_643 hn_643 hp => ?_)
  obtain ⟨⟨rfl, rfl⟩, hX2, f2⟩ := hp
  obtain ⟨hS2, hF2, ho2⟩ := LSt_9 f2 hS1 hF1 hfl ho1
  refine jr_same2 (pc := 646) h 1583 dL_law_646 (by decide) ?_
  exact kk _ _ _ _ (by
    have q9 : rX7_served.cells + rX9_served.cells ≤ 31 := (Nat.le_of_ble_eq_true rfl)
    omega) (by
    have q9 : rX7_served.slots + rX9_served.slots ≤ 250 := (Nat.le_of_ble_eq_true rfl)
    omega) (Nat.le_refl _) (Nat.le_add_right _ _) ⟨cu, dr, _, _, _, ct, td, bk, si, ld, _, g3, sp, sk, fa, go, _, _, _, _, _, _, fl, rd, _, _, ⟨h77, hS2, hX2, hF2, hfl, ho2⟩, IV_q hI t4_served⟩
set_option maxHeartbeats 1000000 in
set_option maxRecDepth 20000 in
theorem lc_15 {κ : jC} {l : Launch} (h : Ok κ RL cL_law 7 (some .boolean)) (hl : κ.2.1 = l) (hR : Rm κ 16 600 601024 7293034) {L : Nat} {X : Nat → Int} (hsc : Sc κ L X) {i : Int} (hi : 0 ≤ i ∧ i + 6 ≤ L ∧ L ≤ 3072) {c sl n : Nat} {M : jdM} (hc : c ≤ 600000) (hsl : sl ≤ 7200000) (hn : n ≤ 700000) (hB : BN n M) (kk : KK κ c sl n i) : J κ 7 c sl n 651 [some (.ref 1000999), some (.ref 0), some (.ref 63), some (.ref 76), some (jI i), none, none] [] M := by
  unfold KK at kk
  obtain ⟨cu, dr, g, bs, p, ct, td, bk, si, ld, D, g3, sp, sk, fa, go, mk, tg, tk, tr, g', w, fl, rd, B, fo, ⟨h77, hS, hX, hF, hfl, ho⟩, hI⟩ := hB
  obtain ⟨⟨a1, a2, a3, a4, a5, a6, a7, a8, a9, a10, a11⟩, ⟨b1, b2⟩, ⟨c1, c2, c3⟩, ⟨d1, d2, d3⟩, e9, ⟨r1, r2, r3⟩, ⟨k1, k2⟩, l9, ⟨qK, qr, q2, qfl, qdr, qW, qpr, q5⟩⟩ := id hI
  subst d1
  subst d2
  refine jr_aload_n (pc := 651) h dL_law_651 rfl ?_
  refine jr_aload_n (pc := 652) h dL_law_652 rfl ?_
  refine jr_iload (pc := 653) h dL_law_653 rfl ?_
  refine jr_iconst (pc := 655) h dL_law_655 ?_
  refine jr_iadd (pc := 656) h dL_law_656 ?_
  refine jr_sld (pc := 657) h hsc dL_law_657 (by omega) ?_
  refine jr_aload_n (pc := 658) h dL_law_658 rfl ?_
  refine jr_iload (pc := 659) h dL_law_659 rfl ?_
  refine jr_iconst (pc := 661) h dL_law_661 ?_
  refine jr_iadd (pc := 662) h dL_law_662 ?_
  refine jr_sld (pc := 663) h hsc dL_law_663 (by omega) ?_
  refine iv_L_83 (pc := 664) h hl hR dL_law_664 ⟨(Nat.le_of_ble_eq_true rfl), (Nat.le_of_ble_eq_true rfl), (Nat.le_trans (Nat.add_le_add_right hc _) (Nat.le_of_ble_eq_true rfl)), (Nat.le_trans (Nat.add_le_add_right hsl _) (Nat.le_of_ble_eq_true rfl))⟩ (Nat.le_of_ble_eq_true rfl) hS.2.2.1 (by omega) (s_X7_trays hS (Sc_r hsc _) (Sc_r hsc _) (IV_h45 hI)) (fun v_664 n_664 M_664 hn_664 hp => ?_)
  obtain ⟨⟨rfl, rfl⟩, hS1, f1⟩ := hp
  obtain ⟨hX1, hF1, ho1⟩ := LSt_7 f1 hX hF hfl ho
  refine jr_aload_n (pc := 667) h dL_law_667 rfl ?_
  refine jr_aload_n (pc := 668) h dL_law_668 rfl ?_
  refine jr_iload (pc := 669) h dL_law_669 rfl ?_
  refine jr_iconst (pc := 671) h dL_law_671 ?_
  refine jr_iadd (pc := 672) h dL_law_672 ?_
  refine jr_sld (pc := 673) h hsc dL_law_673 (by omega) ?_
  refine jr_aload_n (pc := 674) h dL_law_674 rfl ?_
  refine jr_iload (pc := 675) h dL_law_675 rfl ?_
  refine jr_iconst (pc := 677) h dL_law_677 ?_
  refine jr_iadd (pc := 678) h dL_law_678 ?_
  refine jr_sld (pc := 679) h hsc dL_law_679 (by omega) ?_
  refine iv_L_86 (pc := 680) h hl hR dL_law_680 ⟨(Nat.le_of_ble_eq_true rfl), (Nat.le_of_ble_eq_true rfl), (Nat.le_trans (Nat.add_le_add_right (Nat.add_le_add_right hc _) _) (Nat.le_of_ble_eq_true rfl)), (Nat.le_trans (Nat.add_le_add_right (Nat.add_le_add_right hsl _) _) (Nat.le_of_ble_eq_true rfl))⟩ (Nat.le_of_ble_eq_true rfl) hX1.2.1 (by omega) (s_X9_trays hX1 hF1 (Sc_r hsc _) (Sc_r hsc _) r1 r2 r3) (fun v_680 n_680 M_680 hn_680 hp => ?_)
  obtain ⟨⟨rfl, rfl⟩, hX2, f2⟩ := hp
  obtain ⟨hS2, hF2, ho2⟩ := LSt_9 f2 hS1 hF1 hfl ho1
  refine jr_same2 (pc := 683) h 1583 dL_law_683 (by decide) ?_
  exact kk _ _ _ _ (by
    have q9 : rX7_trays.cells + rX9_trays.cells ≤ 31 := (Nat.le_of_ble_eq_true rfl)
    omega) (by
    have q9 : rX7_trays.slots + rX9_trays.slots ≤ 250 := (Nat.le_of_ble_eq_true rfl)
    omega) (Nat.le_refl _) (Nat.le_add_right _ _) ⟨cu, dr, _, _, _, ct, td, bk, si, ld, _, g3, sp, sk, fa, go, _, _, _, _, _, _, fl, rd, _, _, ⟨h77, hS2, hX2, hF2, hfl, ho2⟩, IV_q hI t4_trays⟩
set_option maxHeartbeats 1000000 in
set_option maxRecDepth 20000 in
theorem lc_16 {κ : jC} {l : Launch} (h : Ok κ RL cL_law 7 (some .boolean)) (hl : κ.2.1 = l) (hR : Rm κ 16 600 601024 7293034) {L : Nat} {X : Nat → Int} (hsc : Sc κ L X) {i : Int} (hi : 0 ≤ i ∧ i + 6 ≤ L ∧ L ≤ 3072) {c sl n : Nat} {M : jdM} (hc : c ≤ 600000) (hsl : sl ≤ 7200000) (hn : n ≤ 700000) (hB : BN n M) (kk : KK κ c sl n i) : J κ 7 c sl n 688 [some (.ref 1000999), some (.ref 0), some (.ref 63), some (.ref 76), some (jI i), none, none] [] M := by
  unfold KK at kk
  obtain ⟨cu, dr, g, bs, p, ct, td, bk, si, ld, D, g3, sp, sk, fa, go, mk, tg, tk, tr, g', w, fl, rd, B, fo, ⟨h77, hS, hX, hF, hfl, ho⟩, hI⟩ := hB
  obtain ⟨⟨a1, a2, a3, a4, a5, a6, a7, a8, a9, a10, a11⟩, ⟨b1, b2⟩, ⟨c1, c2, c3⟩, ⟨d1, d2, d3⟩, e9, ⟨r1, r2, r3⟩, ⟨k1, k2⟩, l9, ⟨qK, qr, q2, qfl, qdr, qW, qpr, q5⟩⟩ := id hI
  subst d1
  subst d2
  refine jr_aload_n (pc := 688) h dL_law_688 rfl ?_
  refine jr_aload_n (pc := 689) h dL_law_689 rfl ?_
  refine jr_iload (pc := 690) h dL_law_690 rfl ?_
  refine jr_iconst (pc := 692) h dL_law_692 ?_
  refine jr_iadd (pc := 693) h dL_law_693 ?_
  refine jr_sld (pc := 694) h hsc dL_law_694 (by omega) ?_
  refine iv_L_87 (pc := 695) h hl hR dL_law_695 ⟨(Nat.le_of_ble_eq_true rfl), (Nat.le_of_ble_eq_true rfl), (Nat.le_trans (Nat.add_le_add_right hc _) (Nat.le_of_ble_eq_true rfl)), (Nat.le_trans (Nat.add_le_add_right hsl _) (Nat.le_of_ble_eq_true rfl))⟩ (Nat.le_of_ble_eq_true rfl) hS.2.2.1 (by omega) (s_X7_got hS (Sc_r hsc _) (IV_h45 hI)) (fun v_695 n_695 M_695 hn_695 hp => ?_)
  obtain ⟨⟨rfl, rfl⟩, hS1, f1⟩ := hp
  obtain ⟨hX1, hF1, ho1⟩ := LSt_7 f1 hX hF hfl ho
  refine jr_aload_n (pc := 698) h dL_law_698 rfl ?_
  refine jr_aload_n (pc := 699) h dL_law_699 rfl ?_
  refine jr_iload (pc := 700) h dL_law_700 rfl ?_
  refine jr_iconst (pc := 702) h dL_law_702 ?_
  refine jr_iadd (pc := 703) h dL_law_703 ?_
  refine jr_sld (pc := 704) h hsc dL_law_704 (by omega) ?_
  refine iv_L_90 (pc := 705) h hl hR dL_law_705 ⟨(Nat.le_of_ble_eq_true rfl), (Nat.le_of_ble_eq_true rfl), (Nat.le_trans (Nat.add_le_add_right (Nat.add_le_add_right hc _) _) (Nat.le_of_ble_eq_true rfl)), (Nat.le_trans (Nat.add_le_add_right (Nat.add_le_add_right hsl _) _) (Nat.le_of_ble_eq_true rfl))⟩ (Nat.le_of_ble_eq_true rfl) hX1.2.1 (by omega) (s_X9_got hX1 hF1 (Sc_r hsc _) r1 r2 r3) (fun v_705 n_705 M_705 hn_705 hp => ?_)
  obtain ⟨⟨rfl, rfl⟩, hX2, f2⟩ := hp
  obtain ⟨hS2, hF2, ho2⟩ := LSt_9 f2 hS1 hF1 hfl ho1
  refine jr_same2 (pc := 708) h 1583 dL_law_708 (by decide) ?_
  exact kk _ _ _ _ (by
    have q9 : rX7_got.cells + rX9_got.cells ≤ 31 := (Nat.le_of_ble_eq_true rfl)
    omega) (by
    have q9 : rX7_got.slots + rX9_got.slots ≤ 250 := (Nat.le_of_ble_eq_true rfl)
    omega) (Nat.le_refl _) (Nat.le_add_right _ _) ⟨cu, dr, _, _, _, ct, td, bk, si, ld, _, g3, sp, sk, fa, go, _, _, _, _, _, _, fl, rd, _, _, ⟨h77, hS2, hX2, hF2, hfl, ho2⟩, IV_q hI t4_got⟩
set_option maxHeartbeats 1000000 in
set_option maxRecDepth 20000 in
theorem lc_17 {κ : jC} {l : Launch} (h : Ok κ RL cL_law 7 (some .boolean)) (hl : κ.2.1 = l) (hR : Rm κ 16 600 601024 7293034) {L : Nat} {X : Nat → Int} (hsc : Sc κ L X) {i : Int} (hi : 0 ≤ i ∧ i + 6 ≤ L ∧ L ≤ 3072) {c sl n : Nat} {M : jdM} (hc : c ≤ 600000) (hsl : sl ≤ 7200000) (hn : n ≤ 700000) (hB : BN n M) (kk : KK κ c sl n i) : J κ 7 c sl n 713 [some (.ref 1000999), some (.ref 0), some (.ref 63), some (.ref 76), some (jI i), none, none] [] M := by
  unfold KK at kk
  obtain ⟨cu, dr, g, bs, p, ct, td, bk, si, ld, D, g3, sp, sk, fa, go, mk, tg, tk, tr, g', w, fl, rd, B, fo, ⟨h77, hS, hX, hF, hfl, ho⟩, hI⟩ := hB
  obtain ⟨⟨a1, a2, a3, a4, a5, a6, a7, a8, a9, a10, a11⟩, ⟨b1, b2⟩, ⟨c1, c2, c3⟩, ⟨d1, d2, d3⟩, e9, ⟨r1, r2, r3⟩, ⟨k1, k2⟩, l9, ⟨qK, qr, q2, qfl, qdr, qW, qpr, q5⟩⟩ := id hI
  subst d1
  subst d2
  refine jr_aload_n (pc := 713) h dL_law_713 rfl ?_
  refine jr_aload_n (pc := 714) h dL_law_714 rfl ?_
  refine jr_iload (pc := 715) h dL_law_715 rfl ?_
  refine jr_iconst (pc := 717) h dL_law_717 ?_
  refine jr_iadd (pc := 718) h dL_law_718 ?_
  refine jr_sld (pc := 719) h hsc dL_law_719 (by omega) ?_
  refine iv_L_91 (pc := 720) h hl hR dL_law_720 ⟨(Nat.le_of_ble_eq_true rfl), (Nat.le_of_ble_eq_true rfl), (Nat.le_trans (Nat.add_le_add_right hc _) (Nat.le_of_ble_eq_true rfl)), (Nat.le_trans (Nat.add_le_add_right hsl _) (Nat.le_of_ble_eq_true rfl))⟩ (Nat.le_of_ble_eq_true rfl) hS.2.2.1 (by omega) (s_X7_sum hS (Sc_r hsc _)) (fun v_720 n_720 M_720 hn_720 hp => ?_)
  obtain ⟨⟨rfl, rfl⟩, hS1, f1⟩ := hp
  obtain ⟨hX1, hF1, ho1⟩ := LSt_7 f1 hX hF hfl ho
  refine jr_aload_n (pc := 723) h dL_law_723 rfl ?_
  refine jr_aload_n (pc := 724) h dL_law_724 rfl ?_
  refine jr_iload (pc := 725) h dL_law_725 rfl ?_
  refine jr_iconst (pc := 727) h dL_law_727 ?_
  refine jr_iadd (pc := 728) h dL_law_728 ?_
  refine jr_sld (pc := 729) h hsc dL_law_729 (by omega) ?_
  refine iv_L_94 (pc := 730) h hl hR dL_law_730 ⟨(Nat.le_of_ble_eq_true rfl), (Nat.le_of_ble_eq_true rfl), (Nat.le_trans (Nat.add_le_add_right (Nat.add_le_add_right hc _) _) (Nat.le_of_ble_eq_true rfl)), (Nat.le_trans (Nat.add_le_add_right (Nat.add_le_add_right hsl _) _) (Nat.le_of_ble_eq_true rfl))⟩ (Nat.le_of_ble_eq_true rfl) hX1.2.1 (by omega) (s_X9_sum hX1 hF1 (Sc_r hsc _) r1 r2 r3) (fun v_730 n_730 M_730 hn_730 hp => ?_)
  obtain ⟨⟨rfl, rfl⟩, hX2, f2⟩ := hp
  obtain ⟨hS2, hF2, ho2⟩ := LSt_9 f2 hS1 hF1 hfl ho1
  refine jr_same2 (pc := 733) h 1583 dL_law_733 (by decide) ?_
  exact kk _ _ _ _ (by
    have q9 : rX7_sum.cells + rX9_sum.cells ≤ 31 := (Nat.le_of_ble_eq_true rfl)
    omega) (by
    have q9 : rX7_sum.slots + rX9_sum.slots ≤ 250 := (Nat.le_of_ble_eq_true rfl)
    omega) (Nat.le_refl _) (Nat.le_add_right _ _) ⟨cu, dr, _, _, _, ct, td, bk, si, ld, _, g3, sp, sk, fa, go, _, _, _, _, _, _, fl, rd, _, _, ⟨h77, hS2, hX2, hF2, hfl, ho2⟩, IV_q hI t4_sum⟩
set_option maxHeartbeats 1000000 in
set_option maxRecDepth 20000 in
theorem lc_18 {κ : jC} {l : Launch} (h : Ok κ RL cL_law 7 (some .boolean)) (hl : κ.2.1 = l) (hR : Rm κ 16 600 601024 7293034) {L : Nat} {X : Nat → Int} (hsc : Sc κ L X) {i : Int} (hi : 0 ≤ i ∧ i + 6 ≤ L ∧ L ≤ 3072) {c sl n : Nat} {M : jdM} (hc : c ≤ 600000) (hsl : sl ≤ 7200000) (hn : n ≤ 700000) (hB : BN n M) (kk : KK κ c sl n i) : J κ 7 c sl n 738 [some (.ref 1000999), some (.ref 0), some (.ref 63), some (.ref 76), some (jI i), none, none] [] M := by
  unfold KK at kk
  obtain ⟨cu, dr, g, bs, p, ct, td, bk, si, ld, D, g3, sp, sk, fa, go, mk, tg, tk, tr, g', w, fl, rd, B, fo, ⟨h77, hS, hX, hF, hfl, ho⟩, hI⟩ := hB
  obtain ⟨⟨a1, a2, a3, a4, a5, a6, a7, a8, a9, a10, a11⟩, ⟨b1, b2⟩, ⟨c1, c2, c3⟩, ⟨d1, d2, d3⟩, e9, ⟨r1, r2, r3⟩, ⟨k1, k2⟩, l9, ⟨qK, qr, q2, qfl, qdr, qW, qpr, q5⟩⟩ := id hI
  subst d1
  subst d2
  refine jr_aload_n (pc := 738) h dL_law_738 rfl ?_
  refine jr_aload_n (pc := 739) h dL_law_739 rfl ?_
  refine jr_iload (pc := 740) h dL_law_740 rfl ?_
  refine jr_iconst (pc := 742) h dL_law_742 ?_
  refine jr_iadd (pc := 743) h dL_law_743 ?_
  refine jr_sld (pc := 744) h hsc dL_law_744 (by omega) ?_
  refine jr_aload_n (pc := 745) h dL_law_745 rfl ?_
  refine jr_iload (pc := 746) h dL_law_746 rfl ?_
  refine jr_iconst (pc := 748) h dL_law_748 ?_
  refine jr_iadd (pc := 749) h dL_law_749 ?_
  refine jr_sld (pc := 750) h hsc dL_law_750 (by omega) ?_
  refine iv_L_95 (pc := 751) h hl hR dL_law_751 ⟨(Nat.le_of_ble_eq_true rfl), (Nat.le_of_ble_eq_true rfl), (Nat.le_trans (Nat.add_le_add_right hc _) (Nat.le_of_ble_eq_true rfl)), (Nat.le_trans (Nat.add_le_add_right hsl _) (Nat.le_of_ble_eq_true rfl))⟩ (Nat.le_of_ble_eq_true rfl) hS.2.2.1 (by omega) (s_X7_heat hS (Sc_r hsc _) (Sc_r hsc _)) (fun v_751 n_751 M_751 hn_751 hp => ?_)
  obtain ⟨⟨rfl, rfl⟩, hS1, f1⟩ := hp
  obtain ⟨hX1, hF1, ho1⟩ := LSt_7 f1 hX hF hfl ho
  refine jr_aload_n (pc := 754) h dL_law_754 rfl ?_
  refine jr_aload_n (pc := 755) h dL_law_755 rfl ?_
  refine jr_iload (pc := 756) h dL_law_756 rfl ?_
  refine jr_iconst (pc := 758) h dL_law_758 ?_
  refine jr_iadd (pc := 759) h dL_law_759 ?_
  refine jr_sld (pc := 760) h hsc dL_law_760 (by omega) ?_
  refine jr_aload_n (pc := 761) h dL_law_761 rfl ?_
  refine jr_iload (pc := 762) h dL_law_762 rfl ?_
  refine jr_iconst (pc := 764) h dL_law_764 ?_
  refine jr_iadd (pc := 765) h dL_law_765 ?_
  refine jr_sld (pc := 766) h hsc dL_law_766 (by omega) ?_
  refine iv_L_98 (pc := 767) h hl hR dL_law_767 ⟨(Nat.le_of_ble_eq_true rfl), (Nat.le_of_ble_eq_true rfl), (Nat.le_trans (Nat.add_le_add_right (Nat.add_le_add_right hc _) _) (Nat.le_of_ble_eq_true rfl)), (Nat.le_trans (Nat.add_le_add_right (Nat.add_le_add_right hsl _) _) (Nat.le_of_ble_eq_true rfl))⟩ (Nat.le_of_ble_eq_true rfl) hX1.2.1 (by omega) (s_X9_heat hX1 hF1 (Sc_r hsc _) (Sc_r hsc _)) (fun v_767 n_767 M_767 hn_767 hp => ?_)
  obtain ⟨⟨rfl, rfl⟩, hX2, f2⟩ := hp
  obtain ⟨hS2, hF2, ho2⟩ := LSt_9 f2 hS1 hF1 hfl ho1
  refine jr_same2 (pc := 770) h 1583 dL_law_770 (by decide) ?_
  exact kk _ _ _ _ (by
    have q9 : rX7_heat.cells + rX9_heat.cells ≤ 31 := (Nat.le_of_ble_eq_true rfl)
    omega) (by
    have q9 : rX7_heat.slots + rX9_heat.slots ≤ 250 := (Nat.le_of_ble_eq_true rfl)
    omega) (Nat.le_refl _) (Nat.le_add_right _ _) ⟨cu, dr, _, _, _, ct, td, bk, si, ld, _, g3, sp, sk, fa, go, _, _, _, _, _, _, fl, rd, _, _, ⟨h77, hS2, hX2, hF2, hfl, ho2⟩, IV_q hI t4_heat⟩
set_option maxHeartbeats 1000000 in
set_option maxRecDepth 20000 in
theorem lc_19 {κ : jC} {l : Launch} (h : Ok κ RL cL_law 7 (some .boolean)) (hl : κ.2.1 = l) (hR : Rm κ 16 600 601024 7293034) {L : Nat} {X : Nat → Int} (hsc : Sc κ L X) {i : Int} (hi : 0 ≤ i ∧ i + 6 ≤ L ∧ L ≤ 3072) {c sl n : Nat} {M : jdM} (hc : c ≤ 600000) (hsl : sl ≤ 7200000) (hn : n ≤ 700000) (hB : BN n M) (kk : KK κ c sl n i) : J κ 7 c sl n 775 [some (.ref 1000999), some (.ref 0), some (.ref 63), some (.ref 76), some (jI i), none, none] [] M := by
  unfold KK at kk
  obtain ⟨cu, dr, g, bs, p, ct, td, bk, si, ld, D, g3, sp, sk, fa, go, mk, tg, tk, tr, g', w, fl, rd, B, fo, ⟨h77, hS, hX, hF, hfl, ho⟩, hI⟩ := hB
  obtain ⟨⟨a1, a2, a3, a4, a5, a6, a7, a8, a9, a10, a11⟩, ⟨b1, b2⟩, ⟨c1, c2, c3⟩, ⟨d1, d2, d3⟩, e9, ⟨r1, r2, r3⟩, ⟨k1, k2⟩, l9, ⟨qK, qr, q2, qfl, qdr, qW, qpr, q5⟩⟩ := id hI
  subst d1
  subst d2
  refine jr_aload_n (pc := 775) h dL_law_775 rfl ?_
  refine jr_aload_n (pc := 776) h dL_law_776 rfl ?_
  refine jr_iload (pc := 777) h dL_law_777 rfl ?_
  refine jr_iconst (pc := 779) h dL_law_779 ?_
  refine jr_iadd (pc := 780) h dL_law_780 ?_
  refine jr_sld (pc := 781) h hsc dL_law_781 (by omega) ?_
  refine jr_aload_n (pc := 782) h dL_law_782 rfl ?_
  refine jr_iload (pc := 783) h dL_law_783 rfl ?_
  refine jr_iconst (pc := 785) h dL_law_785 ?_
  refine jr_iadd (pc := 786) h dL_law_786 ?_
  refine jr_sld (pc := 787) h hsc dL_law_787 (by omega) ?_
  refine iv_L_99 (pc := 788) h hl hR dL_law_788 ⟨(Nat.le_of_ble_eq_true rfl), (Nat.le_of_ble_eq_true rfl), (Nat.le_trans (Nat.add_le_add_right hc _) (Nat.le_of_ble_eq_true rfl)), (Nat.le_trans (Nat.add_le_add_right hsl _) (Nat.le_of_ble_eq_true rfl))⟩ (Nat.le_of_ble_eq_true rfl) hS.2.2.1 (by omega) (s_X7_cold hS (Sc_r hsc _) (Sc_r hsc _)) (fun v_788 n_788 M_788 hn_788 hp => ?_)
  obtain ⟨⟨rfl, rfl⟩, hS1, f1⟩ := hp
  obtain ⟨hX1, hF1, ho1⟩ := LSt_7 f1 hX hF hfl ho
  refine jr_aload_n (pc := 791) h dL_law_791 rfl ?_
  refine jr_aload_n (pc := 792) h dL_law_792 rfl ?_
  refine jr_iload (pc := 793) h dL_law_793 rfl ?_
  refine jr_iconst (pc := 795) h dL_law_795 ?_
  refine jr_iadd (pc := 796) h dL_law_796 ?_
  refine jr_sld (pc := 797) h hsc dL_law_797 (by omega) ?_
  refine jr_aload_n (pc := 798) h dL_law_798 rfl ?_
  refine jr_iload (pc := 799) h dL_law_799 rfl ?_
  refine jr_iconst (pc := 801) h dL_law_801 ?_
  refine jr_iadd (pc := 802) h dL_law_802 ?_
  refine jr_sld (pc := 803) h hsc dL_law_803 (by omega) ?_
  refine iv_L_102 (pc := 804) h hl hR dL_law_804 ⟨(Nat.le_of_ble_eq_true rfl), (Nat.le_of_ble_eq_true rfl), (Nat.le_trans (Nat.add_le_add_right (Nat.add_le_add_right hc _) _) (Nat.le_of_ble_eq_true rfl)), (Nat.le_trans (Nat.add_le_add_right (Nat.add_le_add_right hsl _) _) (Nat.le_of_ble_eq_true rfl))⟩ (Nat.le_of_ble_eq_true rfl) hX1.2.1 (by omega) (s_X9_cold hX1 hF1 (Sc_r hsc _) (Sc_r hsc _)) (fun v_804 n_804 M_804 hn_804 hp => ?_)
  obtain ⟨⟨rfl, rfl⟩, hX2, f2⟩ := hp
  obtain ⟨hS2, hF2, ho2⟩ := LSt_9 f2 hS1 hF1 hfl ho1
  refine jr_same2 (pc := 807) h 1583 dL_law_807 (by decide) ?_
  exact kk _ _ _ _ (by
    have q9 : rX7_cold.cells + rX9_cold.cells ≤ 31 := (Nat.le_of_ble_eq_true rfl)
    omega) (by
    have q9 : rX7_cold.slots + rX9_cold.slots ≤ 250 := (Nat.le_of_ble_eq_true rfl)
    omega) (Nat.le_refl _) (Nat.le_add_right _ _) ⟨cu, dr, _, _, _, ct, td, bk, si, ld, _, g3, sp, sk, fa, go, _, _, _, _, _, _, fl, rd, _, _, ⟨h77, hS2, hX2, hF2, hfl, ho2⟩, IV_q hI t4_cold⟩
