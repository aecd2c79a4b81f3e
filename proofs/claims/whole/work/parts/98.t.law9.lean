/-! 98.t: the law's loop, its beginning -/
set_option maxHeartbeats 4000000 in
set_option maxRecDepth 20000 in
theorem law_loop {κ : jC} {l : Launch} (h : Ok κ RL cL_law 7 (some .boolean)) (hst : l.stackTraces = false) (hX4 : ∀ w ∈ nseX, w.before κ.2.2.2.2.2.2.1 κ.2.2.2.2.1 = true) (hl : κ.2.1 = l) (hR : Rm κ 16 600 601024 7293034) {L : Nat} {X : Nat → Int} (hsc : Sc κ L X) (hL : L ≤ 3072) (hend : ∀ (c sl n : Nat) (M : jdM) (i : Int), c ≤ 601024 → sl ≤ 7293034 → J κ 7 c sl n 1589 [some (.ref 1000999), some (.ref 0), some (.ref 63), some (.ref 76), some (jI (i)), none, none] [] M) (d : Nat) : ∀ (i : Int) (c sl n : Nat) (M : jdM), (L : Int) - i < d → 0 ≤ i → i ≤ L → 6 * (c : Int) ≤ 6000 + 31 * i → 6 * (sl : Int) ≤ 600000 + 250 * i → 6 * (n : Int) ≤ 6000 + 31 * i → BN n M → J κ 7 c sl n 23 [some (.ref 1000999), some (.ref 0), some (.ref 63), some (.ref 76), some (jI (i)), none, none] [] M := by
  induction d with
  | zero =>
    intro i c sl n M hd h0 hiL
    omega
  | succ d ih =>
    intro i c sl n M hd h0 hiL hc hs hn hB
    refine jr_iload (pc := 23) h dL_law_23 rfl ?_
    refine jr_aload_n (pc := 25) h dL_law_25 rfl ?_
    refine jr_slen (pc := 26) h hsc dL_law_26 ?_
    refine jr_bipush (pc := 27) h dL_law_27 bp_6 ?_
    refine jr_isub (pc := 29) h dL_law_29 ?_
    refine jr_icmp_gt (pc := 30) h 1589 dL_law_30 (by decide) (by omega) (by omega) (fun c_30 => ?_) (fun c_30 => ?_)
    · exact hend c sl n M i (by omega) (by omega)
    · have hi : 0 ≤ i ∧ i + 6 ≤ L ∧ L ≤ 3072 := by omega
      have hc9 : c ≤ 600000 := by omega
      have hs9 : sl ≤ 7200000 := by omega
      have hn9 : n ≤ 700000 := by omega
      have kk : KK κ c sl n i := by
        intro c' sl' n' M' q1 q2 q3 q4 hB'
        refine jr_iinc (pc := 1583) h [some (.ref 1000999), some (.ref 0), some (.ref 63), some (.ref 76), some (jI (i + 6)), none, none] dL_law_1583 (by decide) rfl rfl ?_
        refine jr_goto (pc := 1586) h 23 dL_law_1586 (by decide) ?_
        exact ih (i + 6) c' sl' n' M' (by omega) (by omega) (by omega) (by omega) (by omega) (by omega) hB'
      refine jr_aload_n (pc := 33) h dL_law_33 rfl ?_
      refine jr_iload (pc := 34) h dL_law_34 rfl ?_
      refine jr_sld (pc := 36) h hsc dL_law_36 (by omega) ?_
      refine jr_bipush (pc := 37) h dL_law_37 bp_63 ?_
      refine jr_iand (pc := 39) h dL_law_39 ?_
      obtain ⟨z, hz, ez⟩ := and63 (Int32.ofInt (X i.toNat))
      rw [ez]
      rcases (show z = 0 ∨ z = 1 ∨ z = 2 ∨ z = 3 ∨ z = 4 ∨ z = 5 ∨ z = 6 ∨ z = 7 ∨ z = 8 ∨ z = 9 ∨ z = 10 ∨ z = 11 ∨ z = 12 ∨ z = 13 ∨ z = 14 ∨ z = 15 ∨ z = 16 ∨ z = 17 ∨ z = 18 ∨ z = 19 ∨ z = 20 ∨ z = 21 ∨ z = 22 ∨ z = 23 ∨ z = 24 ∨ z = 25 ∨ z = 26 ∨ z = 27 ∨ z = 28 ∨ z = 29 ∨ z = 30 ∨ z = 31 ∨ z = 32 ∨ z = 33 ∨ z = 34 ∨ z = 35 ∨ z = 36 ∨ z = 37 ∨ z = 38 ∨ z = 39 ∨ z = 40 ∨ z = 41 ∨ z = 42 ∨ z = 43 ∨ z = 44 ∨ z = 45 ∨ 46 ≤ z by omega) with rfl | rfl | rfl | rfl | rfl | rfl | rfl | rfl | rfl | rfl | rfl | rfl | rfl | rfl | rfl | rfl | rfl | rfl | rfl | rfl | rfl | rfl | rfl | rfl | rfl | rfl | rfl | rfl | rfl | rfl | rfl | rfl | rfl | rfl | rfl | rfl | rfl | rfl | rfl | rfl | rfl | rfl | rfl | rfl | rfl | rfl | hz9
      · exact jr_tableIn (pc := 40) h 240 dL_law_40 (by decide) (by decide) (by decide) rfl (by decide) (lc_0 h hl hR hsc hi hc9 hs9 hn9 hB kk)
      · exact jr_tableIn (pc := 40) h 313 dL_law_40 (by decide) (by decide) (by decide) rfl (by decide) (lc_1 h hl hR hsc hi hc9 hs9 hn9 hB kk)
      · exact jr_tableIn (pc := 40) h 338 dL_law_40 (by decide) (by decide) (by decide) rfl (by decide) (lc_2 h hl hR hsc hi hc9 hs9 hn9 hB kk)
      · exact jr_tableIn (pc := 40) h 351 dL_law_40 (by decide) (by decide) (by decide) rfl (by decide) (lc_3 h hl hR hsc hi hc9 hs9 hn9 hB kk)
      · exact jr_tableIn (pc := 40) h 364 dL_law_40 (by decide) (by decide) (by decide) rfl (by decide) (lc_4 h hl hR hsc hi hc9 hs9 hn9 hB kk)
      · exact jr_tableIn (pc := 40) h 389 dL_law_40 (by decide) (by decide) (by decide) rfl (by decide) (lc_5 h hl hR hsc hi hc9 hs9 hn9 hB kk)
      · exact jr_tableIn (pc := 40) h 402 dL_law_40 (by decide) (by decide) (by decide) rfl (by decide) (lc_6 h hl hR hsc hi hc9 hs9 hn9 hB kk)
      · exact jr_tableIn (pc := 40) h 439 dL_law_40 (by decide) (by decide) (by decide) rfl (by decide) (lc_7 h hl hR hsc hi hc9 hs9 hn9 hB kk)
      · exact jr_tableIn (pc := 40) h 476 dL_law_40 (by decide) (by decide) (by decide) rfl (by decide) (lc_8 h hl hR hsc hi hc9 hs9 hn9 hB kk)
      · exact jr_tableIn (pc := 40) h 501 dL_law_40 (by decide) (by decide) (by decide) rfl (by decide) (lc_9 h hl hR hsc hi hc9 hs9 hn9 hB kk)
      · exact jr_tableIn (pc := 40) h 526 dL_law_40 (by decide) (by decide) (by decide) rfl (by decide) (lc_10 h hl hR hsc hi hc9 hs9 hn9 hB kk)
      · exact jr_tableIn (pc := 40) h 539 dL_law_40 (by decide) (by decide) (by decide) rfl (by decide) (lc_11 h hl hR hsc hi hc9 hs9 hn9 hB kk)
      · exact jr_tableIn (pc := 40) h 552 dL_law_40 (by decide) (by decide) (by decide) rfl (by decide) (lc_12 h hl hR hsc hi hc9 hs9 hn9 hB kk)
      · exact jr_tableIn (pc := 40) h 577 dL_law_40 (by decide) (by decide) (by decide) rfl (by decide) (lc_13 h hl hR hsc hi hc9 hs9 hn9 hB kk)
      · exact jr_tableIn (pc := 40) h 614 dL_law_40 (by decide) (by decide) (by decide) rfl (by decide) (lc_14 h hl hR hsc hi hc9 hs9 hn9 hB kk)
      · exact jr_tableIn (pc := 40) h 651 dL_law_40 (by decide) (by decide) (by decide) rfl (by decide) (lc_15 h hl hR hsc hi hc9 hs9 hn9 hB kk)
      · exact jr_tableIn (pc := 40) h 688 dL_law_40 (by decide) (by decide) (by decide) rfl (by decide) (lc_16 h hl hR hsc hi hc9 hs9 hn9 hB kk)
      · exact jr_tableIn (pc := 40) h 713 dL_law_40 (by decide) (by decide) (by decide) rfl (by decide) (lc_17 h hl hR hsc hi hc9 hs9 hn9 hB kk)
      · exact jr_tableIn (pc := 40) h 738 dL_law_40 (by decide) (by decide) (by decide) rfl (by decide) (lc_18 h hl hR hsc hi hc9 hs9 hn9 hB kk)
      · exact jr_tableIn (pc := 40) h 775 dL_law_40 (by decide) (by decide) (by decide) rfl (by decide) (lc_19 h hl hR hsc hi hc9 hs9 hn9 hB kk)
      · exact jr_tableIn (pc := 40) h 812 dL_law_40 (by decide) (by decide) (by decide) rfl (by decide) (lc_20 h hl hR hsc hi hc9 hs9 hn9 hB kk)
      · exact jr_tableIn (pc := 40) h 825 dL_law_40 (by decide) (by decide) (by decide) rfl (by decide) (lc_21 h hl hR hsc hi hc9 hs9 hn9 hB kk)
      · exact jr_tableIn (pc := 40) h 850 dL_law_40 (by decide) (by decide) (by decide) rfl (by decide) (lc_22 h hl hR hsc hi hc9 hs9 hn9 hB kk)
      · exact jr_tableIn (pc := 40) h 875 dL_law_40 (by decide) (by decide) (by decide) rfl (by decide) (lc_23 h hl hR hsc hi hc9 hs9 hn9 hB kk)
      · exact jr_tableIn (pc := 40) h 888 dL_law_40 (by decide) (by decide) (by decide) rfl (by decide) (lc_24 h hl hR hsc hi hc9 hs9 hn9 hB kk)
      · exact jr_tableIn (pc := 40) h 913 dL_law_40 (by decide) (by decide) (by decide) rfl (by decide) (lc_25 h hl hR hsc hi hc9 hs9 hn9 hB kk)
      · exact jr_tableIn (pc := 40) h 926 dL_law_40 (by decide) (by decide) (by decide) rfl (by decide) (lc_26 h hl hR hsc hi hc9 hs9 hn9 hB kk)
      · exact jr_tableIn (pc := 40) h 939 dL_law_40 (by decide) (by decide) (by decide) rfl (by decide) (lc_27 h hl hR hsc hi hc9 hs9 hn9 hB kk)
      · exact jr_tableIn (pc := 40) h 989 dL_law_40 (by decide) (by decide) (by decide) rfl (by decide) (lc_28 h hl hR hsc hi hc9 hs9 hn9 hB kk)
      · exact jr_tableIn (pc := 40) h 1015 dL_law_40 (by decide) (by decide) (by decide) rfl (by decide) (lc_29 h hl hR hsc hi hc9 hs9 hn9 hB kk)
      · exact jr_tableIn (pc := 40) h 1064 dL_law_40 (by decide) (by decide) (by decide) rfl (by decide) (lc_30 h hl hR hsc hi hc9 hs9 hn9 hB kk)
      · exact jr_tableIn (pc := 40) h 1117 dL_law_40 (by decide) (by decide) (by decide) rfl (by decide) (lc_31 h hl hR hsc hi hc9 hs9 hn9 hB kk)
      · exact jr_tableIn (pc := 40) h 1142 dL_law_40 (by decide) (by decide) (by decide) rfl (by decide) (lc_32 h hl hR hsc hi hc9 hs9 hn9 hB kk)
      · exact jr_tableIn (pc := 40) h 1155 dL_law_40 (by decide) (by decide) (by decide) rfl (by decide) (lc_33 h hl hR hsc hi hc9 hs9 hn9 hB kk)
      · exact jr_tableIn (pc := 40) h 1180 dL_law_40 (by decide) (by decide) (by decide) rfl (by decide) (lc_34 h hl hR hsc hi hc9 hs9 hn9 hB kk)
      · exact jr_tableIn (pc := 40) h 1217 dL_law_40 (by decide) (by decide) (by decide) rfl (by decide) (lc_35 h hl hR hsc hi hc9 hs9 hn9 hB kk)
      · exact jr_tableIn (pc := 40) h 1242 dL_law_40 (by decide) (by decide) (by decide) rfl (by decide) (lc_36 h hl hR hsc hi hc9 hs9 hn9 hB kk)
      · exact jr_tableIn (pc := 40) h 1279 dL_law_40 (by decide) (by decide) (by decide) rfl (by decide) (lc_37 h hl hR hsc hi hc9 hs9 hn9 hB kk)
      · exact jr_tableIn (pc := 40) h 1352 dL_law_40 (by decide) (by decide) (by decide) rfl (by decide) (lc_38 h hl hR hsc hi hc9 hs9 hn9 hB kk)
      · exact jr_tableIn (pc := 40) h 1389 dL_law_40 (by decide) (by decide) (by decide) rfl (by decide) (lc_39 h hl hR hsc hi hc9 hs9 hn9 hB kk)
      · exact jr_tableIn (pc := 40) h 1426 dL_law_40 (by decide) (by decide) (by decide) rfl (by decide) (lc_40 h hl hR hsc hi hc9 hs9 hn9 hB kk)
      · exact jr_tableIn (pc := 40) h 1451 dL_law_40 (by decide) (by decide) (by decide) rfl (by decide) (lc_41 h hl hR hsc hi hc9 hs9 hn9 hB kk)
      · exact jr_tableIn (pc := 40) h 1464 dL_law_40 (by decide) (by decide) (by decide) rfl (by decide) (lc_42 h hl hR hsc hi hc9 hs9 hn9 hB kk)
      · exact jr_tableIn (pc := 40) h 1489 dL_law_40 (by decide) (by decide) (by decide) rfl (by decide) (lc_43 h hst hX4 hl hR hsc hi hc9 hs9 hn9 hB kk)
      · exact jr_tableIn (pc := 40) h 1545 dL_law_40 (by decide) (by decide) (by decide) rfl (by decide) (lc_44 h hl hR hsc hi hc9 hs9 hn9 hB kk)
      · exact jr_tableIn (pc := 40) h 1570 dL_law_40 (by decide) (by decide) (by decide) rfl (by decide) (lc_45 h hl hR hsc hi hc9 hs9 hn9 hB kk)
      · exact jr_tableOut (pc := 40) h 1583 dL_law_40 (by omega) (Or.inr (by omega)) (by decide) (kk c sl n M (Nat.le_add_right _ _) (Nat.le_add_right _ _) (Nat.le_refl _) (Nat.le_add_right _ _) hB)
theorem RI_0 : RI (fun _ => 0) (fun _ => 0) (up (fun _ => 0) 4 1, (fun _ => 0), (fun _ => 0), (fun _ => 0), (fun _ => 0)) := by
  have hr : c_rows (fun _ => 0) (fun _ => 0) = 0 := rfl
  refine ⟨(⟨by decide, by decide, by decide⟩ : (1 : Int) ≤ 1 ∧ (1 : Int) ≤ 0 + 1 ∧ (0 : Int) ≤ 0), fun j => ?_, fun j => ?_, (⟨by decide, by decide⟩ : (0 : Int) ≤ 0 ∧ (0 : Int) ≤ 65536), fun _ _ _ _ _ => rfl, fun j => ?_, fun _ _ _ _ => ?_, fun _ _ => rfl, fun _ _ => rfl⟩
  · exact (⟨by decide, by decide⟩ : (0 : Int) ≤ 0 ∧ (0 : Int) ≤ 60000 + 22000 * (0 - (0 - 1 + 1)))
  · exact (⟨by decide, by decide⟩ : (0 : Int) ≤ 0 ∧ (0 : Int) ≤ 9999)
  · exact (⟨by decide, by decide⟩ : (0 : Int) ≤ 0 ∧ (0 : Int) ≤ 5000000)
  · exact (by decide : (0 : Int) ≤ 21)
theorem RI2_0 : RI2 (fun _ => 0) (fun _ => 0) (up (fun _ => 0) 4 1, (fun _ => 0), (fun _ => 0), (fun _ => 0), (fun _ => 0)) := by
  have hr : c_rows (fun _ => 0) (fun _ => 0) = 0 := rfl
  refine ⟨fun _ _ _ _ _ => rfl, fun r h1 h2 => ?_, fun r h1 h2 => ?_, fun _ => rfl, fun _ _ _ _ => rfl, fun _ _ _ _ => rfl, fun _ _ _ => (by decide : (0 : Int) ≤ 0), fun _ _ _ => (by decide : (0 : Int) ≤ 0), fun _ _ _ => (by decide : (0 : Int) ≤ 0), fun t h1 => ?_⟩
  · replace h2 : (r : Int) < 1 := h2
    omega
  · replace h1 : (0 : Int) < r := h1
    replace h2 : (r : Int) ≤ 0 := h2
    omega
  · replace h1 : (t : Int) < 0 := h1
    omega
theorem RRel_0 : RRel (fun _ => 0) (fun _ => 0) (up (fun _ => 0) 4 1, (fun _ => 0), (fun _ => 0), (fun _ => 0), (fun _ => 0)) (fun _ => 0) := by
  refine ⟨fun r h1 h2 => ?_, fun _ _ => rfl, fun t h1 => ?_, fun _ _ => rfl, rfl, fun _ _ => rfl, rfl, (by decide : (0 : Int) = 0 - (0 - 1 + 1))⟩
  · replace h2 : (r : Int) ≤ 0 := h2
    omega
  · replace h1 : (t : Int) < 0 := h1
    omega
theorem RO_0 : RO (up (fun _ => 0) 4 1, (fun _ => 0), (fun _ => 0), (fun _ => 0), (fun _ => 0)) := ⟨(fun _ => 0), (fun _ => 0), RI_0, (by decide : (0 : Int) ≤ 0), (by decide : (0 : Int) ≤ 40)⟩
theorem IV_00 : IV (fun _ => 0) (fun _ => 0) p0S ((fun _ => 0), (fun _ => 0), (fun _ => 0), (fun _ => 0), (fun _ => 0)) ((fun _ => 0), (fun _ => 0), (fun _ => 0), (fun _ => 0), (fun _ => 0)) (up (fun _ => 0) 4 1, (fun _ => 0), (fun _ => 0), (fun _ => 0), (fun _ => 0)) (fun _ => (up (fun _ => 0) 4 1, (fun _ => 0), (fun _ => 0), (fun _ => 0), (fun _ => 0))) (fun _ => 0) (fun _ => 0) (fun _ => 0) (up (fun _ => 0) 2 (-1)) 0 (fun _ => (fun _ => 0)) := by
  refine ⟨⟨z900, z4, z100, rfl, rfl, rfl, rfl, rfl, rfl, (⟨by decide, by decide⟩ : (0 : Int) ≤ 0 ∧ (0 : Int) ≤ 999), ⟨by decide, by decide⟩⟩, ⟨fun _ _ => rfl, fun _ => (⟨by decide, by decide⟩ : (-128 : Int) ≤ 0 ∧ (0 : Int) < 128)⟩, ⟨fun i => ?_, fun i => ?_, fun i hi => ?_⟩, ⟨rfl, rfl, fun _ => (⟨by decide, by decide⟩ : (0 : Int) ≤ 0 ∧ (0 : Int) ≤ 99)⟩, fun _ => (⟨by decide, by decide⟩ : (0 : Int) ≤ 0 ∧ (0 : Int) ≤ 1000), ⟨RRel_0, RI_0, RI2_0⟩, ⟨fun i hi => ?_, fun i _ => RO_0⟩, fun _ => ⟨rfl, rfl⟩, QF_0⟩
  · show c_get (fun _ => 0) 7 i 2 ≤ 9
    rw [get0]
    decide
  · show c_get (fun _ => 0) 7 i 2 ≤ 9
    rw [get0]
    decide
  · replace hi : (0 : Int) = 2 := hi
    omega
  · replace hi : (i : Int) < 0 := hi
    omega
set_option maxHeartbeats 1000000 in
set_option maxRecDepth 20000 in
theorem law_body {κ : jC} {l : Launch} (h : Ok κ RL cL_law 7 (some .boolean)) (hst : l.stackTraces = false) (hX4 : ∀ w ∈ nseX, w.before κ.2.2.2.2.2.2.1 κ.2.2.2.2.1 = true) (hl : κ.2.1 = l) (hR : Rm κ 16 600 601024 7293034) {L : Nat} {X : Nat → Int} (hsc : Sc κ L X) (hL : L ≤ 3072) (hend : ∀ (c sl n : Nat) (M : jdM) (i : Int), c ≤ 601024 → sl ≤ 7293034 → J κ 7 c sl n 1589 [some (.ref 1000999), some (.ref 0), some (.ref 63), some (.ref 76), some (jI (i)), none, none] [] M) (M : jdM) : J κ 7 0 0 0 0 [some (.ref 1000999), none, none, none, none, none, none] [] M := by
  refine nw_L_8 (pc := 0) h hR dL_law_0 ⟨(Nat.le_of_ble_eq_true rfl), (Nat.le_of_ble_eq_true rfl)⟩ (by omega) ?_
  refine jr_dup (pc := 3) h dL_law_3 rfl ?_
  refine iv_L_15 (pc := 4) h hl hR dL_law_4 ⟨(Nat.le_of_ble_eq_true rfl), (Nat.le_of_ble_eq_true rfl), (Nat.le_of_ble_eq_true rfl), (Nat.le_of_ble_eq_true rfl)⟩ (Nat.le_of_ble_eq_true rfl) (s_X7_init (a := 0) rfl (by omega) up_eq) (fun v n1 M1 hn1 hp => ?_)
  obtain ⟨⟨rfl, e1⟩, hS, -⟩ := hp
  have e1 : n1 = 63 := by omega
  subst e1
  refine jr_astore_n (pc := 7) h [some (.ref 1000999), some (.ref 0), none, none, none, none, none] dL_law_7 (by decide) rfl ?_
  refine nw_L_16 (pc := 8) h hR dL_law_8 ⟨(Nat.le_of_ble_eq_true rfl), (Nat.le_of_ble_eq_true rfl)⟩ (by omega) ?_
  refine jm_gen (fun M2 hM2 => ?_)
  have hS := SXc_fr (n1 := 64) (S := fun k => k = 63) hS (fr_up hM2 rfl) (by omega) (fun k a b z => by omega)
  refine jr_dup (pc := 11) h dL_law_11 rfl ?_
  refine iv_L_18 (pc := 12) h hl hR dL_law_12 ⟨(Nat.le_of_ble_eq_true rfl), (Nat.le_of_ble_eq_true rfl), (Nat.le_of_ble_eq_true rfl), (Nat.le_of_ble_eq_true rfl)⟩ (Nat.le_of_ble_eq_true rfl) (s_X9_init (b := 63) rfl (by omega) (by rw [hM2, up_eq])) (fun v n3 M3 hn3 hp => ?_)
  obtain ⟨⟨rfl, e3⟩, hX, f3⟩ := hp
  have e3 : n3 = 76 := by omega
  subst e3
  have hS := SXc_fr (n1 := 76) hS f3 (by omega) (fun k a b z => by omega)
  refine jr_astore_n (pc := 15) h [some (.ref 1000999), some (.ref 0), some (.ref 63), none, none, none, none] dL_law_15 (by decide) rfl ?_
  refine jr_iconst (pc := 16) h dL_law_16 ?_
  refine jr_newL (pc := 17) h hR 1 wm_6 dL_law_17 rfl (by decide) ⟨(Nat.le_of_ble_eq_true rfl), (Nat.le_of_ble_eq_true rfl)⟩ (by omega) ?_
  refine jm_gen (fun M4 hM4 => ?_)
  have f4 : fr (fun k => k = 76) M3 M4 := fr_up hM4 rfl
  have hS := SXc_fr (n1 := 77) hS f4 (by omega) (fun k a b z => by omega)
  have hX := MX_fr (n1 := 77) hX f4 (by omega) (fun k a b z => by omega)
  have ho : M4 76 = jdL 1 (fun _ => 0) := by rw [hM4, up_eq]
  refine jr_astore_n (pc := 19) h [some (.ref 1000999), some (.ref 0), some (.ref 63), some (.ref 76), none, none, none] dL_law_19 (by decide) rfl ?_
  refine jr_iconst (pc := 20) h dL_law_20 ?_
  refine jr_istore (pc := 21) h [some (.ref 1000999), some (.ref 0), some (.ref 63), some (.ref 76), some (jI (0)), none, none] dL_law_21 (by decide) rfl ?_
  refine jr_wide (c1 := 100) (s1 := 50000) (Nat.le_of_ble_eq_true rfl) (Nat.le_of_ble_eq_true rfl) ?_
  have hB : BN 77 M4 := ⟨7, 13, _, _, _, _, _, _, _, _, _, _, _, _, _, _, _, _, _, _, _, _, .null, .null, _, _, ⟨by omega, hS, hX, Or.inl ⟨rfl, fun _ => rfl⟩, fun f e => (by cases e), ho⟩, IV_00⟩
  exact law_loop h hst hX4 hl hR hsc hL hend (L + 1) 0 100 50000 77 M4 (by omega) (by omega) (by omega) (by omega) (by omega) (by omega) hB
