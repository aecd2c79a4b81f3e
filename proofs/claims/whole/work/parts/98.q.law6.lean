/-! 98.q: calls that ask -/
set_option maxHeartbeats 1000000 in
set_option maxRecDepth 20000 in
theorem lc_22 {κ : jC} {l : Launch} (h : Ok κ RL cL_law 7 (some .boolean)) (hl : κ.2.1 = l) (hR : Rm κ 16 600 601024 7293034) {L : Nat} {X : Nat → Int} (hsc : Sc κ L X) {i : Int} (hi : 0 ≤ i ∧ i + 6 ≤ L ∧ L ≤ 3072) {c sl n : Nat} {M : jdM} (hc : c ≤ 600000) (hsl : sl ≤ 7200000) (hn : n ≤ 700000) (hB : BN n M) (kk : KK κ c sl n i) : J κ 7 c sl n 850 [some (.ref 1000999), some (.ref 0), some (.ref 63), some (.ref 76), some (jI i), none, none] [] M := by
  unfold KK at kk
  obtain ⟨cu, dr, g, bs, p, ct, td, bk, si, ld, D, g3, sp, sk, fa, go, mk, tg, tk, tr, g', w, fl, rd, B, fo, ⟨h77, hS, hX, hF, hfl, ho⟩, hI⟩ := hB
  obtain ⟨⟨a1, a2, a3, a4, a5, a6, a7, a8, a9, a10, a11⟩, ⟨b1, b2⟩, ⟨c1, c2, c3⟩, ⟨d1, d2, d3⟩, e9, ⟨r1, r2, r3⟩, ⟨k1, k2⟩, l9, ⟨qK, qr, q2, qfl, qdr, qW, qpr, q5⟩⟩ := id hI
  subst d1
  subst d2
  refine jr_aload_n (pc := 850) h dL_law_850 rfl ?_
  refine jr_aload_n (pc := 851) h dL_law_851 rfl ?_
  refine jr_iload (pc := 852) h dL_law_852 rfl ?_
  refine jr_iconst (pc := 854) h dL_law_854 ?_
  refine jr_iadd (pc := 855) h dL_law_855 ?_
  refine jr_sld (pc := 856) h hsc dL_law_856 (by omega) ?_
  refine iv_L_111 (pc := 857) h hl hR dL_law_857 ⟨(Nat.le_of_ble_eq_true rfl), (Nat.le_of_ble_eq_true rfl), (Nat.le_trans (Nat.add_le_add_right hc _) (Nat.le_of_ble_eq_true rfl)), (Nat.le_trans (Nat.add_le_add_right hsl _) (Nat.le_of_ble_eq_true rfl))⟩ (Nat.le_of_ble_eq_true rfl) hS.2.2.1 (by omega) (s_X7_meets hS (Sc_r hsc _)) (fun v_857 n_857 M_857 hn_857 hp => ?_)
  obtain ⟨⟨rfl, rfl⟩, hS1, f1⟩ := hp
  obtain ⟨hX1, hF1, ho1⟩ := LSt_7 f1 hX hF hfl ho
  refine jr_aload_n (pc := 860) h dL_law_860 rfl ?_
  refine jr_aload_n (pc := 861) h dL_law_861 rfl ?_
  refine jr_iload (pc := 862) h dL_law_862 rfl ?_
  refine jr_iconst (pc := 864) h dL_law_864 ?_
  refine jr_iadd (pc := 865) h dL_law_865 ?_
  refine jr_sld (pc := 866) h hsc dL_law_866 (by omega) ?_
  refine iv_L_114 (pc := 867) h hl hR dL_law_867 ⟨(Nat.le_of_ble_eq_true rfl), (Nat.le_of_ble_eq_true rfl), (Nat.le_trans (Nat.add_le_add_right (Nat.add_le_add_right hc _) _) (Nat.le_of_ble_eq_true rfl)), (Nat.le_trans (Nat.add_le_add_right (Nat.add_le_add_right hsl _) _) (Nat.le_of_ble_eq_true rfl))⟩ (Nat.le_of_ble_eq_true rfl) hX1.2.1 (by omega) (s_X9_meets hX1 hF1 (Sc_r hsc _)) (fun v_867 n_867 M_867 hn_867 hp => ?_)
  obtain ⟨⟨rfl, rfl⟩, hX2, f2⟩ := hp
  obtain ⟨hS2, hF2, ho2⟩ := LSt_9 f2 hS1 hF1 hfl ho1
  refine jr_same2 (pc := 870) h 1583 dL_law_870 (by decide) ?_
  exact kk _ _ _ _ (by
    have q9 : rX7_meets.cells + rX9_meets.cells ≤ 31 := (Nat.le_of_ble_eq_true rfl)
    omega) (by
    have q9 : rX7_meets.slots + rX9_meets.slots ≤ 250 := (Nat.le_of_ble_eq_true rfl)
    omega) (Nat.le_refl _) (Nat.le_add_right _ _) ⟨cu, dr, _, _, _, ct, td, bk, si, ld, _, g3, sp, sk, fa, go, _, _, _, _, _, _, fl, rd, _, _, ⟨h77, hS2, hX2, hF2, hfl, ho2⟩, IV_q hI t4_meets⟩
set_option maxHeartbeats 1000000 in
set_option maxRecDepth 20000 in
theorem lc_23 {κ : jC} {l : Launch} (h : Ok κ RL cL_law 7 (some .boolean)) (hl : κ.2.1 = l) (hR : Rm κ 16 600 601024 7293034) {L : Nat} {X : Nat → Int} (hsc : Sc κ L X) {i : Int} (hi : 0 ≤ i ∧ i + 6 ≤ L ∧ L ≤ 3072) {c sl n : Nat} {M : jdM} (hc : c ≤ 600000) (hsl : sl ≤ 7200000) (hn : n ≤ 700000) (hB : BN n M) (kk : KK κ c sl n i) : J κ 7 c sl n 875 [some (.ref 1000999), some (.ref 0), some (.ref 63), some (.ref 76), some (jI i), none, none] [] M := by
  unfold KK at kk
  obtain ⟨cu, dr, g, bs, p, ct, td, bk, si, ld, D, g3, sp, sk, fa, go, mk, tg, tk, tr, g', w, fl, rd, B, fo, ⟨h77, hS, hX, hF, hfl, ho⟩, hI⟩ := hB
  obtain ⟨⟨a1, a2, a3, a4, a5, a6, a7, a8, a9, a10, a11⟩, ⟨b1, b2⟩, ⟨c1, c2, c3⟩, ⟨d1, d2, d3⟩, e9, ⟨r1, r2, r3⟩, ⟨k1, k2⟩, l9, ⟨qK, qr, q2, qfl, qdr, qW, qpr, q5⟩⟩ := id hI
  subst d1
  subst d2
  refine jr_aload_n (pc := 875) h dL_law_875 rfl ?_
  refine iv_L_115 (pc := 876) h hl hR dL_law_876 ⟨(Nat.le_of_ble_eq_true rfl), (Nat.le_of_ble_eq_true rfl), (Nat.le_trans (Nat.add_le_add_right hc _) (Nat.le_of_ble_eq_true rfl)), (Nat.le_trans (Nat.add_le_add_right hsl _) (Nat.le_of_ble_eq_true rfl))⟩ (Nat.le_of_ble_eq_true rfl) hS.2.2.1 (by omega) (s_X7_soonest hS) (fun v_876 n_876 M_876 hn_876 hp => ?_)
  obtain ⟨⟨rfl, rfl⟩, hS1, f1⟩ := hp
  obtain ⟨hX1, hF1, ho1⟩ := LSt_7 f1 hX hF hfl ho
  refine jr_aload_n (pc := 879) h dL_law_879 rfl ?_
  refine iv_L_118 (pc := 880) h hl hR dL_law_880 ⟨(Nat.le_of_ble_eq_true rfl), (Nat.le_of_ble_eq_true rfl), (Nat.le_trans (Nat.add_le_add_right (Nat.add_le_add_right hc _) _) (Nat.le_of_ble_eq_true rfl)), (Nat.le_trans (Nat.add_le_add_right (Nat.add_le_add_right hsl _) _) (Nat.le_of_ble_eq_true rfl))⟩ (Nat.le_of_ble_eq_true rfl) hX1.2.1 (by omega) (s_X9_soonest hX1 hF1) (fun v_880 n_880 M_880 hn_880 hp => ?_)
  obtain ⟨⟨rfl, rfl⟩, hX2, f2⟩ := hp
  obtain ⟨hS2, hF2, ho2⟩ := LSt_9 f2 hS1 hF1 hfl ho1
  refine jr_same2 (pc := 883) h 1583 dL_law_883 (by decide) ?_
  exact kk _ _ _ _ (by
    have q9 : rX7_soonest.cells + rX9_soonest.cells ≤ 31 := (Nat.le_of_ble_eq_true rfl)
    omega) (by
    have q9 : rX7_soonest.slots + rX9_soonest.slots ≤ 250 := (Nat.le_of_ble_eq_true rfl)
    omega) (Nat.le_refl _) (Nat.le_add_right _ _) ⟨cu, dr, _, _, _, ct, td, bk, si, ld, _, g3, sp, sk, fa, go, _, _, _, _, _, _, fl, rd, _, _, ⟨h77, hS2, hX2, hF2, hfl, ho2⟩, IV_q hI t4_soonest⟩
set_option maxHeartbeats 1000000 in
set_option maxRecDepth 20000 in
theorem lc_24 {κ : jC} {l : Launch} (h : Ok κ RL cL_law 7 (some .boolean)) (hl : κ.2.1 = l) (hR : Rm κ 16 600 601024 7293034) {L : Nat} {X : Nat → Int} (hsc : Sc κ L X) {i : Int} (hi : 0 ≤ i ∧ i + 6 ≤ L ∧ L ≤ 3072) {c sl n : Nat} {M : jdM} (hc : c ≤ 600000) (hsl : sl ≤ 7200000) (hn : n ≤ 700000) (hB : BN n M) (kk : KK κ c sl n i) : J κ 7 c sl n 888 [some (.ref 1000999), some (.ref 0), some (.ref 63), some (.ref 76), some (jI i), none, none] [] M := by
  unfold KK at kk
  obtain ⟨cu, dr, g, bs, p, ct, td, bk, si, ld, D, g3, sp, sk, fa, go, mk, tg, tk, tr, g', w, fl, rd, B, fo, ⟨h77, hS, hX, hF, hfl, ho⟩, hI⟩ := hB
  obtain ⟨⟨a1, a2, a3, a4, a5, a6, a7, a8, a9, a10, a11⟩, ⟨b1, b2⟩, ⟨c1, c2, c3⟩, ⟨d1, d2, d3⟩, e9, ⟨r1, r2, r3⟩, ⟨k1, k2⟩, l9, ⟨qK, qr, q2, qfl, qdr, qW, qpr, q5⟩⟩ := id hI
  subst d1
  subst d2
  refine jr_aload_n (pc := 888) h dL_law_888 rfl ?_
  refine jr_aload_n (pc := 889) h dL_law_889 rfl ?_
  refine jr_iload (pc := 890) h dL_law_890 rfl ?_
  refine jr_iconst (pc := 892) h dL_law_892 ?_
  refine jr_iadd (pc := 893) h dL_law_893 ?_
  refine jr_sld (pc := 894) h hsc dL_law_894 (by omega) ?_
  refine iv_L_119 (pc := 895) h hl hR dL_law_895 ⟨(Nat.le_of_ble_eq_true rfl), (Nat.le_of_ble_eq_true rfl), (Nat.le_trans (Nat.add_le_add_right hc _) (Nat.le_of_ble_eq_true rfl)), (Nat.le_trans (Nat.add_le_add_right hsl _) (Nat.le_of_ble_eq_true rfl))⟩ (Nat.le_of_ble_eq_true rfl) hS.2.2.1 (by omega) (s_X7_lacking hS (Sc_r hsc _)) (fun v_895 n_895 M_895 hn_895 hp => ?_)
  obtain ⟨⟨rfl, rfl⟩, hS1, f1⟩ := hp
  obtain ⟨hX1, hF1, ho1⟩ := LSt_7 f1 hX hF hfl ho
  refine jr_aload_n (pc := 898) h dL_law_898 rfl ?_
  refine jr_aload_n (pc := 899) h dL_law_899 rfl ?_
  refine jr_iload (pc := 900) h dL_law_900 rfl ?_
  refine jr_iconst (pc := 902) h dL_law_902 ?_
  refine jr_iadd (pc := 903) h dL_law_903 ?_
  refine jr_sld (pc := 904) h hsc dL_law_904 (by omega) ?_
  refine iv_L_122 (pc := 905) h hl hR dL_law_905 ⟨(Nat.le_of_ble_eq_true rfl), (Nat.le_of_ble_eq_true rfl), (Nat.le_trans (Nat.add_le_add_right (Nat.add_le_add_right hc _) _) (Nat.le_of_ble_eq_true rfl)), (Nat.le_trans (Nat.add_le_add_right (Nat.add_le_add_right hsl _) _) (Nat.le_of_ble_eq_true rfl))⟩ (Nat.le_of_ble_eq_true rfl) hX1.2.1 (by omega) (s_X9_lacking hX1 hF1 (Sc_r hsc _)) (fun v_905 n_905 M_905 hn_905 hp => ?_)
  obtain ⟨⟨rfl, rfl⟩, hX2, f2⟩ := hp
  obtain ⟨hS2, hF2, ho2⟩ := LSt_9 f2 hS1 hF1 hfl ho1
  refine jr_same2 (pc := 908) h 1583 dL_law_908 (by decide) ?_
  exact kk _ _ _ _ (by
    have q9 : rX7_lacking.cells + rX9_lacking.cells ≤ 31 := (Nat.le_of_ble_eq_true rfl)
    omega) (by
    have q9 : rX7_lacking.slots + rX9_lacking.slots ≤ 250 := (Nat.le_of_ble_eq_true rfl)
    omega) (Nat.le_refl _) (Nat.le_add_right _ _) ⟨cu, dr, _, _, _, ct, td, bk, si, ld, _, g3, sp, sk, fa, go, _, _, _, _, _, _, fl, rd, _, _, ⟨h77, hS2, hX2, hF2, hfl, ho2⟩, IV_q hI t4_lacking⟩
set_option maxHeartbeats 1000000 in
set_option maxRecDepth 20000 in
theorem lc_25 {κ : jC} {l : Launch} (h : Ok κ RL cL_law 7 (some .boolean)) (hl : κ.2.1 = l) (hR : Rm κ 16 600 601024 7293034) {L : Nat} {X : Nat → Int} (hsc : Sc κ L X) {i : Int} (hi : 0 ≤ i ∧ i + 6 ≤ L ∧ L ≤ 3072) {c sl n : Nat} {M : jdM} (hc : c ≤ 600000) (hsl : sl ≤ 7200000) (hn : n ≤ 700000) (hB : BN n M) (kk : KK κ c sl n i) : J κ 7 c sl n 913 [some (.ref 1000999), some (.ref 0), some (.ref 63), some (.ref 76), some (jI i), none, none] [] M := by
  unfold KK at kk
  obtain ⟨cu, dr, g, bs, p, ct, td, bk, si, ld, D, g3, sp, sk, fa, go, mk, tg, tk, tr, g', w, fl, rd, B, fo, ⟨h77, hS, hX, hF, hfl, ho⟩, hI⟩ := hB
  obtain ⟨⟨a1, a2, a3, a4, a5, a6, a7, a8, a9, a10, a11⟩, ⟨b1, b2⟩, ⟨c1, c2, c3⟩, ⟨d1, d2, d3⟩, e9, ⟨r1, r2, r3⟩, ⟨k1, k2⟩, l9, ⟨qK, qr, q2, qfl, qdr, qW, qpr, q5⟩⟩ := id hI
  subst d1
  subst d2
  refine jr_aload_n (pc := 913) h dL_law_913 rfl ?_
  refine iv_L_123 (pc := 914) h hl hR dL_law_914 ⟨(Nat.le_of_ble_eq_true rfl), (Nat.le_of_ble_eq_true rfl), (Nat.le_trans (Nat.add_le_add_right hc _) (Nat.le_of_ble_eq_true rfl)), (Nat.le_trans (Nat.add_le_add_right hsl _) (Nat.le_of_ble_eq_true rfl))⟩ (Nat.le_of_ble_eq_true rfl) hS.2.2.1 (by omega) (s_X7_fairest hS) (fun v_914 n_914 M_914 hn_914 hp => ?_)
  obtain ⟨⟨rfl, rfl⟩, hS1, f1⟩ := hp
  obtain ⟨hX1, hF1, ho1⟩ := LSt_7 f1 hX hF hfl ho
  refine jr_aload_n (pc := 917) h dL_law_917 rfl ?_
  refine iv_L_126 (pc := 918) h hl hR dL_law_918 ⟨(Nat.le_of_ble_eq_true rfl), (Nat.le_of_ble_eq_true rfl), (Nat.le_trans (Nat.add_le_add_right (Nat.add_le_add_right hc _) _) (Nat.le_of_ble_eq_true rfl)), (Nat.le_trans (Nat.add_le_add_right (Nat.add_le_add_right hsl _) _) (Nat.le_of_ble_eq_true rfl))⟩ (Nat.le_of_ble_eq_true rfl) hX1.2.1 (by omega) (s_X9_fairest hX1 hF1) (fun v_918 n_918 M_918 hn_918 hp => ?_)
  obtain ⟨⟨rfl, rfl⟩, hX2, f2⟩ := hp
  obtain ⟨hS2, hF2, ho2⟩ := LSt_9 f2 hS1 hF1 hfl ho1
  refine jr_same2 (pc := 921) h 1583 dL_law_921 (by decide) ?_
  exact kk _ _ _ _ (by
    have q9 : rX7_fairest.cells + rX9_fairest.cells ≤ 31 := (Nat.le_of_ble_eq_true rfl)
    omega) (by
    have q9 : rX7_fairest.slots + rX9_fairest.slots ≤ 250 := (Nat.le_of_ble_eq_true rfl)
    omega) (Nat.le_refl _) (Nat.le_add_right _ _) ⟨cu, dr, _, _, _, ct, td, bk, si, ld, _, g3, sp, sk, fa, go, _, _, _, _, _, _, fl, rd, _, _, ⟨h77, hS2, hX2, hF2, hfl, ho2⟩, IV_q hI t4_fairest⟩
set_option maxHeartbeats 1000000 in
set_option maxRecDepth 20000 in
theorem lc_26 {κ : jC} {l : Launch} (h : Ok κ RL cL_law 7 (some .boolean)) (hl : κ.2.1 = l) (hR : Rm κ 16 600 601024 7293034) {L : Nat} {X : Nat → Int} (hsc : Sc κ L X) {i : Int} (hi : 0 ≤ i ∧ i + 6 ≤ L ∧ L ≤ 3072) {c sl n : Nat} {M : jdM} (hc : c ≤ 600000) (hsl : sl ≤ 7200000) (hn : n ≤ 700000) (hB : BN n M) (kk : KK κ c sl n i) : J κ 7 c sl n 926 [some (.ref 1000999), some (.ref 0), some (.ref 63), some (.ref 76), some (jI i), none, none] [] M := by
  unfold KK at kk
  obtain ⟨cu, dr, g, bs, p, ct, td, bk, si, ld, D, g3, sp, sk, fa, go, mk, tg, tk, tr, g', w, fl, rd, B, fo, ⟨h77, hS, hX, hF, hfl, ho⟩, hI⟩ := hB
  obtain ⟨⟨a1, a2, a3, a4, a5, a6, a7, a8, a9, a10, a11⟩, ⟨b1, b2⟩, ⟨c1, c2, c3⟩, ⟨d1, d2, d3⟩, e9, ⟨r1, r2, r3⟩, ⟨k1, k2⟩, l9, ⟨qK, qr, q2, qfl, qdr, qW, qpr, q5⟩⟩ := id hI
  subst d1
  subst d2
  refine jr_aload_n (pc := 926) h dL_law_926 rfl ?_
  refine iv_L_127 (pc := 927) h hl hR dL_law_927 ⟨(Nat.le_of_ble_eq_true rfl), (Nat.le_of_ble_eq_true rfl), (Nat.le_trans (Nat.add_le_add_right hc _) (Nat.le_of_ble_eq_true rfl)), (Nat.le_trans (Nat.add_le_add_right hsl _) (Nat.le_of_ble_eq_true rfl))⟩ (Nat.le_of_ble_eq_true rfl) hS.2.2.1 (by omega) (s_X7_met hS (IV_h45 hI)) (fun v_927 n_927 M_927 hn_927 hp => ?_)
  obtain ⟨⟨rfl, rfl⟩, hS1, f1⟩ := hp
  obtain ⟨hX1, hF1, ho1⟩ := LSt_7 f1 hX hF hfl ho
  refine jr_aload_n (pc := 930) h dL_law_930 rfl ?_
  refine iv_L_130 (pc := 931) h hl hR dL_law_931 ⟨(Nat.le_of_ble_eq_true rfl), (Nat.le_of_ble_eq_true rfl), (Nat.le_trans (Nat.add_le_add_right (Nat.add_le_add_right hc _) _) (Nat.le_of_ble_eq_true rfl)), (Nat.le_trans (Nat.add_le_add_right (Nat.add_le_add_right hsl _) _) (Nat.le_of_ble_eq_true rfl))⟩ (Nat.le_of_ble_eq_true rfl) hX1.2.1 (by omega) (s_X9_met hX1 hF1 r1 r2 r3) (fun v_931 n_931 M_931 hn_931 hp => ?_)
  obtain ⟨⟨rfl, rfl⟩, hX2, f2⟩ := hp
  obtain ⟨hS2, hF2, ho2⟩ := LSt_9 f2 hS1 hF1 hfl ho1
  refine jr_same2 (pc := 934) h 1583 dL_law_934 (by decide) ?_
  exact kk _ _ _ _ (by
    have q9 : rX7_met.cells + rX9_met.cells ≤ 31 := (Nat.le_of_ble_eq_true rfl)
    omega) (by
    have q9 : rX7_met.slots + rX9_met.slots ≤ 250 := (Nat.le_of_ble_eq_true rfl)
    omega) (Nat.le_refl _) (Nat.le_add_right _ _) ⟨cu, dr, _, _, _, ct, td, bk, si, ld, _, g3, sp, sk, fa, go, _, _, _, _, _, _, fl, rd, _, _, ⟨h77, hS2, hX2, hF2, hfl, ho2⟩, IV_q hI t4_met⟩
set_option maxHeartbeats 1000000 in
set_option maxRecDepth 20000 in
theorem lc_27 {κ : jC} {l : Launch} (h : Ok κ RL cL_law 7 (some .boolean)) (hl : κ.2.1 = l) (hR : Rm κ 16 600 601024 7293034) {L : Nat} {X : Nat → Int} (hsc : Sc κ L X) {i : Int} (hi : 0 ≤ i ∧ i + 6 ≤ L ∧ L ≤ 3072) {c sl n : Nat} {M : jdM} (hc : c ≤ 600000) (hsl : sl ≤ 7200000) (hn : n ≤ 700000) (hB : BN n M) (kk : KK κ c sl n i) : J κ 7 c sl n 939 [some (.ref 1000999), some (.ref 0), some (.ref 63), some (.ref 76), some (jI i), none, none] [] M := by
  unfold KK at kk
  obtain ⟨cu, dr, g, bs, p, ct, td, bk, si, ld, D, g3, sp, sk, fa, go, mk, tg, tk, tr, g', w, fl, rd, B, fo, ⟨h77, hS, hX, hF, hfl, ho⟩, hI⟩ := hB
  obtain ⟨⟨a1, a2, a3, a4, a5, a6, a7, a8, a9, a10, a11⟩, ⟨b1, b2⟩, ⟨c1, c2, c3⟩, ⟨d1, d2, d3⟩, e9, ⟨r1, r2, r3⟩, ⟨k1, k2⟩, l9, ⟨qK, qr, q2, qfl, qdr, qW, qpr, q5⟩⟩ := id hI
  subst d1
  subst d2
  refine jr_aload_n (pc := 939) h dL_law_939 rfl ?_
  refine jr_aload_n (pc := 940) h dL_law_940 rfl ?_
  refine jr_iload (pc := 941) h dL_law_941 rfl ?_
  refine jr_iconst (pc := 943) h dL_law_943 ?_
  refine jr_iadd (pc := 944) h dL_law_944 ?_
  refine jr_sld (pc := 945) h hsc dL_law_945 (by omega) ?_
  refine jr_aload_n (pc := 946) h dL_law_946 rfl ?_
  refine jr_iload (pc := 947) h dL_law_947 rfl ?_
  refine jr_iconst (pc := 949) h dL_law_949 ?_
  refine jr_iadd (pc := 950) h dL_law_950 ?_
  refine jr_sld (pc := 951) h hsc dL_law_951 (by omega) ?_
  refine jr_aload_n (pc := 952) h dL_law_952 rfl ?_
  refine jr_iload (pc := 953) h dL_law_953 rfl ?_
  refine jr_iconst (pc := 955) h dL_law_955 ?_
  refine jr_iadd (pc := 956) h dL_law_956 ?_
  refine jr_sld (pc := 957) h hsc dL_law_957 (by omega) ?_
  refine iv_L_131 (pc := 958) h hl hR dL_law_958 ⟨(Nat.le_of_ble_eq_true rfl), (Nat.le_of_ble_eq_true rfl), (Nat.le_trans (Nat.add_le_add_right hc _) (Nat.le_of_ble_eq_true rfl)), (Nat.le_trans (Nat.add_le_add_right hsl _) (Nat.le_of_ble_eq_true rfl))⟩ (Nat.le_of_ble_eq_true rfl) hS.2.2.1 (by omega) (s_X7_out hS (Sc_r hsc _) (Sc_r hsc _) (Sc_r hsc _) qK.2.2.2) (fun v_958 n_958 M_958 hn_958 hp => ?_)
  obtain ⟨⟨rfl, rfl⟩, hS1, f1⟩ := hp
  obtain ⟨hX1, hF1, ho1⟩ := LSt_7 f1 hX hF hfl ho
  refine jr_aload_n (pc := 961) h dL_law_961 rfl ?_
  refine jr_aload_n (pc := 962) h dL_law_962 rfl ?_
  refine jr_iload (pc := 963) h dL_law_963 rfl ?_
  refine jr_iconst (pc := 965) h dL_law_965 ?_
  refine jr_iadd (pc := 966) h dL_law_966 ?_
  refine jr_sld (pc := 967) h hsc dL_law_967 (by omega) ?_
  refine jr_aload_n (pc := 968) h dL_law_968 rfl ?_
  refine jr_iload (pc := 969) h dL_law_969 rfl ?_
  refine jr_iconst (pc := 971) h dL_law_971 ?_
  refine jr_iadd (pc := 972) h dL_law_972 ?_
  refine jr_sld (pc := 973) h hsc dL_law_973 (by omega) ?_
  refine jr_aload_n (pc := 974) h dL_law_974 rfl ?_
  refine jr_iload (pc := 975) h dL_law_975 rfl ?_
  refine jr_iconst (pc := 977) h dL_law_977 ?_
  refine jr_iadd (pc := 978) h dL_law_978 ?_
  refine jr_sld (pc := 979) h hsc dL_law_979 (by omega) ?_
  refine iv_L_135 (pc := 980) h hl hR dL_law_980 ⟨(Nat.le_of_ble_eq_true rfl), (Nat.le_of_ble_eq_true rfl), (Nat.le_trans (Nat.add_le_add_right (Nat.add_le_add_right hc _) _) (Nat.le_of_ble_eq_true rfl)), (Nat.le_trans (Nat.add_le_add_right (Nat.add_le_add_right hsl _) _) (Nat.le_of_ble_eq_true rfl))⟩ (Nat.le_of_ble_eq_true rfl) hX1.2.1 (by omega) (s_X9_out hX1 hF1 (Sc_r hsc _) (Sc_r hsc _) (Sc_r hsc _)) (fun v_980 n_980 M_980 hn_980 hp => ?_)
  obtain ⟨⟨rfl, rfl⟩, b5, hX2, f2⟩ := hp
  obtain ⟨hS2, hF2, ho2⟩ := LSt_9 f2 hS1 hF1 hfl ho1
  refine jr_sameL (pc := 983) h dL_law_983 ?_
  refine jr_if_eq (pc := 984) h 1583 dL_law_984 (by decide) (by omega) (fun _ => ?_) (fun z_984 => absurd rfl z_984)
  exact kk _ _ _ _ (by
    have q9 : rX7_out.cells + rX9_out.cells ≤ 31 := (Nat.le_of_ble_eq_true rfl)
    omega) (by
    have q9 : rX7_out.slots + rX9_out.slots ≤ 250 := (Nat.le_of_ble_eq_true rfl)
    omega) (Nat.le_refl _) (Nat.le_add_right _ _) ⟨cu, dr, _, _, _, ct, td, bk, si, ld, _, g3, sp, sk, fa, go, _, _, _, _, _, _, fl, rd, _, _, ⟨h77, hS2, hX2, hF2, hfl, ho2⟩, IV_q (IV_B (B' := up B 5 b5) hI rfl e9 rfl rfl rfl rfl) t4_out⟩
set_option maxHeartbeats 1000000 in
set_option maxRecDepth 20000 in
theorem lc_28 {κ : jC} {l : Launch} (h : Ok κ RL cL_law 7 (some .boolean)) (hl : κ.2.1 = l) (hR : Rm κ 16 600 601024 7293034) {L : Nat} {X : Nat → Int} (hsc : Sc κ L X) {i : Int} (hi : 0 ≤ i ∧ i + 6 ≤ L ∧ L ≤ 3072) {c sl n : Nat} {M : jdM} (hc : c ≤ 600000) (hsl : sl ≤ 7200000) (hn : n ≤ 700000) (hB : BN n M) (kk : KK κ c sl n i) : J κ 7 c sl n 989 [some (.ref 1000999), some (.ref 0), some (.ref 63), some (.ref 76), some (jI i), none, none] [] M := by
  unfold KK at kk
  obtain ⟨cu, dr, g, bs, p, ct, td, bk, si, ld, D, g3, sp, sk, fa, go, mk, tg, tk, tr, g', w, fl, rd, B, fo, ⟨h77, hS, hX, hF, hfl, ho⟩, hI⟩ := hB
  obtain ⟨⟨a1, a2, a3, a4, a5, a6, a7, a8, a9, a10, a11⟩, ⟨b1, b2⟩, ⟨c1, c2, c3⟩, ⟨d1, d2, d3⟩, e9, ⟨r1, r2, r3⟩, ⟨k1, k2⟩, l9, ⟨qK, qr, q2, qfl, qdr, qW, qpr, q5⟩⟩ := id hI
  subst d1
  subst d2
  refine jr_aload_n (pc := 989) h dL_law_989 rfl ?_
  refine jr_aload_n (pc := 990) h dL_law_990 rfl ?_
  refine jr_iload (pc := 991) h dL_law_991 rfl ?_
  refine jr_iconst (pc := 993) h dL_law_993 ?_
  refine jr_iadd (pc := 994) h dL_law_994 ?_
  refine jr_sld (pc := 995) h hsc dL_law_995 (by omega) ?_
  refine iv_L_136 (pc := 996) h hl hR dL_law_996 ⟨(Nat.le_of_ble_eq_true rfl), (Nat.le_of_ble_eq_true rfl), (Nat.le_trans (Nat.add_le_add_right hc _) (Nat.le_of_ble_eq_true rfl)), (Nat.le_trans (Nat.add_le_add_right hsl _) (Nat.le_of_ble_eq_true rfl))⟩ (Nat.le_of_ble_eq_true rfl) hS.2.2.1 (by omega) (s_X7_ways hS (Sc_r hsc _) qK.2.2.2) (fun v_996 n_996 M_996 hn_996 hp => ?_)
  obtain ⟨⟨rfl, rfl⟩, hS1, f1⟩ := hp
  obtain ⟨hX1, hF1, ho1⟩ := LSt_7 f1 hX hF hfl ho
  refine jr_aload_n (pc := 999) h dL_law_999 rfl ?_
  refine jr_aload_n (pc := 1000) h dL_law_1000 rfl ?_
  refine jr_iload (pc := 1001) h dL_law_1001 rfl ?_
  refine jr_iconst (pc := 1003) h dL_law_1003 ?_
  refine jr_iadd (pc := 1004) h dL_law_1004 ?_
  refine jr_sld (pc := 1005) h hsc dL_law_1005 (by omega) ?_
  refine iv_L_140 (pc := 1006) h hl hR dL_law_1006 ⟨(Nat.le_of_ble_eq_true rfl), (Nat.le_of_ble_eq_true rfl), (Nat.le_trans (Nat.add_le_add_right (Nat.add_le_add_right hc _) _) (Nat.le_of_ble_eq_true rfl)), (Nat.le_trans (Nat.add_le_add_right (Nat.add_le_add_right hsl _) _) (Nat.le_of_ble_eq_true rfl))⟩ (Nat.le_of_ble_eq_true rfl) hX1.2.1 (by omega) (s_X9_ways hX1 hF1 (Sc_r hsc _)) (fun v_1006 n_1006 M_1006 hn_1006 hp => ?_)
  obtain ⟨⟨rfl, rfl⟩, b5, hX2, f2⟩ := hp
  obtain ⟨hS2, hF2, ho2⟩ := LSt_9 f2 hS1 hF1 hfl ho1
  refine jr_sameL (pc := 1009) h dL_law_1009 ?_
  refine jr_if_eq (pc := 1010) h 1583 dL_law_1010 (by decide) (by omega) (fun _ => ?_) (fun z_1010 => absurd rfl z_1010)
  exact kk _ _ _ _ (by
    have q9 : rX7_ways.cells + rX9_ways.cells ≤ 31 := (Nat.le_of_ble_eq_true rfl)
    omega) (by
    have q9 : rX7_ways.slots + rX9_ways.slots ≤ 250 := (Nat.le_of_ble_eq_true rfl)
    omega) (Nat.le_refl _) (Nat.le_add_right _ _) ⟨cu, dr, _, _, _, ct, td, bk, si, ld, _, g3, sp, sk, fa, go, _, _, _, _, _, _, fl, rd, _, _, ⟨h77, hS2, hX2, hF2, hfl, ho2⟩, IV_q (IV_B (B' := up B 5 b5) hI rfl e9 rfl rfl rfl rfl) t4_ways⟩
set_option maxHeartbeats 1000000 in
set_option maxRecDepth 20000 in
theorem lc_29 {κ : jC} {l : Launch} (h : Ok κ RL cL_law 7 (some .boolean)) (hl : κ.2.1 = l) (hR : Rm κ 16 600 601024 7293034) {L : Nat} {X : Nat → Int} (hsc : Sc κ L X) {i : Int} (hi : 0 ≤ i ∧ i + 6 ≤ L ∧ L ≤ 3072) {c sl n : Nat} {M : jdM} (hc : c ≤ 600000) (hsl : sl ≤ 7200000) (hn : n ≤ 700000) (hB : BN n M) (kk : KK κ c sl n i) : J κ 7 c sl n 1015 [some (.ref 1000999), some (.ref 0), some (.ref 63), some (.ref 76), some (jI i), none, none] [] M := by
  unfold KK at kk
  obtain ⟨cu, dr, g, bs, p, ct, td, bk, si, ld, D, g3, sp, sk, fa, go, mk, tg, tk, tr, g', w, fl, rd, B, fo, ⟨h77, hS, hX, hF, hfl, ho⟩, hI⟩ := hB
  obtain ⟨⟨a1, a2, a3, a4, a5, a6, a7, a8, a9, a10, a11⟩, ⟨b1, b2⟩, ⟨c1, c2, c3⟩, ⟨d1, d2, d3⟩, e9, ⟨r1, r2, r3⟩, ⟨k1, k2⟩, l9, ⟨qK, qr, q2, qfl, qdr, qW, qpr, q5⟩⟩ := id hI
  subst d1
  subst d2
  refine jr_aload_n (pc := 1015) h dL_law_1015 rfl ?_
  refine jr_aload_n (pc := 1016) h dL_law_1016 rfl ?_
  refine jr_iload (pc := 1017) h dL_law_1017 rfl ?_
  refine jr_iconst (pc := 1019) h dL_law_1019 ?_
  refine jr_iadd (pc := 1020) h dL_law_1020 ?_
  refine jr_sld (pc := 1021) h hsc dL_law_1021 (by omega) ?_
  refine jr_aload_n (pc := 1022) h dL_law_1022 rfl ?_
  refine jr_iload (pc := 1023) h dL_law_1023 rfl ?_
  refine jr_iconst (pc := 1025) h dL_law_1025 ?_
  refine jr_iadd (pc := 1026) h dL_law_1026 ?_
  refine jr_sld (pc := 1027) h hsc dL_law_1027 (by omega) ?_
  refine jr_aload_n (pc := 1028) h dL_law_1028 rfl ?_
  refine jr_iload (pc := 1029) h dL_law_1029 rfl ?_
  refine jr_iconst (pc := 1031) h dL_law_1031 ?_
  refine jr_iadd (pc := 1032) h dL_law_1032 ?_
  refine jr_sld (pc := 1033) h hsc dL_law_1033 (by omega) ?_
  refine iv_L_141 (pc := 1034) h hl hR dL_law_1034 ⟨(Nat.le_of_ble_eq_true rfl), (Nat.le_of_ble_eq_true rfl), (Nat.le_trans (Nat.add_le_add_right hc _) (Nat.le_of_ble_eq_true rfl)), (Nat.le_trans (Nat.add_le_add_right hsl _) (Nat.le_of_ble_eq_true rfl))⟩ (Nat.le_of_ble_eq_true rfl) hS.2.2.1 (by omega) (s_X7_enough hS (Sc_r hsc _) (Sc_r hsc _) (Sc_r hsc _) qK.2.2.2 (qW _)) (fun v_1034 n_1034 M_1034 hn_1034 hp => ?_)
  obtain ⟨⟨rfl, rfl⟩, hS1, f1⟩ := hp
  obtain ⟨hX1, hF1, ho1⟩ := LSt_7 f1 hX hF hfl ho
  refine jr_aload_n (pc := 1037) h dL_law_1037 rfl ?_
  refine jr_aload_n (pc := 1038) h dL_law_1038 rfl ?_
  refine jr_iload (pc := 1039) h dL_law_1039 rfl ?_
  refine jr_iconst (pc := 1041) h dL_law_1041 ?_
  refine jr_iadd (pc := 1042) h dL_law_1042 ?_
  refine jr_sld (pc := 1043) h hsc dL_law_1043 (by omega) ?_
  refine jr_aload_n (pc := 1044) h dL_law_1044 rfl ?_
  refine jr_iload (pc := 1045) h dL_law_1045 rfl ?_
  refine jr_iconst (pc := 1047) h dL_law_1047 ?_
  refine jr_iadd (pc := 1048) h dL_law_1048 ?_
  refine jr_sld (pc := 1049) h hsc dL_law_1049 (by omega) ?_
  refine jr_aload_n (pc := 1050) h dL_law_1050 rfl ?_
  refine jr_iload (pc := 1051) h dL_law_1051 rfl ?_
  refine jr_iconst (pc := 1053) h dL_law_1053 ?_
  refine jr_iadd (pc := 1054) h dL_law_1054 ?_
  refine jr_sld (pc := 1055) h hsc dL_law_1055 (by omega) ?_
  refine iv_L_145 (pc := 1056) h hl hR dL_law_1056 ⟨(Nat.le_of_ble_eq_true rfl), (Nat.le_of_ble_eq_true rfl), (Nat.le_trans (Nat.add_le_add_right (Nat.add_le_add_right hc _) _) (Nat.le_of_ble_eq_true rfl)), (Nat.le_trans (Nat.add_le_add_right (Nat.add_le_add_right hsl _) _) (Nat.le_of_ble_eq_true rfl))⟩ (Nat.le_of_ble_eq_true rfl) hX1.2.1 (by omega) (s_X9_enough hX1 hF1 (Sc_r hsc _) (Sc_r hsc _) (Sc_r hsc _)) (fun v_1056 n_1056 M_1056 hn_1056 hp => ?_)
  obtain ⟨⟨rfl, rfl⟩, b5, hX2, f2⟩ := hp
  obtain ⟨hS2, hF2, ho2⟩ := LSt_9 f2 hS1 hF1 hfl ho1
  refine jr_same2 (pc := 1059) h 1583 dL_law_1059 (by decide) ?_
  exact kk _ _ _ _ (by
    have q9 : rX7_enough.cells + rX9_enough.cells ≤ 31 := (Nat.le_of_ble_eq_true rfl)
    omega) (by
    have q9 : rX7_enough.slots + rX9_enough.slots ≤ 250 := (Nat.le_of_ble_eq_true rfl)
    omega) (Nat.le_refl _) (Nat.le_add_right _ _) ⟨cu, dr, _, _, _, ct, td, bk, si, ld, _, g3, sp, sk, fa, go, _, _, _, _, _, _, fl, rd, _, _, ⟨h77, hS2, hX2, hF2, hfl, ho2⟩, IV_q (IV_B (B' := up B 5 b5) hI rfl e9 rfl rfl rfl rfl) t4_enough⟩
set_option maxHeartbeats 1000000 in
set_option maxRecDepth 20000 in
theorem lc_30 {κ : jC} {l : Launch} (h : Ok κ RL cL_law 7 (some .boolean)) (hl : κ.2.1 = l) (hR : Rm κ 16 600 601024 7293034) {L : Nat} {X : Nat → Int} (hsc : Sc κ L X) {i : Int} (hi : 0 ≤ i ∧ i + 6 ≤ L ∧ L ≤ 3072) {c sl n : Nat} {M : jdM} (hc : c ≤ 600000) (hsl : sl ≤ 7200000) (hn : n ≤ 700000) (hB : BN n M) (kk : KK κ c sl n i) : J κ 7 c sl n 1064 [some (.ref 1000999), some (.ref 0), some (.ref 63), some (.ref 76), some (jI i), none, none] [] M := by
  unfold KK at kk
  obtain ⟨cu, dr, g, bs, p, ct, td, bk, si, ld, D, g3, sp, sk, fa, go, mk, tg, tk, tr, g', w, fl, rd, B, fo, ⟨h77, hS, hX, hF, hfl, ho⟩, hI⟩ := hB
  obtain ⟨⟨a1, a2, a3, a4, a5, a6, a7, a8, a9, a10, a11⟩, ⟨b1, b2⟩, ⟨c1, c2, c3⟩, ⟨d1, d2, d3⟩, e9, ⟨r1, r2, r3⟩, ⟨k1, k2⟩, l9, ⟨qK, qr, q2, qfl, qdr, qW, qpr, q5⟩⟩ := id hI
  subst d1
  subst d2
  refine jr_aload_n (pc := 1064) h dL_law_1064 rfl ?_
  refine jr_aload_n (pc := 1065) h dL_law_1065 rfl ?_
  refine jr_iload (pc := 1066) h dL_law_1066 rfl ?_
  refine jr_iconst (pc := 1068) h dL_law_1068 ?_
  refine jr_iadd (pc := 1069) h dL_law_1069 ?_
  refine jr_sld (pc := 1070) h hsc dL_law_1070 (by omega) ?_
  refine jr_aload_n (pc := 1071) h dL_law_1071 rfl ?_
  refine jr_iload (pc := 1072) h dL_law_1072 rfl ?_
  refine jr_iconst (pc := 1074) h dL_law_1074 ?_
  refine jr_iadd (pc := 1075) h dL_law_1075 ?_
  refine jr_sld (pc := 1076) h hsc dL_law_1076 (by omega) ?_
  refine jr_if_eq (pc := 1077) h 1084 dL_law_1077 (by decide) (Sc_r hsc _) (fun z_1077 => ?_) (fun z_1077 => ?_)
  · skip
    refine jr_iconst (pc := 1084) h dL_law_1084 ?_
    refine iv_L_146 (pc := 1085) h hl hR dL_law_1085 ⟨(Nat.le_of_ble_eq_true rfl), (Nat.le_of_ble_eq_true rfl), (Nat.le_trans (Nat.add_le_add_right hc _) (Nat.le_of_ble_eq_true rfl)), (Nat.le_trans (Nat.add_le_add_right hsl _) (Nat.le_of_ble_eq_true rfl))⟩ (Nat.le_of_ble_eq_true rfl) hS.2.2.1 (by omega) (s_X7_load hS (Sc_r hsc _) (by omega)) (fun v_1085 n_1085 M_1085 hn_1085 hp => ?_)
    obtain ⟨⟨rfl, rfl⟩, hS1, f1⟩ := hp
    obtain ⟨hX1, hF1, ho1⟩ := LSt_7 f1 hX hF hfl ho
    refine jr_aload_n (pc := 1088) h dL_law_1088 rfl ?_
    refine jr_aload_n (pc := 1089) h dL_law_1089 rfl ?_
    refine jr_iload (pc := 1090) h dL_law_1090 rfl ?_
    refine jr_iconst (pc := 1092) h dL_law_1092 ?_
    refine jr_iadd (pc := 1093) h dL_law_1093 ?_
    refine jr_sld (pc := 1094) h hsc dL_law_1094 (by omega) ?_
    refine jr_aload_n (pc := 1095) h dL_law_1095 rfl ?_
    refine jr_iload (pc := 1096) h dL_law_1096 rfl ?_
    refine jr_iconst (pc := 1098) h dL_law_1098 ?_
    refine jr_iadd (pc := 1099) h dL_law_1099 ?_
    refine jr_sld (pc := 1100) h hsc dL_law_1100 (by omega) ?_
    refine jr_if_eq (pc := 1101) h 1108 dL_law_1101 (by decide) (Sc_r hsc _) (fun z_1101 => ?_) (fun z_1101 => ?_)
    · skip
      refine jr_iconst (pc := 1108) h dL_law_1108 ?_
      refine iv_L_150 (pc := 1109) h hl hR dL_law_1109 ⟨(Nat.le_of_ble_eq_true rfl), (Nat.le_of_ble_eq_true rfl), (Nat.le_trans (Nat.add_le_add_right (Nat.add_le_add_right hc _) _) (Nat.le_of_ble_eq_true rfl)), (Nat.le_trans (Nat.add_le_add_right (Nat.add_le_add_right hsl _) _) (Nat.le_of_ble_eq_true rfl))⟩ (Nat.le_of_ble_eq_true rfl) hX1.2.1 (by omega) (s_X9_load hX1 hF1 (Sc_r hsc _) (by omega)) (fun v_1109 n_1109 M_1109 hn_1109 hp => ?_)
      obtain ⟨⟨rfl, rfl⟩, hX2, f2⟩ := hp
      obtain ⟨hS2, hF2, ho2⟩ := LSt_9 f2 hS1 hF1 hfl ho1
      refine jr_same2 (pc := 1112) h 1583 dL_law_1112 (by decide) ?_
      exact kk _ _ _ _ (by
        have q9 : rX7_load.cells + rX9_load.cells ≤ 31 := (Nat.le_of_ble_eq_true rfl)
        omega) (by
        have q9 : rX7_load.slots + rX9_load.slots ≤ 250 := (Nat.le_of_ble_eq_true rfl)
        omega) (Nat.le_refl _) (Nat.le_add_right _ _) ⟨cu, dr, _, _, _, ct, td, bk, si, ld, _, g3, sp, sk, fa, go, _, _, _, _, _, _, fl, rd, _, _, ⟨h77, hS2, hX2, hF2, hfl, ho2⟩, IV_q hI t4_load⟩
    · skip
      exact absurd z_1077 z_1101
  · skip
    refine jr_iconst (pc := 1080) h dL_law_1080 ?_
    refine jr_goto (pc := 1081) h 1085 dL_law_1081 (by decide) ?_
    refine iv_L_146 (pc := 1085) h hl hR dL_law_1085 ⟨(Nat.le_of_ble_eq_true rfl), (Nat.le_of_ble_eq_true rfl), (Nat.le_trans (Nat.add_le_add_right hc _) (Nat.le_of_ble_eq_true rfl)), (Nat.le_trans (Nat.add_le_add_right hsl _) (Nat.le_of_ble_eq_true rfl))⟩ (Nat.le_of_ble_eq_true rfl) hS.2.2.1 (by omega) (s_X7_load hS (Sc_r hsc _) (by omega)) (fun v_1085 n_1085 M_1085 hn_1085 hp => ?_)
    obtain ⟨⟨rfl, rfl⟩, hS1, f1⟩ := hp
    obtain ⟨hX1, hF1, ho1⟩ := LSt_7 f1 hX hF hfl ho
    refine jr_aload_n (pc := 1088) h dL_law_1088 rfl ?_
    refine jr_aload_n (pc := 1089) h dL_law_1089 rfl ?_
    refine jr_iload (pc := 1090) h dL_law_1090 rfl ?_
    refine jr_iconst (pc := 1092) h dL_law_1092 ?_
    refine jr_iadd (pc := 1093) h dL_law_1093 ?_
    refine jr_sld (pc := 1094) h hsc dL_law_1094 (by omega) ?_
    refine jr_aload_n (pc := 1095) h dL_law_1095 rfl ?_
    refine jr_iload (pc := 1096) h dL_law_1096 rfl ?_
    refine jr_iconst (pc := 1098) h dL_law_1098 ?_
    refine jr_iadd (pc := 1099) h dL_law_1099 ?_
    refine jr_sld (pc := 1100) h hsc dL_law_1100 (by omega) ?_
    refine jr_if_eq (pc := 1101) h 1108 dL_law_1101 (by decide) (Sc_r hsc _) (fun z_1101 => ?_) (fun z_1101 => ?_)
    · skip
      exact absurd z_1101 z_1077
    · skip
      refine jr_iconst (pc := 1104) h dL_law_1104 ?_
      refine jr_goto (pc := 1105) h 1109 dL_law_1105 (by decide) ?_
      refine iv_L_150 (pc := 1109) h hl hR dL_law_1109 ⟨(Nat.le_of_ble_eq_true rfl), (Nat.le_of_ble_eq_true rfl), (Nat.le_trans (Nat.add_le_add_right (Nat.add_le_add_right hc _) _) (Nat.le_of_ble_eq_true rfl)), (Nat.le_trans (Nat.add_le_add_right (Nat.add_le_add_right hsl _) _) (Nat.le_of_ble_eq_true rfl))⟩ (Nat.le_of_ble_eq_true rfl) hX1.2.1 (by omega) (s_X9_load hX1 hF1 (Sc_r hsc _) (by omega)) (fun v_1109 n_1109 M_1109 hn_1109 hp => ?_)
      obtain ⟨⟨rfl, rfl⟩, hX2, f2⟩ := hp
      obtain ⟨hS2, hF2, ho2⟩ := LSt_9 f2 hS1 hF1 hfl ho1
      refine jr_same2 (pc := 1112) h 1583 dL_law_1112 (by decide) ?_
      exact kk _ _ _ _ (by
        have q9 : rX7_load.cells + rX9_load.cells ≤ 31 := (Nat.le_of_ble_eq_true rfl)
        omega) (by
        have q9 : rX7_load.slots + rX9_load.slots ≤ 250 := (Nat.le_of_ble_eq_true rfl)
        omega) (Nat.le_refl _) (Nat.le_add_right _ _) ⟨cu, dr, _, _, _, ct, td, bk, si, ld, _, g3, sp, sk, fa, go, _, _, _, _, _, _, fl, rd, _, _, ⟨h77, hS2, hX2, hF2, hfl, ho2⟩, IV_q hI t4_load⟩
set_option maxHeartbeats 1000000 in
set_option maxRecDepth 20000 in
theorem lc_31 {κ : jC} {l : Launch} (h : Ok κ RL cL_law 7 (some .boolean)) (hl : κ.2.1 = l) (hR : Rm κ 16 600 601024 7293034) {L : Nat} {X : Nat → Int} (hsc : Sc κ L X) {i : Int} (hi : 0 ≤ i ∧ i + 6 ≤ L ∧ L ≤ 3072) {c sl n : Nat} {M : jdM} (hc : c ≤ 600000) (hsl : sl ≤ 7200000) (hn : n ≤ 700000) (hB : BN n M) (kk : KK κ c sl n i) : J κ 7 c sl n 1117 [some (.ref 1000999), some (.ref 0), some (.ref 63), some (.ref 76), some (jI i), none, none] [] M := by
  unfold KK at kk
  obtain ⟨cu, dr, g, bs, p, ct, td, bk, si, ld, D, g3, sp, sk, fa, go, mk, tg, tk, tr, g', w, fl, rd, B, fo, ⟨h77, hS, hX, hF, hfl, ho⟩, hI⟩ := hB
  obtain ⟨⟨a1, a2, a3, a4, a5, a6, a7, a8, a9, a10, a11⟩, ⟨b1, b2⟩, ⟨c1, c2, c3⟩, ⟨d1, d2, d3⟩, e9, ⟨r1, r2, r3⟩, ⟨k1, k2⟩, l9, ⟨qK, qr, q2, qfl, qdr, qW, qpr, q5⟩⟩ := id hI
  subst d1
  subst d2
  refine jr_aload_n (pc := 1117) h dL_law_1117 rfl ?_
  refine jr_aload_n (pc := 1118) h dL_law_1118 rfl ?_
  refine jr_iload (pc := 1119) h dL_law_1119 rfl ?_
  refine jr_iconst (pc := 1121) h dL_law_1121 ?_
  refine jr_iadd (pc := 1122) h dL_law_1122 ?_
  refine jr_sld (pc := 1123) h hsc dL_law_1123 (by omega) ?_
  refine iv_L_151 (pc := 1124) h hl hR dL_law_1124 ⟨(Nat.le_of_ble_eq_true rfl), (Nat.le_of_ble_eq_true rfl), (Nat.le_trans (Nat.add_le_add_right hc _) (Nat.le_of_ble_eq_true rfl)), (Nat.le_trans (Nat.add_le_add_right hsl _) (Nat.le_of_ble_eq_true rfl))⟩ (Nat.le_of_ble_eq_true rfl) hS.2.2.1 (by omega) (s_X7_spare hS (Sc_r hsc _)) (fun v_1124 n_1124 M_1124 hn_1124 hp => ?_)
  obtain ⟨⟨rfl, rfl⟩, hS1, f1⟩ := hp
  obtain ⟨hX1, hF1, ho1⟩ := LSt_7 f1 hX hF hfl ho
  refine jr_aload_n (pc := 1127) h dL_law_1127 rfl ?_
  refine jr_aload_n (pc := 1128) h dL_law_1128 rfl ?_
  refine jr_iload (pc := 1129) h dL_law_1129 rfl ?_
  refine jr_iconst (pc := 1131) h dL_law_1131 ?_
  refine jr_iadd (pc := 1132) h dL_law_1132 ?_
  refine jr_sld (pc := 1133) h hsc dL_law_1133 (by omega) ?_
  refine iv_L_154 (pc := 1134) h hl hR dL_law_1134 ⟨(Nat.le_of_ble_eq_true rfl), (Nat.le_of_ble_eq_true rfl), (Nat.le_trans (Nat.add_le_add_right (Nat.add_le_add_right hc _) _) (Nat.le_of_ble_eq_true rfl)), (Nat.le_trans (Nat.add_le_add_right (Nat.add_le_add_right hsl _) _) (Nat.le_of_ble_eq_true rfl))⟩ (Nat.le_of_ble_eq_true rfl) hX1.2.1 (by omega) (s_X9_spare hX1 hF1 (Sc_r hsc _)) (fun v_1134 n_1134 M_1134 hn_1134 hp => ?_)
  obtain ⟨⟨rfl, rfl⟩, hX2, f2⟩ := hp
  obtain ⟨hS2, hF2, ho2⟩ := LSt_9 f2 hS1 hF1 hfl ho1
  refine jr_same2 (pc := 1137) h 1583 dL_law_1137 (by decide) ?_
  exact kk _ _ _ _ (by
    have q9 : rX7_spare.cells + rX9_spare.cells ≤ 31 := (Nat.le_of_ble_eq_true rfl)
    omega) (by
    have q9 : rX7_spare.slots + rX9_spare.slots ≤ 250 := (Nat.le_of_ble_eq_true rfl)
    omega) (Nat.le_refl _) (Nat.le_add_right _ _) ⟨cu, dr, _, _, _, ct, td, bk, si, ld, _, g3, sp, sk, fa, go, _, _, _, _, _, _, fl, rd, _, _, ⟨h77, hS2, hX2, hF2, hfl, ho2⟩, IV_q hI t4_spare⟩
set_option maxHeartbeats 1000000 in
set_option maxRecDepth 20000 in
theorem lc_32 {κ : jC} {l : Launch} (h : Ok κ RL cL_law 7 (some .boolean)) (hl : κ.2.1 = l) (hR : Rm κ 16 600 601024 7293034) {L : Nat} {X : Nat → Int} (hsc : Sc κ L X) {i : Int} (hi : 0 ≤ i ∧ i + 6 ≤ L ∧ L ≤ 3072) {c sl n : Nat} {M : jdM} (hc : c ≤ 600000) (hsl : sl ≤ 7200000) (hn : n ≤ 700000) (hB : BN n M) (kk : KK κ c sl n i) : J κ 7 c sl n 1142 [some (.ref 1000999), some (.ref 0), some (.ref 63), some (.ref 76), some (jI i), none, none] [] M := by
  unfold KK at kk
  obtain ⟨cu, dr, g, bs, p, ct, td, bk, si, ld, D, g3, sp, sk, fa, go, mk, tg, tk, tr, g', w, fl, rd, B, fo, ⟨h77, hS, hX, hF, hfl, ho⟩, hI⟩ := hB
  obtain ⟨⟨a1, a2, a3, a4, a5, a6, a7, a8, a9, a10, a11⟩, ⟨b1, b2⟩, ⟨c1, c2, c3⟩, ⟨d1, d2, d3⟩, e9, ⟨r1, r2, r3⟩, ⟨k1, k2⟩, l9, ⟨qK, qr, q2, qfl, qdr, qW, qpr, q5⟩⟩ := id hI
  subst d1
  subst d2
  refine jr_aload_n (pc := 1142) h dL_law_1142 rfl ?_
  refine iv_L_155 (pc := 1143) h hl hR dL_law_1143 ⟨(Nat.le_of_ble_eq_true rfl), (Nat.le_of_ble_eq_true rfl), (Nat.le_trans (Nat.add_le_add_right hc _) (Nat.le_of_ble_eq_true rfl)), (Nat.le_trans (Nat.add_le_add_right hsl _) (Nat.le_of_ble_eq_true rfl))⟩ (Nat.le_of_ble_eq_true rfl) hS.2.2.1 (by omega) (s_X7_unloaded hS) (fun v_1143 n_1143 M_1143 hn_1143 hp => ?_)
  obtain ⟨⟨rfl, rfl⟩, hS1, f1⟩ := hp
  obtain ⟨hX1, hF1, ho1⟩ := LSt_7 f1 hX hF hfl ho
  refine jr_aload_n (pc := 1146) h dL_law_1146 rfl ?_
  refine iv_L_158 (pc := 1147) h hl hR dL_law_1147 ⟨(Nat.le_of_ble_eq_true rfl), (Nat.le_of_ble_eq_true rfl), (Nat.le_trans (Nat.add_le_add_right (Nat.add_le_add_right hc _) _) (Nat.le_of_ble_eq_true rfl)), (Nat.le_trans (Nat.add_le_add_right (Nat.add_le_add_right hsl _) _) (Nat.le_of_ble_eq_true rfl))⟩ (Nat.le_of_ble_eq_true rfl) hX1.2.1 (by omega) (s_X9_unloaded hX1 hF1) (fun v_1147 n_1147 M_1147 hn_1147 hp => ?_)
  obtain ⟨⟨rfl, rfl⟩, hX2, f2⟩ := hp
  obtain ⟨hS2, hF2, ho2⟩ := LSt_9 f2 hS1 hF1 hfl ho1
  refine jr_same2 (pc := 1150) h 1583 dL_law_1150 (by decide) ?_
  exact kk _ _ _ _ (by
    have q9 : rX7_unloaded.cells + rX9_unloaded.cells ≤ 31 := (Nat.le_of_ble_eq_true rfl)
    omega) (by
    have q9 : rX7_unloaded.slots + rX9_unloaded.slots ≤ 250 := (Nat.le_of_ble_eq_true rfl)
    omega) (Nat.le_refl _) (Nat.le_add_right _ _) ⟨cu, dr, _, _, _, ct, td, bk, si, ld, _, g3, sp, sk, fa, go, _, _, _, _, _, _, fl, rd, _, _, ⟨h77, hS2, hX2, hF2, hfl, ho2⟩, IV_q hI t4_unl⟩
set_option maxHeartbeats 1000000 in
set_option maxRecDepth 20000 in
theorem lc_33 {κ : jC} {l : Launch} (h : Ok κ RL cL_law 7 (some .boolean)) (hl : κ.2.1 = l) (hR : Rm κ 16 600 601024 7293034) {L : Nat} {X : Nat → Int} (hsc : Sc κ L X) {i : Int} (hi : 0 ≤ i ∧ i + 6 ≤ L ∧ L ≤ 3072) {c sl n : Nat} {M : jdM} (hc : c ≤ 600000) (hsl : sl ≤ 7200000) (hn : n ≤ 700000) (hB : BN n M) (kk : KK κ c sl n i) : J κ 7 c sl n 1155 [some (.ref 1000999), some (.ref 0), some (.ref 63), some (.ref 76), some (jI i), none, none] [] M := by
  unfold KK at kk
  obtain ⟨cu, dr, g, bs, p, ct, td, bk, si, ld, D, g3, sp, sk, fa, go, mk, tg, tk, tr, g', w, fl, rd, B, fo, ⟨h77, hS, hX, hF, hfl, ho⟩, hI⟩ := hB
  obtain ⟨⟨a1, a2, a3, a4, a5, a6, a7, a8, a9, a10, a11⟩, ⟨b1, b2⟩, ⟨c1, c2, c3⟩, ⟨d1, d2, d3⟩, e9, ⟨r1, r2, r3⟩, ⟨k1, k2⟩, l9, ⟨qK, qr, q2, qfl, qdr, qW, qpr, q5⟩⟩ := id hI
  subst d1
  subst d2
  refine jr_aload_n (pc := 1155) h dL_law_1155 rfl ?_
  refine jr_aload_n (pc := 1156) h dL_law_1156 rfl ?_
  refine jr_iload (pc := 1157) h dL_law_1157 rfl ?_
  refine jr_iconst (pc := 1159) h dL_law_1159 ?_
  refine jr_iadd (pc := 1160) h dL_law_1160 ?_
  refine jr_sld (pc := 1161) h hsc dL_law_1161 (by omega) ?_
  refine iv_L_159 (pc := 1162) h hl hR dL_law_1162 ⟨(Nat.le_of_ble_eq_true rfl), (Nat.le_of_ble_eq_true rfl), (Nat.le_trans (Nat.add_le_add_right hc _) (Nat.le_of_ble_eq_true rfl)), (Nat.le_trans (Nat.add_le_add_right hsl _) (Nat.le_of_ble_eq_true rfl))⟩ (Nat.le_of_ble_eq_true rfl) hS.2.2.1 (by omega) (s_X7_waits hS (Sc_r hsc _) (IV_h45 hI) (IV_fa hI) (fun a _ _ => IV_lv hI a)) (fun v_1162 n_1162 M_1162 hn_1162 hp => ?_)
  obtain ⟨⟨rfl, rfl⟩, hS1, f1⟩ := hp
  obtain ⟨hX1, hF1, ho1⟩ := LSt_7 f1 hX hF hfl ho
  refine jr_aload_n (pc := 1165) h dL_law_1165 rfl ?_
  refine jr_aload_n (pc := 1166) h dL_law_1166 rfl ?_
  refine jr_iload (pc := 1167) h dL_law_1167 rfl ?_
  refine jr_iconst (pc := 1169) h dL_law_1169 ?_
  refine jr_iadd (pc := 1170) h dL_law_1170 ?_
  refine jr_sld (pc := 1171) h hsc dL_law_1171 (by omega) ?_
  refine iv_L_162 (pc := 1172) h hl hR dL_law_1172 ⟨(Nat.le_of_ble_eq_true rfl), (Nat.le_of_ble_eq_true rfl), (Nat.le_trans (Nat.add_le_add_right (Nat.add_le_add_right hc _) _) (Nat.le_of_ble_eq_true rfl)), (Nat.le_trans (Nat.add_le_add_right (Nat.add_le_add_right hsl _) _) (Nat.le_of_ble_eq_true rfl))⟩ (Nat.le_of_ble_eq_true rfl) hX1.2.1 (by omega) (s_X9_waits hX1 hF1 (Sc_r hsc _) r1 r2 r3) (fun v_1172 n_1172 M_1172 hn_1172 hp => ?_)
  obtain ⟨⟨rfl, rfl⟩, hX2, f2⟩ := hp
  obtain ⟨hS2, hF2, ho2⟩ := LSt_9 f2 hS1 hF1 hfl ho1
  refine jr_same2 (pc := 1175) h 1583 dL_law_1175 (by decide) ?_
  exact kk _ _ _ _ (by
    have q9 : rX7_waits.cells + rX9_waits.cells ≤ 31 := (Nat.le_of_ble_eq_true rfl)
    omega) (by
    have q9 : rX7_waits.slots + rX9_waits.slots ≤ 250 := (Nat.le_of_ble_eq_true rfl)
    omega) (Nat.le_refl _) (Nat.le_add_right _ _) ⟨cu, dr, _, _, _, ct, td, bk, si, ld, _, g3, sp, sk, fa, go, _, _, _, _, _, _, fl, rd, _, _, ⟨h77, hS2, hX2, hF2, hfl, ho2⟩, IV_q hI t4_waits⟩
set_option maxHeartbeats 1000000 in
set_option maxRecDepth 20000 in
theorem lc_34 {κ : jC} {l : Launch} (h : Ok κ RL cL_law 7 (some .boolean)) (hl : κ.2.1 = l) (hR : Rm κ 16 600 601024 7293034) {L : Nat} {X : Nat → Int} (hsc : Sc κ L X) {i : Int} (hi : 0 ≤ i ∧ i + 6 ≤ L ∧ L ≤ 3072) {c sl n : Nat} {M : jdM} (hc : c ≤ 600000) (hsl : sl ≤ 7200000) (hn : n ≤ 700000) (hB : BN n M) (kk : KK κ c sl n i) : J κ 7 c sl n 1180 [some (.ref 1000999), some (.ref 0), some (.ref 63), some (.ref 76), some (jI i), none, none] [] M := by
  unfold KK at kk
  obtain ⟨cu, dr, g, bs, p, ct, td, bk, si, ld, D, g3, sp, sk, fa, go, mk, tg, tk, tr, g', w, fl, rd, B, fo, ⟨h77, hS, hX, hF, hfl, ho⟩, hI⟩ := hB
  obtain ⟨⟨a1, a2, a3, a4, a5, a6, a7, a8, a9, a10, a11⟩, ⟨b1, b2⟩, ⟨c1, c2, c3⟩, ⟨d1, d2, d3⟩, e9, ⟨r1, r2, r3⟩, ⟨k1, k2⟩, l9, ⟨qK, qr, q2, qfl, qdr, qW, qpr, q5⟩⟩ := id hI
  subst d1
  subst d2
  refine jr_aload_n (pc := 1180) h dL_law_1180 rfl ?_
  refine jr_aload_n (pc := 1181) h dL_law_1181 rfl ?_
  refine jr_iload (pc := 1182) h dL_law_1182 rfl ?_
  refine jr_iconst (pc := 1184) h dL_law_1184 ?_
  refine jr_iadd (pc := 1185) h dL_law_1185 ?_
  refine jr_sld (pc := 1186) h hsc dL_law_1186 (by omega) ?_
  refine jr_aload_n (pc := 1187) h dL_law_1187 rfl ?_
  refine jr_iload (pc := 1188) h dL_law_1188 rfl ?_
  refine jr_iconst (pc := 1190) h dL_law_1190 ?_
  refine jr_iadd (pc := 1191) h dL_law_1191 ?_
  refine jr_sld (pc := 1192) h hsc dL_law_1192 (by omega) ?_
  refine iv_L_163 (pc := 1193) h hl hR dL_law_1193 ⟨(Nat.le_of_ble_eq_true rfl), (Nat.le_of_ble_eq_true rfl), (Nat.le_trans (Nat.add_le_add_right hc _) (Nat.le_of_ble_eq_true rfl)), (Nat.le_trans (Nat.add_le_add_right hsl _) (Nat.le_of_ble_eq_true rfl))⟩ (Nat.le_of_ble_eq_true rfl) hS.2.2.1 (by omega) (s_X7_on hS (Sc_r hsc _) (Sc_r hsc _) (IV_h45 hI) (IV_fa hI)) (fun v_1193 n_1193 M_1193 hn_1193 hp => ?_)
  obtain ⟨⟨rfl, rfl⟩, hS1, f1⟩ := hp
  obtain ⟨hX1, hF1, ho1⟩ := LSt_7 f1 hX hF hfl ho
  refine jr_aload_n (pc := 1196) h dL_law_1196 rfl ?_
  refine jr_aload_n (pc := 1197) h dL_law_1197 rfl ?_
  refine jr_iload (pc := 1198) h dL_law_1198 rfl ?_
  refine jr_iconst (pc := 1200) h dL_law_1200 ?_
  refine jr_iadd (pc := 1201) h dL_law_1201 ?_
  refine jr_sld (pc := 1202) h hsc dL_law_1202 (by omega) ?_
  refine jr_aload_n (pc := 1203) h dL_law_1203 rfl ?_
  refine jr_iload (pc := 1204) h dL_law_1204 rfl ?_
  refine jr_iconst (pc := 1206) h dL_law_1206 ?_
  refine jr_iadd (pc := 1207) h dL_law_1207 ?_
  refine jr_sld (pc := 1208) h hsc dL_law_1208 (by omega) ?_
  refine iv_L_166 (pc := 1209) h hl hR dL_law_1209 ⟨(Nat.le_of_ble_eq_true rfl), (Nat.le_of_ble_eq_true rfl), (Nat.le_trans (Nat.add_le_add_right (Nat.add_le_add_right hc _) _) (Nat.le_of_ble_eq_true rfl)), (Nat.le_trans (Nat.add_le_add_right (Nat.add_le_add_right hsl _) _) (Nat.le_of_ble_eq_true rfl))⟩ (Nat.le_of_ble_eq_true rfl) hX1.2.1 (by omega) (s_X9_on hX1 hF1 (Sc_r hsc _) (Sc_r hsc _) r1 r2 r3) (fun v_1209 n_1209 M_1209 hn_1209 hp => ?_)
  obtain ⟨⟨rfl, rfl⟩, hX2, f2⟩ := hp
  obtain ⟨hS2, hF2, ho2⟩ := LSt_9 f2 hS1 hF1 hfl ho1
  refine jr_same2 (pc := 1212) h 1583 dL_law_1212 (by decide) ?_
  exact kk _ _ _ _ (by
    have q9 : rX7_on.cells + rX9_on.cells ≤ 31 := (Nat.le_of_ble_eq_true rfl)
    omega) (by
    have q9 : rX7_on.slots + rX9_on.slots ≤ 250 := (Nat.le_of_ble_eq_true rfl)
    omega) (Nat.le_refl _) (Nat.le_add_right _ _) ⟨cu, dr, _, _, _, ct, td, bk, si, ld, _, g3, sp, sk, fa, go, _, _, _, _, _, _, fl, rd, _, _, ⟨h77, hS2, hX2, hF2, hfl, ho2⟩, IV_q hI t4_on⟩
set_option maxHeartbeats 1000000 in
set_option maxRecDepth 20000 in
theorem lc_35 {κ : jC} {l : Launch} (h : Ok κ RL cL_law 7 (some .boolean)) (hl : κ.2.1 = l) (hR : Rm κ 16 600 601024 7293034) {L : Nat} {X : Nat → Int} (hsc : Sc κ L X) {i : Int} (hi : 0 ≤ i ∧ i + 6 ≤ L ∧ L ≤ 3072) {c sl n : Nat} {M : jdM} (hc : c ≤ 600000) (hsl : sl ≤ 7200000) (hn : n ≤ 700000) (hB : BN n M) (kk : KK κ c sl n i) : J κ 7 c sl n 1217 [some (.ref 1000999), some (.ref 0), some (.ref 63), some (.ref 76), some (jI i), none, none] [] M := by
  unfold KK at kk
  obtain ⟨cu, dr, g, bs, p, ct, td, bk, si, ld, D, g3, sp, sk, fa, go, mk, tg, tk, tr, g', w, fl, rd, B, fo, ⟨h77, hS, hX, hF, hfl, ho⟩, hI⟩ := hB
  obtain ⟨⟨a1, a2, a3, a4, a5, a6, a7, a8, a9, a10, a11⟩, ⟨b1, b2⟩, ⟨c1, c2, c3⟩, ⟨d1, d2, d3⟩, e9, ⟨r1, r2, r3⟩, ⟨k1, k2⟩, l9, ⟨qK, qr, q2, qfl, qdr, qW, qpr, q5⟩⟩ := id hI
  subst d1
  subst d2
  refine jr_aload_n (pc := 1217) h dL_law_1217 rfl ?_
  refine jr_aload_n (pc := 1218) h dL_law_1218 rfl ?_
  refine jr_iload (pc := 1219) h dL_law_1219 rfl ?_
  refine jr_iconst (pc := 1221) h dL_law_1221 ?_
  refine jr_iadd (pc := 1222) h dL_law_1222 ?_
  refine jr_sld (pc := 1223) h hsc dL_law_1223 (by omega) ?_
  refine iv_L_167 (pc := 1224) h hl hR dL_law_1224 ⟨(Nat.le_of_ble_eq_true rfl), (Nat.le_of_ble_eq_true rfl), (Nat.le_trans (Nat.add_le_add_right hc _) (Nat.le_of_ble_eq_true rfl)), (Nat.le_trans (Nat.add_le_add_right hsl _) (Nat.le_of_ble_eq_true rfl))⟩ (Nat.le_of_ble_eq_true rfl) hS.2.2.1 (by omega) (s_X7_clear hS (Sc_r hsc _) q2.2 qfl (IV_f7 hI)) (fun v_1224 n_1224 M_1224 hn_1224 hp => ?_)
  obtain ⟨⟨rfl, rfl⟩, hS1, f1⟩ := hp
  obtain ⟨hX1, hF1, ho1⟩ := LSt_7 f1 hX hF hfl ho
  refine jr_aload_n (pc := 1227) h dL_law_1227 rfl ?_
  refine jr_aload_n (pc := 1228) h dL_law_1228 rfl ?_
  refine jr_iload (pc := 1229) h dL_law_1229 rfl ?_
  refine jr_iconst (pc := 1231) h dL_law_1231 ?_
  refine jr_iadd (pc := 1232) h dL_law_1232 ?_
  refine jr_sld (pc := 1233) h hsc dL_law_1233 (by omega) ?_
  refine iv_L_170 (pc := 1234) h hl hR dL_law_1234 ⟨(Nat.le_of_ble_eq_true rfl), (Nat.le_of_ble_eq_true rfl), (Nat.le_trans (Nat.add_le_add_right (Nat.add_le_add_right hc _) _) (Nat.le_of_ble_eq_true rfl)), (Nat.le_trans (Nat.add_le_add_right (Nat.add_le_add_right hsl _) _) (Nat.le_of_ble_eq_true rfl))⟩ (Nat.le_of_ble_eq_true rfl) hX1.2.1 (by omega) (s_X9_clear hX1 hF1 e9 (IV_tr hI) (Sc_r hsc _)) (fun v_1234 n_1234 M_1234 hn_1234 hp => ?_)
  obtain ⟨⟨rfl, rfl⟩, D1, hD1, hX2, f2⟩ := hp
  obtain ⟨hS2, hF2, ho2⟩ := LSt_9 f2 hS1 hF1 hfl ho1
  refine jr_same2 (pc := 1237) h 1583 dL_law_1237 (by decide) ?_
  exact kk _ _ _ _ (by
    have q9 : rX7_clear.cells + rX9_clear.cells ≤ 31 := (Nat.le_of_ble_eq_true rfl)
    omega) (by
    have q9 : rX7_clear.slots + rX9_clear.slots ≤ 250 := (Nat.le_of_ble_eq_true rfl)
    omega) (Nat.le_refl _) (Nat.le_add_right _ _) ⟨cu, dr, _, _, _, ct, td, bk, si, ld, _, g3, sp, sk, fa, go, _, _, _, _, _, _, fl, rd, _, _, ⟨h77, hS2, hX2, hF2, hfl, ho2⟩, IV_q (IV_B (B' := up B 2 D1) hI rfl hD1 rfl rfl rfl rfl) t4_clear⟩
set_option maxHeartbeats 1000000 in
set_option maxRecDepth 20000 in
theorem lc_36 {κ : jC} {l : Launch} (h : Ok κ RL cL_law 7 (some .boolean)) (hl : κ.2.1 = l) (hR : Rm κ 16 600 601024 7293034) {L : Nat} {X : Nat → Int} (hsc : Sc κ L X) {i : Int} (hi : 0 ≤ i ∧ i + 6 ≤ L ∧ L ≤ 3072) {c sl n : Nat} {M : jdM} (hc : c ≤ 600000) (hsl : sl ≤ 7200000) (hn : n ≤ 700000) (hB : BN n M) (kk : KK κ c sl n i) : J κ 7 c sl n 1242 [some (.ref 1000999), some (.ref 0), some (.ref 63), some (.ref 76), some (jI i), none, none] [] M := by
  unfold KK at kk
  obtain ⟨cu, dr, g, bs, p, ct, td, bk, si, ld, D, g3, sp, sk, fa, go, mk, tg, tk, tr, g', w, fl, rd, B, fo, ⟨h77, hS, hX, hF, hfl, ho⟩, hI⟩ := hB
  obtain ⟨⟨a1, a2, a3, a4, a5, a6, a7, a8, a9, a10, a11⟩, ⟨b1, b2⟩, ⟨c1, c2, c3⟩, ⟨d1, d2, d3⟩, e9, ⟨r1, r2, r3⟩, ⟨k1, k2⟩, l9, ⟨qK, qr, q2, qfl, qdr, qW, qpr, q5⟩⟩ := id hI
  subst d1
  subst d2
  refine jr_aload_n (pc := 1242) h dL_law_1242 rfl ?_
  refine jr_aload_n (pc := 1243) h dL_law_1243 rfl ?_
  refine jr_iload (pc := 1244) h dL_law_1244 rfl ?_
  refine jr_iconst (pc := 1246) h dL_law_1246 ?_
  refine jr_iadd (pc := 1247) h dL_law_1247 ?_
  refine jr_sld (pc := 1248) h hsc dL_law_1248 (by omega) ?_
  refine jr_aload_n (pc := 1249) h dL_law_1249 rfl ?_
  refine jr_iload (pc := 1250) h dL_law_1250 rfl ?_
  refine jr_iconst (pc := 1252) h dL_law_1252 ?_
  refine jr_iadd (pc := 1253) h dL_law_1253 ?_
  refine jr_sld (pc := 1254) h hsc dL_law_1254 (by omega) ?_
  refine iv_L_171 (pc := 1255) h hl hR dL_law_1255 ⟨(Nat.le_of_ble_eq_true rfl), (Nat.le_of_ble_eq_true rfl), (Nat.le_trans (Nat.add_le_add_right hc _) (Nat.le_of_ble_eq_true rfl)), (Nat.le_trans (Nat.add_le_add_right hsl _) (Nat.le_of_ble_eq_true rfl))⟩ (Nat.le_of_ble_eq_true rfl) hS.2.2.1 (by omega) (s_X7_room hS (Sc_r hsc _) (Sc_r hsc _) q2.2 qfl (IV_f7 hI) qdr) (fun v_1255 n_1255 M_1255 hn_1255 hp => ?_)
  obtain ⟨⟨rfl, rfl⟩, hS1, f1⟩ := hp
  obtain ⟨hX1, hF1, ho1⟩ := LSt_7 f1 hX hF hfl ho
  refine jr_aload_n (pc := 1258) h dL_law_1258 rfl ?_
  refine jr_aload_n (pc := 1259) h dL_law_1259 rfl ?_
  refine jr_iload (pc := 1260) h dL_law_1260 rfl ?_
  refine jr_iconst (pc := 1262) h dL_law_1262 ?_
  refine jr_iadd (pc := 1263) h dL_law_1263 ?_
  refine jr_sld (pc := 1264) h hsc dL_law_1264 (by omega) ?_
  refine jr_aload_n (pc := 1265) h dL_law_1265 rfl ?_
  refine jr_iload (pc := 1266) h dL_law_1266 rfl ?_
  refine jr_iconst (pc := 1268) h dL_law_1268 ?_
  refine jr_iadd (pc := 1269) h dL_law_1269 ?_
  refine jr_sld (pc := 1270) h hsc dL_law_1270 (by omega) ?_
  refine iv_L_174 (pc := 1271) h hl hR dL_law_1271 ⟨(Nat.le_of_ble_eq_true rfl), (Nat.le_of_ble_eq_true rfl), (Nat.le_trans (Nat.add_le_add_right (Nat.add_le_add_right hc _) _) (Nat.le_of_ble_eq_true rfl)), (Nat.le_trans (Nat.add_le_add_right (Nat.add_le_add_right hsl _) _) (Nat.le_of_ble_eq_true rfl))⟩ (Nat.le_of_ble_eq_true rfl) hX1.2.1 (by omega) (s_X9_room hX1 hF1 e9 (IV_tr hI) (Sc_r hsc _) (Sc_r hsc _)) (fun v_1271 n_1271 M_1271 hn_1271 hp => ?_)
  obtain ⟨⟨rfl, rfl⟩, D1, hD1, hX2, f2⟩ := hp
  obtain ⟨hS2, hF2, ho2⟩ := LSt_9 f2 hS1 hF1 hfl ho1
  refine jr_same2 (pc := 1274) h 1583 dL_law_1274 (by decide) ?_
  exact kk _ _ _ _ (by
    have q9 : rX7_room.cells + rX9_room.cells ≤ 31 := (Nat.le_of_ble_eq_true rfl)
    omega) (by
    have q9 : rX7_room.slots + rX9_room.slots ≤ 250 := (Nat.le_of_ble_eq_true rfl)
    omega) (Nat.le_refl _) (Nat.le_add_right _ _) ⟨cu, dr, _, _, _, ct, td, bk, si, ld, _, g3, sp, sk, fa, go, _, _, _, _, _, _, fl, rd, _, _, ⟨h77, hS2, hX2, hF2, hfl, ho2⟩, IV_q (IV_B (B' := up B 2 D1) hI rfl hD1 rfl rfl rfl rfl) t4_room⟩
set_option maxHeartbeats 1000000 in
set_option maxRecDepth 20000 in
theorem lc_37 {κ : jC} {l : Launch} (h : Ok κ RL cL_law 7 (some .boolean)) (hl : κ.2.1 = l) (hR : Rm κ 16 600 601024 7293034) {L : Nat} {X : Nat → Int} (hsc : Sc κ L X) {i : Int} (hi : 0 ≤ i ∧ i + 6 ≤ L ∧ L ≤ 3072) {c sl n : Nat} {M : jdM} (hc : c ≤ 600000) (hsl : sl ≤ 7200000) (hn : n ≤ 700000) (hB : BN n M) (kk : KK κ c sl n i) : J κ 7 c sl n 1279 [some (.ref 1000999), some (.ref 0), some (.ref 63), some (.ref 76), some (jI i), none, none] [] M := by
  unfold KK at kk
  obtain ⟨cu, dr, g, bs, p, ct, td, bk, si, ld, D, g3, sp, sk, fa, go, mk, tg, tk, tr, g', w, fl, rd, B, fo, ⟨h77, hS, hX, hF, hfl, ho⟩, hI⟩ := hB
  obtain ⟨⟨a1, a2, a3, a4, a5, a6, a7, a8, a9, a10, a11⟩, ⟨b1, b2⟩, ⟨c1, c2, c3⟩, ⟨d1, d2, d3⟩, e9, ⟨r1, r2, r3⟩, ⟨k1, k2⟩, l9, ⟨qK, qr, q2, qfl, qdr, qW, qpr, q5⟩⟩ := id hI
  subst d1
  subst d2
  refine jr_aload_n (pc := 1279) h dL_law_1279 rfl ?_
  refine jr_aload_n (pc := 1280) h dL_law_1280 rfl ?_
  refine jr_iload (pc := 1281) h dL_law_1281 rfl ?_
  refine jr_iconst (pc := 1283) h dL_law_1283 ?_
  refine jr_iadd (pc := 1284) h dL_law_1284 ?_
  refine jr_sld (pc := 1285) h hsc dL_law_1285 (by omega) ?_
  refine jr_aload_n (pc := 1286) h dL_law_1286 rfl ?_
  refine jr_iload (pc := 1287) h dL_law_1287 rfl ?_
  refine jr_iconst (pc := 1289) h dL_law_1289 ?_
  refine jr_iadd (pc := 1290) h dL_law_1290 ?_
  refine jr_sld (pc := 1291) h hsc dL_law_1291 (by omega) ?_
  refine jr_aload_n (pc := 1292) h dL_law_1292 rfl ?_
  refine jr_iload (pc := 1293) h dL_law_1293 rfl ?_
  refine jr_iconst (pc := 1295) h dL_law_1295 ?_
  refine jr_iadd (pc := 1296) h dL_law_1296 ?_
  refine jr_sld (pc := 1297) h hsc dL_law_1297 (by omega) ?_
  refine jr_aload_n (pc := 1298) h dL_law_1298 rfl ?_
  refine jr_iload (pc := 1299) h dL_law_1299 rfl ?_
  refine jr_iconst (pc := 1301) h dL_law_1301 ?_
  refine jr_iadd (pc := 1302) h dL_law_1302 ?_
  refine jr_sld (pc := 1303) h hsc dL_law_1303 (by omega) ?_
  refine jr_aload_n (pc := 1304) h dL_law_1304 rfl ?_
  refine jr_iload (pc := 1305) h dL_law_1305 rfl ?_
  refine jr_iconst (pc := 1307) h dL_law_1307 ?_
  refine jr_iadd (pc := 1308) h dL_law_1308 ?_
  refine jr_sld (pc := 1309) h hsc dL_law_1309 (by omega) ?_
  refine iv_L_175 (pc := 1310) h hl hR dL_law_1310 ⟨(Nat.le_of_ble_eq_true rfl), (Nat.le_of_ble_eq_true rfl), (Nat.le_trans (Nat.add_le_add_right hc _) (Nat.le_of_ble_eq_true rfl)), (Nat.le_trans (Nat.add_le_add_right hsl _) (Nat.le_of_ble_eq_true rfl))⟩ (Nat.le_of_ble_eq_true rfl) hS.2.2.1 (by omega) (s_X7_fewest hS (Sc_r hsc _) (Sc_r hsc _) (Sc_r hsc _) (Sc_r hsc _) (Sc_r hsc _)) (fun v_1310 n_1310 M_1310 hn_1310 hp => ?_)
  obtain ⟨⟨rfl, rfl⟩, hS1, f1⟩ := hp
  obtain ⟨hX1, hF1, ho1⟩ := LSt_7 f1 hX hF hfl ho
  refine jr_aload_n (pc := 1313) h dL_law_1313 rfl ?_
  refine jr_aload_n (pc := 1314) h dL_law_1314 rfl ?_
  refine jr_iload (pc := 1315) h dL_law_1315 rfl ?_
  refine jr_iconst (pc := 1317) h dL_law_1317 ?_
  refine jr_iadd (pc := 1318) h dL_law_1318 ?_
  refine jr_sld (pc := 1319) h hsc dL_law_1319 (by omega) ?_
  refine jr_aload_n (pc := 1320) h dL_law_1320 rfl ?_
  refine jr_iload (pc := 1321) h dL_law_1321 rfl ?_
  refine jr_iconst (pc := 1323) h dL_law_1323 ?_
  refine jr_iadd (pc := 1324) h dL_law_1324 ?_
  refine jr_sld (pc := 1325) h hsc dL_law_1325 (by omega) ?_
  refine jr_aload_n (pc := 1326) h dL_law_1326 rfl ?_
  refine jr_iload (pc := 1327) h dL_law_1327 rfl ?_
  refine jr_iconst (pc := 1329) h dL_law_1329 ?_
  refine jr_iadd (pc := 1330) h dL_law_1330 ?_
  refine jr_sld (pc := 1331) h hsc dL_law_1331 (by omega) ?_
  refine jr_aload_n (pc := 1332) h dL_law_1332 rfl ?_
  refine jr_iload (pc := 1333) h dL_law_1333 rfl ?_
  refine jr_iconst (pc := 1335) h dL_law_1335 ?_
  refine jr_iadd (pc := 1336) h dL_law_1336 ?_
  refine jr_sld (pc := 1337) h hsc dL_law_1337 (by omega) ?_
  refine jr_aload_n (pc := 1338) h dL_law_1338 rfl ?_
  refine jr_iload (pc := 1339) h dL_law_1339 rfl ?_
  refine jr_iconst (pc := 1341) h dL_law_1341 ?_
  refine jr_iadd (pc := 1342) h dL_law_1342 ?_
  refine jr_sld (pc := 1343) h hsc dL_law_1343 (by omega) ?_
  refine iv_L_178 (pc := 1344) h hl hR dL_law_1344 ⟨(Nat.le_of_ble_eq_true rfl), (Nat.le_of_ble_eq_true rfl), (Nat.le_trans (Nat.add_le_add_right (Nat.add_le_add_right hc _) _) (Nat.le_of_ble_eq_true rfl)), (Nat.le_trans (Nat.add_le_add_right (Nat.add_le_add_right hsl _) _) (Nat.le_of_ble_eq_true rfl))⟩ (Nat.le_of_ble_eq_true rfl) hX1.2.1 (by omega) (s_X9_fewest hX1 hF1 (Sc_r hsc _) (Sc_r hsc _) (Sc_r hsc _) (Sc_r hsc _) (Sc_r hsc _)) (fun v_1344 n_1344 M_1344 hn_1344 hp => ?_)
  obtain ⟨⟨rfl, rfl⟩, b6, b7, hX2, f2⟩ := hp
  obtain ⟨hS2, hF2, ho2⟩ := LSt_9 f2 hS1 hF1 hfl ho1
  refine jr_same2 (pc := 1347) h 1583 dL_law_1347 (by decide) ?_
  exact kk _ _ _ _ (by
    have q9 : rX7_fewest.cells + rX9_fewest.cells ≤ 31 := (Nat.le_of_ble_eq_true rfl)
    omega) (by
    have q9 : rX7_fewest.slots + rX9_fewest.slots ≤ 250 := (Nat.le_of_ble_eq_true rfl)
    omega) (Nat.le_refl _) (Nat.le_add_right _ _) ⟨cu, dr, _, _, _, ct, td, bk, si, ld, _, g3, sp, sk, fa, go, _, _, _, _, _, _, fl, rd, _, _, ⟨h77, hS2, hX2, hF2, hfl, ho2⟩, IV_q (IV_B (B' := up (up B 7 b7) 6 b6) hI rfl e9 rfl rfl rfl rfl) t4_fewest⟩
