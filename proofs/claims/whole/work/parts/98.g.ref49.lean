/-! 98.g: the reference: feed, thrown -/
set_option maxHeartbeats 1000000 in
set_option maxRecDepth 20000 in
theorem s_X9_thrown {l : Launch} {n : Nat} {M : jdM} {m : Nat} {g : Nat → Int} {w : Int} {fl rd : Value} {B : Nat → Nat → Int} (hX : MX M n m g w fl rd B) : Ct l yX9_thrown cX9_thrown 1 (some .int) rX9_thrown [.ref m] n M (fun vv n' M' => vv = some (jI (g 0)) ∧ n = n' ∧ M = M') := by
  refine Ct_of [some (.ref m)] (by decide) (Nat.le_of_ble_eq_true rfl) rfl (fun κ hl h hR hRt hmn hn0 => ?_)
  have h : Ok κ RX9 cX9_thrown 1 (some .int) := h
  obtain ⟨hnm, hOm, hBm⟩ := id hX
  have hOm : M m = jdO 9 (fX9 m _ _ fl rd) := hOm
  refine jr_aload_n (pc := 0) h dX9_thrown_0 rfl ?_
  refine gf_X9_52 (pc := 1) h dX9_thrown_1 (by assumption) (by omega) ?_
  refine jr_iret (pc := 4) h hRt dX9_thrown_4 rfl (Nat.le_of_ble_eq_true rfl) (Nat.le_of_ble_eq_true rfl) ?_
  exact ⟨rfl, rfl, rfl⟩
theorem wrB_0 {bs : Nat → Int} {a x : Int} : wrB bs a x 0 = bs := by
  funext j
  unfold wrB
  rw [if_neg (by omega)]
/-- the tape behind i bytes of a call -/
def fdS (bs : Nat → Int) (a x y z u v i : Int) : Nat → Int := wrB (wrB (wrB (wrB (wrB bs a x (min 4 i)) (a + 4) y (max 0 (min 4 (i - 4)))) (a + 8) z (max 0 (min 4 (i - 8)))) (a + 12) u (max 0 (min 4 (i - 12)))) (a + 16) v (max 0 (min 4 (i - 16)))
def fdW (x y z u v i : Int) : Int := if i < 4 then x else if i < 8 then y else if i < 12 then z else if i < 16 then u else v
theorem fdS_0 {bs : Nat → Int} {a x y z u v : Int} : fdS bs a x y z u v 0 = bs := by
  unfold fdS
  rw [show max 0 (min 4 ((0 : Int) - 4)) = 0 by omega, show max 0 (min 4 ((0 : Int) - 8)) = 0 by omega, show max 0 (min 4 ((0 : Int) - 12)) = 0 by omega, show max 0 (min 4 ((0 : Int) - 16)) = 0 by omega, show min 4 (0 : Int) = 0 by omega, wrB_0, wrB_0, wrB_0, wrB_0, wrB_0]
theorem fdS_s {bs : Nat → Int} {a x y z u v i : Int} (ha : 0 ≤ a ∧ a ≤ 880) (hi : 0 ≤ i ∧ i < 20) : up (fdS bs a x y z u v i) (a + i).toNat (byI (fdW x y z u v i) (i % 4)) = fdS bs a x y z u v (i + 1) := by
  unfold fdS fdW
  rcases (show i < 4 ∨ (4 ≤ i ∧ i < 8) ∨ (8 ≤ i ∧ i < 12) ∨ (12 ≤ i ∧ i < 16) ∨ 16 ≤ i by omega) with c | c | c | c | c
  · rw [if_pos c, show max 0 (min 4 (i - 4)) = 0 by omega, show max 0 (min 4 (i - 8)) = 0 by omega, show max 0 (min 4 (i - 12)) = 0 by omega, show max 0 (min 4 (i - 16)) = 0 by omega, show max 0 (min 4 (i + 1 - 4)) = 0 by omega, show max 0 (min 4 (i + 1 - 8)) = 0 by omega, show max 0 (min 4 (i + 1 - 12)) = 0 by omega, show max 0 (min 4 (i + 1 - 16)) = 0 by omega, show min 4 i = i by omega, show min 4 (i + 1) = i + 1 by omega, wrB_0, wrB_0, wrB_0, wrB_0, wrB_0, wrB_0, wrB_0, wrB_0, show i % 4 = i by omega]
    exact wrB_s (by omega)
  · rw [if_neg (by omega), if_pos c.2, show max 0 (min 4 (i - 8)) = 0 by omega, show max 0 (min 4 (i - 12)) = 0 by omega, show max 0 (min 4 (i - 16)) = 0 by omega, show max 0 (min 4 (i + 1 - 8)) = 0 by omega, show max 0 (min 4 (i + 1 - 12)) = 0 by omega, show max 0 (min 4 (i + 1 - 16)) = 0 by omega, show min 4 i = 4 by omega, show min 4 (i + 1) = 4 by omega, show max 0 (min 4 (i - 4)) = i - 4 by omega, show max 0 (min 4 (i + 1 - 4)) = i - 4 + 1 by omega, wrB_0, wrB_0, wrB_0, wrB_0, wrB_0, wrB_0, show i % 4 = i - 4 by omega, show a + i = a + 4 + (i - 4) by omega]
    exact wrB_s (by omega)
  · rw [if_neg (by omega), if_neg (by omega), if_pos c.2, show max 0 (min 4 (i - 12)) = 0 by omega, show max 0 (min 4 (i - 16)) = 0 by omega, show max 0 (min 4 (i + 1 - 12)) = 0 by omega, show max 0 (min 4 (i + 1 - 16)) = 0 by omega, show min 4 i = 4 by omega, show min 4 (i + 1) = 4 by omega, show max 0 (min 4 (i - 4)) = 4 by omega, show max 0 (min 4 (i + 1 - 4)) = 4 by omega, show max 0 (min 4 (i - 8)) = i - 8 by omega, show max 0 (min 4 (i + 1 - 8)) = i - 8 + 1 by omega, wrB_0, wrB_0, wrB_0, wrB_0, show i % 4 = i - 8 by omega, show a + i = a + 8 + (i - 8) by omega]
    exact wrB_s (by omega)
  · rw [if_neg (by omega), if_neg (by omega), if_neg (by omega), if_pos c.2, show max 0 (min 4 (i - 16)) = 0 by omega, show max 0 (min 4 (i + 1 - 16)) = 0 by omega, show min 4 i = 4 by omega, show min 4 (i + 1) = 4 by omega, show max 0 (min 4 (i - 4)) = 4 by omega, show max 0 (min 4 (i + 1 - 4)) = 4 by omega, show max 0 (min 4 (i - 8)) = 4 by omega, show max 0 (min 4 (i + 1 - 8)) = 4 by omega, show max 0 (min 4 (i - 12)) = i - 12 by omega, show max 0 (min 4 (i + 1 - 12)) = i - 12 + 1 by omega, wrB_0, wrB_0, show i % 4 = i - 12 by omega, show a + i = a + 12 + (i - 12) by omega]
    exact wrB_s (by omega)
  · rw [if_neg (by omega), if_neg (by omega), if_neg (by omega), if_neg (by omega), show min 4 i = 4 by omega, show min 4 (i + 1) = 4 by omega, show max 0 (min 4 (i - 4)) = 4 by omega, show max 0 (min 4 (i + 1 - 4)) = 4 by omega, show max 0 (min 4 (i - 8)) = 4 by omega, show max 0 (min 4 (i + 1 - 8)) = 4 by omega, show max 0 (min 4 (i - 12)) = 4 by omega, show max 0 (min 4 (i + 1 - 12)) = 4 by omega, show max 0 (min 4 (i - 16)) = i - 16 by omega, show max 0 (min 4 (i + 1 - 16)) = i - 16 + 1 by omega, show i % 4 = i - 16 by omega, show a + i = a + 16 + (i - 16) by omega]
    exact wrB_s (by omega)
theorem fdS_20 {bs : Nat → Int} {a x y z u v : Int} : fdS bs a x y z u v 20 = wrB (wrB (wrB (wrB (wrB bs a x 4) (a + 4) y 4) (a + 8) z 4) (a + 12) u 4) (a + 16) v 4 := rfl
set_option maxHeartbeats 1000000 in
set_option maxRecDepth 20000 in
theorem s_X9_feed {l : Launch} {n : Nat} {M : jdM} {m : Nat} {g : Nat → Int} {w : Int} {fl rd : Value} {B : Nat → Nat → Int} (hX : MX M n m g w fl rd B) {x y z u v : Int} (hx : -2147483648 ≤ x ∧ x < 2147483648) (hy : -2147483648 ≤ y ∧ y < 2147483648) (hz : -2147483648 ≤ z ∧ z < 2147483648) (hu : -2147483648 ≤ u ∧ u < 2147483648) (hv : -2147483648 ≤ v ∧ v < 2147483648) (h6 : 0 ≤ g 6 ∧ g 6 ≤ 900) : Ct l yX9_feed cX9_feed 8 (some .int) rX9_feed [.ref m, jI x, jI y, jI z, jI u, jI v] n M (fun vv n' M' => (vv = some (jI (if 900 < g 6 + 20 then -1 else g 6 + 20)) ∧ n = n') ∧ MX M' n m (if 900 < g 6 + 20 then up g 0 0 else up (up g 0 0) 6 (g 6 + 20)) w fl rd (if 900 < g 6 + 20 then B else up B 1 (fdS (B 1) (g 6) x y z u v 20)) ∧ fr (MXf m) M M') := by
  refine Ct_of [some (.ref m), some (jI x), some (jI y), some (jI z), some (jI u), some (jI v), none, none] (by decide) (Nat.le_of_ble_eq_true rfl) rfl (fun κ hl h hR hRt hmn hn0 => ?_)
  have h : Ok κ RX9 cX9_feed 8 (some .int) := h
  obtain ⟨hnm, hOm, hBm⟩ := id hX
  have hOm : M m = jdO 9 (fX9 m _ _ fl rd) := hOm
  refine jr_aload_n (pc := 0) h dX9_feed_0 rfl ?_
  refine jr_iconst (pc := 1) h dX9_feed_1 ?_
  refine pf_X9_52 (pc := 2) h dX9_feed_2 hOm (by omega) ?_
  refine jm_gen (fun M2 hM2 => ?_)
  rw [fX9_0] at hM2
  have hX := MX_o hX hM2
  have f9 : fr (MXf m) _ M2 := fr_up hM2 ⟨by omega, by omega⟩
  obtain ⟨hnm, hOm, hBm⟩ := id hX
  have f1 := f9
  have e6 : up g 0 0 6 = g 6 := up_ne (by omega)
  refine jr_aload_n (pc := 5) h dX9_feed_5 rfl ?_
  refine gf_X9_418 (pc := 6) h dX9_feed_6 (by assumption) (by omega) ?_
  refine jr_bipush (pc := 9) h dX9_feed_9 bp_20 ?_
  refine jr_iadd (pc := 11) h dX9_feed_11 ?_
  refine jr_sipush (pc := 12) h dX9_feed_12 sp_900 ?_
  refine jr_icmp_le (pc := 15) h 20 dX9_feed_15 (by decide) (by omega) (by omega) (fun c_15 => ?_) (fun c_15 => ?_)
  · skip
    refine jr_iconst (pc := 20) h dX9_feed_20 ?_
    refine jr_istore (pc := 21) h [_, _, _, _, _, _, _, _] dX9_feed_21 (by decide) rfl ?_
    have loop : ∀ (dq : Nat) (i : Int) (u7 : Option Value) (M1 : jdM), (0 ≤ i ∧ i ≤ 20) → (MX M1 n m (up (up g 0 0) 6 (g 6 + i)) w fl rd (up B 1 (fdS (B 1) (g 6) x y z u v i))) → (fr (MXf m) M M1) → (30 - i).toNat < dq → J κ 8 0 0 n 23 [some (.ref m), some (jI x), some (jI y), some (jI z), some (jI u), some (jI v), some (jI i), u7] [] M1 := by
      intro dq
      induction dq with
      | zero => intro i u7 M1 hi hX f1 hd; omega
      | succ dq ih =>
        intro i u7 M1 hi hX f1 hd
        obtain ⟨hnm, hOm, hBm⟩ := id hX
        have hOm : M1 m = jdO 9 (fX9 m _ _ fl rd) := hOm
        have hB1 : M1 (m + 1) = jdY 900 (fdS (B 1) (g 6) x y z u v i) := hBm 1 (by omega) (by omega)
        refine jr_iload (pc := 23) h dX9_feed_23 rfl ?_
        refine jr_bipush (pc := 25) h dX9_feed_25 bp_20 ?_
        refine jr_icmp_ge (pc := 27) h 117 dX9_feed_27 (by decide) (by omega) (by omega) (fun c_27 => ?_) (fun c_27 => ?_)
        · skip
          refine jr_aload_n (pc := 117) h dX9_feed_117 rfl ?_
          refine gf_X9_418 (pc := 118) h dX9_feed_118 (by assumption) (by omega) ?_
          show J _ _ _ _ _ _ _ (jI (up (up g 0 0) 6 (g 6 + i) 6) :: _) _
          rw [show up (up g 0 0) 6 (g 6 + i) 6 = g 6 + i from up_eq]
          refine jr_iret (pc := 121) h hRt dX9_feed_121 rfl (Nat.le_of_ble_eq_true rfl) (Nat.le_of_ble_eq_true rfl) ?_
          have ei : i = 20 := by omega
          subst ei
          rw [if_neg (by omega), if_neg (by omega), if_neg (by omega)]
          exact ⟨⟨rfl, rfl⟩, hX, f1⟩
        · skip
          refine jr_iload (pc := 30) h dX9_feed_30 rfl ?_
          refine jr_iconst (pc := 32) h dX9_feed_32 ?_
          refine jr_icmp_ge (pc := 33) h 40 dX9_feed_33 (by decide) (by omega) (by omega) (fun c_33 => ?_) (fun c_33 => ?_)
          · skip
            refine jr_iload (pc := 40) h dX9_feed_40 rfl ?_
            refine jr_bipush (pc := 42) h dX9_feed_42 bp_8 ?_
            refine jr_icmp_ge (pc := 44) h 51 dX9_feed_44 (by decide) (by omega) (by omega) (fun c_44 => ?_) (fun c_44 => ?_)
            · skip
              refine jr_iload (pc := 51) h dX9_feed_51 rfl ?_
              refine jr_bipush (pc := 53) h dX9_feed_53 bp_12 ?_
              refine jr_icmp_ge (pc := 55) h 62 dX9_feed_55 (by decide) (by omega) (by omega) (fun c_55 => ?_) (fun c_55 => ?_)
              · skip
                refine jr_iload (pc := 62) h dX9_feed_62 rfl ?_
                refine jr_bipush (pc := 64) h dX9_feed_64 bp_16 ?_
                refine jr_icmp_ge (pc := 66) h 74 dX9_feed_66 (by decide) (by omega) (by omega) (fun c_66 => ?_) (fun c_66 => ?_)
                · skip
                  refine jr_iload (pc := 74) h dX9_feed_74 rfl ?_
                  refine jr_istore (pc := 76) h [_, _, _, _, _, _, _, _] dX9_feed_76 (by decide) rfl ?_
                  refine jr_aload_n (pc := 78) h dX9_feed_78 rfl ?_
                  refine gf_X9_13 (pc := 79) h dX9_feed_79 (by assumption) (by omega) ?_
                  refine jr_aload_n (pc := 82) h dX9_feed_82 rfl ?_
                  refine gf_X9_418 (pc := 83) h dX9_feed_83 (by assumption) (by omega) ?_
                  show J _ _ _ _ _ _ _ (jI (up (up g 0 0) 6 (g 6 + i) 6) :: _) _
                  rw [show up (up g 0 0) 6 (g 6 + i) 6 = g 6 + i from up_eq]
                  refine jr_iload (pc := 86) h dX9_feed_86 rfl ?_
                  refine jr_bipush (pc := 88) h dX9_feed_88 bp_24 ?_
                  refine jr_bipush (pc := 90) h dX9_feed_90 bp_8 ?_
                  refine jr_iload (pc := 92) h dX9_feed_92 rfl ?_
                  refine jr_iconst (pc := 94) h dX9_feed_94 ?_
                  refine jr_irem (pc := 95) h dX9_feed_95 (by omega) (by omega) ?_
                  refine jr_imul (pc := 96) h dX9_feed_96 ?_
                  refine jr_isub (pc := 97) h dX9_feed_97 ?_
                  refine jr_ishr (pc := 98) h dX9_feed_98 ?_
                  refine jr_i2b (pc := 99) h dX9_feed_99 ?_
                  refine jr_bast (pc := 100) h (f := (fdS (B 1) (g 6) x y z u v i)) (i := g 6 + i) (x := byI (fdW x y z u v i) (i % 4)) dX9_feed_100 hB1 (by omega) (by omega) (by unfold byI fdW; (first | rw [if_pos (by omega)] | rw [if_neg (by omega), if_pos (by omega)] | rw [if_neg (by omega), if_neg (by omega), if_pos (by omega)] | rw [if_neg (by omega), if_neg (by omega), if_neg (by omega), if_pos (by omega)] | rw [if_neg (by omega), if_neg (by omega), if_neg (by omega), if_neg (by omega)]); rw [Int32.ofInt_int8ToInt]; simp) ?_
                  rw [fdS_s (by omega) (by omega)]
                  refine jm_gen (fun M3 hM3 => ?_)
                  have hX := MX_B (i := 1) hX hM3 (by omega)
                  rw [up_up] at hX
                  have f9 : fr (MXf m) _ M3 := fr_up (S := MXf m) hM3 ⟨by omega, by omega⟩
                  have f1 := fr_tr f1 f9
                  obtain ⟨hnm, hOm, hBm⟩ := id hX
                  refine jr_aload_n (pc := 101) h dX9_feed_101 rfl ?_
                  refine jr_dup (pc := 102) h dX9_feed_102 rfl ?_
                  refine gf_X9_418 (pc := 103) h dX9_feed_103 (by assumption) (by omega) ?_
                  show J _ _ _ _ _ _ _ (jI (up (up g 0 0) 6 (g 6 + i) 6) :: _) _
                  rw [show up (up g 0 0) 6 (g 6 + i) 6 = g 6 + i from up_eq]
                  refine jr_iconst (pc := 106) h dX9_feed_106 ?_
                  refine jr_iadd (pc := 107) h dX9_feed_107 ?_
                  refine pf_X9_418 (pc := 108) h dX9_feed_108 hOm (by omega) ?_
                  refine jm_gen (fun M4 hM4 => ?_)
                  rw [fX9_6, up_up] at hM4
                  have hX := MX_o hX hM4
                  have f9 : fr (MXf m) _ M4 := fr_up hM4 ⟨by omega, by omega⟩
                  have f1 := fr_tr f1 f9
                  refine jr_iinc (pc := 111) h [_, _, _, _, _, _, _, _] dX9_feed_111 (by decide) rfl rfl ?_
                  refine jr_goto (pc := 114) h 23 dX9_feed_114 (by decide) ?_
                  refine ih _ _ _ (by omega) (by rw [show g 6 + (i + 1) = g 6 + i + 1 by omega]; exact hX) f1 (by omega)
                · skip
                  refine jr_iload (pc := 69) h dX9_feed_69 rfl ?_
                  refine jr_goto (pc := 71) h 76 dX9_feed_71 (by decide) ?_
                  refine jr_istore (pc := 76) h [_, _, _, _, _, _, _, _] dX9_feed_76 (by decide) rfl ?_
                  refine jr_aload_n (pc := 78) h dX9_feed_78 rfl ?_
                  refine gf_X9_13 (pc := 79) h dX9_feed_79 (by assumption) (by omega) ?_
                  refine jr_aload_n (pc := 82) h dX9_feed_82 rfl ?_
                  refine gf_X9_418 (pc := 83) h dX9_feed_83 (by assumption) (by omega) ?_
                  show J _ _ _ _ _ _ _ (jI (up (up g 0 0) 6 (g 6 + i) 6) :: _) _
                  rw [show up (up g 0 0) 6 (g 6 + i) 6 = g 6 + i from up_eq]
                  refine jr_iload (pc := 86) h dX9_feed_86 rfl ?_
                  refine jr_bipush (pc := 88) h dX9_feed_88 bp_24 ?_
                  refine jr_bipush (pc := 90) h dX9_feed_90 bp_8 ?_
                  refine jr_iload (pc := 92) h dX9_feed_92 rfl ?_
                  refine jr_iconst (pc := 94) h dX9_feed_94 ?_
                  refine jr_irem (pc := 95) h dX9_feed_95 (by omega) (by omega) ?_
                  refine jr_imul (pc := 96) h dX9_feed_96 ?_
                  refine jr_isub (pc := 97) h dX9_feed_97 ?_
                  refine jr_ishr (pc := 98) h dX9_feed_98 ?_
                  refine jr_i2b (pc := 99) h dX9_feed_99 ?_
                  refine jr_bast (pc := 100) h (f := (fdS (B 1) (g 6) x y z u v i)) (i := g 6 + i) (x := byI (fdW x y z u v i) (i % 4)) dX9_feed_100 hB1 (by omega) (by omega) (by unfold byI fdW; (first | rw [if_pos (by omega)] | rw [if_neg (by omega), if_pos (by omega)] | rw [if_neg (by omega), if_neg (by omega), if_pos (by omega)] | rw [if_neg (by omega), if_neg (by omega), if_neg (by omega), if_pos (by omega)] | rw [if_neg (by omega), if_neg (by omega), if_neg (by omega), if_neg (by omega)]); rw [Int32.ofInt_int8ToInt]; simp) ?_
                  rw [fdS_s (by omega) (by omega)]
                  refine jm_gen (fun M3 hM3 => ?_)
                  have hX := MX_B (i := 1) hX hM3 (by omega)
                  rw [up_up] at hX
                  have f9 : fr (MXf m) _ M3 := fr_up (S := MXf m) hM3 ⟨by omega, by omega⟩
                  have f1 := fr_tr f1 f9
                  obtain ⟨hnm, hOm, hBm⟩ := id hX
                  refine jr_aload_n (pc := 101) h dX9_feed_101 rfl ?_
                  refine jr_dup (pc := 102) h dX9_feed_102 rfl ?_
                  refine gf_X9_418 (pc := 103) h dX9_feed_103 (by assumption) (by omega) ?_
                  show J _ _ _ _ _ _ _ (jI (up (up g 0 0) 6 (g 6 + i) 6) :: _) _
                  rw [show up (up g 0 0) 6 (g 6 + i) 6 = g 6 + i from up_eq]
                  refine jr_iconst (pc := 106) h dX9_feed_106 ?_
                  refine jr_iadd (pc := 107) h dX9_feed_107 ?_
                  refine pf_X9_418 (pc := 108) h dX9_feed_108 hOm (by omega) ?_
                  refine jm_gen (fun M4 hM4 => ?_)
                  rw [fX9_6, up_up] at hM4
                  have hX := MX_o hX hM4
                  have f9 : fr (MXf m) _ M4 := fr_up hM4 ⟨by omega, by omega⟩
                  have f1 := fr_tr f1 f9
                  refine jr_iinc (pc := 111) h [_, _, _, _, _, _, _, _] dX9_feed_111 (by decide) rfl rfl ?_
                  refine jr_goto (pc := 114) h 23 dX9_feed_114 (by decide) ?_
                  refine ih _ _ _ (by omega) (by rw [show g 6 + (i + 1) = g 6 + i + 1 by omega]; exact hX) f1 (by omega)
              · skip
                refine jr_iload_n (pc := 58) h dX9_feed_58 rfl ?_
                refine jr_goto (pc := 59) h 76 dX9_feed_59 (by decide) ?_
                refine jr_istore (pc := 76) h [_, _, _, _, _, _, _, _] dX9_feed_76 (by decide) rfl ?_
                refine jr_aload_n (pc := 78) h dX9_feed_78 rfl ?_
                refine gf_X9_13 (pc := 79) h dX9_feed_79 (by assumption) (by omega) ?_
                refine jr_aload_n (pc := 82) h dX9_feed_82 rfl ?_
                refine gf_X9_418 (pc := 83) h dX9_feed_83 (by assumption) (by omega) ?_
                show J _ _ _ _ _ _ _ (jI (up (up g 0 0) 6 (g 6 + i) 6) :: _) _
                rw [show up (up g 0 0) 6 (g 6 + i) 6 = g 6 + i from up_eq]
                refine jr_iload (pc := 86) h dX9_feed_86 rfl ?_
                refine jr_bipush (pc := 88) h dX9_feed_88 bp_24 ?_
                refine jr_bipush (pc := 90) h dX9_feed_90 bp_8 ?_
                refine jr_iload (pc := 92) h dX9_feed_92 rfl ?_
                refine jr_iconst (pc := 94) h dX9_feed_94 ?_
                refine jr_irem (pc := 95) h dX9_feed_95 (by omega) (by omega) ?_
                refine jr_imul (pc := 96) h dX9_feed_96 ?_
                refine jr_isub (pc := 97) h dX9_feed_97 ?_
                refine jr_ishr (pc := 98) h dX9_feed_98 ?_
                refine jr_i2b (pc := 99) h dX9_feed_99 ?_
                refine jr_bast (pc := 100) h (f := (fdS (B 1) (g 6) x y z u v i)) (i := g 6 + i) (x := byI (fdW x y z u v i) (i % 4)) dX9_feed_100 hB1 (by omega) (by omega) (by unfold byI fdW; (first | rw [if_pos (by omega)] | rw [if_neg (by omega), if_pos (by omega)] | rw [if_neg (by omega), if_neg (by omega), if_pos (by omega)] | rw [if_neg (by omega), if_neg (by omega), if_neg (by omega), if_pos (by omega)] | rw [if_neg (by omega), if_neg (by omega), if_neg (by omega), if_neg (by omega)]); rw [Int32.ofInt_int8ToInt]; simp) ?_
                rw [fdS_s (by omega) (by omega)]
                refine jm_gen (fun M3 hM3 => ?_)
                have hX := MX_B (i := 1) hX hM3 (by omega)
                rw [up_up] at hX
                have f9 : fr (MXf m) _ M3 := fr_up (S := MXf m) hM3 ⟨by omega, by omega⟩
                have f1 := fr_tr f1 f9
                obtain ⟨hnm, hOm, hBm⟩ := id hX
                refine jr_aload_n (pc := 101) h dX9_feed_101 rfl ?_
                refine jr_dup (pc := 102) h dX9_feed_102 rfl ?_
                refine gf_X9_418 (pc := 103) h dX9_feed_103 (by assumption) (by omega) ?_
                show J _ _ _ _ _ _ _ (jI (up (up g 0 0) 6 (g 6 + i) 6) :: _) _
                rw [show up (up g 0 0) 6 (g 6 + i) 6 = g 6 + i from up_eq]
                refine jr_iconst (pc := 106) h dX9_feed_106 ?_
                refine jr_iadd (pc := 107) h dX9_feed_107 ?_
                refine pf_X9_418 (pc := 108) h dX9_feed_108 hOm (by omega) ?_
                refine jm_gen (fun M4 hM4 => ?_)
                rw [fX9_6, up_up] at hM4
                have hX := MX_o hX hM4
                have f9 : fr (MXf m) _ M4 := fr_up hM4 ⟨by omega, by omega⟩
                have f1 := fr_tr f1 f9
                refine jr_iinc (pc := 111) h [_, _, _, _, _, _, _, _] dX9_feed_111 (by decide) rfl rfl ?_
                refine jr_goto (pc := 114) h 23 dX9_feed_114 (by decide) ?_
                refine ih _ _ _ (by omega) (by rw [show g 6 + (i + 1) = g 6 + i + 1 by omega]; exact hX) f1 (by omega)
            · skip
              refine jr_iload_n (pc := 47) h dX9_feed_47 rfl ?_
              refine jr_goto (pc := 48) h 76 dX9_feed_48 (by decide) ?_
              refine jr_istore (pc := 76) h [_, _, _, _, _, _, _, _] dX9_feed_76 (by decide) rfl ?_
              refine jr_aload_n (pc := 78) h dX9_feed_78 rfl ?_
              refine gf_X9_13 (pc := 79) h dX9_feed_79 (by assumption) (by omega) ?_
              refine jr_aload_n (pc := 82) h dX9_feed_82 rfl ?_
              refine gf_X9_418 (pc := 83) h dX9_feed_83 (by assumption) (by omega) ?_
              show J _ _ _ _ _ _ _ (jI (up (up g 0 0) 6 (g 6 + i) 6) :: _) _
              rw [show up (up g 0 0) 6 (g 6 + i) 6 = g 6 + i from up_eq]
              refine jr_iload (pc := 86) h dX9_feed_86 rfl ?_
              refine jr_bipush (pc := 88) h dX9_feed_88 bp_24 ?_
              refine jr_bipush (pc := 90) h dX9_feed_90 bp_8 ?_
              refine jr_iload (pc := 92) h dX9_feed_92 rfl ?_
              refine jr_iconst (pc := 94) h dX9_feed_94 ?_
              refine jr_irem (pc := 95) h dX9_feed_95 (by omega) (by omega) ?_
              refine jr_imul (pc := 96) h dX9_feed_96 ?_
              refine jr_isub (pc := 97) h dX9_feed_97 ?_
              refine jr_ishr (pc := 98) h dX9_feed_98 ?_
              refine jr_i2b (pc := 99) h dX9_feed_99 ?_
              refine jr_bast (pc := 100) h (f := (fdS (B 1) (g 6) x y z u v i)) (i := g 6 + i) (x := byI (fdW x y z u v i) (i % 4)) dX9_feed_100 hB1 (by omega) (by omega) (by unfold byI fdW; (first | rw [if_pos (by omega)] | rw [if_neg (by omega), if_pos (by omega)] | rw [if_neg (by omega), if_neg (by omega), if_pos (by omega)] | rw [if_neg (by omega), if_neg (by omega), if_neg (by omega), if_pos (by omega)] | rw [if_neg (by omega), if_neg (by omega), if_neg (by omega), if_neg (by omega)]); rw [Int32.ofInt_int8ToInt]; simp) ?_
              rw [fdS_s (by omega) (by omega)]
              refine jm_gen (fun M3 hM3 => ?_)
              have hX := MX_B (i := 1) hX hM3 (by omega)
              rw [up_up] at hX
              have f9 : fr (MXf m) _ M3 := fr_up (S := MXf m) hM3 ⟨by omega, by omega⟩
              have f1 := fr_tr f1 f9
              obtain ⟨hnm, hOm, hBm⟩ := id hX
              refine jr_aload_n (pc := 101) h dX9_feed_101 rfl ?_
              refine jr_dup (pc := 102) h dX9_feed_102 rfl ?_
              refine gf_X9_418 (pc := 103) h dX9_feed_103 (by assumption) (by omega) ?_
              show J _ _ _ _ _ _ _ (jI (up (up g 0 0) 6 (g 6 + i) 6) :: _) _
              rw [show up (up g 0 0) 6 (g 6 + i) 6 = g 6 + i from up_eq]
              refine jr_iconst (pc := 106) h dX9_feed_106 ?_
              refine jr_iadd (pc := 107) h dX9_feed_107 ?_
              refine pf_X9_418 (pc := 108) h dX9_feed_108 hOm (by omega) ?_
              refine jm_gen (fun M4 hM4 => ?_)
              rw [fX9_6, up_up] at hM4
              have hX := MX_o hX hM4
              have f9 : fr (MXf m) _ M4 := fr_up hM4 ⟨by omega, by omega⟩
              have f1 := fr_tr f1 f9
              refine jr_iinc (pc := 111) h [_, _, _, _, _, _, _, _] dX9_feed_111 (by decide) rfl rfl ?_
              refine jr_goto (pc := 114) h 23 dX9_feed_114 (by decide) ?_
              refine ih _ _ _ (by omega) (by rw [show g 6 + (i + 1) = g 6 + i + 1 by omega]; exact hX) f1 (by omega)
          · skip
            refine jr_iload_n (pc := 36) h dX9_feed_36 rfl ?_
            refine jr_goto (pc := 37) h 76 dX9_feed_37 (by decide) ?_
            refine jr_istore (pc := 76) h [_, _, _, _, _, _, _, _] dX9_feed_76 (by decide) rfl ?_
            refine jr_aload_n (pc := 78) h dX9_feed_78 rfl ?_
            refine gf_X9_13 (pc := 79) h dX9_feed_79 (by assumption) (by omega) ?_
            refine jr_aload_n (pc := 82) h dX9_feed_82 rfl ?_
            refine gf_X9_418 (pc := 83) h dX9_feed_83 (by assumption) (by omega) ?_
            show J _ _ _ _ _ _ _ (jI (up (up g 0 0) 6 (g 6 + i) 6) :: _) _
            rw [show up (up g 0 0) 6 (g 6 + i) 6 = g 6 + i from up_eq]
            refine jr_iload (pc := 86) h dX9_feed_86 rfl ?_
            refine jr_bipush (pc := 88) h dX9_feed_88 bp_24 ?_
            refine jr_bipush (pc := 90) h dX9_feed_90 bp_8 ?_
            refine jr_iload (pc := 92) h dX9_feed_92 rfl ?_
            refine jr_iconst (pc := 94) h dX9_feed_94 ?_
            refine jr_irem (pc := 95) h dX9_feed_95 (by omega) (by omega) ?_
            refine jr_imul (pc := 96) h dX9_feed_96 ?_
            refine jr_isub (pc := 97) h dX9_feed_97 ?_
            refine jr_ishr (pc := 98) h dX9_feed_98 ?_
            refine jr_i2b (pc := 99) h dX9_feed_99 ?_
            refine jr_bast (pc := 100) h (f := (fdS (B 1) (g 6) x y z u v i)) (i := g 6 + i) (x := byI (fdW x y z u v i) (i % 4)) dX9_feed_100 hB1 (by omega) (by omega) (by unfold byI fdW; (first | rw [if_pos (by omega)] | rw [if_neg (by omega), if_pos (by omega)] | rw [if_neg (by omega), if_neg (by omega), if_pos (by omega)] | rw [if_neg (by omega), if_neg (by omega), if_neg (by omega), if_pos (by omega)] | rw [if_neg (by omega), if_neg (by omega), if_neg (by omega), if_neg (by omega)]); rw [Int32.ofInt_int8ToInt]; simp) ?_
            rw [fdS_s (by omega) (by omega)]
            refine jm_gen (fun M3 hM3 => ?_)
            have hX := MX_B (i := 1) hX hM3 (by omega)
            rw [up_up] at hX
            have f9 : fr (MXf m) _ M3 := fr_up (S := MXf m) hM3 ⟨by omega, by omega⟩
            have f1 := fr_tr f1 f9
            obtain ⟨hnm, hOm, hBm⟩ := id hX
            refine jr_aload_n (pc := 101) h dX9_feed_101 rfl ?_
            refine jr_dup (pc := 102) h dX9_feed_102 rfl ?_
            refine gf_X9_418 (pc := 103) h dX9_feed_103 (by assumption) (by omega) ?_
            show J _ _ _ _ _ _ _ (jI (up (up g 0 0) 6 (g 6 + i) 6) :: _) _
            rw [show up (up g 0 0) 6 (g 6 + i) 6 = g 6 + i from up_eq]
            refine jr_iconst (pc := 106) h dX9_feed_106 ?_
            refine jr_iadd (pc := 107) h dX9_feed_107 ?_
            refine pf_X9_418 (pc := 108) h dX9_feed_108 hOm (by omega) ?_
            refine jm_gen (fun M4 hM4 => ?_)
            rw [fX9_6, up_up] at hM4
            have hX := MX_o hX hM4
            have f9 : fr (MXf m) _ M4 := fr_up hM4 ⟨by omega, by omega⟩
            have f1 := fr_tr f1 f9
            refine jr_iinc (pc := 111) h [_, _, _, _, _, _, _, _] dX9_feed_111 (by decide) rfl rfl ?_
            refine jr_goto (pc := 114) h 23 dX9_feed_114 (by decide) ?_
            refine ih _ _ _ (by omega) (by rw [show g 6 + (i + 1) = g 6 + i + 1 by omega]; exact hX) f1 (by omega)
    exact loop _ 0 _ _ (by omega) (by rw [fdS_0, up_self, Int.add_zero, ← e6, up_self]; exact hX) f1 (Nat.lt_succ_self _)
  · skip
    refine jr_iconst (pc := 18) h dX9_feed_18 ?_
    refine jr_iret (pc := 19) h hRt dX9_feed_19 rfl (Nat.le_of_ble_eq_true rfl) (Nat.le_of_ble_eq_true rfl) ?_
    rw [if_pos (by omega), if_pos (by omega), if_pos (by omega)]
    exact ⟨⟨rfl, rfl⟩, hX, f1⟩
