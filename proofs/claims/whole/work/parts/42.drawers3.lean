/-! 42: Drawers: FEWEST -/
def c_fil (b sh ho : Int) : Int := if b % 64 + sh ≤ ho then b + sh else (b / 64 + 1) * 64 + sh
def bf1 (td wn be : Nat → Int) (st ho : Int) (s : Int × Int) (k : Int) : Int × Int :=
  (if 0 < st / s.2 % (wn k.toNat + 1) then min s.1 (c_fil (be (st - s.2).toNat) (c_get td 2 k 0) ho) else s.1, s.2 * (wn k.toNat + 1))
def c_bf (td wn be : Nat → Int) (st ho : Int) : Int := (foldS (bf1 td wn be st ho) (1000000, 1) 4).1
def c_tab (td wn be : Nat → Int) (ho : Int) (k : Nat) : Nat → Int := foldS (fun b i => up b (1 + i).toNat (c_bf td wn b (1 + i) ho)) (up be 0 ho) k
def c_sts (wn : Nat → Int) : Int := 1 * (wn 0 + 1) * (wn 1 + 1) * (wn 2 + 1) * (wn 3 + 1)
def c_few (td wn be : Nat → Int) (ho : Int) : Int := c_tab td wn be ho (c_sts wn - 1).toNat (c_sts wn - 1).toNat / 64
theorem ld1000000 : (1000000 : Int32) = Int32.ofInt 1000000 := by decide
set_option maxHeartbeats 1000000 in
set_option maxRecDepth 20000 in
theorem s_X0_bestFilling {l : Launch} {n : Nat} {M : jdM} {d : Nat} {g rm wn be : Nat → Int} (hDr : Dr M n d g rm wn be) {f : Nat} {ct td bk si ld : Nat → Int} (hF : Fl M n f ct td bk si ld) (hwn : ∀ j, 0 ≤ wn j ∧ wn j ≤ 24) (hbe : ∀ j, 0 ≤ be j ∧ be j ≤ 1000000) {st ho : Int} (hst : 0 ≤ st ∧ st < 2401) (hho : 0 ≤ ho ∧ ho ≤ 999) : Ct l yX0_bestFilling cX0_bestFilling 12 (some .int) rX0_bestFilling [.ref d, .ref f, jI st, jI ho] n M (fun vv n' M' => (vv = some (jI (c_bf td wn be st ho)) ∧ n = n' ∧ M = M') ∧ (0) ≤ (c_bf td wn be st ho) ∧ (c_bf td wn be st ho) ≤ 1000000) := by
  refine Ct_of [some (.ref d), some (.ref f), some (jI st), some (jI ho), none, none, none, none, none, none, none, none] (by decide) (Nat.le_of_ble_eq_true rfl) rfl (fun κ hl h hR hRt hmn hn0 => ?_)
  have h : Ok κ RX0 cX0_bestFilling 12 (some .int) := h
  obtain ⟨hnd, hOd, hAd, hBd, hCd⟩ := id hDr
  obtain ⟨hnF, hOF, hAF, hBF, hCF, hDF, hEF, rA, rB, r0, rC, rD, rE⟩ := id hF
  have loop : ∀ (dq : Nat) (x s i : Int) (u7 : Option Value) (u8 : Option Value) (u9 : Option Value) (u10 : Option Value) (u11 : Option Value), (0 ≤ i ∧ i ≤ 4) → ((i = 0 → s = 1) ∧ (i = 1 → s ≤ 25) ∧ (i = 2 → s ≤ 625) ∧ (i = 3 → s ≤ 15625) ∧ s ≤ 390625 ∧ 1 ≤ s) → (0 ≤ x ∧ x ≤ 1000000) → ((x, s) = foldS (bf1 td wn be st ho) (1000000, 1) i.toNat) → (5 - i).toNat < dq → J κ 12 0 0 n 10 [some (.ref d), some (.ref f), some (jI st), some (jI ho), some (jI x), some (jI s), some (jI i), u7, u8, u9, u10, u11] [] M := by
    intro dq
    induction dq with
    | zero => intro x s i u7 u8 u9 u10 u11 hi hs hxl hx hd; omega
    | succ dq ih =>
      intro x s i u7 u8 u9 u10 u11 hi hs hxl hx hd
      refine jr_iload (pc := 10) h dX0_bestFilling_10 rfl ?_
      refine jr_iconst (pc := 12) h dX0_bestFilling_12 ?_
      refine jr_icmp_ge (pc := 13) h 134 dX0_bestFilling_13 (by decide) (by omega) (by omega) (fun c_13 => ?_) (fun c_13 => ?_)
      · skip
        refine jr_iload (pc := 134) h dX0_bestFilling_134 rfl ?_
        refine jr_iret (pc := 136) h hRt dX0_bestFilling_136 rfl (Nat.le_of_ble_eq_true rfl) (Nat.le_of_ble_eq_true rfl) ?_
        refine ⟨⟨ji_c ?_, rfl, rfl⟩, ?_⟩
        · unfold c_bf
          rw [show (4 : Nat) = i.toNat by omega, ← hx]
        · unfold c_bf
          rw [show (4 : Nat) = i.toNat by omega, ← hx]
          exact hxl
      · skip
        have wi := hwn i.toNat
        have hq : 0 ≤ st / s ∧ st / s ≤ st := ⟨Int.ediv_nonneg (by omega) (by omega), Int.ediv_le_self _ (by omega)⟩
        have hm : 0 ≤ st / s % (wn i.toNat + 1) := Int.emod_nonneg _ (by omega)
        have hm2 : st / s % (wn i.toNat + 1) < wn i.toNat + 1 := Int.emod_lt_of_pos _ (by omega)
        refine jr_iload_n (pc := 16) h dX0_bestFilling_16 rfl ?_
        refine jr_iload (pc := 17) h dX0_bestFilling_17 rfl ?_
        refine jr_idivp (pc := 19) h dX0_bestFilling_19 (by omega) (by omega) ?_
        refine jr_aload_n (pc := 20) h dX0_bestFilling_20 rfl ?_
        refine gf_X0_15 (pc := 21) h dX0_bestFilling_21 (by assumption) (by omega) ?_
        refine jr_iload (pc := 24) h dX0_bestFilling_24 rfl ?_
        refine jr_iald (pc := 26) h dX0_bestFilling_26 (by assumption) (by omega) (by omega) ?_
        refine jr_iconst (pc := 27) h dX0_bestFilling_27 ?_
        refine jr_iadd (pc := 28) h dX0_bestFilling_28 ?_
        refine jr_irem (pc := 29) h dX0_bestFilling_29 (by omega) (by omega) ?_
        refine jr_istore (pc := 30) h [_, _, _, _, _, _, _, _, _, _, _, _] dX0_bestFilling_30 (by decide) rfl ?_
        refine jr_iload (pc := 32) h dX0_bestFilling_32 rfl ?_
        refine jr_if_le (pc := 34) h 114 dX0_bestFilling_34 (by decide) (by omega) (fun c_34 => ?_) (fun c_34 => ?_)
        · skip
          skip
          refine jr_iload (pc := 114) h dX0_bestFilling_114 rfl ?_
          refine jr_aload_n (pc := 116) h dX0_bestFilling_116 rfl ?_
          refine gf_X0_15 (pc := 117) h dX0_bestFilling_117 (by assumption) (by omega) ?_
          refine jr_iload (pc := 120) h dX0_bestFilling_120 rfl ?_
          refine jr_iald (pc := 122) h dX0_bestFilling_122 (by assumption) (by omega) (by omega) ?_
          refine jr_iconst (pc := 123) h dX0_bestFilling_123 ?_
          refine jr_iadd (pc := 124) h dX0_bestFilling_124 ?_
          refine jr_imul (pc := 125) h dX0_bestFilling_125 ?_
          refine jr_istore (pc := 126) h [_, _, _, _, _, _, _, _, _, _, _, _] dX0_bestFilling_126 (by decide) rfl ?_
          refine jr_iinc (pc := 128) h [_, _, _, _, _, _, _, _, _, _, _, _] dX0_bestFilling_128 (by decide) rfl rfl ?_
          refine jr_goto (pc := 131) h 10 dX0_bestFilling_131 (by decide) ?_
          have hmu : s * (wn i.toNat + 1) ≤ s * 25 := Int.mul_le_mul_of_nonneg_left (by omega) (by omega)
          have hmu2 : s * 1 ≤ s * (wn i.toNat + 1) := Int.mul_le_mul_of_nonneg_left (by omega) (by omega)
          refine ih _ _ (i + 1) _ _ _ _ _ (by omega) ⟨by omega, by omega, by omega, by omega, by omega, by omega⟩ ?_ ?_ (by omega)
          · omega
          · rw [foldS_s (by omega), ← hx]
            unfold bf1 c_fil
            dsimp only
            first
            | (rw [if_neg (by omega)])
            | (rw [if_pos (by omega), if_pos (by omega)])
            | (rw [if_pos (by omega), if_neg (by omega)])
        · skip
          have hss : s ≤ st := by
            by_cases q : st < s
            · rw [Int.ediv_eq_zero_of_lt (by omega) q, Int.zero_emod] at c_34
              omega
            · omega
          have hb := hbe (st - s).toNat
          have hshp := c_getr rB 2 i 0
          refine jr_aload_n (pc := 37) h dX0_bestFilling_37 rfl ?_
          refine gf_X0_18 (pc := 38) h dX0_bestFilling_38 (by assumption) (by omega) ?_
          refine jr_iload_n (pc := 41) h dX0_bestFilling_41 rfl ?_
          refine jr_iload (pc := 42) h dX0_bestFilling_42 rfl ?_
          refine jr_isub (pc := 44) h dX0_bestFilling_44 ?_
          refine jr_iald (pc := 45) h dX0_bestFilling_45 (by assumption) (by omega) (by omega) ?_
          refine jr_istore (pc := 46) h [_, _, _, _, _, _, _, _, _, _, _, _] dX0_bestFilling_46 (by decide) rfl ?_
          refine jr_aload_n (pc := 48) h dX0_bestFilling_48 rfl ?_
          refine jr_iconst (pc := 49) h dX0_bestFilling_49 ?_
          refine jr_iload (pc := 50) h dX0_bestFilling_50 rfl ?_
          refine jr_iconst (pc := 52) h dX0_bestFilling_52 ?_
          refine iv_X0_21 (pc := 53) h hl hR dX0_bestFilling_53 ⟨(Nat.le_of_ble_eq_true rfl), (Nat.le_of_ble_eq_true rfl), (Nat.le_of_ble_eq_true rfl), (Nat.le_of_ble_eq_true rfl)⟩ (Nat.le_of_ble_eq_true rfl) (by assumption) (by omega) (s_X1_get hF (by omega) (by omega) (by omega)) (fun v_53 n_53 M_53 hn_53 hp => ?_)
          obtain ⟨⟨rfl, rfl, rfl⟩, gr_53⟩ := hp
          refine jr_istore (pc := 56) h [_, _, _, _, _, _, _, _, _, _, _, _] dX0_bestFilling_56 (by decide) rfl ?_
          refine jr_iload (pc := 58) h dX0_bestFilling_58 rfl ?_
          refine jr_bipush (pc := 60) h dX0_bestFilling_60 bp_64 ?_
          refine jr_irem (pc := 62) h dX0_bestFilling_62 (by omega) (by omega) ?_
          refine jr_iload (pc := 63) h dX0_bestFilling_63 rfl ?_
          refine jr_iadd (pc := 65) h dX0_bestFilling_65 ?_
          refine jr_iload_n (pc := 66) h dX0_bestFilling_66 rfl ?_
          refine jr_icmp_gt (pc := 67) h 74 dX0_bestFilling_67 (by decide) (by omega) (by omega) (fun c_67 => ?_) (fun c_67 => ?_)
          · skip
            skip
            refine jr_iconst (pc := 74) h dX0_bestFilling_74 ?_
            refine jr_istore (pc := 75) h [_, _, _, _, _, _, _, _, _, _, _, _] dX0_bestFilling_75 (by decide) rfl ?_
            refine jr_iload (pc := 77) h dX0_bestFilling_77 rfl ?_
            refine jr_if_eq (pc := 79) h 90 dX0_bestFilling_79 (by decide) (by omega) (fun _ => ?_) (fun c => absurd rfl c)
            refine jr_iload (pc := 90) h dX0_bestFilling_90 rfl ?_
            refine jr_bipush (pc := 92) h dX0_bestFilling_92 bp_64 ?_
            refine jr_idivp (pc := 94) h dX0_bestFilling_94 (by omega) (by omega) ?_
            refine jr_iconst (pc := 95) h dX0_bestFilling_95 ?_
            refine jr_iadd (pc := 96) h dX0_bestFilling_96 ?_
            refine jr_bipush (pc := 97) h dX0_bestFilling_97 bp_64 ?_
            refine jr_imul (pc := 99) h dX0_bestFilling_99 ?_
            refine jr_iload (pc := 100) h dX0_bestFilling_100 rfl ?_
            refine jr_iadd (pc := 102) h dX0_bestFilling_102 ?_
            refine jr_istore (pc := 103) h [_, _, _, _, _, _, _, _, _, _, _, _] dX0_bestFilling_103 (by decide) rfl ?_
            refine jr_iload (pc := 105) h dX0_bestFilling_105 rfl ?_
            refine jr_iload (pc := 107) h dX0_bestFilling_107 rfl ?_
            refine im_X0_27 (pc := 109) h hR dX0_bestFilling_109 ⟨(Nat.le_of_ble_eq_true rfl), (Nat.le_of_ble_eq_true rfl), (Nat.le_of_ble_eq_true rfl), (Nat.le_of_ble_eq_true rfl)⟩ (by omega) (by omega) ?_
            refine jr_istore (pc := 112) h [_, _, _, _, _, _, _, _, _, _, _, _] dX0_bestFilling_112 (by decide) rfl ?_
            skip
            refine jr_iload (pc := 114) h dX0_bestFilling_114 rfl ?_
            refine jr_aload_n (pc := 116) h dX0_bestFilling_116 rfl ?_
            refine gf_X0_15 (pc := 117) h dX0_bestFilling_117 (by assumption) (by omega) ?_
            refine jr_iload (pc := 120) h dX0_bestFilling_120 rfl ?_
            refine jr_iald (pc := 122) h dX0_bestFilling_122 (by assumption) (by omega) (by omega) ?_
            refine jr_iconst (pc := 123) h dX0_bestFilling_123 ?_
            refine jr_iadd (pc := 124) h dX0_bestFilling_124 ?_
            refine jr_imul (pc := 125) h dX0_bestFilling_125 ?_
            refine jr_istore (pc := 126) h [_, _, _, _, _, _, _, _, _, _, _, _] dX0_bestFilling_126 (by decide) rfl ?_
            refine jr_iinc (pc := 128) h [_, _, _, _, _, _, _, _, _, _, _, _] dX0_bestFilling_128 (by decide) rfl rfl ?_
            refine jr_goto (pc := 131) h 10 dX0_bestFilling_131 (by decide) ?_
            have hmu : s * (wn i.toNat + 1) ≤ s * 25 := Int.mul_le_mul_of_nonneg_left (by omega) (by omega)
            have hmu2 : s * 1 ≤ s * (wn i.toNat + 1) := Int.mul_le_mul_of_nonneg_left (by omega) (by omega)
            refine ih _ _ (i + 1) _ _ _ _ _ (by omega) ⟨by omega, by omega, by omega, by omega, by omega, by omega⟩ ?_ ?_ (by omega)
            · omega
            · rw [foldS_s (by omega), ← hx]
              unfold bf1 c_fil
              dsimp only
              first
              | (rw [if_neg (by omega)])
              | (rw [if_pos (by omega), if_pos (by omega)])
              | (rw [if_pos (by omega), if_neg (by omega)])
          · skip
            skip
            refine jr_iconst (pc := 70) h dX0_bestFilling_70 ?_
            refine jr_goto (pc := 71) h 75 dX0_bestFilling_71 (by decide) ?_
            refine jr_istore (pc := 75) h [_, _, _, _, _, _, _, _, _, _, _, _] dX0_bestFilling_75 (by decide) rfl ?_
            refine jr_iload (pc := 77) h dX0_bestFilling_77 rfl ?_
            refine jr_if_eq (pc := 79) h 90 dX0_bestFilling_79 (by decide) (by omega) (fun c => absurd c (by decide)) (fun _ => ?_)
            refine jr_iload (pc := 82) h dX0_bestFilling_82 rfl ?_
            refine jr_iload (pc := 84) h dX0_bestFilling_84 rfl ?_
            refine jr_iadd (pc := 86) h dX0_bestFilling_86 ?_
            refine jr_goto (pc := 87) h 103 dX0_bestFilling_87 (by decide) ?_
            refine jr_istore (pc := 103) h [_, _, _, _, _, _, _, _, _, _, _, _] dX0_bestFilling_103 (by decide) rfl ?_
            refine jr_iload (pc := 105) h dX0_bestFilling_105 rfl ?_
            refine jr_iload (pc := 107) h dX0_bestFilling_107 rfl ?_
            refine im_X0_27 (pc := 109) h hR dX0_bestFilling_109 ⟨(Nat.le_of_ble_eq_true rfl), (Nat.le_of_ble_eq_true rfl), (Nat.le_of_ble_eq_true rfl), (Nat.le_of_ble_eq_true rfl)⟩ (by omega) (by omega) ?_
            refine jr_istore (pc := 112) h [_, _, _, _, _, _, _, _, _, _, _, _] dX0_bestFilling_112 (by decide) rfl ?_
            skip
            refine jr_iload (pc := 114) h dX0_bestFilling_114 rfl ?_
            refine jr_aload_n (pc := 116) h dX0_bestFilling_116 rfl ?_
            refine gf_X0_15 (pc := 117) h dX0_bestFilling_117 (by assumption) (by omega) ?_
            refine jr_iload (pc := 120) h dX0_bestFilling_120 rfl ?_
            refine jr_iald (pc := 122) h dX0_bestFilling_122 (by assumption) (by omega) (by omega) ?_
            refine jr_iconst (pc := 123) h dX0_bestFilling_123 ?_
            refine jr_iadd (pc := 124) h dX0_bestFilling_124 ?_
            refine jr_imul (pc := 125) h dX0_bestFilling_125 ?_
            refine jr_istore (pc := 126) h [_, _, _, _, _, _, _, _, _, _, _, _] dX0_bestFilling_126 (by decide) rfl ?_
            refine jr_iinc (pc := 128) h [_, _, _, _, _, _, _, _, _, _, _, _] dX0_bestFilling_128 (by decide) rfl rfl ?_
            refine jr_goto (pc := 131) h 10 dX0_bestFilling_131 (by decide) ?_
            have hmu : s * (wn i.toNat + 1) ≤ s * 25 := Int.mul_le_mul_of_nonneg_left (by omega) (by omega)
            have hmu2 : s * 1 ≤ s * (wn i.toNat + 1) := Int.mul_le_mul_of_nonneg_left (by omega) (by omega)
            refine ih _ _ (i + 1) _ _ _ _ _ (by omega) ⟨by omega, by omega, by omega, by omega, by omega, by omega⟩ ?_ ?_ (by omega)
            · omega
            · rw [foldS_s (by omega), ← hx]
              unfold bf1 c_fil
              dsimp only
              first
              | (rw [if_neg (by omega)])
              | (rw [if_pos (by omega), if_pos (by omega)])
              | (rw [if_pos (by omega), if_neg (by omega)])
  refine jr_ldc (pc := 0) h dX0_bestFilling_0 wm_1395 ?_
  rw [ld1000000]
  refine jr_istore (pc := 2) h [_, _, _, _, _, _, _, _, _, _, _, _] dX0_bestFilling_2 (by decide) rfl ?_
  refine jr_iconst (pc := 4) h dX0_bestFilling_4 ?_
  refine jr_istore (pc := 5) h [_, _, _, _, _, _, _, _, _, _, _, _] dX0_bestFilling_5 (by decide) rfl ?_
  refine jr_iconst (pc := 7) h dX0_bestFilling_7 ?_
  refine jr_istore (pc := 8) h [_, _, _, _, _, _, _, _, _, _, _, _] dX0_bestFilling_8 (by decide) rfl ?_
  exact loop _ _ _ _ _ _ _ _ _ (by omega) ⟨by omega, by omega, by omega, by omega, by omega, by omega⟩ (by omega) rfl (Nat.lt_succ_self _)
set_option maxHeartbeats 1000000 in
set_option maxRecDepth 20000 in
theorem s_X0_fewestOf {l : Launch} {n : Nat} {M : jdM} {d : Nat} {g rm wn be : Nat → Int} (hDr : Dr M n d g rm wn be) {f : Nat} {ct td bk si ld : Nat → Int} (hF : Fl M n f ct td bk si ld) (hsep : f + 5 < d) (hwn : ∀ j, 0 ≤ wn j ∧ wn j ≤ 24) (hbe : ∀ j, 0 ≤ be j ∧ be j ≤ 1000000) {ho : Int} (hho : 0 ≤ ho ∧ ho ≤ 999) (h24 : c_sts wn ≤ 2401) : Ct l yX0_fewestOf cX0_fewestOf 5 (some .int) rX0_fewestOf [.ref d, .ref f, jI ho] n M (fun vv n' M' => (vv = some (jI (c_few td wn be ho)) ∧ n = n') ∧ ∃ be', Dr M' n d g rm wn be' ∧ fr (DrS d) M M' ∧ ∀ j, 0 ≤ be' j ∧ be' j ≤ 1000000) := by
  refine Ct_of [some (.ref d), some (.ref f), some (jI ho), none, none] (by decide) (Nat.le_of_ble_eq_true rfl) rfl (fun κ hl h hR hRt hmn hn0 => ?_)
  have h : Ok κ RX0 cX0_fewestOf 5 (some .int) := h
  obtain ⟨hnd, hOd, hAd, hBd, hCd⟩ := id hDr
  obtain ⟨hnF, hOF, hAF, hBF, hCF, hDF, hEF, rA, rB, r0, rC, rD, rE⟩ := id hF
  have hp : 1 ≤ c_sts wn := by
    have a0 := hwn 0
    have a1 := hwn 1
    have a2 := hwn 2
    have a3 := hwn 3
    unfold c_sts
    have b1 : 0 < 1 * (wn 0 + 1) := by omega
    have b2 := Int.mul_pos b1 (show 0 < wn 1 + 1 by omega)
    have b3 := Int.mul_pos b2 (show 0 < wn 2 + 1 by omega)
    have b4 := Int.mul_pos b3 (show 0 < wn 3 + 1 by omega)
    omega
  have loop2 : ∀ (dq : Nat) (i : Int) (M1 : jdM) (b1 : Nat → Int), (1 ≤ i ∧ i ≤ c_sts wn) → (Dr M1 n d g rm wn b1) → (Fl M1 n f ct td bk si ld) → (fr (DrS d) M M1) → (∀ j, 0 ≤ b1 j ∧ b1 j ≤ 1000000) → (b1 = c_tab td wn be ho (i - 1).toNat) → (2500 - i).toNat < dq → J κ 5 0 0 n 53 [some (.ref d), some (.ref f), some (jI ho), some (jI (c_sts wn)), some (jI i)] [] M1 := by
    intro dq
    induction dq with
    | zero => intro i M1 b1 hi D1 hF f1 hb1 hx hd; omega
    | succ dq ih =>
      intro i M1 b1 hi D1 hF f1 hb1 hx hd
      obtain ⟨hnd, hOd, hAd, hBd, hCd⟩ := id D1
      obtain ⟨hnF, hOF, hAF, hBF, hCF, hDF, hEF, rA, rB, r0, rC, rD, rE⟩ := id hF
      refine jr_iload (pc := 53) h dX0_fewestOf_53 rfl ?_
      refine jr_iload_n (pc := 55) h dX0_fewestOf_55 rfl ?_
      refine jr_icmp_ge (pc := 56) h 80 dX0_fewestOf_56 (by decide) (by omega) (by omega) (fun c_56 => ?_) (fun c_56 => ?_)
      · skip
        refine jr_aload_n (pc := 80) h dX0_fewestOf_80 rfl ?_
        refine gf_X0_18 (pc := 81) h dX0_fewestOf_81 (by assumption) (by omega) ?_
        refine jr_iload_n (pc := 84) h dX0_fewestOf_84 rfl ?_
        refine jr_iconst (pc := 85) h dX0_fewestOf_85 ?_
        refine jr_isub (pc := 86) h dX0_fewestOf_86 ?_
        refine jr_iald (pc := 87) h dX0_fewestOf_87 (by assumption) (by omega) (by omega) ?_
        refine jr_bipush (pc := 88) h dX0_fewestOf_88 bp_64 ?_
        refine jr_idivp (pc := 90) h dX0_fewestOf_90 (by have := hb1 (c_sts wn - 1).toNat; omega) (by omega) ?_
        refine jr_iret (pc := 91) h hRt dX0_fewestOf_91 rfl (Nat.le_of_ble_eq_true rfl) (Nat.le_of_ble_eq_true rfl) ?_
        have ei : i = c_sts wn := by omega
        subst ei
        refine ⟨⟨ji_c ?_, rfl⟩, b1, D1, f1, hb1⟩
        unfold c_few
        rw [← hx]
      · skip
        refine jr_aload_n (pc := 59) h dX0_fewestOf_59 rfl ?_
        refine gf_X0_18 (pc := 60) h dX0_fewestOf_60 (by assumption) (by omega) ?_
        refine jr_iload (pc := 63) h dX0_fewestOf_63 rfl ?_
        refine jr_aload_n (pc := 65) h dX0_fewestOf_65 rfl ?_
        refine jr_aload_n (pc := 66) h dX0_fewestOf_66 rfl ?_
        refine jr_iload (pc := 67) h dX0_fewestOf_67 rfl ?_
        refine jr_iload_n (pc := 69) h dX0_fewestOf_69 rfl ?_
        refine iv_X0_63 (pc := 70) h hl hR dX0_fewestOf_70 ⟨(Nat.le_of_ble_eq_true rfl), (Nat.le_of_ble_eq_true rfl), (Nat.le_of_ble_eq_true rfl), (Nat.le_of_ble_eq_true rfl)⟩ (Nat.le_of_ble_eq_true rfl) (by assumption) (by omega) (s_X0_bestFilling D1 hF hwn hb1 (by omega) hho) (fun v_70 n_70 M_70 hn_70 hp => ?_)
        obtain ⟨⟨rfl, rfl, rfl⟩, gr_70⟩ := hp
        refine jr_iast (pc := 73) h dX0_fewestOf_73 (by assumption) (by omega) (by omega) ?_
        refine jm_gen (fun M2 hM2 => ?_)
        have D1 := Dr_be D1 hM2
        have f9 : fr (DrS d) _ M2 := fr_up hM2 ⟨by omega, by omega⟩
        have hF := Fl_fr hF f9 (Nat.le_refl _) (fun k h1 h2 q => by have := q.1; have := q.2; omega)
        have f1 := fr_tr f1 f9
        obtain ⟨hnF, hOF, hAF, hBF, -⟩ := id hF
        obtain ⟨hnd, hOd, hAd, hBd, hCd⟩ := id D1
        refine jr_iinc (pc := 74) h [_, _, _, _, _] dX0_fewestOf_74 (by decide) rfl rfl ?_
        refine jr_goto (pc := 77) h 53 dX0_fewestOf_77 (by decide) ?_
        refine ih (i + 1) _ (up b1 i.toNat (c_bf td wn b1 i ho)) (by omega) D1 hF f1 ?_ ?_ (by omega)
        · intro j
          by_cases q : j = i.toNat
          · rw [q, up_eq]; omega
          · rw [up_ne q]; exact hb1 j
        · unfold c_tab at hx ⊢
          rw [show i + 1 - 1 = i - 1 + 1 by omega, foldS_s (by omega), ← hx, show 1 + (i - 1) = i by omega]
  refine jr_iconst (pc := 0) h dX0_fewestOf_0 ?_
  refine jr_istore_n (pc := 1) h [_, _, _, _, _] dX0_fewestOf_1 (by decide) rfl ?_
  refine jr_iconst (pc := 2) h dX0_fewestOf_2 ?_
  refine jr_istore (pc := 3) h [_, _, _, _, _] dX0_fewestOf_3 (by decide) rfl ?_
  refine jr_iload (pc := 5) h dX0_fewestOf_5 rfl ?_
  refine jr_iconst (pc := 7) h dX0_fewestOf_7 ?_
  refine jr_icmp_ge (pc := 8) h 29 dX0_fewestOf_8 (by decide) (by omega) (by omega) (fun c => absurd c (by omega)) (fun _ => ?_)
  refine jr_iload_n (pc := 11) h dX0_fewestOf_11 rfl ?_
  refine jr_aload_n (pc := 12) h dX0_fewestOf_12 rfl ?_
  refine gf_X0_15 (pc := 13) h dX0_fewestOf_13 (by assumption) (by omega) ?_
  refine jr_iload (pc := 16) h dX0_fewestOf_16 rfl ?_
  refine jr_iald (pc := 18) h dX0_fewestOf_18 (by assumption) (by omega) (by omega) ?_
  refine jr_iconst (pc := 19) h dX0_fewestOf_19 ?_
  refine jr_iadd (pc := 20) h dX0_fewestOf_20 ?_
  rw [show wn (Int.toNat 0) = wn 0 from rfl]
  refine jr_imul (pc := 21) h dX0_fewestOf_21 ?_
  refine jr_istore_n (pc := 22) h [_, _, _, _, _] dX0_fewestOf_22 (by decide) rfl ?_
  refine jr_iinc (pc := 23) h [_, _, _, _, _] dX0_fewestOf_23 (by decide) rfl rfl ?_
  rw [show ((0 : Int) + 1) = 1 from rfl]
  skip
  refine jr_goto (pc := 26) h 5 dX0_fewestOf_26 (by decide) ?_
  refine jr_iload (pc := 5) h dX0_fewestOf_5 rfl ?_
  refine jr_iconst (pc := 7) h dX0_fewestOf_7 ?_
  refine jr_icmp_ge (pc := 8) h 29 dX0_fewestOf_8 (by decide) (by omega) (by omega) (fun c => absurd c (by omega)) (fun _ => ?_)
  refine jr_iload_n (pc := 11) h dX0_fewestOf_11 rfl ?_
  refine jr_aload_n (pc := 12) h dX0_fewestOf_12 rfl ?_
  refine gf_X0_15 (pc := 13) h dX0_fewestOf_13 (by assumption) (by omega) ?_
  refine jr_iload (pc := 16) h dX0_fewestOf_16 rfl ?_
  refine jr_iald (pc := 18) h dX0_fewestOf_18 (by assumption) (by omega) (by omega) ?_
  refine jr_iconst (pc := 19) h dX0_fewestOf_19 ?_
  refine jr_iadd (pc := 20) h dX0_fewestOf_20 ?_
  rw [show wn (Int.toNat 1) = wn 1 from rfl]
  refine jr_imul (pc := 21) h dX0_fewestOf_21 ?_
  refine jr_istore_n (pc := 22) h [_, _, _, _, _] dX0_fewestOf_22 (by decide) rfl ?_
  refine jr_iinc (pc := 23) h [_, _, _, _, _] dX0_fewestOf_23 (by decide) rfl rfl ?_
  rw [show ((1 : Int) + 1) = 2 from rfl]
  skip
  refine jr_goto (pc := 26) h 5 dX0_fewestOf_26 (by decide) ?_
  refine jr_iload (pc := 5) h dX0_fewestOf_5 rfl ?_
  refine jr_iconst (pc := 7) h dX0_fewestOf_7 ?_
  refine jr_icmp_ge (pc := 8) h 29 dX0_fewestOf_8 (by decide) (by omega) (by omega) (fun c => absurd c (by omega)) (fun _ => ?_)
  refine jr_iload_n (pc := 11) h dX0_fewestOf_11 rfl ?_
  refine jr_aload_n (pc := 12) h dX0_fewestOf_12 rfl ?_
  refine gf_X0_15 (pc := 13) h dX0_fewestOf_13 (by assumption) (by omega) ?_
  refine jr_iload (pc := 16) h dX0_fewestOf_16 rfl ?_
  refine jr_iald (pc := 18) h dX0_fewestOf_18 (by assumption) (by omega) (by omega) ?_
  refine jr_iconst (pc := 19) h dX0_fewestOf_19 ?_
  refine jr_iadd (pc := 20) h dX0_fewestOf_20 ?_
  rw [show wn (Int.toNat 2) = wn 2 from rfl]
  refine jr_imul (pc := 21) h dX0_fewestOf_21 ?_
  refine jr_istore_n (pc := 22) h [_, _, _, _, _] dX0_fewestOf_22 (by decide) rfl ?_
  refine jr_iinc (pc := 23) h [_, _, _, _, _] dX0_fewestOf_23 (by decide) rfl rfl ?_
  rw [show ((2 : Int) + 1) = 3 from rfl]
  skip
  refine jr_goto (pc := 26) h 5 dX0_fewestOf_26 (by decide) ?_
  refine jr_iload (pc := 5) h dX0_fewestOf_5 rfl ?_
  refine jr_iconst (pc := 7) h dX0_fewestOf_7 ?_
  refine jr_icmp_ge (pc := 8) h 29 dX0_fewestOf_8 (by decide) (by omega) (by omega) (fun c => absurd c (by omega)) (fun _ => ?_)
  refine jr_iload_n (pc := 11) h dX0_fewestOf_11 rfl ?_
  refine jr_aload_n (pc := 12) h dX0_fewestOf_12 rfl ?_
  refine gf_X0_15 (pc := 13) h dX0_fewestOf_13 (by assumption) (by omega) ?_
  refine jr_iload (pc := 16) h dX0_fewestOf_16 rfl ?_
  refine jr_iald (pc := 18) h dX0_fewestOf_18 (by assumption) (by omega) (by omega) ?_
  refine jr_iconst (pc := 19) h dX0_fewestOf_19 ?_
  refine jr_iadd (pc := 20) h dX0_fewestOf_20 ?_
  rw [show wn (Int.toNat 3) = wn 3 from rfl]
  refine jr_imul (pc := 21) h dX0_fewestOf_21 ?_
  refine jr_istore_n (pc := 22) h [_, _, _, _, _] dX0_fewestOf_22 (by decide) rfl ?_
  refine jr_iinc (pc := 23) h [_, _, _, _, _] dX0_fewestOf_23 (by decide) rfl rfl ?_
  rw [show ((3 : Int) + 1) = 4 from rfl]
  skip
  refine jr_goto (pc := 26) h 5 dX0_fewestOf_26 (by decide) ?_
  refine jr_iload (pc := 5) h dX0_fewestOf_5 rfl ?_
  refine jr_iconst (pc := 7) h dX0_fewestOf_7 ?_
  refine jr_icmp_ge (pc := 8) h 29 dX0_fewestOf_8 (by decide) (by omega) (by omega) (fun _ => ?_) (fun c => absurd c (by omega))
  replace h24 : c_sts wn ≤ 2401 := h24
  rw [show 1 * (wn 0 + 1) * (wn 1 + 1) * (wn 2 + 1) * (wn 3 + 1) = c_sts wn from rfl]
  refine jr_iload_n (pc := 29) h dX0_fewestOf_29 rfl ?_
  refine jr_iconst (pc := 30) h dX0_fewestOf_30 ?_
  refine jr_icmp_lt (pc := 31) h 41 dX0_fewestOf_31 (by decide) (by omega) (by omega) (fun c_31 => ?_) (fun c_31 => ?_)
  · skip
    refine jr_iconst (pc := 41) h dX0_fewestOf_41 ?_
    refine jr_iret (pc := 42) h hRt dX0_fewestOf_42 rfl (Nat.le_of_ble_eq_true rfl) (Nat.le_of_ble_eq_true rfl) ?_
    exfalso; omega
  · skip
    refine jr_iload_n (pc := 34) h dX0_fewestOf_34 rfl ?_
    refine jr_sipush (pc := 35) h dX0_fewestOf_35 sp_2401 ?_
    refine jr_icmp_le (pc := 38) h 43 dX0_fewestOf_38 (by decide) (by omega) (by omega) (fun c_38 => ?_) (fun c_38 => ?_)
    · skip
      refine jr_aload_n (pc := 43) h dX0_fewestOf_43 rfl ?_
      refine gf_X0_18 (pc := 44) h dX0_fewestOf_44 (by assumption) (by omega) ?_
      refine jr_iconst (pc := 47) h dX0_fewestOf_47 ?_
      refine jr_iload_n (pc := 48) h dX0_fewestOf_48 rfl ?_
      refine jr_iast (pc := 49) h dX0_fewestOf_49 (by assumption) (by omega) (by omega) ?_
      refine jm_gen (fun M2 hM2 => ?_)
      have D1 := Dr_be hDr hM2
      have f1 : fr (DrS d) M M2 := fr_up hM2 ⟨by omega, by omega⟩
      have hF := Fl_fr hF f1 (Nat.le_refl _) (fun k h1 h2 q => by have := q.1; have := q.2; omega)
      obtain ⟨hnF, hOF, hAF, hBF, -⟩ := id hF
      obtain ⟨hnd, hOd, hAd, hBd, hCd⟩ := id D1
      refine jr_iconst (pc := 50) h dX0_fewestOf_50 ?_
      refine jr_istore (pc := 51) h [_, _, _, _, _] dX0_fewestOf_51 (by decide) rfl ?_
      exact loop2 _ _ _ _ (by omega) D1 hF f1 (fun j => by
        by_cases q : j = Int.toNat 0
        · rw [q, up_eq]; omega
        · rw [up_ne q]; exact hbe j) rfl (Nat.lt_succ_self _)
    · skip
      refine jr_iconst (pc := 41) h dX0_fewestOf_41 ?_
      refine jr_iret (pc := 42) h hRt dX0_fewestOf_42 rfl (Nat.le_of_ble_eq_true rfl) (Nat.le_of_ble_eq_true rfl) ?_
      exfalso; omega
