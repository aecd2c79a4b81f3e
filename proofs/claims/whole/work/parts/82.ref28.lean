/-! 82: the reference: fewest coins, giving, selling -/
def capX (z : Int) : Int := if 1000 ≤ z then -1 else z
theorem capX_c {z : Int} : (1000 ≤ z ∧ capX z = -1) ∨ (z < 1000 ∧ capX z = z) := by unfold capX; split <;> omega
def mcX (sk : Nat → Int) (c : Nat) (p : Int) : Int := capX (mnC sk c p)
/-- the least before the k-th -/
def mnI (F : Int → Int) (v p : Int) : Nat → Int
  | 0 => 1000
  | k + 1 => mnF F v p k
theorem mnI_le {F : Int → Int} {v p : Int} : ∀ k : Nat, mnI F v p k ≤ 1000
  | 0 => Int.le_refl _
  | k + 1 => mnF_le k
theorem mnI_s {F : Int → Int} {v p k : Int} (h : 0 ≤ k) : mnI F v p (k + 1).toNat = min (mnI F v p k.toNat) (k + F (p - k * v)) := by
  obtain ⟨j, rfl⟩ : ∃ j : Nat, k = j := ⟨k.toNat, by omega⟩
  rw [show ((j : Int) + 1).toNat = j + 1 by omega, Int.toNat_natCast]
  cases j with
  | zero =>
    show min 1000 (F p) = min 1000 (((0 : Nat) : Int) + F (p - ((0 : Nat) : Int) * v))
    rw [show p - ((0 : Nat) : Int) * v = p by rw [show ((0 : Nat) : Int) = 0 from rfl, Int.zero_mul]; omega, show ((0 : Nat) : Int) = 0 from rfl, Int.zero_add]
  | succ j =>
    show min (mnF F v p j) (((j : Int) + 1) + F (p - ((j : Int) + 1) * v)) = min (mnF F v p j) (((j + 1 : Nat) : Int) + F (p - ((j + 1 : Nat) : Int) * v))
    rw [show ((j + 1 : Nat) : Int) = (j : Int) + 1 by omega]
theorem mnC_I {sk : Nat → Int} {c : Nat} {p k : Int} (hk : 1 ≤ k) (e : k = min (sk c) (p / cv c) + 1) : mnC sk (c + 1) p = mnI (mnC sk c) (cv c) p k.toNat := by
  obtain ⟨j, rfl⟩ : ∃ j : Nat, k = (j : Int) + 1 := ⟨(k - 1).toNat, by omega⟩
  rw [show ((j : Int) + 1).toNat = j + 1 by omega, mnI, mnC, show (min (sk c) (p / cv c)).toNat = j by omega]
theorem mnF_fin {F : Int → Int} {v p b : Int} (hF : ∀ q, F q = 1000 ∨ (0 ≤ F q ∧ F q ≤ b)) (hb : 0 ≤ b) : ∀ k : Nat, mnF F v p k = 1000 ∨ mnF F v p k ≤ b + k
  | 0 => by
    have := hF p
    unfold mnF
    omega
  | k + 1 => by
    have h1 := mnF_fin (p := p) (v := v) hF hb k
    have h2 := hF (p - (k + 1) * v)
    have h3 := mnF_le (F := F) (v := v) (p := p) k
    unfold mnF
    omega
theorem mnC_fin {sk : Nat → Int} (hsk : ∀ j : Nat, 0 ≤ sk j ∧ sk j ≤ 99) : ∀ (c : Nat) (p : Int), mnC sk c p = 1000 ∨ (0 ≤ mnC sk c p ∧ mnC sk c p ≤ 99 * c)
  | 0, p => by unfold mnC; split <;> omega
  | c + 1, p => by
    have h0 := mnC_b (fun j => (hsk j).1) (c + 1) p
    have h1 := mnF_fin (F := mnC sk c) (v := cv c) (p := p) (mnC_fin hsk c) (by omega) (min (sk c) (p / cv c)).toNat
    have h2 := hsk c
    rw [mnC] at h0 ⊢
    omega
theorem mcX_b {sk : Nat → Int} (hsk : ∀ j : Nat, 0 ≤ sk j ∧ sk j ≤ 99) (c : Nat) (p : Int) : -1 ≤ mcX sk c p ∧ mcX sk c p ≤ 999 := by
  have h := mnC_b (fun j => (hsk j).1) c p
  unfold mcX capX
  split <;> omega
/-- rows of the table laid -/
def lyT (sk : Nat → Int) (a i p : Int) (b : Nat → Int) : Prop := ∀ P C : Nat, (P : Int) ≤ a → C < 6 → ((C : Int) < i ∨ ((C : Int) = i ∧ (P : Int) < p)) → b (6 * P + C) = mcX sk (C + 1) P
theorem lyT_at {sk : Nat → Int} {a i p : Int} {b : Nat → Int} (hL : lyT sk a i p b) {x c : Int} (hx : 0 ≤ x ∧ x ≤ a) (hc : -1 ≤ c ∧ c ≤ 5 ∧ (c < i ∨ (c = i ∧ x < p))) : c = -1 ∨ b (6 * x + c).toNat = mcX sk (c + 1).toNat x := by
  by_cases q : c = -1
  · exact Or.inl q
  · refine Or.inr ?_
    have h := hL x.toNat c.toNat (by omega) (by omega) (by omega)
    rw [show (6 * x + c).toNat = 6 * x.toNat + c.toNat by omega, h, show (c + 1).toNat = c.toNat + 1 by omega, show ((x.toNat : Nat) : Int) = x by omega]
set_option maxHeartbeats 1000000 in
set_option maxRecDepth 20000 in
theorem s_X9_coinsFor {l : Launch} {n : Nat} {M : jdM} {m : Nat} {g : Nat → Int} {w : Int} {fl rd : Value} {B : Nat → Nat → Int} (hX : MX M n m g w fl rd B) {sk : Nat → Int} (hsk : ∀ j : Nat, 0 ≤ sk j ∧ sk j ≤ 99) {x y : Int} (hx : 0 ≤ x ∧ x ≤ 199) (hy : -1 ≤ y ∧ y ≤ 5) (ht : y = -1 ∨ B 11 (6 * x + y).toNat = mcX sk (y + 1).toNat x) : Ct l yX9_coinsFor cX9_coinsFor 3 (some .int) rX9_coinsFor [.ref m, jI x, jI y] n M (fun vv n' M' => (vv = some (jI (mcX sk (y + 1).toNat x)) ∧ n = n' ∧ M = M') ∧ (-1) ≤ (mcX sk (y + 1).toNat x) ∧ (mcX sk (y + 1).toNat x) ≤ 999) := by
  refine Ct_of [some (.ref m), some (jI x), some (jI y)] (by decide) (Nat.le_of_ble_eq_true rfl) rfl (fun κ hl h hR hRt hmn hn0 => ?_)
  have h : Ok κ RX9 cX9_coinsFor 3 (some .int) := h
  obtain ⟨hnm, hOm, hBm⟩ := id hX
  have hOm : M m = jdO 9 (fX9 m _ _ fl rd) := hOm
  have hB11 : M (m + 11) = jdA 1200 (B 11) := hBm 11 (by omega) (by omega)
  refine jr_iload_n (pc := 0) h dX9_coinsFor_0 rfl ?_
  refine jr_iconst (pc := 1) h dX9_coinsFor_1 ?_
  refine jr_icmp_ne (pc := 2) h 17 dX9_coinsFor_2 (by decide) (by omega) (by omega) (fun c_2 => ?_) (fun c_2 => ?_)
  · skip
    refine jr_aload_n (pc := 17) h dX9_coinsFor_17 rfl ?_
    refine gf_X9_46 (pc := 18) h dX9_coinsFor_18 (by assumption) (by omega) ?_
    refine jr_bipush (pc := 21) h dX9_coinsFor_21 bp_6 ?_
    refine jr_iload_n (pc := 23) h dX9_coinsFor_23 rfl ?_
    refine jr_imul (pc := 24) h dX9_coinsFor_24 ?_
    refine jr_iload_n (pc := 25) h dX9_coinsFor_25 rfl ?_
    refine jr_iadd (pc := 26) h dX9_coinsFor_26 ?_
    refine jr_iald (pc := 27) h dX9_coinsFor_27 (by assumption) (by omega) (by omega) ?_
    refine jr_iret (pc := 28) h hRt dX9_coinsFor_28 rfl (Nat.le_of_ble_eq_true rfl) (Nat.le_of_ble_eq_true rfl) ?_
    first
    | (have hy0 : y = -1 := by omega
       refine ⟨⟨ji_c ?_, rfl, rfl⟩, mcX_b hsk _ _⟩
       rw [show (y + 1).toNat = 0 by omega]
       unfold mcX capX mnC
       first
       | (rw [if_pos (show x = 0 by omega)]; rfl)
       | (rw [if_neg (show ¬ x = 0 by omega)]; rfl))
    | (have ht' := ht.resolve_left (by omega)
       rw [ht']
       exact ⟨⟨rfl, rfl, rfl⟩, mcX_b hsk _ _⟩)
  · skip
    refine jr_iload_n (pc := 5) h dX9_coinsFor_5 rfl ?_
    refine jr_if_ne (pc := 6) h 13 dX9_coinsFor_6 (by decide) (by omega) (fun c_6 => ?_) (fun c_6 => ?_)
    · skip
      refine jr_iconst (pc := 13) h dX9_coinsFor_13 ?_
      refine jr_goto (pc := 14) h 28 dX9_coinsFor_14 (by decide) ?_
      refine jr_iret (pc := 28) h hRt dX9_coinsFor_28 rfl (Nat.le_of_ble_eq_true rfl) (Nat.le_of_ble_eq_true rfl) ?_
      first
      | (have hy0 : y = -1 := by omega
         refine ⟨⟨ji_c ?_, rfl, rfl⟩, mcX_b hsk _ _⟩
         rw [show (y + 1).toNat = 0 by omega]
         unfold mcX capX mnC
         first
         | (rw [if_pos (show x = 0 by omega)]; rfl)
         | (rw [if_neg (show ¬ x = 0 by omega)]; rfl))
      | (have ht' := ht.resolve_left (by omega)
         rw [ht']
         exact ⟨⟨rfl, rfl, rfl⟩, mcX_b hsk _ _⟩)
    · skip
      refine jr_iconst (pc := 9) h dX9_coinsFor_9 ?_
      refine jr_goto (pc := 10) h 28 dX9_coinsFor_10 (by decide) ?_
      refine jr_iret (pc := 28) h hRt dX9_coinsFor_28 rfl (Nat.le_of_ble_eq_true rfl) (Nat.le_of_ble_eq_true rfl) ?_
      first
      | (have hy0 : y = -1 := by omega
         refine ⟨⟨ji_c ?_, rfl, rfl⟩, mcX_b hsk _ _⟩
         rw [show (y + 1).toNat = 0 by omega]
         unfold mcX capX mnC
         first
         | (rw [if_pos (show x = 0 by omega)]; rfl)
         | (rw [if_neg (show ¬ x = 0 by omega)]; rfl))
      | (have ht' := ht.resolve_left (by omega)
         rw [ht']
         exact ⟨⟨rfl, rfl, rfl⟩, mcX_b hsk _ _⟩)
set_option maxHeartbeats 1000000 in
set_option maxRecDepth 20000 in
theorem s_X9_lays {l : Launch} {n : Nat} {M : jdM} {m : Nat} {g : Nat → Int} {w : Int} {fl rd : Value} {B : Nat → Nat → Int} (hX : MX M n m g w fl rd B) (hsk : ∀ j : Nat, 0 ≤ B 8 j ∧ B 8 j ≤ 99) {a : Int} (ha : 0 ≤ a ∧ a ≤ 199) : Ct l yX9_lays cX9_lays 7 none rX9_lays [.ref m, jI a] n M (fun vv n' M' => (vv = none ∧ n = n') ∧ ∃ b', MX M' n m g w fl rd (up B 11 b') ∧ lyT (B 8) a 6 0 b' ∧ fr (MXf m) M M') := by
  refine Ct_of [some (.ref m), some (jI a), none, none, none, none, none] (by decide) (Nat.le_of_ble_eq_true rfl) rfl (fun κ hl h hR hRt hmn hn0 => ?_)
  have h : Ok κ RX9 cX9_lays 7 none := h
  obtain ⟨hnm, hOm, hBm⟩ := id hX
  have hOm : M m = jdO 9 (fX9 m _ _ fl rd) := hOm
  refine jr_iconst (pc := 0) h dX9_lays_0 ?_
  refine jr_istore_n (pc := 1) h [_, _, _, _, _, _, _] dX9_lays_1 (by decide) rfl ?_
  have lp1 : ∀ (dq1 : Nat) (i : Int) (u3 : Option Value) (u4 : Option Value) (u5 : Option Value) (u6 : Option Value) (M1 : jdM) (b : Nat → Int), (0 ≤ i ∧ i ≤ 6) → (MX M1 n m g w fl rd (up B 11 b)) → (fr (MXf m) M M1) → (lyT (B 8) a i 0 b) → (10 - i).toNat < dq1 → J κ 7 0 0 n 2 [some (.ref m), some (jI a), some (jI i), u3, u4, u5, u6] [] M1 := by
    intro dq1
    induction dq1 with
    | zero => intro i u3 u4 u5 u6 M1 b hi hX f1 hb hd; omega
    | succ dq1 ih1 =>
      intro i u3 u4 u5 u6 M1 b hi hX f1 hb hd
      obtain ⟨hnm, hOm, hBm⟩ := id hX
      have hOm : M1 m = jdO 9 (fX9 m _ _ fl rd) := hOm
      have hB11 : M1 (m + 11) = jdA 1200 b := hBm 11 (by omega) (by omega)
      have hB8 : M1 (m + 8) = jdA 6 (B 8) := hBm 8 (by omega) (by omega)
      refine jr_iload_n (pc := 2) h dX9_lays_2 rfl ?_
      refine jr_bipush (pc := 3) h dX9_lays_3 bp_6 ?_
      refine jr_icmp_ge (pc := 5) h 121 dX9_lays_5 (by decide) (by omega) (by omega) (fun c_5 => ?_) (fun c_5 => ?_)
      · skip
        refine jr_vret (pc := 121) h hRt dX9_lays_121 (Nat.le_of_ble_eq_true rfl) (Nat.le_of_ble_eq_true rfl) ?_
        refine ⟨⟨rfl, rfl⟩, b, hX, fun P C h1 h2 _ => hb P C h1 h2 (by omega), f1⟩
      · skip
        refine jr_iconst (pc := 8) h dX9_lays_8 ?_
        refine jr_istore_n (pc := 9) h [_, _, _, _, _, _, _] dX9_lays_9 (by decide) rfl ?_
        have hcv := cv_b (i := i) (by omega)
        have hii : ((i.toNat : Nat) : Int) = i := by omega
        have lp2 : ∀ (dq2 : Nat) (p : Int) (u4 : Option Value) (u5 : Option Value) (u6 : Option Value) (M1 : jdM) (b : Nat → Int), (0 ≤ p ∧ p ≤ a + 1) → (MX M1 n m g w fl rd (up B 11 b)) → (fr (MXf m) M M1) → (lyT (B 8) a i p b) → (300 - p).toNat < dq2 → J κ 7 0 0 n 10 [some (.ref m), some (jI a), some (jI i), some (jI p), u4, u5, u6] [] M1 := by
          intro dq2
          induction dq2 with
          | zero => intro p u4 u5 u6 M1 b hp hX f1 hb hd; omega
          | succ dq2 ih2 =>
            intro p u4 u5 u6 M1 b hp hX f1 hb hd
            obtain ⟨hnm, hOm, hBm⟩ := id hX
            have hOm : M1 m = jdO 9 (fX9 m _ _ fl rd) := hOm
            have hB11 : M1 (m + 11) = jdA 1200 b := hBm 11 (by omega) (by omega)
            have hB8 : M1 (m + 8) = jdA 6 (B 8) := hBm 8 (by omega) (by omega)
            refine jr_iload_n (pc := 10) h dX9_lays_10 rfl ?_
            refine jr_iload_n (pc := 11) h dX9_lays_11 rfl ?_
            refine jr_icmp_gt (pc := 12) h 115 dX9_lays_12 (by decide) (by omega) (by omega) (fun c_12 => ?_) (fun c_12 => ?_)
            · skip
              refine jr_iinc (pc := 115) h [_, _, _, _, _, _, _] dX9_lays_115 (by decide) rfl rfl ?_
              refine jr_goto (pc := 118) h 2 dX9_lays_118 (by decide) ?_
              refine ih1 _ _ _ _ _ _ _ (by omega) hX f1 (fun P C h1 h2 h3 => hb P C h1 h2 (by omega)) (by omega)
            · skip
              refine jr_iconst (pc := 15) h dX9_lays_15 ?_
              refine jr_istore (pc := 16) h [_, _, _, _, _, _, _] dX9_lays_16 (by decide) rfl ?_
              refine jr_iconst (pc := 18) h dX9_lays_18 ?_
              refine jr_istore (pc := 19) h [_, _, _, _, _, _, _] dX9_lays_19 (by decide) rfl ?_
              have lp3 : ∀ (dq3 : Nat) (least k : Int) (u6 : Option Value) (M1 : jdM) (b : Nat → Int), (((0 ≤ k ∧ k - 1 ≤ B 8 i.toNat) ∧ k * cv i - cv i ≤ p) ∧ -1 ≤ least ∧ least ≤ 999) → (MX M1 n m g w fl rd (up B 11 b)) → (fr (MXf m) M M1) → (lyT (B 8) a i p b) → ((1000 ≤ mnI (mnC (B 8) i.toNat) (cv i) p k.toNat ∧ least = -1) ∨ (0 ≤ mnI (mnC (B 8) i.toNat) (cv i) p k.toNat ∧ mnI (mnC (B 8) i.toNat) (cv i) p k.toNat < 1000 ∧ least = mnI (mnC (B 8) i.toNat) (cv i) p k.toNat)) → (200 - k).toNat < dq3 → J κ 7 0 0 n 21 [some (.ref m), some (jI a), some (jI i), some (jI p), some (jI least), some (jI k), u6] [] M1 := by
                intro dq3
                induction dq3 with
                | zero => intro least k u6 M1 b hk hX f1 hb hl9 hd; omega
                | succ dq3 ih3 =>
                  intro least k u6 M1 b hk hX f1 hb hl9 hd
                  obtain ⟨hnm, hOm, hBm⟩ := id hX
                  have hOm : M1 m = jdO 9 (fX9 m _ _ fl rd) := hOm
                  have hB11 : M1 (m + 11) = jdA 1200 b := hBm 11 (by omega) (by omega)
                  have hB8 : M1 (m + 8) = jdA 6 (B 8) := hBm 8 (by omega) (by omega)
                  refine jr_iload (pc := 21) h dX9_lays_21 rfl ?_
                  refine jr_aload_n (pc := 23) h dX9_lays_23 rfl ?_
                  refine gf_X9_37 (pc := 24) h dX9_lays_24 (by assumption) (by omega) ?_
                  refine jr_iload_n (pc := 27) h dX9_lays_27 rfl ?_
                  have hs8 := hsk i.toNat
                  refine jr_iald (pc := 28) h dX9_lays_28 (by assumption) (by omega) (by omega) ?_
                  refine jr_icmp_gt (pc := 29) h 96 dX9_lays_29 (by decide) (by omega) (by omega) (fun c_29 => ?_) (fun c_29 => ?_)
                  · skip
                    refine jr_aload_n (pc := 96) h dX9_lays_96 rfl ?_
                    refine gf_X9_46 (pc := 97) h dX9_lays_97 (by assumption) (by omega) ?_
                    refine jr_bipush (pc := 100) h dX9_lays_100 bp_6 ?_
                    refine jr_iload_n (pc := 102) h dX9_lays_102 rfl ?_
                    refine jr_imul (pc := 103) h dX9_lays_103 ?_
                    refine jr_iload_n (pc := 104) h dX9_lays_104 rfl ?_
                    refine jr_iadd (pc := 105) h dX9_lays_105 ?_
                    refine jr_iload (pc := 106) h dX9_lays_106 rfl ?_
                    have hs8 := hsk i.toNat
                    have hkm : k = min (B 8 i.toNat) (p / cv i) + 1 := by
                      have h1 : k = 0 ∨ k - 1 ≤ p / cv i := by
                        by_cases q : k = 0
                        · exact Or.inl q
                        · exact Or.inr ((Int.le_ediv_iff_mul_le (by omega)).2 (by rw [Int.sub_mul, Int.one_mul]; omega))
                      have h0 : 0 ≤ p / cv i := Int.ediv_nonneg (by omega) (by omega)
                      have h2 : B 8 i.toNat < k ∨ ¬ k ≤ p / cv i := by
                        by_cases q : k * cv i ≤ p
                        · exact Or.inl (by omega)
                        · exact Or.inr (fun h => q ((Int.le_ediv_iff_mul_le (by omega)).1 h))
                      omega
                    have eL : least = mcX (B 8) (i.toNat + 1) p := by
                      have e := mnC_I (sk := B 8) (c := i.toNat) (p := p) (k := k) (by have := Int.ediv_nonneg (show 0 ≤ p by omega) (show 0 ≤ cv i by omega); omega) (by rw [hii]; exact hkm)
                      rw [hii] at e
                      have h1 := capX_c (z := mnC (B 8) (i.toNat + 1) p)
                      unfold mcX
                      omega
                    rw [eL]
                    refine jr_iast (pc := 108) h dX9_lays_108 hB11 (by omega) (by omega) ?_
                    refine jm_gen (fun M3 hM3 => ?_)
                    have hX := MX_B (i := 11) hX hM3 (by omega)
                    rw [up_up] at hX
                    have f9 : fr (MXf m) _ M3 := fr_up (S := MXf m) hM3 ⟨by omega, by omega⟩
                    have f1 := fr_tr f1 f9
                    refine jr_iinc (pc := 109) h [_, _, _, _, _, _, _] dX9_lays_109 (by decide) rfl rfl ?_
                    refine jr_goto (pc := 112) h 10 dX9_lays_112 (by decide) ?_
                    refine ih2 _ _ _ _ _ _ (by omega) hX f1 (fun P C h1 h2 h3 => ?_) (by omega)
                    by_cases q : 6 * P + C = (6 * p + i).toNat
                    · rw [q, up_eq, show C = i.toNat by omega, show (P : Int) = p by omega]
                    · rw [up_ne q]; exact hb P C h1 h2 (by omega)
                  · skip
                    refine jr_iload (pc := 32) h dX9_lays_32 rfl ?_
                    refine jr_iload_n (pc := 34) h dX9_lays_34 rfl ?_
                    refine iv_X9_588 (pc := 35) h hl hR dX9_lays_35 ⟨(Nat.le_of_ble_eq_true rfl), (Nat.le_of_ble_eq_true rfl), (Nat.le_of_ble_eq_true rfl), (Nat.le_of_ble_eq_true rfl)⟩ (Nat.le_of_ble_eq_true rfl) (s_X9_valueOf (by omega)) (fun v_35 n_35 M_35 hn_35 hp => ?_)
                    obtain ⟨⟨rfl, rfl, rfl⟩, gr_35⟩ := hp
                    have hmv := mulb (a := k) (b := cv i) (A := 100) (B := 50) (by omega) ⟨by omega, hcv.2⟩
                    have hk1 : (k + 1) * cv i = k * cv i + cv i := by rw [Int.add_mul, Int.one_mul]
                    refine jr_imul (pc := 38) h dX9_lays_38 ?_
                    refine jr_iload_n (pc := 39) h dX9_lays_39 rfl ?_
                    refine jr_icmp_gt (pc := 40) h 96 dX9_lays_40 (by decide) (by omega) (by omega) (fun c_40 => ?_) (fun c_40 => ?_)
                    · skip
                      refine jr_aload_n (pc := 96) h dX9_lays_96 rfl ?_
                      refine gf_X9_46 (pc := 97) h dX9_lays_97 (by assumption) (by omega) ?_
                      refine jr_bipush (pc := 100) h dX9_lays_100 bp_6 ?_
                      refine jr_iload_n (pc := 102) h dX9_lays_102 rfl ?_
                      refine jr_imul (pc := 103) h dX9_lays_103 ?_
                      refine jr_iload_n (pc := 104) h dX9_lays_104 rfl ?_
                      refine jr_iadd (pc := 105) h dX9_lays_105 ?_
                      refine jr_iload (pc := 106) h dX9_lays_106 rfl ?_
                      have hs8 := hsk i.toNat
                      have hkm : k = min (B 8 i.toNat) (p / cv i) + 1 := by
                        have h1 : k = 0 ∨ k - 1 ≤ p / cv i := by
                          by_cases q : k = 0
                          · exact Or.inl q
                          · exact Or.inr ((Int.le_ediv_iff_mul_le (by omega)).2 (by rw [Int.sub_mul, Int.one_mul]; omega))
                        have h0 : 0 ≤ p / cv i := Int.ediv_nonneg (by omega) (by omega)
                        have h2 : B 8 i.toNat < k ∨ ¬ k ≤ p / cv i := by
                          by_cases q : k * cv i ≤ p
                          · exact Or.inl (by omega)
                          · exact Or.inr (fun h => q ((Int.le_ediv_iff_mul_le (by omega)).1 h))
                        omega
                      have eL : least = mcX (B 8) (i.toNat + 1) p := by
                        have e := mnC_I (sk := B 8) (c := i.toNat) (p := p) (k := k) (by have := Int.ediv_nonneg (show 0 ≤ p by omega) (show 0 ≤ cv i by omega); omega) (by rw [hii]; exact hkm)
                        rw [hii] at e
                        have h1 := capX_c (z := mnC (B 8) (i.toNat + 1) p)
                        unfold mcX
                        omega
                      rw [eL]
                      refine jr_iast (pc := 108) h dX9_lays_108 hB11 (by omega) (by omega) ?_
                      refine jm_gen (fun M3 hM3 => ?_)
                      have hX := MX_B (i := 11) hX hM3 (by omega)
                      rw [up_up] at hX
                      have f9 : fr (MXf m) _ M3 := fr_up (S := MXf m) hM3 ⟨by omega, by omega⟩
                      have f1 := fr_tr f1 f9
                      refine jr_iinc (pc := 109) h [_, _, _, _, _, _, _] dX9_lays_109 (by decide) rfl rfl ?_
                      refine jr_goto (pc := 112) h 10 dX9_lays_112 (by decide) ?_
                      refine ih2 _ _ _ _ _ _ (by omega) hX f1 (fun P C h1 h2 h3 => ?_) (by omega)
                      by_cases q : 6 * P + C = (6 * p + i).toNat
                      · rw [q, up_eq, show C = i.toNat by omega, show (P : Int) = p by omega]
                      · rw [up_ne q]; exact hb P C h1 h2 (by omega)
                    · skip
                      refine jr_aload_n (pc := 43) h dX9_lays_43 rfl ?_
                      refine jr_iload_n (pc := 44) h dX9_lays_44 rfl ?_
                      refine jr_iload (pc := 45) h dX9_lays_45 rfl ?_
                      refine jr_iload_n (pc := 47) h dX9_lays_47 rfl ?_
                      refine iv_X9_588 (pc := 48) h hl hR dX9_lays_48 ⟨(Nat.le_of_ble_eq_true rfl), (Nat.le_of_ble_eq_true rfl), (Nat.le_of_ble_eq_true rfl), (Nat.le_of_ble_eq_true rfl)⟩ (Nat.le_of_ble_eq_true rfl) (s_X9_valueOf (by omega)) (fun v_48 n_48 M_48 hn_48 hp => ?_)
                      obtain ⟨⟨rfl, rfl, rfl⟩, gr_48⟩ := hp
                      refine jr_imul (pc := 51) h dX9_lays_51 ?_
                      refine jr_isub (pc := 52) h dX9_lays_52 ?_
                      refine jr_iload_n (pc := 53) h dX9_lays_53 rfl ?_
                      refine jr_iconst (pc := 54) h dX9_lays_54 ?_
                      refine jr_isub (pc := 55) h dX9_lays_55 ?_
                      refine iv_X9_594 (pc := 56) h hl hR dX9_lays_56 ⟨(Nat.le_of_ble_eq_true rfl), (Nat.le_of_ble_eq_true rfl), (Nat.le_of_ble_eq_true rfl), (Nat.le_of_ble_eq_true rfl)⟩ (Nat.le_of_ble_eq_true rfl) (by assumption) (by omega) (s_X9_coinsFor hX (sk := B 8) hsk (x := p - k * cv i) (y := i - 1) (by omega) (by omega) (by rw [up_eq]; exact lyT_at hb (by omega) (by omega))) (fun v_56 n_56 M_56 hn_56 hp => ?_)
                      obtain ⟨⟨rfl, rfl, rfl⟩, gr_56⟩ := hp
                      have hxc := capX_c (z := mnC (B 8) i.toNat (p - k * cv i))
                      have hfn := mnC_fin hsk i.toNat (p - k * cv i)
                      have hml := mnI_le (F := mnC (B 8) i.toNat) (v := cv i) (p := p) k.toNat
                      have hms := mnI_s (F := mnC (B 8) i.toNat) (v := cv i) (p := p) (k := k) (by omega)
                      obtain ⟨x9, ex9⟩ : ∃ z, mcX (B 8) (i - 1 + 1).toNat (p - k * cv i) = z := ⟨_, rfl⟩
                      have ex8 : capX (mnC (B 8) i.toNat (p - k * cv i)) = x9 := by rw [← ex9, show (i - 1 + 1).toNat = i.toNat by omega]; rfl
                      rw [ex8] at hxc
                      rw [ex9] at gr_56 ⊢
                      refine jr_istore (pc := 59) h [_, _, _, _, _, _, _] dX9_lays_59 (by decide) rfl ?_
                      refine jr_iload (pc := 61) h dX9_lays_61 rfl ?_
                      refine jr_iconst (pc := 63) h dX9_lays_63 ?_
                      refine jr_icmp_eq (pc := 64) h 90 dX9_lays_64 (by decide) (by omega) (by omega) (fun c_64 => ?_) (fun c_64 => ?_)
                      · skip
                        refine jr_iinc (pc := 90) h [_, _, _, _, _, _, _] dX9_lays_90 (by decide) rfl rfl ?_
                        refine jr_goto (pc := 93) h 21 dX9_lays_93 (by decide) ?_
                        refine ih3 _ _ _ _ _ (by omega) hX f1 hb ?_ (by omega)
                        omega
                      · skip
                        refine jr_iload (pc := 67) h dX9_lays_67 rfl ?_
                        refine jr_iconst (pc := 69) h dX9_lays_69 ?_
                        refine jr_icmp_eq (pc := 70) h 83 dX9_lays_70 (by decide) (by omega) (by omega) (fun c_70 => ?_) (fun c_70 => ?_)
                        · skip
                          refine jr_iload (pc := 83) h dX9_lays_83 rfl ?_
                          refine jr_iload (pc := 85) h dX9_lays_85 rfl ?_
                          refine jr_iadd (pc := 87) h dX9_lays_87 ?_
                          refine jr_istore (pc := 88) h [_, _, _, _, _, _, _] dX9_lays_88 (by decide) rfl ?_
                          refine jr_iinc (pc := 90) h [_, _, _, _, _, _, _] dX9_lays_90 (by decide) rfl rfl ?_
                          refine jr_goto (pc := 93) h 21 dX9_lays_93 (by decide) ?_
                          refine ih3 _ _ _ _ _ (by omega) hX f1 hb ?_ (by omega)
                          omega
                        · skip
                          refine jr_iload (pc := 73) h dX9_lays_73 rfl ?_
                          refine jr_iload (pc := 75) h dX9_lays_75 rfl ?_
                          refine jr_iadd (pc := 77) h dX9_lays_77 ?_
                          refine jr_iload (pc := 78) h dX9_lays_78 rfl ?_
                          refine jr_icmp_ge (pc := 80) h 90 dX9_lays_80 (by decide) (by omega) (by omega) (fun c_80 => ?_) (fun c_80 => ?_)
                          · skip
                            refine jr_iinc (pc := 90) h [_, _, _, _, _, _, _] dX9_lays_90 (by decide) rfl rfl ?_
                            refine jr_goto (pc := 93) h 21 dX9_lays_93 (by decide) ?_
                            refine ih3 _ _ _ _ _ (by omega) hX f1 hb ?_ (by omega)
                            omega
                          · skip
                            refine jr_iload (pc := 83) h dX9_lays_83 rfl ?_
                            refine jr_iload (pc := 85) h dX9_lays_85 rfl ?_
                            refine jr_iadd (pc := 87) h dX9_lays_87 ?_
                            refine jr_istore (pc := 88) h [_, _, _, _, _, _, _] dX9_lays_88 (by decide) rfl ?_
                            refine jr_iinc (pc := 90) h [_, _, _, _, _, _, _] dX9_lays_90 (by decide) rfl rfl ?_
                            refine jr_goto (pc := 93) h 21 dX9_lays_93 (by decide) ?_
                            refine ih3 _ _ _ _ _ (by omega) hX f1 hb ?_ (by omega)
                            omega
              refine lp3 _ _ _ _ _ _ (by have h9 := hsk i.toNat; have h8 : (0 : Int) * cv i = 0 := Int.zero_mul _; omega) hX f1 hb ?_ (Nat.lt_succ_self _)
              exact Or.inl ⟨Int.le_refl _, rfl⟩
        exact lp2 _ _ _ _ _ _ _ (by omega) hX f1 (fun P C h1 h2 h3 => hb P C h1 h2 (by omega)) (Nat.lt_succ_self _)
  exact lp1 _ _ _ _ _ _ _ _ (by omega) (by rw [up_self]; exact hX) fr_rf (fun P C h1 h2 h3 => by omega) (Nat.lt_succ_self _)
def gvT (sk : Nat → Int) (a c : Int) (b : Nat → Int) : Prop := ∀ j : Nat, c < (j : Int) → j < 6 → b j = gbC sk a j
theorem gbRest_s {sk : Nat → Int} {a c : Int} (hc : 0 ≤ c ∧ c ≤ 5) : gbRest sk a (5 - (c - 1)).toNat = gbRest sk a (5 - c).toNat - gbM sk c.toNat (gbRest sk a (5 - c).toNat) * cv c := by
  obtain ⟨k, hk⟩ : ∃ k, (5 - c).toNat = k := ⟨_, rfl⟩
  rw [show (5 - (c - 1)).toNat = k + 1 by omega, hk, gbRest, show 5 - k = c.toNat by omega, show ((c.toNat : Nat) : Int) = c by omega]
set_option maxHeartbeats 1000000 in
set_option maxRecDepth 20000 in
theorem s_X9_gives {l : Launch} {n : Nat} {M : jdM} {m : Nat} {g : Nat → Int} {w : Int} {fl rd : Value} {B : Nat → Nat → Int} (hX : MX M n m g w fl rd B) (hsk : ∀ j : Nat, 0 ≤ B 8 j ∧ B 8 j ≤ 99) {a : Int} (ha : 0 ≤ a ∧ a ≤ 199) : Ct l yX9_gives cX9_gives 6 (some .boolean) rX9_gives [.ref m, jI a] n M (fun vv n' M' => (vv = some (jI (bz (mnC (B 8) 6 a < 1000))) ∧ n = n') ∧ ∃ b11 b10, MX M' n m g w fl rd (up (up B 11 b11) 10 b10) ∧ (mnC (B 8) 6 a < 1000 → ∀ j : Nat, j < 6 → b10 j = gbC (B 8) a j) ∧ fr (MXf m) M M') := by
  refine Ct_of [some (.ref m), some (jI a), none, none, none, none] (by decide) (Nat.le_of_ble_eq_true rfl) rfl (fun κ hl h hR hRt hmn hn0 => ?_)
  have h : Ok κ RX9 cX9_gives 6 (some .boolean) := h
  obtain ⟨hnm, hOm, hBm⟩ := id hX
  have hOm : M m = jdO 9 (fX9 m _ _ fl rd) := hOm
  refine jr_aload_n (pc := 0) h dX9_gives_0 rfl ?_
  refine jr_iload_n (pc := 1) h dX9_gives_1 rfl ?_
  refine iv_X9_597 (pc := 2) h hl hR dX9_gives_2 ⟨(Nat.le_of_ble_eq_true rfl), (Nat.le_of_ble_eq_true rfl), (Nat.le_of_ble_eq_true rfl), (Nat.le_of_ble_eq_true rfl)⟩ (Nat.le_of_ble_eq_true rfl) (by assumption) (by omega) (s_X9_lays hX hsk (a := a) (by omega)) (fun v_2 n_2 M_2 hn_2 hp => ?_)
  obtain ⟨⟨rfl, rfl⟩, b11, hX, hb, f1⟩ := hp
  obtain ⟨hnm, hOm, hBm⟩ := id hX
  refine jr_aload_n (pc := 5) h dX9_gives_5 rfl ?_
  refine jr_iload_n (pc := 6) h dX9_gives_6 rfl ?_
  refine jr_iconst (pc := 7) h dX9_gives_7 ?_
  refine iv_X9_594 (pc := 8) h hl hR dX9_gives_8 ⟨(Nat.le_of_ble_eq_true rfl), (Nat.le_of_ble_eq_true rfl), (Nat.le_of_ble_eq_true rfl), (Nat.le_of_ble_eq_true rfl)⟩ (Nat.le_of_ble_eq_true rfl) (by assumption) (by omega) (s_X9_coinsFor hX (sk := B 8) hsk (x := a) (y := 5) (by omega) (by omega) (by rw [up_eq]; exact lyT_at hb (by omega) (by omega))) (fun v_8 n_8 M_8 hn_8 hp => ?_)
  obtain ⟨⟨rfl, rfl, rfl⟩, gr_8⟩ := hp
  have hnn := (mnC_b (fun j => (hsk j).1) 6 a).1
  have hxb := capX_c (z := mnC (B 8) 6 a)
  have exb : mcX (B 8) (5 + 1 : Int).toNat a = capX (mnC (B 8) 6 a) := rfl
  rw [← exb] at hxb
  refine jr_iconst (pc := 11) h dX9_gives_11 ?_
  refine jr_icmp_ne (pc := 12) h 17 dX9_gives_12 (by decide) (by omega) (by omega) (fun c_12 => ?_) (fun c_12 => ?_)
  · skip
    refine jr_iload_n (pc := 17) h dX9_gives_17 rfl ?_
    refine jr_istore_n (pc := 18) h [_, _, _, _, _, _] dX9_gives_18 (by decide) rfl ?_
    refine jr_iconst (pc := 19) h dX9_gives_19 ?_
    refine jr_istore_n (pc := 20) h [_, _, _, _, _, _] dX9_gives_20 (by decide) rfl ?_
    have lp1 : ∀ (dq1 : Nat) (r i : Int) (u4 : Option Value) (u5 : Option Value) (M1 : jdM) (b10 : Nat → Int), (-1 ≤ i ∧ i ≤ 5) → (MX M1 n m g w fl rd (up (up B 11 b11) 10 b10)) → (fr (MXf m) M M1) → (r = gbRest (B 8) a (5 - i).toNat) → (0 ≤ r) → (r ≤ a) → (mnC (B 8) (i + 1).toNat r < 1000) → (gvT (B 8) a i b10) → (i + 1).toNat < dq1 → J κ 6 0 0 n 21 [some (.ref m), some (jI a), some (jI r), some (jI i), u4, u5] [] M1 := by
      intro dq1
      induction dq1 with
      | zero => intro r i u4 u5 M1 b10 hi hX f1 hr hr0 hra hfi hg10 hd; omega
      | succ dq1 ih1 =>
        intro r i u4 u5 M1 b10 hi hX f1 hr hr0 hra hfi hg10 hd
        obtain ⟨hnm, hOm, hBm⟩ := id hX
        have hOm : M1 m = jdO 9 (fX9 m _ _ fl rd) := hOm
        have hB10 : M1 (m + 10) = jdA 6 b10 := hBm 10 (by omega) (by omega)
        have hB8 : M1 (m + 8) = jdA 6 (B 8) := hBm 8 (by omega) (by omega)
        refine jr_iload_n (pc := 21) h dX9_gives_21 rfl ?_
        refine jr_if_lt (pc := 22) h 139 dX9_gives_22 (by decide) (by omega) (fun c_22 => ?_) (fun c_22 => ?_)
        · skip
          refine jr_iconst (pc := 139) h dX9_gives_139 ?_
          refine jr_iret (pc := 140) h hRt dX9_gives_140 rfl (Nat.le_of_ble_eq_true rfl) (Nat.le_of_ble_eq_true rfl) ?_
          rw [bz_t (by omega)]
          exact ⟨⟨rfl, rfl⟩, b11, b10, hX, fun _ j hj => hg10 j (by omega) hj, f1⟩
        · skip
          have hcv := cv_b (i := i) (by omega)
          have hii : ((i.toNat : Nat) : Int) = i := by omega
          have hq0 : 0 ≤ r / cv i := Int.ediv_nonneg (by omega) (by omega)
          have hq1 : r / cv i ≤ r := Int.ediv_le_self _ (by omega)
          have hqm : r / cv i * cv i ≤ r := Int.ediv_mul_le r (by omega)
          have hs8 := hsk i.toNat
          refine jr_aload_n (pc := 25) h dX9_gives_25 rfl ?_
          refine jr_iload_n (pc := 26) h dX9_gives_26 rfl ?_
          refine jr_iload_n (pc := 27) h dX9_gives_27 rfl ?_
          refine iv_X9_594 (pc := 28) h hl hR dX9_gives_28 ⟨(Nat.le_of_ble_eq_true rfl), (Nat.le_of_ble_eq_true rfl), (Nat.le_of_ble_eq_true rfl), (Nat.le_of_ble_eq_true rfl)⟩ (Nat.le_of_ble_eq_true rfl) (by assumption) (by omega) (s_X9_coinsFor hX (sk := B 8) hsk (x := r) (y := i) (by omega) (by omega) (by rw [up_ne (by omega : (11 : Nat) ≠ 10), up_eq]; exact lyT_at hb (by omega) (by omega))) (fun v_28 n_28 M_28 hn_28 hp => ?_)
          obtain ⟨⟨rfl, rfl, rfl⟩, gr_28⟩ := hp
          refine jr_istore (pc := 31) h [_, _, _, _, _, _] dX9_gives_31 (by decide) rfl ?_
          have hxb := capX_c (z := mnC (B 8) (i.toNat + 1) r)
          have exb : mcX (B 8) (i + 1).toNat r = capX (mnC (B 8) (i.toNat + 1) r) := by rw [show (i + 1).toNat = i.toNat + 1 by omega]; rfl
          rw [← exb] at hxb
          rw [show (i + 1).toNat = i.toNat + 1 by omega] at hfi
          have lp2 : ∀ (dq2 : Nat) (k : Int) (M1 : jdM), ((0 ≤ k ∧ k ≤ B 8 i.toNat) ∧ k * cv i ≤ r) → (MX M1 n m g w fl rd (up (up B 11 b11) 10 b10)) → (fr (MXf m) M M1) → (gbM (B 8) i.toNat r = gbR (B 8) i.toNat r k.toNat) → (mnC (B 8) (i.toNat + 1) r = mnF (mnC (B 8) i.toNat) (cv i) r k.toNat) → (k).toNat < dq2 → J κ 6 0 0 n 65 [some (.ref m), some (jI a), some (jI r), some (jI i), some (jI (mcX (B 8) (i + 1).toNat r)), some (jI k)] [] M1 := by
            intro dq2
            induction dq2 with
            | zero => intro k M1 hk hX f1 hgm hmn hd; omega
            | succ dq2 ih2 =>
              intro k M1 hk hX f1 hgm hmn hd
              obtain ⟨hnm, hOm, hBm⟩ := id hX
              have hOm : M1 m = jdO 9 (fX9 m _ _ fl rd) := hOm
              have hB10 : M1 (m + 10) = jdA 6 b10 := hBm 10 (by omega) (by omega)
              have hB8 : M1 (m + 8) = jdA 6 (B 8) := hBm 8 (by omega) (by omega)
              have hs8 := hsk i.toNat
              have hmv := mulb (a := k) (b := cv i) (A := 100) (B := 50) (by omega) ⟨by omega, hcv.2⟩
              have hk1 : (k - 1) * cv i = k * cv i - cv i := by rw [Int.sub_mul, Int.one_mul]
              have hmz : k = 0 → mnC (B 8) (i.toNat + 1) r = min 1000 (mnC (B 8) i.toNat (r - k * cv i)) := fun q => by
                rw [hmn, q, Int.zero_mul, Int.sub_zero]
                rfl
              have hmp : 0 < k → mnC (B 8) (i.toNat + 1) r = min (mnF (mnC (B 8) i.toNat) (cv i) r (k - 1).toNat) (k + mnC (B 8) i.toNat (r - k * cv i)) := fun q => by rw [hmn, mnF_s q]
              refine jr_aload_n (pc := 65) h dX9_gives_65 rfl ?_
              refine jr_iload_n (pc := 66) h dX9_gives_66 rfl ?_
              refine jr_iload (pc := 67) h dX9_gives_67 rfl ?_
              refine jr_iload_n (pc := 69) h dX9_gives_69 rfl ?_
              refine iv_X9_588 (pc := 70) h hl hR dX9_gives_70 ⟨(Nat.le_of_ble_eq_true rfl), (Nat.le_of_ble_eq_true rfl), (Nat.le_of_ble_eq_true rfl), (Nat.le_of_ble_eq_true rfl)⟩ (Nat.le_of_ble_eq_true rfl) (s_X9_valueOf (by omega)) (fun v_70 n_70 M_70 hn_70 hp => ?_)
              obtain ⟨⟨rfl, rfl, rfl⟩, gr_70⟩ := hp
              refine jr_imul (pc := 73) h dX9_gives_73 ?_
              refine jr_isub (pc := 74) h dX9_gives_74 ?_
              refine jr_iload_n (pc := 75) h dX9_gives_75 rfl ?_
              refine jr_iconst (pc := 76) h dX9_gives_76 ?_
              refine jr_isub (pc := 77) h dX9_gives_77 ?_
              refine iv_X9_594 (pc := 78) h hl hR dX9_gives_78 ⟨(Nat.le_of_ble_eq_true rfl), (Nat.le_of_ble_eq_true rfl), (Nat.le_of_ble_eq_true rfl), (Nat.le_of_ble_eq_true rfl)⟩ (Nat.le_of_ble_eq_true rfl) (by assumption) (by omega) (s_X9_coinsFor hX (sk := B 8) hsk (x := r - k * cv i) (y := i - 1) (by omega) (by omega) (by rw [up_ne (by omega : (11 : Nat) ≠ 10), up_eq]; exact lyT_at hb (by omega) (by omega))) (fun v_78 n_78 M_78 hn_78 hp => ?_)
              obtain ⟨⟨rfl, rfl, rfl⟩, gr_78⟩ := hp
              have hxc := capX_c (z := mnC (B 8) i.toNat (r - k * cv i))
              have hfn := mnC_fin hsk i.toNat (r - k * cv i)
              obtain ⟨x9, ex9⟩ : ∃ z, mcX (B 8) (i - 1 + 1).toNat (r - k * cv i) = z := ⟨_, rfl⟩
              have ex8 : capX (mnC (B 8) i.toNat (r - k * cv i)) = x9 := by rw [← ex9, show (i - 1 + 1).toNat = i.toNat by omega]; rfl
              rw [ex8] at hxc
              rw [ex9] at gr_78 ⊢
              refine jr_iconst (pc := 81) h dX9_gives_81 ?_
              refine jr_icmp_eq (pc := 82) h 109 dX9_gives_82 (by decide) (by omega) (by omega) (fun c_82 => ?_) (fun c_82 => ?_)
              · skip
                refine jr_iinc (pc := 109) h [_, _, _, _, _, _] dX9_gives_109 (by decide) rfl rfl ?_
                refine jr_goto (pc := 112) h 65 dX9_gives_112 (by decide) ?_
                have hlt : mnC (B 8) (i.toNat + 1) r < k + mnC (B 8) i.toNat (r - k * cv i) := by
                  rcases Int.lt_or_le 0 k with q | q
                  · have := hmp q; omega
                  · have := hmz (by omega); omega
                have hk0 : 0 < k := by
                  rcases Int.lt_or_le 0 k with q | q
                  · exact q
                  · have := hmz (by omega); omega
                refine ih2 _ _ (by rw [show k + -1 = k - 1 by omega]; omega) hX f1 ?_ ?_ (by omega)
                · rw [hgm, show k + -1 = k - 1 by omega, gbR_t hk0 (by rw [hii]; exact hlt)]
                · have := hmp hk0
                  rw [show k + -1 = k - 1 by omega]
                  omega
              · skip
                refine jr_aload_n (pc := 85) h dX9_gives_85 rfl ?_
                refine jr_iload_n (pc := 86) h dX9_gives_86 rfl ?_
                refine jr_iload (pc := 87) h dX9_gives_87 rfl ?_
                refine jr_iload_n (pc := 89) h dX9_gives_89 rfl ?_
                refine iv_X9_588 (pc := 90) h hl hR dX9_gives_90 ⟨(Nat.le_of_ble_eq_true rfl), (Nat.le_of_ble_eq_true rfl), (Nat.le_of_ble_eq_true rfl), (Nat.le_of_ble_eq_true rfl)⟩ (Nat.le_of_ble_eq_true rfl) (s_X9_valueOf (by omega)) (fun v_90 n_90 M_90 hn_90 hp => ?_)
                obtain ⟨⟨rfl, rfl, rfl⟩, gr_90⟩ := hp
                refine jr_imul (pc := 93) h dX9_gives_93 ?_
                refine jr_isub (pc := 94) h dX9_gives_94 ?_
                refine jr_iload_n (pc := 95) h dX9_gives_95 rfl ?_
                refine jr_iconst (pc := 96) h dX9_gives_96 ?_
                refine jr_isub (pc := 97) h dX9_gives_97 ?_
                refine iv_X9_594 (pc := 98) h hl hR dX9_gives_98 ⟨(Nat.le_of_ble_eq_true rfl), (Nat.le_of_ble_eq_true rfl), (Nat.le_of_ble_eq_true rfl), (Nat.le_of_ble_eq_true rfl)⟩ (Nat.le_of_ble_eq_true rfl) (by assumption) (by omega) (s_X9_coinsFor hX (sk := B 8) hsk (x := r - k * cv i) (y := i - 1) (by omega) (by omega) (by rw [up_ne (by omega : (11 : Nat) ≠ 10), up_eq]; exact lyT_at hb (by omega) (by omega))) (fun v_98 n_98 M_98 hn_98 hp => ?_)
                obtain ⟨⟨rfl, rfl, rfl⟩, gr_98⟩ := hp
                have hxc := capX_c (z := mnC (B 8) i.toNat (r - k * cv i))
                have hfn := mnC_fin hsk i.toNat (r - k * cv i)
                obtain ⟨x9, ex9⟩ : ∃ z, mcX (B 8) (i - 1 + 1).toNat (r - k * cv i) = z := ⟨_, rfl⟩
                have ex8 : capX (mnC (B 8) i.toNat (r - k * cv i)) = x9 := by rw [← ex9, show (i - 1 + 1).toNat = i.toNat by omega]; rfl
                rw [ex8] at hxc
                rw [ex9] at gr_98 ⊢
                refine jr_iload (pc := 101) h dX9_gives_101 rfl ?_
                refine jr_iadd (pc := 103) h dX9_gives_103 ?_
                refine jr_iload (pc := 104) h dX9_gives_104 rfl ?_
                refine jr_icmp_eq (pc := 106) h 115 dX9_gives_106 (by decide) (by omega) (by omega) (fun c_106 => ?_) (fun c_106 => ?_)
                · skip
                  refine jr_aload_n (pc := 115) h dX9_gives_115 rfl ?_
                  refine gf_X9_43 (pc := 116) h dX9_gives_116 (by assumption) (by omega) ?_
                  refine jr_iload_n (pc := 119) h dX9_gives_119 rfl ?_
                  refine jr_iload (pc := 120) h dX9_gives_120 rfl ?_
                  have hgk : gbM (B 8) i.toNat r = k := by
                    rw [hgm]
                    rcases Int.lt_or_le 0 k with q | q
                    · exact gbR_f q (by rw [hii]; omega)
                    · rw [show k = 0 by omega]; rfl
                  refine jr_iast (pc := 122) h dX9_gives_122 hB10 (by omega) (by omega) ?_
                  refine jm_gen (fun M3 hM3 => ?_)
                  have hX := MX_B (i := 10) hX hM3 (by omega)
                  rw [up_up] at hX
                  have f9 : fr (MXf m) _ M3 := fr_up (S := MXf m) hM3 ⟨by omega, by omega⟩
                  have f1 := fr_tr f1 f9
                  refine jr_iload_n (pc := 123) h dX9_gives_123 rfl ?_
                  refine jr_iload (pc := 124) h dX9_gives_124 rfl ?_
                  refine jr_iload_n (pc := 126) h dX9_gives_126 rfl ?_
                  refine iv_X9_588 (pc := 127) h hl hR dX9_gives_127 ⟨(Nat.le_of_ble_eq_true rfl), (Nat.le_of_ble_eq_true rfl), (Nat.le_of_ble_eq_true rfl), (Nat.le_of_ble_eq_true rfl)⟩ (Nat.le_of_ble_eq_true rfl) (s_X9_valueOf (by omega)) (fun v_127 n_127 M_127 hn_127 hp => ?_)
                  obtain ⟨⟨rfl, rfl, rfl⟩, gr_127⟩ := hp
                  refine jr_imul (pc := 130) h dX9_gives_130 ?_
                  refine jr_isub (pc := 131) h dX9_gives_131 ?_
                  refine jr_istore_n (pc := 132) h [_, _, _, _, _, _] dX9_gives_132 (by decide) rfl ?_
                  refine jr_iinc (pc := 133) h [_, _, _, _, _, _] dX9_gives_133 (by decide) rfl rfl ?_
                  refine jr_goto (pc := 136) h 21 dX9_gives_136 (by decide) ?_
                  refine ih1 _ _ _ _ _ _ (by omega) hX f1 ?_ ?_ (by omega) ?_ (fun j h1 h2 => ?_) (by omega)
                  · rw [show i + -1 = i - 1 by omega, gbRest_s (by omega), ← hr, hgk]
                  · omega
                  · rw [show (i + -1 + 1).toNat = i.toNat by omega]
                    omega
                  · by_cases q : j = i.toNat
                    · rw [q, up_eq]
                      unfold gbC
                      rw [show (5 - i.toNat) = (5 - i).toNat by omega, ← hr, hgk]
                    · rw [up_ne q]; exact hg10 j (by omega) h2
                · skip
                  refine jr_iinc (pc := 109) h [_, _, _, _, _, _] dX9_gives_109 (by decide) rfl rfl ?_
                  refine jr_goto (pc := 112) h 65 dX9_gives_112 (by decide) ?_
                  have hlt : mnC (B 8) (i.toNat + 1) r < k + mnC (B 8) i.toNat (r - k * cv i) := by
                    rcases Int.lt_or_le 0 k with q | q
                    · have := hmp q; omega
                    · have := hmz (by omega); omega
                  have hk0 : 0 < k := by
                    rcases Int.lt_or_le 0 k with q | q
                    · exact q
                    · have := hmz (by omega); omega
                  refine ih2 _ _ (by rw [show k + -1 = k - 1 by omega]; omega) hX f1 ?_ ?_ (by omega)
                  · rw [hgm, show k + -1 = k - 1 by omega, gbR_t hk0 (by rw [hii]; exact hlt)]
                  · have := hmp hk0
                    rw [show k + -1 = k - 1 by omega]
                    omega
          refine jr_aload_n (pc := 33) h dX9_gives_33 rfl ?_
          refine gf_X9_37 (pc := 34) h dX9_gives_34 (by assumption) (by omega) ?_
          refine jr_iload_n (pc := 37) h dX9_gives_37 rfl ?_
          refine jr_iald (pc := 38) h dX9_gives_38 (by assumption) (by omega) (by omega) ?_
          refine jr_iload_n (pc := 39) h dX9_gives_39 rfl ?_
          refine jr_iload_n (pc := 40) h dX9_gives_40 rfl ?_
          refine iv_X9_588 (pc := 41) h hl hR dX9_gives_41 ⟨(Nat.le_of_ble_eq_true rfl), (Nat.le_of_ble_eq_true rfl), (Nat.le_of_ble_eq_true rfl), (Nat.le_of_ble_eq_true rfl)⟩ (Nat.le_of_ble_eq_true rfl) (s_X9_valueOf (by omega)) (fun v_41 n_41 M_41 hn_41 hp => ?_)
          obtain ⟨⟨rfl, rfl, rfl⟩, gr_41⟩ := hp
          refine jr_idivp (pc := 44) h dX9_gives_44 (by omega) (by omega) ?_
          refine jr_icmp_ge (pc := 45) h 57 dX9_gives_45 (by decide) (by omega) (by omega) (fun c_45 => ?_) (fun c_45 => ?_)
          · skip
            refine jr_iload_n (pc := 57) h dX9_gives_57 rfl ?_
            refine jr_iload_n (pc := 58) h dX9_gives_58 rfl ?_
            refine iv_X9_588 (pc := 59) h hl hR dX9_gives_59 ⟨(Nat.le_of_ble_eq_true rfl), (Nat.le_of_ble_eq_true rfl), (Nat.le_of_ble_eq_true rfl), (Nat.le_of_ble_eq_true rfl)⟩ (Nat.le_of_ble_eq_true rfl) (s_X9_valueOf (by omega)) (fun v_59 n_59 M_59 hn_59 hp => ?_)
            obtain ⟨⟨rfl, rfl, rfl⟩, gr_59⟩ := hp
            refine jr_idivp (pc := 62) h dX9_gives_62 (by omega) (by omega) ?_
            refine jr_istore (pc := 63) h [_, _, _, _, _, _] dX9_gives_63 (by decide) rfl ?_
            first
            | (have hkm : B 8 i.toNat = min (B 8 i.toNat) (r / cv i) := by omega
               refine lp2 _ _ _ ⟨by omega, ?_⟩ hX f1 ?_ ?_ (Nat.lt_succ_self _)
               · exact Int.le_trans (Int.mul_le_mul_of_nonneg_right (show B 8 i.toNat ≤ r / cv i by omega) (show 0 ≤ cv i by omega)) hqm
               · unfold gbM; rw [hii, ← hkm]
               · rw [mnC, hii, ← hkm])
            | (have hkm : r / cv i = min (B 8 i.toNat) (r / cv i) := by omega
               refine lp2 _ _ _ ⟨by omega, hqm⟩ hX f1 ?_ ?_ (Nat.lt_succ_self _)
               · unfold gbM; rw [hii, ← hkm]
               · rw [mnC, hii, ← hkm])
          · skip
            refine jr_aload_n (pc := 48) h dX9_gives_48 rfl ?_
            refine gf_X9_37 (pc := 49) h dX9_gives_49 (by assumption) (by omega) ?_
            refine jr_iload_n (pc := 52) h dX9_gives_52 rfl ?_
            refine jr_iald (pc := 53) h dX9_gives_53 (by assumption) (by omega) (by omega) ?_
            refine jr_goto (pc := 54) h 63 dX9_gives_54 (by decide) ?_
            refine jr_istore (pc := 63) h [_, _, _, _, _, _] dX9_gives_63 (by decide) rfl ?_
            first
            | (have hkm : B 8 i.toNat = min (B 8 i.toNat) (r / cv i) := by omega
               refine lp2 _ _ _ ⟨by omega, ?_⟩ hX f1 ?_ ?_ (Nat.lt_succ_self _)
               · exact Int.le_trans (Int.mul_le_mul_of_nonneg_right (show B 8 i.toNat ≤ r / cv i by omega) (show 0 ≤ cv i by omega)) hqm
               · unfold gbM; rw [hii, ← hkm]
               · rw [mnC, hii, ← hkm])
            | (have hkm : r / cv i = min (B 8 i.toNat) (r / cv i) := by omega
               refine lp2 _ _ _ ⟨by omega, hqm⟩ hX f1 ?_ ?_ (Nat.lt_succ_self _)
               · unfold gbM; rw [hii, ← hkm]
               · rw [mnC, hii, ← hkm])
    exact lp1 _ _ _ _ _ _ _ (by omega) (by rw [show up (up B 11 b11) 10 (B 10) = up B 11 b11 from up_id (up_ne (by omega))]; exact hX) f1 rfl (by omega) (by omega) (by show mnC (B 8) 6 a < 1000; omega) (fun j h1 h2 => by omega) (Nat.lt_succ_self _)
  · skip
    refine jr_iconst (pc := 15) h dX9_gives_15 ?_
    refine jr_iret (pc := 16) h hRt dX9_gives_16 rfl (Nat.le_of_ble_eq_true rfl) (Nat.le_of_ble_eq_true rfl) ?_
    rw [bz_f (by omega)]
    exact ⟨⟨rfl, rfl⟩, b11, B 10, by rw [show up (up B 11 b11) 10 (B 10) = up B 11 b11 from up_id (up_ne (by omega))]; exact hX, fun q => by omega, f1⟩
