/-! 85: the reference: the fewest drawers -/
theorem pk_c {M M' : Nat → Int} (h : ∀ j, j < 4 → M j = M' j) {x y z w : Int} : pk M x y z w = pk M' x y z w := by
  unfold pk
  rw [h 1 (by omega), h 2 (by omega), h 3 (by omega)]
/-- the size of a kind -/
def sF (ct td : Nat → Int) : Nat → Int := fun k => if (k : Int) < ct 2 then c_get td 2 k 0 else 0
set_option maxHeartbeats 1000000 in
set_option maxRecDepth 20000 in
theorem s_X9_packed {l : Launch} {n : Nat} {M : jdM} {m : Nat} {g : Nat → Int} {w : Int} {fl rd : Value} {B : Nat → Nat → Int} (hX : MX M n m g w fl rd B) {x y z v : Int} : Ct l yX9_packed cX9_packed 5 (some .int) rX9_packed [.ref m, jI x, jI y, jI z, jI v] n M (fun vv n' M' => vv = some (jI (pk (B 7) x y z v)) ∧ n = n' ∧ M = M') := by
  refine Ct_of [some (.ref m), some (jI x), some (jI y), some (jI z), some (jI v)] (by decide) (Nat.le_of_ble_eq_true rfl) rfl (fun κ hl h hR hRt hmn hn0 => ?_)
  have h : Ok κ RX9 cX9_packed 5 (some .int) := h
  obtain ⟨hnm, hOm, hBm⟩ := id hX
  have hOm : M m = jdO 9 (fX9 m _ _ fl rd) := hOm
  have hB7 : M (m + 7) = jdA 4 (B 7) := hBm 7 (by omega) (by omega)
  refine jr_iload_n (pc := 0) h dX9_packed_0 rfl ?_
  refine jr_aload_n (pc := 1) h dX9_packed_1 rfl ?_
  refine gf_X9_34 (pc := 2) h dX9_packed_2 (by assumption) (by omega) ?_
  refine jr_iconst (pc := 5) h dX9_packed_5 ?_
  refine jr_ialdc (pc := 6) h (1 : Nat) rfl dX9_packed_6 (by assumption) (by omega) (by decide) ?_
  refine jr_iconst (pc := 7) h dX9_packed_7 ?_
  refine jr_iadd (pc := 8) h dX9_packed_8 ?_
  refine jr_imul (pc := 9) h dX9_packed_9 ?_
  refine jr_iload_n (pc := 10) h dX9_packed_10 rfl ?_
  refine jr_iadd (pc := 11) h dX9_packed_11 ?_
  refine jr_aload_n (pc := 12) h dX9_packed_12 rfl ?_
  refine gf_X9_34 (pc := 13) h dX9_packed_13 (by assumption) (by omega) ?_
  refine jr_iconst (pc := 16) h dX9_packed_16 ?_
  refine jr_ialdc (pc := 17) h (2 : Nat) rfl dX9_packed_17 (by assumption) (by omega) (by decide) ?_
  refine jr_iconst (pc := 18) h dX9_packed_18 ?_
  refine jr_iadd (pc := 19) h dX9_packed_19 ?_
  refine jr_imul (pc := 20) h dX9_packed_20 ?_
  refine jr_iload_n (pc := 21) h dX9_packed_21 rfl ?_
  refine jr_iadd (pc := 22) h dX9_packed_22 ?_
  refine jr_aload_n (pc := 23) h dX9_packed_23 rfl ?_
  refine gf_X9_34 (pc := 24) h dX9_packed_24 (by assumption) (by omega) ?_
  refine jr_iconst (pc := 27) h dX9_packed_27 ?_
  refine jr_ialdc (pc := 28) h (3 : Nat) rfl dX9_packed_28 (by assumption) (by omega) (by decide) ?_
  refine jr_iconst (pc := 29) h dX9_packed_29 ?_
  refine jr_iadd (pc := 30) h dX9_packed_30 ?_
  refine jr_imul (pc := 31) h dX9_packed_31 ?_
  refine jr_iload (pc := 32) h dX9_packed_32 rfl ?_
  refine jr_iadd (pc := 34) h dX9_packed_34 ?_
  refine jr_iret (pc := 35) h hRt dX9_packed_35 rfl (Nat.le_of_ble_eq_true rfl) (Nat.le_of_ble_eq_true rfl) ?_
  exact ⟨rfl, rfl, rfl⟩
set_option maxHeartbeats 1000000 in
set_option maxRecDepth 20000 in
theorem s_X9_shapeOf {l : Launch} {n : Nat} {M : jdM} {m f : Nat} {g : Nat → Int} {wd : Int} {rd : Value} {B : Nat → Nat → Int} (hX : MX M n m g wd (.ref f) rd B) {ct td bk si ld gf : Nat → Int} {A : Nat → Nat → Int} (hMF : MF M n f gf A) (hFM : FM ct td bk si ld gf A) (hsep : f + 30 < m ∨ m + 12 < f) {x : Int} (hx : 0 ≤ x ∧ x < 4) : Ct l yX9_shapeOf cX9_shapeOf 2 (some .int) rX9_shapeOf [.ref m, jI x] n M (fun vv n' M' => (vv = some (jI (sF ct td x.toNat)) ∧ n = n' ∧ M = M') ∧ (0) ≤ (sF ct td x.toNat) ∧ (sF ct td x.toNat) ≤ 8) := by
  refine Ct_of [some (.ref m), some (jI x)] (by decide) (Nat.le_of_ble_eq_true rfl) rfl (fun κ hl h hR hRt hmn hn0 => ?_)
  have h : Ok κ RX9 cX9_shapeOf 2 (some .int) := h
  obtain ⟨hnm, hOm, hBm⟩ := id hX
  have hOm : M m = jdO 9 (fX9 m _ _ (.ref f) rd) := hOm
  obtain ⟨hnf, hOf, hAf⟩ := id hMF
  obtain ⟨⟨e0, e1, e2, e3, e4⟩, ⟨k5, k6, k7, k8, k9, k10, k11, k12, k13, k14, k15⟩, ⟨a2, a3, a4, a5, a6, a7, a8, a9, a10, a11, a12⟩, ⟨hlim, hLI, hends, hrt⟩, ⟨hbk, hld⟩, hc0, hc1, hc2, hc5⟩ := id hFM
  have l2 := hlim 2 (by omega)
  have l3 := hlim 3 (by omega)
  have l4 := hlim 4 (by omega)
  have l5 := hlim 5 (by omega)
  have l6 := hlim 6 (by omega)
  have l7 := hlim 7 (by omega)
  have l8 := hlim 8 (by omega)
  have l9 := hlim 9 (by omega)
  have l10 := hlim 10 (by omega)
  have l11 := hlim 11 (by omega)
  have l12 := hlim 12 (by omega)
  rw [show (jtab 0).2.2 2 = 4 from rfl] at l2
  rw [show (jtab 0).2.2 3 = 6 from rfl] at l3
  rw [show (jtab 0).2.2 4 = 6 from rfl] at l4
  rw [show (jtab 0).2.2 5 = 2 from rfl] at l5
  rw [show (jtab 0).2.2 6 = 8 from rfl] at l6
  rw [show (jtab 0).2.2 7 = 5 from rfl] at l7
  rw [show (jtab 0).2.2 8 = 6 from rfl] at l8
  rw [show (jtab 0).2.2 9 = 3 from rfl] at l9
  rw [show (jtab 0).2.2 10 = 3 from rfl] at l10
  rw [show (jtab 0).2.2 11 = 4 from rfl] at l11
  rw [show (jtab 0).2.2 12 = 4 from rfl] at l12
  have hA1 : M (f + 1) = jdA 4 (A 1) := hAf 1 (by omega) (by omega)
  refine jr_iload_n (pc := 0) h dX9_shapeOf_0 rfl ?_
  refine jr_aload_n (pc := 1) h dX9_shapeOf_1 rfl ?_
  refine gf_X9_425 (pc := 2) h dX9_shapeOf_2 (by assumption) (by omega) ?_
  refine gf_X9_211 (pc := 5) h dX9_shapeOf_5 (by assumption) (by omega) ?_
  refine jr_icmp_ge (pc := 8) h 23 dX9_shapeOf_8 (by decide) (by omega) (by omega) (fun c_8 => ?_) (fun c_8 => ?_)
  · skip
    refine jr_iconst (pc := 23) h dX9_shapeOf_23 ?_
    refine jr_iret (pc := 24) h hRt dX9_shapeOf_24 rfl (Nat.le_of_ble_eq_true rfl) (Nat.le_of_ble_eq_true rfl) ?_
    first
    | (have e : sF ct td x.toNat = c_get td 2 x 0 := by
         unfold sF
         rw [if_pos (by omega), show ((x.toNat : Nat) : Int) = x by omega]
       rw [g2, e]
       exact ⟨⟨rfl, rfl, rfl⟩, by omega⟩)
    | (have e : sF ct td x.toNat = 0 := by
         unfold sF
         rw [if_neg (by omega)]
       rw [e]
       exact ⟨⟨rfl, rfl, rfl⟩, by decide⟩)
  · skip
    refine jr_aload_n (pc := 11) h dX9_shapeOf_11 rfl ?_
    refine gf_X9_425 (pc := 12) h dX9_shapeOf_12 (by assumption) (by omega) ?_
    refine gf_X9_285 (pc := 15) h dX9_shapeOf_15 (by assumption) (by omega) ?_
    refine jr_iload_n (pc := 18) h dX9_shapeOf_18 rfl ?_
    have g2 := (a2 x.toNat (by omega)).1
    rw [show ((x.toNat : Nat) : Int) = x by omega] at g2
    have h2 := (hLI 2 x (by omega) (by omega) (by omega)).2.2.1 rfl
    refine jr_iald (pc := 19) h dX9_shapeOf_19 (by assumption) (by omega) (by omega) ?_
    refine jr_goto (pc := 20) h 24 dX9_shapeOf_20 (by decide) ?_
    refine jr_iret (pc := 24) h hRt dX9_shapeOf_24 rfl (Nat.le_of_ble_eq_true rfl) (Nat.le_of_ble_eq_true rfl) ?_
    first
    | (have e : sF ct td x.toNat = c_get td 2 x 0 := by
         unfold sF
         rw [if_pos (by omega), show ((x.toNat : Nat) : Int) = x by omega]
       rw [g2, e]
       exact ⟨⟨rfl, rfl, rfl⟩, by omega⟩)
    | (have e : sF ct td x.toNat = 0 := by
         unfold sF
         rw [if_neg (by omega)]
       rw [e]
       exact ⟨⟨rfl, rfl, rfl⟩, by decide⟩)
theorem s_X9_shapeOf_0 {l : Launch} {n : Nat} {M : jdM} {m f : Nat} {g : Nat → Int} {wd : Int} {rd : Value} {B : Nat → Nat → Int} (hX : MX M n m g wd (.ref f) rd B) {ct td bk si ld gf : Nat → Int} {A : Nat → Nat → Int} (hMF : MF M n f gf A) (hFM : FM ct td bk si ld gf A) (hsep : f + 30 < m ∨ m + 12 < f) : Ct l yX9_shapeOf cX9_shapeOf 2 (some .int) rX9_shapeOf [.ref m, jI 0] n M (fun vv n' M' => (vv = some (jI (sF ct td 0)) ∧ n = n' ∧ M = M') ∧ (0) ≤ (sF ct td 0) ∧ (sF ct td 0) ≤ 8) := s_X9_shapeOf hX hMF hFM hsep (x := 0) (by omega)
theorem s_X9_shapeOf_1 {l : Launch} {n : Nat} {M : jdM} {m f : Nat} {g : Nat → Int} {wd : Int} {rd : Value} {B : Nat → Nat → Int} (hX : MX M n m g wd (.ref f) rd B) {ct td bk si ld gf : Nat → Int} {A : Nat → Nat → Int} (hMF : MF M n f gf A) (hFM : FM ct td bk si ld gf A) (hsep : f + 30 < m ∨ m + 12 < f) : Ct l yX9_shapeOf cX9_shapeOf 2 (some .int) rX9_shapeOf [.ref m, jI 1] n M (fun vv n' M' => (vv = some (jI (sF ct td 1)) ∧ n = n' ∧ M = M') ∧ (0) ≤ (sF ct td 1) ∧ (sF ct td 1) ≤ 8) := s_X9_shapeOf hX hMF hFM hsep (x := 1) (by omega)
theorem s_X9_shapeOf_2 {l : Launch} {n : Nat} {M : jdM} {m f : Nat} {g : Nat → Int} {wd : Int} {rd : Value} {B : Nat → Nat → Int} (hX : MX M n m g wd (.ref f) rd B) {ct td bk si ld gf : Nat → Int} {A : Nat → Nat → Int} (hMF : MF M n f gf A) (hFM : FM ct td bk si ld gf A) (hsep : f + 30 < m ∨ m + 12 < f) : Ct l yX9_shapeOf cX9_shapeOf 2 (some .int) rX9_shapeOf [.ref m, jI 2] n M (fun vv n' M' => (vv = some (jI (sF ct td 2)) ∧ n = n' ∧ M = M') ∧ (0) ≤ (sF ct td 2) ∧ (sF ct td 2) ≤ 8) := s_X9_shapeOf hX hMF hFM hsep (x := 2) (by omega)
theorem s_X9_shapeOf_3 {l : Launch} {n : Nat} {M : jdM} {m f : Nat} {g : Nat → Int} {wd : Int} {rd : Value} {B : Nat → Nat → Int} (hX : MX M n m g wd (.ref f) rd B) {ct td bk si ld gf : Nat → Int} {A : Nat → Nat → Int} (hMF : MF M n f gf A) (hFM : FM ct td bk si ld gf A) (hsep : f + 30 < m ∨ m + 12 < f) : Ct l yX9_shapeOf cX9_shapeOf 2 (some .int) rX9_shapeOf [.ref m, jI 3] n M (fun vv n' M' => (vv = some (jI (sF ct td 3)) ∧ n = n' ∧ M = M') ∧ (0) ≤ (sF ct td 3) ∧ (sF ct td 3) ≤ 8) := s_X9_shapeOf hX hMF hFM hsep (x := 3) (by omega)
set_option maxHeartbeats 1000000 in
set_option maxRecDepth 20000 in
theorem s_X9_lastDrawer {l : Launch} {n : Nat} {M : jdM} {m f : Nat} {g : Nat → Int} {wd : Int} {rd : Value} {B : Nat → Nat → Int} (hX : MX M n m g wd (.ref f) rd B) {ct td bk si ld gf : Nat → Int} {A : Nat → Nat → Int} (hMF : MF M n f gf A) (hFM : FM ct td bk si ld gf A) (hsep : f + 30 < m ∨ m + 12 < f) {ho a b c d : Int} (hho : 0 ≤ ho ∧ ho ≤ 63) (ha : 0 ≤ a ∧ a ≤ 24) (hb : 0 ≤ b ∧ b ≤ 24) (hc : 0 ≤ c ∧ c ≤ 24) (hd9 : 0 ≤ d ∧ d ≤ 24) (hab : 1 ≤ a + b + c + d ∧ a + b + c + d ≤ 24) (hfit : ∀ k, k < 4 → 1 ≤ (wnF a b c d) k → sF ct td k ≤ ho) (hs3 : d = 0 ∨ 1 ≤ sF ct td 3) (htab : ∀ x y z w : Int, 0 ≤ x ∧ x ≤ a → 0 ≤ y ∧ y ≤ b → 0 ≤ z ∧ z ≤ c → 0 ≤ w ∧ w ≤ d → x + y + z + w < a + b + c + d → (0 ≤ pk (B 7) x y z w ∧ pk (B 7) x y z w < 2401) ∧ isMin (sF ct td) ho (B 6 (pk (B 7) x y z w).toNat) (wnF x y z w) ∧ B 6 (pk (B 7) x y z w).toNat ≤ 24) : Ct l yX9_lastDrawer cX9_lastDrawer 13 (some .int) rX9_lastDrawer [.ref m, jI ho, jI a, jI b, jI c, jI d] n M (fun vv n' M' => ∃ r : Int, (vv = some (jI r) ∧ n = n' ∧ M = M') ∧ isMin (sF ct td) ho r (wnF a b c d) ∧ r ≤ 24) := by
  refine Ct_of [some (.ref m), some (jI ho), some (jI a), some (jI b), some (jI c), some (jI d), none, none, none, none, none, none, none] (by decide) (Nat.le_of_ble_eq_true rfl) rfl (fun κ hl h hR hRt hmn hn0 => ?_)
  have h : Ok κ RX9 cX9_lastDrawer 13 (some .int) := h
  obtain ⟨hnm, hOm, hBm⟩ := id hX
  have hOm : M m = jdO 9 (fX9 m _ _ (.ref f) rd) := hOm
  obtain ⟨hnf, hOf, hAf⟩ := id hMF
  obtain ⟨⟨e0, e1, e2, e3, e4⟩, ⟨k5, k6, k7, k8, k9, k10, k11, k12, k13, k14, k15⟩, ⟨a2, a3, a4, a5, a6, a7, a8, a9, a10, a11, a12⟩, ⟨hlim, hLI, hends, hrt⟩, ⟨hbk, hld⟩, hc0, hc1, hc2, hc5⟩ := id hFM
  have l2 := hlim 2 (by omega)
  have l3 := hlim 3 (by omega)
  have l4 := hlim 4 (by omega)
  have l5 := hlim 5 (by omega)
  have l6 := hlim 6 (by omega)
  have l7 := hlim 7 (by omega)
  have l8 := hlim 8 (by omega)
  have l9 := hlim 9 (by omega)
  have l10 := hlim 10 (by omega)
  have l11 := hlim 11 (by omega)
  have l12 := hlim 12 (by omega)
  rw [show (jtab 0).2.2 2 = 4 from rfl] at l2
  rw [show (jtab 0).2.2 3 = 6 from rfl] at l3
  rw [show (jtab 0).2.2 4 = 6 from rfl] at l4
  rw [show (jtab 0).2.2 5 = 2 from rfl] at l5
  rw [show (jtab 0).2.2 6 = 8 from rfl] at l6
  rw [show (jtab 0).2.2 7 = 5 from rfl] at l7
  rw [show (jtab 0).2.2 8 = 6 from rfl] at l8
  rw [show (jtab 0).2.2 9 = 3 from rfl] at l9
  rw [show (jtab 0).2.2 10 = 3 from rfl] at l10
  rw [show (jtab 0).2.2 11 = 4 from rfl] at l11
  rw [show (jtab 0).2.2 12 = 4 from rfl] at l12
  have hB6 : M (m + 6) = jdA 2401 (B 6) := hBm 6 (by omega) (by omega)
  have hsF : ∀ k, k < 4 → 0 ≤ sF ct td k ∧ sF ct td k ≤ 8 := fun k hk => by
    unfold sF
    split
    · have := (hLI 2 k (by omega) (by omega) (by omega)).2.2.1 rfl
      omega
    · omega
  have hs0 : ∀ k, k < 4 → 0 ≤ sF ct td k := fun k hk => (hsF k hk).1
  have hs0r := hsF 0 (by omega)
  have hs1r := hsF 1 (by omega)
  have hs2r := hsF 2 (by omega)
  have hs3r := hsF 3 (by omega)
  refine jr_iconst (pc := 0) h dX9_lastDrawer_0 ?_
  refine jr_istore (pc := 1) h [_, _, _, _, _, _, _, _, _, _, _, _, _] dX9_lastDrawer_1 (by decide) rfl ?_
  refine jr_iconst (pc := 3) h dX9_lastDrawer_3 ?_
  refine jr_istore (pc := 4) h [_, _, _, _, _, _, _, _, _, _, _, _, _] dX9_lastDrawer_4 (by decide) rfl ?_
  have lp1 : ∀ (dq1 : Nat) (best i : Int) (u8 : Option Value) (u9 : Option Value) (u10 : Option Value) (u11 : Option Value) (u12 : Option Value), (0 ≤ i ∧ i ≤ a + 1) → (-1 ≤ best ∧ best ≤ 25) → (ldW (sF ct td) ho (wnF a b c d) best i 0 0) → (ldB (sF ct td) ho (wnF a b c d) best) → (100 - i).toNat < dq1 → J κ 13 0 0 n 6 [some (.ref m), some (jI ho), some (jI a), some (jI b), some (jI c), some (jI d), some (jI best), some (jI i), u8, u9, u10, u11, u12] [] M := by
    intro dq1
    induction dq1 with
    | zero => intro best i u8 u9 u10 u11 u12 hi hbb hW hB hd; omega
    | succ dq1 ih1 =>
      intro best i u8 u9 u10 u11 u12 hi hbb hW hB hd
      refine jr_iload (pc := 6) h dX9_lastDrawer_6 rfl ?_
      refine jr_iload_n (pc := 8) h dX9_lastDrawer_8 rfl ?_
      refine jr_icmp_gt (pc := 9) h 249 dX9_lastDrawer_9 (by decide) (by omega) (by omega) (fun c_9 => ?_) (fun c_9 => ?_)
      · skip
        refine jr_iload (pc := 249) h dX9_lastDrawer_249 rfl ?_
        refine jr_iret (pc := 251) h hRt dX9_lastDrawer_251 rfl (Nat.le_of_ble_eq_true rfl) (Nat.le_of_ble_eq_true rfl) ?_
        have hmn := ld_min (v := wnF a b c d) (i := i) hs0 (lt4 ha.1 hb.1 hc.1 hd9.1) (by
          refine Classical.byContradiction (fun hh => ?_)
          have hz : ∀ t, t < 4 → wnF a b c d t = 0 := fun t ht => Classical.byContradiction (fun h => hh ⟨t, ht, h⟩)
          have z0 : a = 0 := hz 0 (by omega)
          have z1 : b = 0 := hz 1 (by omega)
          have z2 : c = 0 := hz 2 (by omega)
          have z3 : d = 0 := hz 3 (by omega)
          omega) hfit (by show a < i ∨ ho < i * sF ct td 0; omega) hW hB
        have hmb : best ≤ a + b + c + d := isMin_b hmn (lt4 ha.1 hb.1 hc.1 hd9.1) hfit
        exact ⟨best, ⟨rfl, rfl, rfl⟩, hmn, by omega⟩
      · skip
        have hm0 := mulb (a := i) (b := sF ct td 0) (A := 25) (B := 8) (by omega) hs0r
        refine jr_iload (pc := 12) h dX9_lastDrawer_12 rfl ?_
        refine jr_aload_n (pc := 14) h dX9_lastDrawer_14 rfl ?_
        refine jr_iconst (pc := 15) h dX9_lastDrawer_15 ?_
        refine iv_X9_575 (pc := 16) h hl hR dX9_lastDrawer_16 ⟨(Nat.le_of_ble_eq_true rfl), (Nat.le_of_ble_eq_true rfl), (Nat.le_of_ble_eq_true rfl), (Nat.le_of_ble_eq_true rfl)⟩ (Nat.le_of_ble_eq_true rfl) (by assumption) (by omega) (s_X9_shapeOf_0 hX hMF hFM hsep) (fun v_16 n_16 M_16 hn_16 hp => ?_)
        obtain ⟨⟨rfl, rfl, rfl⟩, -⟩ := hp
        refine jr_imul (pc := 19) h dX9_lastDrawer_19 ?_
        refine jr_iload_n (pc := 20) h dX9_lastDrawer_20 rfl ?_
        refine jr_icmp_gt (pc := 21) h 249 dX9_lastDrawer_21 (by decide) (by omega) (by omega) (fun c_21 => ?_) (fun c_21 => ?_)
        · skip
          refine jr_iload (pc := 249) h dX9_lastDrawer_249 rfl ?_
          refine jr_iret (pc := 251) h hRt dX9_lastDrawer_251 rfl (Nat.le_of_ble_eq_true rfl) (Nat.le_of_ble_eq_true rfl) ?_
          have hmn := ld_min (v := wnF a b c d) (i := i) hs0 (lt4 ha.1 hb.1 hc.1 hd9.1) (by
            refine Classical.byContradiction (fun hh => ?_)
            have hz : ∀ t, t < 4 → wnF a b c d t = 0 := fun t ht => Classical.byContradiction (fun h => hh ⟨t, ht, h⟩)
            have z0 : a = 0 := hz 0 (by omega)
            have z1 : b = 0 := hz 1 (by omega)
            have z2 : c = 0 := hz 2 (by omega)
            have z3 : d = 0 := hz 3 (by omega)
            omega) hfit (by show a < i ∨ ho < i * sF ct td 0; omega) hW hB
          have hmb : best ≤ a + b + c + d := isMin_b hmn (lt4 ha.1 hb.1 hc.1 hd9.1) hfit
          exact ⟨best, ⟨rfl, rfl, rfl⟩, hmn, by omega⟩
        · skip
          refine jr_iconst (pc := 24) h dX9_lastDrawer_24 ?_
          refine jr_istore (pc := 25) h [_, _, _, _, _, _, _, _, _, _, _, _, _] dX9_lastDrawer_25 (by decide) rfl ?_
          have lp2 : ∀ (dq2 : Nat) (best j : Int) (u9 : Option Value) (u10 : Option Value) (u11 : Option Value) (u12 : Option Value), (0 ≤ j ∧ j ≤ b + 1) → (-1 ≤ best ∧ best ≤ 25) → (ldW (sF ct td) ho (wnF a b c d) best i j 0) → (ldB (sF ct td) ho (wnF a b c d) best) → (100 - j).toNat < dq2 → J κ 13 0 0 n 27 [some (.ref m), some (jI ho), some (jI a), some (jI b), some (jI c), some (jI d), some (jI best), some (jI i), some (jI j), u9, u10, u11, u12] [] M := by
            intro dq2
            induction dq2 with
            | zero => intro best j u9 u10 u11 u12 hj hbb hW hB hd; omega
            | succ dq2 ih2 =>
              intro best j u9 u10 u11 u12 hj hbb hW hB hd
              refine jr_iload (pc := 27) h dX9_lastDrawer_27 rfl ?_
              refine jr_iload_n (pc := 29) h dX9_lastDrawer_29 rfl ?_
              refine jr_icmp_gt (pc := 30) h 243 dX9_lastDrawer_30 (by decide) (by omega) (by omega) (fun c_30 => ?_) (fun c_30 => ?_)
              · skip
                refine jr_iinc (pc := 243) h [_, _, _, _, _, _, _, _, _, _, _, _, _] dX9_lastDrawer_243 (by decide) rfl rfl ?_
                refine jr_goto (pc := 246) h 6 dX9_lastDrawer_246 (by decide) ?_
                refine ih1 _ _ _ _ _ _ _ (by omega) (by omega) (ldW_j hs0 (by show b < j ∨ ho < i * sF ct td 0 + j * sF ct td 1; omega) hW) hB (by omega)
              · skip
                refine jr_iload (pc := 33) h dX9_lastDrawer_33 rfl ?_
                refine jr_aload_n (pc := 35) h dX9_lastDrawer_35 rfl ?_
                refine jr_iconst (pc := 36) h dX9_lastDrawer_36 ?_
                refine iv_X9_575 (pc := 37) h hl hR dX9_lastDrawer_37 ⟨(Nat.le_of_ble_eq_true rfl), (Nat.le_of_ble_eq_true rfl), (Nat.le_of_ble_eq_true rfl), (Nat.le_of_ble_eq_true rfl)⟩ (Nat.le_of_ble_eq_true rfl) (by assumption) (by omega) (s_X9_shapeOf_0 hX hMF hFM hsep) (fun v_37 n_37 M_37 hn_37 hp => ?_)
                obtain ⟨⟨rfl, rfl, rfl⟩, -⟩ := hp
                refine jr_imul (pc := 40) h dX9_lastDrawer_40 ?_
                have hm1 := mulb (a := j) (b := sF ct td 1) (A := 25) (B := 8) (by omega) hs1r
                refine jr_iload (pc := 41) h dX9_lastDrawer_41 rfl ?_
                refine jr_aload_n (pc := 43) h dX9_lastDrawer_43 rfl ?_
                refine jr_iconst (pc := 44) h dX9_lastDrawer_44 ?_
                refine iv_X9_575 (pc := 45) h hl hR dX9_lastDrawer_45 ⟨(Nat.le_of_ble_eq_true rfl), (Nat.le_of_ble_eq_true rfl), (Nat.le_of_ble_eq_true rfl), (Nat.le_of_ble_eq_true rfl)⟩ (Nat.le_of_ble_eq_true rfl) (by assumption) (by omega) (s_X9_shapeOf_1 hX hMF hFM hsep) (fun v_45 n_45 M_45 hn_45 hp => ?_)
                obtain ⟨⟨rfl, rfl, rfl⟩, -⟩ := hp
                refine jr_imul (pc := 48) h dX9_lastDrawer_48 ?_
                refine jr_iadd (pc := 49) h dX9_lastDrawer_49 ?_
                refine jr_iload_n (pc := 50) h dX9_lastDrawer_50 rfl ?_
                refine jr_icmp_gt (pc := 51) h 243 dX9_lastDrawer_51 (by decide) (by omega) (by omega) (fun c_51 => ?_) (fun c_51 => ?_)
                · skip
                  refine jr_iinc (pc := 243) h [_, _, _, _, _, _, _, _, _, _, _, _, _] dX9_lastDrawer_243 (by decide) rfl rfl ?_
                  refine jr_goto (pc := 246) h 6 dX9_lastDrawer_246 (by decide) ?_
                  refine ih1 _ _ _ _ _ _ _ (by omega) (by omega) (ldW_j hs0 (by show b < j ∨ ho < i * sF ct td 0 + j * sF ct td 1; omega) hW) hB (by omega)
                · skip
                  refine jr_iconst (pc := 54) h dX9_lastDrawer_54 ?_
                  refine jr_istore (pc := 55) h [_, _, _, _, _, _, _, _, _, _, _, _, _] dX9_lastDrawer_55 (by decide) rfl ?_
                  have lp3 : ∀ (dq3 : Nat) (best k : Int) (u10 : Option Value) (u11 : Option Value) (u12 : Option Value), (0 ≤ k ∧ k ≤ c + 1) → (-1 ≤ best ∧ best ≤ 25) → (ldW (sF ct td) ho (wnF a b c d) best i j k) → (ldB (sF ct td) ho (wnF a b c d) best) → (100 - k).toNat < dq3 → J κ 13 0 0 n 57 [some (.ref m), some (jI ho), some (jI a), some (jI b), some (jI c), some (jI d), some (jI best), some (jI i), some (jI j), some (jI k), u10, u11, u12] [] M := by
                    intro dq3
                    induction dq3 with
                    | zero => intro best k u10 u11 u12 hk hbb hW hB hd; omega
                    | succ dq3 ih3 =>
                      intro best k u10 u11 u12 hk hbb hW hB hd
                      refine jr_iload (pc := 57) h dX9_lastDrawer_57 rfl ?_
                      refine jr_iload (pc := 59) h dX9_lastDrawer_59 rfl ?_
                      refine jr_icmp_gt (pc := 61) h 237 dX9_lastDrawer_61 (by decide) (by omega) (by omega) (fun c_61 => ?_) (fun c_61 => ?_)
                      · skip
                        refine jr_iinc (pc := 237) h [_, _, _, _, _, _, _, _, _, _, _, _, _] dX9_lastDrawer_237 (by decide) rfl rfl ?_
                        refine jr_goto (pc := 240) h 27 dX9_lastDrawer_240 (by decide) ?_
                        refine ih2 _ _ _ _ _ _ (by omega) (by omega) (ldW_k hs0 (by show c < k ∨ ho < i * sF ct td 0 + j * sF ct td 1 + k * sF ct td 2; omega) hW) hB (by omega)
                      · skip
                        refine jr_iload (pc := 64) h dX9_lastDrawer_64 rfl ?_
                        refine jr_aload_n (pc := 66) h dX9_lastDrawer_66 rfl ?_
                        refine jr_iconst (pc := 67) h dX9_lastDrawer_67 ?_
                        refine iv_X9_575 (pc := 68) h hl hR dX9_lastDrawer_68 ⟨(Nat.le_of_ble_eq_true rfl), (Nat.le_of_ble_eq_true rfl), (Nat.le_of_ble_eq_true rfl), (Nat.le_of_ble_eq_true rfl)⟩ (Nat.le_of_ble_eq_true rfl) (by assumption) (by omega) (s_X9_shapeOf_0 hX hMF hFM hsep) (fun v_68 n_68 M_68 hn_68 hp => ?_)
                        obtain ⟨⟨rfl, rfl, rfl⟩, -⟩ := hp
                        skip
                        refine jr_imul (pc := 71) h dX9_lastDrawer_71 ?_
                        have hm2 := mulb (a := k) (b := sF ct td 2) (A := 25) (B := 8) (by omega) hs2r
                        refine jr_iload (pc := 72) h dX9_lastDrawer_72 rfl ?_
                        refine jr_aload_n (pc := 74) h dX9_lastDrawer_74 rfl ?_
                        refine jr_iconst (pc := 75) h dX9_lastDrawer_75 ?_
                        refine iv_X9_575 (pc := 76) h hl hR dX9_lastDrawer_76 ⟨(Nat.le_of_ble_eq_true rfl), (Nat.le_of_ble_eq_true rfl), (Nat.le_of_ble_eq_true rfl), (Nat.le_of_ble_eq_true rfl)⟩ (Nat.le_of_ble_eq_true rfl) (by assumption) (by omega) (s_X9_shapeOf_1 hX hMF hFM hsep) (fun v_76 n_76 M_76 hn_76 hp => ?_)
                        obtain ⟨⟨rfl, rfl, rfl⟩, -⟩ := hp
                        refine jr_imul (pc := 79) h dX9_lastDrawer_79 ?_
                        refine jr_iadd (pc := 80) h dX9_lastDrawer_80 ?_
                        refine jr_iload (pc := 81) h dX9_lastDrawer_81 rfl ?_
                        refine jr_aload_n (pc := 83) h dX9_lastDrawer_83 rfl ?_
                        refine jr_iconst (pc := 84) h dX9_lastDrawer_84 ?_
                        refine iv_X9_575 (pc := 85) h hl hR dX9_lastDrawer_85 ⟨(Nat.le_of_ble_eq_true rfl), (Nat.le_of_ble_eq_true rfl), (Nat.le_of_ble_eq_true rfl), (Nat.le_of_ble_eq_true rfl)⟩ (Nat.le_of_ble_eq_true rfl) (by assumption) (by omega) (s_X9_shapeOf_2 hX hMF hFM hsep) (fun v_85 n_85 M_85 hn_85 hp => ?_)
                        obtain ⟨⟨rfl, rfl, rfl⟩, -⟩ := hp
                        refine jr_imul (pc := 88) h dX9_lastDrawer_88 ?_
                        refine jr_iadd (pc := 89) h dX9_lastDrawer_89 ?_
                        refine jr_iload_n (pc := 90) h dX9_lastDrawer_90 rfl ?_
                        refine jr_icmp_gt (pc := 91) h 237 dX9_lastDrawer_91 (by decide) (by omega) (by omega) (fun c_91 => ?_) (fun c_91 => ?_)
                        · skip
                          refine jr_iinc (pc := 237) h [_, _, _, _, _, _, _, _, _, _, _, _, _] dX9_lastDrawer_237 (by decide) rfl rfl ?_
                          refine jr_goto (pc := 240) h 27 dX9_lastDrawer_240 (by decide) ?_
                          refine ih2 _ _ _ _ _ _ (by omega) (by omega) (ldW_k hs0 (by show c < k ∨ ho < i * sF ct td 0 + j * sF ct td 1 + k * sF ct td 2; omega) hW) hB (by omega)
                        · skip
                          refine jr_iload_n (pc := 94) h dX9_lastDrawer_94 rfl ?_
                          refine jr_iload (pc := 95) h dX9_lastDrawer_95 rfl ?_
                          refine jr_aload_n (pc := 97) h dX9_lastDrawer_97 rfl ?_
                          refine jr_iconst (pc := 98) h dX9_lastDrawer_98 ?_
                          refine iv_X9_575 (pc := 99) h hl hR dX9_lastDrawer_99 ⟨(Nat.le_of_ble_eq_true rfl), (Nat.le_of_ble_eq_true rfl), (Nat.le_of_ble_eq_true rfl), (Nat.le_of_ble_eq_true rfl)⟩ (Nat.le_of_ble_eq_true rfl) (by assumption) (by omega) (s_X9_shapeOf_0 hX hMF hFM hsep) (fun v_99 n_99 M_99 hn_99 hp => ?_)
                          obtain ⟨⟨rfl, rfl, rfl⟩, -⟩ := hp
                          refine jr_imul (pc := 102) h dX9_lastDrawer_102 ?_
                          refine jr_isub (pc := 103) h dX9_lastDrawer_103 ?_
                          refine jr_iload (pc := 104) h dX9_lastDrawer_104 rfl ?_
                          refine jr_aload_n (pc := 106) h dX9_lastDrawer_106 rfl ?_
                          refine jr_iconst (pc := 107) h dX9_lastDrawer_107 ?_
                          refine iv_X9_575 (pc := 108) h hl hR dX9_lastDrawer_108 ⟨(Nat.le_of_ble_eq_true rfl), (Nat.le_of_ble_eq_true rfl), (Nat.le_of_ble_eq_true rfl), (Nat.le_of_ble_eq_true rfl)⟩ (Nat.le_of_ble_eq_true rfl) (by assumption) (by omega) (s_X9_shapeOf_1 hX hMF hFM hsep) (fun v_108 n_108 M_108 hn_108 hp => ?_)
                          obtain ⟨⟨rfl, rfl, rfl⟩, -⟩ := hp
                          refine jr_imul (pc := 111) h dX9_lastDrawer_111 ?_
                          refine jr_isub (pc := 112) h dX9_lastDrawer_112 ?_
                          refine jr_iload (pc := 113) h dX9_lastDrawer_113 rfl ?_
                          refine jr_aload_n (pc := 115) h dX9_lastDrawer_115 rfl ?_
                          refine jr_iconst (pc := 116) h dX9_lastDrawer_116 ?_
                          refine iv_X9_575 (pc := 117) h hl hR dX9_lastDrawer_117 ⟨(Nat.le_of_ble_eq_true rfl), (Nat.le_of_ble_eq_true rfl), (Nat.le_of_ble_eq_true rfl), (Nat.le_of_ble_eq_true rfl)⟩ (Nat.le_of_ble_eq_true rfl) (by assumption) (by omega) (s_X9_shapeOf_2 hX hMF hFM hsep) (fun v_117 n_117 M_117 hn_117 hp => ?_)
                          obtain ⟨⟨rfl, rfl, rfl⟩, -⟩ := hp
                          refine jr_imul (pc := 120) h dX9_lastDrawer_120 ?_
                          refine jr_isub (pc := 121) h dX9_lastDrawer_121 ?_
                          refine jr_istore (pc := 122) h [_, _, _, _, _, _, _, _, _, _, _, _, _] dX9_lastDrawer_122 (by decide) rfl ?_
                          have K159 : ∀ l : Int, 0 ≤ l ∧ l ≤ d → (∀ x, 0 ≤ x → x ≤ d → i * sF ct td 0 + j * sF ct td 1 + k * sF ct td 2 + x * sF ct td 3 ≤ ho → x ≤ l) → i * sF ct td 0 + j * sF ct td 1 + k * sF ct td 2 + l * sF ct td 3 ≤ ho → J κ 13 0 0 n 159 [some (.ref m), some (jI ho), some (jI a), some (jI b), some (jI c), some (jI d), some (jI best), some (jI i), some (jI j), some (jI k), some (jI (ho - i * sF ct td 0 - j * sF ct td 1 - k * sF ct td 2)), u11, u12] [jI l] M := by
                            intro l hlx hmx hz9
                            refine jr_istore (pc := 159) h [_, _, _, _, _, _, _, _, _, _, _, _, _] dX9_lastDrawer_159 (by decide) rfl ?_
                            refine jr_iload (pc := 161) h dX9_lastDrawer_161 rfl ?_
                            refine jr_iload (pc := 163) h dX9_lastDrawer_163 rfl ?_
                            refine jr_iadd (pc := 165) h dX9_lastDrawer_165 ?_
                            refine jr_iload (pc := 166) h dX9_lastDrawer_166 rfl ?_
                            refine jr_iadd (pc := 168) h dX9_lastDrawer_168 ?_
                            refine jr_iload (pc := 169) h dX9_lastDrawer_169 rfl ?_
                            refine jr_iadd (pc := 171) h dX9_lastDrawer_171 ?_
                            refine jr_if_ne (pc := 172) h 178 dX9_lastDrawer_172 (by decide) (by omega) (fun c_172 => ?_) (fun c_172 => ?_)
                            · skip
                              refine jr_iconst (pc := 178) h dX9_lastDrawer_178 ?_
                              refine jr_aload_n (pc := 179) h dX9_lastDrawer_179 rfl ?_
                              refine gf_X9_31 (pc := 180) h dX9_lastDrawer_180 (by assumption) (by omega) ?_
                              refine jr_aload_n (pc := 183) h dX9_lastDrawer_183 rfl ?_
                              refine jr_iload_n (pc := 184) h dX9_lastDrawer_184 rfl ?_
                              refine jr_iload (pc := 185) h dX9_lastDrawer_185 rfl ?_
                              refine jr_isub (pc := 187) h dX9_lastDrawer_187 ?_
                              refine jr_iload_n (pc := 188) h dX9_lastDrawer_188 rfl ?_
                              refine jr_iload (pc := 189) h dX9_lastDrawer_189 rfl ?_
                              refine jr_isub (pc := 191) h dX9_lastDrawer_191 ?_
                              refine jr_iload (pc := 192) h dX9_lastDrawer_192 rfl ?_
                              refine jr_iload (pc := 194) h dX9_lastDrawer_194 rfl ?_
                              refine jr_isub (pc := 196) h dX9_lastDrawer_196 ?_
                              refine jr_iload (pc := 197) h dX9_lastDrawer_197 rfl ?_
                              refine jr_iload (pc := 199) h dX9_lastDrawer_199 rfl ?_
                              refine jr_isub (pc := 201) h dX9_lastDrawer_201 ?_
                              refine iv_X9_578 (pc := 202) h hl hR dX9_lastDrawer_202 ⟨(Nat.le_of_ble_eq_true rfl), (Nat.le_of_ble_eq_true rfl), (Nat.le_of_ble_eq_true rfl), (Nat.le_of_ble_eq_true rfl)⟩ (Nat.le_of_ble_eq_true rfl) (by assumption) (by omega) (s_X9_packed hX) (fun v_202 n_202 M_202 hn_202 hp => ?_)
                              obtain ⟨rfl, rfl, rfl⟩ := hp
                              have hT9 := htab (a - i) (b - j) (c - k) (d - l) (by omega) (by omega) (by omega) (by omega) (by omega)
                              obtain ⟨hT1, hT2, hT3⟩ := hT9
                              obtain ⟨P, eP⟩ : ∃ z, B 6 (pk (B 7) (a - i) (b - j) (c - k) (d - l)).toNat = z := ⟨_, rfl⟩
                              have hP0 := hT2.1
                              rw [eP] at hT2 hT3 hP0
                              refine jr_iald (pc := 205) h dX9_lastDrawer_205 (by assumption) (by omega) (by omega) ?_
                              rw [eP]
                              refine jr_iadd (pc := 206) h dX9_lastDrawer_206 ?_
                              refine jr_istore (pc := 207) h [_, _, _, _, _, _, _, _, _, _, _, _, _] dX9_lastDrawer_207 (by decide) rfl ?_
                              refine jr_iload (pc := 209) h dX9_lastDrawer_209 rfl ?_
                              refine jr_iconst (pc := 211) h dX9_lastDrawer_211 ?_
                              refine jr_icmp_eq (pc := 212) h 222 dX9_lastDrawer_212 (by decide) (by omega) (by omega) (fun c_212 => ?_) (fun c_212 => ?_)
                              · skip
                                refine jr_iload (pc := 222) h dX9_lastDrawer_222 rfl ?_
                                refine jr_goto (pc := 224) h 229 dX9_lastDrawer_224 (by decide) ?_
                                refine jr_istore (pc := 229) h [_, _, _, _, _, _, _, _, _, _, _, _, _] dX9_lastDrawer_229 (by decide) rfl ?_
                                refine jr_iinc (pc := 231) h [_, _, _, _, _, _, _, _, _, _, _, _, _] dX9_lastDrawer_231 (by decide) rfl rfl ?_
                                refine jr_goto (pc := 234) h 57 dX9_lastDrawer_234 (by decide) ?_
                                first
                                | (exact ih3 _ _ _ _ _ (by omega) (by omega) (ldW_c hs0 ⟨by omega, hlx.2⟩ hmx (by omega) (by omega) hW) hB (by omega))
                                | (obtain ⟨hW', hB'⟩ := ldW_r (best' := 1 + P) hs0 hlx (by omega) hmx hz9 hT2 hW hB (by omega)
                                   exact ih3 _ _ _ _ _ (by omega) (by omega) hW' hB' (by omega))
                                | (obtain ⟨hW', hB'⟩ := ldW_r (best' := best) hs0 hlx (by omega) hmx hz9 hT2 hW hB (by omega)
                                   exact ih3 _ _ _ _ _ (by omega) (by omega) hW' hB' (by omega))
                              · skip
                                refine jr_iload (pc := 215) h dX9_lastDrawer_215 rfl ?_
                                refine jr_iload (pc := 217) h dX9_lastDrawer_217 rfl ?_
                                refine jr_icmp_ge (pc := 219) h 227 dX9_lastDrawer_219 (by decide) (by omega) (by omega) (fun c_219 => ?_) (fun c_219 => ?_)
                                · skip
                                  refine jr_iload (pc := 227) h dX9_lastDrawer_227 rfl ?_
                                  refine jr_istore (pc := 229) h [_, _, _, _, _, _, _, _, _, _, _, _, _] dX9_lastDrawer_229 (by decide) rfl ?_
                                  refine jr_iinc (pc := 231) h [_, _, _, _, _, _, _, _, _, _, _, _, _] dX9_lastDrawer_231 (by decide) rfl rfl ?_
                                  refine jr_goto (pc := 234) h 57 dX9_lastDrawer_234 (by decide) ?_
                                  first
                                  | (exact ih3 _ _ _ _ _ (by omega) (by omega) (ldW_c hs0 ⟨by omega, hlx.2⟩ hmx (by omega) (by omega) hW) hB (by omega))
                                  | (obtain ⟨hW', hB'⟩ := ldW_r (best' := 1 + P) hs0 hlx (by omega) hmx hz9 hT2 hW hB (by omega)
                                     exact ih3 _ _ _ _ _ (by omega) (by omega) hW' hB' (by omega))
                                  | (obtain ⟨hW', hB'⟩ := ldW_r (best' := best) hs0 hlx (by omega) hmx hz9 hT2 hW hB (by omega)
                                     exact ih3 _ _ _ _ _ (by omega) (by omega) hW' hB' (by omega))
                                · skip
                                  refine jr_iload (pc := 222) h dX9_lastDrawer_222 rfl ?_
                                  refine jr_goto (pc := 224) h 229 dX9_lastDrawer_224 (by decide) ?_
                                  refine jr_istore (pc := 229) h [_, _, _, _, _, _, _, _, _, _, _, _, _] dX9_lastDrawer_229 (by decide) rfl ?_
                                  refine jr_iinc (pc := 231) h [_, _, _, _, _, _, _, _, _, _, _, _, _] dX9_lastDrawer_231 (by decide) rfl rfl ?_
                                  refine jr_goto (pc := 234) h 57 dX9_lastDrawer_234 (by decide) ?_
                                  first
                                  | (exact ih3 _ _ _ _ _ (by omega) (by omega) (ldW_c hs0 ⟨by omega, hlx.2⟩ hmx (by omega) (by omega) hW) hB (by omega))
                                  | (obtain ⟨hW', hB'⟩ := ldW_r (best' := 1 + P) hs0 hlx (by omega) hmx hz9 hT2 hW hB (by omega)
                                     exact ih3 _ _ _ _ _ (by omega) (by omega) hW' hB' (by omega))
                                  | (obtain ⟨hW', hB'⟩ := ldW_r (best' := best) hs0 hlx (by omega) hmx hz9 hT2 hW hB (by omega)
                                     exact ih3 _ _ _ _ _ (by omega) (by omega) hW' hB' (by omega))
                            · skip
                              refine jr_goto (pc := 175) h 231 dX9_lastDrawer_175 (by decide) ?_
                              refine jr_iinc (pc := 231) h [_, _, _, _, _, _, _, _, _, _, _, _, _] dX9_lastDrawer_231 (by decide) rfl rfl ?_
                              refine jr_goto (pc := 234) h 57 dX9_lastDrawer_234 (by decide) ?_
                              first
                              | (exact ih3 _ _ _ _ _ (by omega) (by omega) (ldW_c hs0 ⟨by omega, hlx.2⟩ hmx (by omega) (by omega) hW) hB (by omega))
                              | (obtain ⟨hW', hB'⟩ := ldW_r (best' := 1 + P) hs0 hlx (by omega) hmx hz9 hT2 hW hB (by omega)
                                 exact ih3 _ _ _ _ _ (by omega) (by omega) hW' hB' (by omega))
                              | (obtain ⟨hW', hB'⟩ := ldW_r (best' := best) hs0 hlx (by omega) hmx hz9 hT2 hW hB (by omega)
                                 exact ih3 _ _ _ _ _ (by omega) (by omega) hW' hB' (by omega))
                          refine jr_iload (pc := 124) h dX9_lastDrawer_124 rfl ?_
                          refine jr_if_ne (pc := 126) h 133 dX9_lastDrawer_126 (by decide) (by omega) (fun c_126 => ?_) (fun c_126 => ?_)
                          · skip
                            have hs31 := hs3.resolve_left (by omega)
                            refine jr_iload (pc := 133) h dX9_lastDrawer_133 rfl ?_
                            refine jr_aload_n (pc := 135) h dX9_lastDrawer_135 rfl ?_
                            refine jr_iconst (pc := 136) h dX9_lastDrawer_136 ?_
                            refine iv_X9_575 (pc := 137) h hl hR dX9_lastDrawer_137 ⟨(Nat.le_of_ble_eq_true rfl), (Nat.le_of_ble_eq_true rfl), (Nat.le_of_ble_eq_true rfl), (Nat.le_of_ble_eq_true rfl)⟩ (Nat.le_of_ble_eq_true rfl) (by assumption) (by omega) (s_X9_shapeOf_3 hX hMF hFM hsep) (fun v_137 n_137 M_137 hn_137 hp => ?_)
                            obtain ⟨⟨rfl, rfl, rfl⟩, -⟩ := hp
                            refine jr_idivp (pc := 140) h dX9_lastDrawer_140 (by omega) (by omega) ?_
                            refine jr_iload (pc := 141) h dX9_lastDrawer_141 rfl ?_
                            have hq0 : 0 ≤ (ho - i * sF ct td 0 - j * sF ct td 1 - k * sF ct td 2) / sF ct td 3 := Int.ediv_nonneg (by omega) (by omega)
                            have hqm : (ho - i * sF ct td 0 - j * sF ct td 1 - k * sF ct td 2) / sF ct td 3 * sF ct td 3 ≤ (ho - i * sF ct td 0 - j * sF ct td 1 - k * sF ct td 2) := Int.ediv_mul_le _ (by omega)
                            have hqx : ∀ x : Int, x * sF ct td 3 ≤ (ho - i * sF ct td 0 - j * sF ct td 1 - k * sF ct td 2) → x ≤ (ho - i * sF ct td 0 - j * sF ct td 1 - k * sF ct td 2) / sF ct td 3 := fun x hx => (Int.le_ediv_iff_mul_le (by omega)).2 hx
                            have hql : (ho - i * sF ct td 0 - j * sF ct td 1 - k * sF ct td 2) / sF ct td 3 ≤ (ho - i * sF ct td 0 - j * sF ct td 1 - k * sF ct td 2) := Int.ediv_le_self _ (by omega)
                            refine jr_icmp_ge (pc := 143) h 157 dX9_lastDrawer_143 (by decide) (by omega) (by omega) (fun c_143 => ?_) (fun c_143 => ?_)
                            · skip
                              refine jr_iload (pc := 157) h dX9_lastDrawer_157 rfl ?_
                              first
                              | (exact K159 0 ⟨Int.le_refl _, hd9.1⟩ (fun x h1 h2 _ => by omega) (by rw [Int.zero_mul]; omega))
                              | (exact K159 d ⟨hd9.1, Int.le_refl _⟩ (fun x h1 h2 _ => h2) (by
                                   have := Int.mul_le_mul_of_nonneg_right (show d ≤ (ho - i * sF ct td 0 - j * sF ct td 1 - k * sF ct td 2) / sF ct td 3 by omega) (show 0 ≤ sF ct td 3 by omega)
                                   omega))
                              | (exact K159 _ ⟨hq0, by omega⟩ (fun x h1 h2 h3 => hqx x (by omega)) (by omega))
                            · skip
                              refine jr_iload (pc := 146) h dX9_lastDrawer_146 rfl ?_
                              refine jr_aload_n (pc := 148) h dX9_lastDrawer_148 rfl ?_
                              refine jr_iconst (pc := 149) h dX9_lastDrawer_149 ?_
                              refine iv_X9_575 (pc := 150) h hl hR dX9_lastDrawer_150 ⟨(Nat.le_of_ble_eq_true rfl), (Nat.le_of_ble_eq_true rfl), (Nat.le_of_ble_eq_true rfl), (Nat.le_of_ble_eq_true rfl)⟩ (Nat.le_of_ble_eq_true rfl) (by assumption) (by omega) (s_X9_shapeOf_3 hX hMF hFM hsep) (fun v_150 n_150 M_150 hn_150 hp => ?_)
                              obtain ⟨⟨rfl, rfl, rfl⟩, -⟩ := hp
                              refine jr_idivp (pc := 153) h dX9_lastDrawer_153 (by omega) (by omega) ?_
                              refine jr_goto (pc := 154) h 159 dX9_lastDrawer_154 (by decide) ?_
                              first
                              | (exact K159 0 ⟨Int.le_refl _, hd9.1⟩ (fun x h1 h2 _ => by omega) (by rw [Int.zero_mul]; omega))
                              | (exact K159 d ⟨hd9.1, Int.le_refl _⟩ (fun x h1 h2 _ => h2) (by
                                   have := Int.mul_le_mul_of_nonneg_right (show d ≤ (ho - i * sF ct td 0 - j * sF ct td 1 - k * sF ct td 2) / sF ct td 3 by omega) (show 0 ≤ sF ct td 3 by omega)
                                   omega))
                              | (exact K159 _ ⟨hq0, by omega⟩ (fun x h1 h2 h3 => hqx x (by omega)) (by omega))
                          · skip
                            refine jr_iconst (pc := 129) h dX9_lastDrawer_129 ?_
                            refine jr_goto (pc := 130) h 159 dX9_lastDrawer_130 (by decide) ?_
                            first
                            | (exact K159 0 ⟨Int.le_refl _, hd9.1⟩ (fun x h1 h2 _ => by omega) (by rw [Int.zero_mul]; omega))
                            | (exact K159 d ⟨hd9.1, Int.le_refl _⟩ (fun x h1 h2 _ => h2) (by
                                 have := Int.mul_le_mul_of_nonneg_right (show d ≤ (ho - i * sF ct td 0 - j * sF ct td 1 - k * sF ct td 2) / sF ct td 3 by omega) (show 0 ≤ sF ct td 3 by omega)
                                 omega))
                            | (exact K159 _ ⟨hq0, by omega⟩ (fun x h1 h2 h3 => hqx x (by omega)) (by omega))
                  exact lp3 _ _ _ _ _ _ (by omega) hbb hW hB (Nat.lt_succ_self _)
          exact lp2 _ _ _ _ _ _ _ (by omega) hbb hW hB (Nat.lt_succ_self _)
  exact lp1 _ _ _ _ _ _ _ _ (by omega) (by omega) ldW_0 (Or.inl rfl) (Nat.lt_succ_self _)
