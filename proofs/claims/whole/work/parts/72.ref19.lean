/-! 72: the reference: ways -/
set_option maxHeartbeats 1000000 in
set_option maxRecDepth 20000 in
theorem s_X9_aheadOf {l : Launch} {n : Nat} {M : jdM} {m f : Nat} {g : Nat → Int} {wd : Int} {rd : Value} {B : Nat → Nat → Int} (hX : MX M n m g wd (.ref f) rd B) {ct td bk si ld gf : Nat → Int} {A : Nat → Nat → Int} (hMF : MF M n f gf A) (hFM : FM ct td bk si ld gf A) (hsep : f + 30 < m ∨ m + 12 < f) {x : Int} (hx : 1 ≤ x ∧ x ≤ c_rows ct td) : Ct l yX9_aheadOf cX9_aheadOf 4 (some .int) rX9_aheadOf [.ref m, jI x] n M (fun vv n' M' => (vv = some (jI (c_ahead ct td si (x - 1).toNat)) ∧ n = n' ∧ M = M') ∧ (0) ≤ (c_ahead ct td si (x - 1).toNat) ∧ (c_ahead ct td si (x - 1).toNat) ≤ 360) := by
  refine Ct_of [some (.ref m), some (jI x), none, none] (by decide) (Nat.le_of_ble_eq_true rfl) rfl (fun κ hl h hR hRt hmn hn0 => ?_)
  have h : Ok κ RX9 cX9_aheadOf 4 (some .int) := h
  obtain ⟨hnm, hOm, hBm⟩ := id hX
  have hOm : M m = jdO 9 (fX9 m _ _ (.ref f) rd) := hOm
  obtain ⟨hnf, hOf, hAf⟩ := id hMF
  obtain ⟨⟨e0, e1, e2, e3, e4⟩, ⟨k5, k6, k7, k8, k9, k10, k11, k12, k13, k14, k15⟩, ⟨a2, a3, a4, a5, a6, a7, a8, a9, a10, a11, a12⟩, ⟨hlim, hLI, hends, hrt⟩, ⟨hbk, hld⟩, hc0, hc1, hc2, hc5⟩ := id hFM
  have l2 := hlim 2 (by omega)
  have l3 := hlim 3 (by omega)
  have l4 := hlim 4 (by omega)
  have l5 := hlim 5 (by omega)
  have l6 := hlim 6 (by omega)
  have l7 := hlim 7 (by omega)
  have l8 := hlim 8 (by omega)
  have l9 := hlim 9 (by omega)
  have l10 := hlim 10 (by omega)
  have l11 := hlim 11 (by omega)
  have l12 := hlim 12 (by omega)
  rw [show (jtab 0).2.2 2 = 4 from rfl] at l2
  rw [show (jtab 0).2.2 3 = 6 from rfl] at l3
  rw [show (jtab 0).2.2 4 = 6 from rfl] at l4
  rw [show (jtab 0).2.2 5 = 2 from rfl] at l5
  rw [show (jtab 0).2.2 6 = 8 from rfl] at l6
  rw [show (jtab 0).2.2 7 = 5 from rfl] at l7
  rw [show (jtab 0).2.2 8 = 6 from rfl] at l8
  rw [show (jtab 0).2.2 9 = 3 from rfl] at l9
  rw [show (jtab 0).2.2 10 = 3 from rfl] at l10
  rw [show (jtab 0).2.2 11 = 4 from rfl] at l11
  rw [show (jtab 0).2.2 12 = 4 from rfl] at l12
  have hcr : 1 ≤ c_rows ct td ∧ c_rows ct td ≤ 40 := by
    have h9 := (hLI 0 0 (by omega) (by omega) (by omega)).1 rfl
    have e9 : c_rows ct td = c_get td 0 0 0 := by unfold c_rows; rw [if_neg (by omega)]
    omega
  refine jr_iconst (pc := 0) h dX9_aheadOf_0 ?_
  refine jr_istore_n (pc := 1) h [_, _, _, _] dX9_aheadOf_1 (by decide) rfl ?_
  refine jr_iconst (pc := 2) h dX9_aheadOf_2 ?_
  refine jr_istore_n (pc := 3) h [_, _, _, _] dX9_aheadOf_3 (by decide) rfl ?_
  have loop : ∀ (dq : Nat) (v i : Int), (1 ≤ i ∧ i ≤ x) → (0 ≤ v ∧ v ≤ 9 * (i - 1)) → (v = c_ahead ct td si (i - 1).toNat) → (50 - i).toNat < dq → J κ 4 0 0 n 4 [some (.ref m), some (jI x), some (jI v), some (jI i)] [] M := by
    intro dq
    induction dq with
    | zero => intro v i hi hvb hv hd; omega
    | succ dq ih =>
      intro v i hi hvb hv hd
      refine jr_iload_n (pc := 4) h dX9_aheadOf_4 rfl ?_
      refine jr_iload_n (pc := 5) h dX9_aheadOf_5 rfl ?_
      refine jr_icmp_ge (pc := 6) h 26 dX9_aheadOf_6 (by decide) (by omega) (by omega) (fun c_6 => ?_) (fun c_6 => ?_)
      · skip
        refine jr_iload_n (pc := 26) h dX9_aheadOf_26 rfl ?_
        refine jr_iret (pc := 27) h hRt dX9_aheadOf_27 rfl (Nat.le_of_ble_eq_true rfl) (Nat.le_of_ble_eq_true rfl) ?_
        have e9 : v = c_ahead ct td si (x - 1).toNat := by rw [hv, show i = x by omega]
        rw [← e9]
        exact ⟨⟨rfl, rfl, rfl⟩, by omega⟩
      · skip
        refine jr_iload_n (pc := 9) h dX9_aheadOf_9 rfl ?_
        refine jr_aload_n (pc := 10) h dX9_aheadOf_10 rfl ?_
        refine gf_X9_425 (pc := 11) h dX9_aheadOf_11 (by assumption) (by omega) ?_
        refine jr_iload_n (pc := 14) h dX9_aheadOf_14 rfl ?_
        refine iv_X9_507 (pc := 15) h hl hR dX9_aheadOf_15 ⟨(Nat.le_of_ble_eq_true rfl), (Nat.le_of_ble_eq_true rfl), (Nat.le_of_ble_eq_true rfl), (Nat.le_of_ble_eq_true rfl)⟩ (Nat.le_of_ble_eq_true rfl) (by assumption) (by omega) (s_X8_othersIn hMF hFM (by omega)) (fun v_15 n_15 M_15 hn_15 hp => ?_)
        obtain ⟨⟨rfl, rfl, rfl⟩, gr_15⟩ := hp
        refine jr_iadd (pc := 18) h dX9_aheadOf_18 ?_
        refine jr_istore_n (pc := 19) h [_, _, _, _] dX9_aheadOf_19 (by decide) rfl ?_
        refine jr_iinc (pc := 20) h [_, _, _, _] dX9_aheadOf_20 (by decide) rfl rfl ?_
        refine jr_goto (pc := 23) h 4 dX9_aheadOf_23 (by decide) ?_
        refine ih _ _ (by omega) (by omega) ?_ (by omega)
        rw [show i + 1 - 1 = i - 1 + 1 by omega, hv]
        unfold c_ahead
        rw [sumZ_s (by omega), show 1 + (i - 1) = i by omega]
  exact loop _ _ _ (by omega) (by omega) rfl (Nat.lt_succ_self _)
set_option maxHeartbeats 1000000 in
set_option maxRecDepth 20000 in
theorem s_X9_moreThan {l : Launch} {n : Nat} {M : jdM} {m : Nat} {g : Nat → Int} {w : Int} {fl rd : Value} {B : Nat → Nat → Int} (hX : MX M n m g w fl rd B) {x : Int} (hx : -2147483648 ≤ x ∧ x < 2147483648) : Ct l yX9_moreThan cX9_moreThan 5 (some .long) rX9_moreThan [.ref m, jI x] n M (fun vv n' M' => vv = some (jL (c_wab (B 5) x)) ∧ n = n' ∧ M = M') := by
  refine Ct_of [some (.ref m), some (jI x), none, none, none] (by decide) (Nat.le_of_ble_eq_true rfl) rfl (fun κ hl h hR hRt hmn hn0 => ?_)
  have h : Ok κ RX9 cX9_moreThan 5 (some .long) := h
  obtain ⟨hnm, hOm, hBm⟩ := id hX
  have hOm : M m = jdO 9 (fX9 m _ _ fl rd) := hOm
  have hB5 : M (m + 5) = jdL 11 (B 5) := hBm 5 (by omega) (by omega)
  refine jr_lconst (pc := 0) h dX9_moreThan_0 ?_
  refine jr_lstore_n (pc := 1) h [_, _, _, _, _] dX9_moreThan_1 (by decide) rfl ?_
  refine jr_iconst (pc := 2) h dX9_moreThan_2 ?_
  refine jr_istore (pc := 3) h [_, _, _, _, _] dX9_moreThan_3 (by decide) rfl ?_
  have loop : ∀ (dq : Nat) (v i : Int), (0 ≤ i ∧ i ≤ 11) → (v = sumZ (fun i => if x < i then B 5 i.toNat else 0) i.toNat) → (50 - i).toNat < dq → J κ 5 0 0 n 5 [some (.ref m), some (jI x), some (jL v), none, some (jI i)] [] M := by
    intro dq
    induction dq with
    | zero => intro v i hi hv hd; omega
    | succ dq ih =>
      intro v i hi hv hd
      refine jr_iload (pc := 5) h dX9_moreThan_5 rfl ?_
      refine jr_bipush (pc := 7) h dX9_moreThan_7 bp_10 ?_
      refine jr_icmp_gt (pc := 9) h 38 dX9_moreThan_9 (by decide) (by omega) (by omega) (fun c_9 => ?_) (fun c_9 => ?_)
      · skip
        refine jr_lload_n (pc := 38) h dX9_moreThan_38 rfl ?_
        refine jr_lret (pc := 39) h hRt dX9_moreThan_39 (Nat.le_of_ble_eq_true rfl) (Nat.le_of_ble_eq_true rfl) ?_
        have e9 : c_wab (B 5) x = v := by
          rw [hv, show i = 11 by omega]
          rfl
        rw [e9]
        exact ⟨rfl, rfl, rfl⟩
      · skip
        refine jr_lload_n (pc := 12) h dX9_moreThan_12 rfl ?_
        refine jr_iload (pc := 13) h dX9_moreThan_13 rfl ?_
        refine jr_iload_n (pc := 15) h dX9_moreThan_15 rfl ?_
        refine jr_icmp_le (pc := 16) h 29 dX9_moreThan_16 (by decide) (by omega) (by omega) (fun c_16 => ?_) (fun c_16 => ?_)
        · skip
          refine jr_lconst (pc := 29) h dX9_moreThan_29 ?_
          refine jr_ladd (pc := 30) h dX9_moreThan_30 ?_
          refine jr_lstore_n (pc := 31) h [_, _, _, _, _] dX9_moreThan_31 (by decide) rfl ?_
          refine jr_iinc (pc := 32) h [_, _, _, _, _] dX9_moreThan_32 (by decide) rfl rfl ?_
          refine jr_goto (pc := 35) h 5 dX9_moreThan_35 (by decide) ?_
          refine ih _ _ (by omega) ?_ (by omega)
          rw [sumZ_s (by omega), ← hv]
          first
          | (rw [if_pos (by omega)])
          | (rw [if_neg (by omega)]; rfl)
        · skip
          refine jr_aload_n (pc := 19) h dX9_moreThan_19 rfl ?_
          refine gf_X9_27 (pc := 20) h dX9_moreThan_20 (by assumption) (by omega) ?_
          refine jr_iload (pc := 23) h dX9_moreThan_23 rfl ?_
          refine jr_lald (pc := 25) h dX9_moreThan_25 (by assumption) (by omega) (by omega) ?_
          refine jr_goto (pc := 26) h 30 dX9_moreThan_26 (by decide) ?_
          refine jr_ladd (pc := 30) h dX9_moreThan_30 ?_
          refine jr_lstore_n (pc := 31) h [_, _, _, _, _] dX9_moreThan_31 (by decide) rfl ?_
          refine jr_iinc (pc := 32) h [_, _, _, _, _] dX9_moreThan_32 (by decide) rfl rfl ?_
          refine jr_goto (pc := 35) h 5 dX9_moreThan_35 (by decide) ?_
          refine ih _ _ (by omega) ?_ (by omega)
          rw [sumZ_s (by omega), ← hv]
          first
          | (rw [if_pos (by omega)])
          | (rw [if_neg (by omega)]; rfl)
  exact loop _ _ _ (by omega) rfl (Nat.lt_succ_self _)
set_option maxHeartbeats 1000000 in
set_option maxRecDepth 20000 in
theorem s_X9_likings {l : Launch} {n : Nat} {M : jdM} {m f : Nat} {g : Nat → Int} {wd : Int} {rd : Value} {B : Nat → Nat → Int} (hX : MX M n m g wd (.ref f) rd B) {ct td bk si ld gf : Nat → Int} {A : Nat → Nat → Int} (hMF : MF M n f gf A) (hFM : FM ct td bk si ld gf A) (hsep : f + 30 < m ∨ m + 12 < f) {x k : Int} (hx : 1 ≤ x ∧ x ≤ c_rows ct td) (hk : -1 ≤ k ∧ k < ct 2) : Ct l yX9_likings cX9_likings 10 none rX9_likings [.ref m, jI x, jI k] n M (fun vv n' M' => (vv = none ∧ n = n') ∧ ∃ b', MX M' n m g wd (.ref f) rd (up B 5 b') ∧ agw b' (c_wgh ct td bk si k (x - 1).toNat) ∧ fr (MXf m) M M') := by
  refine Ct_of [some (.ref m), some (jI x), some (jI k), none, none, none, none, none, none, none] (by decide) (Nat.le_of_ble_eq_true rfl) rfl (fun κ hl h hR hRt hmn hn0 => ?_)
  have h : Ok κ RX9 cX9_likings 10 none := h
  obtain ⟨hnm, hOm, hBm⟩ := id hX
  have hOm : M m = jdO 9 (fX9 m _ _ (.ref f) rd) := hOm
  obtain ⟨hnf, hOf, hAf⟩ := id hMF
  obtain ⟨⟨e0, e1, e2, e3, e4⟩, ⟨k5, k6, k7, k8, k9, k10, k11, k12, k13, k14, k15⟩, ⟨a2, a3, a4, a5, a6, a7, a8, a9, a10, a11, a12⟩, ⟨hlim, hLI, hends, hrt⟩, ⟨hbk, hld⟩, hc0, hc1, hc2, hc5⟩ := id hFM
  have l2 := hlim 2 (by omega)
  have l3 := hlim 3 (by omega)
  have l4 := hlim 4 (by omega)
  have l5 := hlim 5 (by omega)
  have l6 := hlim 6 (by omega)
  have l7 := hlim 7 (by omega)
  have l8 := hlim 8 (by omega)
  have l9 := hlim 9 (by omega)
  have l10 := hlim 10 (by omega)
  have l11 := hlim 11 (by omega)
  have l12 := hlim 12 (by omega)
  rw [show (jtab 0).2.2 2 = 4 from rfl] at l2
  rw [show (jtab 0).2.2 3 = 6 from rfl] at l3
  rw [show (jtab 0).2.2 4 = 6 from rfl] at l4
  rw [show (jtab 0).2.2 5 = 2 from rfl] at l5
  rw [show (jtab 0).2.2 6 = 8 from rfl] at l6
  rw [show (jtab 0).2.2 7 = 5 from rfl] at l7
  rw [show (jtab 0).2.2 8 = 6 from rfl] at l8
  rw [show (jtab 0).2.2 9 = 3 from rfl] at l9
  rw [show (jtab 0).2.2 10 = 3 from rfl] at l10
  rw [show (jtab 0).2.2 11 = 4 from rfl] at l11
  rw [show (jtab 0).2.2 12 = 4 from rfl] at l12
  have hcr : 1 ≤ c_rows ct td ∧ c_rows ct td ≤ 40 := by
    have h9 := (hLI 0 0 (by omega) (by omega) (by omega)).1 rfl
    have e9 : c_rows ct td = c_get td 0 0 0 := by unfold c_rows; rw [if_neg (by omega)]
    omega
  obtain ⟨hK, hlk9, hbl9⟩ := FM_KI hFM
  have hblk9 : ∀ r : Int, -1 ≤ c_blk bk r ∧ c_blk bk r < ct 7 := fun r => by
    rcases FM_blk ⟨hbk, hld⟩ l7.1 r with q | q
    · exact q
    · omega
  refine jr_iconst (pc := 0) h dX9_likings_0 ?_
  refine jr_istore_n (pc := 1) h [_, _, _, _, _, _, _, _, _, _] dX9_likings_1 (by decide) rfl ?_
  have lp1 : ∀ (dq1 : Nat) (i : Int) (M1 : jdM) (b1 : Nat → Int), (0 ≤ i ∧ i ≤ 11) → (MX M1 n m g wd (.ref f) rd (up B 5 b1)) → (MF M1 n f gf A) → (fr (MXf m) M M1) → (∀ j : Nat, (j : Int) < i → b1 j = if j = 0 then 1 else 0) → (50 - i).toNat < dq1 → J κ 10 0 0 n 2 [some (.ref m), some (jI x), some (jI k), some (jI i), none, none, none, none, none, none] [] M1 := by
    intro dq1
    induction dq1 with
    | zero => intro i M1 b1 hi hX hMF f1 hb1 hd; omega
    | succ dq1 ih1 =>
      intro i M1 b1 hi hX hMF f1 hb1 hd
      obtain ⟨hnm, hOm, hBm⟩ := id hX
      have hOm : M1 m = jdO 9 (fX9 m _ _ (.ref f) rd) := hOm
      have hB5 : M1 (m + 5) = jdL 11 b1 := hBm 5 (by omega) (by omega)
      obtain ⟨hnf, hOf, hAf⟩ := id hMF
      refine jr_iload_n (pc := 2) h dX9_likings_2 rfl ?_
      refine jr_bipush (pc := 3) h dX9_likings_3 bp_10 ?_
      refine jr_icmp_gt (pc := 5) h 29 dX9_likings_5 (by decide) (by omega) (by omega) (fun c_5 => ?_) (fun c_5 => ?_)
      · skip
        refine jr_iconst (pc := 29) h dX9_likings_29 ?_
        refine jr_istore_n (pc := 30) h [_, _, _, _, _, _, _, _, _, _] dX9_likings_30 (by decide) rfl ?_
        have lp2 : ∀ (dq2 : Nat) (r : Int) (l4 : Option Value) (l5 : Option Value) (l6 : Option Value) (l7 : Option Value) (l8 : Option Value) (l9 : Option Value) (M1 : jdM) (b2 : Nat → Int), (1 ≤ r ∧ r ≤ x) → (MX M1 n m g wd (.ref f) rd (up B 5 b2)) → (MF M1 n f gf A) → (fr (MXf m) M M1) → (agw b2 (c_wgh ct td bk si k (r - 1).toNat)) → (50 - r).toNat < dq2 → J κ 10 0 0 n 31 [some (.ref m), some (jI x), some (jI k), some (jI r), l4, l5, l6, l7, l8, l9] [] M1 := by
          intro dq2
          induction dq2 with
          | zero => intro r l4 l5 l6 l7 l8 l9 M1 b2 hr hX hMF f1 hb2 hd; omega
          | succ dq2 ih2 =>
            intro r l4 l5 l6 l7 l8 l9 M1 b2 hr hX hMF f1 hb2 hd
            obtain ⟨hnm, hOm, hBm⟩ := id hX
            have hOm : M1 m = jdO 9 (fX9 m _ _ (.ref f) rd) := hOm
            have hB5 : M1 (m + 5) = jdL 11 b2 := hBm 5 (by omega) (by omega)
            obtain ⟨hnf, hOf, hAf⟩ := id hMF
            refine jr_iload_n (pc := 31) h dX9_likings_31 rfl ?_
            refine jr_iload_n (pc := 32) h dX9_likings_32 rfl ?_
            refine jr_icmp_ge (pc := 33) h 175 dX9_likings_33 (by decide) (by omega) (by omega) (fun c_33 => ?_) (fun c_33 => ?_)
            · skip
              refine jr_vret (pc := 175) h hRt dX9_likings_175 (Nat.le_of_ble_eq_true rfl) (Nat.le_of_ble_eq_true rfl) ?_
              refine ⟨⟨rfl, rfl⟩, b2, hX, ?_, f1⟩
              rw [show x - 1 = r - 1 by omega]
              exact hb2
            · skip
              refine jr_lconst (pc := 36) h dX9_likings_36 ?_
              refine jr_lstore (pc := 37) h [_, _, _, _, _, _, _, _, _, _] dX9_likings_37 (by decide) rfl ?_
              refine jr_iconst (pc := 39) h dX9_likings_39 ?_
              refine jr_istore (pc := 40) h [_, _, _, _, _, _, _, _, _, _] dX9_likings_40 (by decide) rfl ?_
              have e_oth : (c_oth ct td bk k r) = (c_weights td bk r) - (c_win td (c_blk bk r) k) := rfl
              have lp3 : ∀ (dq3 : Nat) (t i : Int) (l7 : Option Value) (l8 : Option Value) (l9 : Option Value), (0 ≤ i ∧ i ≤ ct 2) → (0 ≤ t ∧ t ≤ 9 * i) → (t = sumZ (fun k => c_win td (c_blk bk r) k) i.toNat) → (10 - i).toNat < dq3 → J κ 10 0 0 n 42 [some (.ref m), some (jI x), some (jI k), some (jI r), some (jL t), none, some (jI i), l7, l8, l9] [] M1 := by
                intro dq3
                induction dq3 with
                | zero => intro t i l7 l8 l9 hi htb ht hd; omega
                | succ dq3 ih3 =>
                  intro t i l7 l8 l9 hi htb ht hd
                  refine jr_iload (pc := 42) h dX9_likings_42 rfl ?_
                  refine jr_aload_n (pc := 44) h dX9_likings_44 rfl ?_
                  refine gf_X9_425 (pc := 45) h dX9_likings_45 (by assumption) (by omega) ?_
                  refine gf_X9_211 (pc := 48) h dX9_likings_48 (by assumption) (by omega) ?_
                  refine jr_icmp_ge (pc := 51) h 73 dX9_likings_51 (by decide) (by omega) (by omega) (fun c_51 => ?_) (fun c_51 => ?_)
                  · skip
                    have et : t = (c_weights td bk r) := by
                      rw [ht, show i.toNat = (ct 2).toNat by omega]
                      exact win_sum ⟨hlim, hLI, hends, hrt⟩ (hblk9 r)
                    rw [et]
                    refine jr_iload_n (pc := 73) h dX9_likings_73 rfl ?_
                    refine jr_iconst (pc := 74) h dX9_likings_74 ?_
                    refine jr_icmp_ne (pc := 75) h 82 dX9_likings_75 (by decide) (by omega) (by omega) (fun c_75 => ?_) (fun c_75 => ?_)
                    · skip
                      refine jr_aload_n (pc := 82) h dX9_likings_82 rfl ?_
                      refine jr_iload_n (pc := 83) h dX9_likings_83 rfl ?_
                      refine jr_iload_n (pc := 84) h dX9_likings_84 rfl ?_
                      refine iv_X9_449 (pc := 85) h hl hR dX9_likings_85 ⟨(Nat.le_of_ble_eq_true rfl), (Nat.le_of_ble_eq_true rfl), (Nat.le_of_ble_eq_true rfl), (Nat.le_of_ble_eq_true rfl)⟩ (Nat.le_of_ble_eq_true rfl) (by assumption) (by omega) (s_X9_weightOf hX hMF hFM hsep (by omega) (by omega)) (fun v_85 n_85 M_85 hn_85 hp => ?_)
                      obtain ⟨⟨rfl, rfl, rfl⟩, gr_85⟩ := hp
                      refine jr_i2l (pc := 88) h dX9_likings_88 (by omega) ?_
                      refine jr_lstore (pc := 89) h [_, _, _, _, _, _, _, _, _, _] dX9_likings_89 (by decide) rfl ?_
                      refine jr_aload_n (pc := 91) h dX9_likings_91 rfl ?_
                      refine gf_X9_425 (pc := 92) h dX9_likings_92 (by assumption) (by omega) ?_
                      refine jr_iload_n (pc := 95) h dX9_likings_95 rfl ?_
                      refine iv_X9_507 (pc := 96) h hl hR dX9_likings_96 ⟨(Nat.le_of_ble_eq_true rfl), (Nat.le_of_ble_eq_true rfl), (Nat.le_of_ble_eq_true rfl), (Nat.le_of_ble_eq_true rfl)⟩ (Nat.le_of_ble_eq_true rfl) (by assumption) (by omega) (s_X8_othersIn hMF hFM (by omega)) (fun v_96 n_96 M_96 hn_96 hp => ?_)
                      obtain ⟨⟨rfl, rfl, rfl⟩, gr_96⟩ := hp
                      refine jr_istore (pc := 99) h [_, _, _, _, _, _, _, _, _, _] dX9_likings_99 (by decide) rfl ?_
                      have lp4 : ∀ (dq4 : Nat) (q : Int) (l9 : Option Value) (M1 : jdM) (b4 : Nat → Int), (0 ≤ q ∧ q ≤ (c_unn ct td si r)) → (MX M1 n m g wd (.ref f) rd (up B 5 b4)) → (MF M1 n f gf A) → (fr (MXf m) M M1) → (agw b4 (foldS (fun W _ => ad1 W (c_win td (c_blk bk r) k) (c_oth ct td bk k r)) (c_wgh ct td bk si k (r - 1).toNat) ((c_unn ct td si r) - q).toNat)) → (q).toNat < dq4 → J κ 10 0 0 n 101 [some (.ref m), some (jI x), some (jI k), some (jI r), some (jL (c_weights td bk r)), none, some (jL (c_win td (c_blk bk r) k)), none, some (jI q), l9] [] M1 := by
                        intro dq4
                        induction dq4 with
                        | zero => intro q l9 M1 b4 hq hX hMF f1 hb4 hd; omega
                        | succ dq4 ih4 =>
                          intro q l9 M1 b4 hq hX hMF f1 hb4 hd
                          obtain ⟨hnm, hOm, hBm⟩ := id hX
                          have hOm : M1 m = jdO 9 (fX9 m _ _ (.ref f) rd) := hOm
                          have hB5 : M1 (m + 5) = jdL 11 b4 := hBm 5 (by omega) (by omega)
                          obtain ⟨hnf, hOf, hAf⟩ := id hMF
                          refine jr_iload (pc := 101) h dX9_likings_101 rfl ?_
                          refine jr_if_le (pc := 103) h 169 dX9_likings_103 (by decide) (by omega) (fun c_103 => ?_) (fun c_103 => ?_)
                          · skip
                            refine jr_iinc (pc := 169) h [_, _, _, _, _, _, _, _, _, _] dX9_likings_169 (by decide) rfl rfl ?_
                            refine jr_goto (pc := 172) h 31 dX9_likings_172 (by decide) ?_
                            refine ih2 _ _ _ _ _ _ _ _ _ (by omega) hX hMF f1 ?_ (by omega)
                            intro j hj
                            rw [hb4 j hj, show r + 1 - 1 = r - 1 + 1 by omega]
                            unfold c_wgh
                            rw [foldS_s (by omega), show 1 + (r - 1) = r by omega, show ((c_unn ct td si r) - q).toNat = (c_unn ct td si r).toNat by omega]
                          · skip
                            refine jr_bipush (pc := 106) h dX9_likings_106 bp_10 ?_
                            refine jr_istore (pc := 108) h [_, _, _, _, _, _, _, _, _, _] dX9_likings_108 (by decide) rfl ?_
                            have lp5 : ∀ (dq5 : Nat) (p : Int) (M1 : jdM) (b5 : Nat → Int), (-1 ≤ p ∧ p ≤ 10) → (MX M1 n m g wd (.ref f) rd (up B 5 b5)) → (MF M1 n f gf A) → (fr (MXf m) M M1) → (∀ j : Nat, j < 11 → b5 j = if p < j then ad1 b4 (c_win td (c_blk bk r) k) (c_oth ct td bk k r) j else b4 j) → (p + 1).toNat < dq5 → J κ 10 0 0 n 110 [some (.ref m), some (jI x), some (jI k), some (jI r), some (jL (c_weights td bk r)), none, some (jL (c_win td (c_blk bk r) k)), none, some (jI q), some (jI p)] [] M1 := by
                              intro dq5
                              induction dq5 with
                              | zero => intro p M1 b5 hp hX hMF f1 hb5 hd; omega
                              | succ dq5 ih5 =>
                                intro p M1 b5 hp hX hMF f1 hb5 hd
                                obtain ⟨hnm, hOm, hBm⟩ := id hX
                                have hOm : M1 m = jdO 9 (fX9 m _ _ (.ref f) rd) := hOm
                                have hB5 : M1 (m + 5) = jdL 11 b5 := hBm 5 (by omega) (by omega)
                                obtain ⟨hnf, hOf, hAf⟩ := id hMF
                                refine jr_iload (pc := 110) h dX9_likings_110 rfl ?_
                                refine jr_if_lt (pc := 112) h 163 dX9_likings_112 (by decide) (by omega) (fun c_112 => ?_) (fun c_112 => ?_)
                                · skip
                                  refine jr_iinc (pc := 163) h [_, _, _, _, _, _, _, _, _, _] dX9_likings_163 (by decide) rfl rfl ?_
                                  refine jr_goto (pc := 166) h 101 dX9_likings_166 (by decide) ?_
                                  refine ih4 _ _ _ _ (by omega) hX hMF f1 ?_ (by omega)
                                  intro j hj
                                  rw [hb5 j hj, if_pos (by omega), show ((c_unn ct td si r) - (q + -1)).toNat = ((c_unn ct td si r) - q + 1).toNat by omega, foldS_s (by omega)]
                                  exact ad1_agw hb4 j hj
                                · skip
                                  refine jr_aload_n (pc := 115) h dX9_likings_115 rfl ?_
                                  refine gf_X9_27 (pc := 116) h dX9_likings_116 (by assumption) (by omega) ?_
                                  refine jr_iload (pc := 119) h dX9_likings_119 rfl ?_
                                  refine jr_aload_n (pc := 121) h dX9_likings_121 rfl ?_
                                  refine gf_X9_27 (pc := 122) h dX9_likings_122 (by assumption) (by omega) ?_
                                  refine jr_iload (pc := 125) h dX9_likings_125 rfl ?_
                                  refine jr_lald (pc := 127) h dX9_likings_127 (by assumption) (by omega) (by omega) ?_
                                  refine jr_lload (pc := 128) h dX9_likings_128 rfl ?_
                                  refine jr_lload (pc := 130) h dX9_likings_130 rfl ?_
                                  refine jr_lsub (pc := 132) h dX9_likings_132 ?_
                                  refine jr_lmul (pc := 133) h dX9_likings_133 ?_
                                  refine jr_iload (pc := 134) h dX9_likings_134 rfl ?_
                                  refine jr_if_le (pc := 136) h 154 dX9_likings_136 (by decide) (by omega) (fun c_136 => ?_) (fun c_136 => ?_)
                                  · skip
                                    refine jr_lconst (pc := 154) h dX9_likings_154 ?_
                                    refine jr_ladd (pc := 155) h dX9_likings_155 ?_
                                    refine jr_last (pc := 156) h dX9_likings_156 hB5 (by omega) (by omega) ?_
                                    refine jm_gen (fun M2 hM2 => ?_)
                                    have hX := MX_B (i := 5) hX hM2 (by omega)
                                    rw [up_up] at hX
                                    have f9 : fr (MXf m) _ M2 := fr_up (S := MXf m) hM2 ⟨by omega, by omega⟩
                                    have f1 := fr_tr f1 f9
                                    have hMF := MF_fr hMF f9 (Nat.le_refl _) (fun k h1 h2 q => by have := q.1; have := q.2; omega)
                                    obtain ⟨hnf, hOf, hAf⟩ := id hMF
                                    obtain ⟨hnm, hOm, hBm⟩ := id hX
                                    have hOm : M2 m = jdO 9 (fX9 m _ _ (.ref f) rd) := hOm
                                    refine jr_iinc (pc := 157) h [_, _, _, _, _, _, _, _, _, _] dX9_likings_157 (by decide) rfl rfl ?_
                                    refine jr_goto (pc := 160) h 110 dX9_likings_160 (by decide) ?_
                                    refine ih5 _ _ _ (by omega) hX hMF f1 (fun j hj => ?_) (by omega)
                                    by_cases q : j = p.toNat
                                    · rw [q, up_eq, if_pos (by omega), hb5 _ (by omega), if_neg (by omega)]
                                      unfold ad1
                                      rw [e_oth]
                                      first
                                      | (rw [if_pos (by omega), show p.toNat = 0 by omega]; show _ + ((0 : Nat) : Int) = _; omega)
                                      | (rw [if_neg (by omega), if_pos (by omega), hb5 _ (by omega), if_neg (by omega), show (p - 1).toNat = p.toNat - 1 by omega])
                                    · rw [up_ne q, hb5 j hj]
                                      by_cases q1 : p < j
                                      · rw [if_pos q1, if_pos (by omega)]
                                      · rw [if_neg q1, if_neg (by omega)]
                                  · skip
                                    refine jr_aload_n (pc := 139) h dX9_likings_139 rfl ?_
                                    refine gf_X9_27 (pc := 140) h dX9_likings_140 (by assumption) (by omega) ?_
                                    refine jr_iload (pc := 143) h dX9_likings_143 rfl ?_
                                    refine jr_iconst (pc := 145) h dX9_likings_145 ?_
                                    refine jr_isub (pc := 146) h dX9_likings_146 ?_
                                    refine jr_lald (pc := 147) h dX9_likings_147 (by assumption) (by omega) (by omega) ?_
                                    refine jr_lload (pc := 148) h dX9_likings_148 rfl ?_
                                    refine jr_lmul (pc := 150) h dX9_likings_150 ?_
                                    refine jr_goto (pc := 151) h 155 dX9_likings_151 (by decide) ?_
                                    refine jr_ladd (pc := 155) h dX9_likings_155 ?_
                                    refine jr_last (pc := 156) h dX9_likings_156 hB5 (by omega) (by omega) ?_
                                    refine jm_gen (fun M2 hM2 => ?_)
                                    have hX := MX_B (i := 5) hX hM2 (by omega)
                                    rw [up_up] at hX
                                    have f9 : fr (MXf m) _ M2 := fr_up (S := MXf m) hM2 ⟨by omega, by omega⟩
                                    have f1 := fr_tr f1 f9
                                    have hMF := MF_fr hMF f9 (Nat.le_refl _) (fun k h1 h2 q => by have := q.1; have := q.2; omega)
                                    obtain ⟨hnf, hOf, hAf⟩ := id hMF
                                    obtain ⟨hnm, hOm, hBm⟩ := id hX
                                    have hOm : M2 m = jdO 9 (fX9 m _ _ (.ref f) rd) := hOm
                                    refine jr_iinc (pc := 157) h [_, _, _, _, _, _, _, _, _, _] dX9_likings_157 (by decide) rfl rfl ?_
                                    refine jr_goto (pc := 160) h 110 dX9_likings_160 (by decide) ?_
                                    refine ih5 _ _ _ (by omega) hX hMF f1 (fun j hj => ?_) (by omega)
                                    by_cases q : j = p.toNat
                                    · rw [q, up_eq, if_pos (by omega), hb5 _ (by omega), if_neg (by omega)]
                                      unfold ad1
                                      rw [e_oth]
                                      first
                                      | (rw [if_pos (by omega), show p.toNat = 0 by omega]; show _ + ((0 : Nat) : Int) = _; omega)
                                      | (rw [if_neg (by omega), if_pos (by omega), hb5 _ (by omega), if_neg (by omega), show (p - 1).toNat = p.toNat - 1 by omega])
                                    · rw [up_ne q, hb5 j hj]
                                      by_cases q1 : p < j
                                      · rw [if_pos q1, if_pos (by omega)]
                                      · rw [if_neg q1, if_neg (by omega)]
                            exact lp5 _ _ _ _ (by omega) hX hMF f1 (fun j hj => by rw [if_neg (by omega)]) (Nat.lt_succ_self _)
                      exact lp4 _ _ _ _ _ (by omega) hX hMF f1 (by rw [Int.sub_self]; exact hb2) (Nat.lt_succ_self _)
                    · skip
                      refine jr_lconst (pc := 78) h dX9_likings_78 ?_
                      have ew : ((0 : Nat) : Int) = (c_win td (c_blk bk r) k) := by rw [show k = -1 by omega, win_z ⟨hlim, hLI, hends, hrt⟩]; rfl
                      show J _ _ _ _ _ _ _ (jL ((0 : Nat) : Int) :: _) _
                      rw [ew]
                      refine jr_goto (pc := 79) h 89 dX9_likings_79 (by decide) ?_
                      refine jr_lstore (pc := 89) h [_, _, _, _, _, _, _, _, _, _] dX9_likings_89 (by decide) rfl ?_
                      refine jr_aload_n (pc := 91) h dX9_likings_91 rfl ?_
                      refine gf_X9_425 (pc := 92) h dX9_likings_92 (by assumption) (by omega) ?_
                      refine jr_iload_n (pc := 95) h dX9_likings_95 rfl ?_
                      refine iv_X9_507 (pc := 96) h hl hR dX9_likings_96 ⟨(Nat.le_of_ble_eq_true rfl), (Nat.le_of_ble_eq_true rfl), (Nat.le_of_ble_eq_true rfl), (Nat.le_of_ble_eq_true rfl)⟩ (Nat.le_of_ble_eq_true rfl) (by assumption) (by omega) (s_X8_othersIn hMF hFM (by omega)) (fun v_96 n_96 M_96 hn_96 hp => ?_)
                      obtain ⟨⟨rfl, rfl, rfl⟩, gr_96⟩ := hp
                      refine jr_istore (pc := 99) h [_, _, _, _, _, _, _, _, _, _] dX9_likings_99 (by decide) rfl ?_
                      have lp4 : ∀ (dq4 : Nat) (q : Int) (l9 : Option Value) (M1 : jdM) (b4 : Nat → Int), (0 ≤ q ∧ q ≤ (c_unn ct td si r)) → (MX M1 n m g wd (.ref f) rd (up B 5 b4)) → (MF M1 n f gf A) → (fr (MXf m) M M1) → (agw b4 (foldS (fun W _ => ad1 W (c_win td (c_blk bk r) k) (c_oth ct td bk k r)) (c_wgh ct td bk si k (r - 1).toNat) ((c_unn ct td si r) - q).toNat)) → (q).toNat < dq4 → J κ 10 0 0 n 101 [some (.ref m), some (jI x), some (jI k), some (jI r), some (jL (c_weights td bk r)), none, some (jL (c_win td (c_blk bk r) k)), none, some (jI q), l9] [] M1 := by
                        intro dq4
                        induction dq4 with
                        | zero => intro q l9 M1 b4 hq hX hMF f1 hb4 hd; omega
                        | succ dq4 ih4 =>
                          intro q l9 M1 b4 hq hX hMF f1 hb4 hd
                          obtain ⟨hnm, hOm, hBm⟩ := id hX
                          have hOm : M1 m = jdO 9 (fX9 m _ _ (.ref f) rd) := hOm
                          have hB5 : M1 (m + 5) = jdL 11 b4 := hBm 5 (by omega) (by omega)
                          obtain ⟨hnf, hOf, hAf⟩ := id hMF
                          refine jr_iload (pc := 101) h dX9_likings_101 rfl ?_
                          refine jr_if_le (pc := 103) h 169 dX9_likings_103 (by decide) (by omega) (fun c_103 => ?_) (fun c_103 => ?_)
                          · skip
                            refine jr_iinc (pc := 169) h [_, _, _, _, _, _, _, _, _, _] dX9_likings_169 (by decide) rfl rfl ?_
                            refine jr_goto (pc := 172) h 31 dX9_likings_172 (by decide) ?_
                            refine ih2 _ _ _ _ _ _ _ _ _ (by omega) hX hMF f1 ?_ (by omega)
                            intro j hj
                            rw [hb4 j hj, show r + 1 - 1 = r - 1 + 1 by omega]
                            unfold c_wgh
                            rw [foldS_s (by omega), show 1 + (r - 1) = r by omega, show ((c_unn ct td si r) - q).toNat = (c_unn ct td si r).toNat by omega]
                          · skip
                            refine jr_bipush (pc := 106) h dX9_likings_106 bp_10 ?_
                            refine jr_istore (pc := 108) h [_, _, _, _, _, _, _, _, _, _] dX9_likings_108 (by decide) rfl ?_
                            have lp5 : ∀ (dq5 : Nat) (p : Int) (M1 : jdM) (b5 : Nat → Int), (-1 ≤ p ∧ p ≤ 10) → (MX M1 n m g wd (.ref f) rd (up B 5 b5)) → (MF M1 n f gf A) → (fr (MXf m) M M1) → (∀ j : Nat, j < 11 → b5 j = if p < j then ad1 b4 (c_win td (c_blk bk r) k) (c_oth ct td bk k r) j else b4 j) → (p + 1).toNat < dq5 → J κ 10 0 0 n 110 [some (.ref m), some (jI x), some (jI k), some (jI r), some (jL (c_weights td bk r)), none, some (jL (c_win td (c_blk bk r) k)), none, some (jI q), some (jI p)] [] M1 := by
                              intro dq5
                              induction dq5 with
                              | zero => intro p M1 b5 hp hX hMF f1 hb5 hd; omega
                              | succ dq5 ih5 =>
                                intro p M1 b5 hp hX hMF f1 hb5 hd
                                obtain ⟨hnm, hOm, hBm⟩ := id hX
                                have hOm : M1 m = jdO 9 (fX9 m _ _ (.ref f) rd) := hOm
                                have hB5 : M1 (m + 5) = jdL 11 b5 := hBm 5 (by omega) (by omega)
                                obtain ⟨hnf, hOf, hAf⟩ := id hMF
                                refine jr_iload (pc := 110) h dX9_likings_110 rfl ?_
                                refine jr_if_lt (pc := 112) h 163 dX9_likings_112 (by decide) (by omega) (fun c_112 => ?_) (fun c_112 => ?_)
                                · skip
                                  refine jr_iinc (pc := 163) h [_, _, _, _, _, _, _, _, _, _] dX9_likings_163 (by decide) rfl rfl ?_
                                  refine jr_goto (pc := 166) h 101 dX9_likings_166 (by decide) ?_
                                  refine ih4 _ _ _ _ (by omega) hX hMF f1 ?_ (by omega)
                                  intro j hj
                                  rw [hb5 j hj, if_pos (by omega), show ((c_unn ct td si r) - (q + -1)).toNat = ((c_unn ct td si r) - q + 1).toNat by omega, foldS_s (by omega)]
                                  exact ad1_agw hb4 j hj
                                · skip
                                  refine jr_aload_n (pc := 115) h dX9_likings_115 rfl ?_
                                  refine gf_X9_27 (pc := 116) h dX9_likings_116 (by assumption) (by omega) ?_
                                  refine jr_iload (pc := 119) h dX9_likings_119 rfl ?_
                                  refine jr_aload_n (pc := 121) h dX9_likings_121 rfl ?_
                                  refine gf_X9_27 (pc := 122) h dX9_likings_122 (by assumption) (by omega) ?_
                                  refine jr_iload (pc := 125) h dX9_likings_125 rfl ?_
                                  refine jr_lald (pc := 127) h dX9_likings_127 (by assumption) (by omega) (by omega) ?_
                                  refine jr_lload (pc := 128) h dX9_likings_128 rfl ?_
                                  refine jr_lload (pc := 130) h dX9_likings_130 rfl ?_
                                  refine jr_lsub (pc := 132) h dX9_likings_132 ?_
                                  refine jr_lmul (pc := 133) h dX9_likings_133 ?_
                                  refine jr_iload (pc := 134) h dX9_likings_134 rfl ?_
                                  refine jr_if_le (pc := 136) h 154 dX9_likings_136 (by decide) (by omega) (fun c_136 => ?_) (fun c_136 => ?_)
                                  · skip
                                    refine jr_lconst (pc := 154) h dX9_likings_154 ?_
                                    refine jr_ladd (pc := 155) h dX9_likings_155 ?_
                                    refine jr_last (pc := 156) h dX9_likings_156 hB5 (by omega) (by omega) ?_
                                    refine jm_gen (fun M2 hM2 => ?_)
                                    have hX := MX_B (i := 5) hX hM2 (by omega)
                                    rw [up_up] at hX
                                    have f9 : fr (MXf m) _ M2 := fr_up (S := MXf m) hM2 ⟨by omega, by omega⟩
                                    have f1 := fr_tr f1 f9
                                    have hMF := MF_fr hMF f9 (Nat.le_refl _) (fun k h1 h2 q => by have := q.1; have := q.2; omega)
                                    obtain ⟨hnf, hOf, hAf⟩ := id hMF
                                    obtain ⟨hnm, hOm, hBm⟩ := id hX
                                    have hOm : M2 m = jdO 9 (fX9 m _ _ (.ref f) rd) := hOm
                                    refine jr_iinc (pc := 157) h [_, _, _, _, _, _, _, _, _, _] dX9_likings_157 (by decide) rfl rfl ?_
                                    refine jr_goto (pc := 160) h 110 dX9_likings_160 (by decide) ?_
                                    refine ih5 _ _ _ (by omega) hX hMF f1 (fun j hj => ?_) (by omega)
                                    by_cases q : j = p.toNat
                                    · rw [q, up_eq, if_pos (by omega), hb5 _ (by omega), if_neg (by omega)]
                                      unfold ad1
                                      rw [e_oth]
                                      first
                                      | (rw [if_pos (by omega), show p.toNat = 0 by omega]; show _ + ((0 : Nat) : Int) = _; omega)
                                      | (rw [if_neg (by omega), if_pos (by omega), hb5 _ (by omega), if_neg (by omega), show (p - 1).toNat = p.toNat - 1 by omega])
                                    · rw [up_ne q, hb5 j hj]
                                      by_cases q1 : p < j
                                      · rw [if_pos q1, if_pos (by omega)]
                                      · rw [if_neg q1, if_neg (by omega)]
                                  · skip
                                    refine jr_aload_n (pc := 139) h dX9_likings_139 rfl ?_
                                    refine gf_X9_27 (pc := 140) h dX9_likings_140 (by assumption) (by omega) ?_
                                    refine jr_iload (pc := 143) h dX9_likings_143 rfl ?_
                                    refine jr_iconst (pc := 145) h dX9_likings_145 ?_
                                    refine jr_isub (pc := 146) h dX9_likings_146 ?_
                                    refine jr_lald (pc := 147) h dX9_likings_147 (by assumption) (by omega) (by omega) ?_
                                    refine jr_lload (pc := 148) h dX9_likings_148 rfl ?_
                                    refine jr_lmul (pc := 150) h dX9_likings_150 ?_
                                    refine jr_goto (pc := 151) h 155 dX9_likings_151 (by decide) ?_
                                    refine jr_ladd (pc := 155) h dX9_likings_155 ?_
                                    refine jr_last (pc := 156) h dX9_likings_156 hB5 (by omega) (by omega) ?_
                                    refine jm_gen (fun M2 hM2 => ?_)
                                    have hX := MX_B (i := 5) hX hM2 (by omega)
                                    rw [up_up] at hX
                                    have f9 : fr (MXf m) _ M2 := fr_up (S := MXf m) hM2 ⟨by omega, by omega⟩
                                    have f1 := fr_tr f1 f9
                                    have hMF := MF_fr hMF f9 (Nat.le_refl _) (fun k h1 h2 q => by have := q.1; have := q.2; omega)
                                    obtain ⟨hnf, hOf, hAf⟩ := id hMF
                                    obtain ⟨hnm, hOm, hBm⟩ := id hX
                                    have hOm : M2 m = jdO 9 (fX9 m _ _ (.ref f) rd) := hOm
                                    refine jr_iinc (pc := 157) h [_, _, _, _, _, _, _, _, _, _] dX9_likings_157 (by decide) rfl rfl ?_
                                    refine jr_goto (pc := 160) h 110 dX9_likings_160 (by decide) ?_
                                    refine ih5 _ _ _ (by omega) hX hMF f1 (fun j hj => ?_) (by omega)
                                    by_cases q : j = p.toNat
                                    · rw [q, up_eq, if_pos (by omega), hb5 _ (by omega), if_neg (by omega)]
                                      unfold ad1
                                      rw [e_oth]
                                      first
                                      | (rw [if_pos (by omega), show p.toNat = 0 by omega]; show _ + ((0 : Nat) : Int) = _; omega)
                                      | (rw [if_neg (by omega), if_pos (by omega), hb5 _ (by omega), if_neg (by omega), show (p - 1).toNat = p.toNat - 1 by omega])
                                    · rw [up_ne q, hb5 j hj]
                                      by_cases q1 : p < j
                                      · rw [if_pos q1, if_pos (by omega)]
                                      · rw [if_neg q1, if_neg (by omega)]
                            exact lp5 _ _ _ _ (by omega) hX hMF f1 (fun j hj => by rw [if_neg (by omega)]) (Nat.lt_succ_self _)
                      exact lp4 _ _ _ _ _ (by omega) hX hMF f1 (by rw [Int.sub_self]; exact hb2) (Nat.lt_succ_self _)
                  · skip
                    refine jr_lload (pc := 54) h dX9_likings_54 rfl ?_
                    refine jr_aload_n (pc := 56) h dX9_likings_56 rfl ?_
                    refine jr_iload_n (pc := 57) h dX9_likings_57 rfl ?_
                    refine jr_iload (pc := 58) h dX9_likings_58 rfl ?_
                    refine iv_X9_449 (pc := 60) h hl hR dX9_likings_60 ⟨(Nat.le_of_ble_eq_true rfl), (Nat.le_of_ble_eq_true rfl), (Nat.le_of_ble_eq_true rfl), (Nat.le_of_ble_eq_true rfl)⟩ (Nat.le_of_ble_eq_true rfl) (by assumption) (by omega) (s_X9_weightOf hX hMF hFM hsep (by omega) (by omega)) (fun v_60 n_60 M_60 hn_60 hp => ?_)
                    obtain ⟨⟨rfl, rfl, rfl⟩, gr_60⟩ := hp
                    refine jr_i2l (pc := 63) h dX9_likings_63 (by omega) ?_
                    refine jr_ladd (pc := 64) h dX9_likings_64 ?_
                    refine jr_lstore (pc := 65) h [_, _, _, _, _, _, _, _, _, _] dX9_likings_65 (by decide) rfl ?_
                    refine jr_iinc (pc := 67) h [_, _, _, _, _, _, _, _, _, _] dX9_likings_67 (by decide) rfl rfl ?_
                    refine jr_goto (pc := 70) h 42 dX9_likings_70 (by decide) ?_
                    refine ih3 _ _ _ _ _ (by omega) (by omega) ?_ (by omega)
                    rw [sumZ_s (by omega), ← ht]
              exact lp3 _ _ _ _ _ _ (by omega) (by omega) rfl (Nat.lt_succ_self _)
        refine lp2 _ _ _ _ _ _ _ _ _ _ (by omega) hX hMF f1 (fun j hj => ?_) (Nat.lt_succ_self _)
        rw [hb1 j (by omega)]
        rfl
      · skip
        refine jr_aload_n (pc := 8) h dX9_likings_8 rfl ?_
        refine gf_X9_27 (pc := 9) h dX9_likings_9 (by assumption) (by omega) ?_
        refine jr_iload_n (pc := 12) h dX9_likings_12 rfl ?_
        refine jr_iload_n (pc := 13) h dX9_likings_13 rfl ?_
        refine jr_if_ne (pc := 14) h 21 dX9_likings_14 (by decide) (by omega) (fun c_14 => ?_) (fun c_14 => ?_)
        · skip
          refine jr_lconst (pc := 21) h dX9_likings_21 ?_
          refine jr_last (pc := 22) h dX9_likings_22 hB5 (by omega) (by omega) ?_
          refine jm_gen (fun M2 hM2 => ?_)
          have hX := MX_B (i := 5) hX hM2 (by omega)
          rw [up_up] at hX
          have f9 : fr (MXf m) _ M2 := fr_up (S := MXf m) hM2 ⟨by omega, by omega⟩
          have f1 := fr_tr f1 f9
          have hMF := MF_fr hMF f9 (Nat.le_refl _) (fun k h1 h2 q => by have := q.1; have := q.2; omega)
          obtain ⟨hnf, hOf, hAf⟩ := id hMF
          obtain ⟨hnm, hOm, hBm⟩ := id hX
          have hOm : M2 m = jdO 9 (fX9 m _ _ (.ref f) rd) := hOm
          refine jr_iinc (pc := 23) h [_, _, _, _, _, _, _, _, _, _] dX9_likings_23 (by decide) rfl rfl ?_
          refine jr_goto (pc := 26) h 2 dX9_likings_26 (by decide) ?_
          refine ih1 _ _ _ (by omega) hX hMF f1 (fun j hj => ?_) (by omega)
          by_cases q : j = i.toNat
          · rw [q, up_eq]
            first
            | (rw [if_pos (by omega)]; rfl)
            | (rw [if_neg (by omega)]; rfl)
          · rw [up_ne q]; exact hb1 j (by omega)
        · skip
          refine jr_lconst (pc := 17) h dX9_likings_17 ?_
          refine jr_goto (pc := 18) h 22 dX9_likings_18 (by decide) ?_
          refine jr_last (pc := 22) h dX9_likings_22 hB5 (by omega) (by omega) ?_
          refine jm_gen (fun M2 hM2 => ?_)
          have hX := MX_B (i := 5) hX hM2 (by omega)
          rw [up_up] at hX
          have f9 : fr (MXf m) _ M2 := fr_up (S := MXf m) hM2 ⟨by omega, by omega⟩
          have f1 := fr_tr f1 f9
          have hMF := MF_fr hMF f9 (Nat.le_refl _) (fun k h1 h2 q => by have := q.1; have := q.2; omega)
          obtain ⟨hnf, hOf, hAf⟩ := id hMF
          obtain ⟨hnm, hOm, hBm⟩ := id hX
          have hOm : M2 m = jdO 9 (fX9 m _ _ (.ref f) rd) := hOm
          refine jr_iinc (pc := 23) h [_, _, _, _, _, _, _, _, _, _] dX9_likings_23 (by decide) rfl rfl ?_
          refine jr_goto (pc := 26) h 2 dX9_likings_26 (by decide) ?_
          refine ih1 _ _ _ (by omega) hX hMF f1 (fun j hj => ?_) (by omega)
          by_cases q : j = i.toNat
          · rw [q, up_eq]
            first
            | (rw [if_pos (by omega)]; rfl)
            | (rw [if_neg (by omega)]; rfl)
          · rw [up_ne q]; exact hb1 j (by omega)
  exact lp1 _ _ _ (B 5) (by omega) (by rw [up_self]; exact hX) hMF fr_rf (fun j hj => by omega) (Nat.lt_succ_self _)
