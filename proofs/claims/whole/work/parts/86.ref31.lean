/-! 86: the reference: fewest -/
/-- states counted so far -/
def fwT (s : Nat → Int) (ho : Int) (M b6 : Nat → Int) (i j k l : Int) : Prop := ∀ x y z w : Int, 0 ≤ x ∧ x ≤ M 0 → 0 ≤ y ∧ y ≤ M 1 → 0 ≤ z ∧ z ≤ M 2 → 0 ≤ w ∧ w ≤ M 3 → (x < i ∨ (x = i ∧ (y < j ∨ (y = j ∧ (z < k ∨ (z = k ∧ w < l)))))) → isMin s ho (b6 (pk M x y z w).toNat) (wnF x y z w) ∧ b6 (pk M x y z w).toNat ≤ 24
theorem fwT_s {s : Nat → Int} {ho : Int} {M b6 : Nat → Int} {i j k l r : Int} (hM : c_sts M ≤ 2401) (hi : 0 ≤ i ∧ i ≤ M 0) (hj : 0 ≤ j ∧ j ≤ M 1) (hk : 0 ≤ k ∧ k ≤ M 2) (hl : 0 ≤ l ∧ l ≤ M 3) (h : fwT s ho M b6 i j k l) (hr : isMin s ho r (wnF i j k l)) (hr2 : r ≤ 24) : fwT s ho M (up b6 (pk M i j k l).toNat r) i j k (l + 1) := by
  intro x y z w hx hy hz hw hc
  have p1 := pk_r hx hy hz hw hM
  have p2 := pk_r hi hj hk hl hM
  by_cases q : x = i ∧ y = j ∧ z = k ∧ w = l
  · obtain ⟨rfl, rfl, rfl, rfl⟩ := q
    rw [up_eq]
    exact ⟨hr, hr2⟩
  · rw [up_ne (fun e => q (pk_inj hy hz hw hj hk hl (by omega)))]
    exact h x y z w hx hy hz hw (by omega)
theorem fwT_l {s : Nat → Int} {ho : Int} {M b6 : Nat → Int} {i j k l : Int} (hl : M 3 < l) (h : fwT s ho M b6 i j k l) : fwT s ho M b6 i j (k + 1) 0 := fun x y z w hx hy hz hw hc => h x y z w hx hy hz hw (by omega)
theorem fwT_k {s : Nat → Int} {ho : Int} {M b6 : Nat → Int} {i j k : Int} (hl : M 2 < k) (h : fwT s ho M b6 i j k 0) : fwT s ho M b6 i (j + 1) 0 0 := fun x y z w hx hy hz hw hc => h x y z w hx hy hz hw (by omega)
theorem fwT_j {s : Nat → Int} {ho : Int} {M b6 : Nat → Int} {i j : Int} (hl : M 1 < j) (h : fwT s ho M b6 i j 0 0) : fwT s ho M b6 (i + 1) 0 0 0 := fun x y z w hx hy hz hw hc => h x y z w hx hy hz hw (by omega)
theorem isMin_0 {s : Nat → Int} {ho : Int} {v : Nat → Int} (h : ∀ j, j < 4 → v j = 0) : isMin s ho 0 v := ⟨Int.le_refl _, h, fun n _ => by omega⟩
theorem lfFw {M M' : jdM} {n m : Nat} {g : Nat → Int} {w : Int} {fl rd : Value} {B : Nat → Nat → Int} {b6 b7 : Nat → Int} {Y : Int × Int} {v t : Int} (e : Y = (v, t)) (hX : MX M' n m (up (up (up g 0 0) 1 t) 2 (-1)) w fl rd (up (up B 7 b7) 6 b6)) (f : fr (MXf m) M M') : (some (jI v) = some (jI Y.1) ∧ n = n) ∧ ∃ b6 b7, MX M' n m (rg g Y.2) w fl rd (up (up B 7 b7) 6 b6) ∧ fr (MXf m) M M' := by
  subst e
  exact ⟨⟨rfl, rfl⟩, b6, b7, hX, f⟩
set_option maxHeartbeats 2000000 in
set_option maxRecDepth 20000 in
theorem s_X9_fewest {l : Launch} {n : Nat} {M : jdM} {m : Nat} {g : Nat → Int} {w : Int} {fl rd : Value} {B : Nat → Nat → Int} (hX : MX M n m g w fl rd B) {ct td bk si ld : Nat → Int} (hFX : FX M n m fl ct td bk si ld) {x y z u v : Int} (hx : -2147483648 ≤ x ∧ x < 2147483648) (hy : -2147483648 ≤ y ∧ y < 2147483648) (hz : -2147483648 ≤ z ∧ z < 2147483648) (hu : -2147483648 ≤ u ∧ u < 2147483648) (hv : -2147483648 ≤ v ∧ v < 2147483648) : Ct l yX9_fewest cX9_fewest 12 (some .int) rX9_fewest [.ref m, jI x, jI y, jI z, jI u, jI v] n M (fun vv n' M' => (vv = some (jI (x_fewest ct td x y z u v).1) ∧ n = n') ∧ ∃ b6 b7, MX M' n m (rg g (x_fewest ct td x y z u v).2) w fl rd (up (up B 7 b7) 6 b6) ∧ fr (MXf m) M M') := by
  refine Ct_of [some (.ref m), some (jI x), some (jI y), some (jI z), some (jI u), some (jI v), none, none, none, none, none, none] (by decide) (Nat.le_of_ble_eq_true rfl) rfl (fun κ hl h hR hRt hmn hn0 => ?_)
  have h : Ok κ RX9 cX9_fewest 12 (some .int) := h
  rcases hFX with ⟨rfl, hz⟩ | ⟨f, gf, A, rfl, hsep, hMF, hFM⟩
  · skip
    have hr0 := rows0 (td := td) hz
    have z2 := hz 2
    have z5 := hz 5
    obtain ⟨hnm, hOm, hBm⟩ := id hX
    have hOm : M m = jdO 9 (fX9 m _ _ .null rd) := hOm
    refine jr_aload_n (pc := 0) h dX9_fewest_0 rfl ?_
    refine jr_iconst (pc := 1) h dX9_fewest_1 ?_
    refine pf_X9_52 (pc := 2) h dX9_fewest_2 hOm (by omega) ?_
    refine jm_gen (fun M2 hM2 => ?_)
    rw [fX9_0] at hM2
    have hX := MX_o hX hM2
    have f9 : fr (MXf m) _ M2 := fr_up hM2 ⟨by omega, by omega⟩
    obtain ⟨hnm, hOm, hBm⟩ := id hX
    have f1 := f9
    refine jr_aload_n (pc := 5) h dX9_fewest_5 rfl ?_
    refine jr_iload_n (pc := 6) h dX9_fewest_6 rfl ?_
    refine iv_X9_452 (pc := 7) h hl hR dX9_fewest_7 ⟨(Nat.le_of_ble_eq_true rfl), (Nat.le_of_ble_eq_true rfl), (Nat.le_of_ble_eq_true rfl), (Nat.le_of_ble_eq_true rfl)⟩ (Nat.le_of_ble_eq_true rfl) (by assumption) (by omega) (s_X9_isTrolley hX (show FX M2 n m .null ct td bk si ld from Or.inl ⟨rfl, hz⟩) (by omega)) (fun v_7 n_7 M_7 hn_7 hp => ?_)
    obtain ⟨⟨rfl, rfl, rfl⟩, gr_7⟩ := hp
    refine jr_if_ne (pc := 10) h 19 dX9_fewest_10 (by decide) (by omega) (fun c_10 => ?_) (fun c_10 => ?_)
    · first | have d_10 := bz_0.mp c_10 | have d_10 := bz_1.mp c_10 | skip
      exfalso
      omega
    · first | have d_10 := bz_0.mp c_10 | have d_10 := bz_1.mp c_10 | skip
      refine jr_aload_n (pc := 13) h dX9_fewest_13 rfl ?_
      refine jr_iconst (pc := 14) h dX9_fewest_14 ?_
      refine iv_X9_58 (pc := 15) h hl hR dX9_fewest_15 ⟨(Nat.le_of_ble_eq_true rfl), (Nat.le_of_ble_eq_true rfl), (Nat.le_of_ble_eq_true rfl), (Nat.le_of_ble_eq_true rfl)⟩ (Nat.le_of_ble_eq_true rfl) (by assumption) (by omega) (s_X9_refused hX) (fun v_15 n_15 M_15 hn_15 hp => ?_)
      obtain ⟨⟨rfl, rfl⟩, hX, f9⟩ := hp
      have f1 := fr_tr f1 f9
      obtain ⟨hnm, hOm, hBm⟩ := id hX
      refine jr_iret (pc := 18) h hRt dX9_fewest_18 rfl (Nat.le_of_ble_eq_true rfl) (Nat.le_of_ble_eq_true rfl) ?_
      refine lfFw (B := B) (b6 := B 6) (b7 := B 7) ?_ (by rw [show up (up B 7 (B 7)) 6 (B 6) = B from by rw [up_self, up_self]]; exact hX) f1
      unfold x_fewest
      rw [if_neg (by omega)]
  · skip
    obtain ⟨hnm, hOm, hBm⟩ := id hX
    have hOm : M m = jdO 9 (fX9 m _ _ (.ref f) rd) := hOm
    refine jr_aload_n (pc := 0) h dX9_fewest_0 rfl ?_
    refine jr_iconst (pc := 1) h dX9_fewest_1 ?_
    refine pf_X9_52 (pc := 2) h dX9_fewest_2 hOm (by omega) ?_
    refine jm_gen (fun M2 hM2 => ?_)
    rw [fX9_0] at hM2
    have hX := MX_o hX hM2
    have f9 : fr (MXf m) _ M2 := fr_up hM2 ⟨by omega, by omega⟩
    obtain ⟨hnm, hOm, hBm⟩ := id hX
    have f1 := f9
    have hMF := MF_fr hMF f9 (Nat.le_refl _) (fun k h1 h2 q => by have := q.1; have := q.2; omega)
    obtain ⟨hnf, hOf, hAf⟩ := id hMF
    obtain ⟨⟨e0, e1, e2, e3, e4⟩, ⟨k5, k6, k7, k8, k9, k10, k11, k12, k13, k14, k15⟩, ⟨a2, a3, a4, a5, a6, a7, a8, a9, a10, a11, a12⟩, ⟨hlim, hLI, hends, hrt⟩, ⟨hbk, hld⟩, hc0, hc1, hc2, hc5⟩ := id hFM
    have l2 := hlim 2 (by omega)
    have l3 := hlim 3 (by omega)
    have l4 := hlim 4 (by omega)
    have l5 := hlim 5 (by omega)
    have l6 := hlim 6 (by omega)
    have l7 := hlim 7 (by omega)
    have l8 := hlim 8 (by omega)
    have l9 := hlim 9 (by omega)
    have l10 := hlim 10 (by omega)
    have l11 := hlim 11 (by omega)
    have l12 := hlim 12 (by omega)
    rw [show (jtab 0).2.2 2 = 4 from rfl] at l2
    rw [show (jtab 0).2.2 3 = 6 from rfl] at l3
    rw [show (jtab 0).2.2 4 = 6 from rfl] at l4
    rw [show (jtab 0).2.2 5 = 2 from rfl] at l5
    rw [show (jtab 0).2.2 6 = 8 from rfl] at l6
    rw [show (jtab 0).2.2 7 = 5 from rfl] at l7
    rw [show (jtab 0).2.2 8 = 6 from rfl] at l8
    rw [show (jtab 0).2.2 9 = 3 from rfl] at l9
    rw [show (jtab 0).2.2 10 = 3 from rfl] at l10
    rw [show (jtab 0).2.2 11 = 4 from rfl] at l11
    rw [show (jtab 0).2.2 12 = 4 from rfl] at l12
    have hcr : 1 ≤ c_rows ct td ∧ c_rows ct td ≤ 40 := by
      have h9 := (hLI 0 0 (by omega) (by omega) (by omega)).1 rfl
      have e9 : c_rows ct td = c_get td 0 0 0 := by unfold c_rows; rw [if_neg (by omega)]
      omega
    have hB7 : M2 (m + 7) = jdA 4 (B 7) := hBm 7 (by omega) (by omega)
    refine jr_aload_n (pc := 5) h dX9_fewest_5 rfl ?_
    refine jr_iload_n (pc := 6) h dX9_fewest_6 rfl ?_
    refine iv_X9_452 (pc := 7) h hl hR dX9_fewest_7 ⟨(Nat.le_of_ble_eq_true rfl), (Nat.le_of_ble_eq_true rfl), (Nat.le_of_ble_eq_true rfl), (Nat.le_of_ble_eq_true rfl)⟩ (Nat.le_of_ble_eq_true rfl) (by assumption) (by omega) (s_X9_isTrolley hX (show FX M2 n m (.ref f) ct td bk si ld from Or.inr ⟨f, gf, A, rfl, hsep, hMF, hFM⟩) (by omega)) (fun v_7 n_7 M_7 hn_7 hp => ?_)
    obtain ⟨⟨rfl, rfl, rfl⟩, gr_7⟩ := hp
    refine jr_if_ne (pc := 10) h 19 dX9_fewest_10 (by decide) (by omega) (fun c_10 => ?_) (fun c_10 => ?_)
    · first | have d_10 := bz_0.mp c_10 | have d_10 := bz_1.mp c_10 | skip
      refine jr_aload_n (pc := 19) h dX9_fewest_19 rfl ?_
      refine gf_X9_34 (pc := 20) h dX9_fewest_20 (by assumption) (by omega) ?_
      refine jr_iconst (pc := 23) h dX9_fewest_23 ?_
      refine jr_iload_n (pc := 24) h dX9_fewest_24 rfl ?_
      refine jr_iast (pc := 25) h dX9_fewest_25 hB7 (by omega) (by omega) ?_
      refine jm_gen (fun M3 hM3 => ?_)
      have hX := MX_B (i := 7) hX hM3 (by omega)
      have f9 : fr (MXf m) _ M3 := fr_up (S := MXf m) hM3 ⟨by omega, by omega⟩
      have f1 := fr_tr f1 f9
      have hMF := MF_fr hMF f9 (Nat.le_refl _) (fun k h1 h2 q => by have := q.1; have := q.2; omega)
      obtain ⟨hnm, hOm, hBm⟩ := id hX
      have hOm : M3 m = jdO 9 (fX9 m _ _ (.ref f) rd) := hOm
      have hB7 : M3 (m + 7) = jdA 4 _ := hBm 7 (by omega) (by omega)
      refine jr_aload_n (pc := 26) h dX9_fewest_26 rfl ?_
      refine gf_X9_34 (pc := 27) h dX9_fewest_27 (by assumption) (by omega) ?_
      refine jr_iconst (pc := 30) h dX9_fewest_30 ?_
      refine jr_iload_n (pc := 31) h dX9_fewest_31 rfl ?_
      refine jr_iast (pc := 32) h dX9_fewest_32 hB7 (by omega) (by omega) ?_
      refine jm_gen (fun M3 hM3 => ?_)
      have hX := MX_B (i := 7) hX hM3 (by omega)
      rw [up_up] at hX
      have f9 : fr (MXf m) _ M3 := fr_up (S := MXf m) hM3 ⟨by omega, by omega⟩
      have f1 := fr_tr f1 f9
      have hMF := MF_fr hMF f9 (Nat.le_refl _) (fun k h1 h2 q => by have := q.1; have := q.2; omega)
      obtain ⟨hnm, hOm, hBm⟩ := id hX
      have hOm : M3 m = jdO 9 (fX9 m _ _ (.ref f) rd) := hOm
      have hB7 : M3 (m + 7) = jdA 4 _ := hBm 7 (by omega) (by omega)
      refine jr_aload_n (pc := 33) h dX9_fewest_33 rfl ?_
      refine gf_X9_34 (pc := 34) h dX9_fewest_34 (by assumption) (by omega) ?_
      refine jr_iconst (pc := 37) h dX9_fewest_37 ?_
      refine jr_iload (pc := 38) h dX9_fewest_38 rfl ?_
      refine jr_iast (pc := 40) h dX9_fewest_40 hB7 (by omega) (by omega) ?_
      refine jm_gen (fun M3 hM3 => ?_)
      have hX := MX_B (i := 7) hX hM3 (by omega)
      rw [up_up] at hX
      have f9 : fr (MXf m) _ M3 := fr_up (S := MXf m) hM3 ⟨by omega, by omega⟩
      have f1 := fr_tr f1 f9
      have hMF := MF_fr hMF f9 (Nat.le_refl _) (fun k h1 h2 q => by have := q.1; have := q.2; omega)
      obtain ⟨hnm, hOm, hBm⟩ := id hX
      have hOm : M3 m = jdO 9 (fX9 m _ _ (.ref f) rd) := hOm
      have hB7 : M3 (m + 7) = jdA 4 _ := hBm 7 (by omega) (by omega)
      refine jr_aload_n (pc := 41) h dX9_fewest_41 rfl ?_
      refine gf_X9_34 (pc := 42) h dX9_fewest_42 (by assumption) (by omega) ?_
      refine jr_iconst (pc := 45) h dX9_fewest_45 ?_
      refine jr_iload (pc := 46) h dX9_fewest_46 rfl ?_
      refine jr_iast (pc := 48) h dX9_fewest_48 hB7 (by omega) (by omega) ?_
      refine jm_gen (fun M3 hM3 => ?_)
      have hX := MX_B (i := 7) hX hM3 (by omega)
      rw [up_up] at hX
      have f9 : fr (MXf m) _ M3 := fr_up (S := MXf m) hM3 ⟨by omega, by omega⟩
      have f1 := fr_tr f1 f9
      have hMF := MF_fr hMF f9 (Nat.le_refl _) (fun k h1 h2 q => by have := q.1; have := q.2; omega)
      obtain ⟨hnm, hOm, hBm⟩ := id hX
      have hOm : M3 m = jdO 9 (fX9 m _ _ (.ref f) rd) := hOm
      have hB7 : M3 (m + 7) = jdA 4 _ := hBm 7 (by omega) (by omega)
      refine jr_lconst (pc := 49) h dX9_fewest_49 ?_
      refine jr_lstore (pc := 50) h [_, _, _, _, _, _, _, _, _, _, _, _] dX9_fewest_50 (by decide) rfl ?_
      refine jr_iconst (pc := 52) h dX9_fewest_52 ?_
      refine jr_istore (pc := 53) h [_, _, _, _, _, _, _, _, _, _, _, _] dX9_fewest_53 (by decide) rfl ?_
      obtain ⟨b7, eb7⟩ : ∃ z9, up (up (up (up (B 7) 0 y) 1 z) 2 u) 3 v = z9 := ⟨_, rfl⟩
      have hb7 : ∀ j, j < 4 → b7 j = wnF y z u v j := by
        rw [← eb7]
        exact lt4 (P := fun j => up (up (up (up (B 7) 0 y) 1 z) 2 u) 3 v j = wnF y z u v j) (by rw [up_ne (by omega), up_ne (by omega), up_ne (by omega), up_eq]; rfl) (by rw [up_ne (by omega), up_ne (by omega), up_eq]; rfl) (by rw [up_ne (by omega), up_eq]; rfl) (by rw [up_eq]; rfl)
      replace hX : MX M3 n m (up g 0 0) w (.ref f) rd (up B 7 b7) := by rw [← eb7]; exact hX
      obtain ⟨hnm, hOm, hBm⟩ := id hX
      have hOm : M3 m = jdO 9 (fX9 m _ _ (.ref f) rd) := hOm
      have hB7 : M3 (m + 7) = jdA 4 b7 := hBm 7 (by omega) (by omega)
      obtain ⟨hnf, hOf, hAf⟩ := id hMF
      clear eb7
      have lpc : ∀ (dqc : Nat) (sm i : Int), (0 ≤ i ∧ i ≤ 4) → (∀ j : Nat, (j : Int) < i → 0 ≤ wnF y z u v j ∧ (ct 2 ≤ j → wnF y z u v j ≤ 0)) → (sm = sumZ (fun i => wnF y z u v i.toNat) i.toNat) → (10 - i).toNat < dqc → J κ 12 0 0 n 55 [some (.ref m), some (jI x), some (jI y), some (jI z), some (jI u), some (jI v), some (jL sm), none, some (jI i), none, none, none] [] M3 := by
        intro dqc
        induction dqc with
        | zero => intro sm i hi hchk hsm hd; omega
        | succ dqc ihc =>
          intro sm i hi hchk hsm hd
          refine jr_iload (pc := 55) h dX9_fewest_55 rfl ?_
          refine jr_iconst (pc := 57) h dX9_fewest_57 ?_
          refine jr_icmp_ge (pc := 58) h 118 dX9_fewest_58 (by decide) (by omega) (by omega) (fun c_58 => ?_) (fun c_58 => ?_)
          · first | have d_58 := bz_0.mp c_58 | have d_58 := bz_1.mp c_58 | skip
            have hwt : x_wtd ct 0 y ∧ x_wtd ct 1 z ∧ x_wtd ct 2 u ∧ x_wtd ct 3 v := by
              have w0 : 0 ≤ y ∧ (ct 2 ≤ (0 : Nat) → y ≤ 0) := hchk 0 (by omega)
              have w1 : 0 ≤ z ∧ (ct 2 ≤ (1 : Nat) → z ≤ 0) := hchk 1 (by omega)
              have w2 : 0 ≤ u ∧ (ct 2 ≤ (2 : Nat) → u ≤ 0) := hchk 2 (by omega)
              have w3 : 0 ≤ v ∧ (ct 2 ≤ (3 : Nat) → v ≤ 0) := hchk 3 (by omega)
              unfold x_wtd
              refine ⟨?_, ?_, ?_, ?_⟩ <;> omega
            have hw0 : 0 ≤ y := (hchk 0 (by omega)).1
            have hw1 : 0 ≤ z := (hchk 1 (by omega)).1
            have hw2 : 0 ≤ u := (hchk 2 (by omega)).1
            have hw3 : 0 ≤ v := (hchk 3 (by omega)).1
            have esm : sm = y + z + u + v := by
              rw [hsm, show i.toNat = 4 by omega]
              show 0 + y + z + u + v = _
              omega
            refine jr_lload (pc := 118) h dX9_fewest_118 rfl ?_
            refine jr_ldc2 (pc := 120) h dX9_fewest_120 wm_1400 ?_
            rw [show (24 : Int64) = Int64.ofInt 24 from by decide]
            refine jr_lcmp (pc := 123) h dX9_fewest_123 (by omega) (by omega) ?_
            have lz := lcz_s sm 24
            refine jr_if_le (pc := 124) h 133 dX9_fewest_124 (by decide) (by omega) (fun c_124 => ?_) (fun c_124 => ?_)
            · first | have d_124 := bz_0.mp c_124 | have d_124 := bz_1.mp c_124 | skip
              refine jr_iconst (pc := 133) h dX9_fewest_133 ?_
              refine jr_istore (pc := 134) h [_, _, _, _, _, _, _, _, _, _, _, _] dX9_fewest_134 (by decide) rfl ?_
              have hsF : ∀ k, k < 4 → 0 ≤ sF ct td k ∧ sF ct td k ≤ 8 := fun k hk => by
                unfold sF
                split
                · have := (hLI 2 k (by omega) (by omega) (by omega)).2.2.1 rfl
                  omega
                · omega
              have hs0r := hsF 0 (by omega)
              have hs1r := hsF 1 (by omega)
              have hs2r := hsF 2 (by omega)
              have hs3r := hsF 3 (by omega)
              have hdep := (hLI 5 x (by omega) (by omega) (by omega)).2.2.2.2.2.1 rfl
              have hs39 : v = 0 ∨ 1 ≤ sF ct td 3 := by
                have := hwt.2.2.2
                unfold x_wtd at this
                by_cases q : v = 0
                · exact Or.inl q
                · refine Or.inr ?_
                  unfold sF
                  rw [if_pos (by omega)]
                  have := (hLI 2 3 (by omega) (by omega) (by omega)).2.2.1 rfl
                  exact this.1
              have e70 : b7 0 = y := hb7 0 (by omega)
              have e71 : b7 1 = z := hb7 1 (by omega)
              have e72 : b7 2 = u := hb7 2 (by omega)
              have e73 : b7 3 = v := hb7 3 (by omega)
              have hM34 : c_sts b7 ≤ 2401 := sts_24 (lt4 (by omega) (by omega) (by omega) (by omega)) (by omega)
              have hfew : isMin (sF ct td) (c_get td 5 x 2) (c_few td (wnF y z u v) (fun _ => 0) (c_get td 5 x 2)) (wnF y z u v) := by
                refine few_min (lt4 hw0 hw1 hw2 hw3) (fun k hk h1 => ?_) (fun k hk => ⟨(hsF k hk).1, (c_getr hrt 2 k 0).1⟩) (by omega) (by show y + z + u + v ≤ 1000; omega)
                have hk2 : (k : Int) < ct 2 := by
                  have hx0 := hwt
                  unfold x_wtd at hx0
                  have e : ∀ k, k < 4 → 1 ≤ wnF y z u v k → (k : Int) < ct 2 := lt4 (P := fun k => 1 ≤ wnF y z u v k → (k : Int) < ct 2) (fun h => by have h : 1 ≤ y := h; omega) (fun h => by have h : 1 ≤ z := h; omega) (fun h => by have h : 1 ≤ u := h; omega) (fun h => by have h : 1 ≤ v := h; omega)
                  exact e k hk h1
                have e : sF ct td k = c_get td 2 k 0 := by unfold sF; rw [if_pos hk2]
                have := (hLI 2 k (by omega) (by omega) hk2).2.2.1 rfl
                have := hsF k hk
                exact ⟨e, by omega, by omega⟩
              have f0x := f1
              have hMFx := hMF
              clear l2 l3 l4 l6 l7 l8 l9 l10 l11 l12 k5 k6 k7 k9 k10 k11 k12 k13 k14 k15 e0 e1 e2 e3 e4 hcr hc0 hc1 hc2 hc5
              have lp1 : ∀ (dq1 : Nat) (i : Int) (u9 : Option Value) (u10 : Option Value) (u11 : Option Value) (M1 : jdM) (b6 : Nat → Int), (0 ≤ i ∧ i ≤ y + 1) → (MX M1 n m (up g 0 0) w (.ref f) rd (up (up B 7 b7) 6 b6)) → (fr (MXf m) M3 M1) → (fwT (sF ct td) (c_get td 5 x 2) b7 b6 i 0 0 0) → (100 - i).toNat < dq1 → J κ 12 0 0 n 136 [some (.ref m), some (jI x), some (jI y), some (jI z), some (jI u), some (jI v), some (jL sm), none, some (jI i), u9, u10, u11] [] M1 := by
                intro dq1
                induction dq1 with
                | zero => intro i u9 u10 u11 M1 b6 hi hX f9x hT hd; omega
                | succ dq1 ih1 =>
                  intro i u9 u10 u11 M1 b6 hi hX f9x hT hd
                  obtain ⟨hnm, hOm, hBm⟩ := id hX
                  have hOm : M1 m = jdO 9 (fX9 m _ _ (.ref f) rd) := hOm
                  have hB7 : M1 (m + 7) = jdA 4 b7 := hBm 7 (by omega) (by omega)
                  have hB6 : M1 (m + 6) = jdA 2401 b6 := hBm 6 (by omega) (by omega)
                  have hMF : MF M1 n f gf A := MF_fr hMFx f9x (Nat.le_refl _) (fun k h1 h2 q => by have := q.1; have := q.2; omega)
                  obtain ⟨hnf, hOf, hAf⟩ := id hMF
                  have hA10 : M1 (f + 10) = jdA 2 (A 10) := hAf 10 (by omega) (by omega)
                  refine jr_iload (pc := 136) h dX9_fewest_136 rfl ?_
                  refine jr_iload_n (pc := 138) h dX9_fewest_138 rfl ?_
                  refine jr_icmp_gt (pc := 139) h 251 dX9_fewest_139 (by decide) (by omega) (by omega) (fun c_139 => ?_) (fun c_139 => ?_)
                  · first | have d_139 := bz_0.mp c_139 | have d_139 := bz_1.mp c_139 | skip
                    refine jr_aload_n (pc := 251) h dX9_fewest_251 rfl ?_
                    have hpk8 := pk_r (M := b7) (x := y) (y := z) (z := u) (w := v) (by omega) (by omega) (by omega) (by omega) hM34
                    refine jr_aload_n (pc := 252) h dX9_fewest_252 rfl ?_
                    refine gf_X9_31 (pc := 253) h dX9_fewest_253 (by assumption) (by omega) ?_
                    refine jr_aload_n (pc := 256) h dX9_fewest_256 rfl ?_
                    refine jr_iload_n (pc := 257) h dX9_fewest_257 rfl ?_
                    refine jr_iload_n (pc := 258) h dX9_fewest_258 rfl ?_
                    refine jr_iload (pc := 259) h dX9_fewest_259 rfl ?_
                    refine jr_iload (pc := 261) h dX9_fewest_261 rfl ?_
                    refine iv_X9_578 (pc := 263) h hl hR dX9_fewest_263 ⟨(Nat.le_of_ble_eq_true rfl), (Nat.le_of_ble_eq_true rfl), (Nat.le_of_ble_eq_true rfl), (Nat.le_of_ble_eq_true rfl)⟩ (Nat.le_of_ble_eq_true rfl) (by assumption) (by omega) (s_X9_packed hX) (fun v_263 n_263 M_263 hn_263 hp => ?_)
                    obtain ⟨rfl, rfl, rfl⟩ := hp
                    rw [show up (up B 7 b7) 6 b6 7 = b7 by rw [up_ne (by omega), up_eq]]
                    refine jr_iald (pc := 266) h dX9_fewest_266 (by assumption) (by omega) (by omega) ?_
                    obtain ⟨h81, h82⟩ := hT y z u v (by omega) (by omega) (by omega) (by omega) (by omega)
                    have efw := isMin_u h81 hfew
                    rw [show b6 (pk b7 y z u v).toNat = c_few td (wnF y z u v) (fun _ => 0) (c_get td 5 x 2) from efw]
                    refine iv_X9_62 (pc := 267) h hl hR dX9_fewest_267 ⟨(Nat.le_of_ble_eq_true rfl), (Nat.le_of_ble_eq_true rfl), (Nat.le_of_ble_eq_true rfl), (Nat.le_of_ble_eq_true rfl)⟩ (Nat.le_of_ble_eq_true rfl) (by assumption) (by omega) (s_X9_done hX) (fun v_267 n_267 M_267 hn_267 hp => ?_)
                    obtain ⟨⟨rfl, rfl⟩, hX, f9⟩ := hp
                    have f9x := fr_tr f9x f9
                    refine jr_iret (pc := 270) h hRt dX9_fewest_270 rfl (Nat.le_of_ble_eq_true rfl) (Nat.le_of_ble_eq_true rfl) ?_
                    refine lfFw (B := B) ?_ hX (fr_tr f0x (by assumption))
                    unfold x_fewest
                    rw [if_pos (by omega), if_pos hwt, if_neg (by omega)]
                  · first | have d_139 := bz_0.mp c_139 | have d_139 := bz_1.mp c_139 | skip
                    refine jr_iconst (pc := 142) h dX9_fewest_142 ?_
                    refine jr_istore (pc := 143) h [_, _, _, _, _, _, _, _, _, _, _, _] dX9_fewest_143 (by decide) rfl ?_
                    have lp2 : ∀ (dq2 : Nat) (j : Int) (u10 : Option Value) (u11 : Option Value) (M1 : jdM) (b6 : Nat → Int), (0 ≤ j ∧ j ≤ z + 1) → (MX M1 n m (up g 0 0) w (.ref f) rd (up (up B 7 b7) 6 b6)) → (fr (MXf m) M3 M1) → (fwT (sF ct td) (c_get td 5 x 2) b7 b6 i j 0 0) → (100 - j).toNat < dq2 → J κ 12 0 0 n 145 [some (.ref m), some (jI x), some (jI y), some (jI z), some (jI u), some (jI v), some (jL sm), none, some (jI i), some (jI j), u10, u11] [] M1 := by
                      intro dq2
                      induction dq2 with
                      | zero => intro j u10 u11 M1 b6 hj hX f9x hT hd; omega
                      | succ dq2 ih2 =>
                        intro j u10 u11 M1 b6 hj hX f9x hT hd
                        obtain ⟨hnm, hOm, hBm⟩ := id hX
                        have hOm : M1 m = jdO 9 (fX9 m _ _ (.ref f) rd) := hOm
                        have hB7 : M1 (m + 7) = jdA 4 b7 := hBm 7 (by omega) (by omega)
                        have hB6 : M1 (m + 6) = jdA 2401 b6 := hBm 6 (by omega) (by omega)
                        have hMF : MF M1 n f gf A := MF_fr hMFx f9x (Nat.le_refl _) (fun k h1 h2 q => by have := q.1; have := q.2; omega)
                        obtain ⟨hnf, hOf, hAf⟩ := id hMF
                        have hA10 : M1 (f + 10) = jdA 2 (A 10) := hAf 10 (by omega) (by omega)
                        refine jr_iload (pc := 145) h dX9_fewest_145 rfl ?_
                        refine jr_iload_n (pc := 147) h dX9_fewest_147 rfl ?_
                        refine jr_icmp_gt (pc := 148) h 245 dX9_fewest_148 (by decide) (by omega) (by omega) (fun c_148 => ?_) (fun c_148 => ?_)
                        · skip
                          refine jr_iinc (pc := 245) h [_, _, _, _, _, _, _, _, _, _, _, _] dX9_fewest_245 (by decide) rfl rfl ?_
                          refine jr_goto (pc := 248) h 136 dX9_fewest_248 (by decide) ?_
                          refine ih1 _ _ _ _ _ _ (by omega) hX f9x (fwT_j (by omega) hT) (by omega)
                        · skip
                          refine jr_iconst (pc := 151) h dX9_fewest_151 ?_
                          refine jr_istore (pc := 152) h [_, _, _, _, _, _, _, _, _, _, _, _] dX9_fewest_152 (by decide) rfl ?_
                          have lp3 : ∀ (dq3 : Nat) (k : Int) (u11 : Option Value) (M1 : jdM) (b6 : Nat → Int), (0 ≤ k ∧ k ≤ u + 1) → (MX M1 n m (up g 0 0) w (.ref f) rd (up (up B 7 b7) 6 b6)) → (fr (MXf m) M3 M1) → (fwT (sF ct td) (c_get td 5 x 2) b7 b6 i j k 0) → (100 - k).toNat < dq3 → J κ 12 0 0 n 154 [some (.ref m), some (jI x), some (jI y), some (jI z), some (jI u), some (jI v), some (jL sm), none, some (jI i), some (jI j), some (jI k), u11] [] M1 := by
                            intro dq3
                            induction dq3 with
                            | zero => intro k u11 M1 b6 hk hX f9x hT hd; omega
                            | succ dq3 ih3 =>
                              intro k u11 M1 b6 hk hX f9x hT hd
                              obtain ⟨hnm, hOm, hBm⟩ := id hX
                              have hOm : M1 m = jdO 9 (fX9 m _ _ (.ref f) rd) := hOm
                              have hB7 : M1 (m + 7) = jdA 4 b7 := hBm 7 (by omega) (by omega)
                              have hB6 : M1 (m + 6) = jdA 2401 b6 := hBm 6 (by omega) (by omega)
                              have hMF : MF M1 n f gf A := MF_fr hMFx f9x (Nat.le_refl _) (fun k h1 h2 q => by have := q.1; have := q.2; omega)
                              obtain ⟨hnf, hOf, hAf⟩ := id hMF
                              have hA10 : M1 (f + 10) = jdA 2 (A 10) := hAf 10 (by omega) (by omega)
                              refine jr_iload (pc := 154) h dX9_fewest_154 rfl ?_
                              refine jr_iload (pc := 156) h dX9_fewest_156 rfl ?_
                              refine jr_icmp_gt (pc := 158) h 239 dX9_fewest_158 (by decide) (by omega) (by omega) (fun c_158 => ?_) (fun c_158 => ?_)
                              · skip
                                refine jr_iinc (pc := 239) h [_, _, _, _, _, _, _, _, _, _, _, _] dX9_fewest_239 (by decide) rfl rfl ?_
                                refine jr_goto (pc := 242) h 145 dX9_fewest_242 (by decide) ?_
                                refine ih2 _ _ _ _ _ (by omega) hX f9x (fwT_k (by omega) hT) (by omega)
                              · skip
                                refine jr_iconst (pc := 161) h dX9_fewest_161 ?_
                                refine jr_istore (pc := 162) h [_, _, _, _, _, _, _, _, _, _, _, _] dX9_fewest_162 (by decide) rfl ?_
                                have lp4 : ∀ (dq4 : Nat) (l : Int) (M1 : jdM) (b6 : Nat → Int), (0 ≤ l ∧ l ≤ v + 1) → (MX M1 n m (up g 0 0) w (.ref f) rd (up (up B 7 b7) 6 b6)) → (fr (MXf m) M3 M1) → (fwT (sF ct td) (c_get td 5 x 2) b7 b6 i j k l) → (100 - l).toNat < dq4 → J κ 12 0 0 n 164 [some (.ref m), some (jI x), some (jI y), some (jI z), some (jI u), some (jI v), some (jL sm), none, some (jI i), some (jI j), some (jI k), some (jI l)] [] M1 := by
                                  intro dq4
                                  induction dq4 with
                                  | zero => intro l M1 b6 hlv hX f9x hT hd; omega
                                  | succ dq4 ih4 =>
                                    intro l M1 b6 hlv hX f9x hT hd
                                    obtain ⟨hnm, hOm, hBm⟩ := id hX
                                    have hOm : M1 m = jdO 9 (fX9 m _ _ (.ref f) rd) := hOm
                                    have hB7 : M1 (m + 7) = jdA 4 b7 := hBm 7 (by omega) (by omega)
                                    have hB6 : M1 (m + 6) = jdA 2401 b6 := hBm 6 (by omega) (by omega)
                                    have hMF : MF M1 n f gf A := MF_fr hMFx f9x (Nat.le_refl _) (fun k h1 h2 q => by have := q.1; have := q.2; omega)
                                    obtain ⟨hnf, hOf, hAf⟩ := id hMF
                                    have hA10 : M1 (f + 10) = jdA 2 (A 10) := hAf 10 (by omega) (by omega)
                                    refine jr_iload (pc := 164) h dX9_fewest_164 rfl ?_
                                    refine jr_iload (pc := 166) h dX9_fewest_166 rfl ?_
                                    refine jr_icmp_gt (pc := 168) h 233 dX9_fewest_168 (by decide) (by omega) (by omega) (fun c_168 => ?_) (fun c_168 => ?_)
                                    · first | have d_168 := bz_0.mp c_168 | have d_168 := bz_1.mp c_168 | skip
                                      refine jr_iinc (pc := 233) h [_, _, _, _, _, _, _, _, _, _, _, _] dX9_fewest_233 (by decide) rfl rfl ?_
                                      refine jr_goto (pc := 236) h 154 dX9_fewest_236 (by decide) ?_
                                      refine ih3 _ _ _ _ (by omega) hX f9x (fwT_l (by omega) hT) (by omega)
                                    · first | have d_168 := bz_0.mp c_168 | have d_168 := bz_1.mp c_168 | skip
                                      have hpk9 := pk_r (M := b7) (x := i) (y := j) (z := k) (w := l) (by omega) (by omega) (by omega) (by omega) hM34
                                      have g10 := (a5 x.toNat (by omega)).2.2
                                      rw [show ((x.toNat : Nat) : Int) = x by omega] at g10
                                      refine jr_aload_n (pc := 171) h dX9_fewest_171 rfl ?_
                                      refine gf_X9_31 (pc := 172) h dX9_fewest_172 (by assumption) (by omega) ?_
                                      refine jr_aload_n (pc := 175) h dX9_fewest_175 rfl ?_
                                      refine jr_iload (pc := 176) h dX9_fewest_176 rfl ?_
                                      refine jr_iload (pc := 178) h dX9_fewest_178 rfl ?_
                                      refine jr_iload (pc := 180) h dX9_fewest_180 rfl ?_
                                      refine jr_iload (pc := 182) h dX9_fewest_182 rfl ?_
                                      refine iv_X9_578 (pc := 184) h hl hR dX9_fewest_184 ⟨(Nat.le_of_ble_eq_true rfl), (Nat.le_of_ble_eq_true rfl), (Nat.le_of_ble_eq_true rfl), (Nat.le_of_ble_eq_true rfl)⟩ (Nat.le_of_ble_eq_true rfl) (by assumption) (by omega) (s_X9_packed hX) (fun v_184 n_184 M_184 hn_184 hp => ?_)
                                      obtain ⟨rfl, rfl, rfl⟩ := hp
                                      rw [show up (up B 7 b7) 6 b6 7 = b7 by rw [up_ne (by omega), up_eq]]
                                      refine jr_iload (pc := 187) h dX9_fewest_187 rfl ?_
                                      refine jr_iload (pc := 189) h dX9_fewest_189 rfl ?_
                                      refine jr_iadd (pc := 191) h dX9_fewest_191 ?_
                                      refine jr_iload (pc := 192) h dX9_fewest_192 rfl ?_
                                      refine jr_iadd (pc := 194) h dX9_fewest_194 ?_
                                      refine jr_iload (pc := 195) h dX9_fewest_195 rfl ?_
                                      refine jr_iadd (pc := 197) h dX9_fewest_197 ?_
                                      refine jr_if_ne (pc := 198) h 205 dX9_fewest_198 (by decide) (by omega) (fun c_198 => ?_) (fun c_198 => ?_)
                                      · first | have d_198 := bz_0.mp c_198 | have d_198 := bz_1.mp c_198 | skip
                                        refine jr_aload_n (pc := 205) h dX9_fewest_205 rfl ?_
                                        refine jr_aload_n (pc := 206) h dX9_fewest_206 rfl ?_
                                        refine gf_X9_425 (pc := 207) h dX9_fewest_207 (by assumption) (by omega) ?_
                                        refine gf_X9_331 (pc := 210) h dX9_fewest_210 (by assumption) (by omega) ?_
                                        refine jr_iload_n (pc := 213) h dX9_fewest_213 rfl ?_
                                        refine jr_iald (pc := 214) h dX9_fewest_214 (by assumption) (by omega) (by omega) ?_
                                        rw [g10]
                                        refine jr_iload (pc := 215) h dX9_fewest_215 rfl ?_
                                        refine jr_iload (pc := 217) h dX9_fewest_217 rfl ?_
                                        refine jr_iload (pc := 219) h dX9_fewest_219 rfl ?_
                                        refine jr_iload (pc := 221) h dX9_fewest_221 rfl ?_
                                        refine iv_X9_584 (pc := 223) h hl hR dX9_fewest_223 ⟨(Nat.le_of_ble_eq_true rfl), (Nat.le_of_ble_eq_true rfl), (Nat.le_of_ble_eq_true rfl), (Nat.le_of_ble_eq_true rfl)⟩ (Nat.le_of_ble_eq_true rfl) (by assumption) (by omega) (s_X9_lastDrawer hX hMF hFM hsep (ho := c_get td 5 x 2) (a := i) (b := j) (c := k) (d := l) (by omega) (by omega) (by omega) (by omega) (by omega) (by omega) (lt4 (P := fun t => 1 ≤ wnF i j k l t → sF ct td t ≤ c_get td 5 x 2) (fun _ => by omega) (fun _ => by omega) (fun _ => by omega) (fun _ => by omega)) (by omega) (fun x1 y1 z1 w1 q1 q2 q3 q4 q5 => ⟨pk_r (M := b7) (by omega) (by omega) (by omega) (by omega) hM34, hT x1 y1 z1 w1 (by omega) (by omega) (by omega) (by omega) (by omega)⟩)) (fun v_223 n_223 M_223 hn_223 hp => ?_)
                                        obtain ⟨r9, ⟨rfl, rfl, rfl⟩, hmin, hr24⟩ := hp
                                        refine jr_iast (pc := 226) h dX9_fewest_226 hB6 (by omega) (by omega) ?_
                                        refine jm_gen (fun M3 hM3 => ?_)
                                        have hX := MX_B (i := 6) hX hM3 (by omega)
                                        rw [up_up] at hX
                                        have f9 : fr (MXf m) _ M3 := fr_up (S := MXf m) hM3 ⟨by omega, by omega⟩
                                        have f9x := fr_tr f9x f9
                                        refine jr_iinc (pc := 227) h [_, _, _, _, _, _, _, _, _, _, _, _] dX9_fewest_227 (by decide) rfl rfl ?_
                                        refine jr_goto (pc := 230) h 164 dX9_fewest_230 (by decide) ?_
                                        first
                                        | (refine ih4 _ _ _ (by omega) hX f9x (fwT_s hM34 (by omega) (by omega) (by omega) (by omega) hT (isMin_0 (lt4 (P := fun t => wnF i j k l t = 0) (by show i = 0; omega) (by show j = 0; omega) (by show k = 0; omega) (by show l = 0; omega))) (by omega)) (by omega))
                                        | (refine ih4 _ _ _ (by omega) hX f9x (fwT_s hM34 (by omega) (by omega) (by omega) (by omega) hT hmin hr24) (by omega))
                                      · first | have d_198 := bz_0.mp c_198 | have d_198 := bz_1.mp c_198 | skip
                                        refine jr_iconst (pc := 201) h dX9_fewest_201 ?_
                                        refine jr_goto (pc := 202) h 226 dX9_fewest_202 (by decide) ?_
                                        refine jr_iast (pc := 226) h dX9_fewest_226 hB6 (by omega) (by omega) ?_
                                        refine jm_gen (fun M3 hM3 => ?_)
                                        have hX := MX_B (i := 6) hX hM3 (by omega)
                                        rw [up_up] at hX
                                        have f9 : fr (MXf m) _ M3 := fr_up (S := MXf m) hM3 ⟨by omega, by omega⟩
                                        have f9x := fr_tr f9x f9
                                        refine jr_iinc (pc := 227) h [_, _, _, _, _, _, _, _, _, _, _, _] dX9_fewest_227 (by decide) rfl rfl ?_
                                        refine jr_goto (pc := 230) h 164 dX9_fewest_230 (by decide) ?_
                                        first
                                        | (refine ih4 _ _ _ (by omega) hX f9x (fwT_s hM34 (by omega) (by omega) (by omega) (by omega) hT (isMin_0 (lt4 (P := fun t => wnF i j k l t = 0) (by show i = 0; omega) (by show j = 0; omega) (by show k = 0; omega) (by show l = 0; omega))) (by omega)) (by omega))
                                        | (refine ih4 _ _ _ (by omega) hX f9x (fwT_s hM34 (by omega) (by omega) (by omega) (by omega) hT hmin hr24) (by omega))
                                exact lp4 _ _ _ _ (by omega) hX f9x hT (Nat.lt_succ_self _)
                          exact lp3 _ _ _ _ _ (by omega) hX f9x hT (Nat.lt_succ_self _)
                    exact lp2 _ _ _ _ _ _ (by omega) hX f9x hT (Nat.lt_succ_self _)
              refine lp1 _ _ _ _ _ _ _ (by omega) (by rw [show up (up B 7 b7) 6 (B 6) = up B 7 b7 from up_id (up_ne (by omega))]; exact hX) fr_rf (fun x1 y1 z1 w1 q1 q2 q3 q4 q5 => by omega) (Nat.lt_succ_self _)
            · first | have d_124 := bz_0.mp c_124 | have d_124 := bz_1.mp c_124 | skip
              refine jr_aload_n (pc := 127) h dX9_fewest_127 rfl ?_
              refine jr_iconst (pc := 128) h dX9_fewest_128 ?_
              refine iv_X9_58 (pc := 129) h hl hR dX9_fewest_129 ⟨(Nat.le_of_ble_eq_true rfl), (Nat.le_of_ble_eq_true rfl), (Nat.le_of_ble_eq_true rfl), (Nat.le_of_ble_eq_true rfl)⟩ (Nat.le_of_ble_eq_true rfl) (by assumption) (by omega) (s_X9_refused hX) (fun v_129 n_129 M_129 hn_129 hp => ?_)
              obtain ⟨⟨rfl, rfl⟩, hX, f9⟩ := hp
              have f1 := fr_tr f1 f9
              obtain ⟨hnm, hOm, hBm⟩ := id hX
              refine jr_iret (pc := 132) h hRt dX9_fewest_132 rfl (Nat.le_of_ble_eq_true rfl) (Nat.le_of_ble_eq_true rfl) ?_
              refine lfFw (B := B) (b6 := B 6) (b7 := b7) ?_ (by rw [show up (up B 7 b7) 6 (B 6) = up B 7 b7 from up_id (up_ne (by omega))]; exact hX) f1
              unfold x_fewest
              rw [if_pos (by omega), if_pos hwt, if_pos (by omega)]
          · first | have d_58 := bz_0.mp c_58 | have d_58 := bz_1.mp c_58 | skip
            have hbr : -2147483648 ≤ b7 i.toNat ∧ b7 i.toNat < 2147483648 := by
              rw [hb7 i.toNat (by omega)]
              exact lt4 (P := fun j => -2147483648 ≤ wnF y z u v j ∧ wnF y z u v j < 2147483648) hy hz hu hv i.toNat (by omega)
            refine jr_aload_n (pc := 61) h dX9_fewest_61 rfl ?_
            refine gf_X9_34 (pc := 62) h dX9_fewest_62 (by assumption) (by omega) ?_
            refine jr_iload (pc := 65) h dX9_fewest_65 rfl ?_
            refine jr_iald (pc := 67) h dX9_fewest_67 (by assumption) (by omega) (by omega) ?_
            refine jr_if_lt (pc := 68) h 93 dX9_fewest_68 (by decide) (by omega) (fun c_68 => ?_) (fun c_68 => ?_)
            · first | have d_68 := bz_0.mp c_68 | have d_68 := bz_1.mp c_68 | skip
              refine jr_aload_n (pc := 93) h dX9_fewest_93 rfl ?_
              refine jr_iconst (pc := 94) h dX9_fewest_94 ?_
              refine iv_X9_58 (pc := 95) h hl hR dX9_fewest_95 ⟨(Nat.le_of_ble_eq_true rfl), (Nat.le_of_ble_eq_true rfl), (Nat.le_of_ble_eq_true rfl), (Nat.le_of_ble_eq_true rfl)⟩ (Nat.le_of_ble_eq_true rfl) (by assumption) (by omega) (s_X9_refused hX) (fun v_95 n_95 M_95 hn_95 hp => ?_)
              obtain ⟨⟨rfl, rfl⟩, hX, f9⟩ := hp
              have f1 := fr_tr f1 f9
              obtain ⟨hnm, hOm, hBm⟩ := id hX
              refine jr_iret (pc := 98) h hRt dX9_fewest_98 rfl (Nat.le_of_ble_eq_true rfl) (Nat.le_of_ble_eq_true rfl) ?_
              refine lfFw (B := B) (b6 := B 6) (b7 := b7) ?_ (by rw [show up (up B 7 b7) 6 (B 6) = up B 7 b7 from up_id (up_ne (by omega))]; exact hX) f1
              unfold x_fewest
              rw [if_pos (by omega), if_neg (fun hh => by
                have hh' : ∀ k, k < 4 → x_wtd ct (k : Nat) (wnF y z u v k) := lt4 (P := fun k => x_wtd ct (k : Nat) (wnF y z u v k)) hh.1 hh.2.1 hh.2.2.1 hh.2.2.2
                have := hh' i.toNat (by omega)
                unfold x_wtd at this
                rw [hb7 i.toNat (by omega)] at *
                omega)]
            · first | have d_68 := bz_0.mp c_68 | have d_68 := bz_1.mp c_68 | skip
              refine jr_iload (pc := 71) h dX9_fewest_71 rfl ?_
              refine jr_aload_n (pc := 73) h dX9_fewest_73 rfl ?_
              refine gf_X9_425 (pc := 74) h dX9_fewest_74 (by assumption) (by omega) ?_
              refine gf_X9_211 (pc := 77) h dX9_fewest_77 (by assumption) (by omega) ?_
              refine jr_icmp_lt (pc := 80) h 99 dX9_fewest_80 (by decide) (by omega) (by omega) (fun c_80 => ?_) (fun c_80 => ?_)
              · first | have d_80 := bz_0.mp c_80 | have d_80 := bz_1.mp c_80 | skip
                refine jr_lload (pc := 99) h dX9_fewest_99 rfl ?_
                refine jr_aload_n (pc := 101) h dX9_fewest_101 rfl ?_
                refine gf_X9_34 (pc := 102) h dX9_fewest_102 (by assumption) (by omega) ?_
                refine jr_iload (pc := 105) h dX9_fewest_105 rfl ?_
                refine jr_iald (pc := 107) h dX9_fewest_107 (by assumption) (by omega) (by omega) ?_
                refine jr_i2l (pc := 108) h dX9_fewest_108 (by omega) ?_
                refine jr_ladd (pc := 109) h dX9_fewest_109 ?_
                refine jr_lstore (pc := 110) h [_, _, _, _, _, _, _, _, _, _, _, _] dX9_fewest_110 (by decide) rfl ?_
                refine jr_iinc (pc := 112) h [_, _, _, _, _, _, _, _, _, _, _, _] dX9_fewest_112 (by decide) rfl rfl ?_
                refine jr_goto (pc := 115) h 55 dX9_fewest_115 (by decide) ?_
                refine ihc _ _ (by omega) (fun j hj => ?_) ?_ (by omega)
                · by_cases q : j = i.toNat
                  · subst q
                    rw [hb7 i.toNat (by omega)] at *
                    omega
                  · exact hchk j (by omega)
                · rw [show (i + 1).toNat = i.toNat + 1 by omega, sumZ, ← hsm, hb7 i.toNat (by omega), show ((i.toNat : Nat) : Int).toNat = i.toNat by omega]
              · first | have d_80 := bz_0.mp c_80 | have d_80 := bz_1.mp c_80 | skip
                refine jr_aload_n (pc := 83) h dX9_fewest_83 rfl ?_
                refine gf_X9_34 (pc := 84) h dX9_fewest_84 (by assumption) (by omega) ?_
                refine jr_iload (pc := 87) h dX9_fewest_87 rfl ?_
                refine jr_iald (pc := 89) h dX9_fewest_89 (by assumption) (by omega) (by omega) ?_
                refine jr_if_le (pc := 90) h 99 dX9_fewest_90 (by decide) (by omega) (fun c_90 => ?_) (fun c_90 => ?_)
                · first | have d_90 := bz_0.mp c_90 | have d_90 := bz_1.mp c_90 | skip
                  refine jr_lload (pc := 99) h dX9_fewest_99 rfl ?_
                  refine jr_aload_n (pc := 101) h dX9_fewest_101 rfl ?_
                  refine gf_X9_34 (pc := 102) h dX9_fewest_102 (by assumption) (by omega) ?_
                  refine jr_iload (pc := 105) h dX9_fewest_105 rfl ?_
                  refine jr_iald (pc := 107) h dX9_fewest_107 (by assumption) (by omega) (by omega) ?_
                  refine jr_i2l (pc := 108) h dX9_fewest_108 (by omega) ?_
                  refine jr_ladd (pc := 109) h dX9_fewest_109 ?_
                  refine jr_lstore (pc := 110) h [_, _, _, _, _, _, _, _, _, _, _, _] dX9_fewest_110 (by decide) rfl ?_
                  refine jr_iinc (pc := 112) h [_, _, _, _, _, _, _, _, _, _, _, _] dX9_fewest_112 (by decide) rfl rfl ?_
                  refine jr_goto (pc := 115) h 55 dX9_fewest_115 (by decide) ?_
                  refine ihc _ _ (by omega) (fun j hj => ?_) ?_ (by omega)
                  · by_cases q : j = i.toNat
                    · subst q
                      rw [hb7 i.toNat (by omega)] at *
                      omega
                    · exact hchk j (by omega)
                  · rw [show (i + 1).toNat = i.toNat + 1 by omega, sumZ, ← hsm, hb7 i.toNat (by omega), show ((i.toNat : Nat) : Int).toNat = i.toNat by omega]
                · first | have d_90 := bz_0.mp c_90 | have d_90 := bz_1.mp c_90 | skip
                  refine jr_aload_n (pc := 93) h dX9_fewest_93 rfl ?_
                  refine jr_iconst (pc := 94) h dX9_fewest_94 ?_
                  refine iv_X9_58 (pc := 95) h hl hR dX9_fewest_95 ⟨(Nat.le_of_ble_eq_true rfl), (Nat.le_of_ble_eq_true rfl), (Nat.le_of_ble_eq_true rfl), (Nat.le_of_ble_eq_true rfl)⟩ (Nat.le_of_ble_eq_true rfl) (by assumption) (by omega) (s_X9_refused hX) (fun v_95 n_95 M_95 hn_95 hp => ?_)
                  obtain ⟨⟨rfl, rfl⟩, hX, f9⟩ := hp
                  have f1 := fr_tr f1 f9
                  obtain ⟨hnm, hOm, hBm⟩ := id hX
                  refine jr_iret (pc := 98) h hRt dX9_fewest_98 rfl (Nat.le_of_ble_eq_true rfl) (Nat.le_of_ble_eq_true rfl) ?_
                  refine lfFw (B := B) (b6 := B 6) (b7 := b7) ?_ (by rw [show up (up B 7 b7) 6 (B 6) = up B 7 b7 from up_id (up_ne (by omega))]; exact hX) f1
                  unfold x_fewest
                  rw [if_pos (by omega), if_neg (fun hh => by
                    have hh' : ∀ k, k < 4 → x_wtd ct (k : Nat) (wnF y z u v k) := lt4 (P := fun k => x_wtd ct (k : Nat) (wnF y z u v k)) hh.1 hh.2.1 hh.2.2.1 hh.2.2.2
                    have := hh' i.toNat (by omega)
                    unfold x_wtd at this
                    rw [hb7 i.toNat (by omega)] at *
                    omega)]
      exact lpc _ _ _ (by omega) (fun j hj => by omega) rfl (Nat.lt_succ_self _)
    · first | have d_10 := bz_0.mp c_10 | have d_10 := bz_1.mp c_10 | skip
      refine jr_aload_n (pc := 13) h dX9_fewest_13 rfl ?_
      refine jr_iconst (pc := 14) h dX9_fewest_14 ?_
      refine iv_X9_58 (pc := 15) h hl hR dX9_fewest_15 ⟨(Nat.le_of_ble_eq_true rfl), (Nat.le_of_ble_eq_true rfl), (Nat.le_of_ble_eq_true rfl), (Nat.le_of_ble_eq_true rfl)⟩ (Nat.le_of_ble_eq_true rfl) (by assumption) (by omega) (s_X9_refused hX) (fun v_15 n_15 M_15 hn_15 hp => ?_)
      obtain ⟨⟨rfl, rfl⟩, hX, f9⟩ := hp
      have f1 := fr_tr f1 f9
      obtain ⟨hnm, hOm, hBm⟩ := id hX
      refine jr_iret (pc := 18) h hRt dX9_fewest_18 rfl (Nat.le_of_ble_eq_true rfl) (Nat.le_of_ble_eq_true rfl) ?_
      refine lfFw (B := B) (b6 := B 6) (b7 := B 7) ?_ (by rw [show up (up B 7 (B 7)) 6 (B 6) = B from by rw [up_self, up_self]]; exact hX) f1
      unfold x_fewest
      rw [if_neg (by omega)]
