/-! 57: the reference: what goes into drawers -/
def giD (D : Nat → Int) (cnt sh : Int) : Nat → Int := if ffd D sh 0 cnt.toNat < 0 then D else up D (ffd D sh 0 cnt.toNat).toNat (D (ffd D sh 0 cnt.toNat).toNat - sh)
theorem gi_ff {D : Nat → Int} {s : Int × Int × (Nat → Int)} {cnt sh : Int} (hc : 0 ≤ cnt) (ha : agr cnt D s.2.2) : ffd D sh 0 cnt.toNat = ffd s.2.2 sh 0 cnt.toNat := ffd_cong (e := cnt) ha (by omega) (by omega)
theorem gi_step {D : Nat → Int} {s : Int × Int × (Nat → Int)} {cnt sh : Int} {i : Int} (hc : 0 ≤ cnt) (ha : agr cnt D s.2.2) (h0 : s.1 = 0) : agr cnt (giD D cnt sh) (tkS cnt sh s i).2.2 ∧ ((tkS cnt sh s i).1 = 0 ↔ ¬ ffd D sh 0 cnt.toNat < 0) ∧ (tkS cnt sh s i).2.1 = (if ffd D sh 0 cnt.toNat < 0 then s.2.1 else s.2.1 + 1) := by
  have e := gi_ff (sh := sh) hc ha
  unfold giD
  by_cases q : ffd D sh 0 cnt.toNat < 0
  · rw [if_pos q, if_pos q, tkS_no h0 (by rw [← e]; exact q)]
    exact ⟨ha, by simp [q], rfl⟩
  · rw [if_neg q, if_neg q, tkS_y h0 (by rw [← e]; exact q), ← e]
    have hr := ffd_r (rm := D) (sh := sh) (d := cnt.toNat) (i := 0) (by omega)
    have hp : D (ffd D sh 0 cnt.toNat).toNat = s.2.2 (ffd D sh 0 cnt.toNat).toNat := ha _ (by omega)
    refine ⟨?_, by simp [q], rfl⟩
    rw [hp]
    exact agr_up ha _ _
theorem giD_b {D : Nat → Int} {cnt sh : Int} (hs : 0 ≤ sh) (hD : ∀ j, 0 ≤ D j ∧ D j ≤ 1000) : ∀ j, 0 ≤ giD D cnt sh j ∧ giD D cnt sh j ≤ 1000 := by
  intro j
  unfold giD
  split
  · exact hD j
  · rename_i q
    have h1 := ffd_ge (rm := D) (sh := sh) (i := 0) (d := cnt.toNat) (by omega)
    have h2 := hD (ffd D sh 0 cnt.toNat).toNat
    by_cases q2 : j = (ffd D sh 0 cnt.toNat).toNat
    · rw [q2, up_eq]; omega
    · rw [up_ne q2]; exact hD j
theorem lfA9D {M M' : jdM} {n m : Nat} {g : Nat → Int} {w : Int} {fl rd : Value} {B : Nat → Nat → Int} {r : Int × Int} {v t : Int} {D1 : Nat → Int} (hD : ∀ j, 0 ≤ D1 j ∧ D1 j ≤ 1000) (e : r = (v, t)) (hX : MX M' n m (up (up (up g 0 0) 1 t) 2 (-1)) w fl rd (up B 2 D1)) (f : fr (MXf m) M M') : (some (jI v) = some (jI r.1) ∧ n = n) ∧ ∃ D1, (∀ j, 0 ≤ D1 j ∧ D1 j ≤ 1000) ∧ MX M' n m (rg g r.2) w fl rd (up B 2 D1) ∧ fr (MXf m) M M' := by
  subst e
  exact ⟨⟨rfl, rfl⟩, D1, hD, hX, f⟩
set_option maxHeartbeats 1000000 in
set_option maxRecDepth 20000 in
theorem s_X9_fitsIn {l : Launch} {n : Nat} {M : jdM} {m : Nat} {g : Nat → Int} {w : Int} {fl rd : Value} {B : Nat → Nat → Int} (hX : MX M n m g w fl rd B) {ct td bk si ld : Nat → Int} (hFX : FX M n m fl ct td bk si ld) (hdl : ∀ j, 0 ≤ B 2 j ∧ B 2 j ≤ 1000) {x : Int} (hx : -2147483648 ≤ x ∧ x < 2147483648) : Ct l yX9_fitsIn cX9_fitsIn 5 (some .int) rX9_fitsIn [.ref m, jI x] n M (fun vv n' M' => (vv = some (jI (x_fits ct td ld x).1) ∧ n = n') ∧ ∃ D1, (∀ j, 0 ≤ D1 j ∧ D1 j ≤ 1000) ∧ MX M' n m (rg g (x_fits ct td ld x).2) w fl rd (up B 2 D1) ∧ fr (MXf m) M M') := by
  refine Ct_of [some (.ref m), some (jI x), none, none, none] (by decide) (Nat.le_of_ble_eq_true rfl) rfl (fun κ hl h hR hRt hmn hn0 => ?_)
  have h : Ok κ RX9 cX9_fitsIn 5 (some .int) := h
  obtain ⟨hnm, hOm, hBm⟩ := id hX
  have hOm : M m = jdO 9 (fX9 m _ _ fl rd) := hOm
  refine jr_aload_n (pc := 0) h dX9_fitsIn_0 rfl ?_
  refine jr_iconst (pc := 1) h dX9_fitsIn_1 ?_
  refine pf_X9_52 (pc := 2) h dX9_fitsIn_2 hOm (by omega) ?_
  refine jm_gen (fun M2 hM2 => ?_)
  rw [fX9_0] at hM2
  have hX := MX_o hX hM2
  have f9 : fr (MXf m) _ M2 := fr_up hM2 ⟨by omega, by omega⟩
  obtain ⟨hnm, hOm, hBm⟩ := id hX
  have f1 := f9
  have hFX := FX_fr hFX f9
  refine jr_aload_n (pc := 5) h dX9_fitsIn_5 rfl ?_
  refine jr_iload_n (pc := 6) h dX9_fitsIn_6 rfl ?_
  refine iv_X9_452 (pc := 7) h hl hR dX9_fitsIn_7 ⟨(Nat.le_of_ble_eq_true rfl), (Nat.le_of_ble_eq_true rfl), (Nat.le_of_ble_eq_true rfl), (Nat.le_of_ble_eq_true rfl)⟩ (Nat.le_of_ble_eq_true rfl) (by assumption) (by omega) (s_X9_isTrolley hX hFX (by omega)) (fun v_7 n_7 M_7 hn_7 hp => ?_)
  obtain ⟨⟨rfl, rfl, rfl⟩, gr_7⟩ := hp
  refine jr_if_ne (pc := 10) h 19 dX9_fitsIn_10 (by decide) (by omega) (fun c_10 => ?_) (fun c_10 => ?_)
  · first | have d_10 := bz_0.mp c_10 | have d_10 := bz_1.mp c_10 | skip
    have hr00 := fun (hz : ∀ j, ct j = 0) => rows0 (td := td) hz
    rcases hFX with ⟨rfl, hz⟩ | ⟨f, gf, A, rfl, hsep, hMF, hFM⟩
    · exfalso
      have z2 := hz 2
      have z5 := hz 5
      have zr := hr00 hz
      omega
    obtain ⟨hnf, hOf, hAf⟩ := id hMF
    obtain ⟨⟨e0, e1, e2, e3, e4⟩, ⟨k5, k6, k7, k8, k9, k10, k11, k12, k13, k14, k15⟩, ⟨a2, a3, a4, a5, a6, a7, a8, a9, a10, a11, a12⟩, ⟨hlim, hLI, hends, hrt⟩, ⟨hbk, hld⟩, hc0, hc1, hc2, hc5⟩ := id hFM
    have l2 := hlim 2 (by omega)
    have l3 := hlim 3 (by omega)
    have l4 := hlim 4 (by omega)
    have l5 := hlim 5 (by omega)
    have l6 := hlim 6 (by omega)
    have l7 := hlim 7 (by omega)
    have l8 := hlim 8 (by omega)
    have l9 := hlim 9 (by omega)
    have l10 := hlim 10 (by omega)
    have l11 := hlim 11 (by omega)
    have l12 := hlim 12 (by omega)
    rw [show (jtab 0).2.2 2 = 4 from rfl] at l2
    rw [show (jtab 0).2.2 3 = 6 from rfl] at l3
    rw [show (jtab 0).2.2 4 = 6 from rfl] at l4
    rw [show (jtab 0).2.2 5 = 2 from rfl] at l5
    rw [show (jtab 0).2.2 6 = 8 from rfl] at l6
    rw [show (jtab 0).2.2 7 = 5 from rfl] at l7
    rw [show (jtab 0).2.2 8 = 6 from rfl] at l8
    rw [show (jtab 0).2.2 9 = 3 from rfl] at l9
    rw [show (jtab 0).2.2 10 = 3 from rfl] at l10
    rw [show (jtab 0).2.2 11 = 4 from rfl] at l11
    rw [show (jtab 0).2.2 12 = 4 from rfl] at l12
    have hcr : 1 ≤ c_rows ct td ∧ c_rows ct td ≤ 40 := by
      have h9 := (hLI 0 0 (by omega) (by omega) (by omega)).1 rfl
      have e9 : c_rows ct td = c_get td 0 0 0 := by unfold c_rows; rw [if_neg (by omega)]
      omega
    refine jr_aload_n (pc := 19) h dX9_fitsIn_19 rfl ?_
    refine jr_iload_n (pc := 20) h dX9_fitsIn_20 rfl ?_
    refine iv_X9_455 (pc := 21) h hl hR dX9_fitsIn_21 ⟨(Nat.le_of_ble_eq_true rfl), (Nat.le_of_ble_eq_true rfl), (Nat.le_of_ble_eq_true rfl), (Nat.le_of_ble_eq_true rfl)⟩ (Nat.le_of_ble_eq_true rfl) (by assumption) (by omega) (s_X9_empties hX hMF hFM hsep (by omega)) (fun v_21 n_21 M_21 hn_21 hp => ?_)
    obtain ⟨⟨rfl, rfl⟩, hX, f9⟩ := hp
    have f1 := fr_tr f1 f9
    have hMF := MF_fr hMF f9 (Nat.le_refl _) (fun k h1 h2 q => by have := q.1; have := q.2; omega)
    have g5 := a5 x.toNat (by omega)
    rw [show ((x.toNat : Nat) : Int) = x by omega] at g5
    have r51 := c_getr hrt 5 x 1
    have r52 := c_getr hrt 5 x 2
    have h51 := ((hLI 5 x (by omega) (by omega) (by omega)).2.2.2.2.2.1 rfl)
    have ecn : c_cnt td x = c_get td 5 x 1 := by unfold c_cnt; omega
    have hcn : 0 ≤ c_cnt td x := by omega
    obtain ⟨D0, eD0⟩ : ∃ D0, (fun j : Nat => if j < 14 then (if (j : Int) < c_get td 5 x 1 then c_get td 5 x 2 else 0) else B 2 j) = D0 := ⟨_, rfl⟩
    rw [eD0] at hX
    have hD0 : ∀ j, 0 ≤ D0 j ∧ D0 j ≤ 1000 := fun j => by
      rw [← eD0]
      have := hdl j
      show 0 ≤ (if j < 14 then (if (j : Int) < c_get td 5 x 1 then c_get td 5 x 2 else 0) else B 2 j) ∧ (if j < 14 then (if (j : Int) < c_get td 5 x 1 then c_get td 5 x 2 else 0) else B 2 j) ≤ 1000
      split
      · split <;> omega
      · exact this
    have ha0 : agr (c_cnt td x) D0 (fun _ => c_get td 5 x 2) := fun j hj => by
      rw [← eD0]
      show (if j < 14 then (if (j : Int) < c_get td 5 x 1 then c_get td 5 x 2 else 0) else B 2 j) = c_get td 5 x 2
      rw [if_pos (by omega), if_pos (by omega)]
    refine jr_iconst (pc := 24) h dX9_fitsIn_24 ?_
    refine jr_istore_n (pc := 25) h [_, _, _, _, _] dX9_fitsIn_25 (by decide) rfl ?_
    refine jr_iconst (pc := 26) h dX9_fitsIn_26 ?_
    refine jr_istore_n (pc := 27) h [_, _, _, _, _] dX9_fitsIn_27 (by decide) rfl ?_
    have hldb : ∀ t k : Int, 0 ≤ c_load ld t k ∧ c_load ld t k ≤ 9999 := fun t k => by
      unfold c_load
      split
      · rw [hld _ (by omega)]
        have h9 := sumZ_b (f := fun i => if c_get td 6 i 0 * 4 + c_get td 6 i 1 = ((t * 4 + k).toNat : Int) then c_get td 6 i 2 else 0) (k := (ct 6).toNat) (lo := 0) (hi := 999) (fun i _ _ => by
          show 0 ≤ (if c_get td 6 i 0 * 4 + c_get td 6 i 1 = ((t * 4 + k).toNat : Int) then c_get td 6 i 2 else 0) ∧ (if c_get td 6 i 0 * 4 + c_get td 6 i 1 = ((t * 4 + k).toNat : Int) then c_get td 6 i 2 else 0) ≤ 999
          have := c_getr hrt 6 i 2
          split <;> omega)
        omega
      · omega
    have outer : ∀ (dqk : Nat) (z k : Int) (u4 : Option Value) (M1 : jdM) (D1 : Nat → Int), (0 ≤ k ∧ k ≤ ct 2) → (MX M1 n m (up g 0 0) w (.ref f) rd (up B 2 D1)) → (MF M1 n f gf A) → (fr (MXf m) M M1) → (∀ j, 0 ≤ D1 j ∧ D1 j ≤ 1000) → (agr (c_cnt td x) D1 (foldS (fun s k => foldS (tkS (c_cnt td x) (c_get td 2 k 0)) s (c_load ld x k).toNat) ((0 : Int), (0 : Int), fun _ : Nat => c_get td 5 x 2) k.toNat).2.2) → (z = bz ((foldS (fun s k => foldS (tkS (c_cnt td x) (c_get td 2 k 0)) s (c_load ld x k).toNat) ((0 : Int), (0 : Int), fun _ : Nat => c_get td 5 x 2) k.toNat).1 = 0)) → (10 - k).toNat < dqk → J κ 5 0 0 n 28 [some (.ref m), some (jI x), some (jI z), some (jI k), u4] [] M1 := by
      intro dqk
      induction dqk with
      | zero => intro z k u4 M1 D1 hk hX1 hMF f1 hD1 ha1 hz hd; omega
      | succ dqk ihk =>
        intro z k u4 M1 D1 hk hX1 hMF f1 hD1 ha1 hz hd
        obtain ⟨hnm, hOm, hBm⟩ := id hX1
        obtain ⟨hnf, hOf, hAf⟩ := id hMF
        obtain ⟨⟨e0, e1, e2, e3, e4⟩, ⟨k5, k6, k7, k8, k9, k10, k11, k12, k13, k14, k15⟩, ⟨a2, a3, a4, a5, a6, a7, a8, a9, a10, a11, a12⟩, ⟨hlim, hLI, hends, hrt⟩, ⟨hbk, hld⟩, hc0, hc1, hc2, hc5⟩ := id hFM
        have l2 := hlim 2 (by omega)
        have l3 := hlim 3 (by omega)
        have l4 := hlim 4 (by omega)
        have l5 := hlim 5 (by omega)
        have l6 := hlim 6 (by omega)
        have l7 := hlim 7 (by omega)
        have l8 := hlim 8 (by omega)
        have l9 := hlim 9 (by omega)
        have l10 := hlim 10 (by omega)
        have l11 := hlim 11 (by omega)
        have l12 := hlim 12 (by omega)
        rw [show (jtab 0).2.2 2 = 4 from rfl] at l2
        rw [show (jtab 0).2.2 3 = 6 from rfl] at l3
        rw [show (jtab 0).2.2 4 = 6 from rfl] at l4
        rw [show (jtab 0).2.2 5 = 2 from rfl] at l5
        rw [show (jtab 0).2.2 6 = 8 from rfl] at l6
        rw [show (jtab 0).2.2 7 = 5 from rfl] at l7
        rw [show (jtab 0).2.2 8 = 6 from rfl] at l8
        rw [show (jtab 0).2.2 9 = 3 from rfl] at l9
        rw [show (jtab 0).2.2 10 = 3 from rfl] at l10
        rw [show (jtab 0).2.2 11 = 4 from rfl] at l11
        rw [show (jtab 0).2.2 12 = 4 from rfl] at l12
        refine jr_iload_n (pc := 28) h dX9_fitsIn_28 rfl ?_
        refine jr_aload_n (pc := 29) h dX9_fitsIn_29 rfl ?_
        refine gf_X9_425 (pc := 30) h dX9_fitsIn_30 (by assumption) (by omega) ?_
        refine gf_X9_211 (pc := 33) h dX9_fitsIn_33 (by assumption) (by omega) ?_
        refine jr_icmp_ge (pc := 36) h 83 dX9_fitsIn_36 (by decide) (by omega) (by omega) (fun c_36 => ?_) (fun c_36 => ?_)
        · first | have d_36 := bz_0.mp c_36 | have d_36 := bz_1.mp c_36 | skip
          have ek : k = ct 2 := by omega
          have ehl : c_hl ct td ld x = (foldS (fun s k => foldS (tkS (c_cnt td x) (c_get td 2 k 0)) s (c_load ld x k).toNat) ((0 : Int), (0 : Int), fun _ : Nat => c_get td 5 x 2) k.toNat) := by
            unfold c_hl
            rw [ek]
          have hsf : (foldS (fun s k => foldS (tkS (c_cnt td x) (c_get td 2 k 0)) s (c_load ld x k).toNat) ((0 : Int), (0 : Int), fun _ : Nat => c_get td 5 x 2) k.toNat).1 = 0 → (c_hl ct td ld x).1 = 0 := fun q => by rw [ehl]; exact q
          have hsf2 : (c_hl ct td ld x).1 = 0 → (foldS (fun s k => foldS (tkS (c_cnt td x) (c_get td 2 k 0)) s (c_load ld x k).toNat) ((0 : Int), (0 : Int), fun _ : Nat => c_get td 5 x 2) k.toNat).1 = 0 := fun q => by rw [← ehl]; exact q
          have zr := bz_r ((foldS (fun s k => foldS (tkS (c_cnt td x) (c_get td 2 k 0)) s (c_load ld x k).toNat) ((0 : Int), (0 : Int), fun _ : Nat => c_get td 5 x 2) k.toNat).1 = 0)
          rw [← hz] at zr
          have hX := hX1
          refine jr_aload_n (pc := 83) h dX9_fitsIn_83 rfl ?_
          refine jr_iload_n (pc := 84) h dX9_fitsIn_84 rfl ?_
          refine jr_if_eq (pc := 85) h 92 dX9_fitsIn_85 (by decide) (by omega) (fun c_85 => ?_) (fun c_85 => ?_)
          · first | have d_85 := bz_0.mp c_85 | have d_85 := bz_1.mp c_85 | skip
            refine jr_iconst (pc := 92) h dX9_fitsIn_92 ?_
            refine iv_X9_62 (pc := 93) h hl hR dX9_fitsIn_93 ⟨(Nat.le_of_ble_eq_true rfl), (Nat.le_of_ble_eq_true rfl), (Nat.le_of_ble_eq_true rfl), (Nat.le_of_ble_eq_true rfl)⟩ (Nat.le_of_ble_eq_true rfl) (by assumption) (by omega) (s_X9_done hX) (fun v_93 n_93 M_93 hn_93 hp => ?_)
            obtain ⟨⟨rfl, rfl⟩, hX, f9⟩ := hp
            have f1 := fr_tr f1 f9
            obtain ⟨hnm, hOm, hBm⟩ := id hX
            refine jr_iret (pc := 96) h hRt dX9_fitsIn_96 rfl (Nat.le_of_ble_eq_true rfl) (Nat.le_of_ble_eq_true rfl) ?_
            first
            | refine lfA9D hD1 ?_ hX f1
            | refine lfA9D (D1 := B 2) hdl ?_ (by rw [show up B 2 (B 2) = B from up_id rfl]; exact hX) f1
            unfold x_fits
            first
            | (rw [if_neg (by omega)])
            | (have e9 : (c_hl ct td ld x).1 = 0 := hsf (bz_1.mp (by rw [← hz]; exact c_85))
               rw [if_pos (by omega), if_pos e9])
            | (have e9 : ¬ (c_hl ct td ld x).1 = 0 := fun q => bz_0.mp (by rw [← hz]; exact c_85) (hsf2 q)
               rw [if_pos (by omega), if_neg e9])
          · first | have d_85 := bz_0.mp c_85 | have d_85 := bz_1.mp c_85 | skip
            refine jr_iconst (pc := 88) h dX9_fitsIn_88 ?_
            refine jr_goto (pc := 89) h 93 dX9_fitsIn_89 (by decide) ?_
            refine iv_X9_62 (pc := 93) h hl hR dX9_fitsIn_93 ⟨(Nat.le_of_ble_eq_true rfl), (Nat.le_of_ble_eq_true rfl), (Nat.le_of_ble_eq_true rfl), (Nat.le_of_ble_eq_true rfl)⟩ (Nat.le_of_ble_eq_true rfl) (by assumption) (by omega) (s_X9_done hX) (fun v_93 n_93 M_93 hn_93 hp => ?_)
            obtain ⟨⟨rfl, rfl⟩, hX, f9⟩ := hp
            have f1 := fr_tr f1 f9
            obtain ⟨hnm, hOm, hBm⟩ := id hX
            refine jr_iret (pc := 96) h hRt dX9_fitsIn_96 rfl (Nat.le_of_ble_eq_true rfl) (Nat.le_of_ble_eq_true rfl) ?_
            first
            | refine lfA9D hD1 ?_ hX f1
            | refine lfA9D (D1 := B 2) hdl ?_ (by rw [show up B 2 (B 2) = B from up_id rfl]; exact hX) f1
            unfold x_fits
            first
            | (rw [if_neg (by omega)])
            | (have e9 : (c_hl ct td ld x).1 = 0 := hsf (bz_1.mp (by rw [← hz]; exact c_85))
               rw [if_pos (by omega), if_pos e9])
            | (have e9 : ¬ (c_hl ct td ld x).1 = 0 := fun q => bz_0.mp (by rw [← hz]; exact c_85) (hsf2 q)
               rw [if_pos (by omega), if_neg e9])
        · first | have d_36 := bz_0.mp c_36 | have d_36 := bz_1.mp c_36 | skip
          refine jr_iconst (pc := 39) h dX9_fitsIn_39 ?_
          refine jr_istore (pc := 40) h [_, _, _, _, _] dX9_fitsIn_40 (by decide) rfl ?_
          have lbk := hldb x k
          have inner : ∀ (dqi : Nat) (z i : Int) (M1 : jdM) (D1 : Nat → Int), (0 ≤ i ∧ i ≤ c_load ld x k) → (MX M1 n m (up g 0 0) w (.ref f) rd (up B 2 D1)) → (MF M1 n f gf A) → (fr (MXf m) M M1) → (∀ j, 0 ≤ D1 j ∧ D1 j ≤ 1000) → (agr (c_cnt td x) D1 (foldS (tkS (c_cnt td x) (c_get td 2 k 0)) (foldS (fun s k => foldS (tkS (c_cnt td x) (c_get td 2 k 0)) s (c_load ld x k).toNat) ((0 : Int), (0 : Int), fun _ : Nat => c_get td 5 x 2) k.toNat) i.toNat).2.2) → (z = bz ((foldS (tkS (c_cnt td x) (c_get td 2 k 0)) (foldS (fun s k => foldS (tkS (c_cnt td x) (c_get td 2 k 0)) s (c_load ld x k).toNat) ((0 : Int), (0 : Int), fun _ : Nat => c_get td 5 x 2) k.toNat) i.toNat).1 = 0)) → (10000 - i).toNat < dqi → J κ 5 0 0 n 42 [some (.ref m), some (jI x), some (jI z), some (jI k), some (jI i)] [] M1 := by
            intro dqi
            induction dqi with
            | zero => intro z i M1 D1 hi hX1 hMF f1 hD1 ha1 hz hd; omega
            | succ dqi ihi =>
              intro z i M1 D1 hi hX1 hMF f1 hD1 ha1 hz hd
              obtain ⟨hnm, hOm, hBm⟩ := id hX1
              obtain ⟨hnf, hOf, hAf⟩ := id hMF
              obtain ⟨⟨e0, e1, e2, e3, e4⟩, ⟨k5, k6, k7, k8, k9, k10, k11, k12, k13, k14, k15⟩, ⟨a2, a3, a4, a5, a6, a7, a8, a9, a10, a11, a12⟩, ⟨hlim, hLI, hends, hrt⟩, ⟨hbk, hld⟩, hc0, hc1, hc2, hc5⟩ := id hFM
              have l2 := hlim 2 (by omega)
              have l3 := hlim 3 (by omega)
              have l4 := hlim 4 (by omega)
              have l5 := hlim 5 (by omega)
              have l6 := hlim 6 (by omega)
              have l7 := hlim 7 (by omega)
              have l8 := hlim 8 (by omega)
              have l9 := hlim 9 (by omega)
              have l10 := hlim 10 (by omega)
              have l11 := hlim 11 (by omega)
              have l12 := hlim 12 (by omega)
              rw [show (jtab 0).2.2 2 = 4 from rfl] at l2
              rw [show (jtab 0).2.2 3 = 6 from rfl] at l3
              rw [show (jtab 0).2.2 4 = 6 from rfl] at l4
              rw [show (jtab 0).2.2 5 = 2 from rfl] at l5
              rw [show (jtab 0).2.2 6 = 8 from rfl] at l6
              rw [show (jtab 0).2.2 7 = 5 from rfl] at l7
              rw [show (jtab 0).2.2 8 = 6 from rfl] at l8
              rw [show (jtab 0).2.2 9 = 3 from rfl] at l9
              rw [show (jtab 0).2.2 10 = 3 from rfl] at l10
              rw [show (jtab 0).2.2 11 = 4 from rfl] at l11
              rw [show (jtab 0).2.2 12 = 4 from rfl] at l12
              have hA11 : M1 (f + 11) = jdA 8 (A 11) := hAf 11 (by omega) (by omega)
              have hB2 : M1 (m + 2) = jdA 14 ((up B 2 D1) 2) := hBm 2 (by omega) (by omega)
              refine jr_iload (pc := 42) h dX9_fitsIn_42 rfl ?_
              have eA : A 11 (4 * x + k).toNat = c_load ld x k := by
                have g6 := a6 (4 * x + k).toNat (by omega)
                unfold c_load
                rw [if_pos (by omega), show (x * 4 + k).toNat = (4 * x + k).toNat by omega, hld _ (by omega)]
                exact g6
              have lb := hldb x k
              refine jr_aload_n (pc := 44) h dX9_fitsIn_44 rfl ?_
              refine gf_X9_425 (pc := 45) h dX9_fitsIn_45 (by assumption) (by omega) ?_
              refine gf_X9_337 (pc := 48) h dX9_fitsIn_48 (by assumption) (by omega) ?_
              refine jr_iconst (pc := 51) h dX9_fitsIn_51 ?_
              refine jr_iload_n (pc := 52) h dX9_fitsIn_52 rfl ?_
              refine jr_imul (pc := 53) h dX9_fitsIn_53 ?_
              refine jr_iload_n (pc := 54) h dX9_fitsIn_54 rfl ?_
              refine jr_iadd (pc := 55) h dX9_fitsIn_55 ?_
              refine jr_iald (pc := 56) h dX9_fitsIn_56 (by assumption) (by omega) (by omega) ?_
              refine jr_icmp_ge (pc := 57) h 77 dX9_fitsIn_57 (by decide) (by omega) (by omega) (fun c_57 => ?_) (fun c_57 => ?_)
              · first | have d_57 := bz_0.mp c_57 | have d_57 := bz_1.mp c_57 | skip
                refine jr_iinc (pc := 77) h [_, _, _, _, _] dX9_fitsIn_77 (by decide) rfl rfl ?_
                refine jr_goto (pc := 80) h 28 dX9_fitsIn_80 (by decide) ?_
                have hfin : foldS (tkS (c_cnt td x) (c_get td 2 k 0)) (foldS (fun s k => foldS (tkS (c_cnt td x) (c_get td 2 k 0)) s (c_load ld x k).toNat) ((0 : Int), (0 : Int), fun _ : Nat => c_get td 5 x 2) k.toNat) (c_load ld x k).toNat = (foldS (tkS (c_cnt td x) (c_get td 2 k 0)) (foldS (fun s k => foldS (tkS (c_cnt td x) (c_get td 2 k 0)) s (c_load ld x k).toNat) ((0 : Int), (0 : Int), fun _ : Nat => c_get td 5 x 2) k.toNat) i.toNat) := by
                  first
                  | (have hi9 : i = c_load ld x k := by omega
                     rw [hi9])
                  | (have hn0 : (foldS (tkS (c_cnt td x) (c_get td 2 k 0)) (foldS (fun s k => foldS (tkS (c_cnt td x) (c_get td 2 k 0)) s (c_load ld x k).toNat) ((0 : Int), (0 : Int), fun _ : Nat => c_get td 5 x 2) k.toNat) i.toNat).1 ≠ 0 := bz_0.mp (by rw [← hz]; exact c_61)
                     exact foldS_stop (j := i.toNat) rfl (fun i => tkS_stop hn0 i) (by omega))
                have e9 : foldS (fun s k => foldS (tkS (c_cnt td x) (c_get td 2 k 0)) s (c_load ld x k).toNat) ((0 : Int), (0 : Int), fun _ : Nat => c_get td 5 x 2) (k + 1).toNat = (foldS (tkS (c_cnt td x) (c_get td 2 k 0)) (foldS (fun s k => foldS (tkS (c_cnt td x) (c_get td 2 k 0)) s (c_load ld x k).toNat) ((0 : Int), (0 : Int), fun _ : Nat => c_get td 5 x 2) k.toNat) i.toNat) := by
                  rw [foldS_s (by omega)]
                  exact hfin
                refine ihk _ _ _ _ _ (by omega) hX1 hMF f1 hD1 ?_ ?_ (by omega)
                · rw [e9]; exact ha1
                · rw [e9]; exact hz
              · first | have d_57 := bz_0.mp c_57 | have d_57 := bz_1.mp c_57 | skip
                have zr := bz_r ((foldS (tkS (c_cnt td x) (c_get td 2 k 0)) (foldS (fun s k => foldS (tkS (c_cnt td x) (c_get td 2 k 0)) s (c_load ld x k).toNat) ((0 : Int), (0 : Int), fun _ : Nat => c_get td 5 x 2) k.toNat) i.toNat).1 = 0)
                rw [← hz] at zr
                refine jr_iload_n (pc := 60) h dX9_fitsIn_60 rfl ?_
                refine jr_if_eq (pc := 61) h 77 dX9_fitsIn_61 (by decide) (by omega) (fun c_61 => ?_) (fun c_61 => ?_)
                · first | have d_61 := bz_0.mp c_61 | have d_61 := bz_1.mp c_61 | skip
                  refine jr_iinc (pc := 77) h [_, _, _, _, _] dX9_fitsIn_77 (by decide) rfl rfl ?_
                  refine jr_goto (pc := 80) h 28 dX9_fitsIn_80 (by decide) ?_
                  have hfin : foldS (tkS (c_cnt td x) (c_get td 2 k 0)) (foldS (fun s k => foldS (tkS (c_cnt td x) (c_get td 2 k 0)) s (c_load ld x k).toNat) ((0 : Int), (0 : Int), fun _ : Nat => c_get td 5 x 2) k.toNat) (c_load ld x k).toNat = (foldS (tkS (c_cnt td x) (c_get td 2 k 0)) (foldS (fun s k => foldS (tkS (c_cnt td x) (c_get td 2 k 0)) s (c_load ld x k).toNat) ((0 : Int), (0 : Int), fun _ : Nat => c_get td 5 x 2) k.toNat) i.toNat) := by
                    first
                    | (have hi9 : i = c_load ld x k := by omega
                       rw [hi9])
                    | (have hn0 : (foldS (tkS (c_cnt td x) (c_get td 2 k 0)) (foldS (fun s k => foldS (tkS (c_cnt td x) (c_get td 2 k 0)) s (c_load ld x k).toNat) ((0 : Int), (0 : Int), fun _ : Nat => c_get td 5 x 2) k.toNat) i.toNat).1 ≠ 0 := bz_0.mp (by rw [← hz]; exact c_61)
                       exact foldS_stop (j := i.toNat) rfl (fun i => tkS_stop hn0 i) (by omega))
                  have e9 : foldS (fun s k => foldS (tkS (c_cnt td x) (c_get td 2 k 0)) s (c_load ld x k).toNat) ((0 : Int), (0 : Int), fun _ : Nat => c_get td 5 x 2) (k + 1).toNat = (foldS (tkS (c_cnt td x) (c_get td 2 k 0)) (foldS (fun s k => foldS (tkS (c_cnt td x) (c_get td 2 k 0)) s (c_load ld x k).toNat) ((0 : Int), (0 : Int), fun _ : Nat => c_get td 5 x 2) k.toNat) i.toNat) := by
                    rw [foldS_s (by omega)]
                    exact hfin
                  refine ihk _ _ _ _ _ (by omega) hX1 hMF f1 hD1 ?_ ?_ (by omega)
                  · rw [e9]; exact ha1
                  · rw [e9]; exact hz
                · first | have d_61 := bz_0.mp c_61 | have d_61 := bz_1.mp c_61 | skip
                  have hs0 : (foldS (tkS (c_cnt td x) (c_get td 2 k 0)) (foldS (fun s k => foldS (tkS (c_cnt td x) (c_get td 2 k 0)) s (c_load ld x k).toNat) ((0 : Int), (0 : Int), fun _ : Nat => c_get td 5 x 2) k.toNat) i.toNat).1 = 0 := bz_1.mp (by rw [← hz]; exact c_61)
                  refine jr_aload_n (pc := 64) h dX9_fitsIn_64 rfl ?_
                  refine jr_iload_n (pc := 65) h dX9_fitsIn_65 rfl ?_
                  refine jr_iload_n (pc := 66) h dX9_fitsIn_66 rfl ?_
                  refine iv_X9_458 (pc := 67) h hl hR dX9_fitsIn_67 ⟨(Nat.le_of_ble_eq_true rfl), (Nat.le_of_ble_eq_true rfl), (Nat.le_of_ble_eq_true rfl), (Nat.le_of_ble_eq_true rfl)⟩ (Nat.le_of_ble_eq_true rfl) (by assumption) (by omega) (s_X9_goesIn hX1 hMF hFM hsep (by omega) (by omega) (fun j => by rw [show up B 2 D1 2 = D1 from up_eq]; exact ⟨by have := (hD1 j).1; omega, (hD1 j).2⟩)) (fun v_67 n_67 M_67 hn_67 hp => ?_)
                  obtain ⟨⟨rfl, rfl⟩, hX2, f9⟩ := hp
                  have f1 := fr_tr f1 f9
                  have hMF := MF_fr hMF f9 (Nat.le_refl _) (fun k h1 h2 q => by have := q.1; have := q.2; omega)
                  rw [up_up, show up B 2 D1 2 = D1 from up_eq] at hX2
                  rw [show up B 2 D1 2 = D1 from up_eq, ← ecn]
                  rw [← ecn] at hX2
                  have gs := gi_step (sh := c_get td 2 k 0) (i := i) hcn ha1 hs0
                  have gb := giD_b (cnt := c_cnt td x) (sh := c_get td 2 k 0) (c_getr hrt 2 k 0).1 hD1
                  refine jr_istore_n (pc := 70) h [_, _, _, _, _] dX9_fitsIn_70 (by decide) rfl ?_
                  refine jr_iinc (pc := 71) h [_, _, _, _, _] dX9_fitsIn_71 (by decide) rfl rfl ?_
                  refine jr_goto (pc := 74) h 42 dX9_fitsIn_74 (by decide) ?_
                  refine ihi _ _ _ _ (by omega) hX2 hMF f1 gb ?_ ?_ (by omega)
                  · rw [foldS_s (by omega)]
                    exact gs.1
                  · rw [foldS_s (by omega)]
                    exact bz_iff gs.2.1.symm
          exact inner _ _ _ _ _ (by omega) hX1 hMF f1 hD1 ha1 hz (Nat.lt_succ_self _)
    exact outer _ _ _ _ _ _ (by omega) hX hMF f1 hD0 ha0 (bz_t rfl).symm (Nat.lt_succ_self _)
  · first | have d_10 := bz_0.mp c_10 | have d_10 := bz_1.mp c_10 | skip
    refine jr_aload_n (pc := 13) h dX9_fitsIn_13 rfl ?_
    refine jr_iconst (pc := 14) h dX9_fitsIn_14 ?_
    refine iv_X9_58 (pc := 15) h hl hR dX9_fitsIn_15 ⟨(Nat.le_of_ble_eq_true rfl), (Nat.le_of_ble_eq_true rfl), (Nat.le_of_ble_eq_true rfl), (Nat.le_of_ble_eq_true rfl)⟩ (Nat.le_of_ble_eq_true rfl) (by assumption) (by omega) (s_X9_refused hX) (fun v_15 n_15 M_15 hn_15 hp => ?_)
    obtain ⟨⟨rfl, rfl⟩, hX, f9⟩ := hp
    have f1 := fr_tr f1 f9
    obtain ⟨hnm, hOm, hBm⟩ := id hX
    refine jr_iret (pc := 18) h hRt dX9_fitsIn_18 rfl (Nat.le_of_ble_eq_true rfl) (Nat.le_of_ble_eq_true rfl) ?_
    first
    | refine lfA9D hD1 ?_ hX f1
    | refine lfA9D (D1 := B 2) hdl ?_ (by rw [show up B 2 (B 2) = B from up_id rfl]; exact hX) f1
    unfold x_fits
    first
    | (rw [if_neg (by omega)])
    | (have e9 : (c_hl ct td ld x).1 = 0 := hsf (bz_1.mp (by rw [← hz]; exact c_85))
       rw [if_pos (by omega), if_pos e9])
    | (have e9 : ¬ (c_hl ct td ld x).1 = 0 := fun q => bz_0.mp (by rw [← hz]; exact c_85) (hsf2 q)
       rw [if_pos (by omega), if_neg e9])
