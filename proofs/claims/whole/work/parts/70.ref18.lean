/-! 70: the reference: start, mark, back -/
def z_mark (ct td : Nat → Int) (c : Int) : Int × Int := if 0 < c_rows ct td then (if 4 ≤ c then (-1, 3) else (c, 0)) else (-1, 1)
def gmk (g : Nat → Int) : Nat → Int := up (up (up (up g 0 0) 19 (g 19 + 1)) 1 0) 2 (-1)
set_option maxHeartbeats 2000000 in
set_option maxRecDepth 20000 in
theorem s_X9_start {l : Launch} {n : Nat} {M : jdM} {m : Nat} {g : Nat → Int} {w : Int} {fl rd : Value} {B : Nat → Nat → Int} (hX : MX M n m g w fl rd B) {ct td bk si ld : Nat → Int} (hFX : FX M n m fl ct td bk si ld) {x : Int} (hx : -2147483648 ≤ x ∧ x < 2147483648) {g3 sp sk fa go : Nat → Int} (hRR : RRel ct td (g3, sp, sk, fa, go) (B 3)) (hRI : RI ct td (g3, sp, sk, fa, go)) (hR2 : RI2 ct td (g3, sp, sk, fa, go)) : Ct l yX9_start cX9_start 2 (some .boolean) rX9_start [.ref m, jI x] n M (fun vv n' M' => (vv = some (jI (y_start ct td ld (g3, sp, sk, fa, go) x).1) ∧ n = n') ∧ ∃ b', MX M' n m (rg g (y_start ct td ld (g3, sp, sk, fa, go) x).2.1) w fl rd (up B 3 b') ∧ RRel ct td (y_start ct td ld (g3, sp, sk, fa, go) x).2.2 b' ∧ fr (MXf m) M M') := by
  refine Ct_of [some (.ref m), some (jI x)] (by decide) (Nat.le_of_ble_eq_true rfl) rfl (fun κ hl h hR hRt hmn hn0 => ?_)
  have h : Ok κ RX9 cX9_start 2 (some .boolean) := h
  rcases hFX with ⟨rfl, hz⟩ | ⟨f, gf, A, rfl, hsep, hMF, hFM⟩
  · skip
    have hr0 := rows0 (td := td) hz
    have z2 := hz 2
    have z5 := hz 5
    obtain ⟨hnm, hOm, hBm⟩ := id hX
    have hOm : M m = jdO 9 (fX9 m _ _ .null rd) := hOm
    refine jr_aload_n (pc := 0) h dX9_start_0 rfl ?_
    refine jr_iconst (pc := 1) h dX9_start_1 ?_
    refine pf_X9_52 (pc := 2) h dX9_start_2 hOm (by omega) ?_
    refine jm_gen (fun M2 hM2 => ?_)
    rw [fX9_0] at hM2
    have hX := MX_o hX hM2
    have f9 : fr (MXf m) _ M2 := fr_up hM2 ⟨by omega, by omega⟩
    obtain ⟨hnm, hOm, hBm⟩ := id hX
    have f1 := f9
    refine jr_aload_n (pc := 5) h dX9_start_5 rfl ?_
    refine gf_X9_425 (pc := 6) h dX9_start_6 (by assumption) (by omega) ?_
    refine jr_ifnonnullN (pc := 9) h dX9_start_9 ?_
    refine jr_aload_n (pc := 12) h dX9_start_12 rfl ?_
    refine jr_iconst (pc := 13) h dX9_start_13 ?_
    refine iv_X9_462 (pc := 14) h hl hR dX9_start_14 ⟨(Nat.le_of_ble_eq_true rfl), (Nat.le_of_ble_eq_true rfl), (Nat.le_of_ble_eq_true rfl), (Nat.le_of_ble_eq_true rfl)⟩ (Nat.le_of_ble_eq_true rfl) (by assumption) (by omega) (s_X9_denied hX) (fun v_14 n_14 M_14 hn_14 hp => ?_)
    obtain ⟨⟨rfl, rfl⟩, hX, f9⟩ := hp
    have f1 := fr_tr f1 f9
    obtain ⟨hnm, hOm, hBm⟩ := id hX
    refine jr_iret (pc := 17) h hRt dX9_start_17 rfl (Nat.le_of_ble_eq_true rfl) (Nat.le_of_ble_eq_true rfl) ?_
    refine lfYn (R' := (g3, sp, sk, fa, go)) ?_ hX hRR f1
    unfold y_start
    (repeat' split) <;> first | rfl | (exfalso; omega) | contradiction
  · skip
    obtain ⟨hnm, hOm, hBm⟩ := id hX
    have hOm : M m = jdO 9 (fX9 m _ _ (.ref f) rd) := hOm
    refine jr_aload_n (pc := 0) h dX9_start_0 rfl ?_
    refine jr_iconst (pc := 1) h dX9_start_1 ?_
    refine pf_X9_52 (pc := 2) h dX9_start_2 hOm (by omega) ?_
    refine jm_gen (fun M2 hM2 => ?_)
    rw [fX9_0] at hM2
    have hX := MX_o hX hM2
    have f9 : fr (MXf m) _ M2 := fr_up hM2 ⟨by omega, by omega⟩
    obtain ⟨hnm, hOm, hBm⟩ := id hX
    have f1 := f9
    have hMF := MF_fr hMF f9 (Nat.le_refl _) (fun k h1 h2 q => by have := q.1; have := q.2; omega)
    obtain ⟨hnf, hOf, hAf⟩ := id hMF
    obtain ⟨⟨e0, e1, e2, e3, e4⟩, ⟨k5, k6, k7, k8, k9, k10, k11, k12, k13, k14, k15⟩, ⟨a2, a3, a4, a5, a6, a7, a8, a9, a10, a11, a12⟩, ⟨hlim, hLI, hends, hrt⟩, ⟨hbk, hld⟩, hc0, hc1, hc2, hc5⟩ := id hFM
    have l2 := hlim 2 (by omega)
    have l3 := hlim 3 (by omega)
    have l4 := hlim 4 (by omega)
    have l5 := hlim 5 (by omega)
    have l6 := hlim 6 (by omega)
    have l7 := hlim 7 (by omega)
    have l8 := hlim 8 (by omega)
    have l9 := hlim 9 (by omega)
    have l10 := hlim 10 (by omega)
    have l11 := hlim 11 (by omega)
    have l12 := hlim 12 (by omega)
    rw [show (jtab 0).2.2 2 = 4 from rfl] at l2
    rw [show (jtab 0).2.2 3 = 6 from rfl] at l3
    rw [show (jtab 0).2.2 4 = 6 from rfl] at l4
    rw [show (jtab 0).2.2 5 = 2 from rfl] at l5
    rw [show (jtab 0).2.2 6 = 8 from rfl] at l6
    rw [show (jtab 0).2.2 7 = 5 from rfl] at l7
    rw [show (jtab 0).2.2 8 = 6 from rfl] at l8
    rw [show (jtab 0).2.2 9 = 3 from rfl] at l9
    rw [show (jtab 0).2.2 10 = 3 from rfl] at l10
    rw [show (jtab 0).2.2 11 = 4 from rfl] at l11
    rw [show (jtab 0).2.2 12 = 4 from rfl] at l12
    have hcr : 1 ≤ c_rows ct td ∧ c_rows ct td ≤ 40 := by
      have h9 := (hLI 0 0 (by omega) (by omega) (by omega)).1 rfl
      have e9 : c_rows ct td = c_get td 0 0 0 := by unfold c_rows; rw [if_neg (by omega)]
      omega
    refine jr_aload_n (pc := 5) h dX9_start_5 rfl ?_
    refine gf_X9_425 (pc := 6) h dX9_start_6 (by assumption) (by omega) ?_
    refine jr_ifnonnull (pc := 9) h 18 dX9_start_9 (by decide) ?_
    refine jr_iload_n (pc := 18) h dX9_start_18 rfl ?_
    refine jr_iconst (pc := 19) h dX9_start_19 ?_
    refine jr_ldcw (pc := 20) h dX9_start_20 wm_786 ?_
    rw [show (65536 : Int32) = Int32.ofInt 65536 from by decide]
    refine iv_X9_130 (pc := 23) h hl hR dX9_start_23 ⟨(Nat.le_of_ble_eq_true rfl), (Nat.le_of_ble_eq_true rfl), (Nat.le_of_ble_eq_true rfl), (Nat.le_of_ble_eq_true rfl)⟩ (Nat.le_of_ble_eq_true rfl) (s_X9_in (by omega) (by omega) (by omega)) (fun v_23 n_23 M_23 hn_23 hp => ?_)
    obtain ⟨⟨rfl, rfl, rfl⟩, gr_23⟩ := hp
    refine jr_if_ne (pc := 26) h 35 dX9_start_26 (by decide) (by omega) (fun c_26 => ?_) (fun c_26 => ?_)
    · first | have d_26 := bz_0.mp c_26 | have d_26 := bz_1.mp c_26 | skip
      refine jr_aload_n (pc := 35) h dX9_start_35 rfl ?_
      refine jr_iload_n (pc := 36) h dX9_start_36 rfl ?_
      refine iv_X9_431 (pc := 37) h hl hR dX9_start_37 ⟨(Nat.le_of_ble_eq_true rfl), (Nat.le_of_ble_eq_true rfl), (Nat.le_of_ble_eq_true rfl), (Nat.le_of_ble_eq_true rfl)⟩ (Nat.le_of_ble_eq_true rfl) (by assumption) (by omega) (s_X9_startsAnew hX hMF hFM hsep) (fun v_37 n_37 M_37 hn_37 hp => ?_)
      obtain ⟨⟨rfl, rfl⟩, b1, hX, hb1, f9⟩ := hp
      have f1 := fr_tr f1 f9
      obtain ⟨hnm, hOm, hBm⟩ := id hX
      have hRR1 := RRel_rs (ld := ld) (z := x) hRI (by omega) (by omega) hb1
      refine jr_aload_n (pc := 40) h dX9_start_40 rfl ?_
      refine iv_X9_466 (pc := 41) h hl hR dX9_start_41 ⟨(Nat.le_of_ble_eq_true rfl), (Nat.le_of_ble_eq_true rfl), (Nat.le_of_ble_eq_true rfl), (Nat.le_of_ble_eq_true rfl)⟩ (Nat.le_of_ble_eq_true rfl) (by assumption) (by omega) (s_X9_granted hX) (fun v_41 n_41 M_41 hn_41 hp => ?_)
      obtain ⟨⟨rfl, rfl⟩, hX, f9⟩ := hp
      have f1 := fr_tr f1 f9
      obtain ⟨hnm, hOm, hBm⟩ := id hX
      refine jr_iret (pc := 44) h hRt dX9_start_44 rfl (Nat.le_of_ble_eq_true rfl) (Nat.le_of_ble_eq_true rfl) ?_
      refine lfY ?_ hX hRR1 f1
      unfold y_start
      rw [if_pos (by omega), if_pos (by omega)]
    · first | have d_26 := bz_0.mp c_26 | have d_26 := bz_1.mp c_26 | skip
      refine jr_aload_n (pc := 29) h dX9_start_29 rfl ?_
      refine jr_iconst (pc := 30) h dX9_start_30 ?_
      refine iv_X9_462 (pc := 31) h hl hR dX9_start_31 ⟨(Nat.le_of_ble_eq_true rfl), (Nat.le_of_ble_eq_true rfl), (Nat.le_of_ble_eq_true rfl), (Nat.le_of_ble_eq_true rfl)⟩ (Nat.le_of_ble_eq_true rfl) (by assumption) (by omega) (s_X9_denied hX) (fun v_31 n_31 M_31 hn_31 hp => ?_)
      obtain ⟨⟨rfl, rfl⟩, hX, f9⟩ := hp
      have f1 := fr_tr f1 f9
      obtain ⟨hnm, hOm, hBm⟩ := id hX
      refine jr_iret (pc := 34) h hRt dX9_start_34 rfl (Nat.le_of_ble_eq_true rfl) (Nat.le_of_ble_eq_true rfl) ?_
      refine lfYn (R' := (g3, sp, sk, fa, go)) ?_ hX hRR f1
      unfold y_start
      (repeat' split) <;> first | rfl | (exfalso; omega) | contradiction
theorem lfMk {ct td : Nat → Int} {M M' : jdM} {n m : Nat} {g : Nat → Int} {w : Int} {fl rd : Value} {B : Nat → Nat → Int} {v t : Int} (hn : ¬ (0 < c_rows ct td ∧ g 19 < 4)) (e : z_mark ct td (g 19) = (v, t)) (hX : MX M' n m (up (up (up g 0 0) 1 t) 2 (-1)) w fl rd B) (f : fr (MXf m) M M') : (some (jI v) = some (jI (z_mark ct td (g 19)).1) ∧ n = n) ∧ ∃ b4, MX M' n m (if 0 < c_rows ct td ∧ g 19 < 4 then gmk g else rg g (z_mark ct td (g 19)).2) w fl rd (up B 4 b4) ∧ (0 < c_rows ct td ∧ g 19 < 4 → (∀ j : Nat, j < 431 → b4 (431 * (g 19).toNat + j) = B 3 j) ∧ ∀ j : Nat, j < 431 * (g 19).toNat → b4 j = B 4 j) ∧ (¬ (0 < c_rows ct td ∧ g 19 < 4) → b4 = B 4) ∧ fr (MXf m) M M' := by
  rw [if_neg hn, e]
  exact ⟨⟨rfl, rfl⟩, B 4, by rw [up_id rfl]; exact hX, fun a => absurd a hn, fun _ => rfl, f⟩
set_option maxHeartbeats 2000000 in
set_option maxRecDepth 20000 in
theorem s_X9_mark {l : Launch} {n : Nat} {M : jdM} {m : Nat} {g : Nat → Int} {w : Int} {fl rd : Value} {B : Nat → Nat → Int} (hX : MX M n m g w fl rd B) {ct td bk si ld : Nat → Int} (hFX : FX M n m fl ct td bk si ld) (hc : 0 ≤ g 19 ∧ g 19 ≤ 4) : Ct l yX9_mark cX9_mark 2 (some .int) rX9_mark [.ref m] n M (fun vv n' M' => (vv = some (jI (z_mark ct td (g 19)).1) ∧ n = n') ∧ ∃ b4, MX M' n m (if 0 < c_rows ct td ∧ g 19 < 4 then gmk g else rg g (z_mark ct td (g 19)).2) w fl rd (up B 4 b4) ∧ (0 < c_rows ct td ∧ g 19 < 4 → (∀ j : Nat, j < 431 → b4 (431 * (g 19).toNat + j) = B 3 j) ∧ ∀ j : Nat, j < 431 * (g 19).toNat → b4 j = B 4 j) ∧ (¬ (0 < c_rows ct td ∧ g 19 < 4) → b4 = B 4) ∧ fr (MXf m) M M') := by
  refine Ct_of [some (.ref m), none] (by decide) (Nat.le_of_ble_eq_true rfl) rfl (fun κ hl h hR hRt hmn hn0 => ?_)
  have h : Ok κ RX9 cX9_mark 2 (some .int) := h
  rcases hFX with ⟨rfl, hz⟩ | ⟨f, gf, A, rfl, hsep, hMF, hFM⟩
  · skip
    have hr0 := rows0 (td := td) hz
    have z2 := hz 2
    have z5 := hz 5
    obtain ⟨hnm, hOm, hBm⟩ := id hX
    have hOm : M m = jdO 9 (fX9 m _ _ .null rd) := hOm
    refine jr_aload_n (pc := 0) h dX9_mark_0 rfl ?_
    refine jr_iconst (pc := 1) h dX9_mark_1 ?_
    refine pf_X9_52 (pc := 2) h dX9_mark_2 hOm (by omega) ?_
    refine jm_gen (fun M2 hM2 => ?_)
    rw [fX9_0] at hM2
    have hX := MX_o hX hM2
    have f9 : fr (MXf m) _ M2 := fr_up hM2 ⟨by omega, by omega⟩
    obtain ⟨hnm, hOm, hBm⟩ := id hX
    have f1 := f9
    refine jr_aload_n (pc := 5) h dX9_mark_5 rfl ?_
    refine gf_X9_425 (pc := 6) h dX9_mark_6 (by assumption) (by omega) ?_
    refine jr_ifnonnullN (pc := 9) h dX9_mark_9 ?_
    refine jr_aload_n (pc := 12) h dX9_mark_12 rfl ?_
    refine jr_iconst (pc := 13) h dX9_mark_13 ?_
    refine iv_X9_58 (pc := 14) h hl hR dX9_mark_14 ⟨(Nat.le_of_ble_eq_true rfl), (Nat.le_of_ble_eq_true rfl), (Nat.le_of_ble_eq_true rfl), (Nat.le_of_ble_eq_true rfl)⟩ (Nat.le_of_ble_eq_true rfl) (by assumption) (by omega) (s_X9_refused hX) (fun v_14 n_14 M_14 hn_14 hp => ?_)
    obtain ⟨⟨rfl, rfl⟩, hX, f9⟩ := hp
    have f1 := fr_tr f1 f9
    obtain ⟨hnm, hOm, hBm⟩ := id hX
    refine jr_iret (pc := 17) h hRt dX9_mark_17 rfl (Nat.le_of_ble_eq_true rfl) (Nat.le_of_ble_eq_true rfl) ?_
    refine lfMk (by omega) ?_ hX f1
    unfold z_mark
    (repeat' split) <;> first | rfl | (exfalso; omega) | contradiction
  · skip
    obtain ⟨hnm, hOm, hBm⟩ := id hX
    have hOm : M m = jdO 9 (fX9 m _ _ (.ref f) rd) := hOm
    refine jr_aload_n (pc := 0) h dX9_mark_0 rfl ?_
    refine jr_iconst (pc := 1) h dX9_mark_1 ?_
    refine pf_X9_52 (pc := 2) h dX9_mark_2 hOm (by omega) ?_
    refine jm_gen (fun M2 hM2 => ?_)
    rw [fX9_0] at hM2
    have hX := MX_o hX hM2
    have f9 : fr (MXf m) _ M2 := fr_up hM2 ⟨by omega, by omega⟩
    obtain ⟨hnm, hOm, hBm⟩ := id hX
    have f1 := f9
    have hMF := MF_fr hMF f9 (Nat.le_refl _) (fun k h1 h2 q => by have := q.1; have := q.2; omega)
    obtain ⟨hnf, hOf, hAf⟩ := id hMF
    obtain ⟨⟨e0, e1, e2, e3, e4⟩, ⟨k5, k6, k7, k8, k9, k10, k11, k12, k13, k14, k15⟩, ⟨a2, a3, a4, a5, a6, a7, a8, a9, a10, a11, a12⟩, ⟨hlim, hLI, hends, hrt⟩, ⟨hbk, hld⟩, hc0, hc1, hc2, hc5⟩ := id hFM
    have l2 := hlim 2 (by omega)
    have l3 := hlim 3 (by omega)
    have l4 := hlim 4 (by omega)
    have l5 := hlim 5 (by omega)
    have l6 := hlim 6 (by omega)
    have l7 := hlim 7 (by omega)
    have l8 := hlim 8 (by omega)
    have l9 := hlim 9 (by omega)
    have l10 := hlim 10 (by omega)
    have l11 := hlim 11 (by omega)
    have l12 := hlim 12 (by omega)
    rw [show (jtab 0).2.2 2 = 4 from rfl] at l2
    rw [show (jtab 0).2.2 3 = 6 from rfl] at l3
    rw [show (jtab 0).2.2 4 = 6 from rfl] at l4
    rw [show (jtab 0).2.2 5 = 2 from rfl] at l5
    rw [show (jtab 0).2.2 6 = 8 from rfl] at l6
    rw [show (jtab 0).2.2 7 = 5 from rfl] at l7
    rw [show (jtab 0).2.2 8 = 6 from rfl] at l8
    rw [show (jtab 0).2.2 9 = 3 from rfl] at l9
    rw [show (jtab 0).2.2 10 = 3 from rfl] at l10
    rw [show (jtab 0).2.2 11 = 4 from rfl] at l11
    rw [show (jtab 0).2.2 12 = 4 from rfl] at l12
    have hcr : 1 ≤ c_rows ct td ∧ c_rows ct td ≤ 40 := by
      have h9 := (hLI 0 0 (by omega) (by omega) (by omega)).1 rfl
      have e9 : c_rows ct td = c_get td 0 0 0 := by unfold c_rows; rw [if_neg (by omega)]
      omega
    have e19 : up g 0 0 19 = g 19 := up_ne (by omega)
    refine jr_aload_n (pc := 5) h dX9_mark_5 rfl ?_
    refine gf_X9_425 (pc := 6) h dX9_mark_6 (by assumption) (by omega) ?_
    refine jr_ifnonnull (pc := 9) h 18 dX9_mark_9 (by decide) ?_
    refine jr_aload_n (pc := 18) h dX9_mark_18 rfl ?_
    refine gf_X9_428 (pc := 19) h dX9_mark_19 (by assumption) (by omega) ?_
    show J _ _ _ _ _ _ _ (jI (up g 0 0 19) :: _) _
    rw [e19]
    refine jr_iconst (pc := 22) h dX9_mark_22 ?_
    refine jr_icmp_ne (pc := 23) h 32 dX9_mark_23 (by decide) (by omega) (by omega) (fun c_23 => ?_) (fun c_23 => ?_)
    · first | have d_23 := bz_0.mp c_23 | have d_23 := bz_1.mp c_23 | skip
      refine jr_iconst (pc := 32) h dX9_mark_32 ?_
      refine jr_istore_n (pc := 33) h [_, _] dX9_mark_33 (by decide) rfl ?_
      have loop : ∀ (dq : Nat) (i : Int) (M1 : jdM) (b : Nat → Int), (0 ≤ i ∧ i ≤ 431) → (MX M1 n m (up g 0 0) w (.ref f) rd (up B 4 b)) → (fr (MXf m) M M1) → (∀ j : Nat, (j : Int) < i → b (431 * (g 19).toNat + j) = B 3 j) → (∀ j : Nat, j < 431 * (g 19).toNat → b j = B 4 j) → (500 - i).toNat < dq → J κ 2 0 0 n 34 [some (.ref m), some (jI i)] [] M1 := by
        intro dq
        induction dq with
        | zero => intro i M1 b hi hX f1 h1 h2 hd; omega
        | succ dq ih =>
          intro i M1 b hi hX f1 h1 h2 hd
          obtain ⟨hnm, hOm, hBm⟩ := id hX
          have hOm : M1 m = jdO 9 (fX9 m _ _ (.ref f) rd) := hOm
          have hB3 : M1 (m + 3) = jdA 431 (B 3) := hBm 3 (by omega) (by omega)
          have hB4 : M1 (m + 4) = jdA 1724 b := hBm 4 (by omega) (by omega)
          have e19 : up g 0 0 19 = g 19 := up_ne (by omega)
          refine jr_iload_n (pc := 34) h dX9_mark_34 rfl ?_
          refine jr_sipush (pc := 35) h dX9_mark_35 sp_431 ?_
          refine jr_icmp_ge (pc := 38) h 68 dX9_mark_38 (by decide) (by omega) (by omega) (fun c_38 => ?_) (fun c_38 => ?_)
          · skip
            refine jr_aload_n (pc := 68) h dX9_mark_68 rfl ?_
            refine jr_dup (pc := 69) h dX9_mark_69 rfl ?_
            refine gf_X9_428 (pc := 70) h dX9_mark_70 (by assumption) (by omega) ?_
            show J _ _ _ _ _ _ _ (jI (up g 0 0 19) :: _) _
            rw [e19]
            refine jr_iconst (pc := 73) h dX9_mark_73 ?_
            refine jr_iadd (pc := 74) h dX9_mark_74 ?_
            refine pf_X9_428 (pc := 75) h dX9_mark_75 hOm (by omega) ?_
            refine jm_gen (fun M2 hM2 => ?_)
            rw [fX9_19] at hM2
            have hX := MX_o hX hM2
            have f9 : fr (MXf m) _ M2 := fr_up hM2 ⟨by omega, by omega⟩
            have f1 := fr_tr f1 f9
            obtain ⟨hnm, hOm, hBm⟩ := id hX
            refine jr_aload_n (pc := 78) h dX9_mark_78 rfl ?_
            refine jr_aload_n (pc := 79) h dX9_mark_79 rfl ?_
            refine gf_X9_428 (pc := 80) h dX9_mark_80 (by assumption) (by omega) ?_
            show J _ _ _ _ _ _ _ (jI (up (up g 0 0) 19 (g 19 + 1) 19) :: _) _
            rw [up_eq]
            refine jr_iconst (pc := 83) h dX9_mark_83 ?_
            refine jr_isub (pc := 84) h dX9_mark_84 ?_
            refine iv_X9_62 (pc := 85) h hl hR dX9_mark_85 ⟨(Nat.le_of_ble_eq_true rfl), (Nat.le_of_ble_eq_true rfl), (Nat.le_of_ble_eq_true rfl), (Nat.le_of_ble_eq_true rfl)⟩ (Nat.le_of_ble_eq_true rfl) (by assumption) (by omega) (s_X9_done hX) (fun v_85 n_85 M_85 hn_85 hp => ?_)
            obtain ⟨⟨rfl, rfl⟩, hX, f9⟩ := hp
            have f1 := fr_tr f1 f9
            obtain ⟨hnm, hOm, hBm⟩ := id hX
            refine jr_iret (pc := 88) h hRt dX9_mark_88 rfl (Nat.le_of_ble_eq_true rfl) (Nat.le_of_ble_eq_true rfl) ?_
            have hc9 : 0 < c_rows ct td ∧ g 19 < 4 := by omega
            have ez : z_mark ct td (g 19) = (g 19, 0) := by
              unfold z_mark
              rw [if_pos (by omega), if_neg (by omega)]
            rw [if_pos hc9, ez, show g 19 + 1 - 1 = g 19 by omega]
            exact ⟨⟨rfl, rfl⟩, b, hX, fun _ => ⟨fun j hj => h1 j (by omega), h2⟩, fun a => absurd hc9 a, f1⟩
          · skip
            refine jr_aload_n (pc := 41) h dX9_mark_41 rfl ?_
            refine gf_X9_24 (pc := 42) h dX9_mark_42 (by assumption) (by omega) ?_
            refine jr_sipush (pc := 45) h dX9_mark_45 sp_431 ?_
            refine jr_aload_n (pc := 48) h dX9_mark_48 rfl ?_
            refine gf_X9_428 (pc := 49) h dX9_mark_49 (by assumption) (by omega) ?_
            show J _ _ _ _ _ _ _ (jI (up g 0 0 19) :: _) _
            rw [e19]
            refine jr_imul (pc := 52) h dX9_mark_52 ?_
            refine jr_iload_n (pc := 53) h dX9_mark_53 rfl ?_
            refine jr_iadd (pc := 54) h dX9_mark_54 ?_
            refine jr_aload_n (pc := 55) h dX9_mark_55 rfl ?_
            refine gf_X9_21 (pc := 56) h dX9_mark_56 (by assumption) (by omega) ?_
            refine jr_iload_n (pc := 59) h dX9_mark_59 rfl ?_
            refine jr_iald (pc := 60) h dX9_mark_60 (by assumption) (by omega) (by omega) ?_
            refine jr_iast (pc := 61) h dX9_mark_61 hB4 (by omega) (by omega) ?_
            refine jm_gen (fun M2 hM2 => ?_)
            rw [show (431 * g 19 + i).toNat = 431 * (g 19).toNat + i.toNat by omega] at hM2
            have hX := MX_B (i := 4) hX hM2 (by omega)
            rw [up_up] at hX
            have f9 : fr (MXf m) _ M2 := fr_up (S := MXf m) hM2 ⟨by omega, by omega⟩
            have f1 := fr_tr f1 f9
            refine jr_iinc (pc := 62) h [_, _] dX9_mark_62 (by decide) rfl rfl ?_
            refine jr_goto (pc := 65) h 34 dX9_mark_65 (by decide) ?_
            refine ih _ _ _ (by omega) hX f1 (fun j hj => ?_) (fun j hj => ?_) (by omega)
            · by_cases q : j = i.toNat
              · rw [q, up_eq]
              · rw [up_ne (by omega)]; exact h1 j (by omega)
            · rw [up_ne (by omega)]; exact h2 j hj
      exact loop _ _ _ (B 4) (by omega) (by rw [up_self]; exact hX) f1 (fun j hj => by omega) (fun j hj => rfl) (Nat.lt_succ_self _)
    · first | have d_23 := bz_0.mp c_23 | have d_23 := bz_1.mp c_23 | skip
      refine jr_aload_n (pc := 26) h dX9_mark_26 rfl ?_
      refine jr_iconst (pc := 27) h dX9_mark_27 ?_
      refine iv_X9_58 (pc := 28) h hl hR dX9_mark_28 ⟨(Nat.le_of_ble_eq_true rfl), (Nat.le_of_ble_eq_true rfl), (Nat.le_of_ble_eq_true rfl), (Nat.le_of_ble_eq_true rfl)⟩ (Nat.le_of_ble_eq_true rfl) (by assumption) (by omega) (s_X9_refused hX) (fun v_28 n_28 M_28 hn_28 hp => ?_)
      obtain ⟨⟨rfl, rfl⟩, hX, f9⟩ := hp
      have f1 := fr_tr f1 f9
      obtain ⟨hnm, hOm, hBm⟩ := id hX
      refine jr_iret (pc := 31) h hRt dX9_mark_31 rfl (Nat.le_of_ble_eq_true rfl) (Nat.le_of_ble_eq_true rfl) ?_
      refine lfMk (by omega) ?_ hX f1
      unfold z_mark
      (repeat' split) <;> first | rfl | (exfalso; omega) | contradiction
theorem lfBk {M M' : jdM} {n m : Nat} {g : Nat → Int} {w x : Int} {fl rd : Value} {B : Nat → Nat → Int} (hn : ¬ (0 ≤ x ∧ x < g 19)) (hX : MX M' n m (up (up (up g 0 0) 1 1) 2 (-1)) w fl rd B) (f : fr (MXf m) M M') : (some (jI 0) = some (jI (if 0 ≤ x ∧ x < g 19 then 1 else 0)) ∧ n = n) ∧ ∃ b', MX M' n m (rg g (if 0 ≤ x ∧ x < g 19 then 0 else 1)) w fl rd (up B 3 b') ∧ (0 ≤ x ∧ x < g 19 → ∀ j : Nat, j < 431 → b' j = B 4 (431 * x.toNat + j)) ∧ (¬ (0 ≤ x ∧ x < g 19) → b' = B 3) ∧ fr (MXf m) M M' := by
  rw [if_neg hn, if_neg hn]
  exact ⟨⟨rfl, rfl⟩, B 3, by rw [up_id rfl]; exact hX, fun a => absurd a hn, fun _ => rfl, f⟩
set_option maxHeartbeats 2000000 in
set_option maxRecDepth 20000 in
theorem s_X9_back {l : Launch} {n : Nat} {M : jdM} {m : Nat} {g : Nat → Int} {w : Int} {fl rd : Value} {B : Nat → Nat → Int} (hX : MX M n m g w fl rd B) {ct td bk si ld : Nat → Int} (hFX : FX M n m fl ct td bk si ld) {x : Int} (hx : -2147483648 ≤ x ∧ x < 2147483648) (hc : 0 ≤ g 19 ∧ g 19 ≤ 4) (hc0 : (∀ j, ct j = 0) → g 19 = 0) : Ct l yX9_back cX9_back 3 (some .boolean) rX9_back [.ref m, jI x] n M (fun vv n' M' => (vv = some (jI (if 0 ≤ x ∧ x < g 19 then 1 else 0)) ∧ n = n') ∧ ∃ b', MX M' n m (rg g (if 0 ≤ x ∧ x < g 19 then 0 else 1)) w fl rd (up B 3 b') ∧ (0 ≤ x ∧ x < g 19 → ∀ j : Nat, j < 431 → b' j = B 4 (431 * x.toNat + j)) ∧ (¬ (0 ≤ x ∧ x < g 19) → b' = B 3) ∧ fr (MXf m) M M') := by
  refine Ct_of [some (.ref m), some (jI x), none] (by decide) (Nat.le_of_ble_eq_true rfl) rfl (fun κ hl h hR hRt hmn hn0 => ?_)
  have h : Ok κ RX9 cX9_back 3 (some .boolean) := h
  rcases hFX with ⟨rfl, hz⟩ | ⟨f, gf, A, rfl, hsep, hMF, hFM⟩
  · skip
    have hr0 := rows0 (td := td) hz
    have z2 := hz 2
    have z5 := hz 5
    obtain ⟨hnm, hOm, hBm⟩ := id hX
    have hOm : M m = jdO 9 (fX9 m _ _ .null rd) := hOm
    have c0 := hc0 hz
    refine jr_aload_n (pc := 0) h dX9_back_0 rfl ?_
    refine jr_iconst (pc := 1) h dX9_back_1 ?_
    refine pf_X9_52 (pc := 2) h dX9_back_2 hOm (by omega) ?_
    refine jm_gen (fun M2 hM2 => ?_)
    rw [fX9_0] at hM2
    have hX := MX_o hX hM2
    have f9 : fr (MXf m) _ M2 := fr_up hM2 ⟨by omega, by omega⟩
    obtain ⟨hnm, hOm, hBm⟩ := id hX
    have f1 := f9
    refine jr_aload_n (pc := 5) h dX9_back_5 rfl ?_
    refine gf_X9_425 (pc := 6) h dX9_back_6 (by assumption) (by omega) ?_
    refine jr_ifnullN (pc := 9) h 24 dX9_back_9 (by decide) ?_
    refine jr_aload_n (pc := 24) h dX9_back_24 rfl ?_
    refine jr_iconst (pc := 25) h dX9_back_25 ?_
    refine iv_X9_462 (pc := 26) h hl hR dX9_back_26 ⟨(Nat.le_of_ble_eq_true rfl), (Nat.le_of_ble_eq_true rfl), (Nat.le_of_ble_eq_true rfl), (Nat.le_of_ble_eq_true rfl)⟩ (Nat.le_of_ble_eq_true rfl) (by assumption) (by omega) (s_X9_denied hX) (fun v_26 n_26 M_26 hn_26 hp => ?_)
    obtain ⟨⟨rfl, rfl⟩, hX, f9⟩ := hp
    have f1 := fr_tr f1 f9
    obtain ⟨hnm, hOm, hBm⟩ := id hX
    refine jr_iret (pc := 29) h hRt dX9_back_29 rfl (Nat.le_of_ble_eq_true rfl) (Nat.le_of_ble_eq_true rfl) ?_
    exact lfBk (by omega) hX f1
  · skip
    obtain ⟨hnm, hOm, hBm⟩ := id hX
    have hOm : M m = jdO 9 (fX9 m _ _ (.ref f) rd) := hOm
    refine jr_aload_n (pc := 0) h dX9_back_0 rfl ?_
    refine jr_iconst (pc := 1) h dX9_back_1 ?_
    refine pf_X9_52 (pc := 2) h dX9_back_2 hOm (by omega) ?_
    refine jm_gen (fun M2 hM2 => ?_)
    rw [fX9_0] at hM2
    have hX := MX_o hX hM2
    have f9 : fr (MXf m) _ M2 := fr_up hM2 ⟨by omega, by omega⟩
    obtain ⟨hnm, hOm, hBm⟩ := id hX
    have f1 := f9
    have hMF := MF_fr hMF f9 (Nat.le_refl _) (fun k h1 h2 q => by have := q.1; have := q.2; omega)
    obtain ⟨hnf, hOf, hAf⟩ := id hMF
    obtain ⟨⟨e0, e1, e2, e3, e4⟩, ⟨k5, k6, k7, k8, k9, k10, k11, k12, k13, k14, k15⟩, ⟨a2, a3, a4, a5, a6, a7, a8, a9, a10, a11, a12⟩, ⟨hlim, hLI, hends, hrt⟩, ⟨hbk, hld⟩, hc0, hc1, hc2, hc5⟩ := id hFM
    have l2 := hlim 2 (by omega)
    have l3 := hlim 3 (by omega)
    have l4 := hlim 4 (by omega)
    have l5 := hlim 5 (by omega)
    have l6 := hlim 6 (by omega)
    have l7 := hlim 7 (by omega)
    have l8 := hlim 8 (by omega)
    have l9 := hlim 9 (by omega)
    have l10 := hlim 10 (by omega)
    have l11 := hlim 11 (by omega)
    have l12 := hlim 12 (by omega)
    rw [show (jtab 0).2.2 2 = 4 from rfl] at l2
    rw [show (jtab 0).2.2 3 = 6 from rfl] at l3
    rw [show (jtab 0).2.2 4 = 6 from rfl] at l4
    rw [show (jtab 0).2.2 5 = 2 from rfl] at l5
    rw [show (jtab 0).2.2 6 = 8 from rfl] at l6
    rw [show (jtab 0).2.2 7 = 5 from rfl] at l7
    rw [show (jtab 0).2.2 8 = 6 from rfl] at l8
    rw [show (jtab 0).2.2 9 = 3 from rfl] at l9
    rw [show (jtab 0).2.2 10 = 3 from rfl] at l10
    rw [show (jtab 0).2.2 11 = 4 from rfl] at l11
    rw [show (jtab 0).2.2 12 = 4 from rfl] at l12
    have hcr : 1 ≤ c_rows ct td ∧ c_rows ct td ≤ 40 := by
      have h9 := (hLI 0 0 (by omega) (by omega) (by omega)).1 rfl
      have e9 : c_rows ct td = c_get td 0 0 0 := by unfold c_rows; rw [if_neg (by omega)]
      omega
    have e19 : up g 0 0 19 = g 19 := up_ne (by omega)
    refine jr_aload_n (pc := 5) h dX9_back_5 rfl ?_
    refine gf_X9_425 (pc := 6) h dX9_back_6 (by assumption) (by omega) ?_
    refine jr_ifnull (pc := 9) h dX9_back_9 ?_
    refine jr_iload_n (pc := 12) h dX9_back_12 rfl ?_
    refine jr_if_lt (pc := 13) h 24 dX9_back_13 (by decide) (by omega) (fun c_13 => ?_) (fun c_13 => ?_)
    · first | have d_13 := bz_0.mp c_13 | have d_13 := bz_1.mp c_13 | skip
      refine jr_aload_n (pc := 24) h dX9_back_24 rfl ?_
      refine jr_iconst (pc := 25) h dX9_back_25 ?_
      refine iv_X9_462 (pc := 26) h hl hR dX9_back_26 ⟨(Nat.le_of_ble_eq_true rfl), (Nat.le_of_ble_eq_true rfl), (Nat.le_of_ble_eq_true rfl), (Nat.le_of_ble_eq_true rfl)⟩ (Nat.le_of_ble_eq_true rfl) (by assumption) (by omega) (s_X9_denied hX) (fun v_26 n_26 M_26 hn_26 hp => ?_)
      obtain ⟨⟨rfl, rfl⟩, hX, f9⟩ := hp
      have f1 := fr_tr f1 f9
      obtain ⟨hnm, hOm, hBm⟩ := id hX
      refine jr_iret (pc := 29) h hRt dX9_back_29 rfl (Nat.le_of_ble_eq_true rfl) (Nat.le_of_ble_eq_true rfl) ?_
      exact lfBk (by omega) hX f1
    · first | have d_13 := bz_0.mp c_13 | have d_13 := bz_1.mp c_13 | skip
      refine jr_iload_n (pc := 16) h dX9_back_16 rfl ?_
      refine jr_aload_n (pc := 17) h dX9_back_17 rfl ?_
      refine gf_X9_428 (pc := 18) h dX9_back_18 (by assumption) (by omega) ?_
      show J _ _ _ _ _ _ _ (jI (up g 0 0 19) :: _) _
      rw [e19]
      refine jr_icmp_lt (pc := 21) h 30 dX9_back_21 (by decide) (by omega) (by omega) (fun c_21 => ?_) (fun c_21 => ?_)
      · first | have d_21 := bz_0.mp c_21 | have d_21 := bz_1.mp c_21 | skip
        refine jr_iconst (pc := 30) h dX9_back_30 ?_
        refine jr_istore_n (pc := 31) h [_, _, _] dX9_back_31 (by decide) rfl ?_
        have loop : ∀ (dq : Nat) (i : Int) (M1 : jdM) (b : Nat → Int), (0 ≤ i ∧ i ≤ 431) → (MX M1 n m (up g 0 0) w (.ref f) rd (up B 3 b)) → (fr (MXf m) M M1) → (∀ j : Nat, (j : Int) < i → b j = B 4 (431 * x.toNat + j)) → (500 - i).toNat < dq → J κ 3 0 0 n 32 [some (.ref m), some (jI x), some (jI i)] [] M1 := by
          intro dq
          induction dq with
          | zero => intro i M1 b hi hX f1 h1 hd; omega
          | succ dq ih =>
            intro i M1 b hi hX f1 h1 hd
            obtain ⟨hnm, hOm, hBm⟩ := id hX
            have hOm : M1 m = jdO 9 (fX9 m _ _ (.ref f) rd) := hOm
            have hB3 : M1 (m + 3) = jdA 431 b := hBm 3 (by omega) (by omega)
            have hB4 : M1 (m + 4) = jdA 1724 (B 4) := hBm 4 (by omega) (by omega)
            have e19 : up g 0 0 19 = g 19 := up_ne (by omega)
            refine jr_iload_n (pc := 32) h dX9_back_32 rfl ?_
            refine jr_sipush (pc := 33) h dX9_back_33 sp_431 ?_
            refine jr_icmp_ge (pc := 36) h 63 dX9_back_36 (by decide) (by omega) (by omega) (fun c_36 => ?_) (fun c_36 => ?_)
            · skip
              refine jr_aload_n (pc := 63) h dX9_back_63 rfl ?_
              refine iv_X9_466 (pc := 64) h hl hR dX9_back_64 ⟨(Nat.le_of_ble_eq_true rfl), (Nat.le_of_ble_eq_true rfl), (Nat.le_of_ble_eq_true rfl), (Nat.le_of_ble_eq_true rfl)⟩ (Nat.le_of_ble_eq_true rfl) (by assumption) (by omega) (s_X9_granted hX) (fun v_64 n_64 M_64 hn_64 hp => ?_)
              obtain ⟨⟨rfl, rfl⟩, hX, f9⟩ := hp
              have f1 := fr_tr f1 f9
              obtain ⟨hnm, hOm, hBm⟩ := id hX
              refine jr_iret (pc := 67) h hRt dX9_back_67 rfl (Nat.le_of_ble_eq_true rfl) (Nat.le_of_ble_eq_true rfl) ?_
              have hc9 : 0 ≤ x ∧ x < g 19 := by omega
              rw [if_pos hc9, if_pos hc9]
              exact ⟨⟨rfl, rfl⟩, b, hX, fun _ j hj => h1 j (by omega), fun a => absurd hc9 a, f1⟩
            · skip
              refine jr_aload_n (pc := 39) h dX9_back_39 rfl ?_
              refine gf_X9_21 (pc := 40) h dX9_back_40 (by assumption) (by omega) ?_
              refine jr_iload_n (pc := 43) h dX9_back_43 rfl ?_
              refine jr_aload_n (pc := 44) h dX9_back_44 rfl ?_
              refine gf_X9_24 (pc := 45) h dX9_back_45 (by assumption) (by omega) ?_
              refine jr_sipush (pc := 48) h dX9_back_48 sp_431 ?_
              refine jr_iload_n (pc := 51) h dX9_back_51 rfl ?_
              refine jr_imul (pc := 52) h dX9_back_52 ?_
              refine jr_iload_n (pc := 53) h dX9_back_53 rfl ?_
              refine jr_iadd (pc := 54) h dX9_back_54 ?_
              refine jr_iald (pc := 55) h dX9_back_55 (by assumption) (by omega) (by omega) ?_
              refine jr_iast (pc := 56) h dX9_back_56 hB3 (by omega) (by omega) ?_
              refine jm_gen (fun M2 hM2 => ?_)
              rw [show (431 * x + i).toNat = 431 * x.toNat + i.toNat by omega] at hM2
              have hX := MX_B (i := 3) hX hM2 (by omega)
              rw [up_up] at hX
              have f9 : fr (MXf m) _ M2 := fr_up (S := MXf m) hM2 ⟨by omega, by omega⟩
              have f1 := fr_tr f1 f9
              refine jr_iinc (pc := 57) h [_, _, _] dX9_back_57 (by decide) rfl rfl ?_
              refine jr_goto (pc := 60) h 32 dX9_back_60 (by decide) ?_
              refine ih _ _ _ (by omega) hX f1 (fun j hj => ?_) (by omega)
              by_cases q : j = i.toNat
              · rw [q, up_eq]
              · rw [up_ne (by omega)]; exact h1 j (by omega)
        exact loop _ _ _ (B 3) (by omega) (by rw [up_self]; exact hX) f1 (fun j hj => by omega) (Nat.lt_succ_self _)
      · first | have d_21 := bz_0.mp c_21 | have d_21 := bz_1.mp c_21 | skip
        refine jr_aload_n (pc := 24) h dX9_back_24 rfl ?_
        refine jr_iconst (pc := 25) h dX9_back_25 ?_
        refine iv_X9_462 (pc := 26) h hl hR dX9_back_26 ⟨(Nat.le_of_ble_eq_true rfl), (Nat.le_of_ble_eq_true rfl), (Nat.le_of_ble_eq_true rfl), (Nat.le_of_ble_eq_true rfl)⟩ (Nat.le_of_ble_eq_true rfl) (by assumption) (by omega) (s_X9_denied hX) (fun v_26 n_26 M_26 hn_26 hp => ?_)
        obtain ⟨⟨rfl, rfl⟩, hX, f9⟩ := hp
        have f1 := fr_tr f1 f9
        obtain ⟨hnm, hOm, hBm⟩ := id hX
        refine jr_iret (pc := 29) h hRt dX9_back_29 rfl (Nat.le_of_ble_eq_true rfl) (Nat.le_of_ble_eq_true rfl) ?_
        exact lfBk (by omega) hX f1
