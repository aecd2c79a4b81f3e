/-! 67: the reference: step, finish, what a run says -/
theorem lfY {ct td : Nat → Int} {M M' : jdM} {n m : Nat} {g : Nat → Int} {w : Int} {fl rd : Value} {B : Nat → Nat → Int} {r : Int × Int × FS} {v t : Int} {R' : FS} {b' : Nat → Int} (e : r = (v, t, R')) (hX : MX M' n m (up (up (up g 0 0) 1 t) 2 (-1)) w fl rd (up B 3 b')) (hRR : RRel ct td R' b') (f : fr (MXf m) M M') : (some (jI v) = some (jI r.1) ∧ n = n) ∧ ∃ b', MX M' n m (rg g r.2.1) w fl rd (up B 3 b') ∧ RRel ct td r.2.2 b' ∧ fr (MXf m) M M' := by
  subst e
  exact ⟨⟨rfl, rfl⟩, b', hX, hRR, f⟩
theorem lfYn {ct td : Nat → Int} {M M' : jdM} {n m : Nat} {g : Nat → Int} {w : Int} {fl rd : Value} {B : Nat → Nat → Int} {r : Int × Int × FS} {v t : Int} {R' : FS} (e : r = (v, t, R')) (hX : MX M' n m (up (up (up g 0 0) 1 t) 2 (-1)) w fl rd B) (hRR : RRel ct td R' (B 3)) (f : fr (MXf m) M M') : (some (jI v) = some (jI r.1) ∧ n = n) ∧ ∃ b', MX M' n m (rg g r.2.1) w fl rd (up B 3 b') ∧ RRel ct td r.2.2 b' ∧ fr (MXf m) M M' := by
  subst e
  exact ⟨⟨rfl, rfl⟩, B 3, by rw [up_id rfl]; exact hX, hRR, f⟩
theorem up_self {α : Type} {f : Nat → α} {k : Nat} : up f k (f k) = f := up_id rfl
theorem avR_g {ct td bk si : Nat → Int} {R : FS} : (avR ct td bk si R).1 5 - (avR ct td bk si R).1 4 = R.1 5 - R.1 4 - 1 := by
  show av_g ct td bk si R.1 R.2.1 R.2.2.1 R.2.2.2.2 5 - av_g ct td bk si R.1 R.2.1 R.2.2.1 R.2.2.2.2 4 = R.1 5 - R.1 4 - 1
  unfold av_g
  dsimp only
  split
  · rw [up_ne (by omega), up_ne (by omega), up_ne (by omega), up_eq]; omega
  · rw [up_eq, up_ne (by omega), up_ne (by omega), up_ne (by omega)]; omega
theorem RU_av {ct td bk si ld gf : Nat → Int} {A : Nat → Nat → Int} {R : FS} (hFM : FM ct td bk si ld gf A) (hRI : RI ct td R) (hR2 : RI2 ct td R) (hno : R.1 4 ≤ R.1 5) : RI ct td (avR ct td bk si R) ∧ RI2 ct td (avR ct td bk si R) := by
  obtain ⟨hK, hl, -⟩ := FM_KI hFM
  obtain ⟨-, -, -, hF, hS, hc0, -, hc2, hc5⟩ := hFM
  have l2 := (hF.1 2 (by omega)).2
  rw [show (jtab 0).2.2 2 = 4 from rfl] at l2
  have l8 := hF.1 8 (by omega)
  have hcr : c_rows ct td ≤ 40 := by
    unfold c_rows
    split
    · omega
    · exact ((hF.2.1 0 0 (by omega) (by omega) (by omega)).1 rfl).2.1
  refine ⟨RI_av hRI hF.2.2.2 hK l8.1 hcr hno, RI2_av hR2 hRI hF ?_ hno hcr hc5⟩
  obtain ⟨i1, i2, i3, i4, -⟩ := hRI
  refine WY_av hF.2.2.2 l8.1 ⟨hc2, l2⟩ (fun i a b => ?_) hl (fun j => ?_) i3 i4 hR2.1
  · have h9 := ((hF.2.1 8 i (by omega) a (by omega)).2.2.2.2.2.2.2.2.1 rfl).2.2.1
    have := c_getr hF.2.2.2 8 i 1
    omega
  · have := i2 j
    omega
set_option maxHeartbeats 2000000 in
set_option maxRecDepth 20000 in
theorem s_X9_step {l : Launch} {n : Nat} {M : jdM} {m : Nat} {g : Nat → Int} {w : Int} {fl rd : Value} {B : Nat → Nat → Int} (hX : MX M n m g w fl rd B) {ct td bk si ld : Nat → Int} (hFX : FX M n m fl ct td bk si ld) {g3 sp sk fa go : Nat → Int} (hRR : RRel ct td (g3, sp, sk, fa, go) (B 3)) (hRI : RI ct td (g3, sp, sk, fa, go)) (hR2 : RI2 ct td (g3, sp, sk, fa, go)) : Ct l yX9_step cX9_step 1 (some .int) rX9_step [.ref m] n M (fun vv n' M' => (vv = some (jI (y_step ct td bk si (g3, sp, sk, fa, go)).1) ∧ n = n') ∧ ∃ b', MX M' n m (rg g (y_step ct td bk si (g3, sp, sk, fa, go)).2.1) w fl rd (up B 3 b') ∧ RRel ct td (y_step ct td bk si (g3, sp, sk, fa, go)).2.2 b' ∧ fr (MXf m) M M') := by
  refine Ct_of [some (.ref m)] (by decide) (Nat.le_of_ble_eq_true rfl) rfl (fun κ hl h hR hRt hmn hn0 => ?_)
  have h : Ok κ RX9 cX9_step 1 (some .int) := h
  rcases hFX with ⟨rfl, hz⟩ | ⟨f, gf, A, rfl, hsep, hMF, hFM⟩
  · skip
    have hr0 := rows0 (td := td) hz
    have z2 := hz 2
    have z5 := hz 5
    obtain ⟨hnm, hOm, hBm⟩ := id hX
    have hOm : M m = jdO 9 (fX9 m _ _ .null rd) := hOm
    refine jr_aload_n (pc := 0) h dX9_step_0 rfl ?_
    refine jr_iconst (pc := 1) h dX9_step_1 ?_
    refine pf_X9_52 (pc := 2) h dX9_step_2 hOm (by omega) ?_
    refine jm_gen (fun M2 hM2 => ?_)
    rw [fX9_0] at hM2
    have hX := MX_o hX hM2
    have f9 : fr (MXf m) _ M2 := fr_up hM2 ⟨by omega, by omega⟩
    obtain ⟨hnm, hOm, hBm⟩ := id hX
    have f1 := f9
    refine jr_aload_n (pc := 5) h dX9_step_5 rfl ?_
    refine gf_X9_425 (pc := 6) h dX9_step_6 (by assumption) (by omega) ?_
    refine jr_ifnonnullN (pc := 9) h dX9_step_9 ?_
    refine jr_aload_n (pc := 12) h dX9_step_12 rfl ?_
    refine jr_iconst (pc := 13) h dX9_step_13 ?_
    refine iv_X9_58 (pc := 14) h hl hR dX9_step_14 ⟨(Nat.le_of_ble_eq_true rfl), (Nat.le_of_ble_eq_true rfl), (Nat.le_of_ble_eq_true rfl), (Nat.le_of_ble_eq_true rfl)⟩ (Nat.le_of_ble_eq_true rfl) (by assumption) (by omega) (s_X9_refused hX) (fun v_14 n_14 M_14 hn_14 hp => ?_)
    obtain ⟨⟨rfl, rfl⟩, hX, f9⟩ := hp
    have f1 := fr_tr f1 f9
    obtain ⟨hnm, hOm, hBm⟩ := id hX
    refine jr_iret (pc := 17) h hRt dX9_step_17 rfl (Nat.le_of_ble_eq_true rfl) (Nat.le_of_ble_eq_true rfl) ?_
    refine lfYn (R' := (g3, sp, sk, fa, go)) ?_ hX hRR f1
    unfold y_step
    (repeat' split) <;> first | rfl | (exfalso; omega) | contradiction
  · skip
    obtain ⟨hnm, hOm, hBm⟩ := id hX
    have hOm : M m = jdO 9 (fX9 m _ _ (.ref f) rd) := hOm
    refine jr_aload_n (pc := 0) h dX9_step_0 rfl ?_
    refine jr_iconst (pc := 1) h dX9_step_1 ?_
    refine pf_X9_52 (pc := 2) h dX9_step_2 hOm (by omega) ?_
    refine jm_gen (fun M2 hM2 => ?_)
    rw [fX9_0] at hM2
    have hX := MX_o hX hM2
    have f9 : fr (MXf m) _ M2 := fr_up hM2 ⟨by omega, by omega⟩
    obtain ⟨hnm, hOm, hBm⟩ := id hX
    have f1 := f9
    have hMF := MF_fr hMF f9 (Nat.le_refl _) (fun k h1 h2 q => by have := q.1; have := q.2; omega)
    obtain ⟨hnf, hOf, hAf⟩ := id hMF
    obtain ⟨⟨e0, e1, e2, e3, e4⟩, ⟨k5, k6, k7, k8, k9, k10, k11, k12, k13, k14, k15⟩, ⟨a2, a3, a4, a5, a6, a7, a8, a9, a10, a11, a12⟩, ⟨hlim, hLI, hends, hrt⟩, ⟨hbk, hld⟩, hc0, hc1, hc2, hc5⟩ := id hFM
    have l2 := hlim 2 (by omega)
    have l3 := hlim 3 (by omega)
    have l4 := hlim 4 (by omega)
    have l5 := hlim 5 (by omega)
    have l6 := hlim 6 (by omega)
    have l7 := hlim 7 (by omega)
    have l8 := hlim 8 (by omega)
    have l9 := hlim 9 (by omega)
    have l10 := hlim 10 (by omega)
    have l11 := hlim 11 (by omega)
    have l12 := hlim 12 (by omega)
    rw [show (jtab 0).2.2 2 = 4 from rfl] at l2
    rw [show (jtab 0).2.2 3 = 6 from rfl] at l3
    rw [show (jtab 0).2.2 4 = 6 from rfl] at l4
    rw [show (jtab 0).2.2 5 = 2 from rfl] at l5
    rw [show (jtab 0).2.2 6 = 8 from rfl] at l6
    rw [show (jtab 0).2.2 7 = 5 from rfl] at l7
    rw [show (jtab 0).2.2 8 = 6 from rfl] at l8
    rw [show (jtab 0).2.2 9 = 3 from rfl] at l9
    rw [show (jtab 0).2.2 10 = 3 from rfl] at l10
    rw [show (jtab 0).2.2 11 = 4 from rfl] at l11
    rw [show (jtab 0).2.2 12 = 4 from rfl] at l12
    have hcr : 1 ≤ c_rows ct td ∧ c_rows ct td ≤ 40 := by
      have h9 := (hLI 0 0 (by omega) (by omega) (by omega)).1 rfl
      have e9 : c_rows ct td = c_get td 0 0 0 := by unfold c_rows; rw [if_neg (by omega)]
      omega
    replace hRI := id hRI
    have hgI : 1 ≤ g3 4 ∧ g3 4 ≤ g3 5 + 1 ∧ g3 5 ≤ c_rows ct td := hRI.1
    refine jr_aload_n (pc := 5) h dX9_step_5 rfl ?_
    refine gf_X9_425 (pc := 6) h dX9_step_6 (by assumption) (by omega) ?_
    refine jr_ifnonnull (pc := 9) h 18 dX9_step_9 (by decide) ?_
    refine jr_aload_n (pc := 18) h dX9_step_18 rfl ?_
    refine iv_X9_513 (pc := 19) h hl hR dX9_step_19 ⟨(Nat.le_of_ble_eq_true rfl), (Nat.le_of_ble_eq_true rfl), (Nat.le_of_ble_eq_true rfl), (Nat.le_of_ble_eq_true rfl)⟩ (Nat.le_of_ble_eq_true rfl) (by assumption) (by omega) (s_X9_isOver hX hMF hFM hsep hRR hRI) (fun v_19 n_19 M_19 hn_19 hp => ?_)
    obtain ⟨⟨rfl, rfl, rfl⟩, gr_19⟩ := hp
    refine jr_if_eq (pc := 22) h 34 dX9_step_22 (by decide) (by omega) (fun c_22 => ?_) (fun c_22 => ?_)
    · first | have d_22 := bz_0.mp c_22 | have d_22 := bz_1.mp c_22 | skip
      refine jr_aload_n (pc := 34) h dX9_step_34 rfl ?_
      refine jr_aload_n (pc := 35) h dX9_step_35 rfl ?_
      refine iv_X9_516 (pc := 36) h hl hR dX9_step_36 ⟨(Nat.le_of_ble_eq_true rfl), (Nat.le_of_ble_eq_true rfl), (Nat.le_of_ble_eq_true rfl), (Nat.le_of_ble_eq_true rfl)⟩ (Nat.le_of_ble_eq_true rfl) (by assumption) (by omega) (s_X9_steps hX hMF hFM hsep hRR hRI hR2.1 (by omega)) (fun v_36 n_36 M_36 hn_36 hp => ?_)
      obtain ⟨⟨rfl, rfl⟩, b1, hX, hRR1, f9⟩ := hp
      have f1 := fr_tr f1 f9
      obtain ⟨hnm, hOm, hBm⟩ := id hX
      refine iv_X9_62 (pc := 39) h hl hR dX9_step_39 ⟨(Nat.le_of_ble_eq_true rfl), (Nat.le_of_ble_eq_true rfl), (Nat.le_of_ble_eq_true rfl), (Nat.le_of_ble_eq_true rfl)⟩ (Nat.le_of_ble_eq_true rfl) (by assumption) (by omega) (s_X9_done hX) (fun v_39 n_39 M_39 hn_39 hp => ?_)
      obtain ⟨⟨rfl, rfl⟩, hX, f9⟩ := hp
      have f1 := fr_tr f1 f9
      obtain ⟨hnm, hOm, hBm⟩ := id hX
      refine jr_iret (pc := 42) h hRt dX9_step_42 rfl (Nat.le_of_ble_eq_true rfl) (Nat.le_of_ble_eq_true rfl) ?_
      first
      | (refine lfY ?_ hX hRR1 f1; unfold y_step; rw [if_pos (by omega), if_neg (show ¬ g3 5 < g3 4 by omega)])
      | (refine lfYn (R' := (g3, sp, sk, fa, go)) ?_ hX hRR f1; unfold y_step; rw [if_pos (by omega), if_pos (show g3 5 < g3 4 by omega)])
    · first | have d_22 := bz_0.mp c_22 | have d_22 := bz_1.mp c_22 | skip
      refine jr_aload_n (pc := 25) h dX9_step_25 rfl ?_
      refine jr_bipush (pc := 26) h dX9_step_26 bp_6 ?_
      refine iv_X9_58 (pc := 28) h hl hR dX9_step_28 ⟨(Nat.le_of_ble_eq_true rfl), (Nat.le_of_ble_eq_true rfl), (Nat.le_of_ble_eq_true rfl), (Nat.le_of_ble_eq_true rfl)⟩ (Nat.le_of_ble_eq_true rfl) (by assumption) (by omega) (s_X9_refused hX) (fun v_28 n_28 M_28 hn_28 hp => ?_)
      obtain ⟨⟨rfl, rfl⟩, hX, f9⟩ := hp
      have f1 := fr_tr f1 f9
      obtain ⟨hnm, hOm, hBm⟩ := id hX
      refine jr_goto (pc := 31) h 42 dX9_step_31 (by decide) ?_
      refine jr_iret (pc := 42) h hRt dX9_step_42 rfl (Nat.le_of_ble_eq_true rfl) (Nat.le_of_ble_eq_true rfl) ?_
      first
      | (refine lfY ?_ hX hRR1 f1; unfold y_step; rw [if_pos (by omega), if_neg (show ¬ g3 5 < g3 4 by omega)])
      | (refine lfYn (R' := (g3, sp, sk, fa, go)) ?_ hX hRR f1; unfold y_step; rw [if_pos (by omega), if_pos (show g3 5 < g3 4 by omega)])
set_option maxHeartbeats 2000000 in
set_option maxRecDepth 20000 in
theorem s_X9_finish {l : Launch} {n : Nat} {M : jdM} {m : Nat} {g : Nat → Int} {w : Int} {fl rd : Value} {B : Nat → Nat → Int} (hX : MX M n m g w fl rd B) {ct td bk si ld : Nat → Int} (hFX : FX M n m fl ct td bk si ld) {g3 sp sk fa go : Nat → Int} (hRR : RRel ct td (g3, sp, sk, fa, go) (B 3)) (hRI : RI ct td (g3, sp, sk, fa, go)) (hR2 : RI2 ct td (g3, sp, sk, fa, go)) : Ct l yX9_finish cX9_finish 2 (some .int) rX9_finish [.ref m] n M (fun vv n' M' => (vv = some (jI (y_finish ct td bk si (g3, sp, sk, fa, go)).1) ∧ n = n') ∧ ∃ b', MX M' n m (rg g (y_finish ct td bk si (g3, sp, sk, fa, go)).2.1) w fl rd (up B 3 b') ∧ RRel ct td (y_finish ct td bk si (g3, sp, sk, fa, go)).2.2 b' ∧ fr (MXf m) M M') := by
  refine Ct_of [some (.ref m), none] (by decide) (Nat.le_of_ble_eq_true rfl) rfl (fun κ hl h hR hRt hmn hn0 => ?_)
  have h : Ok κ RX9 cX9_finish 2 (some .int) := h
  rcases hFX with ⟨rfl, hz⟩ | ⟨f, gf, A, rfl, hsep, hMF, hFM⟩
  · skip
    have hr0 := rows0 (td := td) hz
    have z2 := hz 2
    have z5 := hz 5
    obtain ⟨hnm, hOm, hBm⟩ := id hX
    have hOm : M m = jdO 9 (fX9 m _ _ .null rd) := hOm
    refine jr_aload_n (pc := 0) h dX9_finish_0 rfl ?_
    refine jr_iconst (pc := 1) h dX9_finish_1 ?_
    refine pf_X9_52 (pc := 2) h dX9_finish_2 hOm (by omega) ?_
    refine jm_gen (fun M2 hM2 => ?_)
    rw [fX9_0] at hM2
    have hX := MX_o hX hM2
    have f9 : fr (MXf m) _ M2 := fr_up hM2 ⟨by omega, by omega⟩
    obtain ⟨hnm, hOm, hBm⟩ := id hX
    have f1 := f9
    refine jr_aload_n (pc := 5) h dX9_finish_5 rfl ?_
    refine gf_X9_425 (pc := 6) h dX9_finish_6 (by assumption) (by omega) ?_
    refine jr_ifnonnullN (pc := 9) h dX9_finish_9 ?_
    refine jr_aload_n (pc := 12) h dX9_finish_12 rfl ?_
    refine jr_iconst (pc := 13) h dX9_finish_13 ?_
    refine iv_X9_58 (pc := 14) h hl hR dX9_finish_14 ⟨(Nat.le_of_ble_eq_true rfl), (Nat.le_of_ble_eq_true rfl), (Nat.le_of_ble_eq_true rfl), (Nat.le_of_ble_eq_true rfl)⟩ (Nat.le_of_ble_eq_true rfl) (by assumption) (by omega) (s_X9_refused hX) (fun v_14 n_14 M_14 hn_14 hp => ?_)
    obtain ⟨⟨rfl, rfl⟩, hX, f9⟩ := hp
    have f1 := fr_tr f1 f9
    obtain ⟨hnm, hOm, hBm⟩ := id hX
    refine jr_iret (pc := 17) h hRt dX9_finish_17 rfl (Nat.le_of_ble_eq_true rfl) (Nat.le_of_ble_eq_true rfl) ?_
    refine lfYn (R' := (g3, sp, sk, fa, go)) ?_ hX hRR f1
    unfold y_finish
    (repeat' split) <;> first | rfl | (exfalso; omega) | contradiction
  · skip
    obtain ⟨hnm, hOm, hBm⟩ := id hX
    have hOm : M m = jdO 9 (fX9 m _ _ (.ref f) rd) := hOm
    refine jr_aload_n (pc := 0) h dX9_finish_0 rfl ?_
    refine jr_iconst (pc := 1) h dX9_finish_1 ?_
    refine pf_X9_52 (pc := 2) h dX9_finish_2 hOm (by omega) ?_
    refine jm_gen (fun M2 hM2 => ?_)
    rw [fX9_0] at hM2
    have hX := MX_o hX hM2
    have f9 : fr (MXf m) _ M2 := fr_up hM2 ⟨by omega, by omega⟩
    obtain ⟨hnm, hOm, hBm⟩ := id hX
    have f1 := f9
    have hMF := MF_fr hMF f9 (Nat.le_refl _) (fun k h1 h2 q => by have := q.1; have := q.2; omega)
    obtain ⟨hnf, hOf, hAf⟩ := id hMF
    obtain ⟨⟨e0, e1, e2, e3, e4⟩, ⟨k5, k6, k7, k8, k9, k10, k11, k12, k13, k14, k15⟩, ⟨a2, a3, a4, a5, a6, a7, a8, a9, a10, a11, a12⟩, ⟨hlim, hLI, hends, hrt⟩, ⟨hbk, hld⟩, hc0, hc1, hc2, hc5⟩ := id hFM
    have l2 := hlim 2 (by omega)
    have l3 := hlim 3 (by omega)
    have l4 := hlim 4 (by omega)
    have l5 := hlim 5 (by omega)
    have l6 := hlim 6 (by omega)
    have l7 := hlim 7 (by omega)
    have l8 := hlim 8 (by omega)
    have l9 := hlim 9 (by omega)
    have l10 := hlim 10 (by omega)
    have l11 := hlim 11 (by omega)
    have l12 := hlim 12 (by omega)
    rw [show (jtab 0).2.2 2 = 4 from rfl] at l2
    rw [show (jtab 0).2.2 3 = 6 from rfl] at l3
    rw [show (jtab 0).2.2 4 = 6 from rfl] at l4
    rw [show (jtab 0).2.2 5 = 2 from rfl] at l5
    rw [show (jtab 0).2.2 6 = 8 from rfl] at l6
    rw [show (jtab 0).2.2 7 = 5 from rfl] at l7
    rw [show (jtab 0).2.2 8 = 6 from rfl] at l8
    rw [show (jtab 0).2.2 9 = 3 from rfl] at l9
    rw [show (jtab 0).2.2 10 = 3 from rfl] at l10
    rw [show (jtab 0).2.2 11 = 4 from rfl] at l11
    rw [show (jtab 0).2.2 12 = 4 from rfl] at l12
    have hcr : 1 ≤ c_rows ct td ∧ c_rows ct td ≤ 40 := by
      have h9 := (hLI 0 0 (by omega) (by omega) (by omega)).1 rfl
      have e9 : c_rows ct td = c_get td 0 0 0 := by unfold c_rows; rw [if_neg (by omega)]
      omega
    have hgI : 1 ≤ g3 4 ∧ g3 4 ≤ g3 5 + 1 ∧ g3 5 ≤ c_rows ct td := hRI.1
    refine jr_aload_n (pc := 5) h dX9_finish_5 rfl ?_
    refine gf_X9_425 (pc := 6) h dX9_finish_6 (by assumption) (by omega) ?_
    refine jr_ifnonnull (pc := 9) h 18 dX9_finish_9 (by decide) ?_
    refine jr_iconst (pc := 18) h dX9_finish_18 ?_
    refine jr_istore_n (pc := 19) h [_, _] dX9_finish_19 (by decide) rfl ?_
    have loop : ∀ (dq : Nat) (s : Int) (M1 : jdM) (Rq : FS) (b1 : Nat → Int) (k : Nat), (0 ≤ s ∧ s ≤ 40) → (finN ct td bk si (40 - 0 : Int).toNat 0 (g3, sp, sk, fa, go) = finN ct td bk si k s Rq ∧ Rq.1 5 - Rq.1 4 + 1 ≤ k ∧ s + (Rq.1 5 - Rq.1 4 + 1) ≤ 40) → (MX M1 n m (up g 0 0) w (.ref f) rd (up B 3 b1)) → (MF M1 n f gf A) → (fr (MXf m) M M1) → (RRel ct td Rq b1) → (RI ct td Rq) → (RI2 ct td Rq) → (Rq.1 5 - Rq.1 4 + 1).toNat < dq → J κ 2 0 0 n 20 [some (.ref m), some (jI s)] [] M1 := by
      intro dq
      induction dq with
      | zero => intro s M1 Rq b1 k hs9 hk hX hMF f1 hr1 hr2 hr3 hd; omega
      | succ dq ih =>
        intro s M1 Rq b1 k hs9 hk hX hMF f1 hr1 hr2 hr3 hd
        obtain ⟨q3, qp, qk, qf, qo⟩ := Rq
        obtain ⟨hk9, hk8, hk7⟩ := hk
        replace hk8 : q3 5 - q3 4 + 1 ≤ k := hk8
        replace hk7 : s + (q3 5 - q3 4 + 1) ≤ 40 := hk7
        replace hd : (q3 5 - q3 4 + 1).toNat < dq + 1 := hd
        have hqI : 1 ≤ q3 4 ∧ q3 4 ≤ q3 5 + 1 ∧ q3 5 ≤ c_rows ct td := hr2.1
        obtain ⟨hnm, hOm, hBm⟩ := id hX
        have hOm : M1 m = jdO 9 (fX9 m _ _ (.ref f) rd) := hOm
        refine jr_aload_n (pc := 20) h dX9_finish_20 rfl ?_
        refine iv_X9_513 (pc := 21) h hl hR dX9_finish_21 ⟨(Nat.le_of_ble_eq_true rfl), (Nat.le_of_ble_eq_true rfl), (Nat.le_of_ble_eq_true rfl), (Nat.le_of_ble_eq_true rfl)⟩ (Nat.le_of_ble_eq_true rfl) (by assumption) (by omega) (s_X9_isOver hX hMF hFM hsep (g3 := q3) (sp := qp) (sk := qk) (fa := qf) (go := qo) (by rw [up_eq]; exact hr1) hr2) (fun v_21 n_21 M_21 hn_21 hp => ?_)
        obtain ⟨⟨rfl, rfl, rfl⟩, gr_21⟩ := hp
        refine jr_if_ne (pc := 24) h 38 dX9_finish_24 (by decide) (by omega) (fun c_24 => ?_) (fun c_24 => ?_)
        · first | have d_24 := bz_0.mp c_24 | have d_24 := bz_1.mp c_24 | skip
          refine jr_aload_n (pc := 38) h dX9_finish_38 rfl ?_
          refine jr_iload_n (pc := 39) h dX9_finish_39 rfl ?_
          refine iv_X9_62 (pc := 40) h hl hR dX9_finish_40 ⟨(Nat.le_of_ble_eq_true rfl), (Nat.le_of_ble_eq_true rfl), (Nat.le_of_ble_eq_true rfl), (Nat.le_of_ble_eq_true rfl)⟩ (Nat.le_of_ble_eq_true rfl) (by assumption) (by omega) (s_X9_done hX) (fun v_40 n_40 M_40 hn_40 hp => ?_)
          obtain ⟨⟨rfl, rfl⟩, hX, f9⟩ := hp
          have f1 := fr_tr f1 f9
          obtain ⟨hnm, hOm, hBm⟩ := id hX
          refine jr_iret (pc := 43) h hRt dX9_finish_43 rfl (Nat.le_of_ble_eq_true rfl) (Nat.le_of_ble_eq_true rfl) ?_
          refine lfY ?_ hX hr1 f1
          unfold y_finish
          rw [if_pos (by omega), hk9]
          have e9 : finN ct td bk si k s (q3, qp, qk, qf, qo) = (s, (q3, qp, qk, qf, qo)) := by
            cases k with
            | zero => rfl
            | succ k => rw [finN, if_pos (show q3 5 < q3 4 by omega)]
          rw [e9]
        · first | have d_24 := bz_0.mp c_24 | have d_24 := bz_1.mp c_24 | skip
          refine jr_aload_n (pc := 27) h dX9_finish_27 rfl ?_
          refine iv_X9_516 (pc := 28) h hl hR dX9_finish_28 ⟨(Nat.le_of_ble_eq_true rfl), (Nat.le_of_ble_eq_true rfl), (Nat.le_of_ble_eq_true rfl), (Nat.le_of_ble_eq_true rfl)⟩ (Nat.le_of_ble_eq_true rfl) (by assumption) (by omega) (s_X9_steps hX hMF hFM hsep (g3 := q3) (sp := qp) (sk := qk) (fa := qf) (go := qo) (by rw [up_eq]; exact hr1) hr2 hr3.1 (by omega)) (fun v_28 n_28 M_28 hn_28 hp => ?_)
          obtain ⟨⟨rfl, rfl⟩, b2, hX, hrr2, f9⟩ := hp
          have f1 := fr_tr f1 f9
          have hMF := MF_fr hMF f9 (Nat.le_refl _) (fun k h1 h2 q => by have := q.1; have := q.2; omega)
          obtain ⟨hnm, hOm, hBm⟩ := id hX
          rw [up_up] at hX
          refine jr_pop (pc := 31) h dX9_finish_31 rfl ?_
          refine jr_iinc (pc := 32) h [_, _] dX9_finish_32 (by decide) rfl rfl ?_
          refine jr_goto (pc := 35) h 20 dX9_finish_35 (by decide) ?_
          obtain ⟨hs2, hs3⟩ := RU_av hFM hr2 hr3 (by show q3 4 ≤ q3 5; omega)
          have hg9 : (avR ct td bk si (q3, qp, qk, qf, qo)).1 5 - (avR ct td bk si (q3, qp, qk, qf, qo)).1 4 = q3 5 - q3 4 - 1 := avR_g
          obtain ⟨k', rfl⟩ : ∃ k', k = k' + 1 := ⟨k - 1, by omega⟩
          refine ih _ _ (avR ct td bk si (q3, qp, qk, qf, qo)) b2 k' (by omega) ?_ hX hMF f1 hrr2 hs2 hs3 (by omega)
          · refine ⟨?_, by omega, by omega⟩
            rw [hk9, finN, if_neg (show ¬ q3 5 < q3 4 by omega)]
    exact loop _ _ _ (g3, sp, sk, fa, go) (B 3) 40 (by omega) ⟨rfl, by show g3 5 - g3 4 + 1 ≤ _; omega, by show _ + (g3 5 - g3 4 + 1) ≤ _; omega⟩ (by rw [up_self]; exact hX) hMF f1 hRR hRI hR2 (Nat.lt_succ_self _)
set_option maxHeartbeats 1000000 in
set_option maxRecDepth 20000 in
theorem s_X9_seconds {l : Launch} {n : Nat} {M : jdM} {m : Nat} {g : Nat → Int} {w : Int} {fl rd : Value} {B : Nat → Nat → Int} (hX : MX M n m g w fl rd B) {ct td bk si ld : Nat → Int} (hFX : FX M n m fl ct td bk si ld) {x : Int} (hx : -2147483648 ≤ x ∧ x < 2147483648)  {g3 sp sk fa go : Nat → Int} (hRR : RRel ct td (g3, sp, sk, fa, go) (B 3)) (hRI : RI ct td (g3, sp, sk, fa, go)) (hR2 : RI2 ct td (g3, sp, sk, fa, go)) : Ct l yX9_seconds cX9_seconds 2 (some .int) rX9_seconds [.ref m, jI x] n M (fun vv n' M' => (vv = some (jI (x_seconds ct sp x).1) ∧ n = n') ∧ MX M' n m (rg g (x_seconds ct sp x).2) w fl rd B ∧ fr (MXf m) M M') := by
  refine Ct_of [some (.ref m), some (jI x)] (by decide) (Nat.le_of_ble_eq_true rfl) rfl (fun κ hl h hR hRt hmn hn0 => ?_)
  have h : Ok κ RX9 cX9_seconds 2 (some .int) := h
  obtain ⟨hnm, hOm, hBm⟩ := id hX
  have hOm : M m = jdO 9 (fX9 m _ _ fl rd) := hOm
  refine jr_aload_n (pc := 0) h dX9_seconds_0 rfl ?_
  refine jr_iconst (pc := 1) h dX9_seconds_1 ?_
  refine pf_X9_52 (pc := 2) h dX9_seconds_2 hOm (by omega) ?_
  refine jm_gen (fun M2 hM2 => ?_)
  rw [fX9_0] at hM2
  have hX := MX_o hX hM2
  have f9 : fr (MXf m) _ M2 := fr_up hM2 ⟨by omega, by omega⟩
  obtain ⟨hnm, hOm, hBm⟩ := id hX
  have f1 := f9
  have hFX := FX_fr hFX f9
  refine jr_aload_n (pc := 5) h dX9_seconds_5 rfl ?_
  refine jr_iload_n (pc := 6) h dX9_seconds_6 rfl ?_
  refine iv_X9_452 (pc := 7) h hl hR dX9_seconds_7 ⟨(Nat.le_of_ble_eq_true rfl), (Nat.le_of_ble_eq_true rfl), (Nat.le_of_ble_eq_true rfl), (Nat.le_of_ble_eq_true rfl)⟩ (Nat.le_of_ble_eq_true rfl) (by assumption) (by omega) (s_X9_isTrolley hX hFX (by omega)) (fun v_7 n_7 M_7 hn_7 hp => ?_)
  obtain ⟨⟨rfl, rfl, rfl⟩, gr_7⟩ := hp
  refine jr_if_eq (pc := 10) h 30 dX9_seconds_10 (by decide) (by omega) (fun c_10 => ?_) (fun c_10 => ?_)
  · first | have d_10 := bz_0.mp c_10 | have d_10 := bz_1.mp c_10 | skip
    refine jr_aload_n (pc := 30) h dX9_seconds_30 rfl ?_
    refine jr_iconst (pc := 31) h dX9_seconds_31 ?_
    refine iv_X9_58 (pc := 32) h hl hR dX9_seconds_32 ⟨(Nat.le_of_ble_eq_true rfl), (Nat.le_of_ble_eq_true rfl), (Nat.le_of_ble_eq_true rfl), (Nat.le_of_ble_eq_true rfl)⟩ (Nat.le_of_ble_eq_true rfl) (by assumption) (by omega) (s_X9_refused hX) (fun v_32 n_32 M_32 hn_32 hp => ?_)
    obtain ⟨⟨rfl, rfl⟩, hX, f9⟩ := hp
    have f1 := fr_tr f1 f9
    obtain ⟨hnm, hOm, hBm⟩ := id hX
    refine jr_iret (pc := 35) h hRt dX9_seconds_35 rfl (Nat.le_of_ble_eq_true rfl) (Nat.le_of_ble_eq_true rfl) ?_
    refine lfA9 ?_ hX f1
    unfold x_seconds
    (repeat' split) <;> first | rfl | (exfalso; omega) | contradiction
  · first | have d_10 := bz_0.mp c_10 | have d_10 := bz_1.mp c_10 | skip
    have hr00 := fun (hz : ∀ j, ct j = 0) => rows0 (td := td) hz
    rcases hFX with ⟨rfl, hz⟩ | ⟨f, gf, A, rfl, hsep, hMF, hFM⟩
    · exfalso
      have z2 := hz 2
      have z5 := hz 5
      have zr := hr00 hz
      omega
    obtain ⟨hnf, hOf, hAf⟩ := id hMF
    obtain ⟨⟨e0, e1, e2, e3, e4⟩, ⟨k5, k6, k7, k8, k9, k10, k11, k12, k13, k14, k15⟩, ⟨a2, a3, a4, a5, a6, a7, a8, a9, a10, a11, a12⟩, ⟨hlim, hLI, hends, hrt⟩, ⟨hbk, hld⟩, hc0, hc1, hc2, hc5⟩ := id hFM
    have l2 := hlim 2 (by omega)
    have l3 := hlim 3 (by omega)
    have l4 := hlim 4 (by omega)
    have l5 := hlim 5 (by omega)
    have l6 := hlim 6 (by omega)
    have l7 := hlim 7 (by omega)
    have l8 := hlim 8 (by omega)
    have l9 := hlim 9 (by omega)
    have l10 := hlim 10 (by omega)
    have l11 := hlim 11 (by omega)
    have l12 := hlim 12 (by omega)
    rw [show (jtab 0).2.2 2 = 4 from rfl] at l2
    rw [show (jtab 0).2.2 3 = 6 from rfl] at l3
    rw [show (jtab 0).2.2 4 = 6 from rfl] at l4
    rw [show (jtab 0).2.2 5 = 2 from rfl] at l5
    rw [show (jtab 0).2.2 6 = 8 from rfl] at l6
    rw [show (jtab 0).2.2 7 = 5 from rfl] at l7
    rw [show (jtab 0).2.2 8 = 6 from rfl] at l8
    rw [show (jtab 0).2.2 9 = 3 from rfl] at l9
    rw [show (jtab 0).2.2 10 = 3 from rfl] at l10
    rw [show (jtab 0).2.2 11 = 4 from rfl] at l11
    rw [show (jtab 0).2.2 12 = 4 from rfl] at l12
    have hcr : 1 ≤ c_rows ct td ∧ c_rows ct td ≤ 40 := by
      have h9 := (hLI 0 0 (by omega) (by omega) (by omega)).1 rfl
      have e9 : c_rows ct td = c_get td 0 0 0 := by unfold c_rows; rw [if_neg (by omega)]
      omega
    have hB3 : M2 (m + 3) = jdA 431 (B 3) := hBm 3 (by omega) (by omega)
    obtain ⟨hrw, hsc, hwk, hsk9, h422, hgt, h429, h430⟩ := id hRR
    replace hsc : ∀ t, t < 2 → B 3 (410 + t) = sp t := hsc
    replace hwk : ∀ t : Nat, (t : Int) < ct 5 → B 3 (412 + t) = if c_get td 5 t 0 = 0 then g3 4 - 1 else c_rows ct td - g3 5 := hwk
    replace hsk9 : ∀ j, j < 8 → B 3 (414 + j) = sk j := hsk9
    replace h422 : B 3 422 = g3 6 := h422
    replace h429 : B 3 429 = g3 7 := h429
    replace hgt : ∀ i, i < 6 → B 3 (423 + i) = go i := hgt
    replace h430 : B 3 430 = c_rows ct td - (g3 5 - g3 4 + 1) := h430
    obtain ⟨h4r, hsr, hkr, hzr, h0r, hfr, htr, h2r, h451r⟩ := id hRI
    replace h4r : 1 ≤ g3 4 ∧ g3 4 ≤ g3 5 + 1 ∧ g3 5 ≤ c_rows ct td := h4r
    replace hsr : ∀ j, 0 ≤ sp j ∧ sp j ≤ 60000 + 22000 * (c_rows ct td - (g3 5 - g3 4 + 1)) := hsr
    replace hkr : ∀ j, 0 ≤ sk j ∧ sk j ≤ 9999 := hkr
    replace hzr : 0 ≤ g3 7 ∧ g3 7 ≤ 65536 := hzr
    replace h0r : ∀ ρ : Nat, g3 4 ≤ ρ → (ρ : Int) ≤ g3 5 → ∀ o, o < 11 → fa (11 * ρ + o) = 0 := h0r
    replace hfr : ∀ j, 0 ≤ fa j ∧ fa j ≤ 5000000 := hfr
    have s9 := hsc x.toNat (by omega)
    have e9 : sp x.toNat = c_two sp x := by
      unfold c_two
      rw [if_pos (by omega)]
    refine jr_aload_n (pc := 13) h dX9_seconds_13 rfl ?_
    refine jr_aload_n (pc := 14) h dX9_seconds_14 rfl ?_
    refine gf_X9_21 (pc := 15) h dX9_seconds_15 (by assumption) (by omega) ?_
    refine jr_sipush (pc := 18) h dX9_seconds_18 sp_410 ?_
    refine jr_iload_n (pc := 21) h dX9_seconds_21 rfl ?_
    refine jr_iadd (pc := 22) h dX9_seconds_22 ?_
    refine jr_iald (pc := 23) h dX9_seconds_23 hB3 (by omega) (by omega) ?_
    rw [show ((410 : Int) + x).toNat = 410 + x.toNat by omega, s9, e9]
    refine iv_X9_62 (pc := 24) h hl hR dX9_seconds_24 ⟨(Nat.le_of_ble_eq_true rfl), (Nat.le_of_ble_eq_true rfl), (Nat.le_of_ble_eq_true rfl), (Nat.le_of_ble_eq_true rfl)⟩ (Nat.le_of_ble_eq_true rfl) (by assumption) (by omega) (s_X9_done hX) (fun v_24 n_24 M_24 hn_24 hp => ?_)
    obtain ⟨⟨rfl, rfl⟩, hX, f9⟩ := hp
    have f1 := fr_tr f1 f9
    obtain ⟨hnm, hOm, hBm⟩ := id hX
    refine jr_goto (pc := 27) h 35 dX9_seconds_27 (by decide) ?_
    refine jr_iret (pc := 35) h hRt dX9_seconds_35 rfl (Nat.le_of_ble_eq_true rfl) (Nat.le_of_ble_eq_true rfl) ?_
    refine lfA9 ?_ hX f1
    unfold x_seconds
    (repeat' split) <;> first | rfl | (exfalso; omega) | contradiction
set_option maxHeartbeats 1000000 in
set_option maxRecDepth 20000 in
theorem s_X9_left {l : Launch} {n : Nat} {M : jdM} {m : Nat} {g : Nat → Int} {w : Int} {fl rd : Value} {B : Nat → Nat → Int} (hX : MX M n m g w fl rd B) {ct td bk si ld : Nat → Int} (hFX : FX M n m fl ct td bk si ld) {x y : Int} (hx : -2147483648 ≤ x ∧ x < 2147483648) (hy : -2147483648 ≤ y ∧ y < 2147483648)  {g3 sp sk fa go : Nat → Int} (hRR : RRel ct td (g3, sp, sk, fa, go) (B 3)) (hRI : RI ct td (g3, sp, sk, fa, go)) (hR2 : RI2 ct td (g3, sp, sk, fa, go)) : Ct l yX9_left cX9_left 3 (some .int) rX9_left [.ref m, jI x, jI y] n M (fun vv n' M' => (vv = some (jI (x_left ct sk x y).1) ∧ n = n') ∧ MX M' n m (rg g (x_left ct sk x y).2) w fl rd B ∧ fr (MXf m) M M') := by
  refine Ct_of [some (.ref m), some (jI x), some (jI y)] (by decide) (Nat.le_of_ble_eq_true rfl) rfl (fun κ hl h hR hRt hmn hn0 => ?_)
  have h : Ok κ RX9 cX9_left 3 (some .int) := h
  obtain ⟨hnm, hOm, hBm⟩ := id hX
  have hOm : M m = jdO 9 (fX9 m _ _ fl rd) := hOm
  refine jr_aload_n (pc := 0) h dX9_left_0 rfl ?_
  refine jr_iconst (pc := 1) h dX9_left_1 ?_
  refine pf_X9_52 (pc := 2) h dX9_left_2 hOm (by omega) ?_
  refine jm_gen (fun M2 hM2 => ?_)
  rw [fX9_0] at hM2
  have hX := MX_o hX hM2
  have f9 : fr (MXf m) _ M2 := fr_up hM2 ⟨by omega, by omega⟩
  obtain ⟨hnm, hOm, hBm⟩ := id hX
  have f1 := f9
  have hFX := FX_fr hFX f9
  refine jr_aload_n (pc := 5) h dX9_left_5 rfl ?_
  refine jr_iload_n (pc := 6) h dX9_left_6 rfl ?_
  refine iv_X9_452 (pc := 7) h hl hR dX9_left_7 ⟨(Nat.le_of_ble_eq_true rfl), (Nat.le_of_ble_eq_true rfl), (Nat.le_of_ble_eq_true rfl), (Nat.le_of_ble_eq_true rfl)⟩ (Nat.le_of_ble_eq_true rfl) (by assumption) (by omega) (s_X9_isTrolley hX hFX (by omega)) (fun v_7 n_7 M_7 hn_7 hp => ?_)
  obtain ⟨⟨rfl, rfl, rfl⟩, gr_7⟩ := hp
  refine jr_if_eq (pc := 10) h 34 dX9_left_10 (by decide) (by omega) (fun c_10 => ?_) (fun c_10 => ?_)
  · first | have d_10 := bz_0.mp c_10 | have d_10 := bz_1.mp c_10 | skip
    refine jr_aload_n (pc := 34) h dX9_left_34 rfl ?_
    refine jr_iconst (pc := 35) h dX9_left_35 ?_
    refine iv_X9_58 (pc := 36) h hl hR dX9_left_36 ⟨(Nat.le_of_ble_eq_true rfl), (Nat.le_of_ble_eq_true rfl), (Nat.le_of_ble_eq_true rfl), (Nat.le_of_ble_eq_true rfl)⟩ (Nat.le_of_ble_eq_true rfl) (by assumption) (by omega) (s_X9_refused hX) (fun v_36 n_36 M_36 hn_36 hp => ?_)
    obtain ⟨⟨rfl, rfl⟩, hX, f9⟩ := hp
    have f1 := fr_tr f1 f9
    obtain ⟨hnm, hOm, hBm⟩ := id hX
    refine jr_iret (pc := 39) h hRt dX9_left_39 rfl (Nat.le_of_ble_eq_true rfl) (Nat.le_of_ble_eq_true rfl) ?_
    refine lfA9 ?_ hX f1
    unfold x_left
    (repeat' split) <;> first | rfl | (exfalso; omega) | contradiction
  · first | have d_10 := bz_0.mp c_10 | have d_10 := bz_1.mp c_10 | skip
    refine jr_aload_n (pc := 13) h dX9_left_13 rfl ?_
    refine jr_iload_n (pc := 14) h dX9_left_14 rfl ?_
    refine iv_X9_446 (pc := 15) h hl hR dX9_left_15 ⟨(Nat.le_of_ble_eq_true rfl), (Nat.le_of_ble_eq_true rfl), (Nat.le_of_ble_eq_true rfl), (Nat.le_of_ble_eq_true rfl)⟩ (Nat.le_of_ble_eq_true rfl) (by assumption) (by omega) (s_X9_isKind hX hFX (by omega)) (fun v_15 n_15 M_15 hn_15 hp => ?_)
    obtain ⟨⟨rfl, rfl, rfl⟩, gr_15⟩ := hp
    refine jr_if_eq (pc := 18) h 34 dX9_left_18 (by decide) (by omega) (fun c_18 => ?_) (fun c_18 => ?_)
    · first | have d_18 := bz_0.mp c_18 | have d_18 := bz_1.mp c_18 | skip
      refine jr_aload_n (pc := 34) h dX9_left_34 rfl ?_
      refine jr_iconst (pc := 35) h dX9_left_35 ?_
      refine iv_X9_58 (pc := 36) h hl hR dX9_left_36 ⟨(Nat.le_of_ble_eq_true rfl), (Nat.le_of_ble_eq_true rfl), (Nat.le_of_ble_eq_true rfl), (Nat.le_of_ble_eq_true rfl)⟩ (Nat.le_of_ble_eq_true rfl) (by assumption) (by omega) (s_X9_refused hX) (fun v_36 n_36 M_36 hn_36 hp => ?_)
      obtain ⟨⟨rfl, rfl⟩, hX, f9⟩ := hp
      have f1 := fr_tr f1 f9
      obtain ⟨hnm, hOm, hBm⟩ := id hX
      refine jr_iret (pc := 39) h hRt dX9_left_39 rfl (Nat.le_of_ble_eq_true rfl) (Nat.le_of_ble_eq_true rfl) ?_
      refine lfA9 ?_ hX f1
      unfold x_left
      (repeat' split) <;> first | rfl | (exfalso; omega) | contradiction
    · first | have d_18 := bz_0.mp c_18 | have d_18 := bz_1.mp c_18 | skip
      have hr00 := fun (hz : ∀ j, ct j = 0) => rows0 (td := td) hz
      rcases hFX with ⟨rfl, hz⟩ | ⟨f, gf, A, rfl, hsep, hMF, hFM⟩
      · exfalso
        have z2 := hz 2
        have z5 := hz 5
        have zr := hr00 hz
        omega
      obtain ⟨hnf, hOf, hAf⟩ := id hMF
      obtain ⟨⟨e0, e1, e2, e3, e4⟩, ⟨k5, k6, k7, k8, k9, k10, k11, k12, k13, k14, k15⟩, ⟨a2, a3, a4, a5, a6, a7, a8, a9, a10, a11, a12⟩, ⟨hlim, hLI, hends, hrt⟩, ⟨hbk, hld⟩, hc0, hc1, hc2, hc5⟩ := id hFM
      have l2 := hlim 2 (by omega)
      have l3 := hlim 3 (by omega)
      have l4 := hlim 4 (by omega)
      have l5 := hlim 5 (by omega)
      have l6 := hlim 6 (by omega)
      have l7 := hlim 7 (by omega)
      have l8 := hlim 8 (by omega)
      have l9 := hlim 9 (by omega)
      have l10 := hlim 10 (by omega)
      have l11 := hlim 11 (by omega)
      have l12 := hlim 12 (by omega)
      rw [show (jtab 0).2.2 2 = 4 from rfl] at l2
      rw [show (jtab 0).2.2 3 = 6 from rfl] at l3
      rw [show (jtab 0).2.2 4 = 6 from rfl] at l4
      rw [show (jtab 0).2.2 5 = 2 from rfl] at l5
      rw [show (jtab 0).2.2 6 = 8 from rfl] at l6
      rw [show (jtab 0).2.2 7 = 5 from rfl] at l7
      rw [show (jtab 0).2.2 8 = 6 from rfl] at l8
      rw [show (jtab 0).2.2 9 = 3 from rfl] at l9
      rw [show (jtab 0).2.2 10 = 3 from rfl] at l10
      rw [show (jtab 0).2.2 11 = 4 from rfl] at l11
      rw [show (jtab 0).2.2 12 = 4 from rfl] at l12
      have hcr : 1 ≤ c_rows ct td ∧ c_rows ct td ≤ 40 := by
        have h9 := (hLI 0 0 (by omega) (by omega) (by omega)).1 rfl
        have e9 : c_rows ct td = c_get td 0 0 0 := by unfold c_rows; rw [if_neg (by omega)]
        omega
      refine jr_aload_n (pc := 21) h dX9_left_21 rfl ?_
      refine jr_aload_n (pc := 22) h dX9_left_22 rfl ?_
      refine jr_iload_n (pc := 23) h dX9_left_23 rfl ?_
      refine jr_iload_n (pc := 24) h dX9_left_24 rfl ?_
      refine iv_X9_481 (pc := 25) h hl hR dX9_left_25 ⟨(Nat.le_of_ble_eq_true rfl), (Nat.le_of_ble_eq_true rfl), (Nat.le_of_ble_eq_true rfl), (Nat.le_of_ble_eq_true rfl)⟩ (Nat.le_of_ble_eq_true rfl) (by assumption) (by omega) (s_X9_leftG hX hMF hFM hsep hRR hRI (by omega) (by omega)) (fun v_25 n_25 M_25 hn_25 hp => ?_)
      obtain ⟨rfl, rfl, rfl⟩ := hp
      refine iv_X9_62 (pc := 28) h hl hR dX9_left_28 ⟨(Nat.le_of_ble_eq_true rfl), (Nat.le_of_ble_eq_true rfl), (Nat.le_of_ble_eq_true rfl), (Nat.le_of_ble_eq_true rfl)⟩ (Nat.le_of_ble_eq_true rfl) (by assumption) (by omega) (s_X9_done hX) (fun v_28 n_28 M_28 hn_28 hp => ?_)
      obtain ⟨⟨rfl, rfl⟩, hX, f9⟩ := hp
      have f1 := fr_tr f1 f9
      obtain ⟨hnm, hOm, hBm⟩ := id hX
      refine jr_goto (pc := 31) h 39 dX9_left_31 (by decide) ?_
      refine jr_iret (pc := 39) h hRt dX9_left_39 rfl (Nat.le_of_ble_eq_true rfl) (Nat.le_of_ble_eq_true rfl) ?_
      refine lfA9 ?_ hX f1
      unfold x_left
      (repeat' split) <;> first | rfl | (exfalso; omega) | contradiction
