/-! 73: the reference: out, ways, enough -/
theorem lfO {M M' : jdM} {n m : Nat} {g : Nat → Int} {w : Int} {fl rd : Value} {B : Nat → Nat → Int} {r : Int × Int} {v t : Int} {b5 : Nat → Int} (e : r = (v, t)) (hX : MX M' n m (up (up (up g 0 0) 1 t) 2 (-1)) w fl rd (up B 5 b5)) (f : fr (MXf m) M M') : (some (jL v) = some (jL r.1) ∧ n = n) ∧ ∃ b5, MX M' n m (rg g r.2) w fl rd (up B 5 b5) ∧ fr (MXf m) M M' := by
  subst e
  exact ⟨⟨rfl, rfl⟩, b5, hX, f⟩
theorem lfOn {M M' : jdM} {n m : Nat} {g : Nat → Int} {w : Int} {fl rd : Value} {B : Nat → Nat → Int} {r : Int × Int} {v t : Int} (e : r = (v, t)) (hX : MX M' n m (up (up (up g 0 0) 1 t) 2 (-1)) w fl rd B) (f : fr (MXf m) M M') : (some (jL v) = some (jL r.1) ∧ n = n) ∧ ∃ b5, MX M' n m (rg g r.2) w fl rd (up B 5 b5) ∧ fr (MXf m) M M' := by
  subst e
  exact ⟨⟨rfl, rfl⟩, B 5, by rw [up_id rfl]; exact hX, f⟩
theorem lfOi {M M' : jdM} {n m : Nat} {g : Nat → Int} {w : Int} {fl rd : Value} {B : Nat → Nat → Int} {r : Int × Int} {v t : Int} {b5 : Nat → Int} (e : r = (v, t)) (hX : MX M' n m (up (up (up g 0 0) 1 t) 2 (-1)) w fl rd (up B 5 b5)) (f : fr (MXf m) M M') : (some (jI v) = some (jI r.1) ∧ n = n) ∧ ∃ b5, MX M' n m (rg g r.2) w fl rd (up B 5 b5) ∧ fr (MXf m) M M' := by
  subst e
  exact ⟨⟨rfl, rfl⟩, b5, hX, f⟩
theorem lfOin {M M' : jdM} {n m : Nat} {g : Nat → Int} {w : Int} {fl rd : Value} {B : Nat → Nat → Int} {r : Int × Int} {v t : Int} (e : r = (v, t)) (hX : MX M' n m (up (up (up g 0 0) 1 t) 2 (-1)) w fl rd B) (f : fr (MXf m) M M') : (some (jI v) = some (jI r.1) ∧ n = n) ∧ ∃ b5, MX M' n m (rg g r.2) w fl rd (up B 5 b5) ∧ fr (MXf m) M M' := by
  subst e
  exact ⟨⟨rfl, rfl⟩, B 5, by rw [up_id rfl]; exact hX, f⟩
theorem FM_wgh {ct td bk si ld gf : Nat → Int} {A : Nat → Nat → Int} (h : FM ct td bk si ld gf A) (k : Int) {e : Nat} (ha : c_ahead ct td si e ≤ 10) : c_wab (c_wgh ct td bk si k e) (-1) = c_wgh ct td bk si (-1) e 0 ∧ ∀ m, 0 ≤ c_wab (c_wgh ct td bk si k e) m ∧ c_wab (c_wgh ct td bk si k e) m ≤ 3656158440062976 := by
  obtain ⟨⟨-, -, -, hu⟩, -, -⟩ := FM_KI h
  obtain ⟨-, -, -, hF, hS, -, -, hc2, -⟩ := h
  have l7 := hF.1 7 (by omega)
  have hb : ∀ r : Int, -1 ≤ c_blk bk r ∧ c_blk bk r < ct 7 := fun r => by
    rcases FM_blk hS l7.1 r with q | q
    · exact q
    · omega
  have hw : ∀ r : Int, (0 ≤ c_win td (c_blk bk r) k ∧ c_win td (c_blk bk r) k ≤ c_weights td bk r) ∧ c_weights td bk r ≤ 36 := fun r => by
    have g0 := fun c => (c_getr hF.2.2.2 7 (c_blk bk r) c).1
    by_cases q : c_blk bk r = -1
    · have z : ∀ c, c_get td 7 (c_blk bk r) c = 0 := fun c => by
        unfold c_get
        rw [if_neg (by omega)]
      have z1 : c_win td (c_blk bk r) k = 0 := by
        unfold c_win
        rw [z]
        rfl
      have z2 : c_weights td bk r = 0 := by
        show 0 + c_get td 7 (c_blk bk r) _ + c_get td 7 (c_blk bk r) _ + c_get td 7 (c_blk bk r) _ + c_get td 7 (c_blk bk r) _ = 0
        rw [z, z, z, z]
        rfl
      omega
    · have hb9 := hb r
      obtain ⟨-, -, -, -, -, n1, n2, w1, w2, w3⟩ := (hF.2.1 7 (c_blk bk r) (by omega) (by omega) hb9.2).2.2.2.2.2.2.2.1 rfl
      have hg : ∀ i : Int, 0 ≤ i → i < 4 → 0 ≤ c_get td 7 (c_blk bk r) (4 + 2 * i + 1) ∧ c_get td 7 (c_blk bk r) (4 + 2 * i + 1) ≤ 9 := fun i a c => by
        have := g0 (4 + 2 * i + 1)
        by_cases q2 : i < c_get td 7 (c_blk bk r) 3
        · exact ⟨this, (w1 i a q2).2.2⟩
        · have := (w2 i (by omega) c).2
          omega
      have h4 := sumZ_b (f := fun i => c_get td 7 (c_blk bk r) (4 + 2 * i + 1)) (k := 4) (lo := 0) (hi := 9) (fun i a c => hg i a (by omega))
      have e4 : c_weights td bk r = sumZ (fun i => c_get td 7 (c_blk bk r) (4 + 2 * i + 1)) 4 := rfl
      have h5 := win_le (f := fun i => c_get td 7 (c_blk bk r) (4 + 2 * i)) (g := fun i => c_get td 7 (c_blk bk r) (4 + 2 * i + 1)) (key := k) (d := (min (c_get td 7 (c_blk bk r) 3) 4).toNat) (i := 0) (fun j a c => g0 _)
      have e6 : sumZ (fun t => (fun i => c_get td 7 (c_blk bk r) (4 + 2 * i + 1)) (0 + t)) (min (c_get td 7 (c_blk bk r) 3) 4).toNat = sumZ (fun i => c_get td 7 (c_blk bk r) (4 + 2 * i + 1)) (min (c_get td 7 (c_blk bk r) 3) 4).toNat := sumZ_cong (fun i _ _ => by show c_get td 7 (c_blk bk r) (4 + 2 * (0 + i) + 1) = _; rw [Int.zero_add])
      have e7 : sumZ (fun i => c_get td 7 (c_blk bk r) (4 + 2 * i + 1)) 4 = sumZ (fun i => c_get td 7 (c_blk bk r) (4 + 2 * i + 1)) (min (c_get td 7 (c_blk bk r) 3) 4).toNat := sumZ_tail (by omega) (fun i a c => (w2 i (by omega) (by omega)).2)
      rw [e6] at h5
      have e8 : c_win td (c_blk bk r) k = firstW (fun i => c_get td 7 (c_blk bk r) (4 + 2 * i)) (fun i => c_get td 7 (c_blk bk r) (4 + 2 * i + 1)) k 0 (min (c_get td 7 (c_blk bk r) 3) 4).toNat := rfl
      omega
  have h9 := WGI_wgh (ct := ct) (td := td) (bk := bk) (si := si) (k := k) (fun r => ⟨(hw r).1.1, by have := hw r; unfold c_oth; omega, (hw r).2⟩) (fun r => win_z hF) (fun r => (hu r).1) ha
  obtain ⟨⟨g1, g2, g3, g4⟩, g5⟩ := h9
  have hp : (36 : Int) ^ (c_ahead ct td si e).toNat ≤ 36 ^ 10 := by
    have := Nat.pow_le_pow_right (n := 36) (by omega) (show (c_ahead ct td si e).toNat ≤ 10 by omega)
    exact_mod_cast this
  have hp2 : (36 : Int) ^ 10 = 3656158440062976 := by decide
  refine ⟨g3, fun m => ?_⟩
  have := wab_le g1 m
  omega
set_option maxHeartbeats 1000000 in
set_option maxRecDepth 20000 in
theorem s_X9_out {l : Launch} {n : Nat} {M : jdM} {m : Nat} {g : Nat → Int} {w : Int} {fl rd : Value} {B : Nat → Nat → Int} (hX : MX M n m g w fl rd B) {ct td bk si ld : Nat → Int} (hFX : FX M n m fl ct td bk si ld) {x y z : Int} (hx : -2147483648 ≤ x ∧ x < 2147483648) (hy : -2147483648 ≤ y ∧ y < 2147483648) (hz : -2147483648 ≤ z ∧ z < 2147483648) : Ct l yX9_out cX9_out 4 (some .long) rX9_out [.ref m, jI x, jI y, jI z] n M (fun vv n' M' => (vv = some (jL (x_out ct td bk si x y z).1) ∧ n = n') ∧ ∃ b5, MX M' n m (rg g (x_out ct td bk si x y z).2) w fl rd (up B 5 b5) ∧ fr (MXf m) M M') := by
  refine Ct_of [some (.ref m), some (jI x), some (jI y), some (jI z)] (by decide) (Nat.le_of_ble_eq_true rfl) rfl (fun κ hl h hR hRt hmn hn0 => ?_)
  have h : Ok κ RX9 cX9_out 4 (some .long) := h
  obtain ⟨hnm, hOm, hBm⟩ := id hX
  have hOm : M m = jdO 9 (fX9 m _ _ fl rd) := hOm
  refine jr_aload_n (pc := 0) h dX9_out_0 rfl ?_
  refine jr_iconst (pc := 1) h dX9_out_1 ?_
  refine pf_X9_52 (pc := 2) h dX9_out_2 hOm (by omega) ?_
  refine jm_gen (fun M2 hM2 => ?_)
  rw [fX9_0] at hM2
  have hX := MX_o hX hM2
  have f9 : fr (MXf m) _ M2 := fr_up hM2 ⟨by omega, by omega⟩
  obtain ⟨hnm, hOm, hBm⟩ := id hX
  have f1 := f9
  have hFX := FX_fr hFX f9
  refine jr_aload_n (pc := 5) h dX9_out_5 rfl ?_
  refine jr_iload_n (pc := 6) h dX9_out_6 rfl ?_
  refine iv_X9_434 (pc := 7) h hl hR dX9_out_7 ⟨(Nat.le_of_ble_eq_true rfl), (Nat.le_of_ble_eq_true rfl), (Nat.le_of_ble_eq_true rfl), (Nat.le_of_ble_eq_true rfl)⟩ (Nat.le_of_ble_eq_true rfl) (by assumption) (by omega) (s_X9_isRow hX hFX (by omega)) (fun v_7 n_7 M_7 hn_7 hp => ?_)
  obtain ⟨⟨rfl, rfl, rfl⟩, gr_7⟩ := hp
  refine jr_if_eq (pc := 10) h 21 dX9_out_10 (by decide) (by omega) (fun c_10 => ?_) (fun c_10 => ?_)
  · first | have d_10 := bz_0.mp c_10 | have d_10 := bz_1.mp c_10 | skip
    refine jr_aload_n (pc := 21) h dX9_out_21 rfl ?_
    refine jr_iconst (pc := 22) h dX9_out_22 ?_
    refine iv_X9_58 (pc := 23) h hl hR dX9_out_23 ⟨(Nat.le_of_ble_eq_true rfl), (Nat.le_of_ble_eq_true rfl), (Nat.le_of_ble_eq_true rfl), (Nat.le_of_ble_eq_true rfl)⟩ (Nat.le_of_ble_eq_true rfl) (by assumption) (by omega) (s_X9_refused hX) (fun v_23 n_23 M_23 hn_23 hp => ?_)
    obtain ⟨⟨rfl, rfl⟩, hX, f9⟩ := hp
    have f1 := fr_tr f1 f9
    obtain ⟨hnm, hOm, hBm⟩ := id hX
    refine jr_i2l (pc := 26) h dX9_out_26 (by omega) ?_
    refine jr_lret (pc := 27) h hRt dX9_out_27 (Nat.le_of_ble_eq_true rfl) (Nat.le_of_ble_eq_true rfl) ?_
    refine lfOn ?_ hX f1
    unfold x_out
    (repeat' split) <;> first | rfl | (exfalso; omega) | contradiction
  · first | have d_10 := bz_0.mp c_10 | have d_10 := bz_1.mp c_10 | skip
    refine jr_aload_n (pc := 13) h dX9_out_13 rfl ?_
    refine jr_iload_n (pc := 14) h dX9_out_14 rfl ?_
    refine iv_X9_446 (pc := 15) h hl hR dX9_out_15 ⟨(Nat.le_of_ble_eq_true rfl), (Nat.le_of_ble_eq_true rfl), (Nat.le_of_ble_eq_true rfl), (Nat.le_of_ble_eq_true rfl)⟩ (Nat.le_of_ble_eq_true rfl) (by assumption) (by omega) (s_X9_isKind hX hFX (by omega)) (fun v_15 n_15 M_15 hn_15 hp => ?_)
    obtain ⟨⟨rfl, rfl, rfl⟩, gr_15⟩ := hp
    refine jr_if_ne (pc := 18) h 28 dX9_out_18 (by decide) (by omega) (fun c_18 => ?_) (fun c_18 => ?_)
    · first | have d_18 := bz_0.mp c_18 | have d_18 := bz_1.mp c_18 | skip
      refine jr_iload_n (pc := 28) h dX9_out_28 rfl ?_
      refine jr_iconst (pc := 29) h dX9_out_29 ?_
      refine jr_bipush (pc := 30) h dX9_out_30 bp_99 ?_
      refine iv_X9_130 (pc := 32) h hl hR dX9_out_32 ⟨(Nat.le_of_ble_eq_true rfl), (Nat.le_of_ble_eq_true rfl), (Nat.le_of_ble_eq_true rfl), (Nat.le_of_ble_eq_true rfl)⟩ (Nat.le_of_ble_eq_true rfl) (s_X9_in (by omega) (by omega) (by omega)) (fun v_32 n_32 M_32 hn_32 hp => ?_)
      obtain ⟨⟨rfl, rfl, rfl⟩, gr_32⟩ := hp
      refine jr_if_ne (pc := 35) h 45 dX9_out_35 (by decide) (by omega) (fun c_35 => ?_) (fun c_35 => ?_)
      · first | have d_35 := bz_0.mp c_35 | have d_35 := bz_1.mp c_35 | skip
        have hr00 := fun (hz : ∀ j, ct j = 0) => rows0 (td := td) hz
        rcases hFX with ⟨rfl, hz⟩ | ⟨f, gf, A, rfl, hsep, hMF, hFM⟩
        · exfalso
          have z2 := hz 2
          have z5 := hz 5
          have zr := hr00 hz
          omega
        obtain ⟨hnf, hOf, hAf⟩ := id hMF
        obtain ⟨⟨e0, e1, e2, e3, e4⟩, ⟨k5, k6, k7, k8, k9, k10, k11, k12, k13, k14, k15⟩, ⟨a2, a3, a4, a5, a6, a7, a8, a9, a10, a11, a12⟩, ⟨hlim, hLI, hends, hrt⟩, ⟨hbk, hld⟩, hc0, hc1, hc2, hc5⟩ := id hFM
        have l2 := hlim 2 (by omega)
        have l3 := hlim 3 (by omega)
        have l4 := hlim 4 (by omega)
        have l5 := hlim 5 (by omega)
        have l6 := hlim 6 (by omega)
        have l7 := hlim 7 (by omega)
        have l8 := hlim 8 (by omega)
        have l9 := hlim 9 (by omega)
        have l10 := hlim 10 (by omega)
        have l11 := hlim 11 (by omega)
        have l12 := hlim 12 (by omega)
        rw [show (jtab 0).2.2 2 = 4 from rfl] at l2
        rw [show (jtab 0).2.2 3 = 6 from rfl] at l3
        rw [show (jtab 0).2.2 4 = 6 from rfl] at l4
        rw [show (jtab 0).2.2 5 = 2 from rfl] at l5
        rw [show (jtab 0).2.2 6 = 8 from rfl] at l6
        rw [show (jtab 0).2.2 7 = 5 from rfl] at l7
        rw [show (jtab 0).2.2 8 = 6 from rfl] at l8
        rw [show (jtab 0).2.2 9 = 3 from rfl] at l9
        rw [show (jtab 0).2.2 10 = 3 from rfl] at l10
        rw [show (jtab 0).2.2 11 = 4 from rfl] at l11
        rw [show (jtab 0).2.2 12 = 4 from rfl] at l12
        have hcr : 1 ≤ c_rows ct td ∧ c_rows ct td ≤ 40 := by
          have h9 := (hLI 0 0 (by omega) (by omega) (by omega)).1 rfl
          have e9 : c_rows ct td = c_get td 0 0 0 := by unfold c_rows; rw [if_neg (by omega)]
          omega
        refine jr_aload_n (pc := 45) h dX9_out_45 rfl ?_
        refine jr_iload_n (pc := 46) h dX9_out_46 rfl ?_
        refine iv_X9_543 (pc := 47) h hl hR dX9_out_47 ⟨(Nat.le_of_ble_eq_true rfl), (Nat.le_of_ble_eq_true rfl), (Nat.le_of_ble_eq_true rfl), (Nat.le_of_ble_eq_true rfl)⟩ (Nat.le_of_ble_eq_true rfl) (by assumption) (by omega) (s_X9_aheadOf hX hMF hFM hsep (by omega)) (fun v_47 n_47 M_47 hn_47 hp => ?_)
        obtain ⟨⟨rfl, rfl, rfl⟩, gr_47⟩ := hp
        refine jr_bipush (pc := 50) h dX9_out_50 bp_10 ?_
        refine jr_icmp_le (pc := 52) h 62 dX9_out_52 (by decide) (by omega) (by omega) (fun c_52 => ?_) (fun c_52 => ?_)
        · first | have d_52 := bz_0.mp c_52 | have d_52 := bz_1.mp c_52 | skip
          refine jr_aload_n (pc := 62) h dX9_out_62 rfl ?_
          refine jr_iload_n (pc := 63) h dX9_out_63 rfl ?_
          refine jr_iload_n (pc := 64) h dX9_out_64 rfl ?_
          refine iv_X9_546 (pc := 65) h hl hR dX9_out_65 ⟨(Nat.le_of_ble_eq_true rfl), (Nat.le_of_ble_eq_true rfl), (Nat.le_of_ble_eq_true rfl), (Nat.le_of_ble_eq_true rfl)⟩ (Nat.le_of_ble_eq_true rfl) (by assumption) (by omega) (s_X9_likings hX hMF hFM hsep (by omega) (by omega)) (fun v_65 n_65 M_65 hn_65 hp => ?_)
          obtain ⟨⟨rfl, rfl⟩, b5, hX, hb5, f9⟩ := hp
          have f1 := fr_tr f1 f9
          obtain ⟨hnm, hOm, hBm⟩ := id hX
          refine jr_aload_n (pc := 68) h dX9_out_68 rfl ?_
          refine jr_iconst (pc := 69) h dX9_out_69 ?_
          refine iv_X9_62 (pc := 70) h hl hR dX9_out_70 ⟨(Nat.le_of_ble_eq_true rfl), (Nat.le_of_ble_eq_true rfl), (Nat.le_of_ble_eq_true rfl), (Nat.le_of_ble_eq_true rfl)⟩ (Nat.le_of_ble_eq_true rfl) (by assumption) (by omega) (s_X9_done hX) (fun v_70 n_70 M_70 hn_70 hp => ?_)
          obtain ⟨⟨rfl, rfl⟩, hX, f9⟩ := hp
          have f1 := fr_tr f1 f9
          obtain ⟨hnm, hOm, hBm⟩ := id hX
          refine jr_pop (pc := 73) h dX9_out_73 rfl ?_
          refine jr_aload_n (pc := 74) h dX9_out_74 rfl ?_
          refine jr_iload_n (pc := 75) h dX9_out_75 rfl ?_
          refine iv_X9_549 (pc := 76) h hl hR dX9_out_76 ⟨(Nat.le_of_ble_eq_true rfl), (Nat.le_of_ble_eq_true rfl), (Nat.le_of_ble_eq_true rfl), (Nat.le_of_ble_eq_true rfl)⟩ (Nat.le_of_ble_eq_true rfl) (by assumption) (by omega) (s_X9_moreThan hX (by omega)) (fun v_76 n_76 M_76 hn_76 hp => ?_)
          obtain ⟨rfl, rfl, rfl⟩ := hp
          rw [up_eq, c_wab_agw hb5]
          refine jr_lret (pc := 79) h hRt dX9_out_79 (Nat.le_of_ble_eq_true rfl) (Nat.le_of_ble_eq_true rfl) ?_
          refine lfO ?_ hX f1
          unfold x_out
          rw [if_pos (by omega), if_pos (by omega), if_pos (by omega)]
        · first | have d_52 := bz_0.mp c_52 | have d_52 := bz_1.mp c_52 | skip
          refine jr_aload_n (pc := 55) h dX9_out_55 rfl ?_
          refine jr_iconst (pc := 56) h dX9_out_56 ?_
          refine iv_X9_58 (pc := 57) h hl hR dX9_out_57 ⟨(Nat.le_of_ble_eq_true rfl), (Nat.le_of_ble_eq_true rfl), (Nat.le_of_ble_eq_true rfl), (Nat.le_of_ble_eq_true rfl)⟩ (Nat.le_of_ble_eq_true rfl) (by assumption) (by omega) (s_X9_refused hX) (fun v_57 n_57 M_57 hn_57 hp => ?_)
          obtain ⟨⟨rfl, rfl⟩, hX, f9⟩ := hp
          have f1 := fr_tr f1 f9
          obtain ⟨hnm, hOm, hBm⟩ := id hX
          refine jr_i2l (pc := 60) h dX9_out_60 (by omega) ?_
          refine jr_lret (pc := 61) h hRt dX9_out_61 (Nat.le_of_ble_eq_true rfl) (Nat.le_of_ble_eq_true rfl) ?_
          refine lfOn ?_ hX f1
          unfold x_out
          (repeat' split) <;> first | rfl | (exfalso; omega) | contradiction
      · first | have d_35 := bz_0.mp c_35 | have d_35 := bz_1.mp c_35 | skip
        refine jr_aload_n (pc := 38) h dX9_out_38 rfl ?_
        refine jr_iconst (pc := 39) h dX9_out_39 ?_
        refine iv_X9_58 (pc := 40) h hl hR dX9_out_40 ⟨(Nat.le_of_ble_eq_true rfl), (Nat.le_of_ble_eq_true rfl), (Nat.le_of_ble_eq_true rfl), (Nat.le_of_ble_eq_true rfl)⟩ (Nat.le_of_ble_eq_true rfl) (by assumption) (by omega) (s_X9_refused hX) (fun v_40 n_40 M_40 hn_40 hp => ?_)
        obtain ⟨⟨rfl, rfl⟩, hX, f9⟩ := hp
        have f1 := fr_tr f1 f9
        obtain ⟨hnm, hOm, hBm⟩ := id hX
        refine jr_i2l (pc := 43) h dX9_out_43 (by omega) ?_
        refine jr_lret (pc := 44) h hRt dX9_out_44 (Nat.le_of_ble_eq_true rfl) (Nat.le_of_ble_eq_true rfl) ?_
        refine lfOn ?_ hX f1
        unfold x_out
        (repeat' split) <;> first | rfl | (exfalso; omega) | contradiction
    · first | have d_18 := bz_0.mp c_18 | have d_18 := bz_1.mp c_18 | skip
      refine jr_aload_n (pc := 21) h dX9_out_21 rfl ?_
      refine jr_iconst (pc := 22) h dX9_out_22 ?_
      refine iv_X9_58 (pc := 23) h hl hR dX9_out_23 ⟨(Nat.le_of_ble_eq_true rfl), (Nat.le_of_ble_eq_true rfl), (Nat.le_of_ble_eq_true rfl), (Nat.le_of_ble_eq_true rfl)⟩ (Nat.le_of_ble_eq_true rfl) (by assumption) (by omega) (s_X9_refused hX) (fun v_23 n_23 M_23 hn_23 hp => ?_)
      obtain ⟨⟨rfl, rfl⟩, hX, f9⟩ := hp
      have f1 := fr_tr f1 f9
      obtain ⟨hnm, hOm, hBm⟩ := id hX
      refine jr_i2l (pc := 26) h dX9_out_26 (by omega) ?_
      refine jr_lret (pc := 27) h hRt dX9_out_27 (Nat.le_of_ble_eq_true rfl) (Nat.le_of_ble_eq_true rfl) ?_
      refine lfOn ?_ hX f1
      unfold x_out
      (repeat' split) <;> first | rfl | (exfalso; omega) | contradiction
set_option maxHeartbeats 1000000 in
set_option maxRecDepth 20000 in
theorem s_X9_ways {l : Launch} {n : Nat} {M : jdM} {m : Nat} {g : Nat → Int} {w : Int} {fl rd : Value} {B : Nat → Nat → Int} (hX : MX M n m g w fl rd B) {ct td bk si ld : Nat → Int} (hFX : FX M n m fl ct td bk si ld) {x : Int} (hx : -2147483648 ≤ x ∧ x < 2147483648) : Ct l yX9_ways cX9_ways 2 (some .long) rX9_ways [.ref m, jI x] n M (fun vv n' M' => (vv = some (jL (x_ways ct td bk si x).1) ∧ n = n') ∧ ∃ b5, MX M' n m (rg g (x_ways ct td bk si x).2) w fl rd (up B 5 b5) ∧ fr (MXf m) M M') := by
  refine Ct_of [some (.ref m), some (jI x)] (by decide) (Nat.le_of_ble_eq_true rfl) rfl (fun κ hl h hR hRt hmn hn0 => ?_)
  have h : Ok κ RX9 cX9_ways 2 (some .long) := h
  obtain ⟨hnm, hOm, hBm⟩ := id hX
  have hOm : M m = jdO 9 (fX9 m _ _ fl rd) := hOm
  refine jr_aload_n (pc := 0) h dX9_ways_0 rfl ?_
  refine jr_iconst (pc := 1) h dX9_ways_1 ?_
  refine pf_X9_52 (pc := 2) h dX9_ways_2 hOm (by omega) ?_
  refine jm_gen (fun M2 hM2 => ?_)
  rw [fX9_0] at hM2
  have hX := MX_o hX hM2
  have f9 : fr (MXf m) _ M2 := fr_up hM2 ⟨by omega, by omega⟩
  obtain ⟨hnm, hOm, hBm⟩ := id hX
  have f1 := f9
  have hFX := FX_fr hFX f9
  refine jr_aload_n (pc := 5) h dX9_ways_5 rfl ?_
  refine jr_iload_n (pc := 6) h dX9_ways_6 rfl ?_
  refine iv_X9_434 (pc := 7) h hl hR dX9_ways_7 ⟨(Nat.le_of_ble_eq_true rfl), (Nat.le_of_ble_eq_true rfl), (Nat.le_of_ble_eq_true rfl), (Nat.le_of_ble_eq_true rfl)⟩ (Nat.le_of_ble_eq_true rfl) (by assumption) (by omega) (s_X9_isRow hX hFX (by omega)) (fun v_7 n_7 M_7 hn_7 hp => ?_)
  obtain ⟨⟨rfl, rfl, rfl⟩, gr_7⟩ := hp
  refine jr_if_ne (pc := 10) h 20 dX9_ways_10 (by decide) (by omega) (fun c_10 => ?_) (fun c_10 => ?_)
  · first | have d_10 := bz_0.mp c_10 | have d_10 := bz_1.mp c_10 | skip
    have hr00 := fun (hz : ∀ j, ct j = 0) => rows0 (td := td) hz
    rcases hFX with ⟨rfl, hz⟩ | ⟨f, gf, A, rfl, hsep, hMF, hFM⟩
    · exfalso
      have z2 := hz 2
      have z5 := hz 5
      have zr := hr00 hz
      omega
    obtain ⟨hnf, hOf, hAf⟩ := id hMF
    obtain ⟨⟨e0, e1, e2, e3, e4⟩, ⟨k5, k6, k7, k8, k9, k10, k11, k12, k13, k14, k15⟩, ⟨a2, a3, a4, a5, a6, a7, a8, a9, a10, a11, a12⟩, ⟨hlim, hLI, hends, hrt⟩, ⟨hbk, hld⟩, hc0, hc1, hc2, hc5⟩ := id hFM
    have l2 := hlim 2 (by omega)
    have l3 := hlim 3 (by omega)
    have l4 := hlim 4 (by omega)
    have l5 := hlim 5 (by omega)
    have l6 := hlim 6 (by omega)
    have l7 := hlim 7 (by omega)
    have l8 := hlim 8 (by omega)
    have l9 := hlim 9 (by omega)
    have l10 := hlim 10 (by omega)
    have l11 := hlim 11 (by omega)
    have l12 := hlim 12 (by omega)
    rw [show (jtab 0).2.2 2 = 4 from rfl] at l2
    rw [show (jtab 0).2.2 3 = 6 from rfl] at l3
    rw [show (jtab 0).2.2 4 = 6 from rfl] at l4
    rw [show (jtab 0).2.2 5 = 2 from rfl] at l5
    rw [show (jtab 0).2.2 6 = 8 from rfl] at l6
    rw [show (jtab 0).2.2 7 = 5 from rfl] at l7
    rw [show (jtab 0).2.2 8 = 6 from rfl] at l8
    rw [show (jtab 0).2.2 9 = 3 from rfl] at l9
    rw [show (jtab 0).2.2 10 = 3 from rfl] at l10
    rw [show (jtab 0).2.2 11 = 4 from rfl] at l11
    rw [show (jtab 0).2.2 12 = 4 from rfl] at l12
    have hcr : 1 ≤ c_rows ct td ∧ c_rows ct td ≤ 40 := by
      have h9 := (hLI 0 0 (by omega) (by omega) (by omega)).1 rfl
      have e9 : c_rows ct td = c_get td 0 0 0 := by unfold c_rows; rw [if_neg (by omega)]
      omega
    refine jr_aload_n (pc := 20) h dX9_ways_20 rfl ?_
    refine jr_iload_n (pc := 21) h dX9_ways_21 rfl ?_
    refine iv_X9_543 (pc := 22) h hl hR dX9_ways_22 ⟨(Nat.le_of_ble_eq_true rfl), (Nat.le_of_ble_eq_true rfl), (Nat.le_of_ble_eq_true rfl), (Nat.le_of_ble_eq_true rfl)⟩ (Nat.le_of_ble_eq_true rfl) (by assumption) (by omega) (s_X9_aheadOf hX hMF hFM hsep (by omega)) (fun v_22 n_22 M_22 hn_22 hp => ?_)
    obtain ⟨⟨rfl, rfl, rfl⟩, gr_22⟩ := hp
    refine jr_bipush (pc := 25) h dX9_ways_25 bp_10 ?_
    refine jr_icmp_le (pc := 27) h 37 dX9_ways_27 (by decide) (by omega) (by omega) (fun c_27 => ?_) (fun c_27 => ?_)
    · first | have d_27 := bz_0.mp c_27 | have d_27 := bz_1.mp c_27 | skip
      refine jr_aload_n (pc := 37) h dX9_ways_37 rfl ?_
      refine jr_iload_n (pc := 38) h dX9_ways_38 rfl ?_
      refine jr_iconst (pc := 39) h dX9_ways_39 ?_
      refine iv_X9_546 (pc := 40) h hl hR dX9_ways_40 ⟨(Nat.le_of_ble_eq_true rfl), (Nat.le_of_ble_eq_true rfl), (Nat.le_of_ble_eq_true rfl), (Nat.le_of_ble_eq_true rfl)⟩ (Nat.le_of_ble_eq_true rfl) (by assumption) (by omega) (s_X9_likings hX hMF hFM hsep (by omega) (by omega)) (fun v_40 n_40 M_40 hn_40 hp => ?_)
      obtain ⟨⟨rfl, rfl⟩, b5, hX, hb5, f9⟩ := hp
      have f1 := fr_tr f1 f9
      obtain ⟨hnm, hOm, hBm⟩ := id hX
      refine jr_aload_n (pc := 43) h dX9_ways_43 rfl ?_
      refine jr_iconst (pc := 44) h dX9_ways_44 ?_
      refine iv_X9_62 (pc := 45) h hl hR dX9_ways_45 ⟨(Nat.le_of_ble_eq_true rfl), (Nat.le_of_ble_eq_true rfl), (Nat.le_of_ble_eq_true rfl), (Nat.le_of_ble_eq_true rfl)⟩ (Nat.le_of_ble_eq_true rfl) (by assumption) (by omega) (s_X9_done hX) (fun v_45 n_45 M_45 hn_45 hp => ?_)
      obtain ⟨⟨rfl, rfl⟩, hX, f9⟩ := hp
      have f1 := fr_tr f1 f9
      obtain ⟨hnm, hOm, hBm⟩ := id hX
      refine jr_pop (pc := 48) h dX9_ways_48 rfl ?_
      refine jr_aload_n (pc := 49) h dX9_ways_49 rfl ?_
      refine gf_X9_27 (pc := 50) h dX9_ways_50 (by assumption) (by omega) ?_
      refine jr_iconst (pc := 53) h dX9_ways_53 ?_
      have hB5 : _ = jdL 11 b5 := hBm 5 (by omega) (by omega)
      refine jr_lald (pc := 54) h dX9_ways_54 hB5 (by omega) (by omega) ?_
      refine jr_lret (pc := 55) h hRt dX9_ways_55 (Nat.le_of_ble_eq_true rfl) (Nat.le_of_ble_eq_true rfl) ?_
      have e55 : b5 0 = c_wab (c_wgh ct td bk si 0 (x - 1).toNat) (-1) := by
        rw [(FM_wgh hFM 0 (by omega)).1]
        exact hb5 0 (by omega)
      refine lfO ?_ hX f1
      unfold x_ways
      rw [if_pos (by omega), if_pos (by omega), ← e55]
      rfl
    · first | have d_27 := bz_0.mp c_27 | have d_27 := bz_1.mp c_27 | skip
      refine jr_aload_n (pc := 30) h dX9_ways_30 rfl ?_
      refine jr_iconst (pc := 31) h dX9_ways_31 ?_
      refine iv_X9_58 (pc := 32) h hl hR dX9_ways_32 ⟨(Nat.le_of_ble_eq_true rfl), (Nat.le_of_ble_eq_true rfl), (Nat.le_of_ble_eq_true rfl), (Nat.le_of_ble_eq_true rfl)⟩ (Nat.le_of_ble_eq_true rfl) (by assumption) (by omega) (s_X9_refused hX) (fun v_32 n_32 M_32 hn_32 hp => ?_)
      obtain ⟨⟨rfl, rfl⟩, hX, f9⟩ := hp
      have f1 := fr_tr f1 f9
      obtain ⟨hnm, hOm, hBm⟩ := id hX
      refine jr_i2l (pc := 35) h dX9_ways_35 (by omega) ?_
      refine jr_lret (pc := 36) h hRt dX9_ways_36 (Nat.le_of_ble_eq_true rfl) (Nat.le_of_ble_eq_true rfl) ?_
      refine lfOn ?_ hX f1
      unfold x_ways
      (repeat' split) <;> first | rfl | (exfalso; omega) | contradiction
  · first | have d_10 := bz_0.mp c_10 | have d_10 := bz_1.mp c_10 | skip
    refine jr_aload_n (pc := 13) h dX9_ways_13 rfl ?_
    refine jr_iconst (pc := 14) h dX9_ways_14 ?_
    refine iv_X9_58 (pc := 15) h hl hR dX9_ways_15 ⟨(Nat.le_of_ble_eq_true rfl), (Nat.le_of_ble_eq_true rfl), (Nat.le_of_ble_eq_true rfl), (Nat.le_of_ble_eq_true rfl)⟩ (Nat.le_of_ble_eq_true rfl) (by assumption) (by omega) (s_X9_refused hX) (fun v_15 n_15 M_15 hn_15 hp => ?_)
    obtain ⟨⟨rfl, rfl⟩, hX, f9⟩ := hp
    have f1 := fr_tr f1 f9
    obtain ⟨hnm, hOm, hBm⟩ := id hX
    refine jr_i2l (pc := 18) h dX9_ways_18 (by omega) ?_
    refine jr_lret (pc := 19) h hRt dX9_ways_19 (Nat.le_of_ble_eq_true rfl) (Nat.le_of_ble_eq_true rfl) ?_
    refine lfOn ?_ hX f1
    unfold x_ways
    (repeat' split) <;> first | rfl | (exfalso; omega) | contradiction
set_option maxHeartbeats 1000000 in
set_option maxRecDepth 20000 in
theorem s_X9_enough {l : Launch} {n : Nat} {M : jdM} {m : Nat} {g : Nat → Int} {w : Int} {fl rd : Value} {B : Nat → Nat → Int} (hX : MX M n m g w fl rd B) {ct td bk si ld : Nat → Int} (hFX : FX M n m fl ct td bk si ld) {x y z : Int} (hx : -2147483648 ≤ x ∧ x < 2147483648) (hy : -2147483648 ≤ y ∧ y < 2147483648) (hz : -2147483648 ≤ z ∧ z < 2147483648) : Ct l yX9_enough cX9_enough 5 (some .int) rX9_enough [.ref m, jI x, jI y, jI z] n M (fun vv n' M' => (vv = some (jI (x_enough ct td bk si x y z).1) ∧ n = n') ∧ ∃ b5, MX M' n m (rg g (x_enough ct td bk si x y z).2) w fl rd (up B 5 b5) ∧ fr (MXf m) M M') := by
  refine Ct_of [some (.ref m), some (jI x), some (jI y), some (jI z), none] (by decide) (Nat.le_of_ble_eq_true rfl) rfl (fun κ hl h hR hRt hmn hn0 => ?_)
  have h : Ok κ RX9 cX9_enough 5 (some .int) := h
  obtain ⟨hnm, hOm, hBm⟩ := id hX
  have hOm : M m = jdO 9 (fX9 m _ _ fl rd) := hOm
  refine jr_aload_n (pc := 0) h dX9_enough_0 rfl ?_
  refine jr_iconst (pc := 1) h dX9_enough_1 ?_
  refine pf_X9_52 (pc := 2) h dX9_enough_2 hOm (by omega) ?_
  refine jm_gen (fun M2 hM2 => ?_)
  rw [fX9_0] at hM2
  have hX := MX_o hX hM2
  have f9 : fr (MXf m) _ M2 := fr_up hM2 ⟨by omega, by omega⟩
  obtain ⟨hnm, hOm, hBm⟩ := id hX
  have f1 := f9
  have hFX := FX_fr hFX f9
  refine jr_aload_n (pc := 5) h dX9_enough_5 rfl ?_
  refine jr_iload_n (pc := 6) h dX9_enough_6 rfl ?_
  refine iv_X9_434 (pc := 7) h hl hR dX9_enough_7 ⟨(Nat.le_of_ble_eq_true rfl), (Nat.le_of_ble_eq_true rfl), (Nat.le_of_ble_eq_true rfl), (Nat.le_of_ble_eq_true rfl)⟩ (Nat.le_of_ble_eq_true rfl) (by assumption) (by omega) (s_X9_isRow hX hFX (by omega)) (fun v_7 n_7 M_7 hn_7 hp => ?_)
  obtain ⟨⟨rfl, rfl, rfl⟩, gr_7⟩ := hp
  refine jr_if_eq (pc := 10) h 21 dX9_enough_10 (by decide) (by omega) (fun c_10 => ?_) (fun c_10 => ?_)
  · first | have d_10 := bz_0.mp c_10 | have d_10 := bz_1.mp c_10 | skip
    refine jr_aload_n (pc := 21) h dX9_enough_21 rfl ?_
    refine jr_iconst (pc := 22) h dX9_enough_22 ?_
    refine iv_X9_58 (pc := 23) h hl hR dX9_enough_23 ⟨(Nat.le_of_ble_eq_true rfl), (Nat.le_of_ble_eq_true rfl), (Nat.le_of_ble_eq_true rfl), (Nat.le_of_ble_eq_true rfl)⟩ (Nat.le_of_ble_eq_true rfl) (by assumption) (by omega) (s_X9_refused hX) (fun v_23 n_23 M_23 hn_23 hp => ?_)
    obtain ⟨⟨rfl, rfl⟩, hX, f9⟩ := hp
    have f1 := fr_tr f1 f9
    obtain ⟨hnm, hOm, hBm⟩ := id hX
    refine jr_iret (pc := 26) h hRt dX9_enough_26 rfl (Nat.le_of_ble_eq_true rfl) (Nat.le_of_ble_eq_true rfl) ?_
    refine lfOin ?_ hX f1
    unfold x_enough
    (repeat' split) <;> first | rfl | (exfalso; omega) | contradiction
  · first | have d_10 := bz_0.mp c_10 | have d_10 := bz_1.mp c_10 | skip
    refine jr_aload_n (pc := 13) h dX9_enough_13 rfl ?_
    refine jr_iload_n (pc := 14) h dX9_enough_14 rfl ?_
    refine iv_X9_446 (pc := 15) h hl hR dX9_enough_15 ⟨(Nat.le_of_ble_eq_true rfl), (Nat.le_of_ble_eq_true rfl), (Nat.le_of_ble_eq_true rfl), (Nat.le_of_ble_eq_true rfl)⟩ (Nat.le_of_ble_eq_true rfl) (by assumption) (by omega) (s_X9_isKind hX hFX (by omega)) (fun v_15 n_15 M_15 hn_15 hp => ?_)
    obtain ⟨⟨rfl, rfl, rfl⟩, gr_15⟩ := hp
    refine jr_if_ne (pc := 18) h 27 dX9_enough_18 (by decide) (by omega) (fun c_18 => ?_) (fun c_18 => ?_)
    · first | have d_18 := bz_0.mp c_18 | have d_18 := bz_1.mp c_18 | skip
      refine jr_iload_n (pc := 27) h dX9_enough_27 rfl ?_
      refine jr_iconst (pc := 28) h dX9_enough_28 ?_
      refine jr_bipush (pc := 29) h dX9_enough_29 bp_99 ?_
      refine iv_X9_130 (pc := 31) h hl hR dX9_enough_31 ⟨(Nat.le_of_ble_eq_true rfl), (Nat.le_of_ble_eq_true rfl), (Nat.le_of_ble_eq_true rfl), (Nat.le_of_ble_eq_true rfl)⟩ (Nat.le_of_ble_eq_true rfl) (s_X9_in (by omega) (by omega) (by omega)) (fun v_31 n_31 M_31 hn_31 hp => ?_)
      obtain ⟨⟨rfl, rfl, rfl⟩, gr_31⟩ := hp
      refine jr_if_ne (pc := 34) h 43 dX9_enough_34 (by decide) (by omega) (fun c_34 => ?_) (fun c_34 => ?_)
      · first | have d_34 := bz_0.mp c_34 | have d_34 := bz_1.mp c_34 | skip
        have hr00 := fun (hz : ∀ j, ct j = 0) => rows0 (td := td) hz
        rcases hFX with ⟨rfl, hz⟩ | ⟨f, gf, A, rfl, hsep, hMF, hFM⟩
        · exfalso
          have z2 := hz 2
          have z5 := hz 5
          have zr := hr00 hz
          omega
        obtain ⟨hnf, hOf, hAf⟩ := id hMF
        obtain ⟨⟨e0, e1, e2, e3, e4⟩, ⟨k5, k6, k7, k8, k9, k10, k11, k12, k13, k14, k15⟩, ⟨a2, a3, a4, a5, a6, a7, a8, a9, a10, a11, a12⟩, ⟨hlim, hLI, hends, hrt⟩, ⟨hbk, hld⟩, hc0, hc1, hc2, hc5⟩ := id hFM
        have l2 := hlim 2 (by omega)
        have l3 := hlim 3 (by omega)
        have l4 := hlim 4 (by omega)
        have l5 := hlim 5 (by omega)
        have l6 := hlim 6 (by omega)
        have l7 := hlim 7 (by omega)
        have l8 := hlim 8 (by omega)
        have l9 := hlim 9 (by omega)
        have l10 := hlim 10 (by omega)
        have l11 := hlim 11 (by omega)
        have l12 := hlim 12 (by omega)
        rw [show (jtab 0).2.2 2 = 4 from rfl] at l2
        rw [show (jtab 0).2.2 3 = 6 from rfl] at l3
        rw [show (jtab 0).2.2 4 = 6 from rfl] at l4
        rw [show (jtab 0).2.2 5 = 2 from rfl] at l5
        rw [show (jtab 0).2.2 6 = 8 from rfl] at l6
        rw [show (jtab 0).2.2 7 = 5 from rfl] at l7
        rw [show (jtab 0).2.2 8 = 6 from rfl] at l8
        rw [show (jtab 0).2.2 9 = 3 from rfl] at l9
        rw [show (jtab 0).2.2 10 = 3 from rfl] at l10
        rw [show (jtab 0).2.2 11 = 4 from rfl] at l11
        rw [show (jtab 0).2.2 12 = 4 from rfl] at l12
        have hcr : 1 ≤ c_rows ct td ∧ c_rows ct td ≤ 40 := by
          have h9 := (hLI 0 0 (by omega) (by omega) (by omega)).1 rfl
          have e9 : c_rows ct td = c_get td 0 0 0 := by unfold c_rows; rw [if_neg (by omega)]
          omega
        refine jr_aload_n (pc := 43) h dX9_enough_43 rfl ?_
        refine jr_iload_n (pc := 44) h dX9_enough_44 rfl ?_
        refine iv_X9_543 (pc := 45) h hl hR dX9_enough_45 ⟨(Nat.le_of_ble_eq_true rfl), (Nat.le_of_ble_eq_true rfl), (Nat.le_of_ble_eq_true rfl), (Nat.le_of_ble_eq_true rfl)⟩ (Nat.le_of_ble_eq_true rfl) (by assumption) (by omega) (s_X9_aheadOf hX hMF hFM hsep (by omega)) (fun v_45 n_45 M_45 hn_45 hp => ?_)
        obtain ⟨⟨rfl, rfl, rfl⟩, gr_45⟩ := hp
        refine jr_bipush (pc := 48) h dX9_enough_48 bp_10 ?_
        refine jr_icmp_le (pc := 50) h 59 dX9_enough_50 (by decide) (by omega) (by omega) (fun c_50 => ?_) (fun c_50 => ?_)
        · first | have d_50 := bz_0.mp c_50 | have d_50 := bz_1.mp c_50 | skip
          refine jr_aload_n (pc := 59) h dX9_enough_59 rfl ?_
          refine jr_iload_n (pc := 60) h dX9_enough_60 rfl ?_
          refine jr_iload_n (pc := 61) h dX9_enough_61 rfl ?_
          refine iv_X9_546 (pc := 62) h hl hR dX9_enough_62 ⟨(Nat.le_of_ble_eq_true rfl), (Nat.le_of_ble_eq_true rfl), (Nat.le_of_ble_eq_true rfl), (Nat.le_of_ble_eq_true rfl)⟩ (Nat.le_of_ble_eq_true rfl) (by assumption) (by omega) (s_X9_likings hX hMF hFM hsep (by omega) (by omega)) (fun v_62 n_62 M_62 hn_62 hp => ?_)
          obtain ⟨⟨rfl, rfl⟩, b5, hX, hb5, f9⟩ := hp
          have f1 := fr_tr f1 f9
          obtain ⟨hnm, hOm, hBm⟩ := id hX
          refine jr_iconst (pc := 65) h dX9_enough_65 ?_
          refine jr_istore (pc := 66) h [_, _, _, _, _] dX9_enough_66 (by decide) rfl ?_
          have hw9 := (FM_wgh hFM y (e := (x - 1).toNat) (by omega)).2
          have loop : ∀ (dq : Nat) (i : Int), (0 ≤ i ∧ i ≤ 10) → (fewR (c_wgh ct td bk si y (x - 1).toNat) z 0 10 = fewR (c_wgh ct td bk si y (x - 1).toNat) z i (10 - i).toNat) → (20 - i).toNat < dq → J κ 5 0 0 n 68 [some (.ref m), some (jI x), some (jI y), some (jI z), some (jI i)] [] M_62 := by
            intro dq
            induction dq with
            | zero => intro i hi hfw hd; omega
            | succ dq ih =>
              intro i hi hfw hd
              refine jr_aload_n (pc := 68) h dX9_enough_68 rfl ?_
              refine jr_iload (pc := 69) h dX9_enough_69 rfl ?_
              refine iv_X9_549 (pc := 71) h hl hR dX9_enough_71 ⟨(Nat.le_of_ble_eq_true rfl), (Nat.le_of_ble_eq_true rfl), (Nat.le_of_ble_eq_true rfl), (Nat.le_of_ble_eq_true rfl)⟩ (Nat.le_of_ble_eq_true rfl) (by assumption) (by omega) (s_X9_moreThan hX (by omega)) (fun v_71 n_71 M_71 hn_71 hp => ?_)
              obtain ⟨rfl, rfl, rfl⟩ := hp
              rw [up_eq, c_wab_agw hb5]
              refine jr_ldc2 (pc := 74) h dX9_enough_74 wm_1248 ?_
              rw [show (100 : Int64) = Int64.ofInt 100 from by decide]
              refine jr_lmul (pc := 77) h dX9_enough_77 ?_
              refine jr_iload_n (pc := 78) h dX9_enough_78 rfl ?_
              refine jr_i2l (pc := 79) h dX9_enough_79 (by omega) ?_
              refine jr_aload_n (pc := 80) h dX9_enough_80 rfl ?_
              refine jr_iconst (pc := 81) h dX9_enough_81 ?_
              refine iv_X9_549 (pc := 82) h hl hR dX9_enough_82 ⟨(Nat.le_of_ble_eq_true rfl), (Nat.le_of_ble_eq_true rfl), (Nat.le_of_ble_eq_true rfl), (Nat.le_of_ble_eq_true rfl)⟩ (Nat.le_of_ble_eq_true rfl) (by assumption) (by omega) (s_X9_moreThan hX (by omega)) (fun v_82 n_82 M_82 hn_82 hp => ?_)
              obtain ⟨rfl, rfl, rfl⟩ := hp
              rw [up_eq, c_wab_agw hb5]
              refine jr_lmul (pc := 85) h dX9_enough_85 ?_
              have w2 := hw9 i
              have w3 := hw9 (-1)
              have w1 := mulb (A := 99) (B := 3656158440062976) (a := z) (b := c_wab (c_wgh ct td bk si y (x - 1).toNat) (-1)) (by omega) (by omega)
              have lz := lcz_s (c_wab (c_wgh ct td bk si y (x - 1).toNat) i * 100) (z * c_wab (c_wgh ct td bk si y (x - 1).toNat) (-1))
              refine jr_lcmp (pc := 86) h dX9_enough_86 (by omega) (by omega) ?_
              refine jr_if_le (pc := 87) h 96 dX9_enough_87 (by decide) (by omega) (fun c_87 => ?_) (fun c_87 => ?_)
              · first | have d_87 := bz_0.mp c_87 | have d_87 := bz_1.mp c_87 | skip
                refine jr_aload_n (pc := 96) h dX9_enough_96 rfl ?_
                refine jr_iload (pc := 97) h dX9_enough_97 rfl ?_
                refine iv_X9_62 (pc := 99) h hl hR dX9_enough_99 ⟨(Nat.le_of_ble_eq_true rfl), (Nat.le_of_ble_eq_true rfl), (Nat.le_of_ble_eq_true rfl), (Nat.le_of_ble_eq_true rfl)⟩ (Nat.le_of_ble_eq_true rfl) (by assumption) (by omega) (s_X9_done hX) (fun v_99 n_99 M_99 hn_99 hp => ?_)
                obtain ⟨⟨rfl, rfl⟩, hX, f9⟩ := hp
                have f1 := fr_tr f1 f9
                obtain ⟨hnm, hOm, hBm⟩ := id hX
                refine jr_iret (pc := 102) h hRt dX9_enough_102 rfl (Nat.le_of_ble_eq_true rfl) (Nat.le_of_ble_eq_true rfl) ?_
                have ei : fewR (c_wgh ct td bk si y (x - 1).toNat) z 0 10 = i := by
                  rw [hfw]
                  by_cases q : i < 10
                  · rw [fewR_f q (by rw [Int.mul_comm (c_wab (c_wgh ct td bk si y (x - 1).toNat) (-1)) z]; omega)]
                  · rw [show (10 - i).toNat = 0 by omega, fewR]
                refine lfOi ?_ hX f1
                unfold x_enough
                rw [if_pos (by omega), if_pos (by omega), if_pos (by omega), ei]
              · first | have d_87 := bz_0.mp c_87 | have d_87 := bz_1.mp c_87 | skip
                refine jr_iinc (pc := 90) h [_, _, _, _, _] dX9_enough_90 (by decide) rfl rfl ?_
                refine jr_goto (pc := 93) h 68 dX9_enough_93 (by decide) ?_
                have hi10 : i < 10 := by
                  by_cases q : i = 10
                  · exfalso
                    have e : c_wab (c_wgh ct td bk si y (x - 1).toNat) i = 0 := by rw [q]; rfl
                    omega
                  · omega
                refine ih _ (by omega) ?_ (by omega)
                rw [hfw, fewR_t (by omega) (by rw [Int.mul_comm (c_wab (c_wgh ct td bk si y (x - 1).toNat) (-1)) z]; omega)]
          exact loop _ _ (by omega) rfl (Nat.lt_succ_self _)
        · first | have d_50 := bz_0.mp c_50 | have d_50 := bz_1.mp c_50 | skip
          refine jr_aload_n (pc := 53) h dX9_enough_53 rfl ?_
          refine jr_iconst (pc := 54) h dX9_enough_54 ?_
          refine iv_X9_58 (pc := 55) h hl hR dX9_enough_55 ⟨(Nat.le_of_ble_eq_true rfl), (Nat.le_of_ble_eq_true rfl), (Nat.le_of_ble_eq_true rfl), (Nat.le_of_ble_eq_true rfl)⟩ (Nat.le_of_ble_eq_true rfl) (by assumption) (by omega) (s_X9_refused hX) (fun v_55 n_55 M_55 hn_55 hp => ?_)
          obtain ⟨⟨rfl, rfl⟩, hX, f9⟩ := hp
          have f1 := fr_tr f1 f9
          obtain ⟨hnm, hOm, hBm⟩ := id hX
          refine jr_iret (pc := 58) h hRt dX9_enough_58 rfl (Nat.le_of_ble_eq_true rfl) (Nat.le_of_ble_eq_true rfl) ?_
          refine lfOin ?_ hX f1
          unfold x_enough
          (repeat' split) <;> first | rfl | (exfalso; omega) | contradiction
      · first | have d_34 := bz_0.mp c_34 | have d_34 := bz_1.mp c_34 | skip
        refine jr_aload_n (pc := 37) h dX9_enough_37 rfl ?_
        refine jr_iconst (pc := 38) h dX9_enough_38 ?_
        refine iv_X9_58 (pc := 39) h hl hR dX9_enough_39 ⟨(Nat.le_of_ble_eq_true rfl), (Nat.le_of_ble_eq_true rfl), (Nat.le_of_ble_eq_true rfl), (Nat.le_of_ble_eq_true rfl)⟩ (Nat.le_of_ble_eq_true rfl) (by assumption) (by omega) (s_X9_refused hX) (fun v_39 n_39 M_39 hn_39 hp => ?_)
        obtain ⟨⟨rfl, rfl⟩, hX, f9⟩ := hp
        have f1 := fr_tr f1 f9
        obtain ⟨hnm, hOm, hBm⟩ := id hX
        refine jr_iret (pc := 42) h hRt dX9_enough_42 rfl (Nat.le_of_ble_eq_true rfl) (Nat.le_of_ble_eq_true rfl) ?_
        refine lfOin ?_ hX f1
        unfold x_enough
        (repeat' split) <;> first | rfl | (exfalso; omega) | contradiction
    · first | have d_18 := bz_0.mp c_18 | have d_18 := bz_1.mp c_18 | skip
      refine jr_aload_n (pc := 21) h dX9_enough_21 rfl ?_
      refine jr_iconst (pc := 22) h dX9_enough_22 ?_
      refine iv_X9_58 (pc := 23) h hl hR dX9_enough_23 ⟨(Nat.le_of_ble_eq_true rfl), (Nat.le_of_ble_eq_true rfl), (Nat.le_of_ble_eq_true rfl), (Nat.le_of_ble_eq_true rfl)⟩ (Nat.le_of_ble_eq_true rfl) (by assumption) (by omega) (s_X9_refused hX) (fun v_23 n_23 M_23 hn_23 hp => ?_)
      obtain ⟨⟨rfl, rfl⟩, hX, f9⟩ := hp
      have f1 := fr_tr f1 f9
      obtain ⟨hnm, hOm, hBm⟩ := id hX
      refine jr_iret (pc := 26) h hRt dX9_enough_26 rfl (Nat.le_of_ble_eq_true rfl) (Nat.le_of_ble_eq_true rfl) ?_
      refine lfOin ?_ hX f1
      unfold x_enough
      (repeat' split) <;> first | rfl | (exfalso; omega) | contradiction
