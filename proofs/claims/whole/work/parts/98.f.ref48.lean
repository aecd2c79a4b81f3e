/-! 98.f: the reference: a flight told -/
theorem nx_m {bs : Nat → Int} {p : TS} : (nxP bs p).1 2 ≤ (nxP bs p).1 3 ∧ SG (nxP bs p) := by
  have h := mo_nx (bs := bs) (p := (up (up p.1 2 (p.1 3)) 4 0, p.2)) ⟨by
    show up (up p.1 2 (p.1 3)) 4 0 2 ≤ up (up p.1 2 (p.1 3)) 4 0 3
    rw [up_ne (by omega), up_eq, up_ne (by omega), up_ne (by omega)]
    exact Int.le_refl _, fun q => by
    replace q : up (up p.1 2 (p.1 3)) 4 0 4 = 3 := q
    rw [up_eq] at q
    omega⟩
  exact h.2
theorem lim_0 : ∀ s : Nat, s < 13 → 0 ≤ (jtab 0).2.2 s := by decide
theorem FR_0 {p : TS} {ct td : Nat → Int} (h0 : ∀ j, j < 13 → ct j = 0) (hp : p.1 12 = 0) (hr : ∀ j, 0 ≤ td j ∧ td j ≤ 999) : FR p ct td (up (fun _ => 0) 3 (-1)) (fun _ _ => 0) := by
  have z := fun j hj => h0 j hj
  refine ⟨⟨fun i hi => ?_, fun i hi => ?_, fun i hi => ?_, fun i hi => ?_, fun j _ => ?_, fun i hi => ?_, fun i hi => ?_, fun i hi => ?_, fun i hi => ?_, fun i hi => ?_, fun i hi => ?_⟩, ⟨?_, ?_, ?_, ?_, ?_, ?_, ?_, ?_, ?_, ?_, ?_⟩, ⟨fun s hs => ?_, fun s i hs h1 h2 => ?_, fun i j h1 h2 h3 => ?_, hr⟩, ⟨?_, fun i hi => ?_⟩, fun i hi => ?_, ⟨fun _ => ?_, fun q => ?_, fun _ => ?_, fun q => ?_⟩, ?_⟩
  · exfalso; rw [z 2 (by omega)] at hi; omega
  · exfalso; rw [z 3 (by omega)] at hi; omega
  · exfalso; rw [z 4 (by omega)] at hi; omega
  · exfalso; rw [z 5 (by omega)] at hi; omega
  · rw [z 6 (by omega)]; rfl
  · exfalso; rw [z 7 (by omega)] at hi; omega
  · exfalso; rw [z 8 (by omega)] at hi; omega
  · exfalso; rw [z 9 (by omega)] at hi; omega
  · exfalso; rw [z 10 (by omega)] at hi; omega
  · exfalso; rw [z 11 (by omega)] at hi; omega
  · exfalso; rw [z 12 (by omega)] at hi; omega
  · rw [z 2 (by omega)]; exact up_ne (by omega)
  · rw [z 3 (by omega)]; exact up_ne (by omega)
  · rw [z 4 (by omega)]; exact up_ne (by omega)
  · rw [z 5 (by omega)]; exact up_ne (by omega)
  · rw [z 6 (by omega)]; exact up_ne (by omega)
  · rw [z 7 (by omega)]; exact up_ne (by omega)
  · rw [z 8 (by omega)]; exact up_ne (by omega)
  · rw [z 9 (by omega)]; exact up_ne (by omega)
  · rw [z 10 (by omega)]; exact up_ne (by omega)
  · rw [z 11 (by omega)]; exact up_ne (by omega)
  · rw [z 12 (by omega)]; exact up_ne (by omega)
  · rw [z s hs]; exact ⟨Int.le_refl _, lim_0 s hs⟩
  · exfalso; rw [z s hs] at h2; omega
  · exfalso; rw [z 5 (by omega)] at h3; omega
  · rw [hp]; exact up_ne (by omega)
  · exfalso; rw [hp] at hi; omega
  · exfalso; rw [hp] at hi; omega
  · exact up_ne (by omega)
  · exfalso; rw [z 0 (by omega)] at q; omega
  · exact up_eq
  · exfalso; rw [z 1 (by omega)] at q; omega
  · rw [hp, z 2 (by omega), z 5 (by omega), z 8 (by omega), z 12 (by omega)]; rfl
theorem RB_0 : RB (up (fun _ => 0) 3 (-1)) (fun _ _ => 0) := by
  refine ⟨⟨?_, fun i _ => ⟨⟨Int.le_refl _, (by decide : (0 : Int) < 1099511627776)⟩, ⟨Int.le_refl _, (by decide : (0 : Int) ≤ 2)⟩, Int.le_refl _, (by decide : (0 : Int) ≤ 6)⟩⟩, ⟨?_, ?_, ?_, ?_, ?_, ?_, ?_, ?_, ?_, ?_, ?_⟩, ?_, ?_, fun i _ => ⟨Int.le_refl _, (by decide : (0 : Int) ≤ 1)⟩⟩
  all_goals first | (rw [up_ne (by omega)]; omega) | (rw [up_eq]; omega)
theorem SET_n {ct td bk si ld : Nat → Int} : SET ct td (c_bkp ct td bk 41) (c_sip ct td si 41) (c_ldp ct td ld (ct 6).toNat) := by
  refine ⟨fun r h1 h2 => ?_, fun j hj => ?_⟩
  · have e : c_bkp ct td bk 41 r = c_lat ct td r := by unfold c_bkp; rw [if_pos (by omega)]
    refine ⟨by rw [e]; rfl, ?_⟩
    rw [e]
    unfold c_sip
    rw [if_pos (by omega)]
  · unfold c_ldp
    rw [if_pos hj]
theorem FM_n {p : TS} {ct td gF bk si ld : Nat → Int} {A : Nat → Nat → Int} (h : FR p ct td gF A) (c0 : 1 ≤ ct 0) (c1 : 1 ≤ ct 1) (c2 : 1 ≤ ct 2) (c5 : 1 ≤ ct 5) : FM ct td (c_bkp ct td bk 41) (c_sip ct td si 41) (c_ldp ct td ld (ct 6).toNat) gF A := by
  obtain ⟨h1, h2, h3, h4, h5, h6, h7⟩ := h
  have l0 := h3.1 0 (by omega)
  have l1 := h3.1 1 (by omega)
  rw [show (jtab 0).2.2 0 = 1 from rfl] at l0
  rw [show (jtab 0).2.2 1 = 1 from rfl] at l1
  have e0 := h6.2.1 (by omega)
  have e1 := h6.2.2.2 (by omega)
  refine ⟨⟨?_, e0.2.1, e0.2.2, e1.1, e1.2⟩, h2, h1, h3, SET_n, by omega, by omega, c2, c5⟩
  rw [e0.1]
  unfold c_rows
  rw [if_neg (by omega)]
set_option maxHeartbeats 1000000 in
set_option maxRecDepth 20000 in
theorem s_X9_flight_r {l : Launch} {n : Nat} {M : jdM} {m : Nat} {g : Nat → Int} {w : Int} {fl rd : Value} {B : Nat → Nat → Int} (hX : MX M n m g w fl rd B) {x : Int} (hx : -2147483648 ≤ x ∧ x < 2147483648) (h6 : 0 ≤ g 6 ∧ g 6 ≤ 900) (hr : x < 0 ∨ g 6 < x) : Ct l yX9_flight cX9_flight 2 (some .int) rX9_flight [.ref m, jI x] n M (fun vv n' M' => (vv = some (jI (-1)) ∧ n = n') ∧ MX M' n m (rg g 2) w fl rd B ∧ fr (MXf m) M M') := by
  refine Ct_of [some (.ref m), some (jI x)] (by decide) (Nat.le_of_ble_eq_true rfl) rfl (fun κ hl h hR hRt hmn hn0 => ?_)
  have h : Ok κ RX9 cX9_flight 2 (some .int) := h
  obtain ⟨hnm, hOm, hBm⟩ := id hX
  have hOm : M m = jdO 9 (fX9 m _ _ fl rd) := hOm
  refine jr_aload_n (pc := 0) h dX9_flight_0 rfl ?_
  refine jr_iconst (pc := 1) h dX9_flight_1 ?_
  refine pf_X9_52 (pc := 2) h dX9_flight_2 hOm (by omega) ?_
  refine jm_gen (fun M2 hM2 => ?_)
  rw [fX9_0] at hM2
  have hX := MX_o hX hM2
  have f9 : fr (MXf m) _ M2 := fr_up hM2 ⟨by omega, by omega⟩
  obtain ⟨hnm, hOm, hBm⟩ := id hX
  have f1 := f9
  have e6 : up g 0 0 6 = g 6 := up_ne (by omega)
  refine jr_iload_n (pc := 5) h dX9_flight_5 rfl ?_
  refine jr_if_lt (pc := 6) h 17 dX9_flight_6 (by decide) (by omega) (fun c_6 => ?_) (fun c_6 => ?_)
  · skip
    refine jr_aload_n (pc := 17) h dX9_flight_17 rfl ?_
    refine jr_iconst (pc := 18) h dX9_flight_18 ?_
    refine iv_X9_58 (pc := 19) h hl hR dX9_flight_19 ⟨(Nat.le_of_ble_eq_true rfl), (Nat.le_of_ble_eq_true rfl), (Nat.le_of_ble_eq_true rfl), (Nat.le_of_ble_eq_true rfl)⟩ (Nat.le_of_ble_eq_true rfl) (by assumption) (by omega) (s_X9_refused hX) (fun v_19 n_19 M_19 hn_19 hp => ?_)
    obtain ⟨⟨rfl, rfl⟩, hX, f9⟩ := hp
    have f1 := fr_tr f1 f9
    obtain ⟨hnm, hOm, hBm⟩ := id hX
    refine jr_iret (pc := 22) h hRt dX9_flight_22 rfl (Nat.le_of_ble_eq_true rfl) (Nat.le_of_ble_eq_true rfl) ?_
    exact ⟨⟨rfl, rfl⟩, hX, f1⟩
  · skip
    refine jr_iload_n (pc := 9) h dX9_flight_9 rfl ?_
    refine jr_aload_n (pc := 10) h dX9_flight_10 rfl ?_
    refine gf_X9_418 (pc := 11) h dX9_flight_11 (by assumption) (by omega) ?_
    skip
    refine jr_icmp_le (pc := 14) h 23 dX9_flight_14 (by decide) (by omega) (by omega) (fun c_14 => ?_) (fun c_14 => ?_)
    · skip
      exfalso
      omega
    · skip
      refine jr_aload_n (pc := 17) h dX9_flight_17 rfl ?_
      refine jr_iconst (pc := 18) h dX9_flight_18 ?_
      refine iv_X9_58 (pc := 19) h hl hR dX9_flight_19 ⟨(Nat.le_of_ble_eq_true rfl), (Nat.le_of_ble_eq_true rfl), (Nat.le_of_ble_eq_true rfl), (Nat.le_of_ble_eq_true rfl)⟩ (Nat.le_of_ble_eq_true rfl) (by assumption) (by omega) (s_X9_refused hX) (fun v_19 n_19 M_19 hn_19 hp => ?_)
      obtain ⟨⟨rfl, rfl⟩, hX, f9⟩ := hp
      have f1 := fr_tr f1 f9
      obtain ⟨hnm, hOm, hBm⟩ := id hX
      refine jr_iret (pc := 22) h hRt dX9_flight_22 rfl (Nat.le_of_ble_eq_true rfl) (Nat.le_of_ble_eq_true rfl) ?_
      exact ⟨⟨rfl, rfl⟩, hX, f1⟩
set_option maxHeartbeats 1000000 in
set_option maxRecDepth 20000 in
theorem s_X9_flight {l : Launch} {n : Nat} {M : jdM} {m : Nat} {g : Nat → Int} {w : Int} {fl rd : Value} {B : Nat → Nat → Int} (hX : MX M n m g w fl rd B) {x : Int} (hx : -2147483648 ≤ x ∧ x < 2147483648) (h6 : 0 ≤ g 6 ∧ g 6 ≤ 900) (hxr : 0 ≤ x ∧ x ≤ g 6) {bs : Nat → Int} (hbt : ∀ j, j < 900 → B 1 j = bs j) (hbb : ∀ j, -128 ≤ bs j ∧ bs j ≤ 127) {p : TS} (hPO : PO p) {ct2 td2 : Nat → Int} (htd : ∀ j, 0 ≤ td2 j ∧ td2 j ≤ 999) (hg12 : 0 ≤ g 12 ∧ g 12 ≤ 999) (hw0 : 0 ≤ w ∧ w < 1099511627776) (hn9 : n < 800000) : Ct l yX9_flight cX9_flight 2 (some .int) rX9_flight [.ref m, jI x] n M (fun vv n' M' => n' = n + 31 ∧ fr (fun k => MXf m k ∨ n ≤ k) M M' ∧ ∃ g' w', ((0 ≤ g' 12 ∧ g' 12 ≤ 999) ∧ 0 ≤ w' ∧ w' < 1099511627776) ∧ (g' 0 = 0 ∧ g' 6 = 0 ∧ g' 13 = (rdQ (rdB bs x p ct2 td2)).1 7 ∧ g' 26 = g 26) ∧ PO (rdQ (rdB bs x p ct2 td2)) ∧ (((rdQ (rdB bs x p ct2 td2)).1 7 ≠ 0 ∧ vv = some (jI (-1)) ∧ MX M' n' m g' w' fl (.ref n) B ∧ g' 1 = 4 ∧ g' 2 = (rdQ (rdB bs x p ct2 td2)).1 8 ∧ g' 19 = g 19) ∨ ((rdQ (rdB bs x p ct2 td2)).1 7 = 0 ∧ vv = some (jI ((rdB bs x p ct2 td2).2.1 5)) ∧ (∃ b3 gF A, MX M' n' m g' w' (.ref n) (.ref n) (up B 3 b3) ∧ MF M' n' n gF A ∧ (∀ bk2 si2 ld2 : Nat → Int, FM (rdB bs x p ct2 td2).2.1 (rdB bs x p ct2 td2).2.2 (c_bkp (rdB bs x p ct2 td2).2.1 (rdB bs x p ct2 td2).2.2 bk2 41) (c_sip (rdB bs x p ct2 td2).2.1 (rdB bs x p ct2 td2).2.2 si2 41) (c_ldp (rdB bs x p ct2 td2).2.1 (rdB bs x p ct2 td2).2.2 ld2 ((rdB bs x p ct2 td2).2.1 6).toNat) gF A) ∧ ∀ j : Nat, j < 431 → b3 j = bR (c_ldp (rdB bs x p ct2 td2).2.1 (rdB bs x p ct2 td2).2.2 (fun _ => 0) ((rdB bs x p ct2 td2).2.1 6).toNat) 0 j) ∧ g' 1 = 0 ∧ g' 2 = -1 ∧ g' 19 = 0))) := by
  refine Ct_of [some (.ref m), some (jI x)] (by decide) (Nat.le_of_ble_eq_true rfl) rfl (fun κ hl h hR hRt hmn hn0 => ?_)
  have h : Ok κ RX9 cX9_flight 2 (some .int) := h
  obtain ⟨hnm, hOm, hBm⟩ := id hX
  have hOm : M m = jdO 9 (fX9 m _ _ fl rd) := hOm
  have fN : fr (fun k => MXf m k ∨ n ≤ k) M M := fr_rf
  refine jr_aload_n (pc := 0) h dX9_flight_0 rfl ?_
  refine jr_iconst (pc := 1) h dX9_flight_1 ?_
  refine pf_X9_52 (pc := 2) h dX9_flight_2 hOm (by omega) ?_
  refine jm_gen (fun M2 hM2 => ?_)
  rw [fX9_0] at hM2
  have hX := MX_o hX hM2
  have f9 : fr (MXf m) _ M2 := fr_up hM2 ⟨by omega, by omega⟩
  have fN := fr_tr fN (fr_mo f9 (fun k q => Or.inl q))
  obtain ⟨hnm, hOm, hBm⟩ := id hX
  have e6 : up g 0 0 6 = g 6 := up_ne (by omega)
  refine jr_iload_n (pc := 5) h dX9_flight_5 rfl ?_
  refine jr_if_lt (pc := 6) h 17 dX9_flight_6 (by decide) (by omega) (fun c_6 => ?_) (fun c_6 => ?_)
  · skip
    exfalso
    omega
  · skip
    refine jr_iload_n (pc := 9) h dX9_flight_9 rfl ?_
    refine jr_aload_n (pc := 10) h dX9_flight_10 rfl ?_
    refine gf_X9_418 (pc := 11) h dX9_flight_11 (by assumption) (by omega) ?_
    refine jr_icmp_le (pc := 14) h 23 dX9_flight_14 (by decide) (by omega) (by omega) (fun c_14 => ?_) (fun c_14 => ?_)
    · skip
      refine jr_aload_n (pc := 23) h dX9_flight_23 rfl ?_
      refine jr_iload_n (pc := 24) h dX9_flight_24 rfl ?_
      refine pf_X9_65 (pc := 25) h dX9_flight_25 hOm (by omega) ?_
      refine jm_gen (fun M2 hM2 => ?_)
      rw [fX9_7] at hM2
      have hX := MX_o hX hM2
      have f9 : fr (MXf m) _ M2 := fr_up hM2 ⟨by omega, by omega⟩
      have fN := fr_tr fN (fr_mo f9 (fun k q => Or.inl q))
      obtain ⟨hnm, hOm, hBm⟩ := id hX
      refine jr_aload_n (pc := 28) h dX9_flight_28 rfl ?_
      refine jr_iconst (pc := 29) h dX9_flight_29 ?_
      refine pf_X9_418 (pc := 30) h dX9_flight_30 hOm (by omega) ?_
      refine jm_gen (fun M2 hM2 => ?_)
      rw [fX9_6] at hM2
      have hX := MX_o hX hM2
      have f9 : fr (MXf m) _ M2 := fr_up hM2 ⟨by omega, by omega⟩
      have fN := fr_tr fN (fr_mo f9 (fun k q => Or.inl q))
      obtain ⟨hnm, hOm, hBm⟩ := id hX
      refine jr_aload_n (pc := 33) h dX9_flight_33 rfl ?_
      refine jr_iconst (pc := 34) h dX9_flight_34 ?_
      refine pf_X9_83 (pc := 35) h dX9_flight_35 hOm (by omega) ?_
      refine jm_gen (fun M2 hM2 => ?_)
      rw [fX9_8] at hM2
      have hX := MX_o hX hM2
      have f9 : fr (MXf m) _ M2 := fr_up hM2 ⟨by omega, by omega⟩
      have fN := fr_tr fN (fr_mo f9 (fun k q => Or.inl q))
      obtain ⟨hnm, hOm, hBm⟩ := id hX
      refine jr_aload_n (pc := 38) h dX9_flight_38 rfl ?_
      refine jr_iconst (pc := 39) h dX9_flight_39 ?_
      refine pf_X9_109 (pc := 40) h dX9_flight_40 hOm (by omega) ?_
      refine jm_gen (fun M2 hM2 => ?_)
      rw [fX9_13] at hM2
      have hX := MX_o hX hM2
      have f9 : fr (MXf m) _ M2 := fr_up hM2 ⟨by omega, by omega⟩
      have fN := fr_tr fN (fr_mo f9 (fun k q => Or.inl q))
      obtain ⟨hnm, hOm, hBm⟩ := id hX
      refine jr_aload_n (pc := 43) h dX9_flight_43 rfl ?_
      refine nw_X9_179 (pc := 44) h hR dX9_flight_44 ⟨(Nat.le_of_ble_eq_true rfl), (Nat.le_of_ble_eq_true rfl)⟩ (by omega) ?_
      refine jm_gen (fun M5 hM5 => ?_)
      have fr5 : fr (fun k => n ≤ k) M2 M5 := fr_up hM5 (Nat.le_refl n)
      have fN := fr_tr fN (fr_mo fr5 (fun k q => Or.inr q))
      have hX : MX M5 (n + 1) m _ w fl rd B := MX_fr hX fr5 (Nat.le_succ n) (fun k h1 h2 q => by have q : n ≤ k := q; omega)
      have o5 : M5 n = jdO 8 (fun j => defaultValue (tyX8 j)) := (congrFun hM5 n).trans up_eq
      refine jr_dup (pc := 47) h dX9_flight_47 rfl ?_
      refine iv_X9_421 (pc := 48) h hl hR dX9_flight_48 ⟨(Nat.le_of_ble_eq_true rfl), (Nat.le_of_ble_eq_true rfl), (Nat.le_of_ble_eq_true rfl), (Nat.le_of_ble_eq_true rfl)⟩ (Nat.le_of_ble_eq_true rfl) (s_X8_init (n := n + 1) (b := n) rfl (by omega) o5) (fun v_48 n_48 M_48 hn_48 hp => ?_)
      obtain ⟨⟨rfl, rfl⟩, hMF, f9⟩ := hp
      have f9' : fr (fun k => n ≤ k) M5 M_48 := fr_mo f9 (fun k q => by rcases q with q | q <;> omega)
      have fN := fr_tr fN (fr_mo f9' (fun k q => Or.inr q))
      have hX : MX M_48 (n + 1 + 30) m _ w fl rd B := MX_fr hX f9' (by omega) (fun k h1 h2 q => by have q : n ≤ k := q; omega)
      obtain ⟨hnm, hOm, hBm⟩ := id hX
      have hsep : n + 30 < m ∨ m + 12 < n := Or.inr (by omega)
      refine pf_X9_174 (pc := 51) h dX9_flight_51 hOm (by omega) ?_
      refine jm_gen (fun M2 hM2 => ?_)
      rw [fX9_4] at hM2
      have hX := MX_o hX hM2
      have f9 : fr (MXf m) _ M2 := fr_up hM2 ⟨by omega, by omega⟩
      have fN := fr_tr fN (fr_mo f9 (fun k q => Or.inl q))
      obtain ⟨hnm, hOm, hBm⟩ := id hX
      have hMF := MF_fr hMF f9 (Nat.le_refl _) (fun k h1 h2 q => by have := q.1; have := q.2; omega)
      obtain ⟨hnf, hOf, hAf⟩ := id hMF
      refine jr_aload_n (pc := 54) h dX9_flight_54 rfl ?_
      refine jr_iconst (pc := 55) h dX9_flight_55 ?_
      refine pf_X9_80 (pc := 56) h dX9_flight_56 hOm (by omega) ?_
      refine jm_gen (fun M2 hM2 => ?_)
      rw [fX9_9] at hM2
      have hX := MX_o hX hM2
      have f9 : fr (MXf m) _ M2 := fr_up hM2 ⟨by omega, by omega⟩
      have fN := fr_tr fN (fr_mo f9 (fun k q => Or.inl q))
      obtain ⟨hnm, hOm, hBm⟩ := id hX
      have hMF := MF_fr hMF f9 (Nat.le_refl _) (fun k h1 h2 q => by have := q.1; have := q.2; omega)
      obtain ⟨hnf, hOf, hAf⟩ := id hMF
      have b7 : (bgP x p).1 7 = 0 := by show up (up (up (up (up p.1 1 (min x 900)) 3 0) 7 0) 8 (-1)) 12 0 7 = 0; rw [up_ne (by omega), up_ne (by omega), up_eq]
      have b3 : (bgP x p).1 3 = 0 := by show up (up (up (up (up p.1 1 (min x 900)) 3 0) 7 0) 8 (-1)) 12 0 3 = 0; rw [up_ne (by omega), up_ne (by omega), up_ne (by omega), up_eq]
      have b1 : (bgP x p).1 1 = x := by show up (up (up (up (up p.1 1 (min x 900)) 3 0) 7 0) 8 (-1)) 12 0 1 = x; rw [up_ne (by omega), up_ne (by omega), up_ne (by omega), up_ne (by omega), up_eq]; omega
      have b12 : (bgP x p).1 12 = 0 := by show up (up (up (up (up p.1 1 (min x 900)) 3 0) 7 0) 8 (-1)) 12 0 12 = 0; rw [up_eq]
      obtain ⟨g6, eg6⟩ : ∃ z, up (up (up (up (up (up g 0 0) 7 x) 6 0) 8 0) 13 0) 9 0 = z := ⟨_, rfl⟩
      have hk6 : ∀ j, (j = 0 ∨ j = 7 ∨ j = 6 ∨ j = 8 ∨ j = 13 ∨ j = 9) ∨ g6 j = g j := fun j => by
        by_cases q : (j = 0 ∨ j = 7 ∨ j = 6 ∨ j = 8 ∨ j = 13 ∨ j = 9)
        · exact Or.inl q
        · refine Or.inr ?_
          rw [← eg6, up_ne (by omega), up_ne (by omega), up_ne (by omega), up_ne (by omega), up_ne (by omega), up_ne (by omega)]
      have q0 : g6 0 = 0 := by rw [← eg6, up_ne (by omega), up_ne (by omega), up_ne (by omega), up_ne (by omega), up_ne (by omega), up_eq]
      have q7 : g6 7 = x := by rw [← eg6, up_ne (by omega), up_ne (by omega), up_ne (by omega), up_ne (by omega), up_eq]
      have q6 : g6 6 = 0 := by rw [← eg6, up_ne (by omega), up_ne (by omega), up_ne (by omega), up_eq]
      have q8 : g6 8 = 0 := by rw [← eg6, up_ne (by omega), up_ne (by omega), up_eq]
      have q13 : g6 13 = 0 := by rw [← eg6, up_ne (by omega), up_eq]
      have q9 : g6 9 = 0 := by rw [← eg6, up_eq]
      have q12 : g6 12 = g 12 := (hk6 12).resolve_left (by omega)
      have q26 : g6 26 = g 26 := (hk6 26).resolve_left (by omega)
      have q19 : g6 19 = g 19 := (hk6 19).resolve_left (by omega)
      rw [eg6] at hX
      clear eg6 hk6
      obtain ⟨hnm, hOm, hBm⟩ := id hX
      refine jr_aload_n (pc := 59) h dX9_flight_59 rfl ?_
      refine iv_X9_123 (pc := 60) h hl hR dX9_flight_60 ⟨(Nat.le_of_ble_eq_true rfl), (Nat.le_of_ble_eq_true rfl), (Nat.le_of_ble_eq_true rfl), (Nat.le_of_ble_eq_true rfl)⟩ (Nat.le_of_ble_eq_true rfl) (by assumption) (by omega) (s_X9_goesOn_ok hX hbt hbb (p := bgP x p) b7 (by omega) (by omega) (by omega) (by omega) (by omega) (by omega) (by omega) hw0) (fun v_60 n_60 M_60 hn_60 hp => ?_)
      obtain ⟨⟨rfl, rfl⟩, g7, w7, hX, hgk, hTR, f9⟩ := hp
      have fN := fr_tr fN (fr_mo f9 (fun k q => Or.inl q))
      have hMF := MF_fr hMF f9 (Nat.le_refl _) (fun k h1 h2 q => by have := q.1; have := q.2; omega)
      obtain ⟨hnf, hOf, hAf⟩ := id hMF
      have hP0 : PO (nxP bs (bgP x p)) := bgP_O hPO (by omega)
      have hFR0 : FR (nxP bs (bgP x p)) (fun j => if j < 13 then 0 else ct2 j) td2 (up (fun _ => 0) 3 (-1)) (fun _ _ => 0) := FR_0 (fun j hj => if_pos hj) (by rw [K12_nx.2]; exact b12) htd
      have hge : (bgP x p).1 3 ≤ (nxP bs (bgP x p)).1 2 := nxP_ge
      have hs1 : (nxP bs (bgP x p)).1 1 = (bgP x p).1 1 := rfl
      obtain ⟨hnm, hOm, hBm⟩ := id hX
      refine jr_aload_n (pc := 63) h dX9_flight_63 rfl ?_
      refine iv_X9_422 (pc := 64) h hl hR dX9_flight_64 ⟨(Nat.le_of_ble_eq_true rfl), (Nat.le_of_ble_eq_true rfl), (Nat.le_of_ble_eq_true rfl), (Nat.le_of_ble_eq_true rfl)⟩ (Nat.le_of_ble_eq_true rfl) (by assumption) (by omega) (s_X9_readFlight hX hbt hbb hTR hP0 hMF hsep RB_0 hFR0 (by rw [nxP_7]; exact b7) nx_m (k := (x + 1 - 0).toNat) (by omega)) (fun v_64 n_64 M_64 hn_64 hp => ?_)
      obtain ⟨⟨rfl, rfl⟩, g8, w8, gF, A, hX, hgk2, hTR, hPQ, hMF, hEND, f9⟩ := hp
      have fN := fr_tr fN (fr_mo f9 (fun k q => by rcases q with q | q; exact Or.inl q; exact Or.inr q.1))
      replace hTR : TR bs (rdQ (rdB bs x p ct2 td2)) g8 w8 := hTR
      replace hPQ : PO (rdQ (rdB bs x p ct2 td2)) := hPQ
      replace hEND : Imp ((rdQ (rdB bs x p ct2 td2)).1 7 = 0) (FR (rdQ (rdB bs x p ct2 td2)) (rdB bs x p ct2 td2).2.1 (rdB bs x p ct2 td2).2.2 gF A ∧ 1 ≤ (rdB bs x p ct2 td2).2.1 0 ∧ 1 ≤ (rdB bs x p ct2 td2).2.1 1 ∧ 1 ≤ (rdB bs x p ct2 td2).2.1 2 ∧ 1 ≤ (rdB bs x p ct2 td2).2.1 5) := hEND
      have t13 := hTR.1.1
      have hgk3 := gkp_t hgk hgk2
      have r0 := hgk3 0 (by omega)
      have r6 := hgk3 6 (by omega)
      have r19 := hgk3 19 (by omega)
      have r26 := hgk3 26 (by omega)
      have r12 := hTR.1.2.2.2.1
      have rw9 := hTR.1.2.2.2.2
      have hp7r := hPQ.1.2.2.2.2.1
      obtain ⟨hnm, hOm, hBm⟩ := id hX
      obtain ⟨hnf, hOf, hAf⟩ := id hMF
      refine jr_aload_n (pc := 67) h dX9_flight_67 rfl ?_
      refine gf_X9_109 (pc := 68) h dX9_flight_68 (by assumption) (by omega) ?_
      refine jr_if_le (pc := 71) h 89 dX9_flight_71 (by decide) (by omega) (fun c_71 => ?_) (fun c_71 => ?_)
      · skip
        have h7 : (rdQ (rdB bs x p ct2 td2)).1 7 = 0 := Classical.byContradiction (fun q => by have := (hTR.2.2 q).2.2; omega)
        have hE := hEND h7
        refine jr_aload_n (pc := 89) h dX9_flight_89 rfl ?_
        refine jr_aload_n (pc := 90) h dX9_flight_90 rfl ?_
        refine gf_X9_174 (pc := 91) h dX9_flight_91 (by assumption) (by omega) ?_
        refine pf_X9_425 (pc := 94) h dX9_flight_94 hOm (by omega) ?_
        refine jm_gen (fun M2 hM2 => ?_)
        rw [fX9_3] at hM2
        have hX := MX_o hX hM2
        have f9 : fr (MXf m) _ M2 := fr_up hM2 ⟨by omega, by omega⟩
        have fN := fr_tr fN (fr_mo f9 (fun k q => Or.inl q))
        obtain ⟨hnm, hOm, hBm⟩ := id hX
        have hMF := MF_fr hMF f9 (Nat.le_refl _) (fun k h1 h2 q => by have := q.1; have := q.2; omega)
        obtain ⟨hnf, hOf, hAf⟩ := id hMF
        refine jr_aload_n (pc := 97) h dX9_flight_97 rfl ?_
        refine jr_iconst (pc := 98) h dX9_flight_98 ?_
        refine pf_X9_428 (pc := 99) h dX9_flight_99 hOm (by omega) ?_
        refine jm_gen (fun M2 hM2 => ?_)
        rw [fX9_19] at hM2
        have hX := MX_o hX hM2
        have f9 : fr (MXf m) _ M2 := fr_up hM2 ⟨by omega, by omega⟩
        have fN := fr_tr fN (fr_mo f9 (fun k q => Or.inl q))
        obtain ⟨hnm, hOm, hBm⟩ := id hX
        have hMF := MF_fr hMF f9 (Nat.le_refl _) (fun k h1 h2 q => by have := q.1; have := q.2; omega)
        obtain ⟨hnf, hOf, hAf⟩ := id hMF
        refine jr_aload_n (pc := 102) h dX9_flight_102 rfl ?_
        refine jr_iconst (pc := 103) h dX9_flight_103 ?_
        refine iv_X9_431 (pc := 104) h hl hR dX9_flight_104 ⟨(Nat.le_of_ble_eq_true rfl), (Nat.le_of_ble_eq_true rfl), (Nat.le_of_ble_eq_true rfl), (Nat.le_of_ble_eq_true rfl)⟩ (Nat.le_of_ble_eq_true rfl) (by assumption) (by omega) (s_X9_startsAnew hX hMF (FM_n (bk := fun _ => 0) (si := fun _ => 0) (ld := fun _ => 0) hE.1 hE.2.1 hE.2.2.1 hE.2.2.2.1 hE.2.2.2.2) hsep (z := 0)) (fun v_104 n_104 M_104 hn_104 hp => ?_)
        obtain ⟨⟨rfl, rfl⟩, b3', hX, hb3, f9⟩ := hp
        have fN := fr_tr fN (fr_mo f9 (fun k q => Or.inl q))
        have hMF := MF_fr hMF f9 (Nat.le_refl _) (fun k h1 h2 q => by have := q.1; have := q.2; omega)
        obtain ⟨hnf, hOf, hAf⟩ := id hMF
        obtain ⟨hnm, hOm, hBm⟩ := id hX
        refine jr_aload_n (pc := 107) h dX9_flight_107 rfl ?_
        refine jr_aload_n (pc := 108) h dX9_flight_108 rfl ?_
        refine gf_X9_425 (pc := 109) h dX9_flight_109 (by assumption) (by omega) ?_
        refine gf_X9_214 (pc := 112) h dX9_flight_112 (by assumption) (by omega) ?_
        refine iv_X9_62 (pc := 115) h hl hR dX9_flight_115 ⟨(Nat.le_of_ble_eq_true rfl), (Nat.le_of_ble_eq_true rfl), (Nat.le_of_ble_eq_true rfl), (Nat.le_of_ble_eq_true rfl)⟩ (Nat.le_of_ble_eq_true rfl) (by assumption) (by omega) (s_X9_done hX) (fun v_115 n_115 M_115 hn_115 hp => ?_)
        obtain ⟨⟨rfl, rfl⟩, hX, f9⟩ := hp
        have fN := fr_tr fN (fr_mo f9 (fun k q => Or.inl q))
        have hMF := MF_fr hMF f9 (Nat.le_refl _) (fun k h1 h2 q => by have := q.1; have := q.2; omega)
        obtain ⟨hnf, hOf, hAf⟩ := id hMF
        refine jr_iret (pc := 118) h hRt dX9_flight_118 rfl (Nat.le_of_ble_eq_true rfl) (Nat.le_of_ble_eq_true rfl) ?_
        have e8 : gF 8 = (rdB bs x p ct2 td2).2.1 5 := hE.1.2.1.2.2.2.1
        refine ⟨rfl, fN, _, w8, ⟨?_, rw9⟩, ⟨?_, ?_, ?_, ?_⟩, hPQ, Or.inr ⟨h7, ji_c e8, ⟨b3', gF, A, hX, hMF, fun bk2 si2 ld2 => FM_n hE.1 hE.2.1 hE.2.2.1 hE.2.2.2.1 hE.2.2.2.2, hb3⟩, ?_, ?_, ?_⟩⟩
        · rw [up_ne (by omega), up_ne (by omega), up_ne (by omega)]; exact r12
        · rw [up_ne (by omega), up_ne (by omega), up_ne (by omega), r0]; exact q0
        · rw [up_ne (by omega), up_ne (by omega), up_ne (by omega), r6]; exact q6
        · rw [up_ne (by omega), up_ne (by omega), up_ne (by omega)]; exact t13
        · rw [up_ne (by omega), up_ne (by omega), up_ne (by omega), r26]; exact q26
        · rw [up_ne (by omega), up_eq]
        · rw [up_eq]
        · rw [up_ne (by omega), up_ne (by omega), up_eq]
      · skip
        refine jr_aload_n (pc := 74) h dX9_flight_74 rfl ?_
        refine jr_iconst (pc := 75) h dX9_flight_75 ?_
        refine pf_X9_55 (pc := 76) h dX9_flight_76 hOm (by omega) ?_
        refine jm_gen (fun M2 hM2 => ?_)
        rw [fX9_1] at hM2
        have hX := MX_o hX hM2
        have f9 : fr (MXf m) _ M2 := fr_up hM2 ⟨by omega, by omega⟩
        have fN := fr_tr fN (fr_mo f9 (fun k q => Or.inl q))
        obtain ⟨hnm, hOm, hBm⟩ := id hX
        have hMF := MF_fr hMF f9 (Nat.le_refl _) (fun k h1 h2 q => by have := q.1; have := q.2; omega)
        obtain ⟨hnf, hOf, hAf⟩ := id hMF
        refine jr_aload_n (pc := 79) h dX9_flight_79 rfl ?_
        refine jr_aload_n (pc := 80) h dX9_flight_80 rfl ?_
        refine gf_X9_112 (pc := 81) h dX9_flight_81 (by assumption) (by omega) ?_
        refine pf_X9_9 (pc := 84) h dX9_flight_84 hOm (by omega) ?_
        refine jm_gen (fun M2 hM2 => ?_)
        rw [fX9_2] at hM2
        have hX := MX_o hX hM2
        have f9 : fr (MXf m) _ M2 := fr_up hM2 ⟨by omega, by omega⟩
        have fN := fr_tr fN (fr_mo f9 (fun k q => Or.inl q))
        obtain ⟨hnm, hOm, hBm⟩ := id hX
        have hMF := MF_fr hMF f9 (Nat.le_refl _) (fun k h1 h2 q => by have := q.1; have := q.2; omega)
        obtain ⟨hnf, hOf, hAf⟩ := id hMF
        refine jr_iconst (pc := 87) h dX9_flight_87 ?_
        refine jr_iret (pc := 88) h hRt dX9_flight_88 rfl (Nat.le_of_ble_eq_true rfl) (Nat.le_of_ble_eq_true rfl) ?_
        have h7 : (rdQ (rdB bs x p ct2 td2)).1 7 ≠ 0 := by omega
        have h14 := (hTR.2.2 h7).2.1
        refine ⟨rfl, fN, _, w8, ⟨?_, rw9⟩, ⟨?_, ?_, ?_, ?_⟩, hPQ, Or.inl ⟨h7, rfl, hX, ?_, ?_, ?_⟩⟩
        · rw [up_ne (by omega), up_ne (by omega)]; exact r12
        · rw [up_ne (by omega), up_ne (by omega), r0]; exact q0
        · rw [up_ne (by omega), up_ne (by omega), r6]; exact q6
        · rw [up_ne (by omega), up_ne (by omega)]; exact t13
        · rw [up_ne (by omega), up_ne (by omega), r26]; exact q26
        · rw [up_ne (by omega), up_eq]
        · rw [up_eq]; exact (up_ne (by omega)).trans h14
        · rw [up_ne (by omega), up_ne (by omega), r19]; exact q19
    · skip
      exfalso
      omega
