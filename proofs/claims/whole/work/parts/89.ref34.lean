/-! 89: the reference: words, signs, whole numbers -/
theorem nar_bz {P : Prop} : narrow FieldType.boolean (jI (bz P)) = jI (bz P) := by rcases bz_01 P with e | e <;> rw [e] <;> rfl
theorem Ct_mono {l : Launch} {y : MethodName} {cc : ByteArray} {maxL : Nat} {ret : Option FieldType} {rm : Room} {vs : List Value} {n : Nat} {M : jdM} {Post Post' : Option Value → Nat → jdM → Prop} (hC : Ct l y cc maxL ret rm vs n M Post) (hp : ∀ v n' M', Post v n' M' → Post' v n' M') : Ct l y cc maxL ret rm vs n M Post' := by
  intro dC dI dA ad sz
  have hm := hC dC dI dA ad sz
  unfold Met MetFree at hm ⊢
  intro p e a1 a2 a3 s m args below a4 a5 a6 a7
  obtain ⟨n9, o, b1, b2, b3, b4, b5⟩ := hm p e a1 a2 a3 s m args below a4 a5 a6 a7
  refine ⟨n9, o, b1, b2, b3, ?_, b5⟩
  unfold jQc at b4 ⊢
  obtain ⟨⟨v, ad', n', M', c1, c2, c3, c4, c5, c6, c7, c8, c9⟩, c10⟩ := b4
  exact ⟨⟨v, ad', n', M', c1, c2, c3, c4, c5, c6, c7, c8, hp _ _ _ c9⟩, c10⟩
/-- go on, where no fault is -/
def goP (bs : Nat → Int) (p : TS) : TS := if p.1 7 = 0 then nxP bs p else p
theorem goP_O {bs : Nat → Int} {p : TS} (h : PO p) : PO (goP bs p) := by
  unfold goP
  split
  · exact nxP_O h
  · exact h
theorem s_X9_goesOn {l : Launch} {n : Nat} {M : jdM} {m : Nat} {g : Nat → Int} {w : Int} {fl rd : Value} {B : Nat → Nat → Int} (hX : MX M n m g w fl rd B) {bs : Nat → Int} (hbt : ∀ j, j < 900 → B 1 j = bs j) (hbb : ∀ j, -128 ≤ bs j ∧ bs j ≤ 127) {p : TS} (hTR : TR bs p g w) (hPO : PO p) (h4 : p.1 7 = 0 → p.1 4 ≠ 4) : Ct l yX9_goesOn cX9_goesOn 3 none rX9_goesOn [.ref m] n M (fun vv n' M' => (vv = none ∧ n = n') ∧ ∃ g' w', MX M' n m g' w' fl rd B ∧ gkp g g' ∧ TR bs (goP bs p) g' w' ∧ fr (MXf m) M M') := by
  unfold goP
  have h5 := TR_5 hTR hPO
  by_cases q : p.1 7 = 0
  · rw [if_pos q]
    have h4' := h4 q
    have h9 : ¬ g 9 = 5 := fun e => h5.1.1 e q
    exact s_X9_goesOn_ok hX hbt hbb q ⟨hTR.1.2.2.1.1, hTR.1.2.2.1.2.1⟩ hTR.1.2.2.1.2.2 (by omega) ((hTR.2.1 q).2.1 h4') (hTR.1.1.trans q) hTR.1.2.1 hTR.1.2.2.2.1 hTR.1.2.2.2.2
  · rw [if_neg q]
    refine Ct_mono (s_X9_goesOn_f hX (h5.1.2 q)) (fun v n' M' hp => ?_)
    obtain ⟨rfl, rfl, rfl⟩ := hp
    exact ⟨⟨rfl, rfl⟩, g, w, hX, gkp_r, hTR, fr_rf⟩
theorem s_X9_isWord_t {l : Launch} {n : Nat} {M : jdM} {m : Nat} {g : Nat → Int} {w : Int} {fl rd : Value} {B : Nat → Nat → Int} (hX : MX M n m g w fl rd B) {bs : Nat → Int} {p : TS} (hTR : TR bs p g w) (hPO : PO p) {k : Nat} (hk58 : k < 58) (hk1 : 1 ≤ k) : Ct l yX9_isWord cX9_isWord 2 (some .boolean) rX9_isWord [.ref m, .ref (1000000 + 100 + k)] n M (fun vv n' M' => (vv = some (jI (bz (p.1 7 = 0 ∧ wordIs bs p.1 k))) ∧ n = n' ∧ M = M') ∧ (0) ≤ (bz (p.1 7 = 0 ∧ wordIs bs p.1 k)) ∧ (bz (p.1 7 = 0 ∧ wordIs bs p.1 k)) ≤ 1) := by
  rw [← bz_iff (TR_w hTR hPO (ltT_k k hk58 hk1))]
  exact s_X9_isWord hX hk58 hk1 hTR.1.2.2.2.2 (TR_5 hTR hPO).2.2
noncomputable def ewB (bs : Nat → Int) (k : Nat) (p : TS) : TS := @ite TS (p.1 7 = 0 ∧ wordIs bs p.1 k) (Classical.propDecidable _) (nxP bs p) p
theorem wi_4 {bs : Nat → Int} {g : Nat → Int} {k : Nat} (h : wordIs bs g k) : g 4 ≠ 4 := by have := h.1; omega
theorem goP_0 {bs : Nat → Int} {p : TS} (h : p.1 7 = 0) : goP bs p = nxP bs p := if_pos h
theorem goP_1 {bs : Nat → Int} {p : TS} (h : p.1 7 ≠ 0) : goP bs p = p := if_neg h
theorem flP_x {k : Int} {p : TS} (hk : k ≠ 0) : (flP k p).1 7 ≠ 0 := by
  unfold flP
  split
  · show up (up p.1 7 k) 8 (p.1 2) 7 ≠ 0
    rw [up_ne (by omega), up_eq]
    exact hk
  · assumption
set_option maxHeartbeats 1000000 in
set_option maxRecDepth 20000 in
theorem s_X9_eatsWord {l : Launch} {n : Nat} {M : jdM} {m : Nat} {g : Nat → Int} {w : Int} {fl rd : Value} {B : Nat → Nat → Int} (hX : MX M n m g w fl rd B) {bs : Nat → Int} (hbt : ∀ j, j < 900 → B 1 j = bs j) (hbb : ∀ j, -128 ≤ bs j ∧ bs j ≤ 127) {p : TS} (hTR : TR bs p g w) (hPO : PO p) {k : Nat} (hk58 : k < 58) (hk1 : 1 ≤ k) : Ct l yX9_eatsWord cX9_eatsWord 3 (some .boolean) rX9_eatsWord [.ref m, .ref (1000000 + 100 + k)] n M (fun vv n' M' => (vv = some (jI (bz (p.1 7 = 0 ∧ wordIs bs p.1 k))) ∧ n = n') ∧ ∃ g' w', MX M' n m g' w' fl rd B ∧ gkp g g' ∧ TR bs (ewB bs k p) g' w' ∧ fr (MXf m) M M') := by
  refine Ct_of [some (.ref m), some (.ref (1000000 + 100 + k)), none] (by decide) (Nat.le_of_ble_eq_true rfl) rfl (fun κ hl h hR hRt hmn hn0 => ?_)
  have h : Ok κ RX9 cX9_eatsWord 3 (some .boolean) := h
  obtain ⟨hnm, hOm, hBm⟩ := id hX
  have hOm : M m = jdO 9 (fX9 m _ _ fl rd) := hOm
  have f1 : fr (MXf m) M M := fr_rf
  have hgk : gkp g g := gkp_r
  refine jr_aload_n (pc := 0) h dX9_eatsWord_0 rfl ?_
  refine jr_aload_n (pc := 1) h dX9_eatsWord_1 rfl ?_
  refine iv_X9_119 (pc := 2) h hl hR dX9_eatsWord_2 ⟨(Nat.le_of_ble_eq_true rfl), (Nat.le_of_ble_eq_true rfl), (Nat.le_of_ble_eq_true rfl), (Nat.le_of_ble_eq_true rfl)⟩ (Nat.le_of_ble_eq_true rfl) (by assumption) (by omega) (s_X9_isWord_t hX hTR hPO (k := k) (by omega) (by omega)) (fun v_2 n_2 M_2 hn_2 hp => ?_)
  obtain ⟨⟨rfl, rfl, rfl⟩, gr_2⟩ := hp
  refine jr_istore_n (pc := 5) h [_, _, _] dX9_eatsWord_5 (by decide) rfl ?_
  refine jr_iload_n (pc := 6) h dX9_eatsWord_6 rfl ?_
  refine jr_if_eq (pc := 7) h 14 dX9_eatsWord_7 (by decide) (by omega) (fun c_7 => ?_) (fun c_7 => ?_)
  · first | have d_7 := bz_0.mp c_7 | have d_7 := bz_1.mp c_7 | skip
    refine jr_iload_n (pc := 14) h dX9_eatsWord_14 rfl ?_
    refine jr_iret (pc := 15) h hRt dX9_eatsWord_15 nar_bz (Nat.le_of_ble_eq_true rfl) (Nat.le_of_ble_eq_true rfl) ?_
    first
    | (have ee : ewB bs k p = goP bs p := by
         unfold ewB
         rw [if_pos d_7, goP_0 d_7.1]
       exact ⟨⟨rfl, rfl⟩, _, _, hX, hgk, (by rw [ee]; exact hTR), f1⟩)
    | (have ee : ewB bs k p = p := by
         unfold ewB
         rw [if_neg d_7]
       exact ⟨⟨rfl, rfl⟩, _, _, hX, hgk, (by rw [ee]; exact hTR), f1⟩)
  · first | have d_7 := bz_0.mp c_7 | have d_7 := bz_1.mp c_7 | skip
    refine jr_aload_n (pc := 10) h dX9_eatsWord_10 rfl ?_
    refine iv_X9_123 (pc := 11) h hl hR dX9_eatsWord_11 ⟨(Nat.le_of_ble_eq_true rfl), (Nat.le_of_ble_eq_true rfl), (Nat.le_of_ble_eq_true rfl), (Nat.le_of_ble_eq_true rfl)⟩ (Nat.le_of_ble_eq_true rfl) (by assumption) (by omega) (s_X9_goesOn hX hbt hbb (p := p) hTR hPO (fun _ => wi_4 d_7.2)) (fun v_11 n_11 M_11 hn_11 hp => ?_)
    obtain ⟨⟨rfl, rfl⟩, g1, w1, hX, hg1, hTR, f9⟩ := hp
    have f1 := fr_tr f1 f9
    have hgk := gkp_t hgk hg1
    obtain ⟨hnm, hOm, hBm⟩ := id hX
    replace hPO := goP_O (bs := bs) hPO
    refine jr_iload_n (pc := 14) h dX9_eatsWord_14 rfl ?_
    refine jr_iret (pc := 15) h hRt dX9_eatsWord_15 nar_bz (Nat.le_of_ble_eq_true rfl) (Nat.le_of_ble_eq_true rfl) ?_
    first
    | (have ee : ewB bs k p = goP bs p := by
         unfold ewB
         rw [if_pos d_7, goP_0 d_7.1]
       exact ⟨⟨rfl, rfl⟩, _, _, hX, hgk, (by rw [ee]; exact hTR), f1⟩)
    | (have ee : ewB bs k p = p := by
         unfold ewB
         rw [if_neg d_7]
       exact ⟨⟨rfl, rfl⟩, _, _, hX, hgk, (by rw [ee]; exact hTR), f1⟩)
def sgIs (bs : Nat → Int) (c : Int) (p : TS) : Prop := p.1 7 = 0 ∧ p.1 4 = 3 ∧ p.1 2 < p.1 1 ∧ bs (p.1 2).toNat = c
noncomputable def esB (bs : Nat → Int) (c : Int) (p : TS) : TS := @ite TS (sgIs bs c p) (Classical.propDecidable _) (nxP bs p) p
theorem TR_s {bs : Nat → Int} {p : TS} {g : Nat → Int} {w c : Int} (h : TR bs p g w) (hP : PO p) : (g 9 = 4 ∧ g 11 = c) ↔ sgIs bs c p := by
  have h5 := TR_5 h hP
  constructor
  · rintro ⟨e1, e2⟩
    have q : p.1 7 = 0 := Classical.byContradiction (fun q => by have := h5.1.2 q; omega)
    have q4 := ((h5.2.1 q).2.2.2.2).1 e1
    obtain ⟨a1, a2, a3⟩ := (h.2.1 q).2.2.2.2.2.1 q4
    exact ⟨q, q4, a3, by omega⟩
  · rintro ⟨q, q4, a3, a4⟩
    obtain ⟨a1, a2, -⟩ := (h.2.1 q).2.2.2.2.2.1 q4
    exact ⟨a1, by omega⟩
theorem TR_m {bs : Nat → Int} {p : TS} {g : Nat → Int} {w : Int} (h : TR bs p g w) (hP : PO p) (hb : ∀ j, -128 ≤ bs j ∧ bs j ≤ 127) (h4 : g 9 = 4) : -128 ≤ g 11 ∧ g 11 ≤ 127 := by
  obtain ⟨q1, q2, q3, q4⟩ := (TR_s (c := g 11) h hP).1 ⟨h4, rfl⟩
  have := hb (p.1 2).toNat
  omega
set_option maxHeartbeats 1000000 in
set_option maxRecDepth 20000 in
theorem s_X9_eatsSign {l : Launch} {n : Nat} {M : jdM} {m : Nat} {g : Nat → Int} {w : Int} {fl rd : Value} {B : Nat → Nat → Int} (hX : MX M n m g w fl rd B) {bs : Nat → Int} (hbt : ∀ j, j < 900 → B 1 j = bs j) (hbb : ∀ j, -128 ≤ bs j ∧ bs j ≤ 127) {p : TS} (hTR : TR bs p g w) (hPO : PO p) {c : Int} (hc : 0 ≤ c ∧ c ≤ 127) : Ct l yX9_eatsSign cX9_eatsSign 3 (some .boolean) rX9_eatsSign [.ref m, jI c] n M (fun vv n' M' => (vv = some (jI (bz (sgIs bs c p))) ∧ n = n') ∧ ∃ g' w', MX M' n m g' w' fl rd B ∧ gkp g g' ∧ TR bs (esB bs c p) g' w' ∧ fr (MXf m) M M') := by
  refine Ct_of [some (.ref m), some (jI c), none] (by decide) (Nat.le_of_ble_eq_true rfl) rfl (fun κ hl h hR hRt hmn hn0 => ?_)
  have h : Ok κ RX9 cX9_eatsSign 3 (some .boolean) := h
  obtain ⟨hnm, hOm, hBm⟩ := id hX
  have hOm : M m = jdO 9 (fX9 m _ _ fl rd) := hOm
  have f1 : fr (MXf m) M M := fr_rf
  have hgk : gkp g g := gkp_r
  have h5r := (TR_5 hTR hPO).2.2
  have hsg := TR_s (c := c) hTR hPO
  have hmr := TR_m hTR hPO hbb
  refine jr_aload_n (pc := 0) h dX9_eatsSign_0 rfl ?_
  refine gf_X9_80 (pc := 1) h dX9_eatsSign_1 (by assumption) (by omega) ?_
  refine jr_iconst (pc := 4) h dX9_eatsSign_4 ?_
  refine jr_icmp_ne (pc := 5) h 20 dX9_eatsSign_5 (by decide) (by omega) (by omega) (fun c_5 => ?_) (fun c_5 => ?_)
  · first | have d_5 := bz_0.mp c_5 | have d_5 := bz_1.mp c_5 | skip
    refine jr_iconst (pc := 20) h dX9_eatsSign_20 ?_
    refine jr_istore_n (pc := 21) h [_, _, _] dX9_eatsSign_21 (by decide) rfl ?_
    refine jr_iload_n (pc := 22) h dX9_eatsSign_22 rfl ?_
    refine jr_if_eq (pc := 23) h 30 dX9_eatsSign_23 (by decide) (by omega) (fun c_23 => ?_) (fun c_23 => ?_)
    · first | have d_23 := bz_0.mp c_23 | have d_23 := bz_1.mp c_23 | skip
      refine jr_iload_n (pc := 30) h dX9_eatsSign_30 rfl ?_
      refine jr_iret (pc := 31) h hRt dX9_eatsSign_31 rfl (Nat.le_of_ble_eq_true rfl) (Nat.le_of_ble_eq_true rfl) ?_
      first
      | (exfalso; omega)
      | (have hs : sgIs bs c p := hsg.1 ⟨by omega, by omega⟩
         have ee : esB bs c p = goP bs p := by
           unfold esB
           rw [if_pos hs, goP_0 hs.1]
         exact ⟨⟨by rw [bz_t hs], rfl⟩, _, _, hX, hgk, (by rw [ee]; exact hTR), f1⟩)
      | (have hs : ¬ sgIs bs c p := fun q => by have := hsg.2 q; omega
         have ee : esB bs c p = p := by
           unfold esB
           rw [if_neg hs]
         exact ⟨⟨by rw [bz_f hs], rfl⟩, _, _, hX, hgk, (by rw [ee]; exact hTR), f1⟩)
    · first | have d_23 := bz_0.mp c_23 | have d_23 := bz_1.mp c_23 | skip
      refine jr_aload_n (pc := 26) h dX9_eatsSign_26 rfl ?_
      refine iv_X9_123 (pc := 27) h hl hR dX9_eatsSign_27 ⟨(Nat.le_of_ble_eq_true rfl), (Nat.le_of_ble_eq_true rfl), (Nat.le_of_ble_eq_true rfl), (Nat.le_of_ble_eq_true rfl)⟩ (Nat.le_of_ble_eq_true rfl) (by assumption) (by omega) (s_X9_goesOn hX hbt hbb (p := p) hTR hPO (fun _ => by have := (hsg.1 ⟨by omega, by omega⟩).2.1; omega)) (fun v_27 n_27 M_27 hn_27 hp => ?_)
      obtain ⟨⟨rfl, rfl⟩, g1, w1, hX, hg1, hTR, f9⟩ := hp
      have f1 := fr_tr f1 f9
      have hgk := gkp_t hgk hg1
      obtain ⟨hnm, hOm, hBm⟩ := id hX
      refine jr_iload_n (pc := 30) h dX9_eatsSign_30 rfl ?_
      refine jr_iret (pc := 31) h hRt dX9_eatsSign_31 rfl (Nat.le_of_ble_eq_true rfl) (Nat.le_of_ble_eq_true rfl) ?_
      first
      | (exfalso; omega)
      | (have hs : sgIs bs c p := hsg.1 ⟨by omega, by omega⟩
         have ee : esB bs c p = goP bs p := by
           unfold esB
           rw [if_pos hs, goP_0 hs.1]
         exact ⟨⟨by rw [bz_t hs], rfl⟩, _, _, hX, hgk, (by rw [ee]; exact hTR), f1⟩)
      | (have hs : ¬ sgIs bs c p := fun q => by have := hsg.2 q; omega
         have ee : esB bs c p = p := by
           unfold esB
           rw [if_neg hs]
         exact ⟨⟨by rw [bz_f hs], rfl⟩, _, _, hX, hgk, (by rw [ee]; exact hTR), f1⟩)
  · first | have d_5 := bz_0.mp c_5 | have d_5 := bz_1.mp c_5 | skip
    refine jr_aload_n (pc := 8) h dX9_eatsSign_8 rfl ?_
    refine gf_X9_92 (pc := 9) h dX9_eatsSign_9 (by assumption) (by omega) ?_
    refine jr_iload_n (pc := 12) h dX9_eatsSign_12 rfl ?_
    refine jr_icmp_ne (pc := 13) h 20 dX9_eatsSign_13 (by decide) (by omega) (by omega) (fun c_13 => ?_) (fun c_13 => ?_)
    · first | have d_13 := bz_0.mp c_13 | have d_13 := bz_1.mp c_13 | skip
      refine jr_iconst (pc := 20) h dX9_eatsSign_20 ?_
      refine jr_istore_n (pc := 21) h [_, _, _] dX9_eatsSign_21 (by decide) rfl ?_
      refine jr_iload_n (pc := 22) h dX9_eatsSign_22 rfl ?_
      refine jr_if_eq (pc := 23) h 30 dX9_eatsSign_23 (by decide) (by omega) (fun c_23 => ?_) (fun c_23 => ?_)
      · first | have d_23 := bz_0.mp c_23 | have d_23 := bz_1.mp c_23 | skip
        refine jr_iload_n (pc := 30) h dX9_eatsSign_30 rfl ?_
        refine jr_iret (pc := 31) h hRt dX9_eatsSign_31 rfl (Nat.le_of_ble_eq_true rfl) (Nat.le_of_ble_eq_true rfl) ?_
        first
        | (exfalso; omega)
        | (have hs : sgIs bs c p := hsg.1 ⟨by omega, by omega⟩
           have ee : esB bs c p = goP bs p := by
             unfold esB
             rw [if_pos hs, goP_0 hs.1]
           exact ⟨⟨by rw [bz_t hs], rfl⟩, _, _, hX, hgk, (by rw [ee]; exact hTR), f1⟩)
        | (have hs : ¬ sgIs bs c p := fun q => by have := hsg.2 q; omega
           have ee : esB bs c p = p := by
             unfold esB
             rw [if_neg hs]
           exact ⟨⟨by rw [bz_f hs], rfl⟩, _, _, hX, hgk, (by rw [ee]; exact hTR), f1⟩)
      · first | have d_23 := bz_0.mp c_23 | have d_23 := bz_1.mp c_23 | skip
        refine jr_aload_n (pc := 26) h dX9_eatsSign_26 rfl ?_
        refine iv_X9_123 (pc := 27) h hl hR dX9_eatsSign_27 ⟨(Nat.le_of_ble_eq_true rfl), (Nat.le_of_ble_eq_true rfl), (Nat.le_of_ble_eq_true rfl), (Nat.le_of_ble_eq_true rfl)⟩ (Nat.le_of_ble_eq_true rfl) (by assumption) (by omega) (s_X9_goesOn hX hbt hbb (p := p) hTR hPO (fun _ => by have := (hsg.1 ⟨by omega, by omega⟩).2.1; omega)) (fun v_27 n_27 M_27 hn_27 hp => ?_)
        obtain ⟨⟨rfl, rfl⟩, g1, w1, hX, hg1, hTR, f9⟩ := hp
        have f1 := fr_tr f1 f9
        have hgk := gkp_t hgk hg1
        obtain ⟨hnm, hOm, hBm⟩ := id hX
        refine jr_iload_n (pc := 30) h dX9_eatsSign_30 rfl ?_
        refine jr_iret (pc := 31) h hRt dX9_eatsSign_31 rfl (Nat.le_of_ble_eq_true rfl) (Nat.le_of_ble_eq_true rfl) ?_
        first
        | (exfalso; omega)
        | (have hs : sgIs bs c p := hsg.1 ⟨by omega, by omega⟩
           have ee : esB bs c p = goP bs p := by
             unfold esB
             rw [if_pos hs, goP_0 hs.1]
           exact ⟨⟨by rw [bz_t hs], rfl⟩, _, _, hX, hgk, (by rw [ee]; exact hTR), f1⟩)
        | (have hs : ¬ sgIs bs c p := fun q => by have := hsg.2 q; omega
           have ee : esB bs c p = p := by
             unfold esB
             rw [if_neg hs]
           exact ⟨⟨by rw [bz_f hs], rfl⟩, _, _, hX, hgk, (by rw [ee]; exact hTR), f1⟩)
    · first | have d_13 := bz_0.mp c_13 | have d_13 := bz_1.mp c_13 | skip
      refine jr_iconst (pc := 16) h dX9_eatsSign_16 ?_
      refine jr_goto (pc := 17) h 21 dX9_eatsSign_17 (by decide) ?_
      refine jr_istore_n (pc := 21) h [_, _, _] dX9_eatsSign_21 (by decide) rfl ?_
      refine jr_iload_n (pc := 22) h dX9_eatsSign_22 rfl ?_
      refine jr_if_eq (pc := 23) h 30 dX9_eatsSign_23 (by decide) (by omega) (fun c_23 => ?_) (fun c_23 => ?_)
      · first | have d_23 := bz_0.mp c_23 | have d_23 := bz_1.mp c_23 | skip
        refine jr_iload_n (pc := 30) h dX9_eatsSign_30 rfl ?_
        refine jr_iret (pc := 31) h hRt dX9_eatsSign_31 rfl (Nat.le_of_ble_eq_true rfl) (Nat.le_of_ble_eq_true rfl) ?_
        first
        | (exfalso; omega)
        | (have hs : sgIs bs c p := hsg.1 ⟨by omega, by omega⟩
           have ee : esB bs c p = goP bs p := by
             unfold esB
             rw [if_pos hs, goP_0 hs.1]
           exact ⟨⟨by rw [bz_t hs], rfl⟩, _, _, hX, hgk, (by rw [ee]; exact hTR), f1⟩)
        | (have hs : ¬ sgIs bs c p := fun q => by have := hsg.2 q; omega
           have ee : esB bs c p = p := by
             unfold esB
             rw [if_neg hs]
           exact ⟨⟨by rw [bz_f hs], rfl⟩, _, _, hX, hgk, (by rw [ee]; exact hTR), f1⟩)
      · first | have d_23 := bz_0.mp c_23 | have d_23 := bz_1.mp c_23 | skip
        refine jr_aload_n (pc := 26) h dX9_eatsSign_26 rfl ?_
        refine iv_X9_123 (pc := 27) h hl hR dX9_eatsSign_27 ⟨(Nat.le_of_ble_eq_true rfl), (Nat.le_of_ble_eq_true rfl), (Nat.le_of_ble_eq_true rfl), (Nat.le_of_ble_eq_true rfl)⟩ (Nat.le_of_ble_eq_true rfl) (by assumption) (by omega) (s_X9_goesOn hX hbt hbb (p := p) hTR hPO (fun _ => by have := (hsg.1 ⟨by omega, by omega⟩).2.1; omega)) (fun v_27 n_27 M_27 hn_27 hp => ?_)
        obtain ⟨⟨rfl, rfl⟩, g1, w1, hX, hg1, hTR, f9⟩ := hp
        have f1 := fr_tr f1 f9
        have hgk := gkp_t hgk hg1
        obtain ⟨hnm, hOm, hBm⟩ := id hX
        refine jr_iload_n (pc := 30) h dX9_eatsSign_30 rfl ?_
        refine jr_iret (pc := 31) h hRt dX9_eatsSign_31 rfl (Nat.le_of_ble_eq_true rfl) (Nat.le_of_ble_eq_true rfl) ?_
        first
        | (exfalso; omega)
        | (have hs : sgIs bs c p := hsg.1 ⟨by omega, by omega⟩
           have ee : esB bs c p = goP bs p := by
             unfold esB
             rw [if_pos hs, goP_0 hs.1]
           exact ⟨⟨by rw [bz_t hs], rfl⟩, _, _, hX, hgk, (by rw [ee]; exact hTR), f1⟩)
        | (have hs : ¬ sgIs bs c p := fun q => by have := hsg.2 q; omega
           have ee : esB bs c p = p := by
             unfold esB
             rw [if_neg hs]
           exact ⟨⟨by rw [bz_f hs], rfl⟩, _, _, hX, hgk, (by rw [ee]; exact hTR), f1⟩)
theorem ewP_ye {bs : Nat → Int} {k : Nat} {p : TS} (h : p.1 7 = 0 ∧ wordIs bs p.1 k) : ewP bs k p = nxP bs p := by
  unfold ewP
  rw [if_neg (fun q => q h.1), if_pos h.2]
theorem ewP_no {bs : Nat → Int} {k : Nat} {p : TS} (h : ¬ (p.1 7 = 0 ∧ wordIs bs p.1 k)) : ewP bs k p = flP 1 p := by
  unfold ewP
  by_cases q : p.1 7 = 0
  · rw [if_neg (fun q' => q' q), if_neg (fun q' => h ⟨q, q'⟩)]
  · rw [if_pos q]
    unfold flP
    rw [if_neg q]
set_option maxHeartbeats 1000000 in
set_option maxRecDepth 20000 in
theorem s_X9_needs {l : Launch} {n : Nat} {M : jdM} {m : Nat} {g : Nat → Int} {w : Int} {fl rd : Value} {B : Nat → Nat → Int} (hX : MX M n m g w fl rd B) {bs : Nat → Int} (hbt : ∀ j, j < 900 → B 1 j = bs j) (hbb : ∀ j, -128 ≤ bs j ∧ bs j ≤ 127) {p : TS} (hTR : TR bs p g w) (hPO : PO p) {k : Nat} (hk58 : k < 58) (hk1 : 1 ≤ k) : Ct l yX9_needs cX9_needs 2 none rX9_needs [.ref m, .ref (1000000 + 100 + k)] n M (fun vv n' M' => (vv = none ∧ n = n') ∧ ∃ g' w', MX M' n m g' w' fl rd B ∧ gkp g g' ∧ TR bs (ewP bs k p) g' w' ∧ fr (MXf m) M M') := by
  refine Ct_of [some (.ref m), some (.ref (1000000 + 100 + k))] (by decide) (Nat.le_of_ble_eq_true rfl) rfl (fun κ hl h hR hRt hmn hn0 => ?_)
  have h : Ok κ RX9 cX9_needs 2 none := h
  obtain ⟨hnm, hOm, hBm⟩ := id hX
  have hOm : M m = jdO 9 (fX9 m _ _ fl rd) := hOm
  have f1 : fr (MXf m) M M := fr_rf
  have hgk : gkp g g := gkp_r
  refine jr_aload_n (pc := 0) h dX9_needs_0 rfl ?_
  refine jr_aload_n (pc := 1) h dX9_needs_1 rfl ?_
  refine iv_X9_119 (pc := 2) h hl hR dX9_needs_2 ⟨(Nat.le_of_ble_eq_true rfl), (Nat.le_of_ble_eq_true rfl), (Nat.le_of_ble_eq_true rfl), (Nat.le_of_ble_eq_true rfl)⟩ (Nat.le_of_ble_eq_true rfl) (by assumption) (by omega) (s_X9_isWord_t hX hTR hPO (k := k) (by omega) (by omega)) (fun v_2 n_2 M_2 hn_2 hp => ?_)
  obtain ⟨⟨rfl, rfl, rfl⟩, gr_2⟩ := hp
  refine jr_if_ne (pc := 5) h 13 dX9_needs_5 (by decide) (by omega) (fun c_5 => ?_) (fun c_5 => ?_)
  · first | have d_5 := bz_0.mp c_5 | have d_5 := bz_1.mp c_5 | skip
    refine jr_aload_n (pc := 13) h dX9_needs_13 rfl ?_
    refine iv_X9_123 (pc := 14) h hl hR dX9_needs_14 ⟨(Nat.le_of_ble_eq_true rfl), (Nat.le_of_ble_eq_true rfl), (Nat.le_of_ble_eq_true rfl), (Nat.le_of_ble_eq_true rfl)⟩ (Nat.le_of_ble_eq_true rfl) (by assumption) (by omega) (s_X9_goesOn hX hbt hbb (p := p) hTR hPO (fun _ => wi_4 d_5.2)) (fun v_14 n_14 M_14 hn_14 hp => ?_)
    obtain ⟨⟨rfl, rfl⟩, g1, w1, hX, hg1, hTR, f9⟩ := hp
    have f1 := fr_tr f1 f9
    have hgk := gkp_t hgk hg1
    obtain ⟨hnm, hOm, hBm⟩ := id hX
    refine jr_vret (pc := 17) h hRt dX9_needs_17 (Nat.le_of_ble_eq_true rfl) (Nat.le_of_ble_eq_true rfl) ?_
    first
    | (have ee : ewP bs k p = goP bs p := by rw [ewP_ye d_5, goP_0 d_5.1]
       exact ⟨⟨rfl, rfl⟩, _, _, hX, hgk, (by rw [ee]; exact hTR), f1⟩)
    | (have ee : ewP bs k p = goP bs (flP 1 p) := by rw [ewP_no d_5, goP_1 (flP_x (by omega))]
       exact ⟨⟨rfl, rfl⟩, _, _, hX, hgk, (by rw [ee]; exact hTR), f1⟩)
  · first | have d_5 := bz_0.mp c_5 | have d_5 := bz_1.mp c_5 | skip
    refine jr_aload_n (pc := 8) h dX9_needs_8 rfl ?_
    refine jr_iconst (pc := 9) h dX9_needs_9 ?_
    refine iv_X9_126 (pc := 10) h hl hR dX9_needs_10 ⟨(Nat.le_of_ble_eq_true rfl), (Nat.le_of_ble_eq_true rfl), (Nat.le_of_ble_eq_true rfl), (Nat.le_of_ble_eq_true rfl)⟩ (Nat.le_of_ble_eq_true rfl) (by assumption) (by omega) (s_X9_wrong hX (p := p) hTR hPO (by omega)) (fun v_10 n_10 M_10 hn_10 hp => ?_)
    obtain ⟨⟨rfl, rfl⟩, g1, w1, hX, hg1, hTR, f9⟩ := hp
    have f1 := fr_tr f1 f9
    have hgk := gkp_t hgk hg1
    obtain ⟨hnm, hOm, hBm⟩ := id hX
    replace hPO := flP_O (k := 1) hPO (by omega)
    refine jr_aload_n (pc := 13) h dX9_needs_13 rfl ?_
    refine iv_X9_123 (pc := 14) h hl hR dX9_needs_14 ⟨(Nat.le_of_ble_eq_true rfl), (Nat.le_of_ble_eq_true rfl), (Nat.le_of_ble_eq_true rfl), (Nat.le_of_ble_eq_true rfl)⟩ (Nat.le_of_ble_eq_true rfl) (by assumption) (by omega) (s_X9_goesOn hX hbt hbb (p := flP 1 p) hTR hPO (fun q => absurd q (flP_x (by omega)))) (fun v_14 n_14 M_14 hn_14 hp => ?_)
    obtain ⟨⟨rfl, rfl⟩, g1, w1, hX, hg1, hTR, f9⟩ := hp
    have f1 := fr_tr f1 f9
    have hgk := gkp_t hgk hg1
    obtain ⟨hnm, hOm, hBm⟩ := id hX
    refine jr_vret (pc := 17) h hRt dX9_needs_17 (Nat.le_of_ble_eq_true rfl) (Nat.le_of_ble_eq_true rfl) ?_
    first
    | (have ee : ewP bs k p = goP bs p := by rw [ewP_ye d_5, goP_0 d_5.1]
       exact ⟨⟨rfl, rfl⟩, _, _, hX, hgk, (by rw [ee]; exact hTR), f1⟩)
    | (have ee : ewP bs k p = goP bs (flP 1 p) := by rw [ewP_no d_5, goP_1 (flP_x (by omega))]
       exact ⟨⟨rfl, rfl⟩, _, _, hX, hgk, (by rw [ee]; exact hTR), f1⟩)
theorem ehP_1 {bs : Nat → Int} {lo hi : Int} {p : TS} (h : ¬ (p.1 7 = 0 ∧ p.1 4 = 2)) : (ehP bs lo hi p).2 = flP 1 p := by
  unfold ehP
  by_cases q : p.1 7 = 0
  · rw [if_neg (fun q' => q' q), if_pos (fun q' => h ⟨q, q'⟩)]
  · rw [if_pos q]
    unfold flP
    rw [if_neg q]
theorem ehP_4 {bs : Nat → Int} {lo hi : Int} {p : TS} (h : p.1 7 = 0 ∧ p.1 4 = 2) (h2 : ¬ (lo ≤ p.1 5 ∧ p.1 5 ≤ hi)) : (ehP bs lo hi p).2 = flP 4 p := by
  unfold ehP
  rw [if_neg (fun q' => q' h.1), if_neg (fun q' => q' h.2), if_pos (by omega)]
theorem ehP_2 {bs : Nat → Int} {lo hi : Int} {p : TS} (h : p.1 7 = 0 ∧ p.1 4 = 2) (h2 : lo ≤ p.1 5 ∧ p.1 5 ≤ hi) : ehP bs lo hi p = (p.1 5, nxP bs p) := by
  unfold ehP
  rw [if_neg (fun q' => q' h.1), if_neg (fun q' => q' h.2), if_neg (by omega)]
set_option maxHeartbeats 1000000 in
set_option maxRecDepth 20000 in
theorem s_X9_readWhole {l : Launch} {n : Nat} {M : jdM} {m : Nat} {g : Nat → Int} {w : Int} {fl rd : Value} {B : Nat → Nat → Int} (hX : MX M n m g w fl rd B) {bs : Nat → Int} (hbt : ∀ j, j < 900 → B 1 j = bs j) (hbb : ∀ j, -128 ≤ bs j ∧ bs j ≤ 127) {p : TS} (hTR : TR bs p g w) (hPO : PO p) {x y : Int} (hx : -2147483648 ≤ x ∧ x < 2147483648) (hy : -2147483648 ≤ y ∧ y < 2147483648) : Ct l yX9_readWhole cX9_readWhole 4 (some .int) rX9_readWhole [.ref m, jI x, jI y] n M (fun vv n' M' => ∃ v : Int, (vv = some (jI v) ∧ n = n') ∧ (0 ≤ v ∧ v ≤ 999) ∧ ((ehP bs x y p).2.1 7 = 0 → v = (ehP bs x y p).1) ∧ ∃ g' w', MX M' n m g' w' fl rd B ∧ gkp g g' ∧ TR bs (ehP bs x y p).2 g' w' ∧ fr (MXf m) M M') := by
  refine Ct_of [some (.ref m), some (jI x), some (jI y), none] (by decide) (Nat.le_of_ble_eq_true rfl) rfl (fun κ hl h hR hRt hmn hn0 => ?_)
  have h : Ok κ RX9 cX9_readWhole 4 (some .int) := h
  obtain ⟨hnm, hOm, hBm⟩ := id hX
  have hOm : M m = jdO 9 (fX9 m _ _ fl rd) := hOm
  have f1 : fr (MXf m) M M := fr_rf
  have hgk : gkp g g := gkp_r
  have h5r := (TR_5 hTR hPO).2.2
  have h57 := (TR_5 hTR hPO).1
  have hs2 : g 9 = 3 ↔ (p.1 7 = 0 ∧ p.1 4 = 2) := by
    have h5 := TR_5 hTR hPO
    constructor
    · intro e
      have q : p.1 7 = 0 := Classical.byContradiction (fun q => by have := h5.1.2 q; omega)
      exact ⟨q, (h5.2.1 q).2.2.2.1.1 e⟩
    · rintro ⟨q, q4⟩
      exact (h5.2.1 q).2.2.2.1.2 q4
  have hn5 : (p.1 7 = 0 ∧ p.1 4 = 2) → g 12 = p.1 5 := fun q => ((hTR.2.1 q.1).2.2.2.2.1 q.2).2
  have hnr0 := hTR.1.2.2.2.1
  refine jr_aload_n (pc := 0) h dX9_readWhole_0 rfl ?_
  refine gf_X9_80 (pc := 1) h dX9_readWhole_1 (by assumption) (by omega) ?_
  refine jr_iconst (pc := 4) h dX9_readWhole_4 ?_
  refine jr_icmp_eq (pc := 5) h 16 dX9_readWhole_5 (by decide) (by omega) (by omega) (fun c_5 => ?_) (fun c_5 => ?_)
  · first | have d_5 := bz_0.mp c_5 | have d_5 := bz_1.mp c_5 | skip
    refine jr_aload_n (pc := 16) h dX9_readWhole_16 rfl ?_
    refine gf_X9_106 (pc := 17) h dX9_readWhole_17 (by assumption) (by omega) ?_
    refine jr_iload_n (pc := 20) h dX9_readWhole_20 rfl ?_
    refine jr_iload_n (pc := 21) h dX9_readWhole_21 rfl ?_
    refine iv_X9_130 (pc := 22) h hl hR dX9_readWhole_22 ⟨(Nat.le_of_ble_eq_true rfl), (Nat.le_of_ble_eq_true rfl), (Nat.le_of_ble_eq_true rfl), (Nat.le_of_ble_eq_true rfl)⟩ (Nat.le_of_ble_eq_true rfl) (s_X9_in (by omega) (by omega) (by omega)) (fun v_22 n_22 M_22 hn_22 hp => ?_)
    obtain ⟨⟨rfl, rfl, rfl⟩, gr_22⟩ := hp
    refine jr_if_ne (pc := 25) h 33 dX9_readWhole_25 (by decide) (by omega) (fun c_25 => ?_) (fun c_25 => ?_)
    · first | have d_25 := bz_0.mp c_25 | have d_25 := bz_1.mp c_25 | skip
      have hnr := hTR.1.2.2.2.1
      refine jr_aload_n (pc := 33) h dX9_readWhole_33 rfl ?_
      refine gf_X9_106 (pc := 34) h dX9_readWhole_34 (by assumption) (by omega) ?_
      refine jr_istore_n (pc := 37) h [_, _, _, _] dX9_readWhole_37 (by decide) rfl ?_
      refine jr_aload_n (pc := 38) h dX9_readWhole_38 rfl ?_
      refine iv_X9_123 (pc := 39) h hl hR dX9_readWhole_39 ⟨(Nat.le_of_ble_eq_true rfl), (Nat.le_of_ble_eq_true rfl), (Nat.le_of_ble_eq_true rfl), (Nat.le_of_ble_eq_true rfl)⟩ (Nat.le_of_ble_eq_true rfl) (by assumption) (by omega) (s_X9_goesOn hX hbt hbb (p := p) hTR hPO (fun _ => by have := (hs2.1 (by omega)).2; omega)) (fun v_39 n_39 M_39 hn_39 hp => ?_)
      obtain ⟨⟨rfl, rfl⟩, g1, w1, hX, hg1, hTR, f9⟩ := hp
      have f1 := fr_tr f1 f9
      have hgk := gkp_t hgk hg1
      obtain ⟨hnm, hOm, hBm⟩ := id hX
      refine jr_iload_n (pc := 42) h dX9_readWhole_42 rfl ?_
      refine jr_iret (pc := 43) h hRt dX9_readWhole_43 rfl (Nat.le_of_ble_eq_true rfl) (Nat.le_of_ble_eq_true rfl) ?_
      have hs := hs2.1 (by omega)
      have hn9 := hn5 hs
      have ee : ehP bs x y p = (g 12, goP bs p) := by rw [ehP_2 hs (by omega), goP_0 hs.1, hn9]
      exact ⟨_, ⟨rfl, rfl⟩, hnr, fun q => by rw [ee], _, _, hX, hgk, (by rw [ee]; exact hTR), f1⟩
    · first | have d_25 := bz_0.mp c_25 | have d_25 := bz_1.mp c_25 | skip
      refine jr_aload_n (pc := 28) h dX9_readWhole_28 rfl ?_
      refine jr_iconst (pc := 29) h dX9_readWhole_29 ?_
      refine iv_X9_126 (pc := 30) h hl hR dX9_readWhole_30 ⟨(Nat.le_of_ble_eq_true rfl), (Nat.le_of_ble_eq_true rfl), (Nat.le_of_ble_eq_true rfl), (Nat.le_of_ble_eq_true rfl)⟩ (Nat.le_of_ble_eq_true rfl) (by assumption) (by omega) (s_X9_wrong hX (p := p) (k := 4) hTR hPO (by omega)) (fun v_30 n_30 M_30 hn_30 hp => ?_)
      obtain ⟨⟨rfl, rfl⟩, g1, w1, hX, hg1, hTR, f9⟩ := hp
      have f1 := fr_tr f1 f9
      have hgk := gkp_t hgk hg1
      obtain ⟨hnm, hOm, hBm⟩ := id hX
      replace hPO := flP_O (k := 4) hPO (by omega)
      obtain ⟨hnm, hOm, hBm⟩ := id hX
      have hnr := hTR.1.2.2.2.1
      refine jr_aload_n (pc := 33) h dX9_readWhole_33 rfl ?_
      refine gf_X9_106 (pc := 34) h dX9_readWhole_34 (by assumption) (by omega) ?_
      refine jr_istore_n (pc := 37) h [_, _, _, _] dX9_readWhole_37 (by decide) rfl ?_
      refine jr_aload_n (pc := 38) h dX9_readWhole_38 rfl ?_
      refine iv_X9_123 (pc := 39) h hl hR dX9_readWhole_39 ⟨(Nat.le_of_ble_eq_true rfl), (Nat.le_of_ble_eq_true rfl), (Nat.le_of_ble_eq_true rfl), (Nat.le_of_ble_eq_true rfl)⟩ (Nat.le_of_ble_eq_true rfl) (by assumption) (by omega) (s_X9_goesOn hX hbt hbb (p := flP 4 p) hTR hPO (fun q => absurd q (flP_x (by omega)))) (fun v_39 n_39 M_39 hn_39 hp => ?_)
      obtain ⟨⟨rfl, rfl⟩, g1, w1, hX, hg1, hTR, f9⟩ := hp
      have f1 := fr_tr f1 f9
      have hgk := gkp_t hgk hg1
      obtain ⟨hnm, hOm, hBm⟩ := id hX
      refine jr_iload_n (pc := 42) h dX9_readWhole_42 rfl ?_
      refine jr_iret (pc := 43) h hRt dX9_readWhole_43 rfl (Nat.le_of_ble_eq_true rfl) (Nat.le_of_ble_eq_true rfl) ?_
      have hs := hs2.1 (by omega)
      have hn9 := hn5 hs
      have ee : (ehP bs x y p).2 = goP bs (flP 4 p) := by rw [ehP_4 hs (by omega), goP_1 (flP_x (by omega))]
      exact ⟨_, ⟨rfl, rfl⟩, hnr, fun q => absurd q (by rw [ehP_4 hs (by omega)]; exact flP_x (by omega)), _, _, hX, hgk, (by rw [ee]; exact hTR), f1⟩
  · first | have d_5 := bz_0.mp c_5 | have d_5 := bz_1.mp c_5 | skip
    refine jr_aload_n (pc := 8) h dX9_readWhole_8 rfl ?_
    refine jr_iconst (pc := 9) h dX9_readWhole_9 ?_
    refine iv_X9_126 (pc := 10) h hl hR dX9_readWhole_10 ⟨(Nat.le_of_ble_eq_true rfl), (Nat.le_of_ble_eq_true rfl), (Nat.le_of_ble_eq_true rfl), (Nat.le_of_ble_eq_true rfl)⟩ (Nat.le_of_ble_eq_true rfl) (by assumption) (by omega) (s_X9_wrong hX (p := p) (k := 1) hTR hPO (by omega)) (fun v_10 n_10 M_10 hn_10 hp => ?_)
    obtain ⟨⟨rfl, rfl⟩, g1, w1, hX, hg1, hTR, f9⟩ := hp
    have f1 := fr_tr f1 f9
    have hgk := gkp_t hgk hg1
    obtain ⟨hnm, hOm, hBm⟩ := id hX
    replace hPO := flP_O (k := 1) hPO (by omega)
    obtain ⟨hnm, hOm, hBm⟩ := id hX
    refine jr_goto (pc := 13) h 33 dX9_readWhole_13 (by decide) ?_
    have hnr := hTR.1.2.2.2.1
    refine jr_aload_n (pc := 33) h dX9_readWhole_33 rfl ?_
    refine gf_X9_106 (pc := 34) h dX9_readWhole_34 (by assumption) (by omega) ?_
    refine jr_istore_n (pc := 37) h [_, _, _, _] dX9_readWhole_37 (by decide) rfl ?_
    refine jr_aload_n (pc := 38) h dX9_readWhole_38 rfl ?_
    refine iv_X9_123 (pc := 39) h hl hR dX9_readWhole_39 ⟨(Nat.le_of_ble_eq_true rfl), (Nat.le_of_ble_eq_true rfl), (Nat.le_of_ble_eq_true rfl), (Nat.le_of_ble_eq_true rfl)⟩ (Nat.le_of_ble_eq_true rfl) (by assumption) (by omega) (s_X9_goesOn hX hbt hbb (p := flP 1 p) hTR hPO (fun q => absurd q (flP_x (by omega)))) (fun v_39 n_39 M_39 hn_39 hp => ?_)
    obtain ⟨⟨rfl, rfl⟩, g1, w1, hX, hg1, hTR, f9⟩ := hp
    have f1 := fr_tr f1 f9
    have hgk := gkp_t hgk hg1
    obtain ⟨hnm, hOm, hBm⟩ := id hX
    refine jr_iload_n (pc := 42) h dX9_readWhole_42 rfl ?_
    refine jr_iret (pc := 43) h hRt dX9_readWhole_43 rfl (Nat.le_of_ble_eq_true rfl) (Nat.le_of_ble_eq_true rfl) ?_
    have ee : (ehP bs x y p).2 = goP bs (flP 1 p) := by rw [ehP_1 (fun q => by have := hs2.2 q; omega), goP_1 (flP_x (by omega))]
    exact ⟨_, ⟨rfl, rfl⟩, hnr, fun q => absurd q (by rw [ehP_1 (fun q => by have := hs2.2 q; omega)]; exact flP_x (by omega)), _, _, hX, hgk, (by rw [ee]; exact hTR), f1⟩
set_option maxHeartbeats 1000000 in
set_option maxRecDepth 20000 in
theorem s_X9_readPart {l : Launch} {n : Nat} {M : jdM} {m : Nat} {g : Nat → Int} {w : Int} {fl rd : Value} {B : Nat → Nat → Int} (hX : MX M n m g w fl rd B) {bs : Nat → Int} (hbt : ∀ j, j < 900 → B 1 j = bs j) (hbb : ∀ j, -128 ≤ bs j ∧ bs j ≤ 127) {p : TS} (hTR : TR bs p g w) (hPO : PO p) {k : Nat} (hk58 : k < 58) (hk1 : 1 ≤ k) {x y : Int} (hx : -2147483648 ≤ x ∧ x < 2147483648) (hy : -2147483648 ≤ y ∧ y < 2147483648) : Ct l yX9_readPart cX9_readPart 4 (some .int) rX9_readPart [.ref m, .ref (1000000 + 100 + k), jI x, jI y] n M (fun vv n' M' => ∃ v : Int, (vv = some (jI v) ∧ n = n') ∧ (0 ≤ v ∧ v ≤ 999) ∧ ((lbP bs k x y p).2.1 7 = 0 → v = (lbP bs k x y p).1) ∧ ∃ g' w', MX M' n m g' w' fl rd B ∧ gkp g g' ∧ TR bs (lbP bs k x y p).2 g' w' ∧ fr (MXf m) M M') := by
  refine Ct_of [some (.ref m), some (.ref (1000000 + 100 + k)), some (jI x), some (jI y)] (by decide) (Nat.le_of_ble_eq_true rfl) rfl (fun κ hl h hR hRt hmn hn0 => ?_)
  have h : Ok κ RX9 cX9_readPart 4 (some .int) := h
  obtain ⟨hnm, hOm, hBm⟩ := id hX
  have hOm : M m = jdO 9 (fX9 m _ _ fl rd) := hOm
  have f1 : fr (MXf m) M M := fr_rf
  have hgk : gkp g g := gkp_r
  refine jr_aload_n (pc := 0) h dX9_readPart_0 rfl ?_
  refine jr_aload_n (pc := 1) h dX9_readPart_1 rfl ?_
  refine iv_X9_134 (pc := 2) h hl hR dX9_readPart_2 ⟨(Nat.le_of_ble_eq_true rfl), (Nat.le_of_ble_eq_true rfl), (Nat.le_of_ble_eq_true rfl), (Nat.le_of_ble_eq_true rfl)⟩ (Nat.le_of_ble_eq_true rfl) (by assumption) (by omega) (s_X9_needs hX hbt hbb (p := p) (k := k) hTR hPO hk58 hk1) (fun v_2 n_2 M_2 hn_2 hp => ?_)
  obtain ⟨⟨rfl, rfl⟩, g1, w1, hX, hg1, hTR, f9⟩ := hp
  have f1 := fr_tr f1 f9
  have hgk := gkp_t hgk hg1
  obtain ⟨hnm, hOm, hBm⟩ := id hX
  replace hPO := ewP_O (bs := bs) (k := k) hPO
  obtain ⟨hnm, hOm, hBm⟩ := id hX
  refine jr_aload_n (pc := 5) h dX9_readPart_5 rfl ?_
  refine jr_iload_n (pc := 6) h dX9_readPart_6 rfl ?_
  refine jr_iload_n (pc := 7) h dX9_readPart_7 rfl ?_
  refine iv_X9_138 (pc := 8) h hl hR dX9_readPart_8 ⟨(Nat.le_of_ble_eq_true rfl), (Nat.le_of_ble_eq_true rfl), (Nat.le_of_ble_eq_true rfl), (Nat.le_of_ble_eq_true rfl)⟩ (Nat.le_of_ble_eq_true rfl) (by assumption) (by omega) (s_X9_readWhole hX hbt hbb (p := ewP bs k p) (x := x) (y := y) hTR hPO (by omega) (by omega)) (fun v_8 n_8 M_8 hn_8 hp => ?_)
  obtain ⟨v9, ⟨rfl, rfl⟩, hvr, hve, g2, w2, hX, hg2, hTR, f9⟩ := hp
  have f1 := fr_tr f1 f9
  have hgk := gkp_t hgk hg2
  refine jr_iret (pc := 11) h hRt dX9_readPart_11 rfl (Nat.le_of_ble_eq_true rfl) (Nat.le_of_ble_eq_true rfl) ?_
  exact ⟨_, ⟨rfl, rfl⟩, hvr, hve, _, _, hX, hgk, hTR, f1⟩
