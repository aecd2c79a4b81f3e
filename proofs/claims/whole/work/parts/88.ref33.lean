/-! 88: the reference: the next token -/
/-- what stands after a step -/
def nxS (bs g : Nat → Int) (g' : Nat → Int) (w' : Int) : Prop :=
  (¬ nxF bs g < g 1 ∧ g' 9 = 1 ∧ g' 8 = nxF bs g) ∨
  (nxF bs g < g 1 ∧ nxF bs g < nxA bs g ∧ nxA bs g - nxF bs g ≤ 8 ∧ g' 9 = 2 ∧ g' 8 = nxA bs g ∧ w' = acc 32 96 bs (nxF bs g) (nxA bs g - nxF bs g).toNat) ∨
  (nxF bs g < g 1 ∧ nxF bs g < nxA bs g ∧ 8 < nxA bs g - nxF bs g ∧ g' 9 = 0) ∨
  (nxF bs g < g 1 ∧ nxA bs g = nxF bs g ∧ nxF bs g < nxD bs g ∧ nxD bs g - nxF bs g ≤ 3 ∧ g' 9 = 3 ∧ g' 8 = nxD bs g ∧ g' 12 = acc 10 48 bs (nxF bs g) (nxD bs g - nxF bs g).toNat) ∨
  (nxF bs g < g 1 ∧ nxA bs g = nxF bs g ∧ nxF bs g < nxD bs g ∧ 3 < nxD bs g - nxF bs g ∧ g' 9 = 0) ∨
  (nxF bs g < g 1 ∧ nxA bs g = nxF bs g ∧ nxD bs g = nxF bs g ∧ (bs (nxF bs g).toNat = 59 ∨ bs (nxF bs g).toNat = 44) ∧ g' 9 = 4 ∧ g' 8 = nxF bs g + 1 ∧ g' 11 = bs (nxF bs g).toNat) ∨
  (nxF bs g < g 1 ∧ nxA bs g = nxF bs g ∧ nxD bs g = nxF bs g ∧ ¬ (bs (nxF bs g).toNat = 59 ∨ bs (nxF bs g).toNat = 44) ∧ g' 9 = 0)
theorem nx_b {bs g : Nat → Int} (h3 : 0 ≤ g 3 ∧ g 3 ≤ g 1) : g 3 ≤ nxF bs g ∧ nxF bs g ≤ g 1 ∧ nxF bs g ≤ nxA bs g ∧ nxA bs g ≤ g 1 ∧ nxF bs g ≤ nxD bs g ∧ nxD bs g ≤ g 1 := by
  have h1 := runI_b (lo := 32) (hi := 32) (bs := bs) (e := g 1) (i := g 3)
  have h2 := runI_b (lo := 97) (hi := 122) (bs := bs) (e := g 1) (i := nxF bs g)
  have h4 := runI_b (lo := 48) (hi := 57) (bs := bs) (e := g 1) (i := nxF bs g)
  unfold nxA nxD
  unfold nxF at h2 h4 ⊢
  omega
theorem TR_nx {bs : Nat → Int} {p : TS} {g' : Nat → Int} {w' : Int} (h7 : p.1 7 = 0) (h3 : 0 ≤ p.1 3 ∧ p.1 3 ≤ p.1 1) (h9 : p.1 1 ≤ 900) (a13 : g' 13 = 0) (a7 : g' 7 = p.1 1) (a12 : 0 ≤ g' 12 ∧ g' 12 ≤ 999) (aw : 0 ≤ w' ∧ w' < 1099511627776) (a10 : g' 10 = nxF bs p.1) (hS : nxS bs p.1 g' w') : TR bs (nxP bs p) g' w' := by
  obtain ⟨b1, b2, b3, b4, b5, b6⟩ := nx_b (bs := bs) h3
  have e2 : (nxP bs p).1 2 = nxF bs p.1 := rfl
  have e3 : (nxP bs p).1 3 = tokT (p.1 1) (nxF bs p.1) (nxA bs p.1) (nxD bs p.1) := rfl
  have e4 : (nxP bs p).1 4 = tokS bs (p.1 1) (nxF bs p.1) (nxA bs p.1) (nxD bs p.1) := rfl
  have e5 : (nxP bs p).1 5 = tokV bs (nxF bs p.1) (nxA bs p.1) (nxD bs p.1) := rfl
  have e7 : (nxP bs p).1 7 = p.1 7 := rfl
  have e1 : (nxP bs p).1 1 = p.1 1 := rfl
  have ew : (nxP bs p).2.1 = tokW bs (nxF bs p.1) (nxA bs p.1) := rfl
  have hlet : ∀ j : Int, nxF bs p.1 ≤ j → j < nxA bs p.1 → 97 ≤ bs j.toNat ∧ bs j.toNat ≤ 122 := fun j h1 h2 => runN_c _ _ _ h1 h2
  have hq : 0 ≤ (nxP bs p).1 3 ∧ (nxP bs p).1 3 ≤ (nxP bs p).1 1 ∧ (nxP bs p).1 1 ≤ 900 := by
    rw [e3, e1]
    unfold tokT
    repeat' split
    all_goals omega
  refine ⟨⟨by rw [e7, h7]; exact a13, by rw [e1]; exact a7, hq, a12, aw⟩, fun _ => ?_, fun q => absurd (e7.trans h7) q⟩
  unfold TRo
  rw [e1, e2, e3, e4, e5, ew]
  unfold nxS at hS
  generalize nxF bs p.1 = F at *
  generalize nxA bs p.1 = A at *
  generalize nxD bs p.1 = D at *
  clear e1 e2 e3 e4 e5 ew e7
  refine ⟨a10, ?_⟩
  have no : ∀ {a b : Int} {P : Prop}, a ≠ b → a = b → P := fun h h' => absurd h' h
  rcases hS with ⟨c1, d9, d8⟩ | ⟨c1, c2, c3, d9, d8, dw⟩ | ⟨c1, c2, c3, d9⟩ | ⟨c1, c2, c3, c4, d9, d8, d12⟩ | ⟨c1, c2, c3, c4, d9⟩ | ⟨c1, c2, c3, c4, d9, d8, d11⟩ | ⟨c1, c2, c3, c4, d9⟩
  · have eS : tokS bs (p.1 1) F A D = 0 := by unfold tokS; rw [if_neg (by omega), if_neg (by omega), if_pos (by omega)]
    have eT : tokT (p.1 1) F A D = F := by unfold tokT; rw [if_neg (by omega), if_neg (by omega), if_pos (by omega)]
    rw [eS, eT]
    exact ⟨fun _ => d8, fun _ => d9, no (by decide), no (by decide), no (by decide), no (by decide)⟩
  · have eS : tokS bs (p.1 1) F A D = 1 := by unfold tokS; rw [if_pos (by omega), if_pos (by omega)]
    have eT : tokT (p.1 1) F A D = A := by unfold tokT; rw [if_pos (by omega)]
    rw [eS, eT]
    exact ⟨fun _ => d8, no (by decide), fun _ => ⟨d9, ⟨by omega, by omega⟩, fun j hj => by have := hlet (F + j) (by omega) (by omega); rw [show (F + (j : Int)).toNat = F.toNat + j by omega] at this; exact this, rfl, dw⟩, no (by decide), no (by decide), no (by decide)⟩
  · have eS : tokS bs (p.1 1) F A D = 4 := by unfold tokS; rw [if_pos (by omega), if_neg (by omega)]
    rw [eS]
    exact ⟨fun q => absurd rfl q, no (by decide), no (by decide), no (by decide), no (by decide), fun _ => d9⟩
  · have eS : tokS bs (p.1 1) F A D = 2 := by unfold tokS; rw [if_neg (by omega), if_pos (by omega), if_pos (by omega)]
    have eT : tokT (p.1 1) F A D = D := by unfold tokT; rw [if_neg (by omega), if_pos (by omega)]
    have eV : tokV bs F A D = acc 10 48 bs F (D - F).toNat := by unfold tokV; rw [if_neg (by omega)]
    rw [eS, eT, eV]
    exact ⟨fun _ => d8, no (by decide), no (by decide), fun _ => ⟨d9, d12⟩, no (by decide), no (by decide)⟩
  · have eS : tokS bs (p.1 1) F A D = 4 := by unfold tokS; rw [if_neg (by omega), if_pos (by omega), if_neg (by omega)]
    rw [eS]
    exact ⟨fun q => absurd rfl q, no (by decide), no (by decide), no (by decide), no (by decide), fun _ => d9⟩
  · have eS : tokS bs (p.1 1) F A D = 3 := by unfold tokS; rw [if_neg (by omega), if_neg (by omega), if_neg (by omega), if_pos c4]
    have eT : tokT (p.1 1) F A D = F + 1 := by unfold tokT; rw [if_neg (by omega), if_neg (by omega), if_neg (by omega)]
    rw [eS, eT]
    exact ⟨fun _ => d8, no (by decide), no (by decide), no (by decide), fun _ => ⟨d9, d11, c1⟩, no (by decide)⟩
  · have eS : tokS bs (p.1 1) F A D = 4 := by unfold tokS; rw [if_neg (by omega), if_neg (by omega), if_neg (by omega), if_neg c4]
    rw [eS]
    exact ⟨fun q => absurd rfl q, no (by decide), no (by decide), no (by decide), no (by decide), fun _ => d9⟩
theorem gkX {M : jdM} {n m : Nat} {g g1 : Nat → Int} {w : Int} {fl rd : Value} {B : Nat → Nat → Int} {k : Nat} {x : Int} (_ : MX M n m (up g1 k x) w fl rd B) (h : gkp g g1) (hk : 8 ≤ k ∧ k ≤ 14) : gkp g (up g1 k x) := gkp_u h hk
set_option maxHeartbeats 1000000 in
set_option maxRecDepth 20000 in
theorem s_X9_goesOn_ok {l : Launch} {n : Nat} {M : jdM} {m : Nat} {g : Nat → Int} {w : Int} {fl rd : Value} {B : Nat → Nat → Int} (hX : MX M n m g w fl rd B) {bs : Nat → Int} (hbt : ∀ j, j < 900 → B 1 j = bs j) (hbb : ∀ j, -128 ≤ bs j ∧ bs j ≤ 127) {p : TS} (h7 : p.1 7 = 0) (h3 : 0 ≤ p.1 3 ∧ p.1 3 ≤ p.1 1) (hp9 : p.1 1 ≤ 900) (a9 : 0 ≤ g 9 ∧ g 9 ≤ 4) (a8 : g 8 = p.1 3) (a13 : g 13 = 0) (a7 : g 7 = p.1 1) (a12 : 0 ≤ g 12 ∧ g 12 ≤ 999) (aw : 0 ≤ w ∧ w < 1099511627776) : Ct l yX9_goesOn cX9_goesOn 3 none rX9_goesOn [.ref m] n M (fun vv n' M' => (vv = none ∧ n = n') ∧ ∃ g' w', MX M' n m g' w' fl rd B ∧ gkp g g' ∧ TR bs (nxP bs p) g' w' ∧ fr (MXf m) M M') := by
  refine Ct_of [some (.ref m), none, none] (by decide) (Nat.le_of_ble_eq_true rfl) rfl (fun κ hl h hR hRt hmn hn0 => ?_)
  have h : Ok κ RX9 cX9_goesOn 3 none := h
  obtain ⟨hnm, hOm, hBm⟩ := id hX
  have hOm : M m = jdO 9 (fX9 m _ _ fl rd) := hOm
  refine jr_aload_n (pc := 0) h dX9_goesOn_0 rfl ?_
  refine gf_X9_80 (pc := 1) h dX9_goesOn_1 (by assumption) (by omega) ?_
  refine jr_iconst (pc := 4) h dX9_goesOn_4 ?_
  refine jr_icmp_ne (pc := 5) h 9 dX9_goesOn_5 (by decide) (by omega) (by omega) (fun _ => ?_) (fun c => absurd c (by omega))
  have lp1 : ∀ (dq1 : Nat) (a : Int) (M1 : jdM) (g1 : Nat → Int), (0 ≤ a ∧ a ≤ p.1 1) → (MX M1 n m g1 w fl rd B) → (gkp g g1) → (g1 8 = a) → (fr (MXf m) M M1) → (g1 13 = 0) → (0 ≤ g1 12 ∧ g1 12 ≤ 999) → (0 ≤ g1 9 ∧ g1 9 ≤ 4) → (runI 32 32 bs (p.1 1) a = nxF bs p.1) → (p.1 1 - a).toNat < dq1 → J κ 3 0 0 n 9 [some (.ref m), none, none] [] M1 := by
    intro dq1
    induction dq1 with
    | zero => intro a M1 g1 ha hX hgk b8 f1 b13 b12 b9 hr hd; omega
    | succ dq1 ih1 =>
      intro a M1 g1 ha hX hgk b8 f1 b13 b12 b9 hr hd
      have b7 : g1 7 = p.1 1 := (hgk 7 (by omega)).trans a7
      obtain ⟨hnm, hOm, hBm⟩ := id hX
      refine jr_aload_n (pc := 9) h dX9_goesOn_9 rfl ?_
      refine jr_aload_n (pc := 10) h dX9_goesOn_10 rfl ?_
      refine gf_X9_83 (pc := 11) h dX9_goesOn_11 (by assumption) (by omega) ?_
      show J _ _ _ _ _ _ _ (jI (g1 8) :: _) _
      rw [b8]
      refine iv_X9_86 (pc := 14) h hl hR dX9_goesOn_14 ⟨(Nat.le_of_ble_eq_true rfl), (Nat.le_of_ble_eq_true rfl), (Nat.le_of_ble_eq_true rfl), (Nat.le_of_ble_eq_true rfl)⟩ (Nat.le_of_ble_eq_true rfl) (by assumption) (by omega) (s_X9_byteAt hX hbt hbb (i := a) (by omega) (by omega)) (fun v_14 n_14 M_14 hn_14 hp => ?_)
      obtain ⟨⟨rfl, rfl, rfl⟩, gr_14⟩ := hp
      rw [b7] at gr_14 ⊢
      refine jr_bipush (pc := 17) h dX9_goesOn_17 bp_32 ?_
      refine jr_icmp_ne (pc := 19) h 35 dX9_goesOn_19 (by decide) (by omega) (by omega) (fun c_19 => ?_) (fun c_19 => ?_)
      · first | have d_19 := bz_0.mp c_19 | have d_19 := bz_1.mp c_19 | skip
        have eF : nxF bs p.1 = a := by
          rw [← hr, runI_e (fun q => by
            have := (chR_i (e := p.1 1) (i := a) (lo := 32) (hi := 32) hbb (by omega)).2 q
            omega)]
        refine jr_aload_n (pc := 35) h dX9_goesOn_35 rfl ?_
        refine jr_aload_n (pc := 36) h dX9_goesOn_36 rfl ?_
        refine gf_X9_83 (pc := 37) h dX9_goesOn_37 (by assumption) (by omega) ?_
        show J _ _ _ _ _ _ _ (jI (g1 8) :: _) _
        rw [b8]
        refine pf_X9_89 (pc := 40) h dX9_goesOn_40 hOm (by omega) ?_
        refine jm_gen (fun M2 hM2 => ?_)
        rw [fX9_10] at hM2
        have hX := MX_o hX hM2
        have f9 : fr (MXf m) _ M2 := fr_up hM2 ⟨by omega, by omega⟩
        have f1 := fr_tr f1 f9
        obtain ⟨hnm, hOm, hBm⟩ := id hX
        have hgk := gkX hX hgk (by omega)
        refine jr_aload_n (pc := 43) h dX9_goesOn_43 rfl ?_
        refine jr_iconst (pc := 44) h dX9_goesOn_44 ?_
        refine pf_X9_80 (pc := 45) h dX9_goesOn_45 hOm (by omega) ?_
        refine jm_gen (fun M2 hM2 => ?_)
        rw [fX9_9] at hM2
        have hX := MX_o hX hM2
        have f9 : fr (MXf m) _ M2 := fr_up hM2 ⟨by omega, by omega⟩
        have f1 := fr_tr f1 f9
        obtain ⟨hnm, hOm, hBm⟩ := id hX
        have hgk := gkX hX hgk (by omega)
        refine jr_aload_n (pc := 48) h dX9_goesOn_48 rfl ?_
        refine jr_iconst (pc := 49) h dX9_goesOn_49 ?_
        refine pf_X9_92 (pc := 50) h dX9_goesOn_50 hOm (by omega) ?_
        refine jm_gen (fun M2 hM2 => ?_)
        rw [fX9_11] at hM2
        have hX := MX_o hX hM2
        have f9 : fr (MXf m) _ M2 := fr_up hM2 ⟨by omega, by omega⟩
        have f1 := fr_tr f1 f9
        obtain ⟨hnm, hOm, hBm⟩ := id hX
        have hgk := gkX hX hgk (by omega)
        refine jr_aload_n (pc := 53) h dX9_goesOn_53 rfl ?_
        refine jr_aload_n (pc := 54) h dX9_goesOn_54 rfl ?_
        refine gf_X9_83 (pc := 55) h dX9_goesOn_55 (by assumption) (by omega) ?_
        show J _ _ _ _ _ _ _ (jI (g1 8) :: _) _
        rw [b8]
        refine iv_X9_86 (pc := 58) h hl hR dX9_goesOn_58 ⟨(Nat.le_of_ble_eq_true rfl), (Nat.le_of_ble_eq_true rfl), (Nat.le_of_ble_eq_true rfl), (Nat.le_of_ble_eq_true rfl)⟩ (Nat.le_of_ble_eq_true rfl) (by assumption) (by omega) (s_X9_byteAt hX hbt hbb (i := a) (by omega) (by show 0 ≤ g1 7 ∧ g1 7 ≤ 900; omega)) (fun v_58 n_58 M_58 hn_58 hp => ?_)
        obtain ⟨⟨rfl, rfl, rfl⟩, gr_58⟩ := hp
        rw [show up (up (up g1 10 a) 9 0) 11 0 7 = p.1 1 from by rw [up_ne (by omega), up_ne (by omega), up_ne (by omega)]; exact b7] at gr_58 ⊢
        refine jr_istore_n (pc := 61) h [_, _, _] dX9_goesOn_61 (by decide) rfl ?_
        refine jr_iconst (pc := 62) h dX9_goesOn_62 ?_
        refine jr_istore_n (pc := 63) h [_, _, _] dX9_goesOn_63 (by decide) rfl ?_
        obtain ⟨c, ec⟩ : ∃ z, chR bs (p.1 1) a = z := ⟨_, rfl⟩
        have hcn := chR_n (bs := bs) (e := p.1 1) (i := a)
        have hcb9 := chR_b (bs := bs) (e := p.1 1) (i := a)
        rw [ec] at hcn hcb9 ⊢
        obtain ⟨g2, eg2⟩ : ∃ z, up (up (up g1 10 a) 9 0) 11 0 = z := ⟨_, rfl⟩
        have c8 : g2 8 = a := by rw [← eg2, up_ne (by omega), up_ne (by omega), up_ne (by omega)]; exact b8
        have c9 : g2 9 = 0 := by rw [← eg2, up_ne (by omega), up_eq]
        have c10 : g2 10 = a := by rw [← eg2, up_ne (by omega), up_ne (by omega), up_eq]
        have c13 : g2 13 = 0 := by rw [← eg2, up_ne (by omega), up_ne (by omega), up_ne (by omega)]; exact b13
        have c7 : g2 7 = p.1 1 := by rw [← eg2, up_ne (by omega), up_ne (by omega), up_ne (by omega)]; exact b7
        have c12 : 0 ≤ g2 12 ∧ g2 12 ≤ 999 := by rw [← eg2, up_ne (by omega), up_ne (by omega), up_ne (by omega)]; exact b12
        rw [eg2] at hX hgk
        have b7 := c7
        have b8 := c8
        have b9 := c9
        have b10 := c10
        have b13 := c13
        have b12 := c12
        obtain ⟨hnm, hOm, hBm⟩ := id hX
        refine jr_iload_n (pc := 64) h dX9_goesOn_64 rfl ?_
        refine jr_iconst (pc := 65) h dX9_goesOn_65 ?_
        refine jr_icmp_ne (pc := 66) h 77 dX9_goesOn_66 (by decide) (by omega) (by omega) (fun c_66 => ?_) (fun c_66 => ?_)
        · first | have d_66 := bz_0.mp c_66 | have d_66 := bz_1.mp c_66 | skip
          refine jr_iload_n (pc := 77) h dX9_goesOn_77 rfl ?_
          refine iv_X9_95 (pc := 78) h hl hR dX9_goesOn_78 ⟨(Nat.le_of_ble_eq_true rfl), (Nat.le_of_ble_eq_true rfl), (Nat.le_of_ble_eq_true rfl), (Nat.le_of_ble_eq_true rfl)⟩ (Nat.le_of_ble_eq_true rfl) (s_X9_isLetter (by omega)) (fun v_78 n_78 M_78 hn_78 hp => ?_)
          obtain ⟨⟨rfl, rfl, rfl⟩, gr_78⟩ := hp
          refine jr_if_eq (pc := 81) h 166 dX9_goesOn_81 (by decide) (by omega) (fun c_81 => ?_) (fun c_81 => ?_)
          · first | have d_81 := bz_0.mp c_81 | have d_81 := bz_1.mp c_81 | skip
            refine jr_iload_n (pc := 166) h dX9_goesOn_166 rfl ?_
            refine iv_X9_103 (pc := 167) h hl hR dX9_goesOn_167 ⟨(Nat.le_of_ble_eq_true rfl), (Nat.le_of_ble_eq_true rfl), (Nat.le_of_ble_eq_true rfl), (Nat.le_of_ble_eq_true rfl)⟩ (Nat.le_of_ble_eq_true rfl) (s_X9_isDigit (by omega)) (fun v_167 n_167 M_167 hn_167 hp => ?_)
            obtain ⟨⟨rfl, rfl, rfl⟩, gr_167⟩ := hp
            refine jr_if_eq (pc := 170) h 249 dX9_goesOn_170 (by decide) (by omega) (fun c_170 => ?_) (fun c_170 => ?_)
            · first | have d_170 := bz_0.mp c_170 | have d_170 := bz_1.mp c_170 | skip
              refine jr_iload_n (pc := 249) h dX9_goesOn_249 rfl ?_
              refine jr_bipush (pc := 250) h dX9_goesOn_250 bp_59 ?_
              refine jr_icmp_eq (pc := 252) h 261 dX9_goesOn_252 (by decide) (by omega) (by omega) (fun c_252 => ?_) (fun c_252 => ?_)
              · first | have d_252 := bz_0.mp c_252 | have d_252 := bz_1.mp c_252 | skip
                refine jr_aload_n (pc := 261) h dX9_goesOn_261 rfl ?_
                refine jr_iconst (pc := 262) h dX9_goesOn_262 ?_
                refine pf_X9_80 (pc := 263) h dX9_goesOn_263 hOm (by omega) ?_
                refine jm_gen (fun M2 hM2 => ?_)
                rw [fX9_9] at hM2
                have hX := MX_o hX hM2
                have f9 : fr (MXf m) _ M2 := fr_up hM2 ⟨by omega, by omega⟩
                have f1 := fr_tr f1 f9
                obtain ⟨hnm, hOm, hBm⟩ := id hX
                have hgk := gkX hX hgk (by omega)
                refine jr_aload_n (pc := 266) h dX9_goesOn_266 rfl ?_
                refine jr_iload_n (pc := 267) h dX9_goesOn_267 rfl ?_
                refine pf_X9_92 (pc := 268) h dX9_goesOn_268 hOm (by omega) ?_
                refine jm_gen (fun M2 hM2 => ?_)
                rw [fX9_11] at hM2
                have hX := MX_o hX hM2
                have f9 : fr (MXf m) _ M2 := fr_up hM2 ⟨by omega, by omega⟩
                have f1 := fr_tr f1 f9
                obtain ⟨hnm, hOm, hBm⟩ := id hX
                have hgk := gkX hX hgk (by omega)
                refine jr_aload_n (pc := 271) h dX9_goesOn_271 rfl ?_
                refine jr_dup (pc := 272) h dX9_goesOn_272 rfl ?_
                refine gf_X9_83 (pc := 273) h dX9_goesOn_273 (by assumption) (by omega) ?_
                show J _ _ _ _ _ _ _ (jI (g2 8) :: _) _
                rw [b8]
                refine jr_iconst (pc := 276) h dX9_goesOn_276 ?_
                refine jr_iadd (pc := 277) h dX9_goesOn_277 ?_
                refine pf_X9_83 (pc := 278) h dX9_goesOn_278 hOm (by omega) ?_
                refine jm_gen (fun M2 hM2 => ?_)
                rw [fX9_8] at hM2
                have hX := MX_o hX hM2
                have f9 : fr (MXf m) _ M2 := fr_up hM2 ⟨by omega, by omega⟩
                have f1 := fr_tr f1 f9
                obtain ⟨hnm, hOm, hBm⟩ := id hX
                have hgk := gkX hX hgk (by omega)
                refine jr_vret (pc := 281) h hRt dX9_goesOn_281 (Nat.le_of_ble_eq_true rfl) (Nat.le_of_ble_eq_true rfl) ?_
                first
                | (have hFe : ¬ nxF bs p.1 < p.1 1 := by omega
                   refine ⟨⟨rfl, rfl⟩, _, _, hX, hgk, TR_nx h7 h3 hp9 ((up_ne (by omega)).trans b13) ((up_ne (by omega)).trans b7) (by rw [up_ne (by omega)]; exact b12) aw ((up_ne (by omega)).trans (b10.trans eF.symm)) (Or.inl ⟨hFe, up_eq, (up_ne (by omega)).trans (b8.trans eF.symm)⟩), f1⟩)
                | (have hFe : nxF bs p.1 < p.1 1 := by omega
                   have hAF : nxA bs p.1 = nxF bs p.1 := by
                     unfold nxA
                     exact runI_e (fun q => by have := (chR_i (e := p.1 1) (i := nxF bs p.1) (lo := 97) (hi := 122) hbb (by omega)).2 q; rw [eF, ec] at this; omega)
                   have hDF : nxD bs p.1 = nxF bs p.1 := by
                     unfold nxD
                     exact runI_e (fun q => by have := (chR_i (e := p.1 1) (i := nxF bs p.1) (lo := 48) (hi := 57) hbb (by omega)).2 q; rw [eF, ec] at this; omega)
                   have q59 := (chR_e (e := p.1 1) (i := nxF bs p.1) (v := 59) hbb (by omega))
                   have q44 := (chR_e (e := p.1 1) (i := nxF bs p.1) (v := 44) hbb (by omega))
                   rw [eF, ec] at q59 q44
                   first
                   | (refine ⟨⟨rfl, rfl⟩, _, _, hX, hgk, TR_nx h7 h3 hp9 b13 b7 b12 aw (b10.trans eF.symm) (Or.inr (Or.inr (Or.inr (Or.inr (Or.inr (Or.inr ⟨hFe, hAF, hDF, ?_, b9⟩)))))), f1⟩
                      rw [eF]
                      rintro (q | q)
                      · have := q59.2 ⟨by omega, q⟩; omega
                      · have := q44.2 ⟨by omega, q⟩; omega)
                   | (have hcv : c = bs a.toNat ∧ (bs a.toNat = 59 ∨ bs a.toNat = 44) := by
                        rcases (show c = 59 ∨ c = 44 by omega) with q | q
                        · have := q59.1 q; omega
                        · have := q44.1 q; omega
                      refine ⟨⟨rfl, rfl⟩, _, _, hX, hgk, TR_nx h7 h3 hp9 (by rw [up_ne (by omega), up_ne (by omega), up_ne (by omega)]; exact b13) (by rw [up_ne (by omega), up_ne (by omega), up_ne (by omega)]; exact b7) (by rw [up_ne (by omega), up_ne (by omega), up_ne (by omega)]; exact b12) aw (by rw [up_ne (by omega), up_ne (by omega), up_ne (by omega)]; exact b10.trans eF.symm) (Or.inr (Or.inr (Or.inr (Or.inr (Or.inr (Or.inl ⟨hFe, hAF, hDF, by rw [eF]; exact hcv.2, by rw [up_ne (by omega), up_ne (by omega), up_eq], by rw [up_eq, eF], by rw [up_ne (by omega), up_eq, eF]; exact hcv.1⟩)))))), f1⟩))
              · first | have d_252 := bz_0.mp c_252 | have d_252 := bz_1.mp c_252 | skip
                refine jr_iload_n (pc := 255) h dX9_goesOn_255 rfl ?_
                refine jr_bipush (pc := 256) h dX9_goesOn_256 bp_44 ?_
                refine jr_icmp_ne (pc := 258) h 281 dX9_goesOn_258 (by decide) (by omega) (by omega) (fun c_258 => ?_) (fun c_258 => ?_)
                · first | have d_258 := bz_0.mp c_258 | have d_258 := bz_1.mp c_258 | skip
                  refine jr_vret (pc := 281) h hRt dX9_goesOn_281 (Nat.le_of_ble_eq_true rfl) (Nat.le_of_ble_eq_true rfl) ?_
                  first
                  | (have hFe : ¬ nxF bs p.1 < p.1 1 := by omega
                     refine ⟨⟨rfl, rfl⟩, _, _, hX, hgk, TR_nx h7 h3 hp9 ((up_ne (by omega)).trans b13) ((up_ne (by omega)).trans b7) (by rw [up_ne (by omega)]; exact b12) aw ((up_ne (by omega)).trans (b10.trans eF.symm)) (Or.inl ⟨hFe, up_eq, (up_ne (by omega)).trans (b8.trans eF.symm)⟩), f1⟩)
                  | (have hFe : nxF bs p.1 < p.1 1 := by omega
                     have hAF : nxA bs p.1 = nxF bs p.1 := by
                       unfold nxA
                       exact runI_e (fun q => by have := (chR_i (e := p.1 1) (i := nxF bs p.1) (lo := 97) (hi := 122) hbb (by omega)).2 q; rw [eF, ec] at this; omega)
                     have hDF : nxD bs p.1 = nxF bs p.1 := by
                       unfold nxD
                       exact runI_e (fun q => by have := (chR_i (e := p.1 1) (i := nxF bs p.1) (lo := 48) (hi := 57) hbb (by omega)).2 q; rw [eF, ec] at this; omega)
                     have q59 := (chR_e (e := p.1 1) (i := nxF bs p.1) (v := 59) hbb (by omega))
                     have q44 := (chR_e (e := p.1 1) (i := nxF bs p.1) (v := 44) hbb (by omega))
                     rw [eF, ec] at q59 q44
                     first
                     | (refine ⟨⟨rfl, rfl⟩, _, _, hX, hgk, TR_nx h7 h3 hp9 b13 b7 b12 aw (b10.trans eF.symm) (Or.inr (Or.inr (Or.inr (Or.inr (Or.inr (Or.inr ⟨hFe, hAF, hDF, ?_, b9⟩)))))), f1⟩
                        rw [eF]
                        rintro (q | q)
                        · have := q59.2 ⟨by omega, q⟩; omega
                        · have := q44.2 ⟨by omega, q⟩; omega)
                     | (have hcv : c = bs a.toNat ∧ (bs a.toNat = 59 ∨ bs a.toNat = 44) := by
                          rcases (show c = 59 ∨ c = 44 by omega) with q | q
                          · have := q59.1 q; omega
                          · have := q44.1 q; omega
                        refine ⟨⟨rfl, rfl⟩, _, _, hX, hgk, TR_nx h7 h3 hp9 (by rw [up_ne (by omega), up_ne (by omega), up_ne (by omega)]; exact b13) (by rw [up_ne (by omega), up_ne (by omega), up_ne (by omega)]; exact b7) (by rw [up_ne (by omega), up_ne (by omega), up_ne (by omega)]; exact b12) aw (by rw [up_ne (by omega), up_ne (by omega), up_ne (by omega)]; exact b10.trans eF.symm) (Or.inr (Or.inr (Or.inr (Or.inr (Or.inr (Or.inl ⟨hFe, hAF, hDF, by rw [eF]; exact hcv.2, by rw [up_ne (by omega), up_ne (by omega), up_eq], by rw [up_eq, eF], by rw [up_ne (by omega), up_eq, eF]; exact hcv.1⟩)))))), f1⟩))
                · first | have d_258 := bz_0.mp c_258 | have d_258 := bz_1.mp c_258 | skip
                  refine jr_aload_n (pc := 261) h dX9_goesOn_261 rfl ?_
                  refine jr_iconst (pc := 262) h dX9_goesOn_262 ?_
                  refine pf_X9_80 (pc := 263) h dX9_goesOn_263 hOm (by omega) ?_
                  refine jm_gen (fun M2 hM2 => ?_)
                  rw [fX9_9] at hM2
                  have hX := MX_o hX hM2
                  have f9 : fr (MXf m) _ M2 := fr_up hM2 ⟨by omega, by omega⟩
                  have f1 := fr_tr f1 f9
                  obtain ⟨hnm, hOm, hBm⟩ := id hX
                  have hgk := gkX hX hgk (by omega)
                  refine jr_aload_n (pc := 266) h dX9_goesOn_266 rfl ?_
                  refine jr_iload_n (pc := 267) h dX9_goesOn_267 rfl ?_
                  refine pf_X9_92 (pc := 268) h dX9_goesOn_268 hOm (by omega) ?_
                  refine jm_gen (fun M2 hM2 => ?_)
                  rw [fX9_11] at hM2
                  have hX := MX_o hX hM2
                  have f9 : fr (MXf m) _ M2 := fr_up hM2 ⟨by omega, by omega⟩
                  have f1 := fr_tr f1 f9
                  obtain ⟨hnm, hOm, hBm⟩ := id hX
                  have hgk := gkX hX hgk (by omega)
                  refine jr_aload_n (pc := 271) h dX9_goesOn_271 rfl ?_
                  refine jr_dup (pc := 272) h dX9_goesOn_272 rfl ?_
                  refine gf_X9_83 (pc := 273) h dX9_goesOn_273 (by assumption) (by omega) ?_
                  show J _ _ _ _ _ _ _ (jI (g2 8) :: _) _
                  rw [b8]
                  refine jr_iconst (pc := 276) h dX9_goesOn_276 ?_
                  refine jr_iadd (pc := 277) h dX9_goesOn_277 ?_
                  refine pf_X9_83 (pc := 278) h dX9_goesOn_278 hOm (by omega) ?_
                  refine jm_gen (fun M2 hM2 => ?_)
                  rw [fX9_8] at hM2
                  have hX := MX_o hX hM2
                  have f9 : fr (MXf m) _ M2 := fr_up hM2 ⟨by omega, by omega⟩
                  have f1 := fr_tr f1 f9
                  obtain ⟨hnm, hOm, hBm⟩ := id hX
                  have hgk := gkX hX hgk (by omega)
                  refine jr_vret (pc := 281) h hRt dX9_goesOn_281 (Nat.le_of_ble_eq_true rfl) (Nat.le_of_ble_eq_true rfl) ?_
                  first
                  | (have hFe : ¬ nxF bs p.1 < p.1 1 := by omega
                     refine ⟨⟨rfl, rfl⟩, _, _, hX, hgk, TR_nx h7 h3 hp9 ((up_ne (by omega)).trans b13) ((up_ne (by omega)).trans b7) (by rw [up_ne (by omega)]; exact b12) aw ((up_ne (by omega)).trans (b10.trans eF.symm)) (Or.inl ⟨hFe, up_eq, (up_ne (by omega)).trans (b8.trans eF.symm)⟩), f1⟩)
                  | (have hFe : nxF bs p.1 < p.1 1 := by omega
                     have hAF : nxA bs p.1 = nxF bs p.1 := by
                       unfold nxA
                       exact runI_e (fun q => by have := (chR_i (e := p.1 1) (i := nxF bs p.1) (lo := 97) (hi := 122) hbb (by omega)).2 q; rw [eF, ec] at this; omega)
                     have hDF : nxD bs p.1 = nxF bs p.1 := by
                       unfold nxD
                       exact runI_e (fun q => by have := (chR_i (e := p.1 1) (i := nxF bs p.1) (lo := 48) (hi := 57) hbb (by omega)).2 q; rw [eF, ec] at this; omega)
                     have q59 := (chR_e (e := p.1 1) (i := nxF bs p.1) (v := 59) hbb (by omega))
                     have q44 := (chR_e (e := p.1 1) (i := nxF bs p.1) (v := 44) hbb (by omega))
                     rw [eF, ec] at q59 q44
                     first
                     | (refine ⟨⟨rfl, rfl⟩, _, _, hX, hgk, TR_nx h7 h3 hp9 b13 b7 b12 aw (b10.trans eF.symm) (Or.inr (Or.inr (Or.inr (Or.inr (Or.inr (Or.inr ⟨hFe, hAF, hDF, ?_, b9⟩)))))), f1⟩
                        rw [eF]
                        rintro (q | q)
                        · have := q59.2 ⟨by omega, q⟩; omega
                        · have := q44.2 ⟨by omega, q⟩; omega)
                     | (have hcv : c = bs a.toNat ∧ (bs a.toNat = 59 ∨ bs a.toNat = 44) := by
                          rcases (show c = 59 ∨ c = 44 by omega) with q | q
                          · have := q59.1 q; omega
                          · have := q44.1 q; omega
                        refine ⟨⟨rfl, rfl⟩, _, _, hX, hgk, TR_nx h7 h3 hp9 (by rw [up_ne (by omega), up_ne (by omega), up_ne (by omega)]; exact b13) (by rw [up_ne (by omega), up_ne (by omega), up_ne (by omega)]; exact b7) (by rw [up_ne (by omega), up_ne (by omega), up_ne (by omega)]; exact b12) aw (by rw [up_ne (by omega), up_ne (by omega), up_ne (by omega)]; exact b10.trans eF.symm) (Or.inr (Or.inr (Or.inr (Or.inr (Or.inr (Or.inl ⟨hFe, hAF, hDF, by rw [eF]; exact hcv.2, by rw [up_ne (by omega), up_ne (by omega), up_eq], by rw [up_eq, eF], by rw [up_ne (by omega), up_eq, eF]; exact hcv.1⟩)))))), f1⟩))
            · first | have d_170 := bz_0.mp c_170 | have d_170 := bz_1.mp c_170 | skip
              refine jr_aload_n (pc := 173) h dX9_goesOn_173 rfl ?_
              refine jr_iconst (pc := 174) h dX9_goesOn_174 ?_
              refine pf_X9_106 (pc := 175) h dX9_goesOn_175 hOm (by omega) ?_
              refine jm_gen (fun M2 hM2 => ?_)
              rw [fX9_12] at hM2
              have hX := MX_o hX hM2
              have f9 : fr (MXf m) _ M2 := fr_up hM2 ⟨by omega, by omega⟩
              have f1 := fr_tr f1 f9
              obtain ⟨hnm, hOm, hBm⟩ := id hX
              have hgk := gkX hX hgk (by omega)
              have hcI := (chR_i (e := p.1 1) (i := a) (lo := 48) (hi := 57) hbb (by omega)).1 (by omega)
              have hFe : nxF bs p.1 < p.1 1 := by omega
              have hAF : nxA bs p.1 = nxF bs p.1 := by
                unfold nxA
                exact runI_e (fun q => by have := (chR_i (e := p.1 1) (i := nxF bs p.1) (lo := 97) (hi := 122) hbb (by omega)).2 q; rw [eF, ec] at this; omega)
              have lp3 : ∀ (dq3 : Nat) (a k : Int) (M1 : jdM) (g1 : Nat → Int), ((0 ≤ nxF bs p.1 ∧ a = nxF bs p.1 + k ∧ 0 ≤ k) ∧ a ≤ p.1 1 ∧ (a = nxF bs p.1 → 48 ≤ chR bs (p.1 1) a ∧ chR bs (p.1 1) a ≤ 57)) → (MX M1 n m g1 w fl rd B) → (gkp g g1) → (g1 8 = a) → (fr (MXf m) M M1) → (g1 9 = 0) → (g1 10 = nxF bs p.1) → (g1 13 = 0) → (0 ≤ g1 12 ∧ g1 12 ≤ 999) → (runI 48 57 bs (p.1 1) a = nxD bs p.1) → (∀ j : Int, nxF bs p.1 ≤ j → j < a → 48 ≤ bs j.toNat ∧ bs j.toNat ≤ 57) → (a - nxF bs p.1 ≤ 3 → g1 12 = acc 10 48 bs (nxF bs p.1) (a - nxF bs p.1).toNat) → (p.1 1 - a).toNat < dq3 → J κ 3 0 0 n 178 [some (.ref m), some (jI c), some (jI k)] [] M1 := by
                intro dq3
                induction dq3 with
                | zero => intro a k M1 g1 ha hX hgk b8 f1 b9 b10 b13 b12 hr hlt hw1 hd; omega
                | succ dq3 ih3 =>
                  intro a k M1 g1 ha hX hgk b8 f1 b9 b10 b13 b12 hr hlt hw1 hd
                  have b7 : g1 7 = p.1 1 := (hgk 7 (by omega)).trans a7
                  obtain ⟨hnm, hOm, hBm⟩ := id hX
                  refine jr_aload_n (pc := 178) h dX9_goesOn_178 rfl ?_
                  refine jr_aload_n (pc := 179) h dX9_goesOn_179 rfl ?_
                  refine gf_X9_83 (pc := 180) h dX9_goesOn_180 (by assumption) (by omega) ?_
                  show J _ _ _ _ _ _ _ (jI (g1 8) :: _) _
                  rw [b8]
                  refine iv_X9_86 (pc := 183) h hl hR dX9_goesOn_183 ⟨(Nat.le_of_ble_eq_true rfl), (Nat.le_of_ble_eq_true rfl), (Nat.le_of_ble_eq_true rfl), (Nat.le_of_ble_eq_true rfl)⟩ (Nat.le_of_ble_eq_true rfl) (by assumption) (by omega) (s_X9_byteAt hX hbt hbb (i := a) (by omega) (by omega)) (fun v_183 n_183 M_183 hn_183 hp => ?_)
                  obtain ⟨⟨rfl, rfl, rfl⟩, gr_183⟩ := hp
                  rw [b7] at gr_183 ⊢
                  refine iv_X9_103 (pc := 186) h hl hR dX9_goesOn_186 ⟨(Nat.le_of_ble_eq_true rfl), (Nat.le_of_ble_eq_true rfl), (Nat.le_of_ble_eq_true rfl), (Nat.le_of_ble_eq_true rfl)⟩ (Nat.le_of_ble_eq_true rfl) (s_X9_isDigit (by omega)) (fun v_186 n_186 M_186 hn_186 hp => ?_)
                  obtain ⟨⟨rfl, rfl, rfl⟩, gr_186⟩ := hp
                  refine jr_if_eq (pc := 189) h 236 dX9_goesOn_189 (by decide) (by omega) (fun c_189 => ?_) (fun c_189 => ?_)
                  · first | have d_189 := bz_0.mp c_189 | have d_189 := bz_1.mp c_189 | skip
                    refine jr_iload_n (pc := 236) h dX9_goesOn_236 rfl ?_
                    refine jr_iconst (pc := 237) h dX9_goesOn_237 ?_
                    refine jr_icmp_gt (pc := 238) h 281 dX9_goesOn_238 (by decide) (by omega) (by omega) (fun c_238 => ?_) (fun c_238 => ?_)
                    · first | have d_238 := bz_0.mp c_238 | have d_238 := bz_1.mp c_238 | skip
                      refine jr_vret (pc := 281) h hRt dX9_goesOn_281 (Nat.le_of_ble_eq_true rfl) (Nat.le_of_ble_eq_true rfl) ?_
                      have eD : nxD bs p.1 = a := by
                        rw [← hr, runI_e (fun q => by
                          have := (chR_i (e := p.1 1) (i := a) (lo := 48) (hi := 57) hbb (by omega)).2 q
                          contradiction)]
                      first
                      | (refine ⟨⟨rfl, rfl⟩, _, _, hX, hgk, TR_nx h7 h3 hp9 b13 b7 b12 aw b10 (Or.inr (Or.inr (Or.inr (Or.inr (Or.inl ⟨hFe, hAF, by omega, by omega, b9⟩))))), f1⟩
                         done)
                      | (refine ⟨⟨rfl, rfl⟩, _, _, hX, hgk, TR_nx h7 h3 hp9 ((up_ne (by omega)).trans b13) ((up_ne (by omega)).trans b7) (by rw [up_ne (by omega)]; exact b12) aw ((up_ne (by omega)).trans b10) (Or.inr (Or.inr (Or.inr (Or.inl ⟨hFe, hAF, by omega, by omega, up_eq, (up_ne (by omega)).trans (b8.trans eD.symm), by rw [up_ne (by omega), eD]; exact hw1 (by omega)⟩)))), f1⟩)
                    · first | have d_238 := bz_0.mp c_238 | have d_238 := bz_1.mp c_238 | skip
                      refine jr_aload_n (pc := 241) h dX9_goesOn_241 rfl ?_
                      refine jr_iconst (pc := 242) h dX9_goesOn_242 ?_
                      refine pf_X9_80 (pc := 243) h dX9_goesOn_243 hOm (by omega) ?_
                      refine jm_gen (fun M2 hM2 => ?_)
                      rw [fX9_9] at hM2
                      have hX := MX_o hX hM2
                      have f9 : fr (MXf m) _ M2 := fr_up hM2 ⟨by omega, by omega⟩
                      have f1 := fr_tr f1 f9
                      obtain ⟨hnm, hOm, hBm⟩ := id hX
                      have hgk := gkX hX hgk (by omega)
                      refine jr_goto (pc := 246) h 281 dX9_goesOn_246 (by decide) ?_
                      refine jr_vret (pc := 281) h hRt dX9_goesOn_281 (Nat.le_of_ble_eq_true rfl) (Nat.le_of_ble_eq_true rfl) ?_
                      have eD : nxD bs p.1 = a := by
                        rw [← hr, runI_e (fun q => by
                          have := (chR_i (e := p.1 1) (i := a) (lo := 48) (hi := 57) hbb (by omega)).2 q
                          contradiction)]
                      first
                      | (refine ⟨⟨rfl, rfl⟩, _, _, hX, hgk, TR_nx h7 h3 hp9 b13 b7 b12 aw b10 (Or.inr (Or.inr (Or.inr (Or.inr (Or.inl ⟨hFe, hAF, by omega, by omega, b9⟩))))), f1⟩
                         done)
                      | (refine ⟨⟨rfl, rfl⟩, _, _, hX, hgk, TR_nx h7 h3 hp9 ((up_ne (by omega)).trans b13) ((up_ne (by omega)).trans b7) (by rw [up_ne (by omega)]; exact b12) aw ((up_ne (by omega)).trans b10) (Or.inr (Or.inr (Or.inr (Or.inl ⟨hFe, hAF, by omega, by omega, up_eq, (up_ne (by omega)).trans (b8.trans eD.symm), by rw [up_ne (by omega), eD]; exact hw1 (by omega)⟩)))), f1⟩)
                  · first | have d_189 := bz_0.mp c_189 | have d_189 := bz_1.mp c_189 | skip
                    refine jr_iload_n (pc := 192) h dX9_goesOn_192 rfl ?_
                    refine jr_iconst (pc := 193) h dX9_goesOn_193 ?_
                    refine jr_icmp_ge (pc := 194) h 220 dX9_goesOn_194 (by decide) (by omega) (by omega) (fun c_194 => ?_) (fun c_194 => ?_)
                    · first | have d_194 := bz_0.mp c_194 | have d_194 := bz_1.mp c_194 | skip
                      refine jr_iinc (pc := 220) h [_, _, _] dX9_goesOn_220 (by decide) rfl rfl ?_
                      refine jr_aload_n (pc := 223) h dX9_goesOn_223 rfl ?_
                      refine jr_dup (pc := 224) h dX9_goesOn_224 rfl ?_
                      refine gf_X9_83 (pc := 225) h dX9_goesOn_225 (by assumption) (by omega) ?_
                      show J _ _ _ _ _ _ _ (jI (g1 8) :: _) _
                      rw [b8]
                      refine jr_iconst (pc := 228) h dX9_goesOn_228 ?_
                      refine jr_iadd (pc := 229) h dX9_goesOn_229 ?_
                      refine pf_X9_83 (pc := 230) h dX9_goesOn_230 hOm (by omega) ?_
                      refine jm_gen (fun M2 hM2 => ?_)
                      rw [fX9_8] at hM2
                      have hX := MX_o hX hM2
                      have f9 : fr (MXf m) _ M2 := fr_up hM2 ⟨by omega, by omega⟩
                      have f1 := fr_tr f1 f9
                      obtain ⟨hnm, hOm, hBm⟩ := id hX
                      have hgk := gkX hX hgk (by omega)
                      refine jr_goto (pc := 233) h 178 dX9_goesOn_233 (by decide) ?_
                      have hin := (chR_i (e := p.1 1) (i := a) (lo := 48) (hi := 57) hbb (by omega)).1 (by assumption)
                      have hcb : chR bs (p.1 1) a = bs a.toNat := by unfold chR; rw [if_pos hin.1]; omega
                      have hrs := runI_s (lo := 48) (hi := 57) hin.1 hin.2
                      have hal := acc_s (B := 10) (c := 48) (bs := bs) (f := nxF bs p.1) (t := a) (by omega)
                      have hlt' : ∀ j : Int, nxF bs p.1 ≤ j → j < a + 1 → 48 ≤ bs j.toNat ∧ bs j.toNat ≤ 57 := fun j h1 h2 => by
                        by_cases q : j < a
                        · exact hlt j h1 q
                        · rw [show j = a by omega]; exact hin.2
                      have hvb := tokV_b (bs := bs) (f := nxF bs p.1) (d := a + 1)
                      first
                      | (refine ih3 _ _ _ _ (by omega) hX hgk (up_eq) f1 (by rw [up_ne (by omega), up_ne (by omega)]; exact b9) (by rw [up_ne (by omega), up_ne (by omega)]; exact b10) (by rw [up_ne (by omega), up_ne (by omega)]; exact b13) ?_ (by rw [← hrs]; exact hr) hlt' (fun hq => ?_) (by omega)
                         · rw [up_ne (by omega), up_eq]
                           have := hvb (by omega) hlt'
                           rw [hal] at this
                           rw [hw1 (by omega), hcb]
                           omega
                         · rw [up_ne (by omega), up_eq, hal, hw1 (by omega), hcb]; omega)
                      | (refine ih3 _ _ _ _ (by omega) hX hgk (up_eq) f1 ((up_ne (by omega)).trans b9) ((up_ne (by omega)).trans b10) ((up_ne (by omega)).trans b13) (by rw [up_ne (by omega)]; exact b12) (by rw [← hrs]; exact hr) hlt' (fun hq => by omega) (by omega))
                    · first | have d_194 := bz_0.mp c_194 | have d_194 := bz_1.mp c_194 | skip
                      refine jr_aload_n (pc := 197) h dX9_goesOn_197 rfl ?_
                      refine jr_bipush (pc := 198) h dX9_goesOn_198 bp_10 ?_
                      refine jr_aload_n (pc := 200) h dX9_goesOn_200 rfl ?_
                      refine gf_X9_106 (pc := 201) h dX9_goesOn_201 (by assumption) (by omega) ?_
                      skip
                      refine jr_imul (pc := 204) h dX9_goesOn_204 ?_
                      refine jr_aload_n (pc := 205) h dX9_goesOn_205 rfl ?_
                      refine jr_aload_n (pc := 206) h dX9_goesOn_206 rfl ?_
                      refine gf_X9_83 (pc := 207) h dX9_goesOn_207 (by assumption) (by omega) ?_
                      show J _ _ _ _ _ _ _ (jI (g1 8) :: _) _
                      rw [b8]
                      refine iv_X9_86 (pc := 210) h hl hR dX9_goesOn_210 ⟨(Nat.le_of_ble_eq_true rfl), (Nat.le_of_ble_eq_true rfl), (Nat.le_of_ble_eq_true rfl), (Nat.le_of_ble_eq_true rfl)⟩ (Nat.le_of_ble_eq_true rfl) (by assumption) (by omega) (s_X9_byteAt hX hbt hbb (i := a) (by omega) (by omega)) (fun v_210 n_210 M_210 hn_210 hp => ?_)
                      obtain ⟨⟨rfl, rfl, rfl⟩, gr_210⟩ := hp
                      rw [b7] at gr_210 ⊢
                      skip
                      refine jr_iadd (pc := 213) h dX9_goesOn_213 ?_
                      refine jr_bipush (pc := 214) h dX9_goesOn_214 bp_48 ?_
                      skip
                      refine jr_isub (pc := 216) h dX9_goesOn_216 ?_
                      refine pf_X9_106 (pc := 217) h dX9_goesOn_217 hOm (by omega) ?_
                      refine jm_gen (fun M2 hM2 => ?_)
                      rw [fX9_12] at hM2
                      have hX := MX_o hX hM2
                      have f9 : fr (MXf m) _ M2 := fr_up hM2 ⟨by omega, by omega⟩
                      have f1 := fr_tr f1 f9
                      obtain ⟨hnm, hOm, hBm⟩ := id hX
                      have hgk := gkX hX hgk (by omega)
                      refine jr_iinc (pc := 220) h [_, _, _] dX9_goesOn_220 (by decide) rfl rfl ?_
                      refine jr_aload_n (pc := 223) h dX9_goesOn_223 rfl ?_
                      refine jr_dup (pc := 224) h dX9_goesOn_224 rfl ?_
                      refine gf_X9_83 (pc := 225) h dX9_goesOn_225 (by assumption) (by omega) ?_
                      show J _ _ _ _ _ _ _ (jI (g1 8) :: _) _
                      rw [b8]
                      refine jr_iconst (pc := 228) h dX9_goesOn_228 ?_
                      refine jr_iadd (pc := 229) h dX9_goesOn_229 ?_
                      refine pf_X9_83 (pc := 230) h dX9_goesOn_230 hOm (by omega) ?_
                      refine jm_gen (fun M2 hM2 => ?_)
                      rw [fX9_8] at hM2
                      have hX := MX_o hX hM2
                      have f9 : fr (MXf m) _ M2 := fr_up hM2 ⟨by omega, by omega⟩
                      have f1 := fr_tr f1 f9
                      obtain ⟨hnm, hOm, hBm⟩ := id hX
                      have hgk := gkX hX hgk (by omega)
                      refine jr_goto (pc := 233) h 178 dX9_goesOn_233 (by decide) ?_
                      have hin := (chR_i (e := p.1 1) (i := a) (lo := 48) (hi := 57) hbb (by omega)).1 (by assumption)
                      have hcb : chR bs (p.1 1) a = bs a.toNat := by unfold chR; rw [if_pos hin.1]; omega
                      have hrs := runI_s (lo := 48) (hi := 57) hin.1 hin.2
                      have hal := acc_s (B := 10) (c := 48) (bs := bs) (f := nxF bs p.1) (t := a) (by omega)
                      have hlt' : ∀ j : Int, nxF bs p.1 ≤ j → j < a + 1 → 48 ≤ bs j.toNat ∧ bs j.toNat ≤ 57 := fun j h1 h2 => by
                        by_cases q : j < a
                        · exact hlt j h1 q
                        · rw [show j = a by omega]; exact hin.2
                      have hvb := tokV_b (bs := bs) (f := nxF bs p.1) (d := a + 1)
                      first
                      | (refine ih3 _ _ _ _ (by omega) hX hgk (up_eq) f1 (by rw [up_ne (by omega), up_ne (by omega)]; exact b9) (by rw [up_ne (by omega), up_ne (by omega)]; exact b10) (by rw [up_ne (by omega), up_ne (by omega)]; exact b13) ?_ (by rw [← hrs]; exact hr) hlt' (fun hq => ?_) (by omega)
                         · rw [up_ne (by omega), up_eq]
                           have := hvb (by omega) hlt'
                           rw [hal] at this
                           rw [hw1 (by omega), hcb]
                           omega
                         · rw [up_ne (by omega), up_eq, hal, hw1 (by omega), hcb]; omega)
                      | (refine ih3 _ _ _ _ (by omega) hX hgk (up_eq) f1 ((up_ne (by omega)).trans b9) ((up_ne (by omega)).trans b10) ((up_ne (by omega)).trans b13) (by rw [up_ne (by omega)]; exact b12) (by rw [← hrs]; exact hr) hlt' (fun hq => by omega) (by omega))
              exact lp3 _ a 0 _ _ (by rw [ec]; omega) hX hgk ((up_ne (by omega)).trans b8) f1 ((up_ne (by omega)).trans b9) ((up_ne (by omega)).trans (b10.trans eF.symm)) ((up_ne (by omega)).trans b13) (by rw [up_eq]; omega) (by rw [← eF]; rfl) (fun j h1 h2 => by omega) (fun _ => by rw [up_eq, acc_0 (by omega)]) (Nat.lt_succ_self _)
          · first | have d_81 := bz_0.mp c_81 | have d_81 := bz_1.mp c_81 | skip
            skip
            refine jr_aload_n (pc := 84) h dX9_goesOn_84 rfl ?_
            refine jr_lconst (pc := 85) h dX9_goesOn_85 ?_
            refine pf_X9_99 (pc := 86) h dX9_goesOn_86 hOm (by omega) ?_
            refine jm_gen (fun M2 hM2 => ?_)
            rw [fX9_15] at hM2
            have hX := MX_o hX hM2
            have f9 : fr (MXf m) _ M2 := fr_up hM2 ⟨by omega, by omega⟩
            have f1 := fr_tr f1 f9
            obtain ⟨hnm, hOm, hBm⟩ := id hX
            have hcI := (chR_i (e := p.1 1) (i := a) (lo := 97) (hi := 122) hbb (by omega)).1 (by omega)
            have hFe : nxF bs p.1 < p.1 1 := by omega
            have lp2 : ∀ (dq2 : Nat) (a k : Int) (M1 : jdM) (g1 : Nat → Int) (w1 : Int), ((0 ≤ nxF bs p.1 ∧ a = nxF bs p.1 + k ∧ 0 ≤ k) ∧ a ≤ p.1 1 ∧ (a = nxF bs p.1 → 97 ≤ chR bs (p.1 1) a ∧ chR bs (p.1 1) a ≤ 122)) → (MX M1 n m g1 w1 fl rd B) → (gkp g g1) → (g1 8 = a) → (fr (MXf m) M M1) → (g1 9 = 0) → (g1 10 = nxF bs p.1) → (g1 13 = 0) → (0 ≤ g1 12 ∧ g1 12 ≤ 999) → (runI 97 122 bs (p.1 1) a = nxA bs p.1) → (∀ j : Nat, (j : Int) < a - nxF bs p.1 → 97 ≤ bs ((nxF bs p.1).toNat + j) ∧ bs ((nxF bs p.1).toNat + j) ≤ 122) → (a - nxF bs p.1 ≤ 8 → w1 = acc 32 96 bs (nxF bs p.1) (a - nxF bs p.1).toNat) → (0 ≤ w1 ∧ w1 < 1099511627776) → (p.1 1 - a).toNat < dq2 → J κ 3 0 0 n 89 [some (.ref m), some (jI c), some (jI k)] [] M1 := by
              intro dq2
              induction dq2 with
              | zero => intro a k M1 g1 w1 ha hX hgk b8 f1 b9 b10 b13 b12 hr hlt hw1 hwr hd; omega
              | succ dq2 ih2 =>
                intro a k M1 g1 w1 ha hX hgk b8 f1 b9 b10 b13 b12 hr hlt hw1 hwr hd
                have b7 : g1 7 = p.1 1 := (hgk 7 (by omega)).trans a7
                obtain ⟨hnm, hOm, hBm⟩ := id hX
                refine jr_aload_n (pc := 89) h dX9_goesOn_89 rfl ?_
                refine jr_aload_n (pc := 90) h dX9_goesOn_90 rfl ?_
                refine gf_X9_83 (pc := 91) h dX9_goesOn_91 (by assumption) (by omega) ?_
                show J _ _ _ _ _ _ _ (jI (g1 8) :: _) _
                rw [b8]
                refine iv_X9_86 (pc := 94) h hl hR dX9_goesOn_94 ⟨(Nat.le_of_ble_eq_true rfl), (Nat.le_of_ble_eq_true rfl), (Nat.le_of_ble_eq_true rfl), (Nat.le_of_ble_eq_true rfl)⟩ (Nat.le_of_ble_eq_true rfl) (by assumption) (by omega) (s_X9_byteAt hX hbt hbb (i := a) (by omega) (by omega)) (fun v_94 n_94 M_94 hn_94 hp => ?_)
                obtain ⟨⟨rfl, rfl, rfl⟩, gr_94⟩ := hp
                rw [b7] at gr_94 ⊢
                refine iv_X9_95 (pc := 97) h hl hR dX9_goesOn_97 ⟨(Nat.le_of_ble_eq_true rfl), (Nat.le_of_ble_eq_true rfl), (Nat.le_of_ble_eq_true rfl), (Nat.le_of_ble_eq_true rfl)⟩ (Nat.le_of_ble_eq_true rfl) (s_X9_isLetter (by omega)) (fun v_97 n_97 M_97 hn_97 hp => ?_)
                obtain ⟨⟨rfl, rfl, rfl⟩, gr_97⟩ := hp
                refine jr_if_eq (pc := 100) h 152 dX9_goesOn_100 (by decide) (by omega) (fun c_100 => ?_) (fun c_100 => ?_)
                · first | have d_100 := bz_0.mp c_100 | have d_100 := bz_1.mp c_100 | skip
                  refine jr_iload_n (pc := 152) h dX9_goesOn_152 rfl ?_
                  refine jr_bipush (pc := 153) h dX9_goesOn_153 bp_8 ?_
                  refine jr_icmp_gt (pc := 155) h 281 dX9_goesOn_155 (by decide) (by omega) (by omega) (fun c_155 => ?_) (fun c_155 => ?_)
                  · first | have d_155 := bz_0.mp c_155 | have d_155 := bz_1.mp c_155 | skip
                    refine jr_vret (pc := 281) h hRt dX9_goesOn_281 (Nat.le_of_ble_eq_true rfl) (Nat.le_of_ble_eq_true rfl) ?_
                    have eA : nxA bs p.1 = a := by
                      rw [← hr, runI_e (fun q => by
                        have := (chR_i (e := p.1 1) (i := a) (lo := 97) (hi := 122) hbb (by omega)).2 q
                        contradiction)]
                    first
                    | (refine ⟨⟨rfl, rfl⟩, _, _, hX, hgk, TR_nx h7 h3 hp9 b13 b7 b12 hwr b10 (Or.inr (Or.inr (Or.inl ⟨hFe, by omega, by omega, b9⟩))), f1⟩
                       done)
                    | (refine ⟨⟨rfl, rfl⟩, _, _, hX, hgk, TR_nx h7 h3 hp9 ((up_ne (by omega)).trans b13) ((up_ne (by omega)).trans b7) (by rw [up_ne (by omega)]; exact b12) hwr ((up_ne (by omega)).trans b10) (Or.inr (Or.inl ⟨hFe, by omega, by omega, up_eq, (up_ne (by omega)).trans (b8.trans eA.symm), by rw [eA]; exact hw1 (by omega)⟩)), f1⟩)
                  · first | have d_155 := bz_0.mp c_155 | have d_155 := bz_1.mp c_155 | skip
                    refine jr_aload_n (pc := 158) h dX9_goesOn_158 rfl ?_
                    refine jr_iconst (pc := 159) h dX9_goesOn_159 ?_
                    refine pf_X9_80 (pc := 160) h dX9_goesOn_160 hOm (by omega) ?_
                    refine jm_gen (fun M2 hM2 => ?_)
                    rw [fX9_9] at hM2
                    have hX := MX_o hX hM2
                    have f9 : fr (MXf m) _ M2 := fr_up hM2 ⟨by omega, by omega⟩
                    have f1 := fr_tr f1 f9
                    obtain ⟨hnm, hOm, hBm⟩ := id hX
                    have hgk := gkX hX hgk (by omega)
                    refine jr_goto (pc := 163) h 281 dX9_goesOn_163 (by decide) ?_
                    refine jr_vret (pc := 281) h hRt dX9_goesOn_281 (Nat.le_of_ble_eq_true rfl) (Nat.le_of_ble_eq_true rfl) ?_
                    have eA : nxA bs p.1 = a := by
                      rw [← hr, runI_e (fun q => by
                        have := (chR_i (e := p.1 1) (i := a) (lo := 97) (hi := 122) hbb (by omega)).2 q
                        contradiction)]
                    first
                    | (refine ⟨⟨rfl, rfl⟩, _, _, hX, hgk, TR_nx h7 h3 hp9 b13 b7 b12 hwr b10 (Or.inr (Or.inr (Or.inl ⟨hFe, by omega, by omega, b9⟩))), f1⟩
                       done)
                    | (refine ⟨⟨rfl, rfl⟩, _, _, hX, hgk, TR_nx h7 h3 hp9 ((up_ne (by omega)).trans b13) ((up_ne (by omega)).trans b7) (by rw [up_ne (by omega)]; exact b12) hwr ((up_ne (by omega)).trans b10) (Or.inr (Or.inl ⟨hFe, by omega, by omega, up_eq, (up_ne (by omega)).trans (b8.trans eA.symm), by rw [eA]; exact hw1 (by omega)⟩)), f1⟩)
                · first | have d_100 := bz_0.mp c_100 | have d_100 := bz_1.mp c_100 | skip
                  refine jr_iload_n (pc := 103) h dX9_goesOn_103 rfl ?_
                  refine jr_bipush (pc := 104) h dX9_goesOn_104 bp_8 ?_
                  refine jr_icmp_ge (pc := 106) h 136 dX9_goesOn_106 (by decide) (by omega) (by omega) (fun c_106 => ?_) (fun c_106 => ?_)
                  · first | have d_106 := bz_0.mp c_106 | have d_106 := bz_1.mp c_106 | skip
                    refine jr_iinc (pc := 136) h [_, _, _] dX9_goesOn_136 (by decide) rfl rfl ?_
                    refine jr_aload_n (pc := 139) h dX9_goesOn_139 rfl ?_
                    refine jr_dup (pc := 140) h dX9_goesOn_140 rfl ?_
                    refine gf_X9_83 (pc := 141) h dX9_goesOn_141 (by assumption) (by omega) ?_
                    show J _ _ _ _ _ _ _ (jI (g1 8) :: _) _
                    rw [b8]
                    refine jr_iconst (pc := 144) h dX9_goesOn_144 ?_
                    refine jr_iadd (pc := 145) h dX9_goesOn_145 ?_
                    refine pf_X9_83 (pc := 146) h dX9_goesOn_146 hOm (by omega) ?_
                    refine jm_gen (fun M2 hM2 => ?_)
                    rw [fX9_8] at hM2
                    have hX := MX_o hX hM2
                    have f9 : fr (MXf m) _ M2 := fr_up hM2 ⟨by omega, by omega⟩
                    have f1 := fr_tr f1 f9
                    obtain ⟨hnm, hOm, hBm⟩ := id hX
                    have hgk := gkX hX hgk (by omega)
                    refine jr_goto (pc := 149) h 89 dX9_goesOn_149 (by decide) ?_
                    have hin := (chR_i (e := p.1 1) (i := a) (lo := 97) (hi := 122) hbb (by omega)).1 (by assumption)
                    have hcb : chR bs (p.1 1) a = bs a.toNat := by unfold chR; rw [if_pos hin.1]; omega
                    have hrs := runI_s (lo := 97) (hi := 122) hin.1 hin.2
                    have hpw := acc_32 (f := nxF bs p.1) (bs := bs) (a + 1 - nxF bs p.1).toNat
                    have hal := acc_s (B := 32) (c := 96) (bs := bs) (f := nxF bs p.1) (t := a) (by omega)
                    have hlt' : ∀ j : Nat, (j : Int) < a + 1 - nxF bs p.1 → 97 ≤ bs ((nxF bs p.1).toNat + j) ∧ bs ((nxF bs p.1).toNat + j) ≤ 122 := fun j hj => by
                      by_cases q : (j : Int) < a - nxF bs p.1
                      · exact hlt j q
                      · rw [show (nxF bs p.1).toNat + j = a.toNat by omega]; exact hin.2
                    first
                    | (refine ih2 _ _ _ _ _ (by omega) hX hgk (up_eq) f1 ((up_ne (by omega)).trans b9) ((up_ne (by omega)).trans b10) ((up_ne (by omega)).trans b13) (by rw [up_ne (by omega)]; exact b12) (by rw [← hrs]; exact hr) hlt' (fun hq => ?_) ?_ (by omega)
                       · rw [hal, hw1 (by omega), hcb]; omega
                       · have := hpw (by omega) (fun j hj => hlt' j (by omega))
                         have h32 := p32 (k := (a + 1 - nxF bs p.1).toNat) (by omega)
                         rw [hal] at this
                         rw [hw1 (by omega), hcb]
                         omega)
                    | (refine ih2 _ _ _ _ _ (by omega) hX hgk (up_eq) f1 ((up_ne (by omega)).trans b9) ((up_ne (by omega)).trans b10) ((up_ne (by omega)).trans b13) (by rw [up_ne (by omega)]; exact b12) (by rw [← hrs]; exact hr) hlt' (fun hq => by omega) hwr (by omega))
                  · first | have d_106 := bz_0.mp c_106 | have d_106 := bz_1.mp c_106 | skip
                    refine jr_aload_n (pc := 109) h dX9_goesOn_109 rfl ?_
                    refine jr_ldc2 (pc := 110) h dX9_goesOn_110 wm_463 ?_
                    rw [show (32 : Int64) = Int64.ofInt 32 from by decide]
                    refine jr_aload_n (pc := 113) h dX9_goesOn_113 rfl ?_
                    refine gf_X9_99 (pc := 114) h dX9_goesOn_114 (by assumption) (by omega) ?_
                    refine jr_lmul (pc := 117) h dX9_goesOn_117 ?_
                    refine jr_aload_n (pc := 118) h dX9_goesOn_118 rfl ?_
                    refine jr_aload_n (pc := 119) h dX9_goesOn_119 rfl ?_
                    refine gf_X9_83 (pc := 120) h dX9_goesOn_120 (by assumption) (by omega) ?_
                    show J _ _ _ _ _ _ _ (jI (g1 8) :: _) _
                    rw [b8]
                    refine iv_X9_86 (pc := 123) h hl hR dX9_goesOn_123 ⟨(Nat.le_of_ble_eq_true rfl), (Nat.le_of_ble_eq_true rfl), (Nat.le_of_ble_eq_true rfl), (Nat.le_of_ble_eq_true rfl)⟩ (Nat.le_of_ble_eq_true rfl) (by assumption) (by omega) (s_X9_byteAt hX hbt hbb (i := a) (by omega) (by omega)) (fun v_123 n_123 M_123 hn_123 hp => ?_)
                    obtain ⟨⟨rfl, rfl, rfl⟩, gr_123⟩ := hp
                    rw [b7] at gr_123 ⊢
                    refine jr_bipush (pc := 126) h dX9_goesOn_126 bp_97 ?_
                    refine jr_isub (pc := 128) h dX9_goesOn_128 ?_
                    refine jr_iconst (pc := 129) h dX9_goesOn_129 ?_
                    refine jr_iadd (pc := 130) h dX9_goesOn_130 ?_
                    refine jr_i2l (pc := 131) h dX9_goesOn_131 (by omega) ?_
                    refine jr_ladd (pc := 132) h dX9_goesOn_132 ?_
                    refine pf_X9_99 (pc := 133) h dX9_goesOn_133 hOm (by omega) ?_
                    refine jm_gen (fun M2 hM2 => ?_)
                    rw [fX9_15] at hM2
                    have hX := MX_o hX hM2
                    have f9 : fr (MXf m) _ M2 := fr_up hM2 ⟨by omega, by omega⟩
                    have f1 := fr_tr f1 f9
                    obtain ⟨hnm, hOm, hBm⟩ := id hX
                    refine jr_iinc (pc := 136) h [_, _, _] dX9_goesOn_136 (by decide) rfl rfl ?_
                    refine jr_aload_n (pc := 139) h dX9_goesOn_139 rfl ?_
                    refine jr_dup (pc := 140) h dX9_goesOn_140 rfl ?_
                    refine gf_X9_83 (pc := 141) h dX9_goesOn_141 (by assumption) (by omega) ?_
                    show J _ _ _ _ _ _ _ (jI (g1 8) :: _) _
                    rw [b8]
                    refine jr_iconst (pc := 144) h dX9_goesOn_144 ?_
                    refine jr_iadd (pc := 145) h dX9_goesOn_145 ?_
                    refine pf_X9_83 (pc := 146) h dX9_goesOn_146 hOm (by omega) ?_
                    refine jm_gen (fun M2 hM2 => ?_)
                    rw [fX9_8] at hM2
                    have hX := MX_o hX hM2
                    have f9 : fr (MXf m) _ M2 := fr_up hM2 ⟨by omega, by omega⟩
                    have f1 := fr_tr f1 f9
                    obtain ⟨hnm, hOm, hBm⟩ := id hX
                    have hgk := gkX hX hgk (by omega)
                    refine jr_goto (pc := 149) h 89 dX9_goesOn_149 (by decide) ?_
                    have hin := (chR_i (e := p.1 1) (i := a) (lo := 97) (hi := 122) hbb (by omega)).1 (by assumption)
                    have hcb : chR bs (p.1 1) a = bs a.toNat := by unfold chR; rw [if_pos hin.1]; omega
                    have hrs := runI_s (lo := 97) (hi := 122) hin.1 hin.2
                    have hpw := acc_32 (f := nxF bs p.1) (bs := bs) (a + 1 - nxF bs p.1).toNat
                    have hal := acc_s (B := 32) (c := 96) (bs := bs) (f := nxF bs p.1) (t := a) (by omega)
                    have hlt' : ∀ j : Nat, (j : Int) < a + 1 - nxF bs p.1 → 97 ≤ bs ((nxF bs p.1).toNat + j) ∧ bs ((nxF bs p.1).toNat + j) ≤ 122 := fun j hj => by
                      by_cases q : (j : Int) < a - nxF bs p.1
                      · exact hlt j q
                      · rw [show (nxF bs p.1).toNat + j = a.toNat by omega]; exact hin.2
                    first
                    | (refine ih2 _ _ _ _ _ (by omega) hX hgk (up_eq) f1 ((up_ne (by omega)).trans b9) ((up_ne (by omega)).trans b10) ((up_ne (by omega)).trans b13) (by rw [up_ne (by omega)]; exact b12) (by rw [← hrs]; exact hr) hlt' (fun hq => ?_) ?_ (by omega)
                       · rw [hal, hw1 (by omega), hcb]; omega
                       · have := hpw (by omega) (fun j hj => hlt' j (by omega))
                         have h32 := p32 (k := (a + 1 - nxF bs p.1).toNat) (by omega)
                         rw [hal] at this
                         rw [hw1 (by omega), hcb]
                         omega)
                    | (refine ih2 _ _ _ _ _ (by omega) hX hgk (up_eq) f1 ((up_ne (by omega)).trans b9) ((up_ne (by omega)).trans b10) ((up_ne (by omega)).trans b13) (by rw [up_ne (by omega)]; exact b12) (by rw [← hrs]; exact hr) hlt' (fun hq => by omega) hwr (by omega))
            exact lp2 _ a 0 _ _ _ (by rw [ec]; omega) hX hgk b8 f1 b9 (b10.trans eF.symm) b13 b12 (by rw [← eF]; rfl) (fun j hj => by omega) (fun _ => by rw [acc_0 (by omega)]; rfl) (by omega) (Nat.lt_succ_self _)
        · first | have d_66 := bz_0.mp c_66 | have d_66 := bz_1.mp c_66 | skip
          refine jr_aload_n (pc := 69) h dX9_goesOn_69 rfl ?_
          refine jr_iconst (pc := 70) h dX9_goesOn_70 ?_
          refine pf_X9_80 (pc := 71) h dX9_goesOn_71 hOm (by omega) ?_
          refine jm_gen (fun M2 hM2 => ?_)
          rw [fX9_9] at hM2
          have hX := MX_o hX hM2
          have f9 : fr (MXf m) _ M2 := fr_up hM2 ⟨by omega, by omega⟩
          have f1 := fr_tr f1 f9
          obtain ⟨hnm, hOm, hBm⟩ := id hX
          have hgk := gkX hX hgk (by omega)
          refine jr_goto (pc := 74) h 281 dX9_goesOn_74 (by decide) ?_
          refine jr_vret (pc := 281) h hRt dX9_goesOn_281 (Nat.le_of_ble_eq_true rfl) (Nat.le_of_ble_eq_true rfl) ?_
          first
          | (have hFe : ¬ nxF bs p.1 < p.1 1 := by omega
             refine ⟨⟨rfl, rfl⟩, _, _, hX, hgk, TR_nx h7 h3 hp9 ((up_ne (by omega)).trans b13) ((up_ne (by omega)).trans b7) (by rw [up_ne (by omega)]; exact b12) aw ((up_ne (by omega)).trans (b10.trans eF.symm)) (Or.inl ⟨hFe, up_eq, (up_ne (by omega)).trans (b8.trans eF.symm)⟩), f1⟩)
          | (have hFe : nxF bs p.1 < p.1 1 := by omega
             have hAF : nxA bs p.1 = nxF bs p.1 := by
               unfold nxA
               exact runI_e (fun q => by have := (chR_i (e := p.1 1) (i := nxF bs p.1) (lo := 97) (hi := 122) hbb (by omega)).2 q; rw [eF, ec] at this; omega)
             have hDF : nxD bs p.1 = nxF bs p.1 := by
               unfold nxD
               exact runI_e (fun q => by have := (chR_i (e := p.1 1) (i := nxF bs p.1) (lo := 48) (hi := 57) hbb (by omega)).2 q; rw [eF, ec] at this; omega)
             have q59 := (chR_e (e := p.1 1) (i := nxF bs p.1) (v := 59) hbb (by omega))
             have q44 := (chR_e (e := p.1 1) (i := nxF bs p.1) (v := 44) hbb (by omega))
             rw [eF, ec] at q59 q44
             first
             | (refine ⟨⟨rfl, rfl⟩, _, _, hX, hgk, TR_nx h7 h3 hp9 b13 b7 b12 aw (b10.trans eF.symm) (Or.inr (Or.inr (Or.inr (Or.inr (Or.inr (Or.inr ⟨hFe, hAF, hDF, ?_, b9⟩)))))), f1⟩
                rw [eF]
                rintro (q | q)
                · have := q59.2 ⟨by omega, q⟩; omega
                · have := q44.2 ⟨by omega, q⟩; omega)
             | (have hcv : c = bs a.toNat ∧ (bs a.toNat = 59 ∨ bs a.toNat = 44) := by
                  rcases (show c = 59 ∨ c = 44 by omega) with q | q
                  · have := q59.1 q; omega
                  · have := q44.1 q; omega
                refine ⟨⟨rfl, rfl⟩, _, _, hX, hgk, TR_nx h7 h3 hp9 (by rw [up_ne (by omega), up_ne (by omega), up_ne (by omega)]; exact b13) (by rw [up_ne (by omega), up_ne (by omega), up_ne (by omega)]; exact b7) (by rw [up_ne (by omega), up_ne (by omega), up_ne (by omega)]; exact b12) aw (by rw [up_ne (by omega), up_ne (by omega), up_ne (by omega)]; exact b10.trans eF.symm) (Or.inr (Or.inr (Or.inr (Or.inr (Or.inr (Or.inl ⟨hFe, hAF, hDF, by rw [eF]; exact hcv.2, by rw [up_ne (by omega), up_ne (by omega), up_eq], by rw [up_eq, eF], by rw [up_ne (by omega), up_eq, eF]; exact hcv.1⟩)))))), f1⟩))
      · first | have d_19 := bz_0.mp c_19 | have d_19 := bz_1.mp c_19 | skip
        refine jr_aload_n (pc := 22) h dX9_goesOn_22 rfl ?_
        refine jr_dup (pc := 23) h dX9_goesOn_23 rfl ?_
        refine gf_X9_83 (pc := 24) h dX9_goesOn_24 (by assumption) (by omega) ?_
        show J _ _ _ _ _ _ _ (jI (g1 8) :: _) _
        rw [b8]
        refine jr_iconst (pc := 27) h dX9_goesOn_27 ?_
        refine jr_iadd (pc := 28) h dX9_goesOn_28 ?_
        refine pf_X9_83 (pc := 29) h dX9_goesOn_29 hOm (by omega) ?_
        refine jm_gen (fun M2 hM2 => ?_)
        rw [fX9_8] at hM2
        have hX := MX_o hX hM2
        have f9 : fr (MXf m) _ M2 := fr_up hM2 ⟨by omega, by omega⟩
        have f1 := fr_tr f1 f9
        obtain ⟨hnm, hOm, hBm⟩ := id hX
        have hgk := gkX hX hgk (by omega)
        refine jr_goto (pc := 32) h 9 dX9_goesOn_32 (by decide) ?_
        have hin := (chR_i (e := p.1 1) (i := a) (lo := 32) (hi := 32) hbb (by omega)).1 (by omega)
        have hrs := runI_s (lo := 32) (hi := 32) hin.1 hin.2
        refine ih1 _ _ _ (by omega) hX hgk up_eq f1 ((up_ne (by omega)).trans b13) (by rw [up_ne (by omega)]; exact b12) (by rw [up_ne (by omega)]; exact b9) (by rw [← hrs]; exact hr) (by omega)
  exact lp1 _ (p.1 3) _ _ (by omega) hX gkp_r a8 fr_rf a13 a12 a9 rfl (Nat.lt_succ_self _)
set_option maxHeartbeats 1000000 in
set_option maxRecDepth 20000 in
theorem s_X9_goesOn_f {l : Launch} {n : Nat} {M : jdM} {m : Nat} {g : Nat → Int} {w : Int} {fl rd : Value} {B : Nat → Nat → Int} (hX : MX M n m g w fl rd B) (h9 : g 9 = 5) : Ct l yX9_goesOn cX9_goesOn 3 none rX9_goesOn [.ref m] n M (fun vv n' M' => vv = none ∧ n = n' ∧ M = M') := by
  refine Ct_of [some (.ref m), none, none] (by decide) (Nat.le_of_ble_eq_true rfl) rfl (fun κ hl h hR hRt hmn hn0 => ?_)
  have h : Ok κ RX9 cX9_goesOn 3 none := h
  obtain ⟨hnm, hOm, hBm⟩ := id hX
  have hOm : M m = jdO 9 (fX9 m _ _ fl rd) := hOm
  refine jr_aload_n (pc := 0) h dX9_goesOn_0 rfl ?_
  refine gf_X9_80 (pc := 1) h dX9_goesOn_1 (by assumption) (by omega) ?_
  refine jr_iconst (pc := 4) h dX9_goesOn_4 ?_
  refine jr_icmp_ne (pc := 5) h 9 dX9_goesOn_5 (by decide) (by omega) (by omega) (fun c => absurd h9 c) (fun _ => ?_)
  refine jr_vret (pc := 8) h hRt dX9_goesOn_8 (Nat.le_of_ble_eq_true rfl) (Nat.le_of_ble_eq_true rfl) ?_
  exact ⟨rfl, rfl, rfl⟩
