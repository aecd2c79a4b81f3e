/-! 60: the reference: who gets what -/
set_option maxHeartbeats 1000000 in
set_option maxRecDepth 20000 in
theorem s_X9_likedIn {l : Launch} {n : Nat} {M : jdM} {m f : Nat} {g : Nat → Int} {wd : Int} {rd : Value} {B : Nat → Nat → Int} {b0 w : Nat → Int} {ρ τ : Nat} (hX : MX M n m g wd (.ref f) rd (up B 3 (rbX b0 ρ τ w))) {ct td bk si ld gf : Nat → Int} {A : Nat → Nat → Int} (hMF : MF M n f gf A) (hFM : FM ct td bk si ld gf A) (hsep : f + 30 < m ∨ m + 12 < f) (hρ : 1 ≤ ρ ∧ ρ ≤ 40) (hτ : τ ≤ 1) (hb : 0 ≤ (c_blk bk (ρ : Int))) (hw13 : 0 ≤ w 13 ∧ w 13 ≤ 65536) : Ct l yX9_likedIn cX9_likedIn 5 (some .int) rX9_likedIn [.ref m, jI (c_blk bk (ρ : Int))] n M (fun vv n' M' => (vv = some (jI (c_liked td bk ρ (((75 * w 13 + 74) % 65537) % max 1 (c_weights td bk (ρ : Int))))) ∧ n = n') ∧ MX M' n m g wd (.ref f) rd (up B 3 (rbX b0 ρ τ (up w 13 ((75 * w 13 + 74) % 65537)))) ∧ fr (MXf m) M M') := by
  refine Ct_of [some (.ref m), some (jI (c_blk bk (ρ : Int))), none, none, none] (by decide) (Nat.le_of_ble_eq_true rfl) rfl (fun κ hl h hR hRt hmn hn0 => ?_)
  have h : Ok κ RX9 cX9_likedIn 5 (some .int) := h
  obtain ⟨hnf, hOf, hAf⟩ := id hMF
  obtain ⟨⟨e0, e1, e2, e3, e4⟩, ⟨k5, k6, k7, k8, k9, k10, k11, k12, k13, k14, k15⟩, ⟨a2, a3, a4, a5, a6, a7, a8, a9, a10, a11, a12⟩, ⟨hlim, hLI, hends, hrt⟩, ⟨hbk, hld⟩, hc0, hc1, hc2, hc5⟩ := id hFM
  have l2 := hlim 2 (by omega)
  have l3 := hlim 3 (by omega)
  have l4 := hlim 4 (by omega)
  have l5 := hlim 5 (by omega)
  have l6 := hlim 6 (by omega)
  have l7 := hlim 7 (by omega)
  have l8 := hlim 8 (by omega)
  have l9 := hlim 9 (by omega)
  have l10 := hlim 10 (by omega)
  have l11 := hlim 11 (by omega)
  have l12 := hlim 12 (by omega)
  rw [show (jtab 0).2.2 2 = 4 from rfl] at l2
  rw [show (jtab 0).2.2 3 = 6 from rfl] at l3
  rw [show (jtab 0).2.2 4 = 6 from rfl] at l4
  rw [show (jtab 0).2.2 5 = 2 from rfl] at l5
  rw [show (jtab 0).2.2 6 = 8 from rfl] at l6
  rw [show (jtab 0).2.2 7 = 5 from rfl] at l7
  rw [show (jtab 0).2.2 8 = 6 from rfl] at l8
  rw [show (jtab 0).2.2 9 = 3 from rfl] at l9
  rw [show (jtab 0).2.2 10 = 3 from rfl] at l10
  rw [show (jtab 0).2.2 11 = 4 from rfl] at l11
  rw [show (jtab 0).2.2 12 = 4 from rfl] at l12
  obtain ⟨hnm, hOm, hBm⟩ := id hX
  have hOm : M m = jdO 9 (fX9 m _ _ (.ref f) rd) := hOm
  have hB3 : M (m + 3) = jdA 431 (rbX b0 ρ τ w) := hBm 3 (by omega) (by omega)
  have hblr : (c_blk bk (ρ : Int)) < ct 7 := by
    have h9 := c_blk_l ⟨hbk, hld⟩ (r := (ρ : Int)) (by omega)
    have := lastZ_r (fun i => c_get td 7 i 0 ≤ (ρ : Int) ∧ (ρ : Int) ≤ c_get td 7 i 1) (ct 7).toNat
    omega
  have g7 := a7 (c_blk bk (ρ : Int)).toNat (by omega)
  rw [show ((((c_blk bk (ρ : Int))).toNat : Nat) : Int) = (c_blk bk (ρ : Int)) by omega] at g7
  obtain ⟨-, -, -, g73, g7j⟩ := g7
  have hl9 := (hLI 7 (c_blk bk (ρ : Int)) (by omega) (by omega) (by omega)).2.2.2.2.2.2.2.1 rfl
  obtain ⟨-, -, -, -, -, w1, w2, w3, w4, -⟩ := hl9
  have etot : (c_weights td bk (ρ : Int)) = sumZ (fun i => c_get td 7 (c_blk bk (ρ : Int)) (4 + 2 * i + 1)) (c_get td 7 (c_blk bk (ρ : Int)) 3).toNat := by
    have e9 : ∀ n : Nat, c_get td 7 (c_blk bk (ρ : Int)) 3 ≤ n → n ≤ 4 → sumZ (fun i => c_get td 7 (c_blk bk (ρ : Int)) (4 + 2 * i + 1)) n = sumZ (fun i => c_get td 7 (c_blk bk (ρ : Int)) (4 + 2 * i + 1)) (c_get td 7 (c_blk bk (ρ : Int)) 3).toNat := by
      intro n
      induction n with
      | zero => intro h1 h2; rw [show (c_get td 7 (c_blk bk (ρ : Int)) 3).toNat = 0 by omega]
      | succ n ihn =>
        intro h1 h2
        by_cases q : (c_get td 7 (c_blk bk (ρ : Int)) 3).toNat = n + 1
        · rw [q]
        · rw [sumZ, ihn (by omega) (by omega)]
          have := (w4 n (by omega) (by omega)).2
          try dsimp only
          omega
    exact e9 4 (by omega) (by omega)
  have smono : ∀ n : Nat, (n : Int) ≤ c_get td 7 (c_blk bk (ρ : Int)) 3 → n ≤ 4 → sumZ (fun i => c_get td 7 (c_blk bk (ρ : Int)) (4 + 2 * i + 1)) n ≤ (c_weights td bk (ρ : Int)) ∧ ((n : Int) = c_get td 7 (c_blk bk (ρ : Int)) 3 → sumZ (fun i => c_get td 7 (c_blk bk (ρ : Int)) (4 + 2 * i + 1)) n = (c_weights td bk (ρ : Int))) := by
    intro n h1 h2
    refine ⟨?_, fun h3 => by rw [etot, ← h3]; rfl⟩
    rw [etot]
    obtain ⟨d9, ed9⟩ : ∃ d : Nat, (c_get td 7 (c_blk bk (ρ : Int)) 3).toNat = n + d := ⟨(c_get td 7 (c_blk bk (ρ : Int)) 3).toNat - n, by omega⟩
    rw [ed9]
    have key : ∀ d : Nat, n + d ≤ 4 → sumZ (fun i => c_get td 7 (c_blk bk (ρ : Int)) (4 + 2 * i + 1)) n ≤ sumZ (fun i => c_get td 7 (c_blk bk (ρ : Int)) (4 + 2 * i + 1)) (n + d) := by
      intro d
      induction d with
      | zero => intro _; exact Int.le_refl _
      | succ d ihd =>
        intro hd9
        have h5 := ihd (by omega)
        have h6 := c_getr hrt 7 (c_blk bk (ρ : Int)) (4 + 2 * ((n + d : Nat) : Int) + 1)
        rw [← Nat.add_assoc, sumZ]
        try dsimp only
        omega
    exact key d9 (by omega)
  have ht9 : 1 ≤ (c_weights td bk (ρ : Int)) := by
    have h1 := smono 1 (by omega) (by omega)
    have h2 : sumZ (fun i => c_get td 7 (c_blk bk (ρ : Int)) (4 + 2 * i + 1)) 1 = 0 + c_get td 7 (c_blk bk (ρ : Int)) (4 + 2 * ((0 : Nat) : Int) + 1) := rfl
    have h3 := w3 0 (by omega) (by omega)
    have h6 : c_get td 7 (c_blk bk (ρ : Int)) (4 + 2 * ((0 : Nat) : Int) + 1) = c_get td 7 (c_blk bk (ρ : Int)) (4 + 2 * 0 + 1) := rfl
    omega
  rw [show max 1 (c_weights td bk (ρ : Int)) = (c_weights td bk (ρ : Int)) by omega] at hRt
  have loop : ∀ (dq : Nat) (s9 i : Int) (u4 : Option Value), (0 ≤ i ∧ i ≤ c_get td 7 (c_blk bk (ρ : Int)) 3) → (s9 = sumZ (fun i => c_get td 7 (c_blk bk (ρ : Int)) (4 + 2 * i + 1)) i.toNat) → (6 - i).toNat < dq → J κ 5 0 0 n 4 [some (.ref m), some (jI (c_blk bk (ρ : Int))), some (jI s9), some (jI i), u4] [] M := by
    intro dq
    induction dq with
    | zero => intro s9 i u4 hi hs hd; omega
    | succ dq ih =>
      intro s9 i u4 hi hs hd
      have hA15 : M (f + 15) = jdA 5 (A 15) := hAf 15 (by omega) (by omega)
      have hA16 : M (f + 16) = jdA 20 (A 16) := hAf 16 (by omega) (by omega)
      have hA17 : M (f + 17) = jdA 20 (A 17) := hAf 17 (by omega) (by omega)
      refine jr_iload_n (pc := 4) h dX9_likedIn_4 rfl ?_
      refine jr_aload_n (pc := 5) h dX9_likedIn_5 rfl ?_
      refine gf_X9_425 (pc := 6) h dX9_likedIn_6 (by assumption) (by omega) ?_
      refine gf_X9_362 (pc := 9) h dX9_likedIn_9 (by assumption) (by omega) ?_
      refine jr_iload_n (pc := 12) h dX9_likedIn_12 rfl ?_
      refine jr_iald (pc := 13) h dX9_likedIn_13 (by assumption) (by omega) (by omega) ?_
      refine jr_icmp_ge (pc := 14) h 39 dX9_likedIn_14 (by decide) (by omega) (by omega) (fun c_14 => ?_) (fun c_14 => ?_)
      · skip
        rw [show s9 = (c_weights td bk (ρ : Int)) by rw [hs, etot, show i.toNat = (c_get td 7 (c_blk bk (ρ : Int)) 3).toNat by omega]]
        have ht1 : 1 ≤ (c_weights td bk (ρ : Int)) ∧ (c_weights td bk (ρ : Int)) ≤ 10000 := by
          have h1 := smono 1 (by omega) (by omega)
          have h2 : sumZ (fun i => c_get td 7 (c_blk bk (ρ : Int)) (4 + 2 * i + 1)) 1 = 0 + c_get td 7 (c_blk bk (ρ : Int)) (4 + 2 * ((0 : Nat) : Int) + 1) := rfl
          have h3 := w3 0 (by omega) (by omega)
          have h4 := sumZ_b (f := (fun i => c_get td 7 (c_blk bk (ρ : Int)) (4 + 2 * i + 1))) (k := 4) (lo := 0) (hi := 999) (fun i _ _ => c_getr hrt _ _ _)
          have h5 : (c_weights td bk (ρ : Int)) = sumZ (fun i => c_get td 7 (c_blk bk (ρ : Int)) (4 + 2 * i + 1)) 4 := rfl
          have h6 : c_get td 7 (c_blk bk (ρ : Int)) (4 + 2 * ((0 : Nat) : Int) + 1) = c_get td 7 (c_blk bk (ρ : Int)) (4 + 2 * 0 + 1) := rfl
          omega
        refine jr_aload_n (pc := 39) h dX9_likedIn_39 rfl ?_
        refine jr_iload_n (pc := 40) h dX9_likedIn_40 rfl ?_
        refine iv_X9_488 (pc := 41) h hl hR dX9_likedIn_41 ⟨(Nat.le_of_ble_eq_true rfl), (Nat.le_of_ble_eq_true rfl), (Nat.le_of_ble_eq_true rfl), (Nat.le_of_ble_eq_true rfl)⟩ (Nat.le_of_ble_eq_true rfl) (by assumption) (by omega) (s_X9_drawn hX hsep hρ hτ (x := (c_weights td bk (ρ : Int))) (by omega) hw13) (fun v_41 n_41 M_41 hn_41 hp => ?_)
        obtain ⟨⟨rfl, rfl⟩, hX, f1⟩ := hp
        have hMF := MF_fr hMF f1 (Nat.le_refl _) (fun k h1 h2 q => by have := q.1; have := q.2; omega)
        obtain ⟨hnf, hOf, hAf⟩ := id hMF
        obtain ⟨hnm, hOm, hBm⟩ := id hX
        have hOm : M_41 m = jdO 9 (fX9 m _ _ (.ref f) rd) := hOm
        have hA16 : M_41 (f + 16) = jdA 20 (A 16) := hAf 16 (by omega) (by omega)
        have hA17 : M_41 (f + 17) = jdA 20 (A 17) := hAf 17 (by omega) (by omega)
        refine jr_istore_n (pc := 44) h [_, _, _, _, _] dX9_likedIn_44 (by decide) rfl ?_
        refine jr_iconst (pc := 45) h dX9_likedIn_45 ?_
        refine jr_istore (pc := 46) h [_, _, _, _, _] dX9_likedIn_46 (by decide) rfl ?_
        have hz9 : 0 ≤ (((75 * w 13 + 74) % 65537) % (c_weights td bk (ρ : Int))) ∧ (((75 * w 13 + 74) % 65537) % (c_weights td bk (ρ : Int))) < (c_weights td bk (ρ : Int)) := ⟨Int.emod_nonneg _ (by omega), Int.emod_lt_of_pos _ (by omega)⟩
        have pick : ∀ (dqp : Nat) (v i : Int), (0 ≤ i ∧ i < c_get td 7 (c_blk bk (ρ : Int)) 3) → (0 ≤ v ∧ v ≤ 100000) → (v + sumZ (fun i => c_get td 7 (c_blk bk (ρ : Int)) (4 + 2 * i + 1)) i.toNat = (((75 * w 13 + 74) % 65537) % (c_weights td bk (ρ : Int))) ) → (c_likeF td (c_blk bk (ρ : Int)) 0 (((75 * w 13 + 74) % 65537) % (c_weights td bk (ρ : Int))) 4 = c_likeF td (c_blk bk (ρ : Int)) i v (4 - i).toNat) → (5 - i).toNat < dqp → J κ 5 0 0 n 48 [some (.ref m), some (jI (c_blk bk (ρ : Int))), some (jI (c_weights td bk (ρ : Int))), some (jI v), some (jI i)] [] M_41 := by
          intro dqp
          induction dqp with
          | zero => intro v i hi hvr hvs hc hd; omega
          | succ dqp ihp =>
            intro v i hi hvr hvs hc hd
            have smi := smono (i + 1).toNat (by omega) (by omega)
            have g7i := g7j i.toNat (by omega)
            rw [show ((i.toNat : Nat) : Int) = i by omega, show 4 * ((c_blk bk (ρ : Int))).toNat + i.toNat = (4 * (c_blk bk (ρ : Int)) + i).toNat by omega] at g7i
            have rw1 := w3 i (by omega) (by omega)
            have hsi : sumZ (fun i => c_get td 7 (c_blk bk (ρ : Int)) (4 + 2 * i + 1)) (i + 1).toNat = sumZ (fun i => c_get td 7 (c_blk bk (ρ : Int)) (4 + 2 * i + 1)) i.toNat + c_get td 7 (c_blk bk (ρ : Int)) (4 + 2 * i + 1) := sumZ_s (by omega)
            refine jr_iload_n (pc := 48) h dX9_likedIn_48 rfl ?_
            refine jr_aload_n (pc := 49) h dX9_likedIn_49 rfl ?_
            refine gf_X9_425 (pc := 50) h dX9_likedIn_50 (by assumption) (by omega) ?_
            refine gf_X9_351 (pc := 53) h dX9_likedIn_53 (by assumption) (by omega) ?_
            refine jr_iconst (pc := 56) h dX9_likedIn_56 ?_
            refine jr_iload_n (pc := 57) h dX9_likedIn_57 rfl ?_
            refine jr_imul (pc := 58) h dX9_likedIn_58 ?_
            refine jr_iload (pc := 59) h dX9_likedIn_59 rfl ?_
            refine jr_iadd (pc := 61) h dX9_likedIn_61 ?_
            refine jr_iald (pc := 62) h dX9_likedIn_62 (by assumption) (by omega) (by omega) ?_
            refine jr_icmp_lt (pc := 63) h 89 dX9_likedIn_63 (by decide) (by omega) (by omega) (fun c_63 => ?_) (fun c_63 => ?_)
            · skip
              refine jr_aload_n (pc := 89) h dX9_likedIn_89 rfl ?_
              refine gf_X9_425 (pc := 90) h dX9_likedIn_90 (by assumption) (by omega) ?_
              refine gf_X9_348 (pc := 93) h dX9_likedIn_93 (by assumption) (by omega) ?_
              refine jr_iconst (pc := 96) h dX9_likedIn_96 ?_
              refine jr_iload_n (pc := 97) h dX9_likedIn_97 rfl ?_
              refine jr_imul (pc := 98) h dX9_likedIn_98 ?_
              refine jr_iload (pc := 99) h dX9_likedIn_99 rfl ?_
              refine jr_iadd (pc := 101) h dX9_likedIn_101 ?_
              refine jr_iald (pc := 102) h dX9_likedIn_102 (by assumption) (by omega) (by omega) ?_
              refine jr_iret (pc := 103) h hRt dX9_likedIn_103 rfl (Nat.le_of_ble_eq_true rfl) (Nat.le_of_ble_eq_true rfl) ?_
              have e9 : c_liked td bk ρ (((75 * w 13 + 74) % 65537) % (c_weights td bk (ρ : Int))) = A 16 (4 * (c_blk bk (ρ : Int)) + i).toNat := by
                unfold c_liked
                rw [hc, show (4 - i).toNat = (4 - (i + 1)).toNat + 1 by omega, c_likeF, if_pos (by omega), g7i.1]
              rw [e9]
              exact ⟨⟨rfl, rfl⟩, hX, f1⟩
            · skip
              refine jr_iload_n (pc := 66) h dX9_likedIn_66 rfl ?_
              refine jr_aload_n (pc := 67) h dX9_likedIn_67 rfl ?_
              refine gf_X9_425 (pc := 68) h dX9_likedIn_68 (by assumption) (by omega) ?_
              refine gf_X9_351 (pc := 71) h dX9_likedIn_71 (by assumption) (by omega) ?_
              refine jr_iconst (pc := 74) h dX9_likedIn_74 ?_
              refine jr_iload_n (pc := 75) h dX9_likedIn_75 rfl ?_
              refine jr_imul (pc := 76) h dX9_likedIn_76 ?_
              refine jr_iload (pc := 77) h dX9_likedIn_77 rfl ?_
              refine jr_iadd (pc := 79) h dX9_likedIn_79 ?_
              refine jr_iald (pc := 80) h dX9_likedIn_80 (by assumption) (by omega) (by omega) ?_
              refine jr_isub (pc := 81) h dX9_likedIn_81 ?_
              refine jr_istore_n (pc := 82) h [_, _, _, _, _] dX9_likedIn_82 (by decide) rfl ?_
              refine jr_iinc (pc := 83) h [_, _, _, _, _] dX9_likedIn_83 (by decide) rfl rfl ?_
              refine jr_goto (pc := 86) h 48 dX9_likedIn_86 (by decide) ?_
              refine ihp _ _ (by omega) (by omega) ?_ ?_ (by omega)
              · rw [hsi]; omega
              · rw [hc, show (4 - i).toNat = (4 - (i + 1)).toNat + 1 by omega, c_likeF, if_neg (by omega), g7i.2]
        exact pick _ _ _ (by omega) (by omega) (by rw [show Int.toNat 0 = 0 from rfl]; show _ + 0 = _; omega) rfl (Nat.lt_succ_self _)
      · skip
        have g7i := g7j i.toNat (by omega)
        rw [show ((i.toNat : Nat) : Int) = i by omega, show 4 * ((c_blk bk (ρ : Int))).toNat + i.toNat = (4 * (c_blk bk (ρ : Int)) + i).toNat by omega] at g7i
        have rw1 := w3 i (by omega) (by omega)
        refine jr_iload_n (pc := 17) h dX9_likedIn_17 rfl ?_
        refine jr_aload_n (pc := 18) h dX9_likedIn_18 rfl ?_
        refine gf_X9_425 (pc := 19) h dX9_likedIn_19 (by assumption) (by omega) ?_
        refine gf_X9_351 (pc := 22) h dX9_likedIn_22 (by assumption) (by omega) ?_
        refine jr_iconst (pc := 25) h dX9_likedIn_25 ?_
        refine jr_iload_n (pc := 26) h dX9_likedIn_26 rfl ?_
        refine jr_imul (pc := 27) h dX9_likedIn_27 ?_
        refine jr_iload_n (pc := 28) h dX9_likedIn_28 rfl ?_
        refine jr_iadd (pc := 29) h dX9_likedIn_29 ?_
        refine jr_iald (pc := 30) h dX9_likedIn_30 (by assumption) (by omega) (by omega) ?_
        refine jr_iadd (pc := 31) h dX9_likedIn_31 ?_
        refine jr_istore_n (pc := 32) h [_, _, _, _, _] dX9_likedIn_32 (by decide) rfl ?_
        refine jr_iinc (pc := 33) h [_, _, _, _, _] dX9_likedIn_33 (by decide) rfl rfl ?_
        refine jr_goto (pc := 36) h 4 dX9_likedIn_36 (by decide) ?_
        refine ih _ _ _ (by omega) ?_ (by omega)
        rw [sumZ_s (by omega), ← hs, g7i.2]
  refine jr_iconst (pc := 0) h dX9_likedIn_0 ?_
  refine jr_istore_n (pc := 1) h [_, _, _, _, _] dX9_likedIn_1 (by decide) rfl ?_
  refine jr_iconst (pc := 2) h dX9_likedIn_2 ?_
  refine jr_istore_n (pc := 3) h [_, _, _, _, _] dX9_likedIn_3 (by decide) rfl ?_
  exact loop _ _ _ _ (by omega) rfl (Nat.lt_succ_self _)
set_option maxHeartbeats 1000000 in
set_option maxRecDepth 20000 in
theorem s_X9_servesNamed {l : Launch} {n : Nat} {M : jdM} {m f : Nat} {g : Nat → Int} {wd : Int} {rd : Value} {B : Nat → Nat → Int} {b0 w : Nat → Int} {ρ τ : Nat} (hX : MX M n m g wd (.ref f) rd (up B 3 (rbX b0 ρ τ w))) {ct td bk si ld gf : Nat → Int} {A : Nat → Nat → Int} (hMF : MF M n f gf A) (hFM : FM ct td bk si ld gf A) (hsep : f + 30 < m ∨ m + 12 < f) (hρ : 1 ≤ ρ ∧ ρ ≤ 40) (hτ : τ ≤ 1) {B9 : Int} (h0 : WB w B9) (hB : B9 ≤ 5800000) {c : Int} (hc : 0 ≤ c ∧ c ≤ 1) : Ct l yX9_servesNamed cX9_servesNamed 5 none rX9_servesNamed [.ref m, jI (τ : Int), jI (ρ : Int), jI c] n M (fun vv n' M' => (vv = none ∧ n = n') ∧ MX M' n m g wd (.ref f) rd (up B 3 (rbX b0 ρ τ (nmW ct td ρ c w))) ∧ fr (MXf m) M M') := by
  refine Ct_of [some (.ref m), some (jI (τ : Int)), some (jI (ρ : Int)), some (jI c), none] (by decide) (Nat.le_of_ble_eq_true rfl) rfl (fun κ hl h hR hRt hmn hn0 => ?_)
  have h : Ok κ RX9 cX9_servesNamed 5 none := h
  obtain ⟨hnf, hOf, hAf⟩ := id hMF
  obtain ⟨⟨e0, e1, e2, e3, e4⟩, ⟨k5, k6, k7, k8, k9, k10, k11, k12, k13, k14, k15⟩, ⟨a2, a3, a4, a5, a6, a7, a8, a9, a10, a11, a12⟩, ⟨hlim, hLI, hends, hrt⟩, ⟨hbk, hld⟩, hc0, hc1, hc2, hc5⟩ := id hFM
  have l2 := hlim 2 (by omega)
  have l3 := hlim 3 (by omega)
  have l4 := hlim 4 (by omega)
  have l5 := hlim 5 (by omega)
  have l6 := hlim 6 (by omega)
  have l7 := hlim 7 (by omega)
  have l8 := hlim 8 (by omega)
  have l9 := hlim 9 (by omega)
  have l10 := hlim 10 (by omega)
  have l11 := hlim 11 (by omega)
  have l12 := hlim 12 (by omega)
  rw [show (jtab 0).2.2 2 = 4 from rfl] at l2
  rw [show (jtab 0).2.2 3 = 6 from rfl] at l3
  rw [show (jtab 0).2.2 4 = 6 from rfl] at l4
  rw [show (jtab 0).2.2 5 = 2 from rfl] at l5
  rw [show (jtab 0).2.2 6 = 8 from rfl] at l6
  rw [show (jtab 0).2.2 7 = 5 from rfl] at l7
  rw [show (jtab 0).2.2 8 = 6 from rfl] at l8
  rw [show (jtab 0).2.2 9 = 3 from rfl] at l9
  rw [show (jtab 0).2.2 10 = 3 from rfl] at l10
  rw [show (jtab 0).2.2 11 = 4 from rfl] at l11
  rw [show (jtab 0).2.2 12 = 4 from rfl] at l12
  have loop : ∀ (dq : Nat) (i : Int) (M1 : jdM) (w1 : Nat → Int), (0 ≤ i ∧ i ≤ ct 8) → (MX M1 n m g wd (.ref f) rd (up B 3 (rbX b0 ρ τ w1))) → (MF M1 n f gf A) → (fr (MXf m) M M1) → (WB w1 (B9 + 999 * i)) → (w1 = foldS (nm1 ct td ρ c) w i.toNat) → (10 - i).toNat < dq → J κ 5 0 0 n 3 [some (.ref m), some (jI (τ : Int)), some (jI (ρ : Int)), some (jI c), some (jI i)] [] M1 := by
    intro dq
    induction dq with
    | zero => intro i M1 w1 hi hX hMF f1 hWB hx hd; omega
    | succ dq ih =>
      intro i M1 w1 hi hX hMF f1 hWB hx hd
      obtain ⟨hnf, hOf, hAf⟩ := id hMF
      obtain ⟨⟨e0, e1, e2, e3, e4⟩, ⟨k5, k6, k7, k8, k9, k10, k11, k12, k13, k14, k15⟩, ⟨a2, a3, a4, a5, a6, a7, a8, a9, a10, a11, a12⟩, ⟨hlim, hLI, hends, hrt⟩, ⟨hbk, hld⟩, hc0, hc1, hc2, hc5⟩ := id hFM
      have l2 := hlim 2 (by omega)
      have l3 := hlim 3 (by omega)
      have l4 := hlim 4 (by omega)
      have l5 := hlim 5 (by omega)
      have l6 := hlim 6 (by omega)
      have l7 := hlim 7 (by omega)
      have l8 := hlim 8 (by omega)
      have l9 := hlim 9 (by omega)
      have l10 := hlim 10 (by omega)
      have l11 := hlim 11 (by omega)
      have l12 := hlim 12 (by omega)
      rw [show (jtab 0).2.2 2 = 4 from rfl] at l2
      rw [show (jtab 0).2.2 3 = 6 from rfl] at l3
      rw [show (jtab 0).2.2 4 = 6 from rfl] at l4
      rw [show (jtab 0).2.2 5 = 2 from rfl] at l5
      rw [show (jtab 0).2.2 6 = 8 from rfl] at l6
      rw [show (jtab 0).2.2 7 = 5 from rfl] at l7
      rw [show (jtab 0).2.2 8 = 6 from rfl] at l8
      rw [show (jtab 0).2.2 9 = 3 from rfl] at l9
      rw [show (jtab 0).2.2 10 = 3 from rfl] at l10
      rw [show (jtab 0).2.2 11 = 4 from rfl] at l11
      rw [show (jtab 0).2.2 12 = 4 from rfl] at l12
      obtain ⟨hnm, hOm, hBm⟩ := id hX
      have hOm : M1 m = jdO 9 (fX9 m _ _ (.ref f) rd) := hOm
      have hB3 : M1 (m + 3) = jdA 431 (rbX b0 ρ τ w1) := hBm 3 (by omega) (by omega)
      have hA18 : M1 (f + 18) = jdA 6 (A 18) := hAf 18 (by omega) (by omega)
      have hA19 : M1 (f + 19) = jdA 6 (A 19) := hAf 19 (by omega) (by omega)
      have hA27 : M1 (f + 27) = jdZ 6 (A 27) := hAf 27 (by omega) (by omega)
      refine jr_iload (pc := 3) h dX9_servesNamed_3 rfl ?_
      refine jr_aload_n (pc := 5) h dX9_servesNamed_5 rfl ?_
      refine gf_X9_425 (pc := 6) h dX9_servesNamed_6 (by assumption) (by omega) ?_
      refine gf_X9_365 (pc := 9) h dX9_servesNamed_9 (by assumption) (by omega) ?_
      refine jr_icmp_ge (pc := 12) h 116 dX9_servesNamed_12 (by decide) (by omega) (by omega) (fun c_12 => ?_) (fun c_12 => ?_)
      · skip
        refine jr_vret (pc := 116) h hRt dX9_servesNamed_116 (Nat.le_of_ble_eq_true rfl) (Nat.le_of_ble_eq_true rfl) ?_
        refine ⟨⟨rfl, rfl⟩, ?_, f1⟩
        unfold nmW
        rw [show (ct 8).toNat = i.toNat by omega, ← hx]
        exact hX
      · skip
        have g8 := a8 i.toNat (by omega)
        rw [show ((i.toNat : Nat) : Int) = i by omega] at g8
        have r80 := c_getr hrt 8 i 0
        have r81 := c_getr hrt 8 i 1
        have r82 := c_getr hrt 8 i 2
        have h8 := (hLI 8 i (by omega) (by omega) (by omega)).2.2.2.2.2.2.2.2.1 rfl
        have lr := hWB.2.1 (c_get td 8 i 1).toNat (by omega)
        refine jr_aload_n (pc := 15) h dX9_servesNamed_15 rfl ?_
        refine gf_X9_425 (pc := 16) h dX9_servesNamed_16 (by assumption) (by omega) ?_
        refine gf_X9_375 (pc := 19) h dX9_servesNamed_19 (by assumption) (by omega) ?_
        refine jr_iload (pc := 22) h dX9_servesNamed_22 rfl ?_
        refine jr_iald (pc := 24) h dX9_servesNamed_24 (by assumption) (by omega) (by omega) ?_
        refine jr_iload_n (pc := 25) h dX9_servesNamed_25 rfl ?_
        refine jr_icmp_ne (pc := 26) h 110 dX9_servesNamed_26 (by decide) (by omega) (by omega) (fun c_26 => ?_) (fun c_26 => ?_)
        · skip
          refine jr_iinc (pc := 110) h [_, _, _, _, _] dX9_servesNamed_110 (by decide) rfl rfl ?_
          refine jr_goto (pc := 113) h 3 dX9_servesNamed_113 (by decide) ?_
          refine ih (i + 1) _ (nm1 ct td ρ c w1 i) (by omega) ?_ hMF f1 ?_ ?_ (by omega)
          · unfold nm1
            first
            | (rw [if_neg (by omega)]; exact hX)
            | (rw [if_pos (by omega), if_pos (by omega)]; exact hX)
            | (rw [if_pos (by omega), if_neg (by omega)]; exact hX)
          · exact WB_mo (nm1_B hWB (by omega) hrt) (by omega)
          · rw [foldS_s (by omega), ← hx]
        · skip
          refine jr_aload_n (pc := 29) h dX9_servesNamed_29 rfl ?_
          refine gf_X9_425 (pc := 30) h dX9_servesNamed_30 (by assumption) (by omega) ?_
          refine gf_X9_380 (pc := 33) h dX9_servesNamed_33 (by assumption) (by omega) ?_
          refine jr_iload (pc := 36) h dX9_servesNamed_36 rfl ?_
          refine jr_zald (pc := 38) h dX9_servesNamed_38 (by assumption) (by omega) (by omega) ?_
          refine jr_iload_n (pc := 39) h dX9_servesNamed_39 rfl ?_
          refine jr_icmp_eq (pc := 40) h 46 dX9_servesNamed_40 (by decide) (by omega) (by omega) (fun c_40 => ?_) (fun c_40 => ?_)
          · skip
            refine jr_aload_n (pc := 46) h dX9_servesNamed_46 rfl ?_
            refine jr_iload_n (pc := 47) h dX9_servesNamed_47 rfl ?_
            refine jr_aload_n (pc := 48) h dX9_servesNamed_48 rfl ?_
            refine gf_X9_425 (pc := 49) h dX9_servesNamed_49 (by assumption) (by omega) ?_
            refine gf_X9_378 (pc := 52) h dX9_servesNamed_52 (by assumption) (by omega) ?_
            refine jr_iload (pc := 55) h dX9_servesNamed_55 rfl ?_
            refine jr_iald (pc := 57) h dX9_servesNamed_57 (by assumption) (by omega) (by omega) ?_
            rw [show A 19 i.toNat = (((c_get td 8 i 1).toNat : Nat) : Int) by rw [g8.2.1]; omega]
            refine iv_X9_481 (pc := 58) h hl hR dX9_servesNamed_58 ⟨(Nat.le_of_ble_eq_true rfl), (Nat.le_of_ble_eq_true rfl), (Nat.le_of_ble_eq_true rfl), (Nat.le_of_ble_eq_true rfl)⟩ (Nat.le_of_ble_eq_true rfl) (by assumption) (by omega) (s_X9_leftOf hX hMF hFM hsep hρ hτ (k := (c_get td 8 i 1).toNat) (by omega)) (fun v_58 n_58 M_58 hn_58 hp => ?_)
            obtain ⟨rfl, rfl, rfl⟩ := hp
            refine jr_if_le (pc := 61) h 95 dX9_servesNamed_61 (by decide) (by omega) (fun c_61 => ?_) (fun c_61 => ?_)
            · skip
              refine jr_aload_n (pc := 95) h dX9_servesNamed_95 rfl ?_
              refine gf_X9_21 (pc := 96) h dX9_servesNamed_96 (by assumption) (by omega) ?_
              refine jr_bipush (pc := 99) h dX9_servesNamed_99 bp_10 ?_
              refine jr_iload_n (pc := 101) h dX9_servesNamed_101 rfl ?_
              refine jr_imul (pc := 102) h dX9_servesNamed_102 ?_
              refine jr_iconst (pc := 103) h dX9_servesNamed_103 ?_
              refine jr_iadd (pc := 104) h dX9_servesNamed_104 ?_
              refine jr_dup2 (pc := 105) h dX9_servesNamed_105 rfl rfl ?_
              refine jr_iald (pc := 106) h dX9_servesNamed_106 (by assumption) (by omega) (by omega) ?_
              refine jr_iconst (pc := 107) h dX9_servesNamed_107 ?_
              refine jr_iadd (pc := 108) h dX9_servesNamed_108 ?_
              refine jr_iast (pc := 109) h dX9_servesNamed_109 hB3 (by omega) (by omega) ?_
              refine jm_gen (fun M2 hM2 => ?_)
              rw [show ((10 : Int) * (ρ : Int) + 4).toNat = 10 * ρ + 2 + 2 by omega, (rbX_f (x := 0) hρ hτ (by omega)).2, (rbX_f hρ hτ (by omega)).1] at hM2
              have hX := MX_B (i := 3) hX hM2 (by omega)
              rw [up_up] at hX
              have f9 : fr (MXf m) _ M2 := fr_up (S := MXf m) hM2 ⟨by omega, by omega⟩
              have f1 := fr_tr f1 f9
              have hMF := MF_fr hMF f9 (Nat.le_refl _) (fun k h1 h2 q => by have := q.1; have := q.2; omega)
              obtain ⟨hnf, hOf, hAf⟩ := id hMF
              refine jr_iinc (pc := 110) h [_, _, _, _, _] dX9_servesNamed_110 (by decide) rfl rfl ?_
              refine jr_goto (pc := 113) h 3 dX9_servesNamed_113 (by decide) ?_
              refine ih (i + 1) _ (nm1 ct td ρ c w1 i) (by omega) ?_ hMF f1 ?_ ?_ (by omega)
              · unfold nm1
                first
                | (rw [if_neg (by omega)]; exact hX)
                | (rw [if_pos (by omega), if_pos (by omega)]; exact hX)
                | (rw [if_pos (by omega), if_neg (by omega)]; exact hX)
              · exact WB_mo (nm1_B hWB (by omega) hrt) (by omega)
              · rw [foldS_s (by omega), ← hx]
            · skip
              refine jr_aload_n (pc := 64) h dX9_servesNamed_64 rfl ?_
              refine jr_iload_n (pc := 65) h dX9_servesNamed_65 rfl ?_
              refine jr_iload_n (pc := 66) h dX9_servesNamed_66 rfl ?_
              refine jr_aload_n (pc := 67) h dX9_servesNamed_67 rfl ?_
              refine gf_X9_425 (pc := 68) h dX9_servesNamed_68 (by assumption) (by omega) ?_
              refine gf_X9_378 (pc := 71) h dX9_servesNamed_71 (by assumption) (by omega) ?_
              refine jr_iload (pc := 74) h dX9_servesNamed_74 rfl ?_
              refine jr_iald (pc := 76) h dX9_servesNamed_76 (by assumption) (by omega) (by omega) ?_
              rw [show A 19 i.toNat = (((c_get td 8 i 1).toNat : Nat) : Int) by rw [g8.2.1]; omega]
              refine iv_X9_484 (pc := 77) h hl hR dX9_servesNamed_77 ⟨(Nat.le_of_ble_eq_true rfl), (Nat.le_of_ble_eq_true rfl), (Nat.le_of_ble_eq_true rfl), (Nat.le_of_ble_eq_true rfl)⟩ (Nat.le_of_ble_eq_true rfl) (by assumption) (by omega) (s_X9_hands hX hMF hFM hsep hρ hτ (k := (c_get td 8 i 1).toNat) (by omega) ⟨hWB.1.1, by have := hWB.1.2; omega⟩) (fun v_77 n_77 M_77 hn_77 hp => ?_)
              obtain ⟨⟨rfl, rfl⟩, hX, f9⟩ := hp
              have f1 := fr_tr f1 f9
              have hMF := MF_fr hMF f9 (Nat.le_refl _) (fun k h1 h2 q => by have := q.1; have := q.2; omega)
              obtain ⟨hnf, hOf, hAf⟩ := id hMF
              obtain ⟨hnm, hOm, hBm⟩ := id hX
              have hOm : M_77 m = jdO 9 (fX9 m _ _ (.ref f) rd) := hOm
              have hB3 : M_77 (m + 3) = jdA 431 (rbX b0 ρ τ (hdW ct td (c_get td 8 i 1).toNat w1)) := hBm 3 (by omega) (by omega)
              refine jr_aload_n (pc := 80) h dX9_servesNamed_80 rfl ?_
              refine gf_X9_21 (pc := 81) h dX9_servesNamed_81 (by assumption) (by omega) ?_
              refine jr_sipush (pc := 84) h dX9_servesNamed_84 sp_423 ?_
              refine jr_iload (pc := 87) h dX9_servesNamed_87 rfl ?_
              refine jr_iadd (pc := 89) h dX9_servesNamed_89 ?_
              refine jr_iconst (pc := 90) h dX9_servesNamed_90 ?_
              refine jr_iast (pc := 91) h dX9_servesNamed_91 hB3 (by omega) (by omega) ?_
              refine jm_gen (fun M2 hM2 => ?_)
              rw [show ((423 : Int) + i).toNat = 423 + i.toNat by omega, rbX_g hρ hτ (by omega)] at hM2
              have hX := MX_B (i := 3) hX hM2 (by omega)
              rw [up_up] at hX
              have f9 : fr (MXf m) _ M2 := fr_up (S := MXf m) hM2 ⟨by omega, by omega⟩
              have f1 := fr_tr f1 f9
              have hMF := MF_fr hMF f9 (Nat.le_refl _) (fun k h1 h2 q => by have := q.1; have := q.2; omega)
              obtain ⟨hnf, hOf, hAf⟩ := id hMF
              refine jr_goto (pc := 92) h 110 dX9_servesNamed_92 (by decide) ?_
              refine jr_iinc (pc := 110) h [_, _, _, _, _] dX9_servesNamed_110 (by decide) rfl rfl ?_
              refine jr_goto (pc := 113) h 3 dX9_servesNamed_113 (by decide) ?_
              refine ih (i + 1) _ (nm1 ct td ρ c w1 i) (by omega) ?_ hMF f1 ?_ ?_ (by omega)
              · unfold nm1
                first
                | (rw [if_neg (by omega)]; exact hX)
                | (rw [if_pos (by omega), if_pos (by omega)]; exact hX)
                | (rw [if_pos (by omega), if_neg (by omega)]; exact hX)
              · exact WB_mo (nm1_B hWB (by omega) hrt) (by omega)
              · rw [foldS_s (by omega), ← hx]
          · skip
            refine jr_goto (pc := 43) h 110 dX9_servesNamed_43 (by decide) ?_
            refine jr_iinc (pc := 110) h [_, _, _, _, _] dX9_servesNamed_110 (by decide) rfl rfl ?_
            refine jr_goto (pc := 113) h 3 dX9_servesNamed_113 (by decide) ?_
            refine ih (i + 1) _ (nm1 ct td ρ c w1 i) (by omega) ?_ hMF f1 ?_ ?_ (by omega)
            · unfold nm1
              first
              | (rw [if_neg (by omega)]; exact hX)
              | (rw [if_pos (by omega), if_pos (by omega)]; exact hX)
              | (rw [if_pos (by omega), if_neg (by omega)]; exact hX)
            · exact WB_mo (nm1_B hWB (by omega) hrt) (by omega)
            · rw [foldS_s (by omega), ← hx]
  refine jr_iconst (pc := 0) h dX9_servesNamed_0 ?_
  refine jr_istore (pc := 1) h [_, _, _, _, _] dX9_servesNamed_1 (by decide) rfl ?_
  exact loop _ _ _ _ (by omega) hX hMF fr_rf (WB_mo h0 (by omega)) rfl (Nat.lt_succ_self _)
theorem s_X9_leftOfI {l : Launch} {n : Nat} {M : jdM} {m f : Nat} {g : Nat → Int} {wd : Int} {rd : Value} {B : Nat → Nat → Int} {b0 w : Nat → Int} {ρ τ : Nat} (hX : MX M n m g wd (.ref f) rd (up B 3 (rbX b0 ρ τ w))) {ct td bk si ld gf : Nat → Int} {A : Nat → Nat → Int} (hMF : MF M n f gf A) (hFM : FM ct td bk si ld gf A) (hsep : f + 30 < m ∨ m + 12 < f) (hρ : 1 ≤ ρ ∧ ρ ≤ 40) (hτ : τ ≤ 1) {k : Int} (hk : 0 ≤ k ∧ k < 4) : Ct l yX9_leftOf cX9_leftOf 3 (some .int) rX9_leftOf [.ref m, jI (τ : Int), jI k] n M (fun vv n' M' => vv = some (jI (w (9 + k.toNat))) ∧ n = n' ∧ M = M') := by
  have h9 := s_X9_leftOf (l := l) hX hMF hFM hsep hρ hτ (k := k.toNat) (by omega)
  rwa [show ((k.toNat : Nat) : Int) = k by omega] at h9
theorem s_X9_handsI {l : Launch} {n : Nat} {M : jdM} {m f : Nat} {g : Nat → Int} {wd : Int} {rd : Value} {B : Nat → Nat → Int} {b0 w : Nat → Int} {ρ τ : Nat} (hX : MX M n m g wd (.ref f) rd (up B 3 (rbX b0 ρ τ w))) {ct td bk si ld gf : Nat → Int} {A : Nat → Nat → Int} (hMF : MF M n f gf A) (hFM : FM ct td bk si ld gf A) (hsep : f + 30 < m ∨ m + 12 < f) (hρ : 1 ≤ ρ ∧ ρ ≤ 40) (hτ : τ ≤ 1) {k : Int} (hk : 0 ≤ k ∧ k < ct 2) (h0 : 0 ≤ w 0 ∧ w 0 ≤ 5900000) : Ct l yX9_hands cX9_hands 4 none rX9_hands [.ref m, jI (τ : Int), jI (ρ : Int), jI k] n M (fun vv n' M' => (vv = none ∧ n = n') ∧ MX M' n m g wd (.ref f) rd (up B 3 (rbX b0 ρ τ (hdW ct td k.toNat w))) ∧ fr (MXf m) M M') := by
  have h9 := s_X9_hands (l := l) hX hMF hFM hsep hρ hτ (k := k.toNat) (by omega) h0
  rwa [show ((k.toNat : Nat) : Int) = k by omega] at h9
theorem most_s {L : Int → Int} {z a i : Int} (hrel : (z = -1 ∧ L a = 0) ∨ (z = a ∧ 0 < L a)) (hi : 0 ≤ L i) (ha : 0 ≤ a) : (L a < L i → (mostG L z i = -1 ∧ L i = 0) ∨ (mostG L z i = i ∧ 0 < L i)) ∧ (¬ L a < L i → (mostG L z i = -1 ∧ L a = 0) ∨ (mostG L z i = a ∧ 0 < L a)) := by
  unfold mostG
  rcases hrel with ⟨rfl, h2⟩ | ⟨rfl, h2⟩
  · rw [if_pos rfl]
    refine ⟨fun q => ?_, fun q => ?_⟩
    · rw [if_pos (by omega)]
      exact Or.inr ⟨rfl, by omega⟩
    · rw [if_neg (by omega)]
      exact Or.inl ⟨rfl, h2⟩
  · rw [if_neg (show ¬ z = -1 by omega)]
    refine ⟨fun q => ?_, fun q => ?_⟩
    · rw [if_pos q]
      exact Or.inr ⟨rfl, by omega⟩
    · rw [if_neg q]
      exact Or.inr ⟨rfl, h2⟩
def WZ (ct w : Nat → Int) : Prop := ∀ k : Nat, ct 2 ≤ k → k < 4 → w (9 + k) = 0
theorem mostF_z {ct w : Nat → Int} (hz : WZ ct w) (h2 : 0 ≤ ct 2 ∧ ct 2 ≤ 4) (h0 : ∀ k, k < 4 → 0 ≤ w (9 + k)) : mostF (fun k : Int => w (9 + k.toNat)) = foldZ (mostG (fun k : Int => w (9 + k.toNat))) (-1) (ct 2).toNat := by
  have key : ∀ n : Nat, ct 2 ≤ n → n ≤ 4 → foldZ (mostG (fun k : Int => w (9 + k.toNat))) (-1) n = foldZ (mostG (fun k : Int => w (9 + k.toNat))) (-1) (ct 2).toNat := by
    intro n
    induction n with
    | zero => intro h1 h2; rw [show (ct 2).toNat = 0 by omega]
    | succ n ih =>
      intro h1 h3
      by_cases q : (ct 2).toNat = n + 1
      · rw [q]
      · have e := ih (by omega) (by omega)
        have r := mostG_r (L := fun k : Int => w (9 + k.toNat)) (k := n)
        rw [foldZ]
        generalize foldZ (mostG (fun k : Int => w (9 + k.toNat))) (-1) n = z at e r
        have z9 : w (9 + ((n : Int)).toNat) = 0 := hz ((n : Int)).toNat (by omega) (by omega)
        have zz := h0 z.toNat (by omega)
        rw [← e]
        have hn9 : ¬ ((if z = -1 then 0 else w (9 + z.toNat)) < w (9 + ((n : Int)).toNat)) := by
          rw [z9]
          split <;> omega
        exact if_neg hn9
  exact key 4 (by omega) (by omega)
set_option maxHeartbeats 1000000 in
set_option maxRecDepth 20000 in
theorem s_X9_servesOther {l : Launch} {n : Nat} {M : jdM} {m f : Nat} {g : Nat → Int} {wd : Int} {rd : Value} {B : Nat → Nat → Int} {b0 w : Nat → Int} {ρ τ : Nat} (hX : MX M n m g wd (.ref f) rd (up B 3 (rbX b0 ρ τ w))) {ct td bk si ld gf : Nat → Int} {A : Nat → Nat → Int} (hMF : MF M n f gf A) (hFM : FM ct td bk si ld gf A) (hsep : f + 30 < m ∨ m + 12 < f) (hρ : 1 ≤ ρ ∧ ρ ≤ 40) (hτ : τ ≤ 1) (hb : 0 ≤ (c_blk bk (ρ : Int))) {B9 : Int} (hWB : WB w B9) (hB : B9 ≤ 5800000) (hz : WZ ct w) (hlk : ∀ v, 0 ≤ c_liked td bk ρ v ∧ c_liked td bk ρ v < ct 2) {i9 : Int} : Ct l yX9_servesOther cX9_servesOther 6 none rX9_servesOther [.ref m, jI (τ : Int), jI (ρ : Int)] n M (fun vv n' M' => (vv = none ∧ n = n') ∧ MX M' n m g wd (.ref f) rd (up B 3 (rbX b0 ρ τ (ot1 ct td bk ρ w i9))) ∧ fr (MXf m) M M') := by
  refine Ct_of [some (.ref m), some (jI (τ : Int)), some (jI (ρ : Int)), none, none, none] (by decide) (Nat.le_of_ble_eq_true rfl) rfl (fun κ hl h hR hRt hmn hn0 => ?_)
  have h : Ok κ RX9 cX9_servesOther 6 none := h
  obtain ⟨hnf, hOf, hAf⟩ := id hMF
  obtain ⟨⟨e0, e1, e2, e3, e4⟩, ⟨k5, k6, k7, k8, k9, k10, k11, k12, k13, k14, k15⟩, ⟨a2, a3, a4, a5, a6, a7, a8, a9, a10, a11, a12⟩, ⟨hlim, hLI, hends, hrt⟩, ⟨hbk, hld⟩, hc0, hc1, hc2, hc5⟩ := id hFM
  have l2 := hlim 2 (by omega)
  have l3 := hlim 3 (by omega)
  have l4 := hlim 4 (by omega)
  have l5 := hlim 5 (by omega)
  have l6 := hlim 6 (by omega)
  have l7 := hlim 7 (by omega)
  have l8 := hlim 8 (by omega)
  have l9 := hlim 9 (by omega)
  have l10 := hlim 10 (by omega)
  have l11 := hlim 11 (by omega)
  have l12 := hlim 12 (by omega)
  rw [show (jtab 0).2.2 2 = 4 from rfl] at l2
  rw [show (jtab 0).2.2 3 = 6 from rfl] at l3
  rw [show (jtab 0).2.2 4 = 6 from rfl] at l4
  rw [show (jtab 0).2.2 5 = 2 from rfl] at l5
  rw [show (jtab 0).2.2 6 = 8 from rfl] at l6
  rw [show (jtab 0).2.2 7 = 5 from rfl] at l7
  rw [show (jtab 0).2.2 8 = 6 from rfl] at l8
  rw [show (jtab 0).2.2 9 = 3 from rfl] at l9
  rw [show (jtab 0).2.2 10 = 3 from rfl] at l10
  rw [show (jtab 0).2.2 11 = 4 from rfl] at l11
  rw [show (jtab 0).2.2 12 = 4 from rfl] at l12
  obtain ⟨hnm, hOm, hBm⟩ := id hX
  have hOm : M m = jdO 9 (fX9 m _ _ (.ref f) rd) := hOm
  have hB3 : M (m + 3) = jdA 431 (rbX b0 ρ τ w) := hBm 3 (by omega) (by omega)
  refine jr_aload_n (pc := 0) h dX9_servesOther_0 rfl ?_
  refine jr_aload_n (pc := 1) h dX9_servesOther_1 rfl ?_
  refine gf_X9_425 (pc := 2) h dX9_servesOther_2 (by assumption) (by omega) ?_
  refine jr_iload_n (pc := 5) h dX9_servesOther_5 rfl ?_
  refine iv_X9_443 (pc := 6) h hl hR dX9_servesOther_6 ⟨(Nat.le_of_ble_eq_true rfl), (Nat.le_of_ble_eq_true rfl), (Nat.le_of_ble_eq_true rfl), (Nat.le_of_ble_eq_true rfl)⟩ (Nat.le_of_ble_eq_true rfl) (by assumption) (by omega) (s_X8_blockOf hMF hFM (by omega)) (fun v_6 n_6 M_6 hn_6 hp => ?_)
  obtain ⟨⟨rfl, rfl, rfl⟩, gr_6⟩ := hp
  refine iv_X9_491 (pc := 9) h hl hR dX9_servesOther_9 ⟨(Nat.le_of_ble_eq_true rfl), (Nat.le_of_ble_eq_true rfl), (Nat.le_of_ble_eq_true rfl), (Nat.le_of_ble_eq_true rfl)⟩ (Nat.le_of_ble_eq_true rfl) (by assumption) (by omega) (s_X9_likedIn hX hMF hFM hsep hρ hτ hb hWB.2.2) (fun v_9 n_9 M_9 hn_9 hp => ?_)
  obtain ⟨⟨rfl, rfl⟩, hX, f9⟩ := hp
  have f1 := f9
  have hMF := MF_fr hMF f9 (Nat.le_refl _) (fun k h1 h2 q => by have := q.1; have := q.2; omega)
  obtain ⟨hnf, hOf, hAf⟩ := id hMF
  have hlq := hlk (((75 * w 13 + 74) % 65537) % max 1 (c_weights td bk (ρ : Int)))
  obtain ⟨lk, elk⟩ : ∃ lk, (c_liked td bk ρ (((75 * w 13 + 74) % 65537) % max 1 (c_weights td bk (ρ : Int)))) = lk := ⟨_, rfl⟩
  rw [elk] at hlq ⊢
  obtain ⟨w2, ew2⟩ : ∃ w2, (up w 13 ((75 * w 13 + 74) % 65537)) = w2 := ⟨_, rfl⟩
  have hWB2 : WB (up w 13 ((75 * w 13 + 74) % 65537)) B9 := WB_13 hWB (by omega)
  have hz2 : WZ ct (up w 13 ((75 * w 13 + 74) % 65537)) := fun k a b => by rw [up_ne (by omega)]; exact hz k a b
  rw [ew2] at hX hWB2 hz2
  obtain ⟨hnm, hOm, hBm⟩ := id hX
  have hOm : M_9 m = jdO 9 (fX9 m _ _ (.ref f) rd) := hOm
  have hB3 : M_9 (m + 3) = jdA 431 (rbX b0 ρ τ w2) := hBm 3 (by omega) (by omega)
  have lrl := hWB2.2.1 lk.toNat (by omega)
  refine jr_istore_n (pc := 12) h [_, _, _, _, _, _] dX9_servesOther_12 (by decide) rfl ?_
  refine jr_aload_n (pc := 13) h dX9_servesOther_13 rfl ?_
  refine jr_iload_n (pc := 14) h dX9_servesOther_14 rfl ?_
  refine jr_iload_n (pc := 15) h dX9_servesOther_15 rfl ?_
  refine iv_X9_481 (pc := 16) h hl hR dX9_servesOther_16 ⟨(Nat.le_of_ble_eq_true rfl), (Nat.le_of_ble_eq_true rfl), (Nat.le_of_ble_eq_true rfl), (Nat.le_of_ble_eq_true rfl)⟩ (Nat.le_of_ble_eq_true rfl) (by assumption) (by omega) (s_X9_leftOfI hX hMF hFM hsep hρ hτ (k := lk) (by omega)) (fun v_16 n_16 M_16 hn_16 hp => ?_)
  obtain ⟨rfl, rfl, rfl⟩ := hp
  refine jr_if_le (pc := 19) h 30 dX9_servesOther_19 (by decide) (by omega) (fun c_19 => ?_) (fun c_19 => ?_)
  · skip
    refine jr_iconst (pc := 30) h dX9_servesOther_30 ?_
    refine jr_istore (pc := 31) h [_, _, _, _, _, _] dX9_servesOther_31 (by decide) rfl ?_
    refine jr_iconst (pc := 33) h dX9_servesOther_33 ?_
    refine jr_istore (pc := 34) h [_, _, _, _, _, _] dX9_servesOther_34 (by decide) rfl ?_
    have l0 := hWB2.2.1 0 (by omega)
    have most : ∀ (dqa : Nat) (a9 i : Int), (1 ≤ i ∧ i ≤ ct 2) → (0 ≤ a9 ∧ a9 < i) → ((foldZ (mostG (fun k : Int => w2 (9 + k.toNat))) (-1) i.toNat = -1 ∧ w2 (9 + a9.toNat) = 0) ∨ (foldZ (mostG (fun k : Int => w2 (9 + k.toNat))) (-1) i.toNat = a9 ∧ 0 < w2 (9 + a9.toNat))) → (10 - i).toNat < dqa → J κ 6 0 0 n 36 [some (.ref m), some (jI (τ : Int)), some (jI (ρ : Int)), some (jI lk), some (jI a9), some (jI i)] [] M_9 := by
      intro dqa
      induction dqa with
      | zero => intro a9 i hi ha hrel hd; omega
      | succ dqa iha =>
        intro a9 i hi ha hrel hd
        refine jr_iload (pc := 36) h dX9_servesOther_36 rfl ?_
        refine jr_aload_n (pc := 38) h dX9_servesOther_38 rfl ?_
        refine gf_X9_425 (pc := 39) h dX9_servesOther_39 (by assumption) (by omega) ?_
        refine gf_X9_211 (pc := 42) h dX9_servesOther_42 (by assumption) (by omega) ?_
        refine jr_icmp_ge (pc := 45) h 75 dX9_servesOther_45 (by decide) (by omega) (by omega) (fun c_45 => ?_) (fun c_45 => ?_)
        · skip
          have emf := mostF_z hz2 (by omega) (fun k hk => (hWB2.2.1 k hk).1)
          rw [show (ct 2).toNat = i.toNat by omega] at emf
          have la := hWB2.2.1 a9.toNat (by omega)
          refine jr_aload_n (pc := 75) h dX9_servesOther_75 rfl ?_
          refine jr_iload_n (pc := 76) h dX9_servesOther_76 rfl ?_
          refine jr_iload (pc := 77) h dX9_servesOther_77 rfl ?_
          refine iv_X9_481 (pc := 79) h hl hR dX9_servesOther_79 ⟨(Nat.le_of_ble_eq_true rfl), (Nat.le_of_ble_eq_true rfl), (Nat.le_of_ble_eq_true rfl), (Nat.le_of_ble_eq_true rfl)⟩ (Nat.le_of_ble_eq_true rfl) (by assumption) (by omega) (s_X9_leftOfI hX hMF hFM hsep hρ hτ (k := a9) (by omega)) (fun v_79 n_79 M_79 hn_79 hp => ?_)
          obtain ⟨rfl, rfl, rfl⟩ := hp
          refine jr_if_ne (pc := 82) h 101 dX9_servesOther_82 (by decide) (by omega) (fun c_82 => ?_) (fun c_82 => ?_)
          · skip
            refine jr_aload_n (pc := 101) h dX9_servesOther_101 rfl ?_
            refine gf_X9_21 (pc := 102) h dX9_servesOther_102 (by assumption) (by omega) ?_
            refine jr_bipush (pc := 105) h dX9_servesOther_105 bp_10 ?_
            refine jr_iload_n (pc := 107) h dX9_servesOther_107 rfl ?_
            refine jr_imul (pc := 108) h dX9_servesOther_108 ?_
            refine jr_iconst (pc := 109) h dX9_servesOther_109 ?_
            refine jr_iadd (pc := 110) h dX9_servesOther_110 ?_
            refine jr_dup2 (pc := 111) h dX9_servesOther_111 rfl rfl ?_
            refine jr_iald (pc := 112) h dX9_servesOther_112 (by assumption) (by omega) (by omega) ?_
            refine jr_iconst (pc := 113) h dX9_servesOther_113 ?_
            refine jr_iadd (pc := 114) h dX9_servesOther_114 ?_
            refine jr_iast (pc := 115) h dX9_servesOther_115 hB3 (by omega) (by omega) ?_
            refine jm_gen (fun M2 hM2 => ?_)
            rw [show ((10 : Int) * (ρ : Int) + 3).toNat = 10 * ρ + 2 + 1 by omega, (rbX_f (x := 0) hρ hτ (by omega)).2, (rbX_f hρ hτ (by omega)).1] at hM2
            have hX := MX_B (i := 3) hX hM2 (by omega)
            rw [up_up] at hX
            have f9 : fr (MXf m) _ M2 := fr_up (S := MXf m) hM2 ⟨by omega, by omega⟩
            have f1 := fr_tr f1 f9
            have hMF := MF_fr hMF f9 (Nat.le_refl _) (fun k h1 h2 q => by have := q.1; have := q.2; omega)
            obtain ⟨hnf, hOf, hAf⟩ := id hMF
            obtain ⟨hnm, hOm, hBm⟩ := id hX
            have hOm : M2 m = jdO 9 (fX9 m _ _ (.ref f) rd) := hOm
            have hB3 : M2 (m + 3) = jdA 431 (rbX b0 ρ τ (up w2 1 (w2 1 + 1))) := hBm 3 (by omega) (by omega)
            refine jr_aload_n (pc := 116) h dX9_servesOther_116 rfl ?_
            refine jr_iload_n (pc := 117) h dX9_servesOther_117 rfl ?_
            refine jr_iload_n (pc := 118) h dX9_servesOther_118 rfl ?_
            refine jr_iload (pc := 119) h dX9_servesOther_119 rfl ?_
            refine iv_X9_484 (pc := 121) h hl hR dX9_servesOther_121 ⟨(Nat.le_of_ble_eq_true rfl), (Nat.le_of_ble_eq_true rfl), (Nat.le_of_ble_eq_true rfl), (Nat.le_of_ble_eq_true rfl)⟩ (Nat.le_of_ble_eq_true rfl) (by assumption) (by omega) (s_X9_handsI hX hMF hFM hsep hρ hτ (k := a9) (by omega) ⟨by rw [up_ne (by omega)]; exact hWB2.1.1, by rw [up_ne (by omega)]; have := hWB2.1.2; omega⟩) (fun v_121 n_121 M_121 hn_121 hp => ?_)
            obtain ⟨⟨rfl, rfl⟩, hX, f9⟩ := hp
            have f1 := fr_tr f1 f9
            refine jr_vret (pc := 124) h hRt dX9_servesOther_124 (Nat.le_of_ble_eq_true rfl) (Nat.le_of_ble_eq_true rfl) ?_
            refine ⟨⟨rfl, rfl⟩, ?_, f1⟩
            unfold ot1
            rw [ew2, elk]
            dsimp only
            have em : mostF (fun k : Int => w2 (9 + k.toNat)) = a9 := by
              rw [emf]
              rcases hrel with ⟨h1, h2⟩ | ⟨h1, h2⟩
              · exfalso; omega
              · exact h1
            have hne : a9 ≠ lk := fun q => by rw [q] at c_82; omega
            rw [show (if 0 < w2 (9 + lk.toNat) then lk else mostF (fun k : Int => w2 (9 + k.toNat))) = a9 from (if_neg (by omega)).trans em, if_neg (show ¬ a9 = -1 by omega), if_neg hne]
            exact hX
          · skip
            refine jr_aload_n (pc := 85) h dX9_servesOther_85 rfl ?_
            refine gf_X9_21 (pc := 86) h dX9_servesOther_86 (by assumption) (by omega) ?_
            refine jr_bipush (pc := 89) h dX9_servesOther_89 bp_10 ?_
            refine jr_iload_n (pc := 91) h dX9_servesOther_91 rfl ?_
            refine jr_imul (pc := 92) h dX9_servesOther_92 ?_
            refine jr_iconst (pc := 93) h dX9_servesOther_93 ?_
            refine jr_iadd (pc := 94) h dX9_servesOther_94 ?_
            refine jr_dup2 (pc := 95) h dX9_servesOther_95 rfl rfl ?_
            refine jr_iald (pc := 96) h dX9_servesOther_96 (by assumption) (by omega) (by omega) ?_
            refine jr_iconst (pc := 97) h dX9_servesOther_97 ?_
            skip
            refine jr_iadd (pc := 98) h dX9_servesOther_98 ?_
            refine jr_iast (pc := 99) h dX9_servesOther_99 hB3 (by omega) (by omega) ?_
            refine jm_gen (fun M2 hM2 => ?_)
            rw [show ((10 : Int) * (ρ : Int) + 4).toNat = 10 * ρ + 2 + 2 by omega, (rbX_f (x := 0) hρ hτ (by omega)).2, (rbX_f hρ hτ (by omega)).1] at hM2
            have hX := MX_B (i := 3) hX hM2 (by omega)
            rw [up_up] at hX
            have f9 : fr (MXf m) _ M2 := fr_up (S := MXf m) hM2 ⟨by omega, by omega⟩
            have f1 := fr_tr f1 f9
            have hMF := MF_fr hMF f9 (Nat.le_refl _) (fun k h1 h2 q => by have := q.1; have := q.2; omega)
            obtain ⟨hnf, hOf, hAf⟩ := id hMF
            obtain ⟨hnm, hOm, hBm⟩ := id hX
            have hOm : M2 m = jdO 9 (fX9 m _ _ (.ref f) rd) := hOm
            have hB3 : M2 (m + 3) = jdA 431 (rbX b0 ρ τ (up w2 2 (w2 2 + 1))) := hBm 3 (by omega) (by omega)
            refine jr_vret (pc := 100) h hRt dX9_servesOther_100 (Nat.le_of_ble_eq_true rfl) (Nat.le_of_ble_eq_true rfl) ?_
            refine ⟨⟨rfl, rfl⟩, ?_, f1⟩
            unfold ot1
            rw [ew2, elk]
            dsimp only
            have em : mostF (fun k : Int => w2 (9 + k.toNat)) = -1 := by
              rw [emf]
              rcases hrel with ⟨h1, h2⟩ | ⟨h1, h2⟩
              · exact h1
              · exfalso; omega
            rw [show (if 0 < w2 (9 + lk.toNat) then lk else mostF (fun k : Int => w2 (9 + k.toNat))) = -1 from (if_neg (by omega)).trans em, if_pos rfl]
            exact hX
        · skip
          refine jr_aload_n (pc := 48) h dX9_servesOther_48 rfl ?_
          refine jr_iload_n (pc := 49) h dX9_servesOther_49 rfl ?_
          have li := hWB2.2.1 i.toNat (by omega)
          have la := hWB2.2.1 a9.toNat (by omega)
          refine jr_iload (pc := 50) h dX9_servesOther_50 rfl ?_
          skip
          refine iv_X9_481 (pc := 52) h hl hR dX9_servesOther_52 ⟨(Nat.le_of_ble_eq_true rfl), (Nat.le_of_ble_eq_true rfl), (Nat.le_of_ble_eq_true rfl), (Nat.le_of_ble_eq_true rfl)⟩ (Nat.le_of_ble_eq_true rfl) (by assumption) (by omega) (s_X9_leftOfI hX hMF hFM hsep hρ hτ (k := i) (by omega)) (fun v_52 n_52 M_52 hn_52 hp => ?_)
          obtain ⟨rfl, rfl, rfl⟩ := hp
          refine jr_aload_n (pc := 55) h dX9_servesOther_55 rfl ?_
          refine jr_iload_n (pc := 56) h dX9_servesOther_56 rfl ?_
          refine jr_iload (pc := 57) h dX9_servesOther_57 rfl ?_
          refine iv_X9_481 (pc := 59) h hl hR dX9_servesOther_59 ⟨(Nat.le_of_ble_eq_true rfl), (Nat.le_of_ble_eq_true rfl), (Nat.le_of_ble_eq_true rfl), (Nat.le_of_ble_eq_true rfl)⟩ (Nat.le_of_ble_eq_true rfl) (by assumption) (by omega) (s_X9_leftOfI hX hMF hFM hsep hρ hτ (k := a9) (by omega)) (fun v_59 n_59 M_59 hn_59 hp => ?_)
          obtain ⟨rfl, rfl, rfl⟩ := hp
          refine jr_icmp_le (pc := 62) h 69 dX9_servesOther_62 (by decide) (by omega) (by omega) (fun c_62 => ?_) (fun c_62 => ?_)
          · skip
            refine jr_iinc (pc := 69) h [_, _, _, _, _, _] dX9_servesOther_69 (by decide) rfl rfl ?_
            refine jr_goto (pc := 72) h 36 dX9_servesOther_72 (by decide) ?_
            refine iha _ _ (by omega) (by omega) ?_ (by omega)
            rw [foldZ_s (by omega)]
            exact (most_s (L := fun k : Int => w2 (9 + k.toNat)) hrel li.1 ha.1).2 (show ¬ w2 (9 + a9.toNat) < w2 (9 + i.toNat) by omega)
          · skip
            refine jr_iload (pc := 65) h dX9_servesOther_65 rfl ?_
            refine jr_istore (pc := 67) h [_, _, _, _, _, _] dX9_servesOther_67 (by decide) rfl ?_
            refine jr_iinc (pc := 69) h [_, _, _, _, _, _] dX9_servesOther_69 (by decide) rfl rfl ?_
            refine jr_goto (pc := 72) h 36 dX9_servesOther_72 (by decide) ?_
            refine iha _ _ (by omega) (by omega) ?_ (by omega)
            rw [foldZ_s (by omega)]
            exact (most_s (L := fun k : Int => w2 (9 + k.toNat)) hrel li.1 ha.1).1 (show w2 (9 + a9.toNat) < w2 (9 + i.toNat) by omega)
    exact most _ _ _ (by omega) (by omega) (by
      have e1 : foldZ (mostG (fun k : Int => w2 (9 + k.toNat))) (-1) (Int.toNat 1) = (if 0 < w2 (9 + 0) then 0 else -1) := rfl
      rw [e1]
      by_cases q : 0 < w2 (9 + 0)
      · rw [if_pos q]
        right
        exact ⟨rfl, q⟩
      · rw [if_neg q]
        left
        exact ⟨rfl, by show w2 (9 + 0) = 0; omega⟩) (Nat.lt_succ_self _)
  · skip
    refine jr_aload_n (pc := 22) h dX9_servesOther_22 rfl ?_
    refine jr_iload_n (pc := 23) h dX9_servesOther_23 rfl ?_
    refine jr_iload_n (pc := 24) h dX9_servesOther_24 rfl ?_
    refine jr_iload_n (pc := 25) h dX9_servesOther_25 rfl ?_
    refine iv_X9_484 (pc := 26) h hl hR dX9_servesOther_26 ⟨(Nat.le_of_ble_eq_true rfl), (Nat.le_of_ble_eq_true rfl), (Nat.le_of_ble_eq_true rfl), (Nat.le_of_ble_eq_true rfl)⟩ (Nat.le_of_ble_eq_true rfl) (by assumption) (by omega) (s_X9_handsI hX hMF hFM hsep hρ hτ (k := lk) (by omega) ⟨hWB2.1.1, by have := hWB2.1.2; omega⟩) (fun v_26 n_26 M_26 hn_26 hp => ?_)
    obtain ⟨⟨rfl, rfl⟩, hX, f9⟩ := hp
    have f1 := fr_tr f1 f9
    refine jr_vret (pc := 29) h hRt dX9_servesOther_29 (Nat.le_of_ble_eq_true rfl) (Nat.le_of_ble_eq_true rfl) ?_
    refine ⟨⟨rfl, rfl⟩, ?_, f1⟩
    unfold ot1
    rw [ew2, elk]
    dsimp only
    rw [show (if 0 < w2 (9 + lk.toNat) then lk else mostF (fun k : Int => w2 (9 + k.toNat))) = lk from if_pos (by omega), if_neg (show ¬ lk = -1 by omega), if_pos rfl, Int.add_zero, up_id rfl]
    exact hX
