/-! 40: Run.advance -/
def w_ini (b : Int) (sk : Nat → Int) (τ : Nat) (z : Int) (go : Nat → Int) : Nat → Int := fun j => if j = 0 then b else if j < 9 then 0 else if j < 13 then sk (4 * τ + (j - 9)) else if j = 13 then z else go (j - 14)
theorem w_ini_X {fa sk go : Nat → Int} {ρ τ : Nat} {b t z : Int} (h : ∀ o, o < 11 → fa (11 * ρ + o) = 0) : up (up (up fa (11 * ρ) t) (11 * ρ + 1) b) (11 * ρ + 2) b = rwX (up (up fa (11 * ρ) t) (11 * ρ + 1) b) ρ (w_ini b sk τ z go) := by
  funext j
  by_cases q : j = 11 * ρ + 2
  · rw [q, up_eq]
    unfold rwX
    rw [if_pos (by omega), show 11 * ρ + 2 - (11 * ρ + 2) = 0 by omega]
    rfl
  · rw [up_ne q]
    unfold rwX
    by_cases q2 : 11 * ρ + 2 ≤ j ∧ j < 11 * ρ + 11
    · rw [if_pos q2, up_ne (by omega), up_ne (by omega)]
      unfold w_ini
      rw [if_neg (by omega), if_pos (by omega)]
      have := h (j - 11 * ρ) (by omega)
      rw [show 11 * ρ + (j - 11 * ρ) = j by omega] at this
      exact this
    · rw [if_neg q2]
theorem w_ini_S {sk go : Nat → Int} {τ : Nat} {b z : Int} : rwS sk τ (w_ini b sk τ z go) = sk := by
  funext j
  unfold rwS
  split
  · unfold w_ini
    rw [if_neg (by omega), if_neg (by omega), if_pos (by omega)]
    congr 1
    omega
  · rfl
theorem w_ini_G {sk go : Nat → Int} {τ : Nat} {b z : Int} : gtX (w_ini b sk τ z go) = go := by
  funext j
  unfold gtX w_ini
  rw [if_neg (by omega), if_neg (by omega), if_neg (by omega), if_neg (by omega)]
  congr 1
  omega
theorem w_ini_B {sk go : Nat → Int} {τ : Nat} {b z : Int} (hb : 0 ≤ b) (hs : ∀ j, 0 ≤ sk j ∧ sk j ≤ 9999) (hz : 0 ≤ z ∧ z ≤ 65536) : WB (w_ini b sk τ z go) b := by
  refine ⟨⟨hb, Int.le_refl _⟩, fun k hk => ?_, hz⟩
  unfold w_ini
  rw [if_neg (by omega), if_neg (by omega), if_pos (by omega)]
  exact hs _
theorem c_bel_b {ct td : Nat → Int} {x : Int} (rB : ∀ j, 0 ≤ td j ∧ td j ≤ 999) (h : 0 ≤ x) : 0 ≤ c_bel ct td x ∧ c_bel ct td x ≤ max x 59940 := by
  have h1 : ∀ (a i : Int), (0 ≤ a ∧ a ≤ max x 59940) → 0 ≤ c_bel1 td a i ∧ c_bel1 td a i ≤ max x 59940 := fun a i ha => by
    have := c_getr rB 9 i 1
    unfold c_bel1
    split <;> omega
  have h2 : ∀ a : Int, (0 ≤ a ∧ a ≤ max x 59940) → 0 ≤ c_belP ct td a ∧ c_belP ct td a ≤ max x 59940 := fun a ha => foldZ_inv (P := fun a => 0 ≤ a ∧ a ≤ max x 59940) ha (fun a i p _ _ => h1 a i p)
  exact foldZ_inv (P := fun a => 0 ≤ a ∧ a ≤ max x 59940) (by omega) (fun a i p _ _ => h2 a p)
def av_row (ct td g sp : Nat → Int) : Int := if c_get td 5 (c_nxt ct td sp) 0 = 0 then g 4 else g 5
def av_beg (ct td g sp : Nat → Int) : Int := c_bel ct td (sp (c_nxt ct td sp).toNat) + (if av_row ct td g sp = (if c_get td 5 (c_nxt ct td sp) 0 = 0 then 1 else c_rows ct td) then 0 else c_get td 0 0 1)
def av_w (ct td bk si g sp sk go : Nat → Int) : Nat → Int := otW ct td bk si (av_row ct td g sp).toNat (nmW ct td (av_row ct td g sp).toNat 0 (nmW ct td (av_row ct td g sp).toNat 1 (w_ini (av_beg ct td g sp) sk (c_nxt ct td sp).toNat (g 7) go)))
def av_g (ct td bk si g sp sk go : Nat → Int) : Nat → Int := (fun g6 : Nat → Int => if c_get td 5 (c_nxt ct td sp) 0 = 0 then up g6 4 (g 4 + 1) else up g6 5 (g 5 - 1)) (up (up g 7 (av_w ct td bk si g sp sk go 13)) 6 (g 6 + c_begun ct td (av_beg ct td g sp) (av_w ct td bk si g sp sk go 0)))
def av_fa (ct td bk si g sp sk fa go : Nat → Int) : Nat → Int := rwX (up (up fa (11 * (av_row ct td g sp).toNat) (c_nxt ct td sp)) (11 * (av_row ct td g sp).toNat + 1) (av_beg ct td g sp)) (av_row ct td g sp).toNat (av_w ct td bk si g sp sk go)
/-- what a flight's kinds, weights and seats keep to -/
def KI (ct td bk si : Nat → Int) : Prop := (∀ i : Int, 0 ≤ i → i < ct 8 → 0 ≤ c_get td 8 i 1 ∧ c_get td 8 i 1 ≤ 3) ∧ ct 8 ≤ 6 ∧ (∀ r v, 0 ≤ c_liked td bk r v ∧ c_liked td bk r v ≤ 3) ∧ ∀ r, 0 ≤ c_unn ct td si r ∧ c_unn ct td si r ≤ 9
theorem av_begr {ct td g sp : Nat → Int} (rB : ∀ j, 0 ≤ td j ∧ td j ≤ 999) (hs : ∀ j, 0 ≤ sp j ∧ sp j ≤ 5000000) : 0 ≤ av_beg ct td g sp ∧ av_beg ct td g sp ≤ max (sp (c_nxt ct td sp).toNat) 59940 + 999 := by
  have h1 := c_bel_b (ct := ct) rB (hs (c_nxt ct td sp).toNat).1
  have h2 := c_getr rB 0 0 1
  unfold av_beg
  split <;> omega
theorem av_wB {ct td bk si g sp sk go : Nat → Int} (rB : ∀ j, 0 ≤ td j ∧ td j ≤ 999) (hK : KI ct td bk si) (hc : 0 ≤ ct 8) (hs : ∀ j, 0 ≤ sp j ∧ sp j ≤ 5000000) (hk : ∀ j, 0 ≤ sk j ∧ sk j ≤ 9999) (hz : 0 ≤ g 7 ∧ g 7 ≤ 65536) : WB (av_w ct td bk si g sp sk go) (av_beg ct td g sp + 20979) := by
  obtain ⟨k1, k2, k3, k4⟩ := hK
  have h1 := w_ini_B (sk := sk) (τ := (c_nxt ct td sp).toNat) (go := go) (av_begr (ct := ct) (g := g) rB hs).1 hk hz
  have kk : ∀ i : Int, 0 ≤ i → i < ((ct 8).toNat : Int) → 0 ≤ c_get td 8 i 1 ∧ c_get td 8 i 1 ≤ 3 := fun i a b => k1 i a (by omega)
  have h2 := nmF_B (ct := ct) (ρ := (av_row ct td g sp).toNat) (c := 1) h1 rB kk
  have h3 := nmF_B (ct := ct) (ρ := (av_row ct td g sp).toNat) (c := 0) h2 rB kk
  have h4 := otF_B (ct := ct) (bk := bk) (ρ := (av_row ct td g sp).toNat) h3 (k3 _) rB (k := (c_unn ct td si (av_row ct td g sp).toNat).toNat)
  have := k4 (av_row ct td g sp).toNat
  exact WB_mo h4 (by omega)
set_option maxHeartbeats 1000000 in
set_option maxRecDepth 20000 in
theorem s_X3_advance {l : Launch} {n : Nat} {M : jdM} {r : Nat} {g sp sk fa go : Nat → Int} (hRn : Rn M n r g sp sk fa go) {f : Nat} {ct td bk si ld : Nat → Int} (hF : Fl M n f ct td bk si ld) (hsep : f + 5 < r ∨ r + 4 < f) (hK : KI ct td bk si) (h45 : 1 ≤ g 4 ∧ g 4 ≤ g 5 ∧ g 5 ≤ 40) (hs : ∀ j, 0 ≤ sp j ∧ sp j ≤ 5000000) (hsk : ∀ j, 0 ≤ sk j ∧ sk j ≤ 9999) (hz : 0 ≤ g 7 ∧ g 7 ≤ 65536) (hfa : ∀ ρ : Nat, g 4 ≤ ρ → (ρ : Int) ≤ g 5 → ∀ o, o < 11 → fa (11 * ρ + o) = 0) : Ct l yX3_advance cX3_advance 7 (some .int) rX3_advance [.ref r, .ref f] n M (fun vv n' M' => (vv = some (jI (av_row ct td g sp)) ∧ n = n') ∧ Rn M' n r (av_g ct td bk si g sp sk go) (up sp (c_nxt ct td sp).toNat (av_w ct td bk si g sp sk go 0)) (rwS sk (c_nxt ct td sp).toNat (av_w ct td bk si g sp sk go)) (av_fa ct td bk si g sp sk fa go) (gtX (av_w ct td bk si g sp sk go)) ∧ fr (RnS r) M M') := by
  refine Ct_of [some (.ref r), some (.ref f), none, none, none, none, none] (by decide) (Nat.le_of_ble_eq_true rfl) rfl (fun κ hl h hR hRt hmn hn0 => ?_)
  have h : Ok κ RX3 cX3_advance 7 (some .int) := h
  obtain ⟨hn, hO, hA, hB, hC, hD⟩ := id hRn
  obtain ⟨hnF, hOF, hAF, hBF, hCF, hDF, hEF, rA, rB, r0, rC, rD, rE⟩ := id hF
  have r8 := rA 8
  have ctr : 0 ≤ c_rows ct td ∧ c_rows ct td ≤ 40 := by
    unfold c_rows c_get
    have := (rB 0).1
    split
    · omega
    · rw [if_pos (by omega)]
      exact ⟨this, r0⟩
  obtain ⟨τ, eτ⟩ : ∃ τ : Nat, c_nxt ct td sp = (τ : Int) := ⟨(c_nxt ct td sp).toNat, by have := c_nxt_r (ct := ct) (td := td) (sp := sp); omega⟩
  have hτr : τ ≤ 1 := by have := c_nxt_r (ct := ct) (td := td) (sp := sp); omega
  obtain ⟨ρ, eρ⟩ : ∃ ρ : Nat, av_row ct td g sp = (ρ : Int) := ⟨(av_row ct td g sp).toNat, by unfold av_row; split <;> omega⟩
  have hρr : g 4 ≤ (ρ : Int) ∧ (ρ : Int) ≤ g 5 := by rw [← eρ]; unfold av_row; split <;> omega
  have zf := hfa ρ hρr.1 hρr.2
  have hst := hs τ
  refine jr_aload_n (pc := 0) h dX3_advance_0 rfl ?_
  refine jr_aload_n (pc := 1) h dX3_advance_1 rfl ?_
  refine iv_X3_62 (pc := 2) h hl hR dX3_advance_2 ⟨(Nat.le_of_ble_eq_true rfl), (Nat.le_of_ble_eq_true rfl), (Nat.le_of_ble_eq_true rfl), (Nat.le_of_ble_eq_true rfl)⟩ (Nat.le_of_ble_eq_true rfl) (by assumption) (by omega) (s_X3_nextTrolley hRn hF ⟨(hs 0).1, by have := (hs 0).2; omega⟩ ⟨(hs 1).1, by have := (hs 1).2; omega⟩) (fun v_2 n_2 M_2 hn_2 hp => ?_)
  obtain ⟨⟨rfl, rfl, rfl⟩, gr_2⟩ := hp
  rw [eτ] at gr_2 ⊢
  refine jr_istore_n (pc := 5) h [_, _, _, _, _, _, _] dX3_advance_5 (by decide) rfl ?_
  refine jr_aload_n (pc := 6) h dX3_advance_6 rfl ?_
  refine jr_iload_n (pc := 7) h dX3_advance_7 rfl ?_
  refine iv_X3_66 (pc := 8) h hl hR dX3_advance_8 ⟨(Nat.le_of_ble_eq_true rfl), (Nat.le_of_ble_eq_true rfl), (Nat.le_of_ble_eq_true rfl), (Nat.le_of_ble_eq_true rfl)⟩ (Nat.le_of_ble_eq_true rfl) (by assumption) (by omega) (s_X1_isFront hF (by omega)) (fun v_8 n_8 M_8 hn_8 hp => ?_)
  obtain ⟨⟨rfl, rfl, rfl⟩, gr_8⟩ := hp
  refine jr_istore_n (pc := 11) h [_, _, _, _, _, _, _] dX3_advance_11 (by decide) rfl ?_
  refine jr_iload_n (pc := 12) h dX3_advance_12 rfl ?_
  refine jr_if_eq (pc := 13) h 23 dX3_advance_13 (by decide) (by omega) (fun c_13 => ?_) (fun c_13 => ?_)
  · skip
    skip
    refine jr_aload_n (pc := 23) h dX3_advance_23 rfl ?_
    refine gf_X3_44 (pc := 24) h dX3_advance_24 (by assumption) (by omega) ?_
    have e4 : g 5 = (ρ : Int) := by
      rw [← eρ]
      exact (if_neg (by rw [eτ]; exact bz_0.mp c_13)).symm
    rw [show fX3 r g 5 = jI (ρ : Int) from congrArg (fun z => jI z) e4]
    have hft : ¬ c_get td 5 τ 0 = 0 := bz_0.mp c_13
    refine jr_istore (pc := 27) h [_, _, _, _, _, _, _] dX3_advance_27 (by decide) rfl ?_
    refine jr_iload (pc := 29) h dX3_advance_29 rfl ?_
    refine jr_iload_n (pc := 31) h dX3_advance_31 rfl ?_
    refine jr_if_eq (pc := 32) h 39 dX3_advance_32 (by decide) (by omega) (fun _ => ?_) (fun c => absurd c_13 c)
    refine jr_aload_n (pc := 39) h dX3_advance_39 rfl ?_
    refine iv_X3_40 (pc := 40) h hl hR dX3_advance_40 ⟨(Nat.le_of_ble_eq_true rfl), (Nat.le_of_ble_eq_true rfl), (Nat.le_of_ble_eq_true rfl), (Nat.le_of_ble_eq_true rfl)⟩ (Nat.le_of_ble_eq_true rfl) (by assumption) (by omega) (s_X1_rows hF) (fun v_40 n_40 M_40 hn_40 hp => ?_)
    obtain ⟨⟨rfl, rfl, rfl⟩, gr_40⟩ := hp
    refine jr_icmp_ne (pc := 43) h 50 dX3_advance_43 (by decide) (by omega) (by omega) (fun c_43 => ?_) (fun c_43 => ?_)
    · skip
      skip
      refine jr_iconst (pc := 50) h dX3_advance_50 ?_
      refine jr_istore (pc := 51) h [_, _, _, _, _, _, _] dX3_advance_51 (by decide) rfl ?_
      refine jr_aload_n (pc := 53) h dX3_advance_53 rfl ?_
      refine jr_aload_n (pc := 54) h dX3_advance_54 rfl ?_
      refine gf_X3_9 (pc := 55) h dX3_advance_55 (by assumption) (by omega) ?_
      refine jr_iload_n (pc := 58) h dX3_advance_58 rfl ?_
      skip
      refine jr_iald (pc := 59) h dX3_advance_59 (by assumption) (by omega) (by omega) ?_
      rw [Int.toNat_natCast]
      refine iv_X3_70 (pc := 60) h hl hR dX3_advance_60 ⟨(Nat.le_of_ble_eq_true rfl), (Nat.le_of_ble_eq_true rfl), (Nat.le_of_ble_eq_true rfl), (Nat.le_of_ble_eq_true rfl)⟩ (Nat.le_of_ble_eq_true rfl) (by assumption) (by omega) (s_X1_behindBelts hF (by omega)) (fun v_60 n_60 M_60 hn_60 hp => ?_)
      obtain ⟨⟨rfl, rfl, rfl⟩, gr_60⟩ := hp
      refine jr_iload (pc := 63) h dX3_advance_63 rfl ?_
      refine jr_if_eq (pc := 65) h 72 dX3_advance_65 (by decide) (by omega) (fun _ => ?_) (fun c => absurd rfl c)
      refine jr_aload_n (pc := 72) h dX3_advance_72 rfl ?_
      refine iv_X3_74 (pc := 73) h hl hR dX3_advance_73 ⟨(Nat.le_of_ble_eq_true rfl), (Nat.le_of_ble_eq_true rfl), (Nat.le_of_ble_eq_true rfl), (Nat.le_of_ble_eq_true rfl)⟩ (Nat.le_of_ble_eq_true rfl) (by assumption) (by omega) (s_X1_walk hF) (fun v_73 n_73 M_73 hn_73 hp => ?_)
      obtain ⟨⟨rfl, rfl, rfl⟩, gr_73⟩ := hp
      refine jr_iadd (pc := 76) h dX3_advance_76 ?_
      have eb : c_bel ct td (sp τ) + (c_get td 0 0 1) = av_beg ct td g sp := by
        unfold av_beg
        rw [eρ, eτ, if_neg hft, if_neg (by omega)]
        simp only [Int.toNat_natCast]
      rw [eb]
      have hbg := av_begr (ct := ct) (g := g) rB hs
      obtain ⟨bg, ebg⟩ : ∃ z, av_beg ct td g sp = z := ⟨_, rfl⟩
      rw [ebg] at hbg ⊢
      have hs9 := hs (c_nxt ct td sp).toNat
      refine jr_istore (pc := 77) h [_, _, _, _, _, _, _] dX3_advance_77 (by decide) rfl ?_
      refine jr_aload_n (pc := 79) h dX3_advance_79 rfl ?_
      refine jr_iload (pc := 80) h dX3_advance_80 rfl ?_
      refine jr_iconst (pc := 82) h dX3_advance_82 ?_
      refine jr_iload_n (pc := 83) h dX3_advance_83 rfl ?_
      refine iv_X3_77 (pc := 84) h hl hR dX3_advance_84 ⟨(Nat.le_of_ble_eq_true rfl), (Nat.le_of_ble_eq_true rfl), (Nat.le_of_ble_eq_true rfl), (Nat.le_of_ble_eq_true rfl)⟩ (Nat.le_of_ble_eq_true rfl) (by assumption) (by omega) (s_X3_addFact hRn (by omega) (by omega)) (fun v_84 n_84 M_84 hn_84 hp => ?_)
      obtain ⟨rfl, rfl, R9, f9⟩ := hp
      rw [show ((ρ : Int) * 11 + 0).toNat = 11 * ρ by omega, show fa (11 * ρ) = 0 from zf 0 (by omega), Int.zero_add] at R9
      have f1 := f9
      obtain ⟨-, hO, hA, hB, hC, hD⟩ := id R9
      refine jr_aload_n (pc := 87) h dX3_advance_87 rfl ?_
      refine jr_iload (pc := 88) h dX3_advance_88 rfl ?_
      refine jr_iconst (pc := 90) h dX3_advance_90 ?_
      refine jr_iload (pc := 91) h dX3_advance_91 rfl ?_
      refine iv_X3_77 (pc := 93) h hl hR dX3_advance_93 ⟨(Nat.le_of_ble_eq_true rfl), (Nat.le_of_ble_eq_true rfl), (Nat.le_of_ble_eq_true rfl), (Nat.le_of_ble_eq_true rfl)⟩ (Nat.le_of_ble_eq_true rfl) (by assumption) (by omega) (s_X3_addFact R9 (by omega) (by omega)) (fun v_93 n_93 M_93 hn_93 hp => ?_)
      obtain ⟨rfl, rfl, R9, f9⟩ := hp
      rw [show ((ρ : Int) * 11 + 1).toNat = 11 * ρ + 1 by omega, up_ne (by omega), show fa (11 * ρ + 1) = 0 from zf 1 (by omega), Int.zero_add] at R9
      have f1 := fr_tr f1 f9
      obtain ⟨-, hO, hA, hB, hC, hD⟩ := id R9
      refine jr_aload_n (pc := 96) h dX3_advance_96 rfl ?_
      refine jr_iload (pc := 97) h dX3_advance_97 rfl ?_
      refine jr_iconst (pc := 99) h dX3_advance_99 ?_
      refine jr_iload (pc := 100) h dX3_advance_100 rfl ?_
      refine iv_X3_77 (pc := 102) h hl hR dX3_advance_102 ⟨(Nat.le_of_ble_eq_true rfl), (Nat.le_of_ble_eq_true rfl), (Nat.le_of_ble_eq_true rfl), (Nat.le_of_ble_eq_true rfl)⟩ (Nat.le_of_ble_eq_true rfl) (by assumption) (by omega) (s_X3_addFact R9 (by omega) (by omega)) (fun v_102 n_102 M_102 hn_102 hp => ?_)
      obtain ⟨rfl, rfl, R9, f9⟩ := hp
      rw [show ((ρ : Int) * 11 + 2).toNat = 11 * ρ + 2 by omega, up_ne (show 11 * ρ + 2 ≠ 11 * ρ + 1 by omega), up_ne (show 11 * ρ + 2 ≠ 11 * ρ by omega), show fa (11 * ρ + 2) = 0 from zf 2 (by omega), Int.zero_add, w_ini_X (sk := sk) (τ := τ) (z := g 7) (go := go) zf] at R9
      obtain ⟨-, hO, hA, hB, hC, hD⟩ := id R9
      have f1 := fr_tr f1 f9
      have hF := Fl_fr hF f1 (Nat.le_refl _) (fun k h1 h2 q => by have := q.1; have := q.2; omega)
      obtain ⟨hnF, hOF, hAF, hBF, -⟩ := id hF
      have hW : RWp M_102 n r g sp sk (up (up fa (11 * ρ) (τ : Int)) (11 * ρ + 1) bg) ρ τ (w_ini bg sk τ (g 7) go) := by
        refine ⟨?_, by rw [up_ne (by omega), up_eq], by omega, by omega⟩
        rw [w_ini_S, w_ini_G, show w_ini bg sk τ (g 7) go 13 = g 7 from rfl, up_id rfl]
        exact R9
      have hB0 : WB (w_ini bg sk τ (g 7) go) bg := w_ini_B (by omega) hsk hz
      have kk : ∀ i : Int, 0 ≤ i → i < ((ct 8).toNat : Int) → 0 ≤ c_get td 8 i 1 ∧ c_get td 8 i 1 ≤ 3 := fun i a b => hK.1 i a (by omega)
      refine jr_aload_n (pc := 105) h dX3_advance_105 rfl ?_
      refine jr_aload_n (pc := 106) h dX3_advance_106 rfl ?_
      refine jr_iload (pc := 107) h dX3_advance_107 rfl ?_
      refine jr_iconst (pc := 109) h dX3_advance_109 ?_
      refine iv_X3_81 (pc := 110) h hl hR dX3_advance_110 ⟨(Nat.le_of_ble_eq_true rfl), (Nat.le_of_ble_eq_true rfl), (Nat.le_of_ble_eq_true rfl), (Nat.le_of_ble_eq_true rfl)⟩ (Nat.le_of_ble_eq_true rfl) (by assumption) (by omega) (s_X3_serveNamed hW hF hsep hK.1 hK.2.1 hB0 (by omega) (c := 1) (by omega)) (fun v_110 n_110 M_110 hn_110 hp => ?_)
      obtain ⟨⟨rfl, rfl⟩, hW, f9⟩ := hp
      have hF := Fl_fr hF f9 (Nat.le_refl _) (fun k h1 h2 q => by have := q.1; have := q.2; omega)
      have f1 := fr_tr f1 f9
      obtain ⟨R1, hby0, hρ2, hτ2⟩ := id hW
      obtain ⟨hn, hO, hA, hB, hC, hD⟩ := id R1
      obtain ⟨hnF, hOF, hAF, hBF, -⟩ := id hF
      have hB1 : WB (nmW ct td ρ 1 (w_ini bg sk τ (g 7) go)) _ := nmF_B (ct := ct) (ρ := ρ) (c := 1) hB0 rB kk
      refine jr_aload_n (pc := 113) h dX3_advance_113 rfl ?_
      refine jr_aload_n (pc := 114) h dX3_advance_114 rfl ?_
      refine jr_iload (pc := 115) h dX3_advance_115 rfl ?_
      refine jr_iconst (pc := 117) h dX3_advance_117 ?_
      refine iv_X3_81 (pc := 118) h hl hR dX3_advance_118 ⟨(Nat.le_of_ble_eq_true rfl), (Nat.le_of_ble_eq_true rfl), (Nat.le_of_ble_eq_true rfl), (Nat.le_of_ble_eq_true rfl)⟩ (Nat.le_of_ble_eq_true rfl) (by assumption) (by omega) (s_X3_serveNamed hW hF hsep hK.1 hK.2.1 hB1 (by omega) (c := 0) (by omega)) (fun v_118 n_118 M_118 hn_118 hp => ?_)
      obtain ⟨⟨rfl, rfl⟩, hW, f9⟩ := hp
      have hF := Fl_fr hF f9 (Nat.le_refl _) (fun k h1 h2 q => by have := q.1; have := q.2; omega)
      have f1 := fr_tr f1 f9
      obtain ⟨R1, hby0, hρ2, hτ2⟩ := id hW
      obtain ⟨hn, hO, hA, hB, hC, hD⟩ := id R1
      obtain ⟨hnF, hOF, hAF, hBF, -⟩ := id hF
      have hB2 : WB (nmW ct td ρ 0 (nmW ct td ρ 1 (w_ini bg sk τ (g 7) go))) _ := nmF_B (ct := ct) (ρ := ρ) (c := 0) hB1 rB kk
      refine jr_aload_n (pc := 121) h dX3_advance_121 rfl ?_
      refine jr_aload_n (pc := 122) h dX3_advance_122 rfl ?_
      refine jr_iload (pc := 123) h dX3_advance_123 rfl ?_
      refine iv_X3_85 (pc := 125) h hl hR dX3_advance_125 ⟨(Nat.le_of_ble_eq_true rfl), (Nat.le_of_ble_eq_true rfl), (Nat.le_of_ble_eq_true rfl), (Nat.le_of_ble_eq_true rfl)⟩ (Nat.le_of_ble_eq_true rfl) (by assumption) (by omega) (s_X3_serveOthers hW hF hsep (hK.2.2.1 _) (hK.2.2.2 _) hB2 (by omega)) (fun v_125 n_125 M_125 hn_125 hp => ?_)
      obtain ⟨⟨rfl, rfl⟩, hW, f9⟩ := hp
      have hF := Fl_fr hF f9 (Nat.le_refl _) (fun k h1 h2 q => by have := q.1; have := q.2; omega)
      have f1 := fr_tr f1 f9
      have hB3 := otF_B (ct := ct) (bk := bk) (ρ := ρ) hB2 (hK.2.2.1 _) rB (k := (c_unn ct td si ρ).toNat)
      have hB3 : WB (otW ct td bk si ρ (nmW ct td ρ 0 (nmW ct td ρ 1 (w_ini bg sk τ (g 7) go)))) _ := hB3
      have ew : otW ct td bk si ρ (nmW ct td ρ 0 (nmW ct td ρ 1 (w_ini bg sk τ (g 7) go))) = av_w ct td bk si g sp sk go := by
        unfold av_w
        rw [eρ, eτ, ebg]
        simp only [Int.toNat_natCast]
      rw [ew] at hW hB3
      obtain ⟨w9, ew9⟩ : ∃ w9, av_w ct td bk si g sp sk go = w9 := ⟨_, rfl⟩
      rw [ew9] at hW hB3
      obtain ⟨hnF, hOF, hAF, hBF, -⟩ := id hF
      obtain ⟨R1, hby0, hρ2, hτ2⟩ := id hW
      obtain ⟨hn, hO, hA, hB, hC, hD⟩ := id R1
      refine jr_aload_n (pc := 128) h dX3_advance_128 rfl ?_
      refine gf_X3_9 (pc := 129) h dX3_advance_129 (by assumption) (by omega) ?_
      refine jr_iload_n (pc := 132) h dX3_advance_132 rfl ?_
      refine jr_aload_n (pc := 133) h dX3_advance_133 rfl ?_
      refine jr_iload (pc := 134) h dX3_advance_134 rfl ?_
      refine jr_iconst (pc := 136) h dX3_advance_136 ?_
      refine iv_X3_59 (pc := 137) h hl hR dX3_advance_137 ⟨(Nat.le_of_ble_eq_true rfl), (Nat.le_of_ble_eq_true rfl), (Nat.le_of_ble_eq_true rfl), (Nat.le_of_ble_eq_true rfl)⟩ (Nat.le_of_ble_eq_true rfl) (by assumption) (by omega) (s_X3_fact R1 (by omega) (by omega)) (fun v_137 n_137 M_137 hn_137 hp => ?_)
      obtain ⟨rfl, rfl, rfl⟩ := hp
      rw [cf_w hρ2 (by omega), show Int.toNat (2 - 2) = 0 from rfl]
      refine jr_iast (pc := 140) h dX3_advance_140 (by assumption) (by omega) (by omega) ?_
      refine jm_gen (fun M2 hM2 => ?_)
      rw [Int.toNat_natCast] at hM2
      have R2 := Rn_sp R1 hM2
      have f1 := fr_tr f1 (fr_up hM2 ⟨by omega, by omega⟩)
      have hF := Fl_fr hF (fr_up (S := RnS r) hM2 ⟨by omega, by omega⟩) (Nat.le_refl _) (fun k h1 h2 q => by have := q.1; have := q.2; omega)
      obtain ⟨hnF, hOF, hAF, hBF, -⟩ := id hF
      obtain ⟨hn, hO, hA, hB, hC, hD⟩ := id R2
      have hun9 := hK.2.2.2 ρ
      refine jr_aload_n (pc := 141) h dX3_advance_141 rfl ?_
      refine jr_dup (pc := 142) h dX3_advance_142 rfl ?_
      refine gf_X3_47 (pc := 143) h dX3_advance_143 (by assumption) (by omega) ?_
      refine jr_aload_n (pc := 146) h dX3_advance_146 rfl ?_
      refine jr_iload (pc := 147) h dX3_advance_147 rfl ?_
      refine jr_aload_n (pc := 149) h dX3_advance_149 rfl ?_
      refine gf_X3_9 (pc := 150) h dX3_advance_150 (by assumption) (by omega) ?_
      refine jr_iload_n (pc := 153) h dX3_advance_153 rfl ?_
      refine jr_iald (pc := 154) h dX3_advance_154 (by assumption) (by omega) (by omega) ?_
      rw [Int.toNat_natCast, up_eq]
      refine iv_X3_89 (pc := 155) h hl hR dX3_advance_155 ⟨(Nat.le_of_ble_eq_true rfl), (Nat.le_of_ble_eq_true rfl), (Nat.le_of_ble_eq_true rfl), (Nat.le_of_ble_eq_true rfl)⟩ (Nat.le_of_ble_eq_true rfl) (by assumption) (by omega) (s_X1_beltsBegunWithin hF (by omega) (by have := hB3.1; omega)) (fun v_155 n_155 M_155 hn_155 hp => ?_)
      obtain ⟨⟨rfl, rfl, rfl⟩, gr_155⟩ := hp
      refine jr_iadd (pc := 158) h dX3_advance_158 ?_
      refine pf_X3_47 (pc := 159) h dX3_advance_159 (by assumption) (by omega) ?_
      refine jm_gen (fun M2 hM2 => ?_)
      have R3 := Rn_f6 R2 hM2
      have f1 := fr_tr f1 (fr_up hM2 ⟨by omega, by omega⟩)
      obtain ⟨hn, hO, hA, hB, hC, hD⟩ := id R3
      refine jr_iload_n (pc := 162) h dX3_advance_162 rfl ?_
      refine jr_if_eq (pc := 163) h 179 dX3_advance_163 (by decide) (by omega) (fun _ => ?_) (fun c => absurd c_13 c)
      refine jr_aload_n (pc := 179) h dX3_advance_179 rfl ?_
      refine jr_dup (pc := 180) h dX3_advance_180 rfl ?_
      refine gf_X3_44 (pc := 181) h dX3_advance_181 (by assumption) (by omega) ?_
      refine jr_iconst (pc := 184) h dX3_advance_184 ?_
      refine jr_isub (pc := 185) h dX3_advance_185 ?_
      refine pf_X3_44 (pc := 186) h dX3_advance_186 (by assumption) (by omega) ?_
      refine jm_gen (fun M2 hM2 => ?_)
      have R4 := Rn_f5 R3 hM2
      have f1 := fr_tr f1 (fr_up hM2 ⟨by omega, by omega⟩)
      obtain ⟨hn, hO, hA, hB, hC, hD⟩ := id R4
      refine jr_iload (pc := 189) h dX3_advance_189 rfl ?_
      refine jr_iret (pc := 191) h hRt dX3_advance_191 rfl (Nat.le_of_ble_eq_true rfl) (Nat.le_of_ble_eq_true rfl) ?_
      have efa : av_fa ct td bk si g sp sk fa go = rwX (up (up fa (11 * ρ) (τ : Int)) (11 * ρ + 1) bg) ρ w9 := by
        unfold av_fa
        rw [eρ, eτ, ebg, ew9]
        simp only [Int.toNat_natCast]
      have egl : av_g ct td bk si g sp sk go = up (up (up g 7 (w9 13)) 6 (g 6 + c_begun ct td bg (w9 0))) 5 (g 5 - 1) := by
        unfold av_g
        rw [ew9, ebg, eτ]
        exact if_neg hft
      rw [efa, egl, eρ, eτ, ew9, Int.toNat_natCast]
      refine ⟨⟨rfl, rfl⟩, ?_, f1⟩
      exact R4
    · skip
      skip
      refine jr_iconst (pc := 46) h dX3_advance_46 ?_
      refine jr_goto (pc := 47) h 51 dX3_advance_47 (by decide) ?_
      refine jr_istore (pc := 51) h [_, _, _, _, _, _, _] dX3_advance_51 (by decide) rfl ?_
      refine jr_aload_n (pc := 53) h dX3_advance_53 rfl ?_
      refine jr_aload_n (pc := 54) h dX3_advance_54 rfl ?_
      refine gf_X3_9 (pc := 55) h dX3_advance_55 (by assumption) (by omega) ?_
      refine jr_iload_n (pc := 58) h dX3_advance_58 rfl ?_
      skip
      refine jr_iald (pc := 59) h dX3_advance_59 (by assumption) (by omega) (by omega) ?_
      rw [Int.toNat_natCast]
      refine iv_X3_70 (pc := 60) h hl hR dX3_advance_60 ⟨(Nat.le_of_ble_eq_true rfl), (Nat.le_of_ble_eq_true rfl), (Nat.le_of_ble_eq_true rfl), (Nat.le_of_ble_eq_true rfl)⟩ (Nat.le_of_ble_eq_true rfl) (by assumption) (by omega) (s_X1_behindBelts hF (by omega)) (fun v_60 n_60 M_60 hn_60 hp => ?_)
      obtain ⟨⟨rfl, rfl, rfl⟩, gr_60⟩ := hp
      refine jr_iload (pc := 63) h dX3_advance_63 rfl ?_
      refine jr_if_eq (pc := 65) h 72 dX3_advance_65 (by decide) (by omega) (fun c => absurd c (by decide)) (fun _ => ?_)
      refine jr_iconst (pc := 68) h dX3_advance_68 ?_
      refine jr_goto (pc := 69) h 76 dX3_advance_69 (by decide) ?_
      refine jr_iadd (pc := 76) h dX3_advance_76 ?_
      have eb : c_bel ct td (sp τ) + 0 = av_beg ct td g sp := by
        unfold av_beg
        rw [eρ, eτ, if_neg hft, if_pos (by omega)]
        simp only [Int.toNat_natCast]
      rw [eb]
      have hbg := av_begr (ct := ct) (g := g) rB hs
      obtain ⟨bg, ebg⟩ : ∃ z, av_beg ct td g sp = z := ⟨_, rfl⟩
      rw [ebg] at hbg ⊢
      have hs9 := hs (c_nxt ct td sp).toNat
      refine jr_istore (pc := 77) h [_, _, _, _, _, _, _] dX3_advance_77 (by decide) rfl ?_
      refine jr_aload_n (pc := 79) h dX3_advance_79 rfl ?_
      refine jr_iload (pc := 80) h dX3_advance_80 rfl ?_
      refine jr_iconst (pc := 82) h dX3_advance_82 ?_
      refine jr_iload_n (pc := 83) h dX3_advance_83 rfl ?_
      refine iv_X3_77 (pc := 84) h hl hR dX3_advance_84 ⟨(Nat.le_of_ble_eq_true rfl), (Nat.le_of_ble_eq_true rfl), (Nat.le_of_ble_eq_true rfl), (Nat.le_of_ble_eq_true rfl)⟩ (Nat.le_of_ble_eq_true rfl) (by assumption) (by omega) (s_X3_addFact hRn (by omega) (by omega)) (fun v_84 n_84 M_84 hn_84 hp => ?_)
      obtain ⟨rfl, rfl, R9, f9⟩ := hp
      rw [show ((ρ : Int) * 11 + 0).toNat = 11 * ρ by omega, show fa (11 * ρ) = 0 from zf 0 (by omega), Int.zero_add] at R9
      have f1 := f9
      obtain ⟨-, hO, hA, hB, hC, hD⟩ := id R9
      refine jr_aload_n (pc := 87) h dX3_advance_87 rfl ?_
      refine jr_iload (pc := 88) h dX3_advance_88 rfl ?_
      refine jr_iconst (pc := 90) h dX3_advance_90 ?_
      refine jr_iload (pc := 91) h dX3_advance_91 rfl ?_
      refine iv_X3_77 (pc := 93) h hl hR dX3_advance_93 ⟨(Nat.le_of_ble_eq_true rfl), (Nat.le_of_ble_eq_true rfl), (Nat.le_of_ble_eq_true rfl), (Nat.le_of_ble_eq_true rfl)⟩ (Nat.le_of_ble_eq_true rfl) (by assumption) (by omega) (s_X3_addFact R9 (by omega) (by omega)) (fun v_93 n_93 M_93 hn_93 hp => ?_)
      obtain ⟨rfl, rfl, R9, f9⟩ := hp
      rw [show ((ρ : Int) * 11 + 1).toNat = 11 * ρ + 1 by omega, up_ne (by omega), show fa (11 * ρ + 1) = 0 from zf 1 (by omega), Int.zero_add] at R9
      have f1 := fr_tr f1 f9
      obtain ⟨-, hO, hA, hB, hC, hD⟩ := id R9
      refine jr_aload_n (pc := 96) h dX3_advance_96 rfl ?_
      refine jr_iload (pc := 97) h dX3_advance_97 rfl ?_
      refine jr_iconst (pc := 99) h dX3_advance_99 ?_
      refine jr_iload (pc := 100) h dX3_advance_100 rfl ?_
      refine iv_X3_77 (pc := 102) h hl hR dX3_advance_102 ⟨(Nat.le_of_ble_eq_true rfl), (Nat.le_of_ble_eq_true rfl), (Nat.le_of_ble_eq_true rfl), (Nat.le_of_ble_eq_true rfl)⟩ (Nat.le_of_ble_eq_true rfl) (by assumption) (by omega) (s_X3_addFact R9 (by omega) (by omega)) (fun v_102 n_102 M_102 hn_102 hp => ?_)
      obtain ⟨rfl, rfl, R9, f9⟩ := hp
      rw [show ((ρ : Int) * 11 + 2).toNat = 11 * ρ + 2 by omega, up_ne (show 11 * ρ + 2 ≠ 11 * ρ + 1 by omega), up_ne (show 11 * ρ + 2 ≠ 11 * ρ by omega), show fa (11 * ρ + 2) = 0 from zf 2 (by omega), Int.zero_add, w_ini_X (sk := sk) (τ := τ) (z := g 7) (go := go) zf] at R9
      obtain ⟨-, hO, hA, hB, hC, hD⟩ := id R9
      have f1 := fr_tr f1 f9
      have hF := Fl_fr hF f1 (Nat.le_refl _) (fun k h1 h2 q => by have := q.1; have := q.2; omega)
      obtain ⟨hnF, hOF, hAF, hBF, -⟩ := id hF
      have hW : RWp M_102 n r g sp sk (up (up fa (11 * ρ) (τ : Int)) (11 * ρ + 1) bg) ρ τ (w_ini bg sk τ (g 7) go) := by
        refine ⟨?_, by rw [up_ne (by omega), up_eq], by omega, by omega⟩
        rw [w_ini_S, w_ini_G, show w_ini bg sk τ (g 7) go 13 = g 7 from rfl, up_id rfl]
        exact R9
      have hB0 : WB (w_ini bg sk τ (g 7) go) bg := w_ini_B (by omega) hsk hz
      have kk : ∀ i : Int, 0 ≤ i → i < ((ct 8).toNat : Int) → 0 ≤ c_get td 8 i 1 ∧ c_get td 8 i 1 ≤ 3 := fun i a b => hK.1 i a (by omega)
      refine jr_aload_n (pc := 105) h dX3_advance_105 rfl ?_
      refine jr_aload_n (pc := 106) h dX3_advance_106 rfl ?_
      refine jr_iload (pc := 107) h dX3_advance_107 rfl ?_
      refine jr_iconst (pc := 109) h dX3_advance_109 ?_
      refine iv_X3_81 (pc := 110) h hl hR dX3_advance_110 ⟨(Nat.le_of_ble_eq_true rfl), (Nat.le_of_ble_eq_true rfl), (Nat.le_of_ble_eq_true rfl), (Nat.le_of_ble_eq_true rfl)⟩ (Nat.le_of_ble_eq_true rfl) (by assumption) (by omega) (s_X3_serveNamed hW hF hsep hK.1 hK.2.1 hB0 (by omega) (c := 1) (by omega)) (fun v_110 n_110 M_110 hn_110 hp => ?_)
      obtain ⟨⟨rfl, rfl⟩, hW, f9⟩ := hp
      have hF := Fl_fr hF f9 (Nat.le_refl _) (fun k h1 h2 q => by have := q.1; have := q.2; omega)
      have f1 := fr_tr f1 f9
      obtain ⟨R1, hby0, hρ2, hτ2⟩ := id hW
      obtain ⟨hn, hO, hA, hB, hC, hD⟩ := id R1
      obtain ⟨hnF, hOF, hAF, hBF, -⟩ := id hF
      have hB1 : WB (nmW ct td ρ 1 (w_ini bg sk τ (g 7) go)) _ := nmF_B (ct := ct) (ρ := ρ) (c := 1) hB0 rB kk
      refine jr_aload_n (pc := 113) h dX3_advance_113 rfl ?_
      refine jr_aload_n (pc := 114) h dX3_advance_114 rfl ?_
      refine jr_iload (pc := 115) h dX3_advance_115 rfl ?_
      refine jr_iconst (pc := 117) h dX3_advance_117 ?_
      refine iv_X3_81 (pc := 118) h hl hR dX3_advance_118 ⟨(Nat.le_of_ble_eq_true rfl), (Nat.le_of_ble_eq_true rfl), (Nat.le_of_ble_eq_true rfl), (Nat.le_of_ble_eq_true rfl)⟩ (Nat.le_of_ble_eq_true rfl) (by assumption) (by omega) (s_X3_serveNamed hW hF hsep hK.1 hK.2.1 hB1 (by omega) (c := 0) (by omega)) (fun v_118 n_118 M_118 hn_118 hp => ?_)
      obtain ⟨⟨rfl, rfl⟩, hW, f9⟩ := hp
      have hF := Fl_fr hF f9 (Nat.le_refl _) (fun k h1 h2 q => by have := q.1; have := q.2; omega)
      have f1 := fr_tr f1 f9
      obtain ⟨R1, hby0, hρ2, hτ2⟩ := id hW
      obtain ⟨hn, hO, hA, hB, hC, hD⟩ := id R1
      obtain ⟨hnF, hOF, hAF, hBF, -⟩ := id hF
      have hB2 : WB (nmW ct td ρ 0 (nmW ct td ρ 1 (w_ini bg sk τ (g 7) go))) _ := nmF_B (ct := ct) (ρ := ρ) (c := 0) hB1 rB kk
      refine jr_aload_n (pc := 121) h dX3_advance_121 rfl ?_
      refine jr_aload_n (pc := 122) h dX3_advance_122 rfl ?_
      refine jr_iload (pc := 123) h dX3_advance_123 rfl ?_
      refine iv_X3_85 (pc := 125) h hl hR dX3_advance_125 ⟨(Nat.le_of_ble_eq_true rfl), (Nat.le_of_ble_eq_true rfl), (Nat.le_of_ble_eq_true rfl), (Nat.le_of_ble_eq_true rfl)⟩ (Nat.le_of_ble_eq_true rfl) (by assumption) (by omega) (s_X3_serveOthers hW hF hsep (hK.2.2.1 _) (hK.2.2.2 _) hB2 (by omega)) (fun v_125 n_125 M_125 hn_125 hp => ?_)
      obtain ⟨⟨rfl, rfl⟩, hW, f9⟩ := hp
      have hF := Fl_fr hF f9 (Nat.le_refl _) (fun k h1 h2 q => by have := q.1; have := q.2; omega)
      have f1 := fr_tr f1 f9
      have hB3 := otF_B (ct := ct) (bk := bk) (ρ := ρ) hB2 (hK.2.2.1 _) rB (k := (c_unn ct td si ρ).toNat)
      have hB3 : WB (otW ct td bk si ρ (nmW ct td ρ 0 (nmW ct td ρ 1 (w_ini bg sk τ (g 7) go)))) _ := hB3
      have ew : otW ct td bk si ρ (nmW ct td ρ 0 (nmW ct td ρ 1 (w_ini bg sk τ (g 7) go))) = av_w ct td bk si g sp sk go := by
        unfold av_w
        rw [eρ, eτ, ebg]
        simp only [Int.toNat_natCast]
      rw [ew] at hW hB3
      obtain ⟨w9, ew9⟩ : ∃ w9, av_w ct td bk si g sp sk go = w9 := ⟨_, rfl⟩
      rw [ew9] at hW hB3
      obtain ⟨hnF, hOF, hAF, hBF, -⟩ := id hF
      obtain ⟨R1, hby0, hρ2, hτ2⟩ := id hW
      obtain ⟨hn, hO, hA, hB, hC, hD⟩ := id R1
      refine jr_aload_n (pc := 128) h dX3_advance_128 rfl ?_
      refine gf_X3_9 (pc := 129) h dX3_advance_129 (by assumption) (by omega) ?_
      refine jr_iload_n (pc := 132) h dX3_advance_132 rfl ?_
      refine jr_aload_n (pc := 133) h dX3_advance_133 rfl ?_
      refine jr_iload (pc := 134) h dX3_advance_134 rfl ?_
      refine jr_iconst (pc := 136) h dX3_advance_136 ?_
      refine iv_X3_59 (pc := 137) h hl hR dX3_advance_137 ⟨(Nat.le_of_ble_eq_true rfl), (Nat.le_of_ble_eq_true rfl), (Nat.le_of_ble_eq_true rfl), (Nat.le_of_ble_eq_true rfl)⟩ (Nat.le_of_ble_eq_true rfl) (by assumption) (by omega) (s_X3_fact R1 (by omega) (by omega)) (fun v_137 n_137 M_137 hn_137 hp => ?_)
      obtain ⟨rfl, rfl, rfl⟩ := hp
      rw [cf_w hρ2 (by omega), show Int.toNat (2 - 2) = 0 from rfl]
      refine jr_iast (pc := 140) h dX3_advance_140 (by assumption) (by omega) (by omega) ?_
      refine jm_gen (fun M2 hM2 => ?_)
      rw [Int.toNat_natCast] at hM2
      have R2 := Rn_sp R1 hM2
      have f1 := fr_tr f1 (fr_up hM2 ⟨by omega, by omega⟩)
      have hF := Fl_fr hF (fr_up (S := RnS r) hM2 ⟨by omega, by omega⟩) (Nat.le_refl _) (fun k h1 h2 q => by have := q.1; have := q.2; omega)
      obtain ⟨hnF, hOF, hAF, hBF, -⟩ := id hF
      obtain ⟨hn, hO, hA, hB, hC, hD⟩ := id R2
      have hun9 := hK.2.2.2 ρ
      refine jr_aload_n (pc := 141) h dX3_advance_141 rfl ?_
      refine jr_dup (pc := 142) h dX3_advance_142 rfl ?_
      refine gf_X3_47 (pc := 143) h dX3_advance_143 (by assumption) (by omega) ?_
      refine jr_aload_n (pc := 146) h dX3_advance_146 rfl ?_
      refine jr_iload (pc := 147) h dX3_advance_147 rfl ?_
      refine jr_aload_n (pc := 149) h dX3_advance_149 rfl ?_
      refine gf_X3_9 (pc := 150) h dX3_advance_150 (by assumption) (by omega) ?_
      refine jr_iload_n (pc := 153) h dX3_advance_153 rfl ?_
      refine jr_iald (pc := 154) h dX3_advance_154 (by assumption) (by omega) (by omega) ?_
      rw [Int.toNat_natCast, up_eq]
      refine iv_X3_89 (pc := 155) h hl hR dX3_advance_155 ⟨(Nat.le_of_ble_eq_true rfl), (Nat.le_of_ble_eq_true rfl), (Nat.le_of_ble_eq_true rfl), (Nat.le_of_ble_eq_true rfl)⟩ (Nat.le_of_ble_eq_true rfl) (by assumption) (by omega) (s_X1_beltsBegunWithin hF (by omega) (by have := hB3.1; omega)) (fun v_155 n_155 M_155 hn_155 hp => ?_)
      obtain ⟨⟨rfl, rfl, rfl⟩, gr_155⟩ := hp
      refine jr_iadd (pc := 158) h dX3_advance_158 ?_
      refine pf_X3_47 (pc := 159) h dX3_advance_159 (by assumption) (by omega) ?_
      refine jm_gen (fun M2 hM2 => ?_)
      have R3 := Rn_f6 R2 hM2
      have f1 := fr_tr f1 (fr_up hM2 ⟨by omega, by omega⟩)
      obtain ⟨hn, hO, hA, hB, hC, hD⟩ := id R3
      refine jr_iload_n (pc := 162) h dX3_advance_162 rfl ?_
      refine jr_if_eq (pc := 163) h 179 dX3_advance_163 (by decide) (by omega) (fun _ => ?_) (fun c => absurd c_13 c)
      refine jr_aload_n (pc := 179) h dX3_advance_179 rfl ?_
      refine jr_dup (pc := 180) h dX3_advance_180 rfl ?_
      refine gf_X3_44 (pc := 181) h dX3_advance_181 (by assumption) (by omega) ?_
      refine jr_iconst (pc := 184) h dX3_advance_184 ?_
      refine jr_isub (pc := 185) h dX3_advance_185 ?_
      refine pf_X3_44 (pc := 186) h dX3_advance_186 (by assumption) (by omega) ?_
      refine jm_gen (fun M2 hM2 => ?_)
      have R4 := Rn_f5 R3 hM2
      have f1 := fr_tr f1 (fr_up hM2 ⟨by omega, by omega⟩)
      obtain ⟨hn, hO, hA, hB, hC, hD⟩ := id R4
      refine jr_iload (pc := 189) h dX3_advance_189 rfl ?_
      refine jr_iret (pc := 191) h hRt dX3_advance_191 rfl (Nat.le_of_ble_eq_true rfl) (Nat.le_of_ble_eq_true rfl) ?_
      have efa : av_fa ct td bk si g sp sk fa go = rwX (up (up fa (11 * ρ) (τ : Int)) (11 * ρ + 1) bg) ρ w9 := by
        unfold av_fa
        rw [eρ, eτ, ebg, ew9]
        simp only [Int.toNat_natCast]
      have egl : av_g ct td bk si g sp sk go = up (up (up g 7 (w9 13)) 6 (g 6 + c_begun ct td bg (w9 0))) 5 (g 5 - 1) := by
        unfold av_g
        rw [ew9, ebg, eτ]
        exact if_neg hft
      rw [efa, egl, eρ, eτ, ew9, Int.toNat_natCast]
      refine ⟨⟨rfl, rfl⟩, ?_, f1⟩
      exact R4
  · skip
    skip
    refine jr_aload_n (pc := 16) h dX3_advance_16 rfl ?_
    refine gf_X3_24 (pc := 17) h dX3_advance_17 (by assumption) (by omega) ?_
    refine jr_goto (pc := 20) h 27 dX3_advance_20 (by decide) ?_
    have e4 : g 4 = (ρ : Int) := by
      rw [← eρ]
      exact (if_pos (by rw [eτ]; exact bz_1.mp c_13)).symm
    rw [show fX3 r g 4 = jI (ρ : Int) from congrArg (fun z => jI z) e4]
    have hft : c_get td 5 τ 0 = 0 := bz_1.mp c_13
    refine jr_istore (pc := 27) h [_, _, _, _, _, _, _] dX3_advance_27 (by decide) rfl ?_
    refine jr_iload (pc := 29) h dX3_advance_29 rfl ?_
    refine jr_iload_n (pc := 31) h dX3_advance_31 rfl ?_
    refine jr_if_eq (pc := 32) h 39 dX3_advance_32 (by decide) (by omega) (fun c => absurd c c_13) (fun _ => ?_)
    refine jr_iconst (pc := 35) h dX3_advance_35 ?_
    refine jr_goto (pc := 36) h 43 dX3_advance_36 (by decide) ?_
    refine jr_icmp_ne (pc := 43) h 50 dX3_advance_43 (by decide) (by omega) (by omega) (fun c_43 => ?_) (fun c_43 => ?_)
    · skip
      skip
      refine jr_iconst (pc := 50) h dX3_advance_50 ?_
      refine jr_istore (pc := 51) h [_, _, _, _, _, _, _] dX3_advance_51 (by decide) rfl ?_
      refine jr_aload_n (pc := 53) h dX3_advance_53 rfl ?_
      refine jr_aload_n (pc := 54) h dX3_advance_54 rfl ?_
      refine gf_X3_9 (pc := 55) h dX3_advance_55 (by assumption) (by omega) ?_
      refine jr_iload_n (pc := 58) h dX3_advance_58 rfl ?_
      skip
      refine jr_iald (pc := 59) h dX3_advance_59 (by assumption) (by omega) (by omega) ?_
      rw [Int.toNat_natCast]
      refine iv_X3_70 (pc := 60) h hl hR dX3_advance_60 ⟨(Nat.le_of_ble_eq_true rfl), (Nat.le_of_ble_eq_true rfl), (Nat.le_of_ble_eq_true rfl), (Nat.le_of_ble_eq_true rfl)⟩ (Nat.le_of_ble_eq_true rfl) (by assumption) (by omega) (s_X1_behindBelts hF (by omega)) (fun v_60 n_60 M_60 hn_60 hp => ?_)
      obtain ⟨⟨rfl, rfl, rfl⟩, gr_60⟩ := hp
      refine jr_iload (pc := 63) h dX3_advance_63 rfl ?_
      refine jr_if_eq (pc := 65) h 72 dX3_advance_65 (by decide) (by omega) (fun _ => ?_) (fun c => absurd rfl c)
      refine jr_aload_n (pc := 72) h dX3_advance_72 rfl ?_
      refine iv_X3_74 (pc := 73) h hl hR dX3_advance_73 ⟨(Nat.le_of_ble_eq_true rfl), (Nat.le_of_ble_eq_true rfl), (Nat.le_of_ble_eq_true rfl), (Nat.le_of_ble_eq_true rfl)⟩ (Nat.le_of_ble_eq_true rfl) (by assumption) (by omega) (s_X1_walk hF) (fun v_73 n_73 M_73 hn_73 hp => ?_)
      obtain ⟨⟨rfl, rfl, rfl⟩, gr_73⟩ := hp
      refine jr_iadd (pc := 76) h dX3_advance_76 ?_
      have eb : c_bel ct td (sp τ) + (c_get td 0 0 1) = av_beg ct td g sp := by
        unfold av_beg
        rw [eρ, eτ, if_pos hft, if_neg (by omega)]
        simp only [Int.toNat_natCast]
      rw [eb]
      have hbg := av_begr (ct := ct) (g := g) rB hs
      obtain ⟨bg, ebg⟩ : ∃ z, av_beg ct td g sp = z := ⟨_, rfl⟩
      rw [ebg] at hbg ⊢
      have hs9 := hs (c_nxt ct td sp).toNat
      refine jr_istore (pc := 77) h [_, _, _, _, _, _, _] dX3_advance_77 (by decide) rfl ?_
      refine jr_aload_n (pc := 79) h dX3_advance_79 rfl ?_
      refine jr_iload (pc := 80) h dX3_advance_80 rfl ?_
      refine jr_iconst (pc := 82) h dX3_advance_82 ?_
      refine jr_iload_n (pc := 83) h dX3_advance_83 rfl ?_
      refine iv_X3_77 (pc := 84) h hl hR dX3_advance_84 ⟨(Nat.le_of_ble_eq_true rfl), (Nat.le_of_ble_eq_true rfl), (Nat.le_of_ble_eq_true rfl), (Nat.le_of_ble_eq_true rfl)⟩ (Nat.le_of_ble_eq_true rfl) (by assumption) (by omega) (s_X3_addFact hRn (by omega) (by omega)) (fun v_84 n_84 M_84 hn_84 hp => ?_)
      obtain ⟨rfl, rfl, R9, f9⟩ := hp
      rw [show ((ρ : Int) * 11 + 0).toNat = 11 * ρ by omega, show fa (11 * ρ) = 0 from zf 0 (by omega), Int.zero_add] at R9
      have f1 := f9
      obtain ⟨-, hO, hA, hB, hC, hD⟩ := id R9
      refine jr_aload_n (pc := 87) h dX3_advance_87 rfl ?_
      refine jr_iload (pc := 88) h dX3_advance_88 rfl ?_
      refine jr_iconst (pc := 90) h dX3_advance_90 ?_
      refine jr_iload (pc := 91) h dX3_advance_91 rfl ?_
      refine iv_X3_77 (pc := 93) h hl hR dX3_advance_93 ⟨(Nat.le_of_ble_eq_true rfl), (Nat.le_of_ble_eq_true rfl), (Nat.le_of_ble_eq_true rfl), (Nat.le_of_ble_eq_true rfl)⟩ (Nat.le_of_ble_eq_true rfl) (by assumption) (by omega) (s_X3_addFact R9 (by omega) (by omega)) (fun v_93 n_93 M_93 hn_93 hp => ?_)
      obtain ⟨rfl, rfl, R9, f9⟩ := hp
      rw [show ((ρ : Int) * 11 + 1).toNat = 11 * ρ + 1 by omega, up_ne (by omega), show fa (11 * ρ + 1) = 0 from zf 1 (by omega), Int.zero_add] at R9
      have f1 := fr_tr f1 f9
      obtain ⟨-, hO, hA, hB, hC, hD⟩ := id R9
      refine jr_aload_n (pc := 96) h dX3_advance_96 rfl ?_
      refine jr_iload (pc := 97) h dX3_advance_97 rfl ?_
      refine jr_iconst (pc := 99) h dX3_advance_99 ?_
      refine jr_iload (pc := 100) h dX3_advance_100 rfl ?_
      refine iv_X3_77 (pc := 102) h hl hR dX3_advance_102 ⟨(Nat.le_of_ble_eq_true rfl), (Nat.le_of_ble_eq_true rfl), (Nat.le_of_ble_eq_true rfl), (Nat.le_of_ble_eq_true rfl)⟩ (Nat.le_of_ble_eq_true rfl) (by assumption) (by omega) (s_X3_addFact R9 (by omega) (by omega)) (fun v_102 n_102 M_102 hn_102 hp => ?_)
      obtain ⟨rfl, rfl, R9, f9⟩ := hp
      rw [show ((ρ : Int) * 11 + 2).toNat = 11 * ρ + 2 by omega, up_ne (show 11 * ρ + 2 ≠ 11 * ρ + 1 by omega), up_ne (show 11 * ρ + 2 ≠ 11 * ρ by omega), show fa (11 * ρ + 2) = 0 from zf 2 (by omega), Int.zero_add, w_ini_X (sk := sk) (τ := τ) (z := g 7) (go := go) zf] at R9
      obtain ⟨-, hO, hA, hB, hC, hD⟩ := id R9
      have f1 := fr_tr f1 f9
      have hF := Fl_fr hF f1 (Nat.le_refl _) (fun k h1 h2 q => by have := q.1; have := q.2; omega)
      obtain ⟨hnF, hOF, hAF, hBF, -⟩ := id hF
      have hW : RWp M_102 n r g sp sk (up (up fa (11 * ρ) (τ : Int)) (11 * ρ + 1) bg) ρ τ (w_ini bg sk τ (g 7) go) := by
        refine ⟨?_, by rw [up_ne (by omega), up_eq], by omega, by omega⟩
        rw [w_ini_S, w_ini_G, show w_ini bg sk τ (g 7) go 13 = g 7 from rfl, up_id rfl]
        exact R9
      have hB0 : WB (w_ini bg sk τ (g 7) go) bg := w_ini_B (by omega) hsk hz
      have kk : ∀ i : Int, 0 ≤ i → i < ((ct 8).toNat : Int) → 0 ≤ c_get td 8 i 1 ∧ c_get td 8 i 1 ≤ 3 := fun i a b => hK.1 i a (by omega)
      refine jr_aload_n (pc := 105) h dX3_advance_105 rfl ?_
      refine jr_aload_n (pc := 106) h dX3_advance_106 rfl ?_
      refine jr_iload (pc := 107) h dX3_advance_107 rfl ?_
      refine jr_iconst (pc := 109) h dX3_advance_109 ?_
      refine iv_X3_81 (pc := 110) h hl hR dX3_advance_110 ⟨(Nat.le_of_ble_eq_true rfl), (Nat.le_of_ble_eq_true rfl), (Nat.le_of_ble_eq_true rfl), (Nat.le_of_ble_eq_true rfl)⟩ (Nat.le_of_ble_eq_true rfl) (by assumption) (by omega) (s_X3_serveNamed hW hF hsep hK.1 hK.2.1 hB0 (by omega) (c := 1) (by omega)) (fun v_110 n_110 M_110 hn_110 hp => ?_)
      obtain ⟨⟨rfl, rfl⟩, hW, f9⟩ := hp
      have hF := Fl_fr hF f9 (Nat.le_refl _) (fun k h1 h2 q => by have := q.1; have := q.2; omega)
      have f1 := fr_tr f1 f9
      obtain ⟨R1, hby0, hρ2, hτ2⟩ := id hW
      obtain ⟨hn, hO, hA, hB, hC, hD⟩ := id R1
      obtain ⟨hnF, hOF, hAF, hBF, -⟩ := id hF
      have hB1 : WB (nmW ct td ρ 1 (w_ini bg sk τ (g 7) go)) _ := nmF_B (ct := ct) (ρ := ρ) (c := 1) hB0 rB kk
      refine jr_aload_n (pc := 113) h dX3_advance_113 rfl ?_
      refine jr_aload_n (pc := 114) h dX3_advance_114 rfl ?_
      refine jr_iload (pc := 115) h dX3_advance_115 rfl ?_
      refine jr_iconst (pc := 117) h dX3_advance_117 ?_
      refine iv_X3_81 (pc := 118) h hl hR dX3_advance_118 ⟨(Nat.le_of_ble_eq_true rfl), (Nat.le_of_ble_eq_true rfl), (Nat.le_of_ble_eq_true rfl), (Nat.le_of_ble_eq_true rfl)⟩ (Nat.le_of_ble_eq_true rfl) (by assumption) (by omega) (s_X3_serveNamed hW hF hsep hK.1 hK.2.1 hB1 (by omega) (c := 0) (by omega)) (fun v_118 n_118 M_118 hn_118 hp => ?_)
      obtain ⟨⟨rfl, rfl⟩, hW, f9⟩ := hp
      have hF := Fl_fr hF f9 (Nat.le_refl _) (fun k h1 h2 q => by have := q.1; have := q.2; omega)
      have f1 := fr_tr f1 f9
      obtain ⟨R1, hby0, hρ2, hτ2⟩ := id hW
      obtain ⟨hn, hO, hA, hB, hC, hD⟩ := id R1
      obtain ⟨hnF, hOF, hAF, hBF, -⟩ := id hF
      have hB2 : WB (nmW ct td ρ 0 (nmW ct td ρ 1 (w_ini bg sk τ (g 7) go))) _ := nmF_B (ct := ct) (ρ := ρ) (c := 0) hB1 rB kk
      refine jr_aload_n (pc := 121) h dX3_advance_121 rfl ?_
      refine jr_aload_n (pc := 122) h dX3_advance_122 rfl ?_
      refine jr_iload (pc := 123) h dX3_advance_123 rfl ?_
      refine iv_X3_85 (pc := 125) h hl hR dX3_advance_125 ⟨(Nat.le_of_ble_eq_true rfl), (Nat.le_of_ble_eq_true rfl), (Nat.le_of_ble_eq_true rfl), (Nat.le_of_ble_eq_true rfl)⟩ (Nat.le_of_ble_eq_true rfl) (by assumption) (by omega) (s_X3_serveOthers hW hF hsep (hK.2.2.1 _) (hK.2.2.2 _) hB2 (by omega)) (fun v_125 n_125 M_125 hn_125 hp => ?_)
      obtain ⟨⟨rfl, rfl⟩, hW, f9⟩ := hp
      have hF := Fl_fr hF f9 (Nat.le_refl _) (fun k h1 h2 q => by have := q.1; have := q.2; omega)
      have f1 := fr_tr f1 f9
      have hB3 := otF_B (ct := ct) (bk := bk) (ρ := ρ) hB2 (hK.2.2.1 _) rB (k := (c_unn ct td si ρ).toNat)
      have hB3 : WB (otW ct td bk si ρ (nmW ct td ρ 0 (nmW ct td ρ 1 (w_ini bg sk τ (g 7) go)))) _ := hB3
      have ew : otW ct td bk si ρ (nmW ct td ρ 0 (nmW ct td ρ 1 (w_ini bg sk τ (g 7) go))) = av_w ct td bk si g sp sk go := by
        unfold av_w
        rw [eρ, eτ, ebg]
        simp only [Int.toNat_natCast]
      rw [ew] at hW hB3
      obtain ⟨w9, ew9⟩ : ∃ w9, av_w ct td bk si g sp sk go = w9 := ⟨_, rfl⟩
      rw [ew9] at hW hB3
      obtain ⟨hnF, hOF, hAF, hBF, -⟩ := id hF
      obtain ⟨R1, hby0, hρ2, hτ2⟩ := id hW
      obtain ⟨hn, hO, hA, hB, hC, hD⟩ := id R1
      refine jr_aload_n (pc := 128) h dX3_advance_128 rfl ?_
      refine gf_X3_9 (pc := 129) h dX3_advance_129 (by assumption) (by omega) ?_
      refine jr_iload_n (pc := 132) h dX3_advance_132 rfl ?_
      refine jr_aload_n (pc := 133) h dX3_advance_133 rfl ?_
      refine jr_iload (pc := 134) h dX3_advance_134 rfl ?_
      refine jr_iconst (pc := 136) h dX3_advance_136 ?_
      refine iv_X3_59 (pc := 137) h hl hR dX3_advance_137 ⟨(Nat.le_of_ble_eq_true rfl), (Nat.le_of_ble_eq_true rfl), (Nat.le_of_ble_eq_true rfl), (Nat.le_of_ble_eq_true rfl)⟩ (Nat.le_of_ble_eq_true rfl) (by assumption) (by omega) (s_X3_fact R1 (by omega) (by omega)) (fun v_137 n_137 M_137 hn_137 hp => ?_)
      obtain ⟨rfl, rfl, rfl⟩ := hp
      rw [cf_w hρ2 (by omega), show Int.toNat (2 - 2) = 0 from rfl]
      refine jr_iast (pc := 140) h dX3_advance_140 (by assumption) (by omega) (by omega) ?_
      refine jm_gen (fun M2 hM2 => ?_)
      rw [Int.toNat_natCast] at hM2
      have R2 := Rn_sp R1 hM2
      have f1 := fr_tr f1 (fr_up hM2 ⟨by omega, by omega⟩)
      have hF := Fl_fr hF (fr_up (S := RnS r) hM2 ⟨by omega, by omega⟩) (Nat.le_refl _) (fun k h1 h2 q => by have := q.1; have := q.2; omega)
      obtain ⟨hnF, hOF, hAF, hBF, -⟩ := id hF
      obtain ⟨hn, hO, hA, hB, hC, hD⟩ := id R2
      have hun9 := hK.2.2.2 ρ
      refine jr_aload_n (pc := 141) h dX3_advance_141 rfl ?_
      refine jr_dup (pc := 142) h dX3_advance_142 rfl ?_
      refine gf_X3_47 (pc := 143) h dX3_advance_143 (by assumption) (by omega) ?_
      refine jr_aload_n (pc := 146) h dX3_advance_146 rfl ?_
      refine jr_iload (pc := 147) h dX3_advance_147 rfl ?_
      refine jr_aload_n (pc := 149) h dX3_advance_149 rfl ?_
      refine gf_X3_9 (pc := 150) h dX3_advance_150 (by assumption) (by omega) ?_
      refine jr_iload_n (pc := 153) h dX3_advance_153 rfl ?_
      refine jr_iald (pc := 154) h dX3_advance_154 (by assumption) (by omega) (by omega) ?_
      rw [Int.toNat_natCast, up_eq]
      refine iv_X3_89 (pc := 155) h hl hR dX3_advance_155 ⟨(Nat.le_of_ble_eq_true rfl), (Nat.le_of_ble_eq_true rfl), (Nat.le_of_ble_eq_true rfl), (Nat.le_of_ble_eq_true rfl)⟩ (Nat.le_of_ble_eq_true rfl) (by assumption) (by omega) (s_X1_beltsBegunWithin hF (by omega) (by have := hB3.1; omega)) (fun v_155 n_155 M_155 hn_155 hp => ?_)
      obtain ⟨⟨rfl, rfl, rfl⟩, gr_155⟩ := hp
      refine jr_iadd (pc := 158) h dX3_advance_158 ?_
      refine pf_X3_47 (pc := 159) h dX3_advance_159 (by assumption) (by omega) ?_
      refine jm_gen (fun M2 hM2 => ?_)
      have R3 := Rn_f6 R2 hM2
      have f1 := fr_tr f1 (fr_up hM2 ⟨by omega, by omega⟩)
      obtain ⟨hn, hO, hA, hB, hC, hD⟩ := id R3
      refine jr_iload_n (pc := 162) h dX3_advance_162 rfl ?_
      refine jr_if_eq (pc := 163) h 179 dX3_advance_163 (by decide) (by omega) (fun c => absurd c c_13) (fun _ => ?_)
      refine jr_aload_n (pc := 166) h dX3_advance_166 rfl ?_
      refine jr_dup (pc := 167) h dX3_advance_167 rfl ?_
      refine gf_X3_24 (pc := 168) h dX3_advance_168 (by assumption) (by omega) ?_
      refine jr_iconst (pc := 171) h dX3_advance_171 ?_
      refine jr_iadd (pc := 172) h dX3_advance_172 ?_
      refine pf_X3_24 (pc := 173) h dX3_advance_173 (by assumption) (by omega) ?_
      refine jm_gen (fun M2 hM2 => ?_)
      have R4 := Rn_f4 R3 hM2
      have f1 := fr_tr f1 (fr_up hM2 ⟨by omega, by omega⟩)
      obtain ⟨hn, hO, hA, hB, hC, hD⟩ := id R4
      refine jr_goto (pc := 176) h 189 dX3_advance_176 (by decide) ?_
      refine jr_iload (pc := 189) h dX3_advance_189 rfl ?_
      refine jr_iret (pc := 191) h hRt dX3_advance_191 rfl (Nat.le_of_ble_eq_true rfl) (Nat.le_of_ble_eq_true rfl) ?_
      have efa : av_fa ct td bk si g sp sk fa go = rwX (up (up fa (11 * ρ) (τ : Int)) (11 * ρ + 1) bg) ρ w9 := by
        unfold av_fa
        rw [eρ, eτ, ebg, ew9]
        simp only [Int.toNat_natCast]
      have egl : av_g ct td bk si g sp sk go = up (up (up g 7 (w9 13)) 6 (g 6 + c_begun ct td bg (w9 0))) 4 (g 4 + 1) := by
        unfold av_g
        rw [ew9, ebg, eτ]
        exact if_pos hft
      rw [efa, egl, eρ, eτ, ew9, Int.toNat_natCast]
      refine ⟨⟨rfl, rfl⟩, ?_, f1⟩
      exact R4
    · skip
      skip
      refine jr_iconst (pc := 46) h dX3_advance_46 ?_
      refine jr_goto (pc := 47) h 51 dX3_advance_47 (by decide) ?_
      refine jr_istore (pc := 51) h [_, _, _, _, _, _, _] dX3_advance_51 (by decide) rfl ?_
      refine jr_aload_n (pc := 53) h dX3_advance_53 rfl ?_
      refine jr_aload_n (pc := 54) h dX3_advance_54 rfl ?_
      refine gf_X3_9 (pc := 55) h dX3_advance_55 (by assumption) (by omega) ?_
      refine jr_iload_n (pc := 58) h dX3_advance_58 rfl ?_
      skip
      refine jr_iald (pc := 59) h dX3_advance_59 (by assumption) (by omega) (by omega) ?_
      rw [Int.toNat_natCast]
      refine iv_X3_70 (pc := 60) h hl hR dX3_advance_60 ⟨(Nat.le_of_ble_eq_true rfl), (Nat.le_of_ble_eq_true rfl), (Nat.le_of_ble_eq_true rfl), (Nat.le_of_ble_eq_true rfl)⟩ (Nat.le_of_ble_eq_true rfl) (by assumption) (by omega) (s_X1_behindBelts hF (by omega)) (fun v_60 n_60 M_60 hn_60 hp => ?_)
      obtain ⟨⟨rfl, rfl, rfl⟩, gr_60⟩ := hp
      refine jr_iload (pc := 63) h dX3_advance_63 rfl ?_
      refine jr_if_eq (pc := 65) h 72 dX3_advance_65 (by decide) (by omega) (fun c => absurd c (by decide)) (fun _ => ?_)
      refine jr_iconst (pc := 68) h dX3_advance_68 ?_
      refine jr_goto (pc := 69) h 76 dX3_advance_69 (by decide) ?_
      refine jr_iadd (pc := 76) h dX3_advance_76 ?_
      have eb : c_bel ct td (sp τ) + 0 = av_beg ct td g sp := by
        unfold av_beg
        rw [eρ, eτ, if_pos hft, if_pos (by omega)]
        simp only [Int.toNat_natCast]
      rw [eb]
      have hbg := av_begr (ct := ct) (g := g) rB hs
      obtain ⟨bg, ebg⟩ : ∃ z, av_beg ct td g sp = z := ⟨_, rfl⟩
      rw [ebg] at hbg ⊢
      have hs9 := hs (c_nxt ct td sp).toNat
      refine jr_istore (pc := 77) h [_, _, _, _, _, _, _] dX3_advance_77 (by decide) rfl ?_
      refine jr_aload_n (pc := 79) h dX3_advance_79 rfl ?_
      refine jr_iload (pc := 80) h dX3_advance_80 rfl ?_
      refine jr_iconst (pc := 82) h dX3_advance_82 ?_
      refine jr_iload_n (pc := 83) h dX3_advance_83 rfl ?_
      refine iv_X3_77 (pc := 84) h hl hR dX3_advance_84 ⟨(Nat.le_of_ble_eq_true rfl), (Nat.le_of_ble_eq_true rfl), (Nat.le_of_ble_eq_true rfl), (Nat.le_of_ble_eq_true rfl)⟩ (Nat.le_of_ble_eq_true rfl) (by assumption) (by omega) (s_X3_addFact hRn (by omega) (by omega)) (fun v_84 n_84 M_84 hn_84 hp => ?_)
      obtain ⟨rfl, rfl, R9, f9⟩ := hp
      rw [show ((ρ : Int) * 11 + 0).toNat = 11 * ρ by omega, show fa (11 * ρ) = 0 from zf 0 (by omega), Int.zero_add] at R9
      have f1 := f9
      obtain ⟨-, hO, hA, hB, hC, hD⟩ := id R9
      refine jr_aload_n (pc := 87) h dX3_advance_87 rfl ?_
      refine jr_iload (pc := 88) h dX3_advance_88 rfl ?_
      refine jr_iconst (pc := 90) h dX3_advance_90 ?_
      refine jr_iload (pc := 91) h dX3_advance_91 rfl ?_
      refine iv_X3_77 (pc := 93) h hl hR dX3_advance_93 ⟨(Nat.le_of_ble_eq_true rfl), (Nat.le_of_ble_eq_true rfl), (Nat.le_of_ble_eq_true rfl), (Nat.le_of_ble_eq_true rfl)⟩ (Nat.le_of_ble_eq_true rfl) (by assumption) (by omega) (s_X3_addFact R9 (by omega) (by omega)) (fun v_93 n_93 M_93 hn_93 hp => ?_)
      obtain ⟨rfl, rfl, R9, f9⟩ := hp
      rw [show ((ρ : Int) * 11 + 1).toNat = 11 * ρ + 1 by omega, up_ne (by omega), show fa (11 * ρ + 1) = 0 from zf 1 (by omega), Int.zero_add] at R9
      have f1 := fr_tr f1 f9
      obtain ⟨-, hO, hA, hB, hC, hD⟩ := id R9
      refine jr_aload_n (pc := 96) h dX3_advance_96 rfl ?_
      refine jr_iload (pc := 97) h dX3_advance_97 rfl ?_
      refine jr_iconst (pc := 99) h dX3_advance_99 ?_
      refine jr_iload (pc := 100) h dX3_advance_100 rfl ?_
      refine iv_X3_77 (pc := 102) h hl hR dX3_advance_102 ⟨(Nat.le_of_ble_eq_true rfl), (Nat.le_of_ble_eq_true rfl), (Nat.le_of_ble_eq_true rfl), (Nat.le_of_ble_eq_true rfl)⟩ (Nat.le_of_ble_eq_true rfl) (by assumption) (by omega) (s_X3_addFact R9 (by omega) (by omega)) (fun v_102 n_102 M_102 hn_102 hp => ?_)
      obtain ⟨rfl, rfl, R9, f9⟩ := hp
      rw [show ((ρ : Int) * 11 + 2).toNat = 11 * ρ + 2 by omega, up_ne (show 11 * ρ + 2 ≠ 11 * ρ + 1 by omega), up_ne (show 11 * ρ + 2 ≠ 11 * ρ by omega), show fa (11 * ρ + 2) = 0 from zf 2 (by omega), Int.zero_add, w_ini_X (sk := sk) (τ := τ) (z := g 7) (go := go) zf] at R9
      obtain ⟨-, hO, hA, hB, hC, hD⟩ := id R9
      have f1 := fr_tr f1 f9
      have hF := Fl_fr hF f1 (Nat.le_refl _) (fun k h1 h2 q => by have := q.1; have := q.2; omega)
      obtain ⟨hnF, hOF, hAF, hBF, -⟩ := id hF
      have hW : RWp M_102 n r g sp sk (up (up fa (11 * ρ) (τ : Int)) (11 * ρ + 1) bg) ρ τ (w_ini bg sk τ (g 7) go) := by
        refine ⟨?_, by rw [up_ne (by omega), up_eq], by omega, by omega⟩
        rw [w_ini_S, w_ini_G, show w_ini bg sk τ (g 7) go 13 = g 7 from rfl, up_id rfl]
        exact R9
      have hB0 : WB (w_ini bg sk τ (g 7) go) bg := w_ini_B (by omega) hsk hz
      have kk : ∀ i : Int, 0 ≤ i → i < ((ct 8).toNat : Int) → 0 ≤ c_get td 8 i 1 ∧ c_get td 8 i 1 ≤ 3 := fun i a b => hK.1 i a (by omega)
      refine jr_aload_n (pc := 105) h dX3_advance_105 rfl ?_
      refine jr_aload_n (pc := 106) h dX3_advance_106 rfl ?_
      refine jr_iload (pc := 107) h dX3_advance_107 rfl ?_
      refine jr_iconst (pc := 109) h dX3_advance_109 ?_
      refine iv_X3_81 (pc := 110) h hl hR dX3_advance_110 ⟨(Nat.le_of_ble_eq_true rfl), (Nat.le_of_ble_eq_true rfl), (Nat.le_of_ble_eq_true rfl), (Nat.le_of_ble_eq_true rfl)⟩ (Nat.le_of_ble_eq_true rfl) (by assumption) (by omega) (s_X3_serveNamed hW hF hsep hK.1 hK.2.1 hB0 (by omega) (c := 1) (by omega)) (fun v_110 n_110 M_110 hn_110 hp => ?_)
      obtain ⟨⟨rfl, rfl⟩, hW, f9⟩ := hp
      have hF := Fl_fr hF f9 (Nat.le_refl _) (fun k h1 h2 q => by have := q.1; have := q.2; omega)
      have f1 := fr_tr f1 f9
      obtain ⟨R1, hby0, hρ2, hτ2⟩ := id hW
      obtain ⟨hn, hO, hA, hB, hC, hD⟩ := id R1
      obtain ⟨hnF, hOF, hAF, hBF, -⟩ := id hF
      have hB1 : WB (nmW ct td ρ 1 (w_ini bg sk τ (g 7) go)) _ := nmF_B (ct := ct) (ρ := ρ) (c := 1) hB0 rB kk
      refine jr_aload_n (pc := 113) h dX3_advance_113 rfl ?_
      refine jr_aload_n (pc := 114) h dX3_advance_114 rfl ?_
      refine jr_iload (pc := 115) h dX3_advance_115 rfl ?_
      refine jr_iconst (pc := 117) h dX3_advance_117 ?_
      refine iv_X3_81 (pc := 118) h hl hR dX3_advance_118 ⟨(Nat.le_of_ble_eq_true rfl), (Nat.le_of_ble_eq_true rfl), (Nat.le_of_ble_eq_true rfl), (Nat.le_of_ble_eq_true rfl)⟩ (Nat.le_of_ble_eq_true rfl) (by assumption) (by omega) (s_X3_serveNamed hW hF hsep hK.1 hK.2.1 hB1 (by omega) (c := 0) (by omega)) (fun v_118 n_118 M_118 hn_118 hp => ?_)
      obtain ⟨⟨rfl, rfl⟩, hW, f9⟩ := hp
      have hF := Fl_fr hF f9 (Nat.le_refl _) (fun k h1 h2 q => by have := q.1; have := q.2; omega)
      have f1 := fr_tr f1 f9
      obtain ⟨R1, hby0, hρ2, hτ2⟩ := id hW
      obtain ⟨hn, hO, hA, hB, hC, hD⟩ := id R1
      obtain ⟨hnF, hOF, hAF, hBF, -⟩ := id hF
      have hB2 : WB (nmW ct td ρ 0 (nmW ct td ρ 1 (w_ini bg sk τ (g 7) go))) _ := nmF_B (ct := ct) (ρ := ρ) (c := 0) hB1 rB kk
      refine jr_aload_n (pc := 121) h dX3_advance_121 rfl ?_
      refine jr_aload_n (pc := 122) h dX3_advance_122 rfl ?_
      refine jr_iload (pc := 123) h dX3_advance_123 rfl ?_
      refine iv_X3_85 (pc := 125) h hl hR dX3_advance_125 ⟨(Nat.le_of_ble_eq_true rfl), (Nat.le_of_ble_eq_true rfl), (Nat.le_of_ble_eq_true rfl), (Nat.le_of_ble_eq_true rfl)⟩ (Nat.le_of_ble_eq_true rfl) (by assumption) (by omega) (s_X3_serveOthers hW hF hsep (hK.2.2.1 _) (hK.2.2.2 _) hB2 (by omega)) (fun v_125 n_125 M_125 hn_125 hp => ?_)
      obtain ⟨⟨rfl, rfl⟩, hW, f9⟩ := hp
      have hF := Fl_fr hF f9 (Nat.le_refl _) (fun k h1 h2 q => by have := q.1; have := q.2; omega)
      have f1 := fr_tr f1 f9
      have hB3 := otF_B (ct := ct) (bk := bk) (ρ := ρ) hB2 (hK.2.2.1 _) rB (k := (c_unn ct td si ρ).toNat)
      have hB3 : WB (otW ct td bk si ρ (nmW ct td ρ 0 (nmW ct td ρ 1 (w_ini bg sk τ (g 7) go)))) _ := hB3
      have ew : otW ct td bk si ρ (nmW ct td ρ 0 (nmW ct td ρ 1 (w_ini bg sk τ (g 7) go))) = av_w ct td bk si g sp sk go := by
        unfold av_w
        rw [eρ, eτ, ebg]
        simp only [Int.toNat_natCast]
      rw [ew] at hW hB3
      obtain ⟨w9, ew9⟩ : ∃ w9, av_w ct td bk si g sp sk go = w9 := ⟨_, rfl⟩
      rw [ew9] at hW hB3
      obtain ⟨hnF, hOF, hAF, hBF, -⟩ := id hF
      obtain ⟨R1, hby0, hρ2, hτ2⟩ := id hW
      obtain ⟨hn, hO, hA, hB, hC, hD⟩ := id R1
      refine jr_aload_n (pc := 128) h dX3_advance_128 rfl ?_
      refine gf_X3_9 (pc := 129) h dX3_advance_129 (by assumption) (by omega) ?_
      refine jr_iload_n (pc := 132) h dX3_advance_132 rfl ?_
      refine jr_aload_n (pc := 133) h dX3_advance_133 rfl ?_
      refine jr_iload (pc := 134) h dX3_advance_134 rfl ?_
      refine jr_iconst (pc := 136) h dX3_advance_136 ?_
      refine iv_X3_59 (pc := 137) h hl hR dX3_advance_137 ⟨(Nat.le_of_ble_eq_true rfl), (Nat.le_of_ble_eq_true rfl), (Nat.le_of_ble_eq_true rfl), (Nat.le_of_ble_eq_true rfl)⟩ (Nat.le_of_ble_eq_true rfl) (by assumption) (by omega) (s_X3_fact R1 (by omega) (by omega)) (fun v_137 n_137 M_137 hn_137 hp => ?_)
      obtain ⟨rfl, rfl, rfl⟩ := hp
      rw [cf_w hρ2 (by omega), show Int.toNat (2 - 2) = 0 from rfl]
      refine jr_iast (pc := 140) h dX3_advance_140 (by assumption) (by omega) (by omega) ?_
      refine jm_gen (fun M2 hM2 => ?_)
      rw [Int.toNat_natCast] at hM2
      have R2 := Rn_sp R1 hM2
      have f1 := fr_tr f1 (fr_up hM2 ⟨by omega, by omega⟩)
      have hF := Fl_fr hF (fr_up (S := RnS r) hM2 ⟨by omega, by omega⟩) (Nat.le_refl _) (fun k h1 h2 q => by have := q.1; have := q.2; omega)
      obtain ⟨hnF, hOF, hAF, hBF, -⟩ := id hF
      obtain ⟨hn, hO, hA, hB, hC, hD⟩ := id R2
      have hun9 := hK.2.2.2 ρ
      refine jr_aload_n (pc := 141) h dX3_advance_141 rfl ?_
      refine jr_dup (pc := 142) h dX3_advance_142 rfl ?_
      refine gf_X3_47 (pc := 143) h dX3_advance_143 (by assumption) (by omega) ?_
      refine jr_aload_n (pc := 146) h dX3_advance_146 rfl ?_
      refine jr_iload (pc := 147) h dX3_advance_147 rfl ?_
      refine jr_aload_n (pc := 149) h dX3_advance_149 rfl ?_
      refine gf_X3_9 (pc := 150) h dX3_advance_150 (by assumption) (by omega) ?_
      refine jr_iload_n (pc := 153) h dX3_advance_153 rfl ?_
      refine jr_iald (pc := 154) h dX3_advance_154 (by assumption) (by omega) (by omega) ?_
      rw [Int.toNat_natCast, up_eq]
      refine iv_X3_89 (pc := 155) h hl hR dX3_advance_155 ⟨(Nat.le_of_ble_eq_true rfl), (Nat.le_of_ble_eq_true rfl), (Nat.le_of_ble_eq_true rfl), (Nat.le_of_ble_eq_true rfl)⟩ (Nat.le_of_ble_eq_true rfl) (by assumption) (by omega) (s_X1_beltsBegunWithin hF (by omega) (by have := hB3.1; omega)) (fun v_155 n_155 M_155 hn_155 hp => ?_)
      obtain ⟨⟨rfl, rfl, rfl⟩, gr_155⟩ := hp
      refine jr_iadd (pc := 158) h dX3_advance_158 ?_
      refine pf_X3_47 (pc := 159) h dX3_advance_159 (by assumption) (by omega) ?_
      refine jm_gen (fun M2 hM2 => ?_)
      have R3 := Rn_f6 R2 hM2
      have f1 := fr_tr f1 (fr_up hM2 ⟨by omega, by omega⟩)
      obtain ⟨hn, hO, hA, hB, hC, hD⟩ := id R3
      refine jr_iload_n (pc := 162) h dX3_advance_162 rfl ?_
      refine jr_if_eq (pc := 163) h 179 dX3_advance_163 (by decide) (by omega) (fun c => absurd c c_13) (fun _ => ?_)
      refine jr_aload_n (pc := 166) h dX3_advance_166 rfl ?_
      refine jr_dup (pc := 167) h dX3_advance_167 rfl ?_
      refine gf_X3_24 (pc := 168) h dX3_advance_168 (by assumption) (by omega) ?_
      refine jr_iconst (pc := 171) h dX3_advance_171 ?_
      refine jr_iadd (pc := 172) h dX3_advance_172 ?_
      refine pf_X3_24 (pc := 173) h dX3_advance_173 (by assumption) (by omega) ?_
      refine jm_gen (fun M2 hM2 => ?_)
      have R4 := Rn_f4 R3 hM2
      have f1 := fr_tr f1 (fr_up hM2 ⟨by omega, by omega⟩)
      obtain ⟨hn, hO, hA, hB, hC, hD⟩ := id R4
      refine jr_goto (pc := 176) h 189 dX3_advance_176 (by decide) ?_
      refine jr_iload (pc := 189) h dX3_advance_189 rfl ?_
      refine jr_iret (pc := 191) h hRt dX3_advance_191 rfl (Nat.le_of_ble_eq_true rfl) (Nat.le_of_ble_eq_true rfl) ?_
      have efa : av_fa ct td bk si g sp sk fa go = rwX (up (up fa (11 * ρ) (τ : Int)) (11 * ρ + 1) bg) ρ w9 := by
        unfold av_fa
        rw [eρ, eτ, ebg, ew9]
        simp only [Int.toNat_natCast]
      have egl : av_g ct td bk si g sp sk go = up (up (up g 7 (w9 13)) 6 (g 6 + c_begun ct td bg (w9 0))) 4 (g 4 + 1) := by
        unfold av_g
        rw [ew9, ebg, eτ]
        exact if_pos hft
      rw [efa, egl, eρ, eτ, ew9, Int.toNat_natCast]
      refine ⟨⟨rfl, rfl⟩, ?_, f1⟩
      exact R4
