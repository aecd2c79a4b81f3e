/-! 62: the reference: behind belts -/
theorem fu10 {i : Int} {d : Nat} (h : (10 - i).toNat < d + 1) (h2 : i < 10) : (10 - (i + 1)).toNat < d := by omega
def itP (ct td : Nat → Int) : Nat → Int → Int
  | 0, x => x
  | k + 1, x => c_belP ct td (itP ct td k x)
theorem itP_a {ct td : Nat → Int} {x : Int} : ∀ (j k : Nat), itP ct td (j + k) x = itP ct td k (itP ct td j x)
  | j, 0 => rfl
  | j, k + 1 => by
    show c_belP ct td (itP ct td (j + k) x) = c_belP ct td (itP ct td k (itP ct td j x))
    rw [itP_a j k]
theorem c_bel_it {ct td : Nat → Int} {x : Int} : c_bel ct td x = itP ct td (ct 9).toNat x := by
  unfold c_bel
  have key : ∀ n : Nat, foldZ (fun a _ => c_belP ct td a) x n = itP ct td n x := by
    intro n
    induction n with
    | zero => rfl
    | succ n ih =>
      show c_belP ct td (foldZ (fun a _ => c_belP ct td a) x n) = c_belP ct td (itP ct td n x)
      rw [ih]
  exact key _
/-- the belts whose end lies ahead -/
def cntB (ct td : Nat → Int) (v : Int) : Nat → Int := sumZ (fun i => if v < c_get td 9 i 1 * 60 then 1 else 0)
theorem cntB_b {ct td : Nat → Int} {v : Int} (n : Nat) : 0 ≤ cntB ct td v n ∧ cntB ct td v n ≤ n := by
  have := sumZ_b (f := fun i => if v < c_get td 9 i 1 * 60 then 1 else 0) (k := n) (lo := 0) (hi := 1) (fun i _ _ => by
    show 0 ≤ (if v < c_get td 9 i 1 * 60 then (1 : Int) else 0) ∧ (if v < c_get td 9 i 1 * 60 then (1 : Int) else 0) ≤ 1
    split <;> omega)
  unfold cntB
  omega
theorem cntB_m {ct td : Nat → Int} {v v' : Int} (h : v ≤ v') : ∀ n : Nat, cntB ct td v' n ≤ cntB ct td v n
  | 0 => Int.le_refl _
  | n + 1 => by
    have := cntB_m (ct := ct) (td := td) h n
    unfold cntB at this ⊢
    rw [sumZ, sumZ]
    split <;> split <;> omega
theorem cntB_s {ct td : Nat → Int} {v v' : Int} (h : v ≤ v') : ∀ (n i : Nat), i < n → v < c_get td 9 i 1 * 60 → c_get td 9 i 1 * 60 ≤ v' → cntB ct td v' n + 1 ≤ cntB ct td v n
  | 0, i, hi, _, _ => absurd hi (Nat.not_lt_zero i)
  | n + 1, i, hi, h1, h2 => by
    by_cases q : i = n
    · have := cntB_m (ct := ct) (td := td) h n
      unfold cntB at this ⊢
      rw [sumZ, sumZ, ← q, if_neg (by omega), if_pos h1]
      rw [← q] at this
      omega
    · have := cntB_s (ct := ct) h n i (by omega) h1 h2
      unfold cntB at this ⊢
      rw [sumZ, sumZ]
      split <;> split <;> omega
/-- a pass, begun: it goes on from v, and if it has moved, past a belt's end -/
theorem pass_s {ct td : Nat → Int} {v : Int} : ∀ n : Nat, v ≤ foldZ (c_bel1 td) v n ∧ (foldZ (c_bel1 td) v n ≠ v → ∃ i : Nat, i < n ∧ v < c_get td 9 i 1 * 60 ∧ c_get td 9 i 1 * 60 ≤ foldZ (c_bel1 td) v n)
  | 0 => ⟨Int.le_refl _, fun h => absurd rfl h⟩
  | n + 1 => by
    obtain ⟨h1, h2⟩ := pass_s (ct := ct) (td := td) (v := v) n
    rw [foldZ]
    generalize foldZ (c_bel1 td) v n = z at h1 h2
    unfold c_bel1
    split
    · rename_i q
      refine ⟨by omega, fun _ => ⟨n, by omega, by omega, Int.le_refl _⟩⟩
    · refine ⟨h1, fun q => ?_⟩
      obtain ⟨i, a, b, c⟩ := h2 q
      exact ⟨i, by omega, b, c⟩
theorem belP_c {ct td : Nat → Int} {v : Int} (h : c_belP ct td v ≠ v) : cntB ct td (c_belP ct td v) (ct 9).toNat + 1 ≤ cntB ct td v (ct 9).toNat := by
  obtain ⟨h1, h2⟩ := pass_s (ct := ct) (td := td) (v := v) (ct 9).toNat
  obtain ⟨i, a, b, c⟩ := h2 h
  exact cntB_s h1 _ i a b c
theorem itP_fix {ct td : Nat → Int} {x : Int} : ∀ k : Nat, c_belP ct td (itP ct td k x) = itP ct td k x ∨ cntB ct td (itP ct td k x) (ct 9).toNat + k ≤ (ct 9).toNat
  | 0 => Or.inr (by have := cntB_b (ct := ct) (td := td) (v := x) (ct 9).toNat; show cntB ct td x _ + 0 ≤ _; omega)
  | k + 1 => by
    rcases itP_fix (ct := ct) (td := td) (x := x) k with h | h
    · left
      show c_belP ct td (c_belP ct td (itP ct td k x)) = c_belP ct td (itP ct td k x)
      rw [h, h]
    · by_cases q : c_belP ct td (itP ct td k x) = itP ct td k x
      · left
        show c_belP ct td (c_belP ct td (itP ct td k x)) = c_belP ct td (itP ct td k x)
        rw [q, q]
      · right
        have := belP_c q
        show cntB ct td (c_belP ct td (itP ct td k x)) _ + (k + 1 : Nat) ≤ _
        omega
theorem itP_st {ct td : Nat → Int} {y : Int} (h : c_belP ct td y = y) : ∀ k : Nat, itP ct td k y = y
  | 0 => rfl
  | k + 1 => by
    show c_belP ct td (itP ct td k y) = y
    rw [itP_st h k, h]
theorem bel_fix {ct td : Nat → Int} {x : Int} : c_belP ct td (c_bel ct td x) = c_bel ct td x := by
  rw [c_bel_it]
  rcases itP_fix (ct := ct) (td := td) (x := x) (ct 9).toNat with h | h
  · exact h
  · by_cases q : c_belP ct td (itP ct td (ct 9).toNat x) = itP ct td (ct 9).toNat x
    · exact q
    · have h1 := belP_c q
      have h2 := cntB_b (ct := ct) (td := td) (v := c_belP ct td (itP ct td (ct 9).toNat x)) (ct 9).toNat
      omega
/-- a place on the way at which a pass stands still is where the class stops -/
theorem bel_end {ct td : Nat → Int} {x v : Int} {j : Nat} (hj : v = itP ct td j x) (hv : c_belP ct td v = v) : c_bel ct td x = v := by
  have hf := bel_fix (ct := ct) (td := td) (x := x)
  rw [c_bel_it] at hf ⊢
  by_cases q : j ≤ (ct 9).toNat
  · obtain ⟨d, hd⟩ : ∃ d, (ct 9).toNat = j + d := ⟨(ct 9).toNat - j, by omega⟩
    rw [hd, itP_a, ← hj, itP_st hv]
  · obtain ⟨d, hd⟩ : ∃ d, j = (ct 9).toNat + d := ⟨j - (ct 9).toNat, by omega⟩
    rw [hj, hd, itP_a, itP_st hf]
set_option maxHeartbeats 1000000 in
set_option maxRecDepth 20000 in
theorem s_X9_behindBelts {l : Launch} {n : Nat} {M : jdM} {m f : Nat} {g : Nat → Int} {w : Int} {rd : Value} {B : Nat → Nat → Int} (hX : MX M n m g w (.ref f) rd B) {ct td bk si ld gf : Nat → Int} {A : Nat → Nat → Int} (hMF : MF M n f gf A) (hFM : FM ct td bk si ld gf A) (hsep : f + 30 < m ∨ m + 12 < f) {x : Int} (hx : 0 ≤ x ∧ x ≤ 10000000) : Ct l yX9_behindBelts cX9_behindBelts 5 (some .int) rX9_behindBelts [.ref m, jI x] n M (fun vv n' M' => (vv = some (jI (c_bel ct td x)) ∧ n = n' ∧ M = M') ∧ (0) ≤ (c_bel ct td x) ∧ (c_bel ct td x) ≤ 100000000) := by
  refine Ct_of [some (.ref m), some (jI x), none, none, none] (by decide) (Nat.le_of_ble_eq_true rfl) rfl (fun κ hl h hR hRt hmn hn0 => ?_)
  have h : Ok κ RX9 cX9_behindBelts 5 (some .int) := h
  obtain ⟨hnm, hOm, hBm⟩ := id hX
  have hOm : M m = jdO 9 (fX9 m _ _ (.ref f) rd) := hOm
  obtain ⟨hnf, hOf, hAf⟩ := id hMF
  obtain ⟨⟨e0, e1, e2, e3, e4⟩, ⟨k5, k6, k7, k8, k9, k10, k11, k12, k13, k14, k15⟩, ⟨a2, a3, a4, a5, a6, a7, a8, a9, a10, a11, a12⟩, ⟨hlim, hLI, hends, hrt⟩, ⟨hbk, hld⟩, hc0, hc1, hc2, hc5⟩ := id hFM
  have l2 := hlim 2 (by omega)
  have l3 := hlim 3 (by omega)
  have l4 := hlim 4 (by omega)
  have l5 := hlim 5 (by omega)
  have l6 := hlim 6 (by omega)
  have l7 := hlim 7 (by omega)
  have l8 := hlim 8 (by omega)
  have l9 := hlim 9 (by omega)
  have l10 := hlim 10 (by omega)
  have l11 := hlim 11 (by omega)
  have l12 := hlim 12 (by omega)
  rw [show (jtab 0).2.2 2 = 4 from rfl] at l2
  rw [show (jtab 0).2.2 3 = 6 from rfl] at l3
  rw [show (jtab 0).2.2 4 = 6 from rfl] at l4
  rw [show (jtab 0).2.2 5 = 2 from rfl] at l5
  rw [show (jtab 0).2.2 6 = 8 from rfl] at l6
  rw [show (jtab 0).2.2 7 = 5 from rfl] at l7
  rw [show (jtab 0).2.2 8 = 6 from rfl] at l8
  rw [show (jtab 0).2.2 9 = 3 from rfl] at l9
  rw [show (jtab 0).2.2 10 = 3 from rfl] at l10
  rw [show (jtab 0).2.2 11 = 4 from rfl] at l11
  rw [show (jtab 0).2.2 12 = 4 from rfl] at l12
  have loop : ∀ (dq : Nat) (v z : Int) (u4 : Option Value) (jn : Nat), (z = 0 ∨ z = 1) → (0 ≤ v ∧ v ≤ 100000000) → (z = 0 → c_belP ct td v = v) → (v = itP ct td jn x) → (cntB ct td v (ct 9).toNat + z).toNat < dq → J κ 5 0 0 n 4 [some (.ref m), some (jI x), some (jI v), some (jI z), u4] [] M := by
    intro dq
    induction dq with
    | zero => intro v z u4 jn hz hvb hfx hj hd; omega
    | succ dq ih =>
      intro v z u4 jn hz hvb hfx hj hd
      refine jr_iload_n (pc := 4) h dX9_behindBelts_4 rfl ?_
      refine jr_if_eq (pc := 5) h 85 dX9_behindBelts_5 (by decide) (by omega) (fun c_5 => ?_) (fun c_5 => ?_)
      · first | have d_5 := bz_0.mp c_5 | have d_5 := bz_1.mp c_5 | skip
        refine jr_iload_n (pc := 85) h dX9_behindBelts_85 rfl ?_
        refine jr_iret (pc := 86) h hRt dX9_behindBelts_86 rfl (Nat.le_of_ble_eq_true rfl) (Nat.le_of_ble_eq_true rfl) ?_
        have es : c_bel ct td x = v := bel_end hj (hfx (by omega))
        rw [es]
        exact ⟨⟨rfl, rfl, rfl⟩, by omega⟩
      · first | have d_5 := bz_0.mp c_5 | have d_5 := bz_1.mp c_5 | skip
        refine jr_iconst (pc := 8) h dX9_behindBelts_8 ?_
        refine jr_istore_n (pc := 9) h [_, _, _, _, _] dX9_behindBelts_9 (by decide) rfl ?_
        refine jr_iconst (pc := 10) h dX9_behindBelts_10 ?_
        refine jr_istore (pc := 11) h [_, _, _, _, _] dX9_behindBelts_11 (by decide) rfl ?_
        obtain ⟨v0, ev0⟩ : ∃ v0, v0 = v := ⟨_, rfl⟩
        rw [← ev0] at hj hfx hvb hd ⊢
        have inner : ∀ (dqi : Nat) (v z i : Int), (0 ≤ i ∧ i ≤ ct 9) → (0 ≤ v ∧ v ≤ 100000000 ) → (z = 0 ∨ z = 1) → (v = (foldZ (c_bel1 td) v0 i.toNat)) → ((z = 0 ∧ v = v0) ∨ (z = 1 ∧ v0 < v)) → (10 - i).toNat < dqi → J κ 5 0 0 n 13 [some (.ref m), some (jI x), some (jI v), some (jI z), some (jI i)] [] M := by
          intro dqi
          induction dqi with
          | zero => intro v z i hi hvb hz hv hzv hd; omega
          | succ dqi ihi =>
            intro v z i hi hvb hz hv hzv hd
            have hA20 : M (f + 20) = jdA 3 (A 20) := hAf 20 (by omega) (by omega)
            have hA21 : M (f + 21) = jdA 3 (A 21) := hAf 21 (by omega) (by omega)
            refine jr_iload (pc := 13) h dX9_behindBelts_13 rfl ?_
            refine jr_aload_n (pc := 15) h dX9_behindBelts_15 rfl ?_
            refine gf_X9_425 (pc := 16) h dX9_behindBelts_16 (by assumption) (by omega) ?_
            refine gf_X9_384 (pc := 19) h dX9_behindBelts_19 (by assumption) (by omega) ?_
            refine jr_icmp_ge (pc := 22) h 82 dX9_behindBelts_22 (by decide) (by omega) (by omega) (fun c_22 => ?_) (fun c_22 => ?_)
            · first | have d_22 := bz_0.mp c_22 | have d_22 := bz_1.mp c_22 | skip
              refine jr_goto (pc := 82) h 4 dX9_behindBelts_82 (by decide) ?_
              have ei : i = ct 9 := by omega
              have epv : c_belP ct td v0 = v := by
                unfold c_belP
                rw [← ei, ← hv]
              have hfin : (z = 0 → c_belP ct td v = v) := fun q => by
                have : v = v0 := by omega
                rw [this]
                rw [this] at epv
                exact epv
              refine ih _ _ _ (jn + 1) (by omega) (by omega) hfin ?_ ?_
              · show v = c_belP ct td (itP ct td jn x)
                rw [← hj, epv]
              · have cb := cntB_b (ct := ct) (td := td) (v := v) (ct 9).toNat
                by_cases q : v = v0
                · have : z = 0 := by omega
                  have cb0 := cntB_b (ct := ct) (td := td) (v := v0) (ct 9).toNat
                  rw [q]
                  omega
                · have := belP_c (ct := ct) (td := td) (v := v0) (by rw [epv]; exact q)
                  rw [epv] at this
                  omega
            · first | have d_22 := bz_0.mp c_22 | have d_22 := bz_1.mp c_22 | skip
              have g9 := a9 i.toNat (by omega)
              rw [show ((i.toNat : Nat) : Int) = i by omega] at g9
              have r90 := c_getr hrt 9 i 0
              have r91 := c_getr hrt 9 i 1
              have h9 := (hLI 9 i (by omega) (by omega) (by omega)).2.2.2.2.2.2.2.2.2.1 rfl
              refine jr_iload_n (pc := 25) h dX9_behindBelts_25 rfl ?_
              refine jr_bipush (pc := 26) h dX9_behindBelts_26 bp_60 ?_
              refine jr_idivp (pc := 28) h dX9_behindBelts_28 (by omega) (by omega) ?_
              refine jr_aload_n (pc := 29) h dX9_behindBelts_29 rfl ?_
              refine gf_X9_425 (pc := 30) h dX9_behindBelts_30 (by assumption) (by omega) ?_
              refine gf_X9_386 (pc := 33) h dX9_behindBelts_33 (by assumption) (by omega) ?_
              refine jr_iload (pc := 36) h dX9_behindBelts_36 rfl ?_
              refine jr_iald (pc := 38) h dX9_behindBelts_38 (by assumption) (by omega) (by omega) ?_
              refine jr_aload_n (pc := 39) h dX9_behindBelts_39 rfl ?_
              refine gf_X9_425 (pc := 40) h dX9_behindBelts_40 (by assumption) (by omega) ?_
              refine gf_X9_389 (pc := 43) h dX9_behindBelts_43 (by assumption) (by omega) ?_
              refine jr_iload (pc := 46) h dX9_behindBelts_46 rfl ?_
              refine jr_iald (pc := 48) h dX9_behindBelts_48 (by assumption) (by omega) (by omega) ?_
              refine jr_iconst (pc := 49) h dX9_behindBelts_49 ?_
              refine jr_isub (pc := 50) h dX9_behindBelts_50 ?_
              refine iv_X9_130 (pc := 51) h hl hR dX9_behindBelts_51 ⟨(Nat.le_of_ble_eq_true rfl), (Nat.le_of_ble_eq_true rfl), (Nat.le_of_ble_eq_true rfl), (Nat.le_of_ble_eq_true rfl)⟩ (Nat.le_of_ble_eq_true rfl) (s_X9_in (by omega) (by omega) (by omega)) (fun v_51 n_51 M_51 hn_51 hp => ?_)
              obtain ⟨⟨rfl, rfl, rfl⟩, gr_51⟩ := hp
              refine jr_if_ne (pc := 54) h 60 dX9_behindBelts_54 (by decide) (by omega) (fun c_54 => ?_) (fun c_54 => ?_)
              · first | have d_54 := bz_0.mp c_54 | have d_54 := bz_1.mp c_54 | skip
                skip
                refine jr_bipush (pc := 60) h dX9_behindBelts_60 bp_60 ?_
                refine jr_aload_n (pc := 62) h dX9_behindBelts_62 rfl ?_
                refine gf_X9_425 (pc := 63) h dX9_behindBelts_63 (by assumption) (by omega) ?_
                refine gf_X9_389 (pc := 66) h dX9_behindBelts_66 (by assumption) (by omega) ?_
                refine jr_iload (pc := 69) h dX9_behindBelts_69 rfl ?_
                refine jr_iald (pc := 71) h dX9_behindBelts_71 (by assumption) (by omega) (by omega) ?_
                refine jr_imul (pc := 72) h dX9_behindBelts_72 ?_
                refine jr_istore_n (pc := 73) h [_, _, _, _, _] dX9_behindBelts_73 (by decide) rfl ?_
                refine jr_iconst (pc := 74) h dX9_behindBelts_74 ?_
                refine jr_istore_n (pc := 75) h [_, _, _, _, _] dX9_behindBelts_75 (by decide) rfl ?_
                refine jr_iinc (pc := 76) h [_, _, _, _, _] dX9_behindBelts_76 (by decide) rfl rfl ?_
                refine jr_goto (pc := 79) h 13 dX9_behindBelts_79 (by decide) ?_
                have eb : c_bel1 td v i = (60 * A 21 i.toNat) := by
                  unfold c_bel1
                  first
                  | (rw [if_pos (by omega)]; omega)
                  | rw [if_neg (by omega)]
                have ps := (pass_s (ct := ct) (td := td) (v := v0) (i + 1).toNat)
                rw [foldZ_s (by omega), ← hv, eb] at ps
                have ps0 := (pass_s (ct := ct) (td := td) (v := v0) i.toNat)
                rw [← hv] at ps0
                have hfu : (10 - (i + 1)).toNat < dqi := fu10 hd (Int.lt_of_le_of_lt hi.2 (Int.lt_of_le_of_lt l9.2 (by decide)))
                refine ihi _ _ _ (by omega) ?_ ?_ ?_ ?_ hfu
                · omega
                · omega
                · rw [foldZ_s (by omega), ← hv, eb]
                · omega
              · first | have d_54 := bz_0.mp c_54 | have d_54 := bz_1.mp c_54 | skip
                skip
                refine jr_goto (pc := 57) h 76 dX9_behindBelts_57 (by decide) ?_
                refine jr_iinc (pc := 76) h [_, _, _, _, _] dX9_behindBelts_76 (by decide) rfl rfl ?_
                refine jr_goto (pc := 79) h 13 dX9_behindBelts_79 (by decide) ?_
                have eb : c_bel1 td v i = v := by
                  unfold c_bel1
                  first
                  | (rw [if_pos (by omega)]; omega)
                  | rw [if_neg (by omega)]
                have ps := (pass_s (ct := ct) (td := td) (v := v0) (i + 1).toNat)
                rw [foldZ_s (by omega), ← hv, eb] at ps
                have ps0 := (pass_s (ct := ct) (td := td) (v := v0) i.toNat)
                rw [← hv] at ps0
                have hfu : (10 - (i + 1)).toNat < dqi := fu10 hd (Int.lt_of_le_of_lt hi.2 (Int.lt_of_le_of_lt l9.2 (by decide)))
                refine ihi _ _ _ (by omega) ?_ ?_ ?_ ?_ hfu
                · omega
                · omega
                · rw [foldZ_s (by omega), ← hv, eb]
                · omega
        exact inner _ _ _ _ (by omega) (by omega) (Or.inl rfl) rfl (Or.inl ⟨rfl, rfl⟩) (Nat.lt_succ_self _)
  refine jr_iload_n (pc := 0) h dX9_behindBelts_0 rfl ?_
  refine jr_istore_n (pc := 1) h [_, _, _, _, _] dX9_behindBelts_1 (by decide) rfl ?_
  refine jr_iconst (pc := 2) h dX9_behindBelts_2 ?_
  refine jr_istore_n (pc := 3) h [_, _, _, _, _] dX9_behindBelts_3 (by decide) rfl ?_
  exact loop _ _ _ _ 0 (Or.inr rfl) (by omega) (fun q => by omega) rfl (Nat.lt_succ_self _)
