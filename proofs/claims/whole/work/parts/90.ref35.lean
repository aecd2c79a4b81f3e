/-! 90: the reference: names -/
/-- the words that begin lines, by the reference's texts -/
def rk (r : Nat) : Nat := [23, 27, 30, 31, 32, 33, 34, 35, 36, 37, 38, 39, 40, 41].getD r 0
theorem rk_p : ∀ r : Nat, r < 14 → ∀ j : Nat, j < 8 → (jtxt 0).getD (8 * r + j) 0 = if j < (jtxt (rk r)).length then (jtxt (rk r)).getD j 0 else 32 := by decide +kernel
theorem rk_l : ∀ r : Nat, r < 14 → ltT (rk r) ∧ rk r < 58 ∧ 1 ≤ rk r := by unfold ltT; decide +kernel
theorem rk_u : ∀ r : Nat, r < 14 → ∀ r' : Nat, r' < 14 → (∀ j : Nat, j < 8 → (jtxt 0).getD (8 * r + j) 0 = (jtxt 0).getD (8 * r' + j) 0) → r = r' := by decide +kernel
theorem res_w {bs g : Nat → Int} {r : Nat} (hr : r < 14) (h4 : g 4 = 1) (h2 : 0 ≤ g 2) (hl : 1 ≤ g 3 - g 2 ∧ g 3 - g 2 ≤ 8) (hlt : ∀ j : Nat, (j : Int) < g 3 - g 2 → 97 ≤ bs ((g 2).toNat + j) ∧ bs ((g 2).toNat + j) ≤ 122) : resEq bs g r ↔ wordIs bs g (rk r) := by
  obtain ⟨⟨l1, l2, l3⟩, -, -⟩ := rk_l r hr
  have hp := rk_p r hr
  have ix : ∀ j : Nat, (g 2 + (j : Int)).toNat = (g 2).toNat + j := fun j => by omega
  constructor
  · intro h
    have hlen : g 3 - g 2 = ((jtxt (rk r)).length : Int) := by
      rcases Int.lt_trichotomy (g 3 - g 2) ((jtxt (rk r)).length : Int) with q | q | q
      · exfalso
        have h1 := h (g 3 - g 2).toNat (by omega)
        have h3 := l3 (g 3 - g 2).toNat (by omega)
        unfold resAt at h1
        rw [hp _ (by omega), if_pos (by omega), if_neg (by omega)] at h1
        omega
      · exact q
      · exfalso
        have h1 := h (jtxt (rk r)).length (by omega)
        have h3 := hlt (jtxt (rk r)).length (by omega)
        unfold resAt at h1
        rw [hp _ (by omega), if_neg (by omega), if_pos (by omega), ix] at h1
        omega
    refine ⟨h4, hlen, fun j hj => ?_⟩
    have h1 := h j (by omega)
    unfold resAt at h1
    rw [hp _ (by omega), if_pos hj, if_pos (by omega), ix] at h1
    exact h1.symm
  · rintro ⟨-, b1, b2⟩ j hj
    unfold resAt
    rw [hp _ hj, ix]
    by_cases q : j < (jtxt (rk r)).length
    · rw [if_pos q, if_pos (by omega), b2 j q]
    · rw [if_neg q, if_neg (by omega)]
theorem resR_n {bs g : Nat → Int} : ∀ (d r : Nat), (∀ i, r ≤ i → i < r + d → ¬ resEq bs g i) → resR bs g r d = -1
  | 0, r, _ => rfl
  | d + 1, r, h => by
    rw [resR, if_neg (h r (by omega) (by omega))]
    exact resR_n d (r + 1) (fun i h1 h2 => h i (by omega) (by omega))
theorem resR_e {bs g : Nat → Int} {i : Nat} (he : resEq bs g i) : ∀ (d r : Nat), r ≤ i → i < r + d → (∀ j, r ≤ j → j < i → ¬ resEq bs g j) → resR bs g r d = i
  | 0, r, _, _, _ => by omega
  | d + 1, r, h1, h2, h => by
    rw [resR]
    by_cases q : r = i
    · subst q
      rw [if_pos he]
    · rw [if_neg (h r (by omega) (by omega))]
      exact resR_e he d (r + 1) (by omega) (by omega) (fun j h3 h4 => h j (by omega) h4)
theorem res_u {bs g : Nat → Int} {r r' : Nat} (hr : r < 14) (hr' : r' < 14) (h : resEq bs g r) (h' : resEq bs g r') : r = r' :=
  rk_u r hr r' hr' (fun j hj => (h j hj).trans (h' j hj).symm)
theorem TR_l {bs : Nat → Int} {p : TS} {g : Nat → Int} {w : Int} (h : TR bs p g w) (hP : PO p) (q : p.1 7 = 0) (q4 : p.1 4 = 1) {r : Nat} (hr : r < 14) : resEq bs p.1 r ↔ wordIs bs p.1 (rk r) := by
  obtain ⟨-, a1, a2, -, -⟩ := (h.2.1 q).2.2.2.1 q4
  exact res_w hr q4 hP.1.2.1.1 a1 a2
/-- which line begins -/
theorem TR_i {bs : Nat → Int} {p : TS} {g : Nat → Int} {w : Int} (h : TR bs p g w) (hP : PO p) (q : p.1 7 = 0) {r : Nat} (hr : r < 14) (hw : wordIs bs p.1 (rk r)) : resI bs p.1 = r := by
  have q4 := hw.1
  have he := (TR_l h hP q q4 hr).2 hw
  unfold resI
  rw [if_pos q4]
  exact resR_e he 14 0 (by omega) (by omega) (fun j _ hj hj' => by have := res_u (by omega) hr hj' he; omega)
theorem TR_in {bs : Nat → Int} {p : TS} {g : Nat → Int} {w : Int} (h : TR bs p g w) (hP : PO p) (q : p.1 7 = 0) (hw : ∀ r, r < 14 → ¬ wordIs bs p.1 (rk r)) : resI bs p.1 = -1 := by
  unfold resI
  by_cases q4 : p.1 4 = 1
  · rw [if_pos q4]
    exact resR_n 14 0 (fun i _ hi hi' => hw i (by omega) ((TR_l h hP q q4 (by omega)).1 hi'))
  · rw [if_neg q4]
theorem fnR_c {nm nm' : Nat → Int} {w w' : Int} : ∀ (d i : Nat), (∀ j, i ≤ j → j < i + d → (nm j = w ↔ nm' j = w')) → fnR nm w i d = fnR nm' w' i d
  | 0, _, _ => rfl
  | d + 1, i, h => by
    rw [fnR, fnR, fnR_c d (i + 1) (fun j h1 h2 => h j (by omega) (by omega))]
    have := h i (by omega) (by omega)
    by_cases q : nm i = w
    · rw [if_pos q, if_pos (this.1 q)]
    · rw [if_neg q, if_neg (fun q' => q (this.2 q'))]
theorem fnI_b {nm : Nat → Int} {w c : Int} (hc : 0 ≤ c) : -1 ≤ fnI nm w c ∧ fnI nm w c < c := by
  have := fnR_b (nm := nm) (w := w) c.toNat 0
  unfold fnI
  omega
theorem rk_all {P : Nat → Prop} (h23 : P 23) (h27 : P 27) (h30 : P 30) (h31 : P 31) (h32 : P 32) (h33 : P 33) (h34 : P 34) (h35 : P 35) (h36 : P 36) (h37 : P 37) (h38 : P 38) (h39 : P 39) (h40 : P 40) (h41 : P 41) : ∀ r, r < 14 → P (rk r) := fun r hr => by
  have hr9 : r = 0 ∨ r = 1 ∨ r = 2 ∨ r = 3 ∨ r = 4 ∨ r = 5 ∨ r = 6 ∨ r = 7 ∨ r = 8 ∨ r = 9 ∨ r = 10 ∨ r = 11 ∨ r = 12 ∨ r = 13 := by omega
  rcases hr9 with rfl | rfl | rfl | rfl | rfl | rfl | rfl | rfl | rfl | rfl | rfl | rfl | rfl | rfl
  · exact h23
  · exact h27
  · exact h30
  · exact h31
  · exact h32
  · exact h33
  · exact h34
  · exact h35
  · exact h36
  · exact h37
  · exact h38
  · exact h39
  · exact h40
  · exact h41
set_option maxHeartbeats 1000000 in
set_option maxRecDepth 20000 in
theorem s_X9_isName {l : Launch} {n : Nat} {M : jdM} {m : Nat} {g : Nat → Int} {w : Int} {fl rd : Value} {B : Nat → Nat → Int} (hX : MX M n m g w fl rd B) {bs : Nat → Int} {p : TS} (hTR : TR bs p g w) (hPO : PO p) : Ct l yX9_isName cX9_isName 1 (some .boolean) rX9_isName [.ref m] n M (fun vv n' M' => (vv = some (jI (bz (p.1 7 = 0 ∧ p.1 4 = 1 ∧ resI bs p.1 = -1))) ∧ n = n' ∧ M = M') ∧ (0) ≤ (bz (p.1 7 = 0 ∧ p.1 4 = 1 ∧ resI bs p.1 = -1)) ∧ (bz (p.1 7 = 0 ∧ p.1 4 = 1 ∧ resI bs p.1 = -1)) ≤ 1) := by
  refine Ct_of [some (.ref m)] (by decide) (Nat.le_of_ble_eq_true rfl) rfl (fun κ hl h hR hRt hmn hn0 => ?_)
  have h : Ok κ RX9 cX9_isName 1 (some .boolean) := h
  obtain ⟨hnm, hOm, hBm⟩ := id hX
  have hOm : M m = jdO 9 (fX9 m _ _ fl rd) := hOm
  have h5r := (TR_5 hTR hPO).2.2
  refine jr_aload_n (pc := 0) h dX9_isName_0 rfl ?_
  refine gf_X9_80 (pc := 1) h dX9_isName_1 (by assumption) (by omega) ?_
  refine jr_iconst (pc := 4) h dX9_isName_4 ?_
  refine jr_icmp_ne (pc := 5) h 71 dX9_isName_5 (by decide) (by omega) (by omega) (fun c_5 => ?_) (fun c_5 => ?_)
  · first | have d_5 := bz_0.mp c_5 | have d_5 := bz_1.mp c_5 | skip
    refine jr_iconst (pc := 71) h dX9_isName_71 ?_
    refine jr_iret (pc := 72) h hRt dX9_isName_72 rfl (Nat.le_of_ble_eq_true rfl) (Nat.le_of_ble_eq_true rfl) ?_
    first
    | (have q := TR_i hTR hPO d_14.1 (r := 0) (by omega) d_14.2
       rw [bz_f (fun q2 => by have := q2.2.2; omega)]
       exact ⟨⟨rfl, rfl, rfl⟩, by decide⟩)
    | (have q := TR_i hTR hPO d_23.1 (r := 1) (by omega) d_23.2
       rw [bz_f (fun q2 => by have := q2.2.2; omega)]
       exact ⟨⟨rfl, rfl, rfl⟩, by decide⟩)
    | (have q := TR_i hTR hPO d_32.1 (r := 2) (by omega) d_32.2
       rw [bz_f (fun q2 => by have := q2.2.2; omega)]
       exact ⟨⟨rfl, rfl, rfl⟩, by decide⟩)
    | (have q := TR_i hTR hPO d_41.1 (r := 3) (by omega) d_41.2
       rw [bz_f (fun q2 => by have := q2.2.2; omega)]
       exact ⟨⟨rfl, rfl, rfl⟩, by decide⟩)
    | (have q := TR_i hTR hPO d_50.1 (r := 4) (by omega) d_50.2
       rw [bz_f (fun q2 => by have := q2.2.2; omega)]
       exact ⟨⟨rfl, rfl, rfl⟩, by decide⟩)
    | (have q := TR_i hTR hPO d_59.1 (r := 5) (by omega) d_59.2
       rw [bz_f (fun q2 => by have := q2.2.2; omega)]
       exact ⟨⟨rfl, rfl, rfl⟩, by decide⟩)
    | (have q := TR_i hTR hPO d_68.1 (r := 6) (by omega) d_68.2
       rw [bz_f (fun q2 => by have := q2.2.2; omega)]
       exact ⟨⟨rfl, rfl, rfl⟩, by decide⟩)
    | (have q := TR_i hTR hPO d_79.1 (r := 7) (by omega) d_79.2
       rw [bz_f (fun q2 => by have := q2.2.2; omega)]
       exact ⟨⟨rfl, rfl, rfl⟩, by decide⟩)
    | (have q := TR_i hTR hPO d_88.1 (r := 8) (by omega) d_88.2
       rw [bz_f (fun q2 => by have := q2.2.2; omega)]
       exact ⟨⟨rfl, rfl, rfl⟩, by decide⟩)
    | (have q := TR_i hTR hPO d_97.1 (r := 9) (by omega) d_97.2
       rw [bz_f (fun q2 => by have := q2.2.2; omega)]
       exact ⟨⟨rfl, rfl, rfl⟩, by decide⟩)
    | (have q := TR_i hTR hPO d_106.1 (r := 10) (by omega) d_106.2
       rw [bz_f (fun q2 => by have := q2.2.2; omega)]
       exact ⟨⟨rfl, rfl, rfl⟩, by decide⟩)
    | (have q := TR_i hTR hPO d_115.1 (r := 11) (by omega) d_115.2
       rw [bz_f (fun q2 => by have := q2.2.2; omega)]
       exact ⟨⟨rfl, rfl, rfl⟩, by decide⟩)
    | (have q := TR_i hTR hPO d_124.1 (r := 12) (by omega) d_124.2
       rw [bz_f (fun q2 => by have := q2.2.2; omega)]
       exact ⟨⟨rfl, rfl, rfl⟩, by decide⟩)
    | (have q := TR_i hTR hPO d_133.1 (r := 13) (by omega) d_133.2
       rw [bz_f (fun q2 => by have := q2.2.2; omega)]
       exact ⟨⟨rfl, rfl, rfl⟩, by decide⟩)
    | (rw [bz_f (fun q2 => by have := ((TR_5 hTR hPO).2.1 q2.1).2.2.1.2 q2.2.1; omega)]
       exact ⟨⟨rfl, rfl, rfl⟩, by decide⟩)
    | (have q7 : p.1 7 = 0 := Classical.byContradiction (fun q => by have := (TR_5 hTR hPO).1.2 q; omega)
       have q4 := ((TR_5 hTR hPO).2.1 q7).2.2.1.1 (by omega)
       have qi := TR_in hTR hPO q7 (rk_all (P := fun k => ¬ wordIs bs p.1 k) (fun q => d_14 ⟨q7, q⟩) (fun q => d_23 ⟨q7, q⟩) (fun q => d_32 ⟨q7, q⟩) (fun q => d_41 ⟨q7, q⟩) (fun q => d_50 ⟨q7, q⟩) (fun q => d_59 ⟨q7, q⟩) (fun q => d_68 ⟨q7, q⟩) (fun q => d_79 ⟨q7, q⟩) (fun q => d_88 ⟨q7, q⟩) (fun q => d_97 ⟨q7, q⟩) (fun q => d_106 ⟨q7, q⟩) (fun q => d_115 ⟨q7, q⟩) (fun q => d_124 ⟨q7, q⟩) (fun q => d_133 ⟨q7, q⟩))
       rw [bz_t ⟨q7, q4, qi⟩]
       exact ⟨⟨rfl, rfl, rfl⟩, by decide⟩)
  · first | have d_5 := bz_0.mp c_5 | have d_5 := bz_1.mp c_5 | skip
    refine jr_aload_n (pc := 8) h dX9_isName_8 rfl ?_
    refine jr_ldcS (pc := 9) h 23 (by decide) ⟨rfl, rfl⟩ dX9_isName_9 ?_
    refine iv_X9_119 (pc := 11) h hl hR dX9_isName_11 ⟨(Nat.le_of_ble_eq_true rfl), (Nat.le_of_ble_eq_true rfl), (Nat.le_of_ble_eq_true rfl), (Nat.le_of_ble_eq_true rfl)⟩ (Nat.le_of_ble_eq_true rfl) (by assumption) (by omega) (s_X9_isWord_t hX hTR hPO (k := 23) (by omega) (by omega)) (fun v_11 n_11 M_11 hn_11 hp => ?_)
    obtain ⟨⟨rfl, rfl, rfl⟩, gr_11⟩ := hp
    refine jr_if_ne (pc := 14) h 71 dX9_isName_14 (by decide) (by omega) (fun c_14 => ?_) (fun c_14 => ?_)
    · first | have d_14 := bz_0.mp c_14 | have d_14 := bz_1.mp c_14 | skip
      refine jr_iconst (pc := 71) h dX9_isName_71 ?_
      refine jr_iret (pc := 72) h hRt dX9_isName_72 rfl (Nat.le_of_ble_eq_true rfl) (Nat.le_of_ble_eq_true rfl) ?_
      first
      | (have q := TR_i hTR hPO d_14.1 (r := 0) (by omega) d_14.2
         rw [bz_f (fun q2 => by have := q2.2.2; omega)]
         exact ⟨⟨rfl, rfl, rfl⟩, by decide⟩)
      | (have q := TR_i hTR hPO d_23.1 (r := 1) (by omega) d_23.2
         rw [bz_f (fun q2 => by have := q2.2.2; omega)]
         exact ⟨⟨rfl, rfl, rfl⟩, by decide⟩)
      | (have q := TR_i hTR hPO d_32.1 (r := 2) (by omega) d_32.2
         rw [bz_f (fun q2 => by have := q2.2.2; omega)]
         exact ⟨⟨rfl, rfl, rfl⟩, by decide⟩)
      | (have q := TR_i hTR hPO d_41.1 (r := 3) (by omega) d_41.2
         rw [bz_f (fun q2 => by have := q2.2.2; omega)]
         exact ⟨⟨rfl, rfl, rfl⟩, by decide⟩)
      | (have q := TR_i hTR hPO d_50.1 (r := 4) (by omega) d_50.2
         rw [bz_f (fun q2 => by have := q2.2.2; omega)]
         exact ⟨⟨rfl, rfl, rfl⟩, by decide⟩)
      | (have q := TR_i hTR hPO d_59.1 (r := 5) (by omega) d_59.2
         rw [bz_f (fun q2 => by have := q2.2.2; omega)]
         exact ⟨⟨rfl, rfl, rfl⟩, by decide⟩)
      | (have q := TR_i hTR hPO d_68.1 (r := 6) (by omega) d_68.2
         rw [bz_f (fun q2 => by have := q2.2.2; omega)]
         exact ⟨⟨rfl, rfl, rfl⟩, by decide⟩)
      | (have q := TR_i hTR hPO d_79.1 (r := 7) (by omega) d_79.2
         rw [bz_f (fun q2 => by have := q2.2.2; omega)]
         exact ⟨⟨rfl, rfl, rfl⟩, by decide⟩)
      | (have q := TR_i hTR hPO d_88.1 (r := 8) (by omega) d_88.2
         rw [bz_f (fun q2 => by have := q2.2.2; omega)]
         exact ⟨⟨rfl, rfl, rfl⟩, by decide⟩)
      | (have q := TR_i hTR hPO d_97.1 (r := 9) (by omega) d_97.2
         rw [bz_f (fun q2 => by have := q2.2.2; omega)]
         exact ⟨⟨rfl, rfl, rfl⟩, by decide⟩)
      | (have q := TR_i hTR hPO d_106.1 (r := 10) (by omega) d_106.2
         rw [bz_f (fun q2 => by have := q2.2.2; omega)]
         exact ⟨⟨rfl, rfl, rfl⟩, by decide⟩)
      | (have q := TR_i hTR hPO d_115.1 (r := 11) (by omega) d_115.2
         rw [bz_f (fun q2 => by have := q2.2.2; omega)]
         exact ⟨⟨rfl, rfl, rfl⟩, by decide⟩)
      | (have q := TR_i hTR hPO d_124.1 (r := 12) (by omega) d_124.2
         rw [bz_f (fun q2 => by have := q2.2.2; omega)]
         exact ⟨⟨rfl, rfl, rfl⟩, by decide⟩)
      | (have q := TR_i hTR hPO d_133.1 (r := 13) (by omega) d_133.2
         rw [bz_f (fun q2 => by have := q2.2.2; omega)]
         exact ⟨⟨rfl, rfl, rfl⟩, by decide⟩)
      | (rw [bz_f (fun q2 => by have := ((TR_5 hTR hPO).2.1 q2.1).2.2.1.2 q2.2.1; omega)]
         exact ⟨⟨rfl, rfl, rfl⟩, by decide⟩)
      | (have q7 : p.1 7 = 0 := Classical.byContradiction (fun q => by have := (TR_5 hTR hPO).1.2 q; omega)
         have q4 := ((TR_5 hTR hPO).2.1 q7).2.2.1.1 (by omega)
         have qi := TR_in hTR hPO q7 (rk_all (P := fun k => ¬ wordIs bs p.1 k) (fun q => d_14 ⟨q7, q⟩) (fun q => d_23 ⟨q7, q⟩) (fun q => d_32 ⟨q7, q⟩) (fun q => d_41 ⟨q7, q⟩) (fun q => d_50 ⟨q7, q⟩) (fun q => d_59 ⟨q7, q⟩) (fun q => d_68 ⟨q7, q⟩) (fun q => d_79 ⟨q7, q⟩) (fun q => d_88 ⟨q7, q⟩) (fun q => d_97 ⟨q7, q⟩) (fun q => d_106 ⟨q7, q⟩) (fun q => d_115 ⟨q7, q⟩) (fun q => d_124 ⟨q7, q⟩) (fun q => d_133 ⟨q7, q⟩))
         rw [bz_t ⟨q7, q4, qi⟩]
         exact ⟨⟨rfl, rfl, rfl⟩, by decide⟩)
    · first | have d_14 := bz_0.mp c_14 | have d_14 := bz_1.mp c_14 | skip
      refine jr_aload_n (pc := 17) h dX9_isName_17 rfl ?_
      refine jr_ldcS (pc := 18) h 27 (by decide) ⟨rfl, rfl⟩ dX9_isName_18 ?_
      refine iv_X9_119 (pc := 20) h hl hR dX9_isName_20 ⟨(Nat.le_of_ble_eq_true rfl), (Nat.le_of_ble_eq_true rfl), (Nat.le_of_ble_eq_true rfl), (Nat.le_of_ble_eq_true rfl)⟩ (Nat.le_of_ble_eq_true rfl) (by assumption) (by omega) (s_X9_isWord_t hX hTR hPO (k := 27) (by omega) (by omega)) (fun v_20 n_20 M_20 hn_20 hp => ?_)
      obtain ⟨⟨rfl, rfl, rfl⟩, gr_20⟩ := hp
      refine jr_if_ne (pc := 23) h 71 dX9_isName_23 (by decide) (by omega) (fun c_23 => ?_) (fun c_23 => ?_)
      · first | have d_23 := bz_0.mp c_23 | have d_23 := bz_1.mp c_23 | skip
        refine jr_iconst (pc := 71) h dX9_isName_71 ?_
        refine jr_iret (pc := 72) h hRt dX9_isName_72 rfl (Nat.le_of_ble_eq_true rfl) (Nat.le_of_ble_eq_true rfl) ?_
        first
        | (have q := TR_i hTR hPO d_14.1 (r := 0) (by omega) d_14.2
           rw [bz_f (fun q2 => by have := q2.2.2; omega)]
           exact ⟨⟨rfl, rfl, rfl⟩, by decide⟩)
        | (have q := TR_i hTR hPO d_23.1 (r := 1) (by omega) d_23.2
           rw [bz_f (fun q2 => by have := q2.2.2; omega)]
           exact ⟨⟨rfl, rfl, rfl⟩, by decide⟩)
        | (have q := TR_i hTR hPO d_32.1 (r := 2) (by omega) d_32.2
           rw [bz_f (fun q2 => by have := q2.2.2; omega)]
           exact ⟨⟨rfl, rfl, rfl⟩, by decide⟩)
        | (have q := TR_i hTR hPO d_41.1 (r := 3) (by omega) d_41.2
           rw [bz_f (fun q2 => by have := q2.2.2; omega)]
           exact ⟨⟨rfl, rfl, rfl⟩, by decide⟩)
        | (have q := TR_i hTR hPO d_50.1 (r := 4) (by omega) d_50.2
           rw [bz_f (fun q2 => by have := q2.2.2; omega)]
           exact ⟨⟨rfl, rfl, rfl⟩, by decide⟩)
        | (have q := TR_i hTR hPO d_59.1 (r := 5) (by omega) d_59.2
           rw [bz_f (fun q2 => by have := q2.2.2; omega)]
           exact ⟨⟨rfl, rfl, rfl⟩, by decide⟩)
        | (have q := TR_i hTR hPO d_68.1 (r := 6) (by omega) d_68.2
           rw [bz_f (fun q2 => by have := q2.2.2; omega)]
           exact ⟨⟨rfl, rfl, rfl⟩, by decide⟩)
        | (have q := TR_i hTR hPO d_79.1 (r := 7) (by omega) d_79.2
           rw [bz_f (fun q2 => by have := q2.2.2; omega)]
           exact ⟨⟨rfl, rfl, rfl⟩, by decide⟩)
        | (have q := TR_i hTR hPO d_88.1 (r := 8) (by omega) d_88.2
           rw [bz_f (fun q2 => by have := q2.2.2; omega)]
           exact ⟨⟨rfl, rfl, rfl⟩, by decide⟩)
        | (have q := TR_i hTR hPO d_97.1 (r := 9) (by omega) d_97.2
           rw [bz_f (fun q2 => by have := q2.2.2; omega)]
           exact ⟨⟨rfl, rfl, rfl⟩, by decide⟩)
        | (have q := TR_i hTR hPO d_106.1 (r := 10) (by omega) d_106.2
           rw [bz_f (fun q2 => by have := q2.2.2; omega)]
           exact ⟨⟨rfl, rfl, rfl⟩, by decide⟩)
        | (have q := TR_i hTR hPO d_115.1 (r := 11) (by omega) d_115.2
           rw [bz_f (fun q2 => by have := q2.2.2; omega)]
           exact ⟨⟨rfl, rfl, rfl⟩, by decide⟩)
        | (have q := TR_i hTR hPO d_124.1 (r := 12) (by omega) d_124.2
           rw [bz_f (fun q2 => by have := q2.2.2; omega)]
           exact ⟨⟨rfl, rfl, rfl⟩, by decide⟩)
        | (have q := TR_i hTR hPO d_133.1 (r := 13) (by omega) d_133.2
           rw [bz_f (fun q2 => by have := q2.2.2; omega)]
           exact ⟨⟨rfl, rfl, rfl⟩, by decide⟩)
        | (rw [bz_f (fun q2 => by have := ((TR_5 hTR hPO).2.1 q2.1).2.2.1.2 q2.2.1; omega)]
           exact ⟨⟨rfl, rfl, rfl⟩, by decide⟩)
        | (have q7 : p.1 7 = 0 := Classical.byContradiction (fun q => by have := (TR_5 hTR hPO).1.2 q; omega)
           have q4 := ((TR_5 hTR hPO).2.1 q7).2.2.1.1 (by omega)
           have qi := TR_in hTR hPO q7 (rk_all (P := fun k => ¬ wordIs bs p.1 k) (fun q => d_14 ⟨q7, q⟩) (fun q => d_23 ⟨q7, q⟩) (fun q => d_32 ⟨q7, q⟩) (fun q => d_41 ⟨q7, q⟩) (fun q => d_50 ⟨q7, q⟩) (fun q => d_59 ⟨q7, q⟩) (fun q => d_68 ⟨q7, q⟩) (fun q => d_79 ⟨q7, q⟩) (fun q => d_88 ⟨q7, q⟩) (fun q => d_97 ⟨q7, q⟩) (fun q => d_106 ⟨q7, q⟩) (fun q => d_115 ⟨q7, q⟩) (fun q => d_124 ⟨q7, q⟩) (fun q => d_133 ⟨q7, q⟩))
           rw [bz_t ⟨q7, q4, qi⟩]
           exact ⟨⟨rfl, rfl, rfl⟩, by decide⟩)
      · first | have d_23 := bz_0.mp c_23 | have d_23 := bz_1.mp c_23 | skip
        refine jr_aload_n (pc := 26) h dX9_isName_26 rfl ?_
        refine jr_ldcS (pc := 27) h 30 (by decide) ⟨rfl, rfl⟩ dX9_isName_27 ?_
        refine iv_X9_119 (pc := 29) h hl hR dX9_isName_29 ⟨(Nat.le_of_ble_eq_true rfl), (Nat.le_of_ble_eq_true rfl), (Nat.le_of_ble_eq_true rfl), (Nat.le_of_ble_eq_true rfl)⟩ (Nat.le_of_ble_eq_true rfl) (by assumption) (by omega) (s_X9_isWord_t hX hTR hPO (k := 30) (by omega) (by omega)) (fun v_29 n_29 M_29 hn_29 hp => ?_)
        obtain ⟨⟨rfl, rfl, rfl⟩, gr_29⟩ := hp
        refine jr_if_ne (pc := 32) h 71 dX9_isName_32 (by decide) (by omega) (fun c_32 => ?_) (fun c_32 => ?_)
        · first | have d_32 := bz_0.mp c_32 | have d_32 := bz_1.mp c_32 | skip
          refine jr_iconst (pc := 71) h dX9_isName_71 ?_
          refine jr_iret (pc := 72) h hRt dX9_isName_72 rfl (Nat.le_of_ble_eq_true rfl) (Nat.le_of_ble_eq_true rfl) ?_
          first
          | (have q := TR_i hTR hPO d_14.1 (r := 0) (by omega) d_14.2
             rw [bz_f (fun q2 => by have := q2.2.2; omega)]
             exact ⟨⟨rfl, rfl, rfl⟩, by decide⟩)
          | (have q := TR_i hTR hPO d_23.1 (r := 1) (by omega) d_23.2
             rw [bz_f (fun q2 => by have := q2.2.2; omega)]
             exact ⟨⟨rfl, rfl, rfl⟩, by decide⟩)
          | (have q := TR_i hTR hPO d_32.1 (r := 2) (by omega) d_32.2
             rw [bz_f (fun q2 => by have := q2.2.2; omega)]
             exact ⟨⟨rfl, rfl, rfl⟩, by decide⟩)
          | (have q := TR_i hTR hPO d_41.1 (r := 3) (by omega) d_41.2
             rw [bz_f (fun q2 => by have := q2.2.2; omega)]
             exact ⟨⟨rfl, rfl, rfl⟩, by decide⟩)
          | (have q := TR_i hTR hPO d_50.1 (r := 4) (by omega) d_50.2
             rw [bz_f (fun q2 => by have := q2.2.2; omega)]
             exact ⟨⟨rfl, rfl, rfl⟩, by decide⟩)
          | (have q := TR_i hTR hPO d_59.1 (r := 5) (by omega) d_59.2
             rw [bz_f (fun q2 => by have := q2.2.2; omega)]
             exact ⟨⟨rfl, rfl, rfl⟩, by decide⟩)
          | (have q := TR_i hTR hPO d_68.1 (r := 6) (by omega) d_68.2
             rw [bz_f (fun q2 => by have := q2.2.2; omega)]
             exact ⟨⟨rfl, rfl, rfl⟩, by decide⟩)
          | (have q := TR_i hTR hPO d_79.1 (r := 7) (by omega) d_79.2
             rw [bz_f (fun q2 => by have := q2.2.2; omega)]
             exact ⟨⟨rfl, rfl, rfl⟩, by decide⟩)
          | (have q := TR_i hTR hPO d_88.1 (r := 8) (by omega) d_88.2
             rw [bz_f (fun q2 => by have := q2.2.2; omega)]
             exact ⟨⟨rfl, rfl, rfl⟩, by decide⟩)
          | (have q := TR_i hTR hPO d_97.1 (r := 9) (by omega) d_97.2
             rw [bz_f (fun q2 => by have := q2.2.2; omega)]
             exact ⟨⟨rfl, rfl, rfl⟩, by decide⟩)
          | (have q := TR_i hTR hPO d_106.1 (r := 10) (by omega) d_106.2
             rw [bz_f (fun q2 => by have := q2.2.2; omega)]
             exact ⟨⟨rfl, rfl, rfl⟩, by decide⟩)
          | (have q := TR_i hTR hPO d_115.1 (r := 11) (by omega) d_115.2
             rw [bz_f (fun q2 => by have := q2.2.2; omega)]
             exact ⟨⟨rfl, rfl, rfl⟩, by decide⟩)
          | (have q := TR_i hTR hPO d_124.1 (r := 12) (by omega) d_124.2
             rw [bz_f (fun q2 => by have := q2.2.2; omega)]
             exact ⟨⟨rfl, rfl, rfl⟩, by decide⟩)
          | (have q := TR_i hTR hPO d_133.1 (r := 13) (by omega) d_133.2
             rw [bz_f (fun q2 => by have := q2.2.2; omega)]
             exact ⟨⟨rfl, rfl, rfl⟩, by decide⟩)
          | (rw [bz_f (fun q2 => by have := ((TR_5 hTR hPO).2.1 q2.1).2.2.1.2 q2.2.1; omega)]
             exact ⟨⟨rfl, rfl, rfl⟩, by decide⟩)
          | (have q7 : p.1 7 = 0 := Classical.byContradiction (fun q => by have := (TR_5 hTR hPO).1.2 q; omega)
             have q4 := ((TR_5 hTR hPO).2.1 q7).2.2.1.1 (by omega)
             have qi := TR_in hTR hPO q7 (rk_all (P := fun k => ¬ wordIs bs p.1 k) (fun q => d_14 ⟨q7, q⟩) (fun q => d_23 ⟨q7, q⟩) (fun q => d_32 ⟨q7, q⟩) (fun q => d_41 ⟨q7, q⟩) (fun q => d_50 ⟨q7, q⟩) (fun q => d_59 ⟨q7, q⟩) (fun q => d_68 ⟨q7, q⟩) (fun q => d_79 ⟨q7, q⟩) (fun q => d_88 ⟨q7, q⟩) (fun q => d_97 ⟨q7, q⟩) (fun q => d_106 ⟨q7, q⟩) (fun q => d_115 ⟨q7, q⟩) (fun q => d_124 ⟨q7, q⟩) (fun q => d_133 ⟨q7, q⟩))
             rw [bz_t ⟨q7, q4, qi⟩]
             exact ⟨⟨rfl, rfl, rfl⟩, by decide⟩)
        · first | have d_32 := bz_0.mp c_32 | have d_32 := bz_1.mp c_32 | skip
          refine jr_aload_n (pc := 35) h dX9_isName_35 rfl ?_
          refine jr_ldcS (pc := 36) h 31 (by decide) ⟨rfl, rfl⟩ dX9_isName_36 ?_
          refine iv_X9_119 (pc := 38) h hl hR dX9_isName_38 ⟨(Nat.le_of_ble_eq_true rfl), (Nat.le_of_ble_eq_true rfl), (Nat.le_of_ble_eq_true rfl), (Nat.le_of_ble_eq_true rfl)⟩ (Nat.le_of_ble_eq_true rfl) (by assumption) (by omega) (s_X9_isWord_t hX hTR hPO (k := 31) (by omega) (by omega)) (fun v_38 n_38 M_38 hn_38 hp => ?_)
          obtain ⟨⟨rfl, rfl, rfl⟩, gr_38⟩ := hp
          refine jr_if_ne (pc := 41) h 71 dX9_isName_41 (by decide) (by omega) (fun c_41 => ?_) (fun c_41 => ?_)
          · first | have d_41 := bz_0.mp c_41 | have d_41 := bz_1.mp c_41 | skip
            refine jr_iconst (pc := 71) h dX9_isName_71 ?_
            refine jr_iret (pc := 72) h hRt dX9_isName_72 rfl (Nat.le_of_ble_eq_true rfl) (Nat.le_of_ble_eq_true rfl) ?_
            first
            | (have q := TR_i hTR hPO d_14.1 (r := 0) (by omega) d_14.2
               rw [bz_f (fun q2 => by have := q2.2.2; omega)]
               exact ⟨⟨rfl, rfl, rfl⟩, by decide⟩)
            | (have q := TR_i hTR hPO d_23.1 (r := 1) (by omega) d_23.2
               rw [bz_f (fun q2 => by have := q2.2.2; omega)]
               exact ⟨⟨rfl, rfl, rfl⟩, by decide⟩)
            | (have q := TR_i hTR hPO d_32.1 (r := 2) (by omega) d_32.2
               rw [bz_f (fun q2 => by have := q2.2.2; omega)]
               exact ⟨⟨rfl, rfl, rfl⟩, by decide⟩)
            | (have q := TR_i hTR hPO d_41.1 (r := 3) (by omega) d_41.2
               rw [bz_f (fun q2 => by have := q2.2.2; omega)]
               exact ⟨⟨rfl, rfl, rfl⟩, by decide⟩)
            | (have q := TR_i hTR hPO d_50.1 (r := 4) (by omega) d_50.2
               rw [bz_f (fun q2 => by have := q2.2.2; omega)]
               exact ⟨⟨rfl, rfl, rfl⟩, by decide⟩)
            | (have q := TR_i hTR hPO d_59.1 (r := 5) (by omega) d_59.2
               rw [bz_f (fun q2 => by have := q2.2.2; omega)]
               exact ⟨⟨rfl, rfl, rfl⟩, by decide⟩)
            | (have q := TR_i hTR hPO d_68.1 (r := 6) (by omega) d_68.2
               rw [bz_f (fun q2 => by have := q2.2.2; omega)]
               exact ⟨⟨rfl, rfl, rfl⟩, by decide⟩)
            | (have q := TR_i hTR hPO d_79.1 (r := 7) (by omega) d_79.2
               rw [bz_f (fun q2 => by have := q2.2.2; omega)]
               exact ⟨⟨rfl, rfl, rfl⟩, by decide⟩)
            | (have q := TR_i hTR hPO d_88.1 (r := 8) (by omega) d_88.2
               rw [bz_f (fun q2 => by have := q2.2.2; omega)]
               exact ⟨⟨rfl, rfl, rfl⟩, by decide⟩)
            | (have q := TR_i hTR hPO d_97.1 (r := 9) (by omega) d_97.2
               rw [bz_f (fun q2 => by have := q2.2.2; omega)]
               exact ⟨⟨rfl, rfl, rfl⟩, by decide⟩)
            | (have q := TR_i hTR hPO d_106.1 (r := 10) (by omega) d_106.2
               rw [bz_f (fun q2 => by have := q2.2.2; omega)]
               exact ⟨⟨rfl, rfl, rfl⟩, by decide⟩)
            | (have q := TR_i hTR hPO d_115.1 (r := 11) (by omega) d_115.2
               rw [bz_f (fun q2 => by have := q2.2.2; omega)]
               exact ⟨⟨rfl, rfl, rfl⟩, by decide⟩)
            | (have q := TR_i hTR hPO d_124.1 (r := 12) (by omega) d_124.2
               rw [bz_f (fun q2 => by have := q2.2.2; omega)]
               exact ⟨⟨rfl, rfl, rfl⟩, by decide⟩)
            | (have q := TR_i hTR hPO d_133.1 (r := 13) (by omega) d_133.2
               rw [bz_f (fun q2 => by have := q2.2.2; omega)]
               exact ⟨⟨rfl, rfl, rfl⟩, by decide⟩)
            | (rw [bz_f (fun q2 => by have := ((TR_5 hTR hPO).2.1 q2.1).2.2.1.2 q2.2.1; omega)]
               exact ⟨⟨rfl, rfl, rfl⟩, by decide⟩)
            | (have q7 : p.1 7 = 0 := Classical.byContradiction (fun q => by have := (TR_5 hTR hPO).1.2 q; omega)
               have q4 := ((TR_5 hTR hPO).2.1 q7).2.2.1.1 (by omega)
               have qi := TR_in hTR hPO q7 (rk_all (P := fun k => ¬ wordIs bs p.1 k) (fun q => d_14 ⟨q7, q⟩) (fun q => d_23 ⟨q7, q⟩) (fun q => d_32 ⟨q7, q⟩) (fun q => d_41 ⟨q7, q⟩) (fun q => d_50 ⟨q7, q⟩) (fun q => d_59 ⟨q7, q⟩) (fun q => d_68 ⟨q7, q⟩) (fun q => d_79 ⟨q7, q⟩) (fun q => d_88 ⟨q7, q⟩) (fun q => d_97 ⟨q7, q⟩) (fun q => d_106 ⟨q7, q⟩) (fun q => d_115 ⟨q7, q⟩) (fun q => d_124 ⟨q7, q⟩) (fun q => d_133 ⟨q7, q⟩))
               rw [bz_t ⟨q7, q4, qi⟩]
               exact ⟨⟨rfl, rfl, rfl⟩, by decide⟩)
          · first | have d_41 := bz_0.mp c_41 | have d_41 := bz_1.mp c_41 | skip
            refine jr_aload_n (pc := 44) h dX9_isName_44 rfl ?_
            refine jr_ldcS (pc := 45) h 32 (by decide) ⟨rfl, rfl⟩ dX9_isName_45 ?_
            refine iv_X9_119 (pc := 47) h hl hR dX9_isName_47 ⟨(Nat.le_of_ble_eq_true rfl), (Nat.le_of_ble_eq_true rfl), (Nat.le_of_ble_eq_true rfl), (Nat.le_of_ble_eq_true rfl)⟩ (Nat.le_of_ble_eq_true rfl) (by assumption) (by omega) (s_X9_isWord_t hX hTR hPO (k := 32) (by omega) (by omega)) (fun v_47 n_47 M_47 hn_47 hp => ?_)
            obtain ⟨⟨rfl, rfl, rfl⟩, gr_47⟩ := hp
            refine jr_if_ne (pc := 50) h 71 dX9_isName_50 (by decide) (by omega) (fun c_50 => ?_) (fun c_50 => ?_)
            · first | have d_50 := bz_0.mp c_50 | have d_50 := bz_1.mp c_50 | skip
              refine jr_iconst (pc := 71) h dX9_isName_71 ?_
              refine jr_iret (pc := 72) h hRt dX9_isName_72 rfl (Nat.le_of_ble_eq_true rfl) (Nat.le_of_ble_eq_true rfl) ?_
              first
              | (have q := TR_i hTR hPO d_14.1 (r := 0) (by omega) d_14.2
                 rw [bz_f (fun q2 => by have := q2.2.2; omega)]
                 exact ⟨⟨rfl, rfl, rfl⟩, by decide⟩)
              | (have q := TR_i hTR hPO d_23.1 (r := 1) (by omega) d_23.2
                 rw [bz_f (fun q2 => by have := q2.2.2; omega)]
                 exact ⟨⟨rfl, rfl, rfl⟩, by decide⟩)
              | (have q := TR_i hTR hPO d_32.1 (r := 2) (by omega) d_32.2
                 rw [bz_f (fun q2 => by have := q2.2.2; omega)]
                 exact ⟨⟨rfl, rfl, rfl⟩, by decide⟩)
              | (have q := TR_i hTR hPO d_41.1 (r := 3) (by omega) d_41.2
                 rw [bz_f (fun q2 => by have := q2.2.2; omega)]
                 exact ⟨⟨rfl, rfl, rfl⟩, by decide⟩)
              | (have q := TR_i hTR hPO d_50.1 (r := 4) (by omega) d_50.2
                 rw [bz_f (fun q2 => by have := q2.2.2; omega)]
                 exact ⟨⟨rfl, rfl, rfl⟩, by decide⟩)
              | (have q := TR_i hTR hPO d_59.1 (r := 5) (by omega) d_59.2
                 rw [bz_f (fun q2 => by have := q2.2.2; omega)]
                 exact ⟨⟨rfl, rfl, rfl⟩, by decide⟩)
              | (have q := TR_i hTR hPO d_68.1 (r := 6) (by omega) d_68.2
                 rw [bz_f (fun q2 => by have := q2.2.2; omega)]
                 exact ⟨⟨rfl, rfl, rfl⟩, by decide⟩)
              | (have q := TR_i hTR hPO d_79.1 (r := 7) (by omega) d_79.2
                 rw [bz_f (fun q2 => by have := q2.2.2; omega)]
                 exact ⟨⟨rfl, rfl, rfl⟩, by decide⟩)
              | (have q := TR_i hTR hPO d_88.1 (r := 8) (by omega) d_88.2
                 rw [bz_f (fun q2 => by have := q2.2.2; omega)]
                 exact ⟨⟨rfl, rfl, rfl⟩, by decide⟩)
              | (have q := TR_i hTR hPO d_97.1 (r := 9) (by omega) d_97.2
                 rw [bz_f (fun q2 => by have := q2.2.2; omega)]
                 exact ⟨⟨rfl, rfl, rfl⟩, by decide⟩)
              | (have q := TR_i hTR hPO d_106.1 (r := 10) (by omega) d_106.2
                 rw [bz_f (fun q2 => by have := q2.2.2; omega)]
                 exact ⟨⟨rfl, rfl, rfl⟩, by decide⟩)
              | (have q := TR_i hTR hPO d_115.1 (r := 11) (by omega) d_115.2
                 rw [bz_f (fun q2 => by have := q2.2.2; omega)]
                 exact ⟨⟨rfl, rfl, rfl⟩, by decide⟩)
              | (have q := TR_i hTR hPO d_124.1 (r := 12) (by omega) d_124.2
                 rw [bz_f (fun q2 => by have := q2.2.2; omega)]
                 exact ⟨⟨rfl, rfl, rfl⟩, by decide⟩)
              | (have q := TR_i hTR hPO d_133.1 (r := 13) (by omega) d_133.2
                 rw [bz_f (fun q2 => by have := q2.2.2; omega)]
                 exact ⟨⟨rfl, rfl, rfl⟩, by decide⟩)
              | (rw [bz_f (fun q2 => by have := ((TR_5 hTR hPO).2.1 q2.1).2.2.1.2 q2.2.1; omega)]
                 exact ⟨⟨rfl, rfl, rfl⟩, by decide⟩)
              | (have q7 : p.1 7 = 0 := Classical.byContradiction (fun q => by have := (TR_5 hTR hPO).1.2 q; omega)
                 have q4 := ((TR_5 hTR hPO).2.1 q7).2.2.1.1 (by omega)
                 have qi := TR_in hTR hPO q7 (rk_all (P := fun k => ¬ wordIs bs p.1 k) (fun q => d_14 ⟨q7, q⟩) (fun q => d_23 ⟨q7, q⟩) (fun q => d_32 ⟨q7, q⟩) (fun q => d_41 ⟨q7, q⟩) (fun q => d_50 ⟨q7, q⟩) (fun q => d_59 ⟨q7, q⟩) (fun q => d_68 ⟨q7, q⟩) (fun q => d_79 ⟨q7, q⟩) (fun q => d_88 ⟨q7, q⟩) (fun q => d_97 ⟨q7, q⟩) (fun q => d_106 ⟨q7, q⟩) (fun q => d_115 ⟨q7, q⟩) (fun q => d_124 ⟨q7, q⟩) (fun q => d_133 ⟨q7, q⟩))
                 rw [bz_t ⟨q7, q4, qi⟩]
                 exact ⟨⟨rfl, rfl, rfl⟩, by decide⟩)
            · first | have d_50 := bz_0.mp c_50 | have d_50 := bz_1.mp c_50 | skip
              refine jr_aload_n (pc := 53) h dX9_isName_53 rfl ?_
              refine jr_ldcS (pc := 54) h 33 (by decide) ⟨rfl, rfl⟩ dX9_isName_54 ?_
              refine iv_X9_119 (pc := 56) h hl hR dX9_isName_56 ⟨(Nat.le_of_ble_eq_true rfl), (Nat.le_of_ble_eq_true rfl), (Nat.le_of_ble_eq_true rfl), (Nat.le_of_ble_eq_true rfl)⟩ (Nat.le_of_ble_eq_true rfl) (by assumption) (by omega) (s_X9_isWord_t hX hTR hPO (k := 33) (by omega) (by omega)) (fun v_56 n_56 M_56 hn_56 hp => ?_)
              obtain ⟨⟨rfl, rfl, rfl⟩, gr_56⟩ := hp
              refine jr_if_ne (pc := 59) h 71 dX9_isName_59 (by decide) (by omega) (fun c_59 => ?_) (fun c_59 => ?_)
              · first | have d_59 := bz_0.mp c_59 | have d_59 := bz_1.mp c_59 | skip
                refine jr_iconst (pc := 71) h dX9_isName_71 ?_
                refine jr_iret (pc := 72) h hRt dX9_isName_72 rfl (Nat.le_of_ble_eq_true rfl) (Nat.le_of_ble_eq_true rfl) ?_
                first
                | (have q := TR_i hTR hPO d_14.1 (r := 0) (by omega) d_14.2
                   rw [bz_f (fun q2 => by have := q2.2.2; omega)]
                   exact ⟨⟨rfl, rfl, rfl⟩, by decide⟩)
                | (have q := TR_i hTR hPO d_23.1 (r := 1) (by omega) d_23.2
                   rw [bz_f (fun q2 => by have := q2.2.2; omega)]
                   exact ⟨⟨rfl, rfl, rfl⟩, by decide⟩)
                | (have q := TR_i hTR hPO d_32.1 (r := 2) (by omega) d_32.2
                   rw [bz_f (fun q2 => by have := q2.2.2; omega)]
                   exact ⟨⟨rfl, rfl, rfl⟩, by decide⟩)
                | (have q := TR_i hTR hPO d_41.1 (r := 3) (by omega) d_41.2
                   rw [bz_f (fun q2 => by have := q2.2.2; omega)]
                   exact ⟨⟨rfl, rfl, rfl⟩, by decide⟩)
                | (have q := TR_i hTR hPO d_50.1 (r := 4) (by omega) d_50.2
                   rw [bz_f (fun q2 => by have := q2.2.2; omega)]
                   exact ⟨⟨rfl, rfl, rfl⟩, by decide⟩)
                | (have q := TR_i hTR hPO d_59.1 (r := 5) (by omega) d_59.2
                   rw [bz_f (fun q2 => by have := q2.2.2; omega)]
                   exact ⟨⟨rfl, rfl, rfl⟩, by decide⟩)
                | (have q := TR_i hTR hPO d_68.1 (r := 6) (by omega) d_68.2
                   rw [bz_f (fun q2 => by have := q2.2.2; omega)]
                   exact ⟨⟨rfl, rfl, rfl⟩, by decide⟩)
                | (have q := TR_i hTR hPO d_79.1 (r := 7) (by omega) d_79.2
                   rw [bz_f (fun q2 => by have := q2.2.2; omega)]
                   exact ⟨⟨rfl, rfl, rfl⟩, by decide⟩)
                | (have q := TR_i hTR hPO d_88.1 (r := 8) (by omega) d_88.2
                   rw [bz_f (fun q2 => by have := q2.2.2; omega)]
                   exact ⟨⟨rfl, rfl, rfl⟩, by decide⟩)
                | (have q := TR_i hTR hPO d_97.1 (r := 9) (by omega) d_97.2
                   rw [bz_f (fun q2 => by have := q2.2.2; omega)]
                   exact ⟨⟨rfl, rfl, rfl⟩, by decide⟩)
                | (have q := TR_i hTR hPO d_106.1 (r := 10) (by omega) d_106.2
                   rw [bz_f (fun q2 => by have := q2.2.2; omega)]
                   exact ⟨⟨rfl, rfl, rfl⟩, by decide⟩)
                | (have q := TR_i hTR hPO d_115.1 (r := 11) (by omega) d_115.2
                   rw [bz_f (fun q2 => by have := q2.2.2; omega)]
                   exact ⟨⟨rfl, rfl, rfl⟩, by decide⟩)
                | (have q := TR_i hTR hPO d_124.1 (r := 12) (by omega) d_124.2
                   rw [bz_f (fun q2 => by have := q2.2.2; omega)]
                   exact ⟨⟨rfl, rfl, rfl⟩, by decide⟩)
                | (have q := TR_i hTR hPO d_133.1 (r := 13) (by omega) d_133.2
                   rw [bz_f (fun q2 => by have := q2.2.2; omega)]
                   exact ⟨⟨rfl, rfl, rfl⟩, by decide⟩)
                | (rw [bz_f (fun q2 => by have := ((TR_5 hTR hPO).2.1 q2.1).2.2.1.2 q2.2.1; omega)]
                   exact ⟨⟨rfl, rfl, rfl⟩, by decide⟩)
                | (have q7 : p.1 7 = 0 := Classical.byContradiction (fun q => by have := (TR_5 hTR hPO).1.2 q; omega)
                   have q4 := ((TR_5 hTR hPO).2.1 q7).2.2.1.1 (by omega)
                   have qi := TR_in hTR hPO q7 (rk_all (P := fun k => ¬ wordIs bs p.1 k) (fun q => d_14 ⟨q7, q⟩) (fun q => d_23 ⟨q7, q⟩) (fun q => d_32 ⟨q7, q⟩) (fun q => d_41 ⟨q7, q⟩) (fun q => d_50 ⟨q7, q⟩) (fun q => d_59 ⟨q7, q⟩) (fun q => d_68 ⟨q7, q⟩) (fun q => d_79 ⟨q7, q⟩) (fun q => d_88 ⟨q7, q⟩) (fun q => d_97 ⟨q7, q⟩) (fun q => d_106 ⟨q7, q⟩) (fun q => d_115 ⟨q7, q⟩) (fun q => d_124 ⟨q7, q⟩) (fun q => d_133 ⟨q7, q⟩))
                   rw [bz_t ⟨q7, q4, qi⟩]
                   exact ⟨⟨rfl, rfl, rfl⟩, by decide⟩)
              · first | have d_59 := bz_0.mp c_59 | have d_59 := bz_1.mp c_59 | skip
                refine jr_aload_n (pc := 62) h dX9_isName_62 rfl ?_
                refine jr_ldcS (pc := 63) h 34 (by decide) ⟨rfl, rfl⟩ dX9_isName_63 ?_
                refine iv_X9_119 (pc := 65) h hl hR dX9_isName_65 ⟨(Nat.le_of_ble_eq_true rfl), (Nat.le_of_ble_eq_true rfl), (Nat.le_of_ble_eq_true rfl), (Nat.le_of_ble_eq_true rfl)⟩ (Nat.le_of_ble_eq_true rfl) (by assumption) (by omega) (s_X9_isWord_t hX hTR hPO (k := 34) (by omega) (by omega)) (fun v_65 n_65 M_65 hn_65 hp => ?_)
                obtain ⟨⟨rfl, rfl, rfl⟩, gr_65⟩ := hp
                refine jr_if_eq (pc := 68) h 73 dX9_isName_68 (by decide) (by omega) (fun c_68 => ?_) (fun c_68 => ?_)
                · first | have d_68 := bz_0.mp c_68 | have d_68 := bz_1.mp c_68 | skip
                  refine jr_aload_n (pc := 73) h dX9_isName_73 rfl ?_
                  refine jr_ldcS (pc := 74) h 35 (by decide) ⟨rfl, rfl⟩ dX9_isName_74 ?_
                  refine iv_X9_119 (pc := 76) h hl hR dX9_isName_76 ⟨(Nat.le_of_ble_eq_true rfl), (Nat.le_of_ble_eq_true rfl), (Nat.le_of_ble_eq_true rfl), (Nat.le_of_ble_eq_true rfl)⟩ (Nat.le_of_ble_eq_true rfl) (by assumption) (by omega) (s_X9_isWord_t hX hTR hPO (k := 35) (by omega) (by omega)) (fun v_76 n_76 M_76 hn_76 hp => ?_)
                  obtain ⟨⟨rfl, rfl, rfl⟩, gr_76⟩ := hp
                  refine jr_if_ne (pc := 79) h 140 dX9_isName_79 (by decide) (by omega) (fun c_79 => ?_) (fun c_79 => ?_)
                  · first | have d_79 := bz_0.mp c_79 | have d_79 := bz_1.mp c_79 | skip
                    refine jr_iconst (pc := 140) h dX9_isName_140 ?_
                    refine jr_iret (pc := 141) h hRt dX9_isName_141 rfl (Nat.le_of_ble_eq_true rfl) (Nat.le_of_ble_eq_true rfl) ?_
                    first
                    | (have q := TR_i hTR hPO d_14.1 (r := 0) (by omega) d_14.2
                       rw [bz_f (fun q2 => by have := q2.2.2; omega)]
                       exact ⟨⟨rfl, rfl, rfl⟩, by decide⟩)
                    | (have q := TR_i hTR hPO d_23.1 (r := 1) (by omega) d_23.2
                       rw [bz_f (fun q2 => by have := q2.2.2; omega)]
                       exact ⟨⟨rfl, rfl, rfl⟩, by decide⟩)
                    | (have q := TR_i hTR hPO d_32.1 (r := 2) (by omega) d_32.2
                       rw [bz_f (fun q2 => by have := q2.2.2; omega)]
                       exact ⟨⟨rfl, rfl, rfl⟩, by decide⟩)
                    | (have q := TR_i hTR hPO d_41.1 (r := 3) (by omega) d_41.2
                       rw [bz_f (fun q2 => by have := q2.2.2; omega)]
                       exact ⟨⟨rfl, rfl, rfl⟩, by decide⟩)
                    | (have q := TR_i hTR hPO d_50.1 (r := 4) (by omega) d_50.2
                       rw [bz_f (fun q2 => by have := q2.2.2; omega)]
                       exact ⟨⟨rfl, rfl, rfl⟩, by decide⟩)
                    | (have q := TR_i hTR hPO d_59.1 (r := 5) (by omega) d_59.2
                       rw [bz_f (fun q2 => by have := q2.2.2; omega)]
                       exact ⟨⟨rfl, rfl, rfl⟩, by decide⟩)
                    | (have q := TR_i hTR hPO d_68.1 (r := 6) (by omega) d_68.2
                       rw [bz_f (fun q2 => by have := q2.2.2; omega)]
                       exact ⟨⟨rfl, rfl, rfl⟩, by decide⟩)
                    | (have q := TR_i hTR hPO d_79.1 (r := 7) (by omega) d_79.2
                       rw [bz_f (fun q2 => by have := q2.2.2; omega)]
                       exact ⟨⟨rfl, rfl, rfl⟩, by decide⟩)
                    | (have q := TR_i hTR hPO d_88.1 (r := 8) (by omega) d_88.2
                       rw [bz_f (fun q2 => by have := q2.2.2; omega)]
                       exact ⟨⟨rfl, rfl, rfl⟩, by decide⟩)
                    | (have q := TR_i hTR hPO d_97.1 (r := 9) (by omega) d_97.2
                       rw [bz_f (fun q2 => by have := q2.2.2; omega)]
                       exact ⟨⟨rfl, rfl, rfl⟩, by decide⟩)
                    | (have q := TR_i hTR hPO d_106.1 (r := 10) (by omega) d_106.2
                       rw [bz_f (fun q2 => by have := q2.2.2; omega)]
                       exact ⟨⟨rfl, rfl, rfl⟩, by decide⟩)
                    | (have q := TR_i hTR hPO d_115.1 (r := 11) (by omega) d_115.2
                       rw [bz_f (fun q2 => by have := q2.2.2; omega)]
                       exact ⟨⟨rfl, rfl, rfl⟩, by decide⟩)
                    | (have q := TR_i hTR hPO d_124.1 (r := 12) (by omega) d_124.2
                       rw [bz_f (fun q2 => by have := q2.2.2; omega)]
                       exact ⟨⟨rfl, rfl, rfl⟩, by decide⟩)
                    | (have q := TR_i hTR hPO d_133.1 (r := 13) (by omega) d_133.2
                       rw [bz_f (fun q2 => by have := q2.2.2; omega)]
                       exact ⟨⟨rfl, rfl, rfl⟩, by decide⟩)
                    | (rw [bz_f (fun q2 => by have := ((TR_5 hTR hPO).2.1 q2.1).2.2.1.2 q2.2.1; omega)]
                       exact ⟨⟨rfl, rfl, rfl⟩, by decide⟩)
                    | (have q7 : p.1 7 = 0 := Classical.byContradiction (fun q => by have := (TR_5 hTR hPO).1.2 q; omega)
                       have q4 := ((TR_5 hTR hPO).2.1 q7).2.2.1.1 (by omega)
                       have qi := TR_in hTR hPO q7 (rk_all (P := fun k => ¬ wordIs bs p.1 k) (fun q => d_14 ⟨q7, q⟩) (fun q => d_23 ⟨q7, q⟩) (fun q => d_32 ⟨q7, q⟩) (fun q => d_41 ⟨q7, q⟩) (fun q => d_50 ⟨q7, q⟩) (fun q => d_59 ⟨q7, q⟩) (fun q => d_68 ⟨q7, q⟩) (fun q => d_79 ⟨q7, q⟩) (fun q => d_88 ⟨q7, q⟩) (fun q => d_97 ⟨q7, q⟩) (fun q => d_106 ⟨q7, q⟩) (fun q => d_115 ⟨q7, q⟩) (fun q => d_124 ⟨q7, q⟩) (fun q => d_133 ⟨q7, q⟩))
                       rw [bz_t ⟨q7, q4, qi⟩]
                       exact ⟨⟨rfl, rfl, rfl⟩, by decide⟩)
                  · first | have d_79 := bz_0.mp c_79 | have d_79 := bz_1.mp c_79 | skip
                    refine jr_aload_n (pc := 82) h dX9_isName_82 rfl ?_
                    refine jr_ldcS (pc := 83) h 36 (by decide) ⟨rfl, rfl⟩ dX9_isName_83 ?_
                    refine iv_X9_119 (pc := 85) h hl hR dX9_isName_85 ⟨(Nat.le_of_ble_eq_true rfl), (Nat.le_of_ble_eq_true rfl), (Nat.le_of_ble_eq_true rfl), (Nat.le_of_ble_eq_true rfl)⟩ (Nat.le_of_ble_eq_true rfl) (by assumption) (by omega) (s_X9_isWord_t hX hTR hPO (k := 36) (by omega) (by omega)) (fun v_85 n_85 M_85 hn_85 hp => ?_)
                    obtain ⟨⟨rfl, rfl, rfl⟩, gr_85⟩ := hp
                    refine jr_if_ne (pc := 88) h 140 dX9_isName_88 (by decide) (by omega) (fun c_88 => ?_) (fun c_88 => ?_)
                    · first | have d_88 := bz_0.mp c_88 | have d_88 := bz_1.mp c_88 | skip
                      refine jr_iconst (pc := 140) h dX9_isName_140 ?_
                      refine jr_iret (pc := 141) h hRt dX9_isName_141 rfl (Nat.le_of_ble_eq_true rfl) (Nat.le_of_ble_eq_true rfl) ?_
                      first
                      | (have q := TR_i hTR hPO d_14.1 (r := 0) (by omega) d_14.2
                         rw [bz_f (fun q2 => by have := q2.2.2; omega)]
                         exact ⟨⟨rfl, rfl, rfl⟩, by decide⟩)
                      | (have q := TR_i hTR hPO d_23.1 (r := 1) (by omega) d_23.2
                         rw [bz_f (fun q2 => by have := q2.2.2; omega)]
                         exact ⟨⟨rfl, rfl, rfl⟩, by decide⟩)
                      | (have q := TR_i hTR hPO d_32.1 (r := 2) (by omega) d_32.2
                         rw [bz_f (fun q2 => by have := q2.2.2; omega)]
                         exact ⟨⟨rfl, rfl, rfl⟩, by decide⟩)
                      | (have q := TR_i hTR hPO d_41.1 (r := 3) (by omega) d_41.2
                         rw [bz_f (fun q2 => by have := q2.2.2; omega)]
                         exact ⟨⟨rfl, rfl, rfl⟩, by decide⟩)
                      | (have q := TR_i hTR hPO d_50.1 (r := 4) (by omega) d_50.2
                         rw [bz_f (fun q2 => by have := q2.2.2; omega)]
                         exact ⟨⟨rfl, rfl, rfl⟩, by decide⟩)
                      | (have q := TR_i hTR hPO d_59.1 (r := 5) (by omega) d_59.2
                         rw [bz_f (fun q2 => by have := q2.2.2; omega)]
                         exact ⟨⟨rfl, rfl, rfl⟩, by decide⟩)
                      | (have q := TR_i hTR hPO d_68.1 (r := 6) (by omega) d_68.2
                         rw [bz_f (fun q2 => by have := q2.2.2; omega)]
                         exact ⟨⟨rfl, rfl, rfl⟩, by decide⟩)
                      | (have q := TR_i hTR hPO d_79.1 (r := 7) (by omega) d_79.2
                         rw [bz_f (fun q2 => by have := q2.2.2; omega)]
                         exact ⟨⟨rfl, rfl, rfl⟩, by decide⟩)
                      | (have q := TR_i hTR hPO d_88.1 (r := 8) (by omega) d_88.2
                         rw [bz_f (fun q2 => by have := q2.2.2; omega)]
                         exact ⟨⟨rfl, rfl, rfl⟩, by decide⟩)
                      | (have q := TR_i hTR hPO d_97.1 (r := 9) (by omega) d_97.2
                         rw [bz_f (fun q2 => by have := q2.2.2; omega)]
                         exact ⟨⟨rfl, rfl, rfl⟩, by decide⟩)
                      | (have q := TR_i hTR hPO d_106.1 (r := 10) (by omega) d_106.2
                         rw [bz_f (fun q2 => by have := q2.2.2; omega)]
                         exact ⟨⟨rfl, rfl, rfl⟩, by decide⟩)
                      | (have q := TR_i hTR hPO d_115.1 (r := 11) (by omega) d_115.2
                         rw [bz_f (fun q2 => by have := q2.2.2; omega)]
                         exact ⟨⟨rfl, rfl, rfl⟩, by decide⟩)
                      | (have q := TR_i hTR hPO d_124.1 (r := 12) (by omega) d_124.2
                         rw [bz_f (fun q2 => by have := q2.2.2; omega)]
                         exact ⟨⟨rfl, rfl, rfl⟩, by decide⟩)
                      | (have q := TR_i hTR hPO d_133.1 (r := 13) (by omega) d_133.2
                         rw [bz_f (fun q2 => by have := q2.2.2; omega)]
                         exact ⟨⟨rfl, rfl, rfl⟩, by decide⟩)
                      | (rw [bz_f (fun q2 => by have := ((TR_5 hTR hPO).2.1 q2.1).2.2.1.2 q2.2.1; omega)]
                         exact ⟨⟨rfl, rfl, rfl⟩, by decide⟩)
                      | (have q7 : p.1 7 = 0 := Classical.byContradiction (fun q => by have := (TR_5 hTR hPO).1.2 q; omega)
                         have q4 := ((TR_5 hTR hPO).2.1 q7).2.2.1.1 (by omega)
                         have qi := TR_in hTR hPO q7 (rk_all (P := fun k => ¬ wordIs bs p.1 k) (fun q => d_14 ⟨q7, q⟩) (fun q => d_23 ⟨q7, q⟩) (fun q => d_32 ⟨q7, q⟩) (fun q => d_41 ⟨q7, q⟩) (fun q => d_50 ⟨q7, q⟩) (fun q => d_59 ⟨q7, q⟩) (fun q => d_68 ⟨q7, q⟩) (fun q => d_79 ⟨q7, q⟩) (fun q => d_88 ⟨q7, q⟩) (fun q => d_97 ⟨q7, q⟩) (fun q => d_106 ⟨q7, q⟩) (fun q => d_115 ⟨q7, q⟩) (fun q => d_124 ⟨q7, q⟩) (fun q => d_133 ⟨q7, q⟩))
                         rw [bz_t ⟨q7, q4, qi⟩]
                         exact ⟨⟨rfl, rfl, rfl⟩, by decide⟩)
                    · first | have d_88 := bz_0.mp c_88 | have d_88 := bz_1.mp c_88 | skip
                      refine jr_aload_n (pc := 91) h dX9_isName_91 rfl ?_
                      refine jr_ldcS (pc := 92) h 37 (by decide) ⟨rfl, rfl⟩ dX9_isName_92 ?_
                      refine iv_X9_119 (pc := 94) h hl hR dX9_isName_94 ⟨(Nat.le_of_ble_eq_true rfl), (Nat.le_of_ble_eq_true rfl), (Nat.le_of_ble_eq_true rfl), (Nat.le_of_ble_eq_true rfl)⟩ (Nat.le_of_ble_eq_true rfl) (by assumption) (by omega) (s_X9_isWord_t hX hTR hPO (k := 37) (by omega) (by omega)) (fun v_94 n_94 M_94 hn_94 hp => ?_)
                      obtain ⟨⟨rfl, rfl, rfl⟩, gr_94⟩ := hp
                      refine jr_if_ne (pc := 97) h 140 dX9_isName_97 (by decide) (by omega) (fun c_97 => ?_) (fun c_97 => ?_)
                      · first | have d_97 := bz_0.mp c_97 | have d_97 := bz_1.mp c_97 | skip
                        refine jr_iconst (pc := 140) h dX9_isName_140 ?_
                        refine jr_iret (pc := 141) h hRt dX9_isName_141 rfl (Nat.le_of_ble_eq_true rfl) (Nat.le_of_ble_eq_true rfl) ?_
                        first
                        | (have q := TR_i hTR hPO d_14.1 (r := 0) (by omega) d_14.2
                           rw [bz_f (fun q2 => by have := q2.2.2; omega)]
                           exact ⟨⟨rfl, rfl, rfl⟩, by decide⟩)
                        | (have q := TR_i hTR hPO d_23.1 (r := 1) (by omega) d_23.2
                           rw [bz_f (fun q2 => by have := q2.2.2; omega)]
                           exact ⟨⟨rfl, rfl, rfl⟩, by decide⟩)
                        | (have q := TR_i hTR hPO d_32.1 (r := 2) (by omega) d_32.2
                           rw [bz_f (fun q2 => by have := q2.2.2; omega)]
                           exact ⟨⟨rfl, rfl, rfl⟩, by decide⟩)
                        | (have q := TR_i hTR hPO d_41.1 (r := 3) (by omega) d_41.2
                           rw [bz_f (fun q2 => by have := q2.2.2; omega)]
                           exact ⟨⟨rfl, rfl, rfl⟩, by decide⟩)
                        | (have q := TR_i hTR hPO d_50.1 (r := 4) (by omega) d_50.2
                           rw [bz_f (fun q2 => by have := q2.2.2; omega)]
                           exact ⟨⟨rfl, rfl, rfl⟩, by decide⟩)
                        | (have q := TR_i hTR hPO d_59.1 (r := 5) (by omega) d_59.2
                           rw [bz_f (fun q2 => by have := q2.2.2; omega)]
                           exact ⟨⟨rfl, rfl, rfl⟩, by decide⟩)
                        | (have q := TR_i hTR hPO d_68.1 (r := 6) (by omega) d_68.2
                           rw [bz_f (fun q2 => by have := q2.2.2; omega)]
                           exact ⟨⟨rfl, rfl, rfl⟩, by decide⟩)
                        | (have q := TR_i hTR hPO d_79.1 (r := 7) (by omega) d_79.2
                           rw [bz_f (fun q2 => by have := q2.2.2; omega)]
                           exact ⟨⟨rfl, rfl, rfl⟩, by decide⟩)
                        | (have q := TR_i hTR hPO d_88.1 (r := 8) (by omega) d_88.2
                           rw [bz_f (fun q2 => by have := q2.2.2; omega)]
                           exact ⟨⟨rfl, rfl, rfl⟩, by decide⟩)
                        | (have q := TR_i hTR hPO d_97.1 (r := 9) (by omega) d_97.2
                           rw [bz_f (fun q2 => by have := q2.2.2; omega)]
                           exact ⟨⟨rfl, rfl, rfl⟩, by decide⟩)
                        | (have q := TR_i hTR hPO d_106.1 (r := 10) (by omega) d_106.2
                           rw [bz_f (fun q2 => by have := q2.2.2; omega)]
                           exact ⟨⟨rfl, rfl, rfl⟩, by decide⟩)
                        | (have q := TR_i hTR hPO d_115.1 (r := 11) (by omega) d_115.2
                           rw [bz_f (fun q2 => by have := q2.2.2; omega)]
                           exact ⟨⟨rfl, rfl, rfl⟩, by decide⟩)
                        | (have q := TR_i hTR hPO d_124.1 (r := 12) (by omega) d_124.2
                           rw [bz_f (fun q2 => by have := q2.2.2; omega)]
                           exact ⟨⟨rfl, rfl, rfl⟩, by decide⟩)
                        | (have q := TR_i hTR hPO d_133.1 (r := 13) (by omega) d_133.2
                           rw [bz_f (fun q2 => by have := q2.2.2; omega)]
                           exact ⟨⟨rfl, rfl, rfl⟩, by decide⟩)
                        | (rw [bz_f (fun q2 => by have := ((TR_5 hTR hPO).2.1 q2.1).2.2.1.2 q2.2.1; omega)]
                           exact ⟨⟨rfl, rfl, rfl⟩, by decide⟩)
                        | (have q7 : p.1 7 = 0 := Classical.byContradiction (fun q => by have := (TR_5 hTR hPO).1.2 q; omega)
                           have q4 := ((TR_5 hTR hPO).2.1 q7).2.2.1.1 (by omega)
                           have qi := TR_in hTR hPO q7 (rk_all (P := fun k => ¬ wordIs bs p.1 k) (fun q => d_14 ⟨q7, q⟩) (fun q => d_23 ⟨q7, q⟩) (fun q => d_32 ⟨q7, q⟩) (fun q => d_41 ⟨q7, q⟩) (fun q => d_50 ⟨q7, q⟩) (fun q => d_59 ⟨q7, q⟩) (fun q => d_68 ⟨q7, q⟩) (fun q => d_79 ⟨q7, q⟩) (fun q => d_88 ⟨q7, q⟩) (fun q => d_97 ⟨q7, q⟩) (fun q => d_106 ⟨q7, q⟩) (fun q => d_115 ⟨q7, q⟩) (fun q => d_124 ⟨q7, q⟩) (fun q => d_133 ⟨q7, q⟩))
                           rw [bz_t ⟨q7, q4, qi⟩]
                           exact ⟨⟨rfl, rfl, rfl⟩, by decide⟩)
                      · first | have d_97 := bz_0.mp c_97 | have d_97 := bz_1.mp c_97 | skip
                        refine jr_aload_n (pc := 100) h dX9_isName_100 rfl ?_
                        refine jr_ldcS (pc := 101) h 38 (by decide) ⟨rfl, rfl⟩ dX9_isName_101 ?_
                        refine iv_X9_119 (pc := 103) h hl hR dX9_isName_103 ⟨(Nat.le_of_ble_eq_true rfl), (Nat.le_of_ble_eq_true rfl), (Nat.le_of_ble_eq_true rfl), (Nat.le_of_ble_eq_true rfl)⟩ (Nat.le_of_ble_eq_true rfl) (by assumption) (by omega) (s_X9_isWord_t hX hTR hPO (k := 38) (by omega) (by omega)) (fun v_103 n_103 M_103 hn_103 hp => ?_)
                        obtain ⟨⟨rfl, rfl, rfl⟩, gr_103⟩ := hp
                        refine jr_if_ne (pc := 106) h 140 dX9_isName_106 (by decide) (by omega) (fun c_106 => ?_) (fun c_106 => ?_)
                        · first | have d_106 := bz_0.mp c_106 | have d_106 := bz_1.mp c_106 | skip
                          refine jr_iconst (pc := 140) h dX9_isName_140 ?_
                          refine jr_iret (pc := 141) h hRt dX9_isName_141 rfl (Nat.le_of_ble_eq_true rfl) (Nat.le_of_ble_eq_true rfl) ?_
                          first
                          | (have q := TR_i hTR hPO d_14.1 (r := 0) (by omega) d_14.2
                             rw [bz_f (fun q2 => by have := q2.2.2; omega)]
                             exact ⟨⟨rfl, rfl, rfl⟩, by decide⟩)
                          | (have q := TR_i hTR hPO d_23.1 (r := 1) (by omega) d_23.2
                             rw [bz_f (fun q2 => by have := q2.2.2; omega)]
                             exact ⟨⟨rfl, rfl, rfl⟩, by decide⟩)
                          | (have q := TR_i hTR hPO d_32.1 (r := 2) (by omega) d_32.2
                             rw [bz_f (fun q2 => by have := q2.2.2; omega)]
                             exact ⟨⟨rfl, rfl, rfl⟩, by decide⟩)
                          | (have q := TR_i hTR hPO d_41.1 (r := 3) (by omega) d_41.2
                             rw [bz_f (fun q2 => by have := q2.2.2; omega)]
                             exact ⟨⟨rfl, rfl, rfl⟩, by decide⟩)
                          | (have q := TR_i hTR hPO d_50.1 (r := 4) (by omega) d_50.2
                             rw [bz_f (fun q2 => by have := q2.2.2; omega)]
                             exact ⟨⟨rfl, rfl, rfl⟩, by decide⟩)
                          | (have q := TR_i hTR hPO d_59.1 (r := 5) (by omega) d_59.2
                             rw [bz_f (fun q2 => by have := q2.2.2; omega)]
                             exact ⟨⟨rfl, rfl, rfl⟩, by decide⟩)
                          | (have q := TR_i hTR hPO d_68.1 (r := 6) (by omega) d_68.2
                             rw [bz_f (fun q2 => by have := q2.2.2; omega)]
                             exact ⟨⟨rfl, rfl, rfl⟩, by decide⟩)
                          | (have q := TR_i hTR hPO d_79.1 (r := 7) (by omega) d_79.2
                             rw [bz_f (fun q2 => by have := q2.2.2; omega)]
                             exact ⟨⟨rfl, rfl, rfl⟩, by decide⟩)
                          | (have q := TR_i hTR hPO d_88.1 (r := 8) (by omega) d_88.2
                             rw [bz_f (fun q2 => by have := q2.2.2; omega)]
                             exact ⟨⟨rfl, rfl, rfl⟩, by decide⟩)
                          | (have q := TR_i hTR hPO d_97.1 (r := 9) (by omega) d_97.2
                             rw [bz_f (fun q2 => by have := q2.2.2; omega)]
                             exact ⟨⟨rfl, rfl, rfl⟩, by decide⟩)
                          | (have q := TR_i hTR hPO d_106.1 (r := 10) (by omega) d_106.2
                             rw [bz_f (fun q2 => by have := q2.2.2; omega)]
                             exact ⟨⟨rfl, rfl, rfl⟩, by decide⟩)
                          | (have q := TR_i hTR hPO d_115.1 (r := 11) (by omega) d_115.2
                             rw [bz_f (fun q2 => by have := q2.2.2; omega)]
                             exact ⟨⟨rfl, rfl, rfl⟩, by decide⟩)
                          | (have q := TR_i hTR hPO d_124.1 (r := 12) (by omega) d_124.2
                             rw [bz_f (fun q2 => by have := q2.2.2; omega)]
                             exact ⟨⟨rfl, rfl, rfl⟩, by decide⟩)
                          | (have q := TR_i hTR hPO d_133.1 (r := 13) (by omega) d_133.2
                             rw [bz_f (fun q2 => by have := q2.2.2; omega)]
                             exact ⟨⟨rfl, rfl, rfl⟩, by decide⟩)
                          | (rw [bz_f (fun q2 => by have := ((TR_5 hTR hPO).2.1 q2.1).2.2.1.2 q2.2.1; omega)]
                             exact ⟨⟨rfl, rfl, rfl⟩, by decide⟩)
                          | (have q7 : p.1 7 = 0 := Classical.byContradiction (fun q => by have := (TR_5 hTR hPO).1.2 q; omega)
                             have q4 := ((TR_5 hTR hPO).2.1 q7).2.2.1.1 (by omega)
                             have qi := TR_in hTR hPO q7 (rk_all (P := fun k => ¬ wordIs bs p.1 k) (fun q => d_14 ⟨q7, q⟩) (fun q => d_23 ⟨q7, q⟩) (fun q => d_32 ⟨q7, q⟩) (fun q => d_41 ⟨q7, q⟩) (fun q => d_50 ⟨q7, q⟩) (fun q => d_59 ⟨q7, q⟩) (fun q => d_68 ⟨q7, q⟩) (fun q => d_79 ⟨q7, q⟩) (fun q => d_88 ⟨q7, q⟩) (fun q => d_97 ⟨q7, q⟩) (fun q => d_106 ⟨q7, q⟩) (fun q => d_115 ⟨q7, q⟩) (fun q => d_124 ⟨q7, q⟩) (fun q => d_133 ⟨q7, q⟩))
                             rw [bz_t ⟨q7, q4, qi⟩]
                             exact ⟨⟨rfl, rfl, rfl⟩, by decide⟩)
                        · first | have d_106 := bz_0.mp c_106 | have d_106 := bz_1.mp c_106 | skip
                          refine jr_aload_n (pc := 109) h dX9_isName_109 rfl ?_
                          refine jr_ldcS (pc := 110) h 39 (by decide) ⟨rfl, rfl⟩ dX9_isName_110 ?_
                          refine iv_X9_119 (pc := 112) h hl hR dX9_isName_112 ⟨(Nat.le_of_ble_eq_true rfl), (Nat.le_of_ble_eq_true rfl), (Nat.le_of_ble_eq_true rfl), (Nat.le_of_ble_eq_true rfl)⟩ (Nat.le_of_ble_eq_true rfl) (by assumption) (by omega) (s_X9_isWord_t hX hTR hPO (k := 39) (by omega) (by omega)) (fun v_112 n_112 M_112 hn_112 hp => ?_)
                          obtain ⟨⟨rfl, rfl, rfl⟩, gr_112⟩ := hp
                          refine jr_if_ne (pc := 115) h 140 dX9_isName_115 (by decide) (by omega) (fun c_115 => ?_) (fun c_115 => ?_)
                          · first | have d_115 := bz_0.mp c_115 | have d_115 := bz_1.mp c_115 | skip
                            refine jr_iconst (pc := 140) h dX9_isName_140 ?_
                            refine jr_iret (pc := 141) h hRt dX9_isName_141 rfl (Nat.le_of_ble_eq_true rfl) (Nat.le_of_ble_eq_true rfl) ?_
                            first
                            | (have q := TR_i hTR hPO d_14.1 (r := 0) (by omega) d_14.2
                               rw [bz_f (fun q2 => by have := q2.2.2; omega)]
                               exact ⟨⟨rfl, rfl, rfl⟩, by decide⟩)
                            | (have q := TR_i hTR hPO d_23.1 (r := 1) (by omega) d_23.2
                               rw [bz_f (fun q2 => by have := q2.2.2; omega)]
                               exact ⟨⟨rfl, rfl, rfl⟩, by decide⟩)
                            | (have q := TR_i hTR hPO d_32.1 (r := 2) (by omega) d_32.2
                               rw [bz_f (fun q2 => by have := q2.2.2; omega)]
                               exact ⟨⟨rfl, rfl, rfl⟩, by decide⟩)
                            | (have q := TR_i hTR hPO d_41.1 (r := 3) (by omega) d_41.2
                               rw [bz_f (fun q2 => by have := q2.2.2; omega)]
                               exact ⟨⟨rfl, rfl, rfl⟩, by decide⟩)
                            | (have q := TR_i hTR hPO d_50.1 (r := 4) (by omega) d_50.2
                               rw [bz_f (fun q2 => by have := q2.2.2; omega)]
                               exact ⟨⟨rfl, rfl, rfl⟩, by decide⟩)
                            | (have q := TR_i hTR hPO d_59.1 (r := 5) (by omega) d_59.2
                               rw [bz_f (fun q2 => by have := q2.2.2; omega)]
                               exact ⟨⟨rfl, rfl, rfl⟩, by decide⟩)
                            | (have q := TR_i hTR hPO d_68.1 (r := 6) (by omega) d_68.2
                               rw [bz_f (fun q2 => by have := q2.2.2; omega)]
                               exact ⟨⟨rfl, rfl, rfl⟩, by decide⟩)
                            | (have q := TR_i hTR hPO d_79.1 (r := 7) (by omega) d_79.2
                               rw [bz_f (fun q2 => by have := q2.2.2; omega)]
                               exact ⟨⟨rfl, rfl, rfl⟩, by decide⟩)
                            | (have q := TR_i hTR hPO d_88.1 (r := 8) (by omega) d_88.2
                               rw [bz_f (fun q2 => by have := q2.2.2; omega)]
                               exact ⟨⟨rfl, rfl, rfl⟩, by decide⟩)
                            | (have q := TR_i hTR hPO d_97.1 (r := 9) (by omega) d_97.2
                               rw [bz_f (fun q2 => by have := q2.2.2; omega)]
                               exact ⟨⟨rfl, rfl, rfl⟩, by decide⟩)
                            | (have q := TR_i hTR hPO d_106.1 (r := 10) (by omega) d_106.2
                               rw [bz_f (fun q2 => by have := q2.2.2; omega)]
                               exact ⟨⟨rfl, rfl, rfl⟩, by decide⟩)
                            | (have q := TR_i hTR hPO d_115.1 (r := 11) (by omega) d_115.2
                               rw [bz_f (fun q2 => by have := q2.2.2; omega)]
                               exact ⟨⟨rfl, rfl, rfl⟩, by decide⟩)
                            | (have q := TR_i hTR hPO d_124.1 (r := 12) (by omega) d_124.2
                               rw [bz_f (fun q2 => by have := q2.2.2; omega)]
                               exact ⟨⟨rfl, rfl, rfl⟩, by decide⟩)
                            | (have q := TR_i hTR hPO d_133.1 (r := 13) (by omega) d_133.2
                               rw [bz_f (fun q2 => by have := q2.2.2; omega)]
                               exact ⟨⟨rfl, rfl, rfl⟩, by decide⟩)
                            | (rw [bz_f (fun q2 => by have := ((TR_5 hTR hPO).2.1 q2.1).2.2.1.2 q2.2.1; omega)]
                               exact ⟨⟨rfl, rfl, rfl⟩, by decide⟩)
                            | (have q7 : p.1 7 = 0 := Classical.byContradiction (fun q => by have := (TR_5 hTR hPO).1.2 q; omega)
                               have q4 := ((TR_5 hTR hPO).2.1 q7).2.2.1.1 (by omega)
                               have qi := TR_in hTR hPO q7 (rk_all (P := fun k => ¬ wordIs bs p.1 k) (fun q => d_14 ⟨q7, q⟩) (fun q => d_23 ⟨q7, q⟩) (fun q => d_32 ⟨q7, q⟩) (fun q => d_41 ⟨q7, q⟩) (fun q => d_50 ⟨q7, q⟩) (fun q => d_59 ⟨q7, q⟩) (fun q => d_68 ⟨q7, q⟩) (fun q => d_79 ⟨q7, q⟩) (fun q => d_88 ⟨q7, q⟩) (fun q => d_97 ⟨q7, q⟩) (fun q => d_106 ⟨q7, q⟩) (fun q => d_115 ⟨q7, q⟩) (fun q => d_124 ⟨q7, q⟩) (fun q => d_133 ⟨q7, q⟩))
                               rw [bz_t ⟨q7, q4, qi⟩]
                               exact ⟨⟨rfl, rfl, rfl⟩, by decide⟩)
                          · first | have d_115 := bz_0.mp c_115 | have d_115 := bz_1.mp c_115 | skip
                            refine jr_aload_n (pc := 118) h dX9_isName_118 rfl ?_
                            refine jr_ldcS (pc := 119) h 40 (by decide) ⟨rfl, rfl⟩ dX9_isName_119 ?_
                            refine iv_X9_119 (pc := 121) h hl hR dX9_isName_121 ⟨(Nat.le_of_ble_eq_true rfl), (Nat.le_of_ble_eq_true rfl), (Nat.le_of_ble_eq_true rfl), (Nat.le_of_ble_eq_true rfl)⟩ (Nat.le_of_ble_eq_true rfl) (by assumption) (by omega) (s_X9_isWord_t hX hTR hPO (k := 40) (by omega) (by omega)) (fun v_121 n_121 M_121 hn_121 hp => ?_)
                            obtain ⟨⟨rfl, rfl, rfl⟩, gr_121⟩ := hp
                            refine jr_if_ne (pc := 124) h 140 dX9_isName_124 (by decide) (by omega) (fun c_124 => ?_) (fun c_124 => ?_)
                            · first | have d_124 := bz_0.mp c_124 | have d_124 := bz_1.mp c_124 | skip
                              refine jr_iconst (pc := 140) h dX9_isName_140 ?_
                              refine jr_iret (pc := 141) h hRt dX9_isName_141 rfl (Nat.le_of_ble_eq_true rfl) (Nat.le_of_ble_eq_true rfl) ?_
                              first
                              | (have q := TR_i hTR hPO d_14.1 (r := 0) (by omega) d_14.2
                                 rw [bz_f (fun q2 => by have := q2.2.2; omega)]
                                 exact ⟨⟨rfl, rfl, rfl⟩, by decide⟩)
                              | (have q := TR_i hTR hPO d_23.1 (r := 1) (by omega) d_23.2
                                 rw [bz_f (fun q2 => by have := q2.2.2; omega)]
                                 exact ⟨⟨rfl, rfl, rfl⟩, by decide⟩)
                              | (have q := TR_i hTR hPO d_32.1 (r := 2) (by omega) d_32.2
                                 rw [bz_f (fun q2 => by have := q2.2.2; omega)]
                                 exact ⟨⟨rfl, rfl, rfl⟩, by decide⟩)
                              | (have q := TR_i hTR hPO d_41.1 (r := 3) (by omega) d_41.2
                                 rw [bz_f (fun q2 => by have := q2.2.2; omega)]
                                 exact ⟨⟨rfl, rfl, rfl⟩, by decide⟩)
                              | (have q := TR_i hTR hPO d_50.1 (r := 4) (by omega) d_50.2
                                 rw [bz_f (fun q2 => by have := q2.2.2; omega)]
                                 exact ⟨⟨rfl, rfl, rfl⟩, by decide⟩)
                              | (have q := TR_i hTR hPO d_59.1 (r := 5) (by omega) d_59.2
                                 rw [bz_f (fun q2 => by have := q2.2.2; omega)]
                                 exact ⟨⟨rfl, rfl, rfl⟩, by decide⟩)
                              | (have q := TR_i hTR hPO d_68.1 (r := 6) (by omega) d_68.2
                                 rw [bz_f (fun q2 => by have := q2.2.2; omega)]
                                 exact ⟨⟨rfl, rfl, rfl⟩, by decide⟩)
                              | (have q := TR_i hTR hPO d_79.1 (r := 7) (by omega) d_79.2
                                 rw [bz_f (fun q2 => by have := q2.2.2; omega)]
                                 exact ⟨⟨rfl, rfl, rfl⟩, by decide⟩)
                              | (have q := TR_i hTR hPO d_88.1 (r := 8) (by omega) d_88.2
                                 rw [bz_f (fun q2 => by have := q2.2.2; omega)]
                                 exact ⟨⟨rfl, rfl, rfl⟩, by decide⟩)
                              | (have q := TR_i hTR hPO d_97.1 (r := 9) (by omega) d_97.2
                                 rw [bz_f (fun q2 => by have := q2.2.2; omega)]
                                 exact ⟨⟨rfl, rfl, rfl⟩, by decide⟩)
                              | (have q := TR_i hTR hPO d_106.1 (r := 10) (by omega) d_106.2
                                 rw [bz_f (fun q2 => by have := q2.2.2; omega)]
                                 exact ⟨⟨rfl, rfl, rfl⟩, by decide⟩)
                              | (have q := TR_i hTR hPO d_115.1 (r := 11) (by omega) d_115.2
                                 rw [bz_f (fun q2 => by have := q2.2.2; omega)]
                                 exact ⟨⟨rfl, rfl, rfl⟩, by decide⟩)
                              | (have q := TR_i hTR hPO d_124.1 (r := 12) (by omega) d_124.2
                                 rw [bz_f (fun q2 => by have := q2.2.2; omega)]
                                 exact ⟨⟨rfl, rfl, rfl⟩, by decide⟩)
                              | (have q := TR_i hTR hPO d_133.1 (r := 13) (by omega) d_133.2
                                 rw [bz_f (fun q2 => by have := q2.2.2; omega)]
                                 exact ⟨⟨rfl, rfl, rfl⟩, by decide⟩)
                              | (rw [bz_f (fun q2 => by have := ((TR_5 hTR hPO).2.1 q2.1).2.2.1.2 q2.2.1; omega)]
                                 exact ⟨⟨rfl, rfl, rfl⟩, by decide⟩)
                              | (have q7 : p.1 7 = 0 := Classical.byContradiction (fun q => by have := (TR_5 hTR hPO).1.2 q; omega)
                                 have q4 := ((TR_5 hTR hPO).2.1 q7).2.2.1.1 (by omega)
                                 have qi := TR_in hTR hPO q7 (rk_all (P := fun k => ¬ wordIs bs p.1 k) (fun q => d_14 ⟨q7, q⟩) (fun q => d_23 ⟨q7, q⟩) (fun q => d_32 ⟨q7, q⟩) (fun q => d_41 ⟨q7, q⟩) (fun q => d_50 ⟨q7, q⟩) (fun q => d_59 ⟨q7, q⟩) (fun q => d_68 ⟨q7, q⟩) (fun q => d_79 ⟨q7, q⟩) (fun q => d_88 ⟨q7, q⟩) (fun q => d_97 ⟨q7, q⟩) (fun q => d_106 ⟨q7, q⟩) (fun q => d_115 ⟨q7, q⟩) (fun q => d_124 ⟨q7, q⟩) (fun q => d_133 ⟨q7, q⟩))
                                 rw [bz_t ⟨q7, q4, qi⟩]
                                 exact ⟨⟨rfl, rfl, rfl⟩, by decide⟩)
                            · first | have d_124 := bz_0.mp c_124 | have d_124 := bz_1.mp c_124 | skip
                              refine jr_aload_n (pc := 127) h dX9_isName_127 rfl ?_
                              refine jr_ldcS (pc := 128) h 41 (by decide) ⟨rfl, rfl⟩ dX9_isName_128 ?_
                              refine iv_X9_119 (pc := 130) h hl hR dX9_isName_130 ⟨(Nat.le_of_ble_eq_true rfl), (Nat.le_of_ble_eq_true rfl), (Nat.le_of_ble_eq_true rfl), (Nat.le_of_ble_eq_true rfl)⟩ (Nat.le_of_ble_eq_true rfl) (by assumption) (by omega) (s_X9_isWord_t hX hTR hPO (k := 41) (by omega) (by omega)) (fun v_130 n_130 M_130 hn_130 hp => ?_)
                              obtain ⟨⟨rfl, rfl, rfl⟩, gr_130⟩ := hp
                              refine jr_if_ne (pc := 133) h 140 dX9_isName_133 (by decide) (by omega) (fun c_133 => ?_) (fun c_133 => ?_)
                              · first | have d_133 := bz_0.mp c_133 | have d_133 := bz_1.mp c_133 | skip
                                refine jr_iconst (pc := 140) h dX9_isName_140 ?_
                                refine jr_iret (pc := 141) h hRt dX9_isName_141 rfl (Nat.le_of_ble_eq_true rfl) (Nat.le_of_ble_eq_true rfl) ?_
                                first
                                | (have q := TR_i hTR hPO d_14.1 (r := 0) (by omega) d_14.2
                                   rw [bz_f (fun q2 => by have := q2.2.2; omega)]
                                   exact ⟨⟨rfl, rfl, rfl⟩, by decide⟩)
                                | (have q := TR_i hTR hPO d_23.1 (r := 1) (by omega) d_23.2
                                   rw [bz_f (fun q2 => by have := q2.2.2; omega)]
                                   exact ⟨⟨rfl, rfl, rfl⟩, by decide⟩)
                                | (have q := TR_i hTR hPO d_32.1 (r := 2) (by omega) d_32.2
                                   rw [bz_f (fun q2 => by have := q2.2.2; omega)]
                                   exact ⟨⟨rfl, rfl, rfl⟩, by decide⟩)
                                | (have q := TR_i hTR hPO d_41.1 (r := 3) (by omega) d_41.2
                                   rw [bz_f (fun q2 => by have := q2.2.2; omega)]
                                   exact ⟨⟨rfl, rfl, rfl⟩, by decide⟩)
                                | (have q := TR_i hTR hPO d_50.1 (r := 4) (by omega) d_50.2
                                   rw [bz_f (fun q2 => by have := q2.2.2; omega)]
                                   exact ⟨⟨rfl, rfl, rfl⟩, by decide⟩)
                                | (have q := TR_i hTR hPO d_59.1 (r := 5) (by omega) d_59.2
                                   rw [bz_f (fun q2 => by have := q2.2.2; omega)]
                                   exact ⟨⟨rfl, rfl, rfl⟩, by decide⟩)
                                | (have q := TR_i hTR hPO d_68.1 (r := 6) (by omega) d_68.2
                                   rw [bz_f (fun q2 => by have := q2.2.2; omega)]
                                   exact ⟨⟨rfl, rfl, rfl⟩, by decide⟩)
                                | (have q := TR_i hTR hPO d_79.1 (r := 7) (by omega) d_79.2
                                   rw [bz_f (fun q2 => by have := q2.2.2; omega)]
                                   exact ⟨⟨rfl, rfl, rfl⟩, by decide⟩)
                                | (have q := TR_i hTR hPO d_88.1 (r := 8) (by omega) d_88.2
                                   rw [bz_f (fun q2 => by have := q2.2.2; omega)]
                                   exact ⟨⟨rfl, rfl, rfl⟩, by decide⟩)
                                | (have q := TR_i hTR hPO d_97.1 (r := 9) (by omega) d_97.2
                                   rw [bz_f (fun q2 => by have := q2.2.2; omega)]
                                   exact ⟨⟨rfl, rfl, rfl⟩, by decide⟩)
                                | (have q := TR_i hTR hPO d_106.1 (r := 10) (by omega) d_106.2
                                   rw [bz_f (fun q2 => by have := q2.2.2; omega)]
                                   exact ⟨⟨rfl, rfl, rfl⟩, by decide⟩)
                                | (have q := TR_i hTR hPO d_115.1 (r := 11) (by omega) d_115.2
                                   rw [bz_f (fun q2 => by have := q2.2.2; omega)]
                                   exact ⟨⟨rfl, rfl, rfl⟩, by decide⟩)
                                | (have q := TR_i hTR hPO d_124.1 (r := 12) (by omega) d_124.2
                                   rw [bz_f (fun q2 => by have := q2.2.2; omega)]
                                   exact ⟨⟨rfl, rfl, rfl⟩, by decide⟩)
                                | (have q := TR_i hTR hPO d_133.1 (r := 13) (by omega) d_133.2
                                   rw [bz_f (fun q2 => by have := q2.2.2; omega)]
                                   exact ⟨⟨rfl, rfl, rfl⟩, by decide⟩)
                                | (rw [bz_f (fun q2 => by have := ((TR_5 hTR hPO).2.1 q2.1).2.2.1.2 q2.2.1; omega)]
                                   exact ⟨⟨rfl, rfl, rfl⟩, by decide⟩)
                                | (have q7 : p.1 7 = 0 := Classical.byContradiction (fun q => by have := (TR_5 hTR hPO).1.2 q; omega)
                                   have q4 := ((TR_5 hTR hPO).2.1 q7).2.2.1.1 (by omega)
                                   have qi := TR_in hTR hPO q7 (rk_all (P := fun k => ¬ wordIs bs p.1 k) (fun q => d_14 ⟨q7, q⟩) (fun q => d_23 ⟨q7, q⟩) (fun q => d_32 ⟨q7, q⟩) (fun q => d_41 ⟨q7, q⟩) (fun q => d_50 ⟨q7, q⟩) (fun q => d_59 ⟨q7, q⟩) (fun q => d_68 ⟨q7, q⟩) (fun q => d_79 ⟨q7, q⟩) (fun q => d_88 ⟨q7, q⟩) (fun q => d_97 ⟨q7, q⟩) (fun q => d_106 ⟨q7, q⟩) (fun q => d_115 ⟨q7, q⟩) (fun q => d_124 ⟨q7, q⟩) (fun q => d_133 ⟨q7, q⟩))
                                   rw [bz_t ⟨q7, q4, qi⟩]
                                   exact ⟨⟨rfl, rfl, rfl⟩, by decide⟩)
                              · first | have d_133 := bz_0.mp c_133 | have d_133 := bz_1.mp c_133 | skip
                                refine jr_iconst (pc := 136) h dX9_isName_136 ?_
                                refine jr_goto (pc := 137) h 141 dX9_isName_137 (by decide) ?_
                                refine jr_iret (pc := 141) h hRt dX9_isName_141 rfl (Nat.le_of_ble_eq_true rfl) (Nat.le_of_ble_eq_true rfl) ?_
                                first
                                | (have q := TR_i hTR hPO d_14.1 (r := 0) (by omega) d_14.2
                                   rw [bz_f (fun q2 => by have := q2.2.2; omega)]
                                   exact ⟨⟨rfl, rfl, rfl⟩, by decide⟩)
                                | (have q := TR_i hTR hPO d_23.1 (r := 1) (by omega) d_23.2
                                   rw [bz_f (fun q2 => by have := q2.2.2; omega)]
                                   exact ⟨⟨rfl, rfl, rfl⟩, by decide⟩)
                                | (have q := TR_i hTR hPO d_32.1 (r := 2) (by omega) d_32.2
                                   rw [bz_f (fun q2 => by have := q2.2.2; omega)]
                                   exact ⟨⟨rfl, rfl, rfl⟩, by decide⟩)
                                | (have q := TR_i hTR hPO d_41.1 (r := 3) (by omega) d_41.2
                                   rw [bz_f (fun q2 => by have := q2.2.2; omega)]
                                   exact ⟨⟨rfl, rfl, rfl⟩, by decide⟩)
                                | (have q := TR_i hTR hPO d_50.1 (r := 4) (by omega) d_50.2
                                   rw [bz_f (fun q2 => by have := q2.2.2; omega)]
                                   exact ⟨⟨rfl, rfl, rfl⟩, by decide⟩)
                                | (have q := TR_i hTR hPO d_59.1 (r := 5) (by omega) d_59.2
                                   rw [bz_f (fun q2 => by have := q2.2.2; omega)]
                                   exact ⟨⟨rfl, rfl, rfl⟩, by decide⟩)
                                | (have q := TR_i hTR hPO d_68.1 (r := 6) (by omega) d_68.2
                                   rw [bz_f (fun q2 => by have := q2.2.2; omega)]
                                   exact ⟨⟨rfl, rfl, rfl⟩, by decide⟩)
                                | (have q := TR_i hTR hPO d_79.1 (r := 7) (by omega) d_79.2
                                   rw [bz_f (fun q2 => by have := q2.2.2; omega)]
                                   exact ⟨⟨rfl, rfl, rfl⟩, by decide⟩)
                                | (have q := TR_i hTR hPO d_88.1 (r := 8) (by omega) d_88.2
                                   rw [bz_f (fun q2 => by have := q2.2.2; omega)]
                                   exact ⟨⟨rfl, rfl, rfl⟩, by decide⟩)
                                | (have q := TR_i hTR hPO d_97.1 (r := 9) (by omega) d_97.2
                                   rw [bz_f (fun q2 => by have := q2.2.2; omega)]
                                   exact ⟨⟨rfl, rfl, rfl⟩, by decide⟩)
                                | (have q := TR_i hTR hPO d_106.1 (r := 10) (by omega) d_106.2
                                   rw [bz_f (fun q2 => by have := q2.2.2; omega)]
                                   exact ⟨⟨rfl, rfl, rfl⟩, by decide⟩)
                                | (have q := TR_i hTR hPO d_115.1 (r := 11) (by omega) d_115.2
                                   rw [bz_f (fun q2 => by have := q2.2.2; omega)]
                                   exact ⟨⟨rfl, rfl, rfl⟩, by decide⟩)
                                | (have q := TR_i hTR hPO d_124.1 (r := 12) (by omega) d_124.2
                                   rw [bz_f (fun q2 => by have := q2.2.2; omega)]
                                   exact ⟨⟨rfl, rfl, rfl⟩, by decide⟩)
                                | (have q := TR_i hTR hPO d_133.1 (r := 13) (by omega) d_133.2
                                   rw [bz_f (fun q2 => by have := q2.2.2; omega)]
                                   exact ⟨⟨rfl, rfl, rfl⟩, by decide⟩)
                                | (rw [bz_f (fun q2 => by have := ((TR_5 hTR hPO).2.1 q2.1).2.2.1.2 q2.2.1; omega)]
                                   exact ⟨⟨rfl, rfl, rfl⟩, by decide⟩)
                                | (have q7 : p.1 7 = 0 := Classical.byContradiction (fun q => by have := (TR_5 hTR hPO).1.2 q; omega)
                                   have q4 := ((TR_5 hTR hPO).2.1 q7).2.2.1.1 (by omega)
                                   have qi := TR_in hTR hPO q7 (rk_all (P := fun k => ¬ wordIs bs p.1 k) (fun q => d_14 ⟨q7, q⟩) (fun q => d_23 ⟨q7, q⟩) (fun q => d_32 ⟨q7, q⟩) (fun q => d_41 ⟨q7, q⟩) (fun q => d_50 ⟨q7, q⟩) (fun q => d_59 ⟨q7, q⟩) (fun q => d_68 ⟨q7, q⟩) (fun q => d_79 ⟨q7, q⟩) (fun q => d_88 ⟨q7, q⟩) (fun q => d_97 ⟨q7, q⟩) (fun q => d_106 ⟨q7, q⟩) (fun q => d_115 ⟨q7, q⟩) (fun q => d_124 ⟨q7, q⟩) (fun q => d_133 ⟨q7, q⟩))
                                   rw [bz_t ⟨q7, q4, qi⟩]
                                   exact ⟨⟨rfl, rfl, rfl⟩, by decide⟩)
                · first | have d_68 := bz_0.mp c_68 | have d_68 := bz_1.mp c_68 | skip
                  refine jr_iconst (pc := 71) h dX9_isName_71 ?_
                  refine jr_iret (pc := 72) h hRt dX9_isName_72 rfl (Nat.le_of_ble_eq_true rfl) (Nat.le_of_ble_eq_true rfl) ?_
                  first
                  | (have q := TR_i hTR hPO d_14.1 (r := 0) (by omega) d_14.2
                     rw [bz_f (fun q2 => by have := q2.2.2; omega)]
                     exact ⟨⟨rfl, rfl, rfl⟩, by decide⟩)
                  | (have q := TR_i hTR hPO d_23.1 (r := 1) (by omega) d_23.2
                     rw [bz_f (fun q2 => by have := q2.2.2; omega)]
                     exact ⟨⟨rfl, rfl, rfl⟩, by decide⟩)
                  | (have q := TR_i hTR hPO d_32.1 (r := 2) (by omega) d_32.2
                     rw [bz_f (fun q2 => by have := q2.2.2; omega)]
                     exact ⟨⟨rfl, rfl, rfl⟩, by decide⟩)
                  | (have q := TR_i hTR hPO d_41.1 (r := 3) (by omega) d_41.2
                     rw [bz_f (fun q2 => by have := q2.2.2; omega)]
                     exact ⟨⟨rfl, rfl, rfl⟩, by decide⟩)
                  | (have q := TR_i hTR hPO d_50.1 (r := 4) (by omega) d_50.2
                     rw [bz_f (fun q2 => by have := q2.2.2; omega)]
                     exact ⟨⟨rfl, rfl, rfl⟩, by decide⟩)
                  | (have q := TR_i hTR hPO d_59.1 (r := 5) (by omega) d_59.2
                     rw [bz_f (fun q2 => by have := q2.2.2; omega)]
                     exact ⟨⟨rfl, rfl, rfl⟩, by decide⟩)
                  | (have q := TR_i hTR hPO d_68.1 (r := 6) (by omega) d_68.2
                     rw [bz_f (fun q2 => by have := q2.2.2; omega)]
                     exact ⟨⟨rfl, rfl, rfl⟩, by decide⟩)
                  | (have q := TR_i hTR hPO d_79.1 (r := 7) (by omega) d_79.2
                     rw [bz_f (fun q2 => by have := q2.2.2; omega)]
                     exact ⟨⟨rfl, rfl, rfl⟩, by decide⟩)
                  | (have q := TR_i hTR hPO d_88.1 (r := 8) (by omega) d_88.2
                     rw [bz_f (fun q2 => by have := q2.2.2; omega)]
                     exact ⟨⟨rfl, rfl, rfl⟩, by decide⟩)
                  | (have q := TR_i hTR hPO d_97.1 (r := 9) (by omega) d_97.2
                     rw [bz_f (fun q2 => by have := q2.2.2; omega)]
                     exact ⟨⟨rfl, rfl, rfl⟩, by decide⟩)
                  | (have q := TR_i hTR hPO d_106.1 (r := 10) (by omega) d_106.2
                     rw [bz_f (fun q2 => by have := q2.2.2; omega)]
                     exact ⟨⟨rfl, rfl, rfl⟩, by decide⟩)
                  | (have q := TR_i hTR hPO d_115.1 (r := 11) (by omega) d_115.2
                     rw [bz_f (fun q2 => by have := q2.2.2; omega)]
                     exact ⟨⟨rfl, rfl, rfl⟩, by decide⟩)
                  | (have q := TR_i hTR hPO d_124.1 (r := 12) (by omega) d_124.2
                     rw [bz_f (fun q2 => by have := q2.2.2; omega)]
                     exact ⟨⟨rfl, rfl, rfl⟩, by decide⟩)
                  | (have q := TR_i hTR hPO d_133.1 (r := 13) (by omega) d_133.2
                     rw [bz_f (fun q2 => by have := q2.2.2; omega)]
                     exact ⟨⟨rfl, rfl, rfl⟩, by decide⟩)
                  | (rw [bz_f (fun q2 => by have := ((TR_5 hTR hPO).2.1 q2.1).2.2.1.2 q2.2.1; omega)]
                     exact ⟨⟨rfl, rfl, rfl⟩, by decide⟩)
                  | (have q7 : p.1 7 = 0 := Classical.byContradiction (fun q => by have := (TR_5 hTR hPO).1.2 q; omega)
                     have q4 := ((TR_5 hTR hPO).2.1 q7).2.2.1.1 (by omega)
                     have qi := TR_in hTR hPO q7 (rk_all (P := fun k => ¬ wordIs bs p.1 k) (fun q => d_14 ⟨q7, q⟩) (fun q => d_23 ⟨q7, q⟩) (fun q => d_32 ⟨q7, q⟩) (fun q => d_41 ⟨q7, q⟩) (fun q => d_50 ⟨q7, q⟩) (fun q => d_59 ⟨q7, q⟩) (fun q => d_68 ⟨q7, q⟩) (fun q => d_79 ⟨q7, q⟩) (fun q => d_88 ⟨q7, q⟩) (fun q => d_97 ⟨q7, q⟩) (fun q => d_106 ⟨q7, q⟩) (fun q => d_115 ⟨q7, q⟩) (fun q => d_124 ⟨q7, q⟩) (fun q => d_133 ⟨q7, q⟩))
                     rw [bz_t ⟨q7, q4, qi⟩]
                     exact ⟨⟨rfl, rfl, rfl⟩, by decide⟩)
/-- bounds that the flight being read keeps to -/
def NB (gF : Nat → Int) (A : Nat → Nat → Int) : Prop := (0 ≤ gF 16 ∧ gF 16 ≤ 16) ∧ ∀ i : Nat, i < 16 → (0 ≤ A 28 i ∧ A 28 i < 1099511627776) ∧ (0 ≤ A 29 i ∧ A 29 i ≤ 2) ∧ 0 ≤ A 30 i ∧ A 30 i ≤ 6
def nsR (s : Int) : Int := if s = 2 then 0 else if s = 5 then 1 else 2
/-- names told, as the reference has them -/
def NR (p : TS) (gF : Nat → Int) (A : Nat → Nat → Int) : Prop := gF 16 = p.1 12 ∧ ∀ i : Nat, (i : Int) < p.1 12 → wrel (p.2.2.1 i) (A 28 i) ∧ A 29 i = nsR (p.2.2.2.1 i) ∧ A 30 i = p.2.2.2.2 i
theorem NR_f {bs : Nat → Int} {p : TS} {g gF : Nat → Int} {w : Int} {A : Nat → Nat → Int} (hR : NR p gF A) (hT : TR bs p g w) (q : p.1 7 = 0) (q4 : p.1 4 = 1) : fnI p.2.2.1 p.2.1 (p.1 12) = fnI (A 28) w (gF 16) := by
  have hw := TR_r hT q q4
  unfold fnI
  rw [hR.1]
  exact fnR_c _ _ (fun j _ hj => wrel_iff (hR.2 j (by omega)).1 hw)
set_option maxHeartbeats 1000000 in
set_option maxRecDepth 20000 in
theorem s_X8_find {l : Launch} {n : Nat} {M : jdM} {f2 : Nat} {gF : Nat → Int} {A : Nat → Nat → Int} (hMF : MF M n f2 gF A) (hNB : NB gF A) {w : Int} (hw : 0 ≤ w ∧ w < 1099511627776) : Ct l yX8_find cX8_find 4 (some .int) rX8_find [.ref f2, jL w] n M (fun vv n' M' => (vv = some (jI (fnI (A 28) w (gF 16))) ∧ n = n' ∧ M = M') ∧ (-1) ≤ (fnI (A 28) w (gF 16)) ∧ (fnI (A 28) w (gF 16)) ≤ 15) := by
  refine Ct_of [some (.ref f2), some (jL w), none, none] (by decide) (Nat.le_of_ble_eq_true rfl) rfl (fun κ hl h hR hRt hmn hn0 => ?_)
  have h : Ok κ RX8 cX8_find 4 (some .int) := h
  obtain ⟨hnf, hOf, hAf⟩ := id hMF
  have hA28 : M (f2 + 28) = jdL 16 (A 28) := hAf 28 (by omega) (by omega)
  have hNBc := hNB.1
  refine jr_iconst (pc := 0) h dX8_find_0 ?_
  refine jr_istore_n (pc := 1) h [_, _, _, _] dX8_find_1 (by decide) rfl ?_
  have loop : ∀ (dq : Nat) (i : Int), (0 ≤ i ∧ i ≤ gF 16) → (fnI (A 28) w (gF 16) = fnR (A 28) w i.toNat (gF 16 - i).toNat) → (20 - i).toNat < dq → J κ 4 0 0 n 2 [some (.ref f2), some (jL w), none, some (jI i)] [] M := by
    intro dq
    induction dq with
    | zero => intro i hi hr hd; omega
    | succ dq ih =>
      intro i hi hr hd
      refine jr_iload_n (pc := 2) h dX8_find_2 rfl ?_
      refine jr_aload_n (pc := 3) h dX8_find_3 rfl ?_
      refine gf_X8_108 (pc := 4) h dX8_find_4 (by assumption) (by omega) ?_
      refine jr_icmp_ge (pc := 7) h 29 dX8_find_7 (by decide) (by omega) (by omega) (fun c_7 => ?_) (fun c_7 => ?_)
      · skip
        refine jr_iconst (pc := 29) h dX8_find_29 ?_
        refine jr_iret (pc := 30) h hRt dX8_find_30 rfl (Nat.le_of_ble_eq_true rfl) (Nat.le_of_ble_eq_true rfl) ?_
        rw [hr, show (gF 16 - i).toNat = 0 by omega, fnR]
        exact ⟨⟨rfl, rfl, rfl⟩, by omega⟩
      · skip
        refine jr_aload_n (pc := 10) h dX8_find_10 rfl ?_
        refine gf_X8_98 (pc := 11) h dX8_find_11 (by assumption) (by omega) ?_
        refine jr_iload_n (pc := 14) h dX8_find_14 rfl ?_
        refine jr_lald (pc := 15) h dX8_find_15 (by assumption) (by omega) (by omega) ?_
        refine jr_lload_n (pc := 16) h dX8_find_16 rfl ?_
        have hn28 := (hNB.2 i.toNat (by omega)).1
        refine jr_lcmp (pc := 17) h dX8_find_17 (by omega) (by omega) ?_
        have lz := lcz_s (A 28 i.toNat) w
        refine jr_if_ne (pc := 18) h 23 dX8_find_18 (by decide) (by omega) (fun c_18 => ?_) (fun c_18 => ?_)
        · skip
          refine jr_iinc (pc := 23) h [_, _, _, _] dX8_find_23 (by decide) rfl rfl ?_
          refine jr_goto (pc := 26) h 2 dX8_find_26 (by decide) ?_
          refine ih _ (by omega) ?_ (by omega)
          rw [hr, show (gF 16 - i).toNat = (gF 16 - (i + 1)).toNat + 1 by omega, fnR, if_neg (by omega), show (i + 1).toNat = i.toNat + 1 by omega]
        · skip
          refine jr_iload_n (pc := 21) h dX8_find_21 rfl ?_
          refine jr_iret (pc := 22) h hRt dX8_find_22 rfl (Nat.le_of_ble_eq_true rfl) (Nat.le_of_ble_eq_true rfl) ?_
          rw [hr, show (gF 16 - i).toNat = (gF 16 - (i + 1)).toNat + 1 by omega, fnR, if_pos (by omega)]
          exact ⟨⟨ji_c (by omega), rfl, rfl⟩, by omega⟩
  exact loop _ _ (by omega) (by unfold fnI; rw [Int.sub_zero]; rfl) (Nat.lt_succ_self _)
theorem snP_1 {bs : Nat → Int} {s : Int} {p : TS} (h : ¬ (p.1 7 = 0 ∧ p.1 4 = 1 ∧ resI bs p.1 = -1)) : (snP bs s p).2 = flP 1 p := by
  unfold snP
  by_cases q : p.1 7 = 0
  · rw [if_neg (fun q' => q' q), if_pos (by
      by_cases q4 : p.1 4 = 1
      · exact Or.inr (fun q5 => h ⟨q, q4, q5⟩)
      · exact Or.inl q4)]
  · rw [if_pos q]
    unfold flP
    rw [if_neg q]
theorem snP_2 {bs : Nat → Int} {s : Int} {p : TS} (h : p.1 7 = 0 ∧ p.1 4 = 1 ∧ resI bs p.1 = -1) (h2 : fnI p.2.2.1 p.2.1 (p.1 12) = -1 ∨ p.2.2.2.1 (fnI p.2.2.1 p.2.1 (p.1 12)).toNat ≠ s) : (snP bs s p).2 = flP 2 p := by
  unfold snP
  rw [if_neg (fun q' => q' h.1), if_neg (fun q => q.elim (fun q => q h.2.1) (fun q => q h.2.2)), if_pos h2]
theorem snP_3 {bs : Nat → Int} {s : Int} {p : TS} (h : p.1 7 = 0 ∧ p.1 4 = 1 ∧ resI bs p.1 = -1) (h2 : ¬ (fnI p.2.2.1 p.2.1 (p.1 12) = -1 ∨ p.2.2.2.1 (fnI p.2.2.1 p.2.1 (p.1 12)).toNat ≠ s)) : snP bs s p = (p.2.2.2.2 (fnI p.2.2.1 p.2.1 (p.1 12)).toNat, p) := by
  unfold snP
  rw [if_neg (fun q' => q' h.1), if_neg (fun q => q.elim (fun q => q h.2.1) (fun q => q h.2.2)), if_neg h2]
theorem flP_f {k j : Int} {p : TS} (hj : j ≠ 0) : flP k (flP j p) = flP j p := if_neg (flP_x hj)
theorem nsR_i {s y : Int} (hs : s = 2 ∨ s = 5) : nsR y = nsR s ↔ y = s := by
  rcases hs with rfl | rfl
  · rw [show nsR 2 = 0 from rfl]
    unfold nsR
    split <;> (try split) <;> omega
  · rw [show nsR 5 = 1 from rfl]
    unfold nsR
    split <;> (try split) <;> omega
set_option maxHeartbeats 1000000 in
set_option maxRecDepth 20000 in
theorem s_X9_known {l : Launch} {n : Nat} {M : jdM} {m f2 : Nat} {g : Nat → Int} {w : Int} {fl : Value} {B : Nat → Nat → Int} (hX : MX M n m g w fl (.ref f2) B) {bs : Nat → Int} (hbt : ∀ j, j < 900 → B 1 j = bs j) (hbb : ∀ j, -128 ≤ bs j ∧ bs j ≤ 127) {p : TS} (hTR : TR bs p g w) (hPO : PO p) {gF : Nat → Int} {A : Nat → Nat → Int} (hMF : MF M n f2 gF A) (hsep : f2 + 30 < m ∨ m + 12 < f2) (hNB : NB gF A) (hNR : p.1 7 = 0 → NR p gF A) {s x : Int} (hs : s = 2 ∨ s = 5) (hsx : x = nsR s) : Ct l yX9_known cX9_known 3 (some .int) rX9_known [.ref m, jI x] n M (fun vv n' M' => ∃ v : Int, (vv = some (jI v) ∧ n = n') ∧ (0 ≤ v ∧ v ≤ 6) ∧ ((snP bs s p).2.1 7 = 0 → v = (snP bs s p).1) ∧ ∃ g' w', MX M' n m g' w' fl (.ref f2) B ∧ gkp g g' ∧ TR bs (snP bs s p).2 g' w' ∧ fr (MXf m) M M') := by
  refine Ct_of [some (.ref m), some (jI x), none] (by decide) (Nat.le_of_ble_eq_true rfl) rfl (fun κ hl h hR hRt hmn hn0 => ?_)
  have h : Ok κ RX9 cX9_known 3 (some .int) := h
  obtain ⟨hnm, hOm, hBm⟩ := id hX
  have hOm : M m = jdO 9 (fX9 m _ _ fl (.ref f2)) := hOm
  obtain ⟨hnf, hOf, hAf⟩ := id hMF
  have hA29 : M (f2 + 29) = jdA 16 (A 29) := hAf 29 (by omega) (by omega)
  have hA30 : M (f2 + 30) = jdA 16 (A 30) := hAf 30 (by omega) (by omega)
  have f1 : fr (MXf m) M M := fr_rf
  have hgk : gkp g g := gkp_r
  have hxr : x = 0 ∨ x = 1 := by
    rw [hsx]
    rcases hs with rfl | rfl
    · exact Or.inl rfl
    · exact Or.inr rfl
  have hNBc := hNB.1
  refine jr_aload_n (pc := 0) h dX9_known_0 rfl ?_
  refine iv_X9_170 (pc := 1) h hl hR dX9_known_1 ⟨(Nat.le_of_ble_eq_true rfl), (Nat.le_of_ble_eq_true rfl), (Nat.le_of_ble_eq_true rfl), (Nat.le_of_ble_eq_true rfl)⟩ (Nat.le_of_ble_eq_true rfl) (by assumption) (by omega) (s_X9_isName hX hTR hPO) (fun v_1 n_1 M_1 hn_1 hp => ?_)
  obtain ⟨⟨rfl, rfl, rfl⟩, gr_1⟩ := hp
  refine jr_if_ne (pc := 4) h 12 dX9_known_4 (by decide) (by omega) (fun c_4 => ?_) (fun c_4 => ?_)
  · have d_4 := bz_1.mp c_4
    have hNR7 := hNR d_4.1
    have eFF0 := NR_f hNR7 hTR d_4.1 d_4.2.1
    refine jr_aload_n (pc := 12) h dX9_known_12 rfl ?_
    refine gf_X9_174 (pc := 13) h dX9_known_13 (by assumption) (by omega) ?_
    refine jr_aload_n (pc := 16) h dX9_known_16 rfl ?_
    refine gf_X9_99 (pc := 17) h dX9_known_17 (by assumption) (by omega) ?_
    refine iv_X9_178 (pc := 20) h hl hR dX9_known_20 ⟨(Nat.le_of_ble_eq_true rfl), (Nat.le_of_ble_eq_true rfl), (Nat.le_of_ble_eq_true rfl), (Nat.le_of_ble_eq_true rfl)⟩ (Nat.le_of_ble_eq_true rfl) (by assumption) (by omega) (s_X8_find hMF hNB hTR.1.2.2.2.2) (fun v_20 n_20 M_20 hn_20 hp => ?_)
    obtain ⟨⟨rfl, rfl, rfl⟩, gr_20⟩ := hp
    obtain ⟨F, eF⟩ : ∃ z, fnI (A 28) w (gF 16) = z := ⟨_, rfl⟩
    rw [eF] at gr_20 ⊢
    have hFb := fnI_b (nm := A 28) (w := w) (c := gF 16) hNBc.1
    rw [eF] at hFb
    have eFF := eFF0.trans eF
    have h12c := hNR7.1
    refine jr_istore_n (pc := 23) h [_, _, _] dX9_known_23 (by decide) rfl ?_
    refine jr_iload_n (pc := 24) h dX9_known_24 rfl ?_
    refine jr_iconst (pc := 25) h dX9_known_25 ?_
    refine jr_icmp_eq (pc := 26) h 42 dX9_known_26 (by decide) (by omega) (by omega) (fun c_26 => ?_) (fun c_26 => ?_)
    · first | have d_26 := bz_0.mp c_26 | have d_26 := bz_1.mp c_26 | skip
      refine jr_aload_n (pc := 42) h dX9_known_42 rfl ?_
      refine jr_iconst (pc := 43) h dX9_known_43 ?_
      refine iv_X9_126 (pc := 44) h hl hR dX9_known_44 ⟨(Nat.le_of_ble_eq_true rfl), (Nat.le_of_ble_eq_true rfl), (Nat.le_of_ble_eq_true rfl), (Nat.le_of_ble_eq_true rfl)⟩ (Nat.le_of_ble_eq_true rfl) (by assumption) (by omega) (s_X9_wrong hX (p := p) (k := 2) hTR hPO (by omega)) (fun v_44 n_44 M_44 hn_44 hp => ?_)
      obtain ⟨⟨rfl, rfl⟩, g1, w1, hX, hg1, hTR, f9⟩ := hp
      have f1 := fr_tr f1 f9
      have hgk := gkp_t hgk hg1
      obtain ⟨hnm, hOm, hBm⟩ := id hX
      obtain ⟨hnm, hOm, hBm⟩ := id hX
      have hOm : M_44 m = jdO 9 (fX9 m _ _ fl (.ref f2)) := hOm
      have hMF := MF_fr hMF f9 (Nat.le_refl _) (fun k h1 h2 q => by have := q.1; have := q.2; omega)
      obtain ⟨hnf, hOf, hAf⟩ := id hMF
      have hA29 : M_44 (f2 + 29) = jdA 16 (A 29) := hAf 29 (by omega) (by omega)
      have hA30 : M_44 (f2 + 30) = jdA 16 (A 30) := hAf 30 (by omega) (by omega)
      replace hPO := flP_O (k := 2) hPO (by omega)
      have h57 := (TR_5 hTR hPO).1
      have h5r := (TR_5 hTR hPO).2.2
      first | have h5z := h57.2 (flP_x (by omega)) | have h5n : ¬ g 9 = 5 := fun e => h57.1 e d_4.1
      refine jr_aload_n (pc := 47) h dX9_known_47 rfl ?_
      refine gf_X9_80 (pc := 48) h dX9_known_48 (by assumption) (by omega) ?_
      refine jr_iconst (pc := 51) h dX9_known_51 ?_
      refine jr_icmp_ne (pc := 52) h 59 dX9_known_52 (by decide) (by omega) (by omega) (fun c_52 => ?_) (fun c_52 => ?_)
      · first | have d_52 := bz_0.mp c_52 | have d_52 := bz_1.mp c_52 | skip
        refine jr_aload_n (pc := 59) h dX9_known_59 rfl ?_
        refine gf_X9_174 (pc := 60) h dX9_known_60 (by assumption) (by omega) ?_
        refine gf_X9_193 (pc := 63) h dX9_known_63 (by assumption) (by omega) ?_
        have hn29 := hNB.2 F.toNat (by omega)
        refine jr_iload_n (pc := 66) h dX9_known_66 rfl ?_
        refine jr_iald (pc := 67) h dX9_known_67 (by assumption) (by omega) (by omega) ?_
        refine jr_iret (pc := 68) h hRt dX9_known_68 rfl (Nat.le_of_ble_eq_true rfl) (Nat.le_of_ble_eq_true rfl) ?_
        first
        | (exfalso; omega)
        | (have hk9 : fnI p.2.2.1 p.2.1 (p.1 12) = -1 ∨ p.2.2.2.1 (fnI p.2.2.1 p.2.1 (p.1 12)).toNat ≠ s := by
             rw [eFF]
             first
             | (exact Or.inl (by omega))
             | (refine Or.inr (fun q => ?_)
                have hz := (hNR7.2 F.toNat (by omega)).2.1
                rw [q] at hz
                omega)
           exact ⟨_, ⟨rfl, rfl⟩, by omega, fun q => absurd q (by rw [snP_2 d_4 hk9]; exact flP_x (by omega)), _, _, hX, hgk, (by rw [snP_2 d_4 hk9]; exact hTR), f1⟩)
        | (have hk9 : ¬ (fnI p.2.2.1 p.2.1 (p.1 12) = -1 ∨ p.2.2.2.1 (fnI p.2.2.1 p.2.1 (p.1 12)).toNat ≠ s) := by
             rw [eFF]
             rintro (q | q)
             · omega
             · have hz := (hNR7.2 F.toNat (by omega)).2.1
               exact q ((nsR_i hs).1 (by omega))
           have hz := (hNR7.2 F.toNat (by omega)).2.2
           have ee := snP_3 (s := s) d_4 hk9
           rw [eFF] at ee
           exact ⟨_, ⟨rfl, rfl⟩, by omega, fun _ => by rw [ee]; exact hz, _, _, hX, hgk, (by rw [ee]; exact hTR), f1⟩)
      · first | have d_52 := bz_0.mp c_52 | have d_52 := bz_1.mp c_52 | skip
        refine jr_iconst (pc := 55) h dX9_known_55 ?_
        refine jr_goto (pc := 56) h 68 dX9_known_56 (by decide) ?_
        refine jr_iret (pc := 68) h hRt dX9_known_68 rfl (Nat.le_of_ble_eq_true rfl) (Nat.le_of_ble_eq_true rfl) ?_
        first
        | (exfalso; omega)
        | (have hk9 : fnI p.2.2.1 p.2.1 (p.1 12) = -1 ∨ p.2.2.2.1 (fnI p.2.2.1 p.2.1 (p.1 12)).toNat ≠ s := by
             rw [eFF]
             first
             | (exact Or.inl (by omega))
             | (refine Or.inr (fun q => ?_)
                have hz := (hNR7.2 F.toNat (by omega)).2.1
                rw [q] at hz
                omega)
           exact ⟨_, ⟨rfl, rfl⟩, by omega, fun q => absurd q (by rw [snP_2 d_4 hk9]; exact flP_x (by omega)), _, _, hX, hgk, (by rw [snP_2 d_4 hk9]; exact hTR), f1⟩)
        | (have hk9 : ¬ (fnI p.2.2.1 p.2.1 (p.1 12) = -1 ∨ p.2.2.2.1 (fnI p.2.2.1 p.2.1 (p.1 12)).toNat ≠ s) := by
             rw [eFF]
             rintro (q | q)
             · omega
             · have hz := (hNR7.2 F.toNat (by omega)).2.1
               exact q ((nsR_i hs).1 (by omega))
           have hz := (hNR7.2 F.toNat (by omega)).2.2
           have ee := snP_3 (s := s) d_4 hk9
           rw [eFF] at ee
           exact ⟨_, ⟨rfl, rfl⟩, by omega, fun _ => by rw [ee]; exact hz, _, _, hX, hgk, (by rw [ee]; exact hTR), f1⟩)
    · first | have d_26 := bz_0.mp c_26 | have d_26 := bz_1.mp c_26 | skip
      refine jr_aload_n (pc := 29) h dX9_known_29 rfl ?_
      refine gf_X9_174 (pc := 30) h dX9_known_30 (by assumption) (by omega) ?_
      refine gf_X9_190 (pc := 33) h dX9_known_33 (by assumption) (by omega) ?_
      refine jr_iload_n (pc := 36) h dX9_known_36 rfl ?_
      have hn29 := hNB.2 F.toNat (by omega)
      refine jr_iald (pc := 37) h dX9_known_37 (by assumption) (by omega) (by omega) ?_
      refine jr_iload_n (pc := 38) h dX9_known_38 rfl ?_
      refine jr_icmp_eq (pc := 39) h 47 dX9_known_39 (by decide) (by omega) (by omega) (fun c_39 => ?_) (fun c_39 => ?_)
      · first | have d_39 := bz_0.mp c_39 | have d_39 := bz_1.mp c_39 | skip
        have h57 := (TR_5 hTR hPO).1
        have h5r := (TR_5 hTR hPO).2.2
        first | have h5z := h57.2 (flP_x (by omega)) | have h5n : ¬ g 9 = 5 := fun e => h57.1 e d_4.1
        refine jr_aload_n (pc := 47) h dX9_known_47 rfl ?_
        refine gf_X9_80 (pc := 48) h dX9_known_48 (by assumption) (by omega) ?_
        refine jr_iconst (pc := 51) h dX9_known_51 ?_
        refine jr_icmp_ne (pc := 52) h 59 dX9_known_52 (by decide) (by omega) (by omega) (fun c_52 => ?_) (fun c_52 => ?_)
        · first | have d_52 := bz_0.mp c_52 | have d_52 := bz_1.mp c_52 | skip
          refine jr_aload_n (pc := 59) h dX9_known_59 rfl ?_
          refine gf_X9_174 (pc := 60) h dX9_known_60 (by assumption) (by omega) ?_
          refine gf_X9_193 (pc := 63) h dX9_known_63 (by assumption) (by omega) ?_
          have hn29 := hNB.2 F.toNat (by omega)
          refine jr_iload_n (pc := 66) h dX9_known_66 rfl ?_
          refine jr_iald (pc := 67) h dX9_known_67 (by assumption) (by omega) (by omega) ?_
          refine jr_iret (pc := 68) h hRt dX9_known_68 rfl (Nat.le_of_ble_eq_true rfl) (Nat.le_of_ble_eq_true rfl) ?_
          first
          | (exfalso; omega)
          | (have hk9 : fnI p.2.2.1 p.2.1 (p.1 12) = -1 ∨ p.2.2.2.1 (fnI p.2.2.1 p.2.1 (p.1 12)).toNat ≠ s := by
               rw [eFF]
               first
               | (exact Or.inl (by omega))
               | (refine Or.inr (fun q => ?_)
                  have hz := (hNR7.2 F.toNat (by omega)).2.1
                  rw [q] at hz
                  omega)
             exact ⟨_, ⟨rfl, rfl⟩, by omega, fun q => absurd q (by rw [snP_2 d_4 hk9]; exact flP_x (by omega)), _, _, hX, hgk, (by rw [snP_2 d_4 hk9]; exact hTR), f1⟩)
          | (have hk9 : ¬ (fnI p.2.2.1 p.2.1 (p.1 12) = -1 ∨ p.2.2.2.1 (fnI p.2.2.1 p.2.1 (p.1 12)).toNat ≠ s) := by
               rw [eFF]
               rintro (q | q)
               · omega
               · have hz := (hNR7.2 F.toNat (by omega)).2.1
                 exact q ((nsR_i hs).1 (by omega))
             have hz := (hNR7.2 F.toNat (by omega)).2.2
             have ee := snP_3 (s := s) d_4 hk9
             rw [eFF] at ee
             exact ⟨_, ⟨rfl, rfl⟩, by omega, fun _ => by rw [ee]; exact hz, _, _, hX, hgk, (by rw [ee]; exact hTR), f1⟩)
        · first | have d_52 := bz_0.mp c_52 | have d_52 := bz_1.mp c_52 | skip
          refine jr_iconst (pc := 55) h dX9_known_55 ?_
          refine jr_goto (pc := 56) h 68 dX9_known_56 (by decide) ?_
          refine jr_iret (pc := 68) h hRt dX9_known_68 rfl (Nat.le_of_ble_eq_true rfl) (Nat.le_of_ble_eq_true rfl) ?_
          first
          | (exfalso; omega)
          | (have hk9 : fnI p.2.2.1 p.2.1 (p.1 12) = -1 ∨ p.2.2.2.1 (fnI p.2.2.1 p.2.1 (p.1 12)).toNat ≠ s := by
               rw [eFF]
               first
               | (exact Or.inl (by omega))
               | (refine Or.inr (fun q => ?_)
                  have hz := (hNR7.2 F.toNat (by omega)).2.1
                  rw [q] at hz
                  omega)
             exact ⟨_, ⟨rfl, rfl⟩, by omega, fun q => absurd q (by rw [snP_2 d_4 hk9]; exact flP_x (by omega)), _, _, hX, hgk, (by rw [snP_2 d_4 hk9]; exact hTR), f1⟩)
          | (have hk9 : ¬ (fnI p.2.2.1 p.2.1 (p.1 12) = -1 ∨ p.2.2.2.1 (fnI p.2.2.1 p.2.1 (p.1 12)).toNat ≠ s) := by
               rw [eFF]
               rintro (q | q)
               · omega
               · have hz := (hNR7.2 F.toNat (by omega)).2.1
                 exact q ((nsR_i hs).1 (by omega))
             have hz := (hNR7.2 F.toNat (by omega)).2.2
             have ee := snP_3 (s := s) d_4 hk9
             rw [eFF] at ee
             exact ⟨_, ⟨rfl, rfl⟩, by omega, fun _ => by rw [ee]; exact hz, _, _, hX, hgk, (by rw [ee]; exact hTR), f1⟩)
      · first | have d_39 := bz_0.mp c_39 | have d_39 := bz_1.mp c_39 | skip
        refine jr_aload_n (pc := 42) h dX9_known_42 rfl ?_
        refine jr_iconst (pc := 43) h dX9_known_43 ?_
        refine iv_X9_126 (pc := 44) h hl hR dX9_known_44 ⟨(Nat.le_of_ble_eq_true rfl), (Nat.le_of_ble_eq_true rfl), (Nat.le_of_ble_eq_true rfl), (Nat.le_of_ble_eq_true rfl)⟩ (Nat.le_of_ble_eq_true rfl) (by assumption) (by omega) (s_X9_wrong hX (p := p) (k := 2) hTR hPO (by omega)) (fun v_44 n_44 M_44 hn_44 hp => ?_)
        obtain ⟨⟨rfl, rfl⟩, g1, w1, hX, hg1, hTR, f9⟩ := hp
        have f1 := fr_tr f1 f9
        have hgk := gkp_t hgk hg1
        obtain ⟨hnm, hOm, hBm⟩ := id hX
        obtain ⟨hnm, hOm, hBm⟩ := id hX
        have hOm : M_44 m = jdO 9 (fX9 m _ _ fl (.ref f2)) := hOm
        have hMF := MF_fr hMF f9 (Nat.le_refl _) (fun k h1 h2 q => by have := q.1; have := q.2; omega)
        obtain ⟨hnf, hOf, hAf⟩ := id hMF
        have hA29 : M_44 (f2 + 29) = jdA 16 (A 29) := hAf 29 (by omega) (by omega)
        have hA30 : M_44 (f2 + 30) = jdA 16 (A 30) := hAf 30 (by omega) (by omega)
        replace hPO := flP_O (k := 2) hPO (by omega)
        have h57 := (TR_5 hTR hPO).1
        have h5r := (TR_5 hTR hPO).2.2
        first | have h5z := h57.2 (flP_x (by omega)) | have h5n : ¬ g 9 = 5 := fun e => h57.1 e d_4.1
        refine jr_aload_n (pc := 47) h dX9_known_47 rfl ?_
        refine gf_X9_80 (pc := 48) h dX9_known_48 (by assumption) (by omega) ?_
        refine jr_iconst (pc := 51) h dX9_known_51 ?_
        refine jr_icmp_ne (pc := 52) h 59 dX9_known_52 (by decide) (by omega) (by omega) (fun c_52 => ?_) (fun c_52 => ?_)
        · first | have d_52 := bz_0.mp c_52 | have d_52 := bz_1.mp c_52 | skip
          refine jr_aload_n (pc := 59) h dX9_known_59 rfl ?_
          refine gf_X9_174 (pc := 60) h dX9_known_60 (by assumption) (by omega) ?_
          refine gf_X9_193 (pc := 63) h dX9_known_63 (by assumption) (by omega) ?_
          have hn29 := hNB.2 F.toNat (by omega)
          refine jr_iload_n (pc := 66) h dX9_known_66 rfl ?_
          refine jr_iald (pc := 67) h dX9_known_67 (by assumption) (by omega) (by omega) ?_
          refine jr_iret (pc := 68) h hRt dX9_known_68 rfl (Nat.le_of_ble_eq_true rfl) (Nat.le_of_ble_eq_true rfl) ?_
          first
          | (exfalso; omega)
          | (have hk9 : fnI p.2.2.1 p.2.1 (p.1 12) = -1 ∨ p.2.2.2.1 (fnI p.2.2.1 p.2.1 (p.1 12)).toNat ≠ s := by
               rw [eFF]
               first
               | (exact Or.inl (by omega))
               | (refine Or.inr (fun q => ?_)
                  have hz := (hNR7.2 F.toNat (by omega)).2.1
                  rw [q] at hz
                  omega)
             exact ⟨_, ⟨rfl, rfl⟩, by omega, fun q => absurd q (by rw [snP_2 d_4 hk9]; exact flP_x (by omega)), _, _, hX, hgk, (by rw [snP_2 d_4 hk9]; exact hTR), f1⟩)
          | (have hk9 : ¬ (fnI p.2.2.1 p.2.1 (p.1 12) = -1 ∨ p.2.2.2.1 (fnI p.2.2.1 p.2.1 (p.1 12)).toNat ≠ s) := by
               rw [eFF]
               rintro (q | q)
               · omega
               · have hz := (hNR7.2 F.toNat (by omega)).2.1
                 exact q ((nsR_i hs).1 (by omega))
             have hz := (hNR7.2 F.toNat (by omega)).2.2
             have ee := snP_3 (s := s) d_4 hk9
             rw [eFF] at ee
             exact ⟨_, ⟨rfl, rfl⟩, by omega, fun _ => by rw [ee]; exact hz, _, _, hX, hgk, (by rw [ee]; exact hTR), f1⟩)
        · first | have d_52 := bz_0.mp c_52 | have d_52 := bz_1.mp c_52 | skip
          refine jr_iconst (pc := 55) h dX9_known_55 ?_
          refine jr_goto (pc := 56) h 68 dX9_known_56 (by decide) ?_
          refine jr_iret (pc := 68) h hRt dX9_known_68 rfl (Nat.le_of_ble_eq_true rfl) (Nat.le_of_ble_eq_true rfl) ?_
          first
          | (exfalso; omega)
          | (have hk9 : fnI p.2.2.1 p.2.1 (p.1 12) = -1 ∨ p.2.2.2.1 (fnI p.2.2.1 p.2.1 (p.1 12)).toNat ≠ s := by
               rw [eFF]
               first
               | (exact Or.inl (by omega))
               | (refine Or.inr (fun q => ?_)
                  have hz := (hNR7.2 F.toNat (by omega)).2.1
                  rw [q] at hz
                  omega)
             exact ⟨_, ⟨rfl, rfl⟩, by omega, fun q => absurd q (by rw [snP_2 d_4 hk9]; exact flP_x (by omega)), _, _, hX, hgk, (by rw [snP_2 d_4 hk9]; exact hTR), f1⟩)
          | (have hk9 : ¬ (fnI p.2.2.1 p.2.1 (p.1 12) = -1 ∨ p.2.2.2.1 (fnI p.2.2.1 p.2.1 (p.1 12)).toNat ≠ s) := by
               rw [eFF]
               rintro (q | q)
               · omega
               · have hz := (hNR7.2 F.toNat (by omega)).2.1
                 exact q ((nsR_i hs).1 (by omega))
             have hz := (hNR7.2 F.toNat (by omega)).2.2
             have ee := snP_3 (s := s) d_4 hk9
             rw [eFF] at ee
             exact ⟨_, ⟨rfl, rfl⟩, by omega, fun _ => by rw [ee]; exact hz, _, _, hX, hgk, (by rw [ee]; exact hTR), f1⟩)
  · have d_4 := bz_0.mp c_4
    refine jr_aload_n (pc := 7) h dX9_known_7 rfl ?_
    refine jr_iconst (pc := 8) h dX9_known_8 ?_
    refine iv_X9_126 (pc := 9) h hl hR dX9_known_9 ⟨(Nat.le_of_ble_eq_true rfl), (Nat.le_of_ble_eq_true rfl), (Nat.le_of_ble_eq_true rfl), (Nat.le_of_ble_eq_true rfl)⟩ (Nat.le_of_ble_eq_true rfl) (by assumption) (by omega) (s_X9_wrong hX (p := p) (k := 1) hTR hPO (by omega)) (fun v_9 n_9 M_9 hn_9 hp => ?_)
    obtain ⟨⟨rfl, rfl⟩, g1, w1, hX, hg1, hTR, f9⟩ := hp
    have f1 := fr_tr f1 f9
    have hgk := gkp_t hgk hg1
    obtain ⟨hnm, hOm, hBm⟩ := id hX
    obtain ⟨hnm, hOm, hBm⟩ := id hX
    have hOm : M_9 m = jdO 9 (fX9 m _ _ fl (.ref f2)) := hOm
    have hMF := MF_fr hMF f9 (Nat.le_refl _) (fun k h1 h2 q => by have := q.1; have := q.2; omega)
    obtain ⟨hnf, hOf, hAf⟩ := id hMF
    have hA29 : M_9 (f2 + 29) = jdA 16 (A 29) := hAf 29 (by omega) (by omega)
    have hA30 : M_9 (f2 + 30) = jdA 16 (A 30) := hAf 30 (by omega) (by omega)
    replace hPO := flP_O (k := 1) hPO (by omega)
    refine jr_aload_n (pc := 12) h dX9_known_12 rfl ?_
    refine gf_X9_174 (pc := 13) h dX9_known_13 (by assumption) (by omega) ?_
    refine jr_aload_n (pc := 16) h dX9_known_16 rfl ?_
    refine gf_X9_99 (pc := 17) h dX9_known_17 (by assumption) (by omega) ?_
    refine iv_X9_178 (pc := 20) h hl hR dX9_known_20 ⟨(Nat.le_of_ble_eq_true rfl), (Nat.le_of_ble_eq_true rfl), (Nat.le_of_ble_eq_true rfl), (Nat.le_of_ble_eq_true rfl)⟩ (Nat.le_of_ble_eq_true rfl) (by assumption) (by omega) (s_X8_find hMF hNB hTR.1.2.2.2.2) (fun v_20 n_20 M_20 hn_20 hp => ?_)
    obtain ⟨⟨rfl, rfl, rfl⟩, gr_20⟩ := hp
    obtain ⟨F, eF⟩ : ∃ z, fnI (A 28) w1 (gF 16) = z := ⟨_, rfl⟩
    rw [eF] at gr_20 ⊢
    refine jr_istore_n (pc := 23) h [_, _, _] dX9_known_23 (by decide) rfl ?_
    refine jr_iload_n (pc := 24) h dX9_known_24 rfl ?_
    refine jr_iconst (pc := 25) h dX9_known_25 ?_
    refine jr_icmp_eq (pc := 26) h 42 dX9_known_26 (by decide) (by omega) (by omega) (fun c_26 => ?_) (fun c_26 => ?_)
    · first | have d_26 := bz_0.mp c_26 | have d_26 := bz_1.mp c_26 | skip
      refine jr_aload_n (pc := 42) h dX9_known_42 rfl ?_
      refine jr_iconst (pc := 43) h dX9_known_43 ?_
      refine iv_X9_126 (pc := 44) h hl hR dX9_known_44 ⟨(Nat.le_of_ble_eq_true rfl), (Nat.le_of_ble_eq_true rfl), (Nat.le_of_ble_eq_true rfl), (Nat.le_of_ble_eq_true rfl)⟩ (Nat.le_of_ble_eq_true rfl) (by assumption) (by omega) (s_X9_wrong hX (p := (flP 1 p)) (k := 2) hTR hPO (by omega)) (fun v_44 n_44 M_44 hn_44 hp => ?_)
      obtain ⟨⟨rfl, rfl⟩, g1, w1, hX, hg1, hTR, f9⟩ := hp
      have f1 := fr_tr f1 f9
      have hgk := gkp_t hgk hg1
      obtain ⟨hnm, hOm, hBm⟩ := id hX
      obtain ⟨hnm, hOm, hBm⟩ := id hX
      have hOm : M_44 m = jdO 9 (fX9 m _ _ fl (.ref f2)) := hOm
      have hMF := MF_fr hMF f9 (Nat.le_refl _) (fun k h1 h2 q => by have := q.1; have := q.2; omega)
      obtain ⟨hnf, hOf, hAf⟩ := id hMF
      have hA29 : M_44 (f2 + 29) = jdA 16 (A 29) := hAf 29 (by omega) (by omega)
      have hA30 : M_44 (f2 + 30) = jdA 16 (A 30) := hAf 30 (by omega) (by omega)
      replace hPO := flP_O (k := 2) hPO (by omega)
      have h5z := (TR_5 hTR hPO).1.2 (by first | exact flP_x (by omega) | (rw [flP_f (by omega)]; exact flP_x (by omega)))
      refine jr_aload_n (pc := 47) h dX9_known_47 rfl ?_
      refine gf_X9_80 (pc := 48) h dX9_known_48 (by assumption) (by omega) ?_
      refine jr_iconst (pc := 51) h dX9_known_51 ?_
      refine jr_icmp_ne (pc := 52) h 59 dX9_known_52 (by decide) (by omega) (by omega) (fun c_52 => ?_) (fun c_52 => ?_)
      · first | have d_52 := bz_0.mp c_52 | have d_52 := bz_1.mp c_52 | skip
        exfalso
        omega
      · first | have d_52 := bz_0.mp c_52 | have d_52 := bz_1.mp c_52 | skip
        refine jr_iconst (pc := 55) h dX9_known_55 ?_
        refine jr_goto (pc := 56) h 68 dX9_known_56 (by decide) ?_
        refine jr_iret (pc := 68) h hRt dX9_known_68 rfl (Nat.le_of_ble_eq_true rfl) (Nat.le_of_ble_eq_true rfl) ?_
        first
        | (exfalso; omega)
        | (exact ⟨_, ⟨rfl, rfl⟩, by omega, fun q => absurd q (by rw [snP_1 d_4]; exact flP_x (by omega)), _, _, hX, hgk, (by rw [snP_1 d_4]; first | exact hTR | (rw [flP_f (by omega)] at hTR; exact hTR)), f1⟩)
    · first | have d_26 := bz_0.mp c_26 | have d_26 := bz_1.mp c_26 | skip
      refine jr_aload_n (pc := 29) h dX9_known_29 rfl ?_
      refine gf_X9_174 (pc := 30) h dX9_known_30 (by assumption) (by omega) ?_
      refine gf_X9_190 (pc := 33) h dX9_known_33 (by assumption) (by omega) ?_
      refine jr_iload_n (pc := 36) h dX9_known_36 rfl ?_
      have hn29 := hNB.2 F.toNat (by omega)
      refine jr_iald (pc := 37) h dX9_known_37 (by assumption) (by omega) (by omega) ?_
      refine jr_iload_n (pc := 38) h dX9_known_38 rfl ?_
      refine jr_icmp_eq (pc := 39) h 47 dX9_known_39 (by decide) (by omega) (by omega) (fun c_39 => ?_) (fun c_39 => ?_)
      · first | have d_39 := bz_0.mp c_39 | have d_39 := bz_1.mp c_39 | skip
        have h5z := (TR_5 hTR hPO).1.2 (by first | exact flP_x (by omega) | (rw [flP_f (by omega)]; exact flP_x (by omega)))
        refine jr_aload_n (pc := 47) h dX9_known_47 rfl ?_
        refine gf_X9_80 (pc := 48) h dX9_known_48 (by assumption) (by omega) ?_
        refine jr_iconst (pc := 51) h dX9_known_51 ?_
        refine jr_icmp_ne (pc := 52) h 59 dX9_known_52 (by decide) (by omega) (by omega) (fun c_52 => ?_) (fun c_52 => ?_)
        · first | have d_52 := bz_0.mp c_52 | have d_52 := bz_1.mp c_52 | skip
          exfalso
          omega
        · first | have d_52 := bz_0.mp c_52 | have d_52 := bz_1.mp c_52 | skip
          refine jr_iconst (pc := 55) h dX9_known_55 ?_
          refine jr_goto (pc := 56) h 68 dX9_known_56 (by decide) ?_
          refine jr_iret (pc := 68) h hRt dX9_known_68 rfl (Nat.le_of_ble_eq_true rfl) (Nat.le_of_ble_eq_true rfl) ?_
          first
          | (exfalso; omega)
          | (exact ⟨_, ⟨rfl, rfl⟩, by omega, fun q => absurd q (by rw [snP_1 d_4]; exact flP_x (by omega)), _, _, hX, hgk, (by rw [snP_1 d_4]; first | exact hTR | (rw [flP_f (by omega)] at hTR; exact hTR)), f1⟩)
      · first | have d_39 := bz_0.mp c_39 | have d_39 := bz_1.mp c_39 | skip
        refine jr_aload_n (pc := 42) h dX9_known_42 rfl ?_
        refine jr_iconst (pc := 43) h dX9_known_43 ?_
        refine iv_X9_126 (pc := 44) h hl hR dX9_known_44 ⟨(Nat.le_of_ble_eq_true rfl), (Nat.le_of_ble_eq_true rfl), (Nat.le_of_ble_eq_true rfl), (Nat.le_of_ble_eq_true rfl)⟩ (Nat.le_of_ble_eq_true rfl) (by assumption) (by omega) (s_X9_wrong hX (p := (flP 1 p)) (k := 2) hTR hPO (by omega)) (fun v_44 n_44 M_44 hn_44 hp => ?_)
        obtain ⟨⟨rfl, rfl⟩, g1, w1, hX, hg1, hTR, f9⟩ := hp
        have f1 := fr_tr f1 f9
        have hgk := gkp_t hgk hg1
        obtain ⟨hnm, hOm, hBm⟩ := id hX
        obtain ⟨hnm, hOm, hBm⟩ := id hX
        have hOm : M_44 m = jdO 9 (fX9 m _ _ fl (.ref f2)) := hOm
        have hMF := MF_fr hMF f9 (Nat.le_refl _) (fun k h1 h2 q => by have := q.1; have := q.2; omega)
        obtain ⟨hnf, hOf, hAf⟩ := id hMF
        have hA29 : M_44 (f2 + 29) = jdA 16 (A 29) := hAf 29 (by omega) (by omega)
        have hA30 : M_44 (f2 + 30) = jdA 16 (A 30) := hAf 30 (by omega) (by omega)
        replace hPO := flP_O (k := 2) hPO (by omega)
        have h5z := (TR_5 hTR hPO).1.2 (by first | exact flP_x (by omega) | (rw [flP_f (by omega)]; exact flP_x (by omega)))
        refine jr_aload_n (pc := 47) h dX9_known_47 rfl ?_
        refine gf_X9_80 (pc := 48) h dX9_known_48 (by assumption) (by omega) ?_
        refine jr_iconst (pc := 51) h dX9_known_51 ?_
        refine jr_icmp_ne (pc := 52) h 59 dX9_known_52 (by decide) (by omega) (by omega) (fun c_52 => ?_) (fun c_52 => ?_)
        · first | have d_52 := bz_0.mp c_52 | have d_52 := bz_1.mp c_52 | skip
          exfalso
          omega
        · first | have d_52 := bz_0.mp c_52 | have d_52 := bz_1.mp c_52 | skip
          refine jr_iconst (pc := 55) h dX9_known_55 ?_
          refine jr_goto (pc := 56) h 68 dX9_known_56 (by decide) ?_
          refine jr_iret (pc := 68) h hRt dX9_known_68 rfl (Nat.le_of_ble_eq_true rfl) (Nat.le_of_ble_eq_true rfl) ?_
          first
          | (exfalso; omega)
          | (exact ⟨_, ⟨rfl, rfl⟩, by omega, fun q => absurd q (by rw [snP_1 d_4]; exact flP_x (by omega)), _, _, hX, hgk, (by rw [snP_1 d_4]; first | exact hTR | (rw [flP_f (by omega)] at hTR; exact hTR)), f1⟩)
