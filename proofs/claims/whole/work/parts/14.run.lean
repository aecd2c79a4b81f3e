/-! 14: Run, Drawers, Odds: what their cells hold; small methods -/
def fX3 (b : Nat) (g : Nat → Int) : Nat → Value
  | 0 => .ref (b + 1)
  | 1 => .ref (b + 2)
  | 2 => .ref (b + 3)
  | 3 => .ref (b + 4)
  | 4 => jI (g 4)
  | 5 => jI (g 5)
  | 6 => jI (g 6)
  | 7 => jI (g 7)
  | _ => .null
theorem fX3_4 {b : Nat} {g : Nat → Int} {x : Int} : up (fX3 b g) 4 (jI x) = fX3 b (up g 4 x) := by
  funext i
  match i with
  | 0 => rfl
  | 1 => rfl
  | 2 => rfl
  | 3 => rfl
  | 4 => rfl
  | 5 => rfl
  | 6 => rfl
  | 7 => rfl
  | i + 8 => rfl
theorem fX3_5 {b : Nat} {g : Nat → Int} {x : Int} : up (fX3 b g) 5 (jI x) = fX3 b (up g 5 x) := by
  funext i
  match i with
  | 0 => rfl
  | 1 => rfl
  | 2 => rfl
  | 3 => rfl
  | 4 => rfl
  | 5 => rfl
  | 6 => rfl
  | 7 => rfl
  | i + 8 => rfl
theorem fX3_6 {b : Nat} {g : Nat → Int} {x : Int} : up (fX3 b g) 6 (jI x) = fX3 b (up g 6 x) := by
  funext i
  match i with
  | 0 => rfl
  | 1 => rfl
  | 2 => rfl
  | 3 => rfl
  | 4 => rfl
  | 5 => rfl
  | 6 => rfl
  | 7 => rfl
  | i + 8 => rfl
theorem fX3_7 {b : Nat} {g : Nat → Int} {x : Int} : up (fX3 b g) 7 (jI x) = fX3 b (up g 7 x) := by
  funext i
  match i with
  | 0 => rfl
  | 1 => rfl
  | 2 => rfl
  | 3 => rfl
  | 4 => rfl
  | 5 => rfl
  | 6 => rfl
  | 7 => rfl
  | i + 8 => rfl
def Rn (M : jdM) (n b : Nat) (g : Nat → Int) (sp sk fa go : Nat → Int) : Prop :=
  b + 5 ≤ n ∧ M b = jdO 3 (fX3 b g) ∧ M (b + 1) = jdA 2 sp ∧ M (b + 2) = jdA 8 sk ∧ M (b + 3) = jdA 451 fa ∧ M (b + 4) = jdA 6 go
def RnS (b : Nat) : Nat → Prop := fun k => b ≤ k ∧ k ≤ b + 4
theorem Rn_fr {M M1 : jdM} {n n1 b : Nat} {g : Nat → Int} {sp sk fa go : Nat → Int} {S : Nat → Prop} (h : Rn M n b g sp sk fa go) (h1 : fr S M M1) (hn : n ≤ n1) (hs : ∀ k, b ≤ k → k ≤ b + 4 → ¬ S k) : Rn M1 n1 b g sp sk fa go := by
  obtain ⟨a, q0, q1, q2, q3, q4⟩ := h
  refine ⟨by omega, ?_, ?_, ?_, ?_, ?_⟩ <;> (rw [h1 _ (hs _ (by omega) (by omega))]; assumption)
theorem Rn_sp {M M1 : jdM} {n b : Nat} {g : Nat → Int} {sp sk fa go : Nat → Int} {sp' : Nat → Int} (h : Rn M n b g sp sk fa go) (h1 : M1 = up M (b + 1) (jdA 2 sp')) : Rn M1 n b g sp' sk fa go := by
  obtain ⟨a, q0, q1, q2, q3, q4⟩ := h
  subst h1
  refine ⟨a, ?_, up_eq, ?_, ?_, ?_⟩ <;> (rw [up_ne (by omega)]; assumption)
theorem Rn_sk {M M1 : jdM} {n b : Nat} {g : Nat → Int} {sp sk fa go : Nat → Int} {sk' : Nat → Int} (h : Rn M n b g sp sk fa go) (h1 : M1 = up M (b + 2) (jdA 8 sk')) : Rn M1 n b g sp sk' fa go := by
  obtain ⟨a, q0, q1, q2, q3, q4⟩ := h
  subst h1
  refine ⟨a, ?_, ?_, up_eq, ?_, ?_⟩ <;> (rw [up_ne (by omega)]; assumption)
theorem Rn_fa {M M1 : jdM} {n b : Nat} {g : Nat → Int} {sp sk fa go : Nat → Int} {fa' : Nat → Int} (h : Rn M n b g sp sk fa go) (h1 : M1 = up M (b + 3) (jdA 451 fa')) : Rn M1 n b g sp sk fa' go := by
  obtain ⟨a, q0, q1, q2, q3, q4⟩ := h
  subst h1
  refine ⟨a, ?_, ?_, ?_, up_eq, ?_⟩ <;> (rw [up_ne (by omega)]; assumption)
theorem Rn_go {M M1 : jdM} {n b : Nat} {g : Nat → Int} {sp sk fa go : Nat → Int} {go' : Nat → Int} (h : Rn M n b g sp sk fa go) (h1 : M1 = up M (b + 4) (jdA 6 go')) : Rn M1 n b g sp sk fa go' := by
  obtain ⟨a, q0, q1, q2, q3, q4⟩ := h
  subst h1
  refine ⟨a, ?_, ?_, ?_, ?_, up_eq⟩ <;> (rw [up_ne (by omega)]; assumption)
theorem Rn_f4 {M M1 : jdM} {n b : Nat} {g : Nat → Int} {sp sk fa go : Nat → Int} {x : Int} (h : Rn M n b g sp sk fa go) (h1 : M1 = up M b (jdO 3 (up (fX3 b g) 4 (jI x)))) : Rn M1 n b (up g 4 x) sp sk fa go := by
  obtain ⟨a, q0, q1, q2, q3, q4⟩ := h
  rw [fX3_4] at h1
  subst h1
  refine ⟨a, up_eq, ?_, ?_, ?_, ?_⟩ <;> (rw [up_ne (by omega)]; assumption)
theorem Rn_f5 {M M1 : jdM} {n b : Nat} {g : Nat → Int} {sp sk fa go : Nat → Int} {x : Int} (h : Rn M n b g sp sk fa go) (h1 : M1 = up M b (jdO 3 (up (fX3 b g) 5 (jI x)))) : Rn M1 n b (up g 5 x) sp sk fa go := by
  obtain ⟨a, q0, q1, q2, q3, q4⟩ := h
  rw [fX3_5] at h1
  subst h1
  refine ⟨a, up_eq, ?_, ?_, ?_, ?_⟩ <;> (rw [up_ne (by omega)]; assumption)
theorem Rn_f6 {M M1 : jdM} {n b : Nat} {g : Nat → Int} {sp sk fa go : Nat → Int} {x : Int} (h : Rn M n b g sp sk fa go) (h1 : M1 = up M b (jdO 3 (up (fX3 b g) 6 (jI x)))) : Rn M1 n b (up g 6 x) sp sk fa go := by
  obtain ⟨a, q0, q1, q2, q3, q4⟩ := h
  rw [fX3_6] at h1
  subst h1
  refine ⟨a, up_eq, ?_, ?_, ?_, ?_⟩ <;> (rw [up_ne (by omega)]; assumption)
theorem Rn_f7 {M M1 : jdM} {n b : Nat} {g : Nat → Int} {sp sk fa go : Nat → Int} {x : Int} (h : Rn M n b g sp sk fa go) (h1 : M1 = up M b (jdO 3 (up (fX3 b g) 7 (jI x)))) : Rn M1 n b (up g 7 x) sp sk fa go := by
  obtain ⟨a, q0, q1, q2, q3, q4⟩ := h
  rw [fX3_7] at h1
  subst h1
  refine ⟨a, up_eq, ?_, ?_, ?_, ?_⟩ <;> (rw [up_ne (by omega)]; assumption)
def fX0 (b : Nat) (g : Nat → Int) : Nat → Value
  | 0 => .ref (b + 1)
  | 1 => jI (g 1)
  | 2 => .ref (b + 2)
  | 3 => .ref (b + 3)
  | _ => .null
theorem fX0_1 {b : Nat} {g : Nat → Int} {x : Int} : up (fX0 b g) 1 (jI x) = fX0 b (up g 1 x) := by
  funext i
  match i with
  | 0 => rfl
  | 1 => rfl
  | 2 => rfl
  | 3 => rfl
  | i + 4 => rfl
def Dr (M : jdM) (n b : Nat) (g : Nat → Int) (rm wn be : Nat → Int) : Prop :=
  b + 4 ≤ n ∧ M b = jdO 0 (fX0 b g) ∧ M (b + 1) = jdA 14 rm ∧ M (b + 2) = jdA 4 wn ∧ M (b + 3) = jdA 2401 be
def DrS (b : Nat) : Nat → Prop := fun k => b ≤ k ∧ k ≤ b + 3
theorem Dr_fr {M M1 : jdM} {n n1 b : Nat} {g : Nat → Int} {rm wn be : Nat → Int} {S : Nat → Prop} (h : Dr M n b g rm wn be) (h1 : fr S M M1) (hn : n ≤ n1) (hs : ∀ k, b ≤ k → k ≤ b + 3 → ¬ S k) : Dr M1 n1 b g rm wn be := by
  obtain ⟨a, q0, q1, q2, q3⟩ := h
  refine ⟨by omega, ?_, ?_, ?_, ?_⟩ <;> (rw [h1 _ (hs _ (by omega) (by omega))]; assumption)
theorem Dr_rm {M M1 : jdM} {n b : Nat} {g : Nat → Int} {rm wn be : Nat → Int} {rm' : Nat → Int} (h : Dr M n b g rm wn be) (h1 : M1 = up M (b + 1) (jdA 14 rm')) : Dr M1 n b g rm' wn be := by
  obtain ⟨a, q0, q1, q2, q3⟩ := h
  subst h1
  refine ⟨a, ?_, up_eq, ?_, ?_⟩ <;> (rw [up_ne (by omega)]; assumption)
theorem Dr_wn {M M1 : jdM} {n b : Nat} {g : Nat → Int} {rm wn be : Nat → Int} {wn' : Nat → Int} (h : Dr M n b g rm wn be) (h1 : M1 = up M (b + 2) (jdA 4 wn')) : Dr M1 n b g rm wn' be := by
  obtain ⟨a, q0, q1, q2, q3⟩ := h
  subst h1
  refine ⟨a, ?_, ?_, up_eq, ?_⟩ <;> (rw [up_ne (by omega)]; assumption)
theorem Dr_be {M M1 : jdM} {n b : Nat} {g : Nat → Int} {rm wn be : Nat → Int} {be' : Nat → Int} (h : Dr M n b g rm wn be) (h1 : M1 = up M (b + 3) (jdA 2401 be')) : Dr M1 n b g rm wn be' := by
  obtain ⟨a, q0, q1, q2, q3⟩ := h
  subst h1
  refine ⟨a, ?_, ?_, ?_, up_eq⟩ <;> (rw [up_ne (by omega)]; assumption)
theorem Dr_f1 {M M1 : jdM} {n b : Nat} {g : Nat → Int} {rm wn be : Nat → Int} {x : Int} (h : Dr M n b g rm wn be) (h1 : M1 = up M b (jdO 0 (up (fX0 b g) 1 (jI x)))) : Dr M1 n b (up g 1 x) rm wn be := by
  obtain ⟨a, q0, q1, q2, q3⟩ := h
  rw [fX0_1] at h1
  subst h1
  refine ⟨a, up_eq, ?_, ?_, ?_⟩ <;> (rw [up_ne (by omega)]; assumption)
def fX2 (b : Nat) (g : Nat → Int) : Nat → Value
  | 0 => .ref (b + 1)
  | _ => .null
def Od (M : jdM) (n b : Nat) (g : Nat → Int) (ww : Nat → Int) : Prop :=
  b + 2 ≤ n ∧ M b = jdO 2 (fX2 b g) ∧ M (b + 1) = jdL 11 ww
def OdS (b : Nat) : Nat → Prop := fun k => b ≤ k ∧ k ≤ b + 1
theorem Od_fr {M M1 : jdM} {n n1 b : Nat} {g : Nat → Int} {ww : Nat → Int} {S : Nat → Prop} (h : Od M n b g ww) (h1 : fr S M M1) (hn : n ≤ n1) (hs : ∀ k, b ≤ k → k ≤ b + 1 → ¬ S k) : Od M1 n1 b g ww := by
  obtain ⟨a, q0, q1⟩ := h
  refine ⟨by omega, ?_, ?_⟩ <;> (rw [h1 _ (hs _ (by omega) (by omega))]; assumption)
theorem Od_ww {M M1 : jdM} {n b : Nat} {g : Nat → Int} {ww : Nat → Int} {ww' : Nat → Int} (h : Od M n b g ww) (h1 : M1 = up M (b + 1) (jdL 11 ww')) : Od M1 n b g ww' := by
  obtain ⟨a, q0, q1⟩ := h
  subst h1
  refine ⟨a, ?_, up_eq⟩ <;> (rw [up_ne (by omega)]; assumption)
set_option maxHeartbeats 1000000 in
set_option maxRecDepth 20000 in
theorem s_X3_isOver {l : Launch} {n : Nat} {M : jdM} {r : Nat} {g sp sk fa go : Nat → Int} (hRn : Rn M n r g sp sk fa go) (h4 : 0 ≤ g 4 ∧ g 4 ≤ 1000) (h5 : -1 ≤ g 5 ∧ g 5 ≤ 1000) : Ct l yX3_isOver cX3_isOver 1 (some .boolean) rX3_isOver [.ref r] n M (fun vv n' M' => (vv = some (jI (bz (g 5 < g 4))) ∧ n = n' ∧ M = M') ∧ (0) ≤ (bz (g 5 < g 4)) ∧ (bz (g 5 < g 4)) ≤ 1) := by
  refine Ct_of [some (.ref r)] (by decide) (Nat.le_of_ble_eq_true rfl) rfl (fun κ hl h hR hRt hmn hn0 => ?_)
  have h : Ok κ RX3 cX3_isOver 1 (some .boolean) := h
  obtain ⟨hn, hO, hA, hB, hC, hD⟩ := id hRn
  refine jr_aload_n (pc := 0) h dX3_isOver_0 rfl ?_
  refine gf_X3_24 (pc := 1) h dX3_isOver_1 (by assumption) (by omega) ?_
  refine jr_aload_n (pc := 4) h dX3_isOver_4 rfl ?_
  refine gf_X3_44 (pc := 5) h dX3_isOver_5 (by assumption) (by omega) ?_
  refine jr_icmp_le (pc := 8) h 15 dX3_isOver_8 (by decide) (by omega) (by omega) (fun c_8 => ?_) (fun c_8 => ?_)
  · skip
    refine jr_iconst (pc := 15) h dX3_isOver_15 ?_
    refine jr_iret (pc := 16) h hRt dX3_isOver_16 rfl (Nat.le_of_ble_eq_true rfl) (Nat.le_of_ble_eq_true rfl) ?_
    refine ⟨⟨ji_c ?_, rfl, rfl⟩, bz_r _⟩
    first | rw [bz_t (by omega)] | rw [bz_f (by omega)]
  · skip
    refine jr_iconst (pc := 11) h dX3_isOver_11 ?_
    refine jr_goto (pc := 12) h 16 dX3_isOver_12 (by decide) ?_
    refine jr_iret (pc := 16) h hRt dX3_isOver_16 rfl (Nat.le_of_ble_eq_true rfl) (Nat.le_of_ble_eq_true rfl) ?_
    refine ⟨⟨ji_c ?_, rfl, rfl⟩, bz_r _⟩
    first | rw [bz_t (by omega)] | rw [bz_f (by omega)]
set_option maxHeartbeats 1000000 in
set_option maxRecDepth 20000 in
theorem s_X3_isServed {l : Launch} {n : Nat} {M : jdM} {r : Nat} {g sp sk fa go : Nat → Int} (hRn : Rn M n r g sp sk fa go) (h4 : 0 ≤ g 4 ∧ g 4 ≤ 1000) (h5 : -1 ≤ g 5 ∧ g 5 ≤ 1000) {a : Int} (ha : -2147483648 ≤ a ∧ a < 2147483648) : Ct l yX3_isServed cX3_isServed 2 (some .boolean) rX3_isServed [.ref r, jI a] n M (fun vv n' M' => (vv = some (jI (bz (a < g 4 ∨ g 5 < a))) ∧ n = n' ∧ M = M') ∧ (0) ≤ (bz (a < g 4 ∨ g 5 < a)) ∧ (bz (a < g 4 ∨ g 5 < a)) ≤ 1) := by
  refine Ct_of [some (.ref r), some (jI a)] (by decide) (Nat.le_of_ble_eq_true rfl) rfl (fun κ hl h hR hRt hmn hn0 => ?_)
  have h : Ok κ RX3 cX3_isServed 2 (some .boolean) := h
  obtain ⟨hn, hO, hA, hB, hC, hD⟩ := id hRn
  refine jr_iload_n (pc := 0) h dX3_isServed_0 rfl ?_
  refine jr_aload_n (pc := 1) h dX3_isServed_1 rfl ?_
  refine gf_X3_24 (pc := 2) h dX3_isServed_2 (by assumption) (by omega) ?_
  refine jr_icmp_lt (pc := 5) h 16 dX3_isServed_5 (by decide) (by omega) (by omega) (fun c_5 => ?_) (fun c_5 => ?_)
  · skip
    refine jr_iconst (pc := 16) h dX3_isServed_16 ?_
    refine jr_goto (pc := 17) h 21 dX3_isServed_17 (by decide) ?_
    refine jr_iret (pc := 21) h hRt dX3_isServed_21 rfl (Nat.le_of_ble_eq_true rfl) (Nat.le_of_ble_eq_true rfl) ?_
    refine ⟨⟨ji_c ?_, rfl, rfl⟩, bz_r _⟩
    first | rw [bz_t (by omega)] | rw [bz_f (by omega)]
  · skip
    refine jr_iload_n (pc := 8) h dX3_isServed_8 rfl ?_
    refine jr_aload_n (pc := 9) h dX3_isServed_9 rfl ?_
    refine gf_X3_44 (pc := 10) h dX3_isServed_10 (by assumption) (by omega) ?_
    refine jr_icmp_le (pc := 13) h 20 dX3_isServed_13 (by decide) (by omega) (by omega) (fun c_13 => ?_) (fun c_13 => ?_)
    · skip
      refine jr_iconst (pc := 20) h dX3_isServed_20 ?_
      refine jr_iret (pc := 21) h hRt dX3_isServed_21 rfl (Nat.le_of_ble_eq_true rfl) (Nat.le_of_ble_eq_true rfl) ?_
      refine ⟨⟨ji_c ?_, rfl, rfl⟩, bz_r _⟩
      first | rw [bz_t (by omega)] | rw [bz_f (by omega)]
    · skip
      refine jr_iconst (pc := 16) h dX3_isServed_16 ?_
      refine jr_goto (pc := 17) h 21 dX3_isServed_17 (by decide) ?_
      refine jr_iret (pc := 21) h hRt dX3_isServed_21 rfl (Nat.le_of_ble_eq_true rfl) (Nat.le_of_ble_eq_true rfl) ?_
      refine ⟨⟨ji_c ?_, rfl, rfl⟩, bz_r _⟩
      first | rw [bz_t (by omega)] | rw [bz_f (by omega)]
set_option maxHeartbeats 1000000 in
set_option maxRecDepth 20000 in
theorem s_X3_rowsServed {l : Launch} {n : Nat} {M : jdM} {r : Nat} {g sp sk fa go : Nat → Int} (hRn : Rn M n r g sp sk fa go) {f : Nat} {ct td bk si ld : Nat → Int} (hF : Fl M n f ct td bk si ld) : Ct l yX3_rowsServed cX3_rowsServed 2 (some .int) rX3_rowsServed [.ref r, .ref f] n M (fun vv n' M' => vv = some (jI (c_rows ct td - (g 5 - g 4 + 1))) ∧ n = n' ∧ M = M') := by
  refine Ct_of [some (.ref r), some (.ref f)] (by decide) (Nat.le_of_ble_eq_true rfl) rfl (fun κ hl h hR hRt hmn hn0 => ?_)
  have h : Ok κ RX3 cX3_rowsServed 2 (some .int) := h
  obtain ⟨hn, hO, hA, hB, hC, hD⟩ := id hRn
  obtain ⟨hnF, hOF, hAF, hBF, hCF, hDF, hEF, rA, rB, r0, rC, rD, rE⟩ := id hF
  refine jr_aload_n (pc := 0) h dX3_rowsServed_0 rfl ?_
  refine iv_X3_40 (pc := 1) h hl hR dX3_rowsServed_1 ⟨(Nat.le_of_ble_eq_true rfl), (Nat.le_of_ble_eq_true rfl), (Nat.le_of_ble_eq_true rfl), (Nat.le_of_ble_eq_true rfl)⟩ (Nat.le_of_ble_eq_true rfl) (by assumption) (by omega) (s_X1_rows hF) (fun v_1 n_1 M_1 hn_1 hp => ?_)
  obtain ⟨⟨rfl, rfl, rfl⟩, gr_1⟩ := hp
  refine jr_aload_n (pc := 4) h dX3_rowsServed_4 rfl ?_
  refine gf_X3_44 (pc := 5) h dX3_rowsServed_5 (by assumption) (by omega) ?_
  refine jr_aload_n (pc := 8) h dX3_rowsServed_8 rfl ?_
  refine gf_X3_24 (pc := 9) h dX3_rowsServed_9 (by assumption) (by omega) ?_
  refine jr_isub (pc := 12) h dX3_rowsServed_12 ?_
  refine jr_iconst (pc := 13) h dX3_rowsServed_13 ?_
  refine jr_iadd (pc := 14) h dX3_rowsServed_14 ?_
  refine jr_isub (pc := 15) h dX3_rowsServed_15 ?_
  refine jr_iret (pc := 16) h hRt dX3_rowsServed_16 rfl (Nat.le_of_ble_eq_true rfl) (Nat.le_of_ble_eq_true rfl) ?_
  exact ⟨rfl, rfl, rfl⟩
set_option maxHeartbeats 1000000 in
set_option maxRecDepth 20000 in
theorem s_X3_frontRows {l : Launch} {n : Nat} {M : jdM} {r : Nat} {g sp sk fa go : Nat → Int} (hRn : Rn M n r g sp sk fa go) : Ct l yX3_frontRows cX3_frontRows 1 (some .int) rX3_frontRows [.ref r] n M (fun vv n' M' => vv = some (jI (g 4 - 1)) ∧ n = n' ∧ M = M') := by
  refine Ct_of [some (.ref r)] (by decide) (Nat.le_of_ble_eq_true rfl) rfl (fun κ hl h hR hRt hmn hn0 => ?_)
  have h : Ok κ RX3 cX3_frontRows 1 (some .int) := h
  obtain ⟨hn, hO, hA, hB, hC, hD⟩ := id hRn
  refine jr_aload_n (pc := 0) h dX3_frontRows_0 rfl ?_
  refine gf_X3_24 (pc := 1) h dX3_frontRows_1 (by assumption) (by omega) ?_
  refine jr_iconst (pc := 4) h dX3_frontRows_4 ?_
  refine jr_isub (pc := 5) h dX3_frontRows_5 ?_
  refine jr_iret (pc := 6) h hRt dX3_frontRows_6 rfl (Nat.le_of_ble_eq_true rfl) (Nat.le_of_ble_eq_true rfl) ?_
  exact ⟨rfl, rfl, rfl⟩
set_option maxHeartbeats 1000000 in
set_option maxRecDepth 20000 in
theorem s_X3_seed {l : Launch} {n : Nat} {M : jdM} {r : Nat} {g sp sk fa go : Nat → Int} (hRn : Rn M n r g sp sk fa go) : Ct l yX3_seed cX3_seed 1 (some .int) rX3_seed [.ref r] n M (fun vv n' M' => vv = some (jI (g 7)) ∧ n = n' ∧ M = M') := by
  refine Ct_of [some (.ref r)] (by decide) (Nat.le_of_ble_eq_true rfl) rfl (fun κ hl h hR hRt hmn hn0 => ?_)
  have h : Ok κ RX3 cX3_seed 1 (some .int) := h
  obtain ⟨hn, hO, hA, hB, hC, hD⟩ := id hRn
  refine jr_aload_n (pc := 0) h dX3_seed_0 rfl ?_
  refine gf_X3_50 (pc := 1) h dX3_seed_1 (by assumption) (by omega) ?_
  refine jr_iret (pc := 4) h hRt dX3_seed_4 rfl (Nat.le_of_ble_eq_true rfl) (Nat.le_of_ble_eq_true rfl) ?_
  exact ⟨rfl, rfl, rfl⟩
set_option maxHeartbeats 1000000 in
set_option maxRecDepth 20000 in
theorem s_X3_spilt {l : Launch} {n : Nat} {M : jdM} {r : Nat} {g sp sk fa go : Nat → Int} (hRn : Rn M n r g sp sk fa go) : Ct l yX3_spilt cX3_spilt 1 (some .int) rX3_spilt [.ref r] n M (fun vv n' M' => vv = some (jI (g 6)) ∧ n = n' ∧ M = M') := by
  refine Ct_of [some (.ref r)] (by decide) (Nat.le_of_ble_eq_true rfl) rfl (fun κ hl h hR hRt hmn hn0 => ?_)
  have h : Ok κ RX3 cX3_spilt 1 (some .int) := h
  obtain ⟨hn, hO, hA, hB, hC, hD⟩ := id hRn
  refine jr_aload_n (pc := 0) h dX3_spilt_0 rfl ?_
  refine gf_X3_47 (pc := 1) h dX3_spilt_1 (by assumption) (by omega) ?_
  refine jr_iret (pc := 4) h hRt dX3_spilt_4 rfl (Nat.le_of_ble_eq_true rfl) (Nat.le_of_ble_eq_true rfl) ?_
  exact ⟨rfl, rfl, rfl⟩
def c_two (sp : Nat → Int) (a : Int) : Int := if 0 ≤ a ∧ a < 2 then sp a.toNat else 0
def c_six (go : Nat → Int) (a : Int) : Int := if 0 ≤ a ∧ a < 6 then go a.toNat else 0
def c_left (sk : Nat → Int) (t k : Int) : Int := if 0 ≤ t * 4 + k ∧ t * 4 + k < 8 then sk (t * 4 + k).toNat else 0
def c_fact (fa : Nat → Int) (a w : Int) : Int := if 0 ≤ a * 11 + w ∧ a * 11 + w < 451 then fa (a * 11 + w).toNat else 0
def c_sumf (fa : Nat → Int) (w : Int) : Int := sumZ (fun i => c_fact fa (1 + i) w) 40
set_option maxHeartbeats 1000000 in
set_option maxRecDepth 20000 in
theorem s_X3_secondsOf {l : Launch} {n : Nat} {M : jdM} {r : Nat} {g sp sk fa go : Nat → Int} (hRn : Rn M n r g sp sk fa go) {a : Int} (ha : -2147483648 ≤ a ∧ a < 2147483648) : Ct l yX3_secondsOf cX3_secondsOf 2 (some .int) rX3_secondsOf [.ref r, jI a] n M (fun vv n' M' => vv = some (jI (c_two sp a)) ∧ n = n' ∧ M = M') := by
  refine Ct_of [some (.ref r), some (jI a)] (by decide) (Nat.le_of_ble_eq_true rfl) rfl (fun κ hl h hR hRt hmn hn0 => ?_)
  have h : Ok κ RX3 cX3_secondsOf 2 (some .int) := h
  obtain ⟨hn, hO, hA, hB, hC, hD⟩ := id hRn
  refine jr_iload_n (pc := 0) h dX3_secondsOf_0 rfl ?_
  refine jr_if_lt (pc := 1) h 18 dX3_secondsOf_1 (by decide) (by omega) (fun c_1 => ?_) (fun c_1 => ?_)
  · skip
    refine jr_iconst (pc := 18) h dX3_secondsOf_18 ?_
    refine jr_iret (pc := 19) h hRt dX3_secondsOf_19 rfl (Nat.le_of_ble_eq_true rfl) (Nat.le_of_ble_eq_true rfl) ?_
    refine ⟨ji_c ?_, rfl, rfl⟩
    unfold c_two
    first | rw [if_pos (by omega)] | rw [if_neg (by omega)]
  · skip
    refine jr_iload_n (pc := 4) h dX3_secondsOf_4 rfl ?_
    refine jr_iconst (pc := 5) h dX3_secondsOf_5 ?_
    refine jr_icmp_ge (pc := 6) h 18 dX3_secondsOf_6 (by decide) (by omega) (by omega) (fun c_6 => ?_) (fun c_6 => ?_)
    · skip
      refine jr_iconst (pc := 18) h dX3_secondsOf_18 ?_
      refine jr_iret (pc := 19) h hRt dX3_secondsOf_19 rfl (Nat.le_of_ble_eq_true rfl) (Nat.le_of_ble_eq_true rfl) ?_
      refine ⟨ji_c ?_, rfl, rfl⟩
      unfold c_two
      first | rw [if_pos (by omega)] | rw [if_neg (by omega)]
    · skip
      refine jr_aload_n (pc := 9) h dX3_secondsOf_9 rfl ?_
      refine gf_X3_9 (pc := 10) h dX3_secondsOf_10 (by assumption) (by omega) ?_
      refine jr_iload_n (pc := 13) h dX3_secondsOf_13 rfl ?_
      refine jr_iald (pc := 14) h dX3_secondsOf_14 (by assumption) (by omega) (by omega) ?_
      refine jr_goto (pc := 15) h 19 dX3_secondsOf_15 (by decide) ?_
      refine jr_iret (pc := 19) h hRt dX3_secondsOf_19 rfl (Nat.le_of_ble_eq_true rfl) (Nat.le_of_ble_eq_true rfl) ?_
      refine ⟨ji_c ?_, rfl, rfl⟩
      unfold c_two
      first | rw [if_pos (by omega)] | rw [if_neg (by omega)]
set_option maxHeartbeats 1000000 in
set_option maxRecDepth 20000 in
theorem s_X3_gotOf {l : Launch} {n : Nat} {M : jdM} {r : Nat} {g sp sk fa go : Nat → Int} (hRn : Rn M n r g sp sk fa go) {a : Int} (ha : -2147483648 ≤ a ∧ a < 2147483648) : Ct l yX3_gotOf cX3_gotOf 2 (some .int) rX3_gotOf [.ref r, jI a] n M (fun vv n' M' => vv = some (jI (c_six go a)) ∧ n = n' ∧ M = M') := by
  refine Ct_of [some (.ref r), some (jI a)] (by decide) (Nat.le_of_ble_eq_true rfl) rfl (fun κ hl h hR hRt hmn hn0 => ?_)
  have h : Ok κ RX3 cX3_gotOf 2 (some .int) := h
  obtain ⟨hn, hO, hA, hB, hC, hD⟩ := id hRn
  refine jr_iload_n (pc := 0) h dX3_gotOf_0 rfl ?_
  refine jr_if_lt (pc := 1) h 19 dX3_gotOf_1 (by decide) (by omega) (fun c_1 => ?_) (fun c_1 => ?_)
  · skip
    refine jr_iconst (pc := 19) h dX3_gotOf_19 ?_
    refine jr_iret (pc := 20) h hRt dX3_gotOf_20 rfl (Nat.le_of_ble_eq_true rfl) (Nat.le_of_ble_eq_true rfl) ?_
    refine ⟨ji_c ?_, rfl, rfl⟩
    unfold c_six
    first | rw [if_pos (by omega)] | rw [if_neg (by omega)]
  · skip
    refine jr_iload_n (pc := 4) h dX3_gotOf_4 rfl ?_
    refine jr_bipush (pc := 5) h dX3_gotOf_5 bp_6 ?_
    refine jr_icmp_ge (pc := 7) h 19 dX3_gotOf_7 (by decide) (by omega) (by omega) (fun c_7 => ?_) (fun c_7 => ?_)
    · skip
      refine jr_iconst (pc := 19) h dX3_gotOf_19 ?_
      refine jr_iret (pc := 20) h hRt dX3_gotOf_20 rfl (Nat.le_of_ble_eq_true rfl) (Nat.le_of_ble_eq_true rfl) ?_
      refine ⟨ji_c ?_, rfl, rfl⟩
      unfold c_six
      first | rw [if_pos (by omega)] | rw [if_neg (by omega)]
    · skip
      refine jr_aload_n (pc := 10) h dX3_gotOf_10 rfl ?_
      refine gf_X3_21 (pc := 11) h dX3_gotOf_11 (by assumption) (by omega) ?_
      refine jr_iload_n (pc := 14) h dX3_gotOf_14 rfl ?_
      refine jr_iald (pc := 15) h dX3_gotOf_15 (by assumption) (by omega) (by omega) ?_
      refine jr_goto (pc := 16) h 20 dX3_gotOf_16 (by decide) ?_
      refine jr_iret (pc := 20) h hRt dX3_gotOf_20 rfl (Nat.le_of_ble_eq_true rfl) (Nat.le_of_ble_eq_true rfl) ?_
      refine ⟨ji_c ?_, rfl, rfl⟩
      unfold c_six
      first | rw [if_pos (by omega)] | rw [if_neg (by omega)]
set_option maxHeartbeats 1000000 in
set_option maxRecDepth 20000 in
theorem s_X3_leftOf {l : Launch} {n : Nat} {M : jdM} {r : Nat} {g sp sk fa go : Nat → Int} (hRn : Rn M n r g sp sk fa go) {a b : Int} (ha : -1000 ≤ a ∧ a ≤ 100000) (hb : -1000 ≤ b ∧ b ≤ 100000) : Ct l yX3_leftOf cX3_leftOf 4 (some .int) rX3_leftOf [.ref r, jI a, jI b] n M (fun vv n' M' => vv = some (jI (c_left sk a b)) ∧ n = n' ∧ M = M') := by
  refine Ct_of [some (.ref r), some (jI a), some (jI b), none] (by decide) (Nat.le_of_ble_eq_true rfl) rfl (fun κ hl h hR hRt hmn hn0 => ?_)
  have h : Ok κ RX3 cX3_leftOf 4 (some .int) := h
  obtain ⟨hn, hO, hA, hB, hC, hD⟩ := id hRn
  refine jr_iload_n (pc := 0) h dX3_leftOf_0 rfl ?_
  refine jr_iconst (pc := 1) h dX3_leftOf_1 ?_
  refine jr_imul (pc := 2) h dX3_leftOf_2 ?_
  refine jr_iload_n (pc := 3) h dX3_leftOf_3 rfl ?_
  refine jr_iadd (pc := 4) h dX3_leftOf_4 ?_
  refine jr_istore_n (pc := 5) h [_, _, _, _] dX3_leftOf_5 (by decide) rfl ?_
  refine jr_iload_n (pc := 6) h dX3_leftOf_6 rfl ?_
  refine jr_if_lt (pc := 7) h 28 dX3_leftOf_7 (by decide) (by omega) (fun c_7 => ?_) (fun c_7 => ?_)
  · skip
    refine jr_iconst (pc := 28) h dX3_leftOf_28 ?_
    refine jr_iret (pc := 29) h hRt dX3_leftOf_29 rfl (Nat.le_of_ble_eq_true rfl) (Nat.le_of_ble_eq_true rfl) ?_
    refine ⟨ji_c ?_, rfl, rfl⟩
    unfold c_left
    first | rw [if_pos (by omega)] | rw [if_neg (by omega)]
  · skip
    refine jr_iload_n (pc := 10) h dX3_leftOf_10 rfl ?_
    refine jr_aload_n (pc := 11) h dX3_leftOf_11 rfl ?_
    refine gf_X3_15 (pc := 12) h dX3_leftOf_12 (by assumption) (by omega) ?_
    refine jr_alen (pc := 15) h dX3_leftOf_15 (by assumption) (by omega) ?_
    refine jr_icmp_ge (pc := 16) h 28 dX3_leftOf_16 (by decide) (by omega) (by omega) (fun c_16 => ?_) (fun c_16 => ?_)
    · skip
      refine jr_iconst (pc := 28) h dX3_leftOf_28 ?_
      refine jr_iret (pc := 29) h hRt dX3_leftOf_29 rfl (Nat.le_of_ble_eq_true rfl) (Nat.le_of_ble_eq_true rfl) ?_
      refine ⟨ji_c ?_, rfl, rfl⟩
      unfold c_left
      first | rw [if_pos (by omega)] | rw [if_neg (by omega)]
    · skip
      refine jr_aload_n (pc := 19) h dX3_leftOf_19 rfl ?_
      refine gf_X3_15 (pc := 20) h dX3_leftOf_20 (by assumption) (by omega) ?_
      refine jr_iload_n (pc := 23) h dX3_leftOf_23 rfl ?_
      refine jr_iald (pc := 24) h dX3_leftOf_24 (by assumption) (by omega) (by omega) ?_
      refine jr_goto (pc := 25) h 29 dX3_leftOf_25 (by decide) ?_
      refine jr_iret (pc := 29) h hRt dX3_leftOf_29 rfl (Nat.le_of_ble_eq_true rfl) (Nat.le_of_ble_eq_true rfl) ?_
      refine ⟨ji_c ?_, rfl, rfl⟩
      unfold c_left
      first | rw [if_pos (by omega)] | rw [if_neg (by omega)]
set_option maxHeartbeats 1000000 in
set_option maxRecDepth 20000 in
theorem s_X3_fact {l : Launch} {n : Nat} {M : jdM} {r : Nat} {g sp sk fa go : Nat → Int} (hRn : Rn M n r g sp sk fa go) {a b : Int} (ha : -1000 ≤ a ∧ a ≤ 100000) (hb : -1000 ≤ b ∧ b ≤ 100000) : Ct l yX3_fact cX3_fact 4 (some .int) rX3_fact [.ref r, jI a, jI b] n M (fun vv n' M' => vv = some (jI (c_fact fa a b)) ∧ n = n' ∧ M = M') := by
  refine Ct_of [some (.ref r), some (jI a), some (jI b), none] (by decide) (Nat.le_of_ble_eq_true rfl) rfl (fun κ hl h hR hRt hmn hn0 => ?_)
  have h : Ok κ RX3 cX3_fact 4 (some .int) := h
  obtain ⟨hn, hO, hA, hB, hC, hD⟩ := id hRn
  refine jr_iload_n (pc := 0) h dX3_fact_0 rfl ?_
  refine jr_bipush (pc := 1) h dX3_fact_1 bp_11 ?_
  refine jr_imul (pc := 3) h dX3_fact_3 ?_
  refine jr_iload_n (pc := 4) h dX3_fact_4 rfl ?_
  refine jr_iadd (pc := 5) h dX3_fact_5 ?_
  refine jr_istore_n (pc := 6) h [_, _, _, _] dX3_fact_6 (by decide) rfl ?_
  refine jr_iload_n (pc := 7) h dX3_fact_7 rfl ?_
  refine jr_if_lt (pc := 8) h 29 dX3_fact_8 (by decide) (by omega) (fun c_8 => ?_) (fun c_8 => ?_)
  · skip
    refine jr_iconst (pc := 29) h dX3_fact_29 ?_
    refine jr_iret (pc := 30) h hRt dX3_fact_30 rfl (Nat.le_of_ble_eq_true rfl) (Nat.le_of_ble_eq_true rfl) ?_
    refine ⟨ji_c ?_, rfl, rfl⟩
    unfold c_fact
    first | rw [if_pos (by omega)] | rw [if_neg (by omega)]
  · skip
    refine jr_iload_n (pc := 11) h dX3_fact_11 rfl ?_
    refine jr_aload_n (pc := 12) h dX3_fact_12 rfl ?_
    refine gf_X3_18 (pc := 13) h dX3_fact_13 (by assumption) (by omega) ?_
    refine jr_alen (pc := 16) h dX3_fact_16 (by assumption) (by omega) ?_
    refine jr_icmp_ge (pc := 17) h 29 dX3_fact_17 (by decide) (by omega) (by omega) (fun c_17 => ?_) (fun c_17 => ?_)
    · skip
      refine jr_iconst (pc := 29) h dX3_fact_29 ?_
      refine jr_iret (pc := 30) h hRt dX3_fact_30 rfl (Nat.le_of_ble_eq_true rfl) (Nat.le_of_ble_eq_true rfl) ?_
      refine ⟨ji_c ?_, rfl, rfl⟩
      unfold c_fact
      first | rw [if_pos (by omega)] | rw [if_neg (by omega)]
    · skip
      refine jr_aload_n (pc := 20) h dX3_fact_20 rfl ?_
      refine gf_X3_18 (pc := 21) h dX3_fact_21 (by assumption) (by omega) ?_
      refine jr_iload_n (pc := 24) h dX3_fact_24 rfl ?_
      refine jr_iald (pc := 25) h dX3_fact_25 (by assumption) (by omega) (by omega) ?_
      refine jr_goto (pc := 26) h 30 dX3_fact_26 (by decide) ?_
      refine jr_iret (pc := 30) h hRt dX3_fact_30 rfl (Nat.le_of_ble_eq_true rfl) (Nat.le_of_ble_eq_true rfl) ?_
      refine ⟨ji_c ?_, rfl, rfl⟩
      unfold c_fact
      first | rw [if_pos (by omega)] | rw [if_neg (by omega)]
set_option maxHeartbeats 1000000 in
set_option maxRecDepth 20000 in
theorem s_X3_addFact {l : Launch} {n : Nat} {M : jdM} {r : Nat} {g sp sk fa go : Nat → Int} (hRn : Rn M n r g sp sk fa go) {a b x : Int} (ha : 0 ≤ a ∧ a ≤ 40) (hb : 0 ≤ b ∧ b < 11) : Ct l yX3_addFact cX3_addFact 5 none rX3_addFact [.ref r, jI a, jI b, jI x] n M (fun vv n' M' => vv = none ∧ n = n' ∧ Rn M' n r g sp sk (up fa (a * 11 + b).toNat (fa (a * 11 + b).toNat + x)) go ∧ fr (RnS r) M M') := by
  refine Ct_of [some (.ref r), some (jI a), some (jI b), some (jI x), none] (by decide) (Nat.le_of_ble_eq_true rfl) rfl (fun κ hl h hR hRt hmn hn0 => ?_)
  have h : Ok κ RX3 cX3_addFact 5 none := h
  obtain ⟨hn, hO, hA, hB, hC, hD⟩ := id hRn
  refine jr_iload_n (pc := 0) h dX3_addFact_0 rfl ?_
  refine jr_bipush (pc := 1) h dX3_addFact_1 bp_11 ?_
  refine jr_imul (pc := 3) h dX3_addFact_3 ?_
  refine jr_iload_n (pc := 4) h dX3_addFact_4 rfl ?_
  refine jr_iadd (pc := 5) h dX3_addFact_5 ?_
  refine jr_istore (pc := 6) h [_, _, _, _, _] dX3_addFact_6 (by decide) rfl ?_
  refine jr_iload (pc := 8) h dX3_addFact_8 rfl ?_
  refine jr_if_lt (pc := 10) h 34 dX3_addFact_10 (by decide) (by omega) (fun c_10 => ?_) (fun c_10 => ?_)
  · skip
    refine jr_vret (pc := 34) h hRt dX3_addFact_34 (Nat.le_of_ble_eq_true rfl) (Nat.le_of_ble_eq_true rfl) ?_
    first
      | exact ⟨rfl, rfl, Rn_fa hRn rfl, fr_up rfl ⟨by omega, by omega⟩⟩
      | (exfalso; omega)
  · skip
    refine jr_iload (pc := 13) h dX3_addFact_13 rfl ?_
    refine jr_aload_n (pc := 15) h dX3_addFact_15 rfl ?_
    refine gf_X3_18 (pc := 16) h dX3_addFact_16 (by assumption) (by omega) ?_
    refine jr_alen (pc := 19) h dX3_addFact_19 (by assumption) (by omega) ?_
    refine jr_icmp_ge (pc := 20) h 34 dX3_addFact_20 (by decide) (by omega) (by omega) (fun c_20 => ?_) (fun c_20 => ?_)
    · skip
      refine jr_vret (pc := 34) h hRt dX3_addFact_34 (Nat.le_of_ble_eq_true rfl) (Nat.le_of_ble_eq_true rfl) ?_
      first
        | exact ⟨rfl, rfl, Rn_fa hRn rfl, fr_up rfl ⟨by omega, by omega⟩⟩
        | (exfalso; omega)
    · skip
      refine jr_aload_n (pc := 23) h dX3_addFact_23 rfl ?_
      refine gf_X3_18 (pc := 24) h dX3_addFact_24 (by assumption) (by omega) ?_
      refine jr_iload (pc := 27) h dX3_addFact_27 rfl ?_
      refine jr_dup2 (pc := 29) h dX3_addFact_29 rfl rfl ?_
      refine jr_iald (pc := 30) h dX3_addFact_30 (by assumption) (by omega) (by omega) ?_
      refine jr_iload_n (pc := 31) h dX3_addFact_31 rfl ?_
      refine jr_iadd (pc := 32) h dX3_addFact_32 ?_
      refine jr_iast (pc := 33) h dX3_addFact_33 (by assumption) (by omega) (by omega) ?_
      refine jr_vret (pc := 34) h hRt dX3_addFact_34 (Nat.le_of_ble_eq_true rfl) (Nat.le_of_ble_eq_true rfl) ?_
      first
        | exact ⟨rfl, rfl, Rn_fa hRn rfl, fr_up rfl ⟨by omega, by omega⟩⟩
        | (exfalso; omega)
set_option maxHeartbeats 2000000 in
set_option maxRecDepth 20000 in
theorem s_X3_sumOf {l : Launch} {n : Nat} {M : jdM} {r : Nat} {g sp sk fa go : Nat → Int} (hRn : Rn M n r g sp sk fa go) {a : Int} (ha : 0 ≤ a ∧ a ≤ 10) : Ct l yX3_sumOf cX3_sumOf 4 (some .int) rX3_sumOf [.ref r, jI a] n M (fun vv n' M' => vv = some (jI (c_sumf fa a)) ∧ n = n' ∧ M = M') := by
  refine Ct_of [some (.ref r), some (jI a), none, none] (by decide) (Nat.le_of_ble_eq_true rfl) rfl (fun κ hl h hR hRt hmn hn0 => ?_)
  have h : Ok κ RX3 cX3_sumOf 4 (some .int) := h
  obtain ⟨hn, hO, hA, hB, hC, hD⟩ := id hRn
  have loop : ∀ (dq : Nat) (x i : Int), (1 ≤ i ∧ i ≤ 41) → (x = sumZ (fun i => c_fact fa (1 + i) a) (i - 1).toNat) → (41 - i).toNat < dq → J κ 4 0 0 n 4 [some (.ref r), some (jI a), some (jI x), some (jI i)] [] M := by
    intro dq
    induction dq with
    | zero => intro x i hi hx hd; omega
    | succ dq ih =>
      intro x i hi hx hd
      refine jr_iload_n (pc := 4) h dX3_sumOf_4 rfl ?_
      refine jr_bipush (pc := 5) h dX3_sumOf_5 bp_40 ?_
      refine jr_icmp_gt (pc := 7) h 25 dX3_sumOf_7 (by decide) (by omega) (by omega) (fun c_7 => ?_) (fun c_7 => ?_)
      · skip
        refine jr_iload_n (pc := 25) h dX3_sumOf_25 rfl ?_
        refine jr_iret (pc := 26) h hRt dX3_sumOf_26 rfl (Nat.le_of_ble_eq_true rfl) (Nat.le_of_ble_eq_true rfl) ?_
        have e : i = 41 := by omega
        subst e
        exact ⟨ji_c hx, rfl, rfl⟩
      · skip
        refine jr_iload_n (pc := 10) h dX3_sumOf_10 rfl ?_
        refine jr_aload_n (pc := 11) h dX3_sumOf_11 rfl ?_
        refine jr_iload_n (pc := 12) h dX3_sumOf_12 rfl ?_
        refine jr_iload_n (pc := 13) h dX3_sumOf_13 rfl ?_
        refine iv_X3_59 (pc := 14) h hl hR dX3_sumOf_14 ⟨(Nat.le_of_ble_eq_true rfl), (Nat.le_of_ble_eq_true rfl), (Nat.le_of_ble_eq_true rfl), (Nat.le_of_ble_eq_true rfl)⟩ (Nat.le_of_ble_eq_true rfl) (by assumption) (by omega) (s_X3_fact hRn (by omega) (by omega)) (fun v_14 n_14 M_14 hn_14 hp => ?_)
        obtain ⟨rfl, rfl, rfl⟩ := hp
        refine jr_iadd (pc := 17) h dX3_sumOf_17 ?_
        refine jr_istore_n (pc := 18) h [_, _, _, _] dX3_sumOf_18 (by decide) rfl ?_
        refine jr_iinc (pc := 19) h [_, _, _, _] dX3_sumOf_19 (by decide) rfl rfl ?_
        refine jr_goto (pc := 22) h 4 dX3_sumOf_22 (by decide) ?_
        refine ih _ _ (by omega) ?_ (by omega)
        rw [show i + 1 - 1 = (i - 1) + 1 by omega, sumZ_s (by omega), hx, show 1 + (i - 1) = i by omega]
  refine jr_iconst (pc := 0) h dX3_sumOf_0 ?_
  refine jr_istore_n (pc := 1) h [_, _, _, _] dX3_sumOf_1 (by decide) rfl ?_
  refine jr_iconst (pc := 2) h dX3_sumOf_2 ?_
  refine jr_istore_n (pc := 3) h [_, _, _, _] dX3_sumOf_3 (by decide) rfl ?_
  exact loop _ _ _ (by omega) rfl (Nat.lt_succ_self _)
