/-! 44: makers of small objects -/
theorem wm_86 : (.classLink RX5 18 "[[I" : Cond) ∈ wsL_law := sr_4 _ (List.mem_of_getElem? (i := 14) rfl)
set_option maxHeartbeats 1000000 in
set_option maxRecDepth 20000 in
theorem s_X0_init {l : Launch} {n : Nat} {M : jdM} {b : Nat} (hb : b + 1 = n) (hN : n < 900000) (o0 : M b = jdO 0 (fun j => defaultValue (tyX0 j))) : Ct l yX0_init cX0_init 1 none rX0_init [.ref b] n M (fun vv n' M' => (vv = none ∧ n' = n + 3) ∧ Dr M' n' b (fun _ => 0) (fun _ => 0) (fun _ => 0) (fun _ => 0) ∧ fr (fun k => k = b ∨ b < k) M M') := by
  refine Ct_of [some (.ref b)] (by decide) (Nat.le_of_ble_eq_true rfl) rfl (fun κ hl h hR hRt hmn hn0 => ?_)
  have h : Ok κ RX0 cX0_init 1 none := h
  subst hb
  have f : fr (fun k => k = b ∨ b < k) M M := fr_rf
  refine jr_aload_n (pc := 0) h dX0_init_0 rfl ?_
  refine io_X0_3 (pc := 1) h hR dX0_init_1 ⟨(Nat.le_of_ble_eq_true rfl), (Nat.le_of_ble_eq_true rfl)⟩ ?_
  refine jr_aload_n (pc := 4) h dX0_init_4 rfl ?_
  refine jr_bipush (pc := 5) h dX0_init_5 bp_14 ?_
  refine jr_newI (pc := 7) h hR 14 wm_52 dX0_init_7 rfl (by decide) ⟨(Nat.le_of_ble_eq_true rfl), (Nat.le_of_ble_eq_true rfl)⟩ (by omega) ?_
  refine jm_gen (fun M1 h1 => ?_)
  have o1 := (congrFun h1 b).trans ((up_ne (by omega)).trans o0)
  have f := fr_tr f (fr_up h1 (Or.inr (by omega)))
  refine pF_X0_9 (pc := 9) h hmn dX0_init_9 o1 (by omega) ?_
  refine jm_gen (fun M2 h2 => ?_)
  have o2 := (congrFun h2 b).trans up_eq
  have f := fr_tr f (fr_up h2 (Or.inl rfl))
  refine jr_aload_n (pc := 12) h dX0_init_12 rfl ?_
  refine jr_iconst (pc := 13) h dX0_init_13 ?_
  refine jr_newI (pc := 14) h hR 4 wm_52 dX0_init_14 rfl (by decide) ⟨(Nat.le_of_ble_eq_true rfl), (Nat.le_of_ble_eq_true rfl)⟩ (by omega) ?_
  refine jm_gen (fun M3 h3 => ?_)
  have o3 := (congrFun h3 b).trans ((up_ne (by omega)).trans o2)
  have f := fr_tr f (fr_up h3 (Or.inr (by omega)))
  refine pF_X0_15 (pc := 16) h hmn dX0_init_16 o3 (by omega) ?_
  refine jm_gen (fun M4 h4 => ?_)
  have o4 := (congrFun h4 b).trans up_eq
  have f := fr_tr f (fr_up h4 (Or.inl rfl))
  refine jr_aload_n (pc := 19) h dX0_init_19 rfl ?_
  refine jr_sipush (pc := 20) h dX0_init_20 sp_2401 ?_
  refine jr_newI (pc := 23) h hR 2401 wm_52 dX0_init_23 rfl (by decide) ⟨(Nat.le_of_ble_eq_true rfl), (Nat.le_of_ble_eq_true rfl)⟩ (by omega) ?_
  refine jm_gen (fun M5 h5 => ?_)
  have o5 := (congrFun h5 b).trans ((up_ne (by omega)).trans o4)
  have f := fr_tr f (fr_up h5 (Or.inr (by omega)))
  refine pF_X0_18 (pc := 25) h hmn dX0_init_25 o5 (by omega) ?_
  refine jm_gen (fun M6 h6 => ?_)
  have o6 := (congrFun h6 b).trans up_eq
  have f := fr_tr f (fr_up h6 (Or.inl rfl))
  refine jr_same (k := b) (F' := fX0 b (fun _ => 0)) o6 (fun j hj => match j, hj with
    | 0, _ => rfl
    | 1, _ => rfl
    | 2, _ => rfl
    | 3, _ => rfl
    | q + 4, hq => absurd hq (Nat.not_lt.mpr (Nat.le_add_left 4 q))) ?_
  refine jm_gen (fun Mz hz => ?_)
  have oz : Mz b = jdO 0 (fX0 b (fun _ => 0)) := by
    rw [hz]
    exact up_eq
  have f := fr_tr f (fr_up hz (Or.inl rfl))
  refine jr_vret (pc := 28) h hRt dX0_init_28 (Nat.le_of_ble_eq_true rfl) (Nat.le_of_ble_eq_true rfl) ?_
  have a1 : Mz (b + 1) = jdA 14 (fun _ => 0) := by
    rw [hz, up_ne (by omega)]
    rw [h6, up_ne (by omega)]
    rw [h5, up_ne (by omega)]
    rw [h4, up_ne (by omega)]
    rw [h3, up_ne (by omega)]
    rw [h2, up_ne (by omega)]
    rw [h1, up_eq]
  have a2 : Mz (b + 2) = jdA 4 (fun _ => 0) := by
    rw [hz, up_ne (by omega)]
    rw [h6, up_ne (by omega)]
    rw [h5, up_ne (by omega)]
    rw [h4, up_ne (by omega)]
    rw [h3, up_eq]
  have a3 : Mz (b + 3) = jdA 2401 (fun _ => 0) := by
    rw [hz, up_ne (by omega)]
    rw [h6, up_ne (by omega)]
    rw [h5, up_eq]
  refine ⟨⟨rfl, rfl⟩, ⟨by omega, oz, a1, a2, a3⟩, f⟩
set_option maxHeartbeats 1000000 in
set_option maxRecDepth 20000 in
theorem s_X1_init {l : Launch} {n : Nat} {M : jdM} {b : Nat} (hb : b + 1 = n) (hN : n < 900000) (o0 : M b = jdO 1 (fun j => defaultValue (tyX1 j))) : Ct l yX1_init cX1_init 1 none rX1_init [.ref b] n M (fun vv n' M' => (vv = none ∧ n' = n + 5) ∧ Fl M' n' b (fun _ => 0) (fun _ => 0) (fun _ => 0) (fun _ => 0) (fun _ => 0) ∧ fr (fun k => k = b ∨ b < k) M M') := by
  refine Ct_of [some (.ref b)] (by decide) (Nat.le_of_ble_eq_true rfl) rfl (fun κ hl h hR hRt hmn hn0 => ?_)
  have h : Ok κ RX1 cX1_init 1 none := h
  subst hb
  have f : fr (fun k => k = b ∨ b < k) M M := fr_rf
  refine jr_aload_n (pc := 0) h dX1_init_0 rfl ?_
  refine io_X1_3 (pc := 1) h hR dX1_init_1 ⟨(Nat.le_of_ble_eq_true rfl), (Nat.le_of_ble_eq_true rfl)⟩ ?_
  refine jr_aload_n (pc := 4) h dX1_init_4 rfl ?_
  refine jr_bipush (pc := 5) h dX1_init_5 bp_13 ?_
  refine jr_newI (pc := 7) h hR 13 wm_52 dX1_init_7 rfl (by decide) ⟨(Nat.le_of_ble_eq_true rfl), (Nat.le_of_ble_eq_true rfl)⟩ (by omega) ?_
  refine jm_gen (fun M1 h1 => ?_)
  have o1 := (congrFun h1 b).trans ((up_ne (by omega)).trans o0)
  have f := fr_tr f (fr_up h1 (Or.inr (by omega)))
  refine pF_X1_9 (pc := 9) h hmn dX1_init_9 o1 (by omega) ?_
  refine jm_gen (fun M2 h2 => ?_)
  have o2 := (congrFun h2 b).trans up_eq
  have f := fr_tr f (fr_up h2 (Or.inl rfl))
  refine jr_aload_n (pc := 12) h dX1_init_12 rfl ?_
  refine jr_sipush (pc := 13) h dX1_init_13 sp_1248 ?_
  refine jr_newI (pc := 16) h hR 1248 wm_52 dX1_init_16 rfl (by decide) ⟨(Nat.le_of_ble_eq_true rfl), (Nat.le_of_ble_eq_true rfl)⟩ (by omega) ?_
  refine jm_gen (fun M3 h3 => ?_)
  have o3 := (congrFun h3 b).trans ((up_ne (by omega)).trans o2)
  have f := fr_tr f (fr_up h3 (Or.inr (by omega)))
  refine pF_X1_15 (pc := 18) h hmn dX1_init_18 o3 (by omega) ?_
  refine jm_gen (fun M4 h4 => ?_)
  have o4 := (congrFun h4 b).trans up_eq
  have f := fr_tr f (fr_up h4 (Or.inl rfl))
  refine jr_aload_n (pc := 21) h dX1_init_21 rfl ?_
  refine jr_bipush (pc := 22) h dX1_init_22 bp_41 ?_
  refine jr_newI (pc := 24) h hR 41 wm_52 dX1_init_24 rfl (by decide) ⟨(Nat.le_of_ble_eq_true rfl), (Nat.le_of_ble_eq_true rfl)⟩ (by omega) ?_
  refine jm_gen (fun M5 h5 => ?_)
  have o5 := (congrFun h5 b).trans ((up_ne (by omega)).trans o4)
  have f := fr_tr f (fr_up h5 (Or.inr (by omega)))
  refine pF_X1_18 (pc := 26) h hmn dX1_init_26 o5 (by omega) ?_
  refine jm_gen (fun M6 h6 => ?_)
  have o6 := (congrFun h6 b).trans up_eq
  have f := fr_tr f (fr_up h6 (Or.inl rfl))
  refine jr_aload_n (pc := 29) h dX1_init_29 rfl ?_
  refine jr_bipush (pc := 30) h dX1_init_30 bp_41 ?_
  refine jr_newI (pc := 32) h hR 41 wm_52 dX1_init_32 rfl (by decide) ⟨(Nat.le_of_ble_eq_true rfl), (Nat.le_of_ble_eq_true rfl)⟩ (by omega) ?_
  refine jm_gen (fun M7 h7 => ?_)
  have o7 := (congrFun h7 b).trans ((up_ne (by omega)).trans o6)
  have f := fr_tr f (fr_up h7 (Or.inr (by omega)))
  refine pF_X1_21 (pc := 34) h hmn dX1_init_34 o7 (by omega) ?_
  refine jm_gen (fun M8 h8 => ?_)
  have o8 := (congrFun h8 b).trans up_eq
  have f := fr_tr f (fr_up h8 (Or.inl rfl))
  refine jr_aload_n (pc := 37) h dX1_init_37 rfl ?_
  refine jr_bipush (pc := 38) h dX1_init_38 bp_8 ?_
  refine jr_newI (pc := 40) h hR 8 wm_52 dX1_init_40 rfl (by decide) ⟨(Nat.le_of_ble_eq_true rfl), (Nat.le_of_ble_eq_true rfl)⟩ (by omega) ?_
  refine jm_gen (fun M9 h9 => ?_)
  have o9 := (congrFun h9 b).trans ((up_ne (by omega)).trans o8)
  have f := fr_tr f (fr_up h9 (Or.inr (by omega)))
  refine pF_X1_24 (pc := 42) h hmn dX1_init_42 o9 (by omega) ?_
  refine jm_gen (fun M10 h10 => ?_)
  have o10 := (congrFun h10 b).trans up_eq
  have f := fr_tr f (fr_up h10 (Or.inl rfl))
  refine jr_same (k := b) (F' := fX1 b) o10 (fun j hj => match j, hj with
    | 0, _ => rfl
    | 1, _ => rfl
    | 2, _ => rfl
    | 3, _ => rfl
    | 4, _ => rfl
    | q + 5, hq => absurd hq (Nat.not_lt.mpr (Nat.le_add_left 5 q))) ?_
  refine jm_gen (fun Mz hz => ?_)
  have oz : Mz b = jdO 1 (fX1 b) := by
    rw [hz]
    exact up_eq
  have f := fr_tr f (fr_up hz (Or.inl rfl))
  refine jr_vret (pc := 45) h hRt dX1_init_45 (Nat.le_of_ble_eq_true rfl) (Nat.le_of_ble_eq_true rfl) ?_
  have a1 : Mz (b + 1) = jdA 13 (fun _ => 0) := by
    rw [hz, up_ne (by omega)]
    rw [h10, up_ne (by omega)]
    rw [h9, up_ne (by omega)]
    rw [h8, up_ne (by omega)]
    rw [h7, up_ne (by omega)]
    rw [h6, up_ne (by omega)]
    rw [h5, up_ne (by omega)]
    rw [h4, up_ne (by omega)]
    rw [h3, up_ne (by omega)]
    rw [h2, up_ne (by omega)]
    rw [h1, up_eq]
  have a2 : Mz (b + 2) = jdA 1248 (fun _ => 0) := by
    rw [hz, up_ne (by omega)]
    rw [h10, up_ne (by omega)]
    rw [h9, up_ne (by omega)]
    rw [h8, up_ne (by omega)]
    rw [h7, up_ne (by omega)]
    rw [h6, up_ne (by omega)]
    rw [h5, up_ne (by omega)]
    rw [h4, up_ne (by omega)]
    rw [h3, up_eq]
  have a3 : Mz (b + 3) = jdA 41 (fun _ => 0) := by
    rw [hz, up_ne (by omega)]
    rw [h10, up_ne (by omega)]
    rw [h9, up_ne (by omega)]
    rw [h8, up_ne (by omega)]
    rw [h7, up_ne (by omega)]
    rw [h6, up_ne (by omega)]
    rw [h5, up_eq]
  have a4 : Mz (b + 4) = jdA 41 (fun _ => 0) := by
    rw [hz, up_ne (by omega)]
    rw [h10, up_ne (by omega)]
    rw [h9, up_ne (by omega)]
    rw [h8, up_ne (by omega)]
    rw [h7, up_eq]
  have a5 : Mz (b + 5) = jdA 8 (fun _ => 0) := by
    rw [hz, up_ne (by omega)]
    rw [h10, up_ne (by omega)]
    rw [h9, up_eq]
  refine ⟨⟨rfl, rfl⟩, ⟨by omega, oz, a1, a2, a3, a4, a5, fun _ => ⟨Int.le_refl _, (by decide : (0 : Int) ≤ 8)⟩, fun _ => ⟨Int.le_refl _, (by decide : (0 : Int) ≤ 999)⟩, (by decide : (0 : Int) ≤ 40), fun _ => ⟨(by decide : (-1 : Int) ≤ 0), (by decide : (0 : Int) ≤ 8)⟩, fun _ => ⟨Int.le_refl _, (by decide : (0 : Int) ≤ 9)⟩, fun _ => ⟨Int.le_refl _, (by decide : (0 : Int) ≤ 9999)⟩⟩, f⟩
set_option maxHeartbeats 1000000 in
set_option maxRecDepth 20000 in
theorem s_X2_init {l : Launch} {n : Nat} {M : jdM} {b : Nat} (hb : b + 1 = n) (hN : n < 900000) (o0 : M b = jdO 2 (fun j => defaultValue (tyX2 j))) : Ct l yX2_init cX2_init 1 none rX2_init [.ref b] n M (fun vv n' M' => (vv = none ∧ n' = n + 1) ∧ Od M' n' b (fun _ => 0) (fun _ => 0) ∧ fr (fun k => k = b ∨ b < k) M M') := by
  refine Ct_of [some (.ref b)] (by decide) (Nat.le_of_ble_eq_true rfl) rfl (fun κ hl h hR hRt hmn hn0 => ?_)
  have h : Ok κ RX2 cX2_init 1 none := h
  subst hb
  have f : fr (fun k => k = b ∨ b < k) M M := fr_rf
  refine jr_aload_n (pc := 0) h dX2_init_0 rfl ?_
  refine io_X2_3 (pc := 1) h hR dX2_init_1 ⟨(Nat.le_of_ble_eq_true rfl), (Nat.le_of_ble_eq_true rfl)⟩ ?_
  refine jr_aload_n (pc := 4) h dX2_init_4 rfl ?_
  refine jr_bipush (pc := 5) h dX2_init_5 bp_11 ?_
  refine jr_newL (pc := 7) h hR 11 wm_6 dX2_init_7 rfl (by decide) ⟨(Nat.le_of_ble_eq_true rfl), (Nat.le_of_ble_eq_true rfl)⟩ (by omega) ?_
  refine jm_gen (fun M1 h1 => ?_)
  have o1 := (congrFun h1 b).trans ((up_ne (by omega)).trans o0)
  have f := fr_tr f (fr_up h1 (Or.inr (by omega)))
  refine pF_X2_11 (pc := 9) h hmn dX2_init_9 o1 (by omega) ?_
  refine jm_gen (fun M2 h2 => ?_)
  have o2 := (congrFun h2 b).trans up_eq
  have f := fr_tr f (fr_up h2 (Or.inl rfl))
  refine jr_same (k := b) (F' := fX2 b (fun _ => 0)) o2 (fun j hj => match j, hj with
    | 0, _ => rfl
    | q + 1, hq => absurd hq (Nat.not_lt.mpr (Nat.le_add_left 1 q))) ?_
  refine jm_gen (fun Mz hz => ?_)
  have oz : Mz b = jdO 2 (fX2 b (fun _ => 0)) := by
    rw [hz]
    exact up_eq
  have f := fr_tr f (fr_up hz (Or.inl rfl))
  refine jr_vret (pc := 12) h hRt dX2_init_12 (Nat.le_of_ble_eq_true rfl) (Nat.le_of_ble_eq_true rfl) ?_
  have a1 : Mz (b + 1) = jdL 11 (fun _ => 0) := by
    rw [hz, up_ne (by omega)]
    rw [h2, up_ne (by omega)]
    rw [h1, up_eq]
  refine ⟨⟨rfl, rfl⟩, ⟨by omega, oz, a1⟩, f⟩
set_option maxHeartbeats 1000000 in
set_option maxRecDepth 20000 in
theorem s_X3_init {l : Launch} {n : Nat} {M : jdM} {b : Nat} (hb : b + 1 = n) (hN : n < 900000) (o0 : M b = jdO 3 (fun j => defaultValue (tyX3 j))) : Ct l yX3_init cX3_init 1 none rX3_init [.ref b] n M (fun vv n' M' => (vv = none ∧ n' = n + 4) ∧ Rn M' n' b (up (fun _ => 0) 4 1) (fun _ => 0) (fun _ => 0) (fun _ => 0) (fun _ => 0) ∧ fr (fun k => k = b ∨ b < k) M M') := by
  refine Ct_of [some (.ref b)] (by decide) (Nat.le_of_ble_eq_true rfl) rfl (fun κ hl h hR hRt hmn hn0 => ?_)
  have h : Ok κ RX3 cX3_init 1 none := h
  subst hb
  have f : fr (fun k => k = b ∨ b < k) M M := fr_rf
  refine jr_aload_n (pc := 0) h dX3_init_0 rfl ?_
  refine io_X3_3 (pc := 1) h hR dX3_init_1 ⟨(Nat.le_of_ble_eq_true rfl), (Nat.le_of_ble_eq_true rfl)⟩ ?_
  refine jr_aload_n (pc := 4) h dX3_init_4 rfl ?_
  refine jr_iconst (pc := 5) h dX3_init_5 ?_
  refine jr_newI (pc := 6) h hR 2 wm_52 dX3_init_6 rfl (by decide) ⟨(Nat.le_of_ble_eq_true rfl), (Nat.le_of_ble_eq_true rfl)⟩ (by omega) ?_
  refine jm_gen (fun M1 h1 => ?_)
  have o1 := (congrFun h1 b).trans ((up_ne (by omega)).trans o0)
  have f := fr_tr f (fr_up h1 (Or.inr (by omega)))
  refine pF_X3_9 (pc := 8) h hmn dX3_init_8 o1 (by omega) ?_
  refine jm_gen (fun M2 h2 => ?_)
  have o2 := (congrFun h2 b).trans up_eq
  have f := fr_tr f (fr_up h2 (Or.inl rfl))
  refine jr_aload_n (pc := 11) h dX3_init_11 rfl ?_
  refine jr_bipush (pc := 12) h dX3_init_12 bp_8 ?_
  refine jr_newI (pc := 14) h hR 8 wm_52 dX3_init_14 rfl (by decide) ⟨(Nat.le_of_ble_eq_true rfl), (Nat.le_of_ble_eq_true rfl)⟩ (by omega) ?_
  refine jm_gen (fun M3 h3 => ?_)
  have o3 := (congrFun h3 b).trans ((up_ne (by omega)).trans o2)
  have f := fr_tr f (fr_up h3 (Or.inr (by omega)))
  refine pF_X3_15 (pc := 16) h hmn dX3_init_16 o3 (by omega) ?_
  refine jm_gen (fun M4 h4 => ?_)
  have o4 := (congrFun h4 b).trans up_eq
  have f := fr_tr f (fr_up h4 (Or.inl rfl))
  refine jr_aload_n (pc := 19) h dX3_init_19 rfl ?_
  refine jr_sipush (pc := 20) h dX3_init_20 sp_451 ?_
  refine jr_newI (pc := 23) h hR 451 wm_52 dX3_init_23 rfl (by decide) ⟨(Nat.le_of_ble_eq_true rfl), (Nat.le_of_ble_eq_true rfl)⟩ (by omega) ?_
  refine jm_gen (fun M5 h5 => ?_)
  have o5 := (congrFun h5 b).trans ((up_ne (by omega)).trans o4)
  have f := fr_tr f (fr_up h5 (Or.inr (by omega)))
  refine pF_X3_18 (pc := 25) h hmn dX3_init_25 o5 (by omega) ?_
  refine jm_gen (fun M6 h6 => ?_)
  have o6 := (congrFun h6 b).trans up_eq
  have f := fr_tr f (fr_up h6 (Or.inl rfl))
  refine jr_aload_n (pc := 28) h dX3_init_28 rfl ?_
  refine jr_bipush (pc := 29) h dX3_init_29 bp_6 ?_
  refine jr_newI (pc := 31) h hR 6 wm_52 dX3_init_31 rfl (by decide) ⟨(Nat.le_of_ble_eq_true rfl), (Nat.le_of_ble_eq_true rfl)⟩ (by omega) ?_
  refine jm_gen (fun M7 h7 => ?_)
  have o7 := (congrFun h7 b).trans ((up_ne (by omega)).trans o6)
  have f := fr_tr f (fr_up h7 (Or.inr (by omega)))
  refine pF_X3_21 (pc := 33) h hmn dX3_init_33 o7 (by omega) ?_
  refine jm_gen (fun M8 h8 => ?_)
  have o8 := (congrFun h8 b).trans up_eq
  have f := fr_tr f (fr_up h8 (Or.inl rfl))
  refine jr_aload_n (pc := 36) h dX3_init_36 rfl ?_
  refine jr_iconst (pc := 37) h dX3_init_37 ?_
  refine pf_X3_24 (pc := 38) h dX3_init_38 o8 (by omega) ?_
  refine jm_gen (fun M9 h9 => ?_)
  have o9 := (congrFun h9 b).trans up_eq
  have f := fr_tr f (fr_up h9 (Or.inl rfl))
  refine jr_same (k := b) (F' := fX3 b (up (fun _ => 0) 4 1)) o9 (fun j hj => match j, hj with
    | 0, _ => rfl
    | 1, _ => rfl
    | 2, _ => rfl
    | 3, _ => rfl
    | 4, _ => rfl
    | 5, _ => rfl
    | 6, _ => rfl
    | 7, _ => rfl
    | q + 8, hq => absurd hq (Nat.not_lt.mpr (Nat.le_add_left 8 q))) ?_
  refine jm_gen (fun Mz hz => ?_)
  have oz : Mz b = jdO 3 (fX3 b (up (fun _ => 0) 4 1)) := by
    rw [hz]
    exact up_eq
  have f := fr_tr f (fr_up hz (Or.inl rfl))
  refine jr_vret (pc := 41) h hRt dX3_init_41 (Nat.le_of_ble_eq_true rfl) (Nat.le_of_ble_eq_true rfl) ?_
  have a1 : Mz (b + 1) = jdA 2 (fun _ => 0) := by
    rw [hz, up_ne (by omega)]
    rw [h9, up_ne (by omega)]
    rw [h8, up_ne (by omega)]
    rw [h7, up_ne (by omega)]
    rw [h6, up_ne (by omega)]
    rw [h5, up_ne (by omega)]
    rw [h4, up_ne (by omega)]
    rw [h3, up_ne (by omega)]
    rw [h2, up_ne (by omega)]
    rw [h1, up_eq]
  have a2 : Mz (b + 2) = jdA 8 (fun _ => 0) := by
    rw [hz, up_ne (by omega)]
    rw [h9, up_ne (by omega)]
    rw [h8, up_ne (by omega)]
    rw [h7, up_ne (by omega)]
    rw [h6, up_ne (by omega)]
    rw [h5, up_ne (by omega)]
    rw [h4, up_ne (by omega)]
    rw [h3, up_eq]
  have a3 : Mz (b + 3) = jdA 451 (fun _ => 0) := by
    rw [hz, up_ne (by omega)]
    rw [h9, up_ne (by omega)]
    rw [h8, up_ne (by omega)]
    rw [h7, up_ne (by omega)]
    rw [h6, up_ne (by omega)]
    rw [h5, up_eq]
  have a4 : Mz (b + 4) = jdA 6 (fun _ => 0) := by
    rw [hz, up_ne (by omega)]
    rw [h9, up_ne (by omega)]
    rw [h8, up_ne (by omega)]
    rw [h7, up_eq]
  refine ⟨⟨rfl, rfl⟩, ⟨by omega, oz, a1, a2, a3, a4⟩, f⟩
set_option maxHeartbeats 1000000 in
set_option maxRecDepth 20000 in
theorem s_X6_init {l : Launch} {n : Nat} {M : jdM} {b : Nat} (hb : b + 1 = n) (hN : n < 900000) (o0 : M b = jdO 6 (fun j => defaultValue (tyX6 j))) : Ct l yX6_init cX6_init 1 none rX6_init [.ref b] n M (fun vv n' M' => (vv = none ∧ n' = n + 4) ∧ Tok M' n' b (fun _ => 0) 0 (fun _ => 0) (fun _ => 0) (fun _ => 0) (fun _ => 0) ∧ fr (fun k => k = b ∨ b < k) M M') := by
  refine Ct_of [some (.ref b)] (by decide) (Nat.le_of_ble_eq_true rfl) rfl (fun κ hl h hR hRt hmn hn0 => ?_)
  have h : Ok κ RX6 cX6_init 1 none := h
  subst hb
  have f : fr (fun k => k = b ∨ b < k) M M := fr_rf
  refine jr_aload_n (pc := 0) h dX6_init_0 rfl ?_
  refine io_X6_3 (pc := 1) h hR dX6_init_1 ⟨(Nat.le_of_ble_eq_true rfl), (Nat.le_of_ble_eq_true rfl)⟩ ?_
  refine jr_aload_n (pc := 4) h dX6_init_4 rfl ?_
  refine jr_sipush (pc := 5) h dX6_init_5 sp_900 ?_
  refine jr_newY (pc := 8) h hR 900 wm_49 dX6_init_8 rfl (by decide) ⟨(Nat.le_of_ble_eq_true rfl), (Nat.le_of_ble_eq_true rfl)⟩ (by omega) ?_
  refine jm_gen (fun M1 h1 => ?_)
  have o1 := (congrFun h1 b).trans ((up_ne (by omega)).trans o0)
  have f := fr_tr f (fr_up h1 (Or.inr (by omega)))
  refine pF_X6_9 (pc := 10) h hmn dX6_init_10 o1 (by omega) ?_
  refine jm_gen (fun M2 h2 => ?_)
  have o2 := (congrFun h2 b).trans up_eq
  have f := fr_tr f (fr_up h2 (Or.inl rfl))
  refine jr_aload_n (pc := 13) h dX6_init_13 rfl ?_
  refine jr_bipush (pc := 14) h dX6_init_14 bp_16 ?_
  refine jr_newL (pc := 16) h hR 16 wm_6 dX6_init_16 rfl (by decide) ⟨(Nat.le_of_ble_eq_true rfl), (Nat.le_of_ble_eq_true rfl)⟩ (by omega) ?_
  refine jm_gen (fun M3 h3 => ?_)
  have o3 := (congrFun h3 b).trans ((up_ne (by omega)).trans o2)
  have f := fr_tr f (fr_up h3 (Or.inr (by omega)))
  refine pF_X6_15 (pc := 18) h hmn dX6_init_18 o3 (by omega) ?_
  refine jm_gen (fun M4 h4 => ?_)
  have o4 := (congrFun h4 b).trans up_eq
  have f := fr_tr f (fr_up h4 (Or.inl rfl))
  refine jr_aload_n (pc := 21) h dX6_init_21 rfl ?_
  refine jr_bipush (pc := 22) h dX6_init_22 bp_16 ?_
  refine jr_newI (pc := 24) h hR 16 wm_52 dX6_init_24 rfl (by decide) ⟨(Nat.le_of_ble_eq_true rfl), (Nat.le_of_ble_eq_true rfl)⟩ (by omega) ?_
  refine jm_gen (fun M5 h5 => ?_)
  have o5 := (congrFun h5 b).trans ((up_ne (by omega)).trans o4)
  have f := fr_tr f (fr_up h5 (Or.inr (by omega)))
  refine pF_X6_19 (pc := 26) h hmn dX6_init_26 o5 (by omega) ?_
  refine jm_gen (fun M6 h6 => ?_)
  have o6 := (congrFun h6 b).trans up_eq
  have f := fr_tr f (fr_up h6 (Or.inl rfl))
  refine jr_aload_n (pc := 29) h dX6_init_29 rfl ?_
  refine jr_bipush (pc := 30) h dX6_init_30 bp_16 ?_
  refine jr_newI (pc := 32) h hR 16 wm_52 dX6_init_32 rfl (by decide) ⟨(Nat.le_of_ble_eq_true rfl), (Nat.le_of_ble_eq_true rfl)⟩ (by omega) ?_
  refine jm_gen (fun M7 h7 => ?_)
  have o7 := (congrFun h7 b).trans ((up_ne (by omega)).trans o6)
  have f := fr_tr f (fr_up h7 (Or.inr (by omega)))
  refine pF_X6_23 (pc := 34) h hmn dX6_init_34 o7 (by omega) ?_
  refine jm_gen (fun M8 h8 => ?_)
  have o8 := (congrFun h8 b).trans up_eq
  have f := fr_tr f (fr_up h8 (Or.inl rfl))
  refine jr_same (k := b) (F' := fX6 b (fun _ => 0) 0) o8 (fun j hj => match j, hj with
    | 0, _ => rfl
    | 1, _ => rfl
    | 2, _ => rfl
    | 3, _ => rfl
    | 4, _ => rfl
    | 5, _ => rfl
    | 6, _ => rfl
    | 7, _ => rfl
    | 8, _ => rfl
    | 9, _ => rfl
    | 10, _ => rfl
    | 11, _ => rfl
    | 12, _ => rfl
    | q + 13, hq => absurd hq (Nat.not_lt.mpr (Nat.le_add_left 13 q))) ?_
  refine jm_gen (fun Mz hz => ?_)
  have oz : Mz b = jdO 6 (fX6 b (fun _ => 0) 0) := by
    rw [hz]
    exact up_eq
  have f := fr_tr f (fr_up hz (Or.inl rfl))
  refine jr_vret (pc := 37) h hRt dX6_init_37 (Nat.le_of_ble_eq_true rfl) (Nat.le_of_ble_eq_true rfl) ?_
  have a1 : Mz (b + 1) = jdY 900 (fun _ => 0) := by
    rw [hz, up_ne (by omega)]
    rw [h8, up_ne (by omega)]
    rw [h7, up_ne (by omega)]
    rw [h6, up_ne (by omega)]
    rw [h5, up_ne (by omega)]
    rw [h4, up_ne (by omega)]
    rw [h3, up_ne (by omega)]
    rw [h2, up_ne (by omega)]
    rw [h1, up_eq]
  have a2 : Mz (b + 2) = jdL 16 (fun _ => 0) := by
    rw [hz, up_ne (by omega)]
    rw [h8, up_ne (by omega)]
    rw [h7, up_ne (by omega)]
    rw [h6, up_ne (by omega)]
    rw [h5, up_ne (by omega)]
    rw [h4, up_ne (by omega)]
    rw [h3, up_eq]
  have a3 : Mz (b + 3) = jdA 16 (fun _ => 0) := by
    rw [hz, up_ne (by omega)]
    rw [h8, up_ne (by omega)]
    rw [h7, up_ne (by omega)]
    rw [h6, up_ne (by omega)]
    rw [h5, up_eq]
  have a4 : Mz (b + 4) = jdA 16 (fun _ => 0) := by
    rw [hz, up_ne (by omega)]
    rw [h8, up_ne (by omega)]
    rw [h7, up_eq]
  refine ⟨⟨rfl, rfl⟩, ⟨by omega, oz, a1, a2, a3, a4⟩, f⟩
set_option maxHeartbeats 1000000 in
set_option maxRecDepth 20000 in
theorem s_X5_init {l : Launch} {n : Nat} {M : jdM} {b : Nat} (hb : b + 1 = n) (hN : n < 900000) (o0 : M b = jdO 5 (fun j => defaultValue (tyX5 j))) : Ct l yX5_init cX5_init 1 none rX5_init [.ref b] n M (fun vv n' M' => (vv = none ∧ n' = n + 11) ∧ Ti M' n' b (fun _ => 0) (fun _ => 0) (fun _ => 0) (fun _ _ => 0) (fun _ => 0) ∧ fr (fun k => k = b ∨ b < k) M M') := by
  refine Ct_of [some (.ref b)] (by decide) (Nat.le_of_ble_eq_true rfl) rfl (fun κ hl h hR hRt hmn hn0 => ?_)
  have h : Ok κ RX5 cX5_init 1 none := h
  subst hb
  have f : fr (fun k => k = b ∨ b < k) M M := fr_rf
  refine jr_aload_n (pc := 0) h dX5_init_0 rfl ?_
  refine io_X5_3 (pc := 1) h hR dX5_init_1 ⟨(Nat.le_of_ble_eq_true rfl), (Nat.le_of_ble_eq_true rfl)⟩ ?_
  refine jr_aload_n (pc := 4) h dX5_init_4 rfl ?_
  refine jr_bipush (pc := 5) h dX5_init_5 bp_6 ?_
  refine jr_newI (pc := 7) h hR 6 wm_52 dX5_init_7 rfl (by decide) ⟨(Nat.le_of_ble_eq_true rfl), (Nat.le_of_ble_eq_true rfl)⟩ (by omega) ?_
  refine jm_gen (fun M1 h1 => ?_)
  have o1 := (congrFun h1 b).trans ((up_ne (by omega)).trans o0)
  have f := fr_tr f (fr_up h1 (Or.inr (by omega)))
  refine pF_X5_9 (pc := 9) h hmn dX5_init_9 o1 (by omega) ?_
  refine jm_gen (fun M2 h2 => ?_)
  have o2 := (congrFun h2 b).trans up_eq
  have f := fr_tr f (fr_up h2 (Or.inl rfl))
  refine jr_aload_n (pc := 12) h dX5_init_12 rfl ?_
  refine jr_bipush (pc := 13) h dX5_init_13 bp_6 ?_
  refine jr_newI (pc := 15) h hR 6 wm_52 dX5_init_15 rfl (by decide) ⟨(Nat.le_of_ble_eq_true rfl), (Nat.le_of_ble_eq_true rfl)⟩ (by omega) ?_
  refine jm_gen (fun M3 h3 => ?_)
  have o3 := (congrFun h3 b).trans ((up_ne (by omega)).trans o2)
  have f := fr_tr f (fr_up h3 (Or.inr (by omega)))
  refine pF_X5_15 (pc := 17) h hmn dX5_init_17 o3 (by omega) ?_
  refine jm_gen (fun M4 h4 => ?_)
  have o4 := (congrFun h4 b).trans up_eq
  have f := fr_tr f (fr_up h4 (Or.inl rfl))
  refine jr_aload_n (pc := 20) h dX5_init_20 rfl ?_
  refine jr_bipush (pc := 21) h dX5_init_21 bp_7 ?_
  refine jr_bipush (pc := 23) h dX5_init_23 bp_100 ?_
  refine jr_mna (pc := 25) h hR 7 100 wm_86 wm_52 dX5_init_25 rfl rfl (by decide) (by decide) ⟨(Nat.le_of_ble_eq_true rfl), (Nat.le_of_ble_eq_true rfl)⟩ (by omega) ?_
  refine jm_gen (fun M5 h5 => ?_)
  have e5 : M5 b = M4 b := by
    rw [h5]
    unfold mnaM
    rw [if_neg (by omega), if_neg (by omega)]
  have o5 := e5.trans o4
  have f := fr_tr f (show fr (fun k => k = b ∨ b < k) M4 M5 from fun z hz => by
    have hz1 : ¬ (z = b ∨ b < z) := hz
    rw [h5]
    unfold mnaM
    rw [if_neg (by omega), if_neg (by omega)])
  refine pF_X5_20 (pc := 29) h hmn dX5_init_29 o5 (by omega) ?_
  refine jm_gen (fun M6 h6 => ?_)
  have o6 := (congrFun h6 b).trans up_eq
  have f := fr_tr f (fr_up h6 (Or.inl rfl))
  refine jr_aload_n (pc := 32) h dX5_init_32 rfl ?_
  refine jr_sipush (pc := 33) h dX5_init_33 sp_200 ?_
  refine jr_newI (pc := 36) h hR 200 wm_52 dX5_init_36 rfl (by decide) ⟨(Nat.le_of_ble_eq_true rfl), (Nat.le_of_ble_eq_true rfl)⟩ (by omega) ?_
  refine jm_gen (fun M7 h7 => ?_)
  have o7 := (congrFun h7 b).trans ((up_ne (by omega)).trans o6)
  have f := fr_tr f (fr_up h7 (Or.inr (by omega)))
  refine pF_X5_23 (pc := 38) h hmn dX5_init_38 o7 (by omega) ?_
  refine jm_gen (fun M8 h8 => ?_)
  have o8 := (congrFun h8 b).trans up_eq
  have f := fr_tr f (fr_up h8 (Or.inl rfl))
  refine jr_same (k := b) (F' := fX5 b (fun _ => 0)) o8 (fun j hj => match j, hj with
    | 0, _ => rfl
    | 1, _ => rfl
    | 2, _ => rfl
    | 3, _ => rfl
    | 4, _ => rfl
    | q + 5, hq => absurd hq (Nat.not_lt.mpr (Nat.le_add_left 5 q))) ?_
  refine jm_gen (fun Mz hz => ?_)
  have oz : Mz b = jdO 5 (fX5 b (fun _ => 0)) := by
    rw [hz]
    exact up_eq
  have f := fr_tr f (fr_up hz (Or.inl rfl))
  refine jr_vret (pc := 41) h hRt dX5_init_41 (Nat.le_of_ble_eq_true rfl) (Nat.le_of_ble_eq_true rfl) ?_
  have a1 : Mz (b + 1) = jdA 6 (fun _ => 0) := by
    rw [hz, up_ne (by omega)]
    rw [h8, up_ne (by omega)]
    rw [h7, up_ne (by omega)]
    rw [h6, up_ne (by omega)]
    rw [h5]
    unfold mnaM
    rw [if_neg (by omega), if_neg (by omega)]
    rw [h4, up_ne (by omega)]
    rw [h3, up_ne (by omega)]
    rw [h2, up_ne (by omega)]
    rw [h1, up_eq]
  have a2 : Mz (b + 2) = jdA 6 (fun _ => 0) := by
    rw [hz, up_ne (by omega)]
    rw [h8, up_ne (by omega)]
    rw [h7, up_ne (by omega)]
    rw [h6, up_ne (by omega)]
    rw [h5]
    unfold mnaM
    rw [if_neg (by omega), if_neg (by omega)]
    rw [h4, up_ne (by omega)]
    rw [h3, up_eq]
  have a3 : Mz (b + 3) = jdR 5 7 (fun i => if i < 7 then some (b + 4 + i) else none) := by
    rw [hz, up_ne (by omega)]
    rw [h8, up_ne (by omega)]
    rw [h7, up_ne (by omega)]
    rw [h6, up_ne (by omega)]
    rw [h5]
    exact if_pos rfl
  have a4 : ∀ i, i < 7 → Mz (b + 4 + i) = jdA 100 (fun _ => 0) := fun i hi => by
    rw [hz, up_ne (by omega)]
    rw [h8, up_ne (by omega)]
    rw [h7, up_ne (by omega)]
    rw [h6, up_ne (by omega)]
    rw [h5]
    unfold mnaM
    rw [if_neg (by omega), if_pos (by omega)]
  have a11 : Mz (b + 11) = jdA 200 (fun _ => 0) := by
    rw [hz, up_ne (by omega)]
    rw [h8, up_ne (by omega)]
    rw [h7, up_eq]
  refine ⟨⟨rfl, rfl⟩, ⟨by omega, oz, a1, a2, a3, a4, a11⟩, f⟩
