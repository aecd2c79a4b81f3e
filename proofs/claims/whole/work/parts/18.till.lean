/-! 18: Till: its cells, small methods -/
def fX5 (b : Nat) (g : Nat → Int) : Nat → Value
  | 0 => .ref (b + 1)
  | 1 => .ref (b + 2)
  | 2 => jI (g 2)
  | 3 => .ref (b + 3)
  | 4 => .ref (b + 11)
  | _ => .null
theorem fX5_2 {b : Nat} {g : Nat → Int} {x : Int} : up (fX5 b g) 2 (jI x) = fX5 b (up g 2 x) := by
  funext i
  match i with
  | 0 => rfl
  | 1 => rfl
  | 2 => rfl
  | 3 => rfl
  | 4 => rfl
  | i + 5 => rfl
def Ti (M : jdM) (n b : Nat) (g sk rt : Nat → Int) (fc : Nat → Nat → Int) (wf : Nat → Int) : Prop :=
  b + 12 ≤ n ∧ M b = jdO 5 (fX5 b g) ∧ M (b + 1) = jdA 6 sk ∧ M (b + 2) = jdA 6 rt ∧ M (b + 3) = jdR 5 7 (fun i => if i < 7 then some (b + 4 + i) else none) ∧ (∀ i, i < 7 → M (b + 4 + i) = jdA 100 (fc i)) ∧ M (b + 11) = jdA 200 wf
def TiS (b : Nat) : Nat → Prop := fun k => b ≤ k ∧ k ≤ b + 11
theorem Ti_fr {M M1 : jdM} {n n1 b : Nat} {g sk rt wf : Nat → Int} {fc : Nat → Nat → Int} {S : Nat → Prop} (h : Ti M n b g sk rt fc wf) (h1 : fr S M M1) (hn : n ≤ n1) (hs : ∀ k, b ≤ k → k ≤ b + 11 → ¬ S k) : Ti M1 n1 b g sk rt fc wf := by
  obtain ⟨a, q0, q1, q2, q3, q4, q5⟩ := h
  refine ⟨by omega, ?_, ?_, ?_, ?_, fun i hi => ?_, ?_⟩
  · rw [h1 _ (hs _ (by omega) (by omega))]; assumption
  · rw [h1 _ (hs _ (by omega) (by omega))]; assumption
  · rw [h1 _ (hs _ (by omega) (by omega))]; assumption
  · rw [h1 _ (hs _ (by omega) (by omega))]; assumption
  · rw [h1 _ (hs _ (by omega) (by omega))]; exact q4 i hi
  · rw [h1 _ (hs _ (by omega) (by omega))]; assumption
theorem Ti_sk {M M1 : jdM} {n b : Nat} {g sk rt wf sk' : Nat → Int} {fc : Nat → Nat → Int} (h : Ti M n b g sk rt fc wf) (h1 : M1 = up M (b + 1) (jdA 6 sk')) : Ti M1 n b g sk' rt fc wf := by
  obtain ⟨a, q0, q1, q2, q3, q4, q5⟩ := h
  subst h1
  refine ⟨a, ?_, up_eq, ?_, ?_, fun i hi => ?_, ?_⟩
  · rw [up_ne (by omega)]; assumption
  · rw [up_ne (by omega)]; assumption
  · rw [up_ne (by omega)]; assumption
  · rw [up_ne (by omega)]; exact q4 i hi
  · rw [up_ne (by omega)]; assumption
theorem Ti_rt {M M1 : jdM} {n b : Nat} {g sk rt wf rt' : Nat → Int} {fc : Nat → Nat → Int} (h : Ti M n b g sk rt fc wf) (h1 : M1 = up M (b + 2) (jdA 6 rt')) : Ti M1 n b g sk rt' fc wf := by
  obtain ⟨a, q0, q1, q2, q3, q4, q5⟩ := h
  subst h1
  refine ⟨a, ?_, ?_, up_eq, ?_, fun i hi => ?_, ?_⟩
  · rw [up_ne (by omega)]; assumption
  · rw [up_ne (by omega)]; assumption
  · rw [up_ne (by omega)]; assumption
  · rw [up_ne (by omega)]; exact q4 i hi
  · rw [up_ne (by omega)]; assumption
theorem Ti_wf {M M1 : jdM} {n b : Nat} {g sk rt wf wf' : Nat → Int} {fc : Nat → Nat → Int} (h : Ti M n b g sk rt fc wf) (h1 : M1 = up M (b + 11) (jdA 200 wf')) : Ti M1 n b g sk rt fc wf' := by
  obtain ⟨a, q0, q1, q2, q3, q4, q5⟩ := h
  subst h1
  refine ⟨a, ?_, ?_, ?_, ?_, fun i hi => ?_, up_eq⟩
  · rw [up_ne (by omega)]; assumption
  · rw [up_ne (by omega)]; assumption
  · rw [up_ne (by omega)]; assumption
  · rw [up_ne (by omega)]; assumption
  · rw [up_ne (by omega)]; exact q4 i hi
theorem Ti_fc {M M1 : jdM} {n b : Nat} {g sk rt wf r' : Nat → Int} {fc : Nat → Nat → Int} (i : Nat) (hi7 : i < 7) (h : Ti M n b g sk rt fc wf) (h1 : M1 = up M (b + 4 + i) (jdA 100 r')) : Ti M1 n b g sk rt (up fc i r') wf := by
  obtain ⟨a, q0, q1, q2, q3, q4, q5⟩ := h
  subst h1
  refine ⟨a, ?_, ?_, ?_, ?_, fun j hj => ?_, ?_⟩
  · rw [up_ne (by omega)]; assumption
  · rw [up_ne (by omega)]; assumption
  · rw [up_ne (by omega)]; assumption
  · rw [up_ne (by omega)]; assumption
  · by_cases q : j = i
    · rw [q, up_eq, up_eq]
    · rw [up_ne (by omega), up_ne q]; exact q4 j hj
  · rw [up_ne (by omega)]; assumption
theorem Ti_f2 {M M1 : jdM} {n b : Nat} {g sk rt wf : Nat → Int} {x : Int} {fc : Nat → Nat → Int} (h : Ti M n b g sk rt fc wf) (h1 : M1 = up M b (jdO 5 (up (fX5 b g) 2 (jI x)))) : Ti M1 n b (up g 2 x) sk rt fc wf := by
  obtain ⟨a, q0, q1, q2, q3, q4, q5⟩ := h
  rw [fX5_2] at h1
  subst h1
  refine ⟨a, up_eq, ?_, ?_, ?_, fun i hi => ?_, ?_⟩
  · rw [up_ne (by omega)]; assumption
  · rw [up_ne (by omega)]; assumption
  · rw [up_ne (by omega)]; assumption
  · rw [up_ne (by omega)]; exact q4 i hi
  · rw [up_ne (by omega)]; assumption
/-- the value of a coin by its number -/
def cv (i : Int) : Int := (jtab 2).2.2 i.toNat
theorem cv_r : ∀ j : Nat, j < 6 → 1 ≤ (jtab 2).2.2 j ∧ (jtab 2).2.2 j ≤ 50 := by decide
theorem cv_b {i : Int} (h : 0 ≤ i ∧ i < 6) : 1 ≤ cv i ∧ cv i ≤ 50 := cv_r i.toNat (by omega)
/-- the number of the first coin of a value, from i on -/
def coinR (v : Int) : Int → Nat → Int
  | _, 0 => -1
  | i, d + 1 => if cv i = v then i else coinR v (i + 1) d
def coinI (v : Int) : Int := coinR v 0 6
theorem coinR_r {v : Int} : ∀ {d : Nat} {i : Int}, 0 ≤ i → coinR v i d = -1 ∨ (i ≤ coinR v i d ∧ coinR v i d < i + d)
  | 0, i, _ => Or.inl rfl
  | d + 1, i, h => by
    rw [coinR]
    split
    · exact Or.inr ⟨Int.le_refl _, by omega⟩
    · rcases coinR_r (v := v) (d := d) (i := i + 1) (by omega) with q | q
      · exact Or.inl q
      · exact Or.inr ⟨by omega, by omega⟩
set_option maxHeartbeats 2000000 in
set_option maxRecDepth 20000 in
theorem s_X5_coinOf {l : Launch} {n : Nat} {M : jdM} {a : Int} (ha : -2147483648 ≤ a ∧ a < 2147483648) : Ct l yX5_coinOf cX5_coinOf 2 (some .int) rX5_coinOf [jI a] n M (fun vv n' M' => (vv = some (jI (coinI a)) ∧ n = n' ∧ M = M') ∧ (-1) ≤ (coinI a) ∧ (coinI a) ≤ 5) := by
  refine Ct_of [some (jI a), none] (by decide) (Nat.le_of_ble_eq_true rfl) rfl (fun κ hl h hR hRt hmn hn0 => ?_)
  have h : Ok κ RX5 cX5_coinOf 2 (some .int) := h
  have rc := coinR_r (v := a) (d := 6) (i := 0) (by omega)
  have loop : ∀ (dq : Nat) (i : Int), (0 ≤ i ∧ i ≤ 6) → (coinI a = coinR a i (6 - i).toNat) → (10 - i).toNat < dq → J κ 2 0 0 n 2 [some (jI a), some (jI i)] [] M := by
    intro dq
    induction dq with
    | zero => intro i hi hx hd; omega
    | succ dq ih =>
      intro i hi hx hd
      refine jr_iload_n (pc := 2) h dX5_coinOf_2 rfl ?_
      refine jr_bipush (pc := 3) h dX5_coinOf_3 bp_6 ?_
      refine jr_icmp_ge (pc := 5) h 25 dX5_coinOf_5 (by decide) (by omega) (by omega) (fun c_5 => ?_) (fun c_5 => ?_)
      · skip
        refine jr_iconst (pc := 25) h dX5_coinOf_25 ?_
        refine jr_iret (pc := 26) h hRt dX5_coinOf_26 rfl (Nat.le_of_ble_eq_true rfl) (Nat.le_of_ble_eq_true rfl) ?_
        refine ⟨⟨ji_c ?_, rfl, rfl⟩, by unfold coinI; omega⟩
        rw [hx, show (6 - i).toNat = 0 by omega, coinR]
      · skip
        refine jr_getsN (pc := 8) h (host := "TwoTrolleys") 2 (by decide) (by decide +kernel) dX5_coinOf_8 ?_
        refine jr_iload_n (pc := 11) h dX5_coinOf_11 rfl ?_
        refine jr_tabld (pc := 12) h 2 (by decide) dX5_coinOf_12 ⟨by omega, by show _ < ((6 : Nat) : Int); omega, by omega⟩ ?_
        have cb := cv_b (i := i) (by omega)
        change J κ 2 0 0 n (12 + 1) _ (jI (cv i) :: _) _
        refine jr_iload_n (pc := 13) h dX5_coinOf_13 rfl ?_
        refine jr_icmp_ne (pc := 14) h 19 dX5_coinOf_14 (by decide) (by omega) (by omega) (fun c_14 => ?_) (fun c_14 => ?_)
        · skip
          refine jr_iinc (pc := 19) h [_, _] dX5_coinOf_19 (by decide) rfl rfl ?_
          refine jr_goto (pc := 22) h 2 dX5_coinOf_22 (by decide) ?_
          refine ih _ (by omega) ?_ (by omega)
          rw [hx, show (6 - i).toNat = (6 - (i + 1)).toNat + 1 by omega, coinR, if_neg c_14]
        · skip
          refine jr_iload_n (pc := 17) h dX5_coinOf_17 rfl ?_
          refine jr_iret (pc := 18) h hRt dX5_coinOf_18 rfl (Nat.le_of_ble_eq_true rfl) (Nat.le_of_ble_eq_true rfl) ?_
          refine ⟨⟨ji_c ?_, rfl, rfl⟩, by unfold coinI; omega⟩
          rw [hx, show (6 - i).toNat = (6 - (i + 1)).toNat + 1 by omega, coinR, if_pos c_14]
  refine jr_iconst (pc := 0) h dX5_coinOf_0 ?_
  refine jr_istore_n (pc := 1) h [_, _] dX5_coinOf_1 (by decide) rfl ?_
  exact loop _ _ (by omega) rfl (Nat.lt_succ_self _)
set_option maxHeartbeats 1000000 in
set_option maxRecDepth 20000 in
theorem s_X5_isCoin {l : Launch} {n : Nat} {M : jdM} {a : Int} (ha : -2147483648 ≤ a ∧ a < 2147483648) : Ct l yX5_isCoin cX5_isCoin 1 (some .boolean) rX5_isCoin [jI a] n M (fun vv n' M' => (vv = some (jI (bz (0 ≤ a ∧ a < 6))) ∧ n = n' ∧ M = M') ∧ (0) ≤ (bz (0 ≤ a ∧ a < 6)) ∧ (bz (0 ≤ a ∧ a < 6)) ≤ 1) := by
  refine Ct_of [some (jI a)] (by decide) (Nat.le_of_ble_eq_true rfl) rfl (fun κ hl h hR hRt hmn hn0 => ?_)
  have h : Ok κ RX5 cX5_isCoin 1 (some .boolean) := h
  refine jr_iload_n (pc := 0) h dX5_isCoin_0 rfl ?_
  refine jr_if_lt (pc := 1) h 14 dX5_isCoin_1 (by decide) (by omega) (fun c_1 => ?_) (fun c_1 => ?_)
  · skip
    refine jr_iconst (pc := 14) h dX5_isCoin_14 ?_
    refine jr_iret (pc := 15) h hRt dX5_isCoin_15 rfl (Nat.le_of_ble_eq_true rfl) (Nat.le_of_ble_eq_true rfl) ?_
    refine ⟨⟨ji_c ?_, rfl, rfl⟩, bz_r _⟩
    first | rw [bz_t (by omega)] | rw [bz_f (by omega)]
  · skip
    refine jr_iload_n (pc := 4) h dX5_isCoin_4 rfl ?_
    refine jr_bipush (pc := 5) h dX5_isCoin_5 bp_6 ?_
    refine jr_icmp_ge (pc := 7) h 14 dX5_isCoin_7 (by decide) (by omega) (by omega) (fun c_7 => ?_) (fun c_7 => ?_)
    · skip
      refine jr_iconst (pc := 14) h dX5_isCoin_14 ?_
      refine jr_iret (pc := 15) h hRt dX5_isCoin_15 rfl (Nat.le_of_ble_eq_true rfl) (Nat.le_of_ble_eq_true rfl) ?_
      refine ⟨⟨ji_c ?_, rfl, rfl⟩, bz_r _⟩
      first | rw [bz_t (by omega)] | rw [bz_f (by omega)]
    · skip
      refine jr_iconst (pc := 10) h dX5_isCoin_10 ?_
      refine jr_goto (pc := 11) h 15 dX5_isCoin_11 (by decide) ?_
      refine jr_iret (pc := 15) h hRt dX5_isCoin_15 rfl (Nat.le_of_ble_eq_true rfl) (Nat.le_of_ble_eq_true rfl) ?_
      refine ⟨⟨ji_c ?_, rfl, rfl⟩, bz_r _⟩
      first | rw [bz_t (by omega)] | rw [bz_f (by omega)]
set_option maxHeartbeats 1000000 in
set_option maxRecDepth 20000 in
theorem s_X5_fill {l : Launch} {n : Nat} {M : jdM} {b : Nat} {g sk rt wf : Nat → Int} {fc : Nat → Nat → Int} (hTi : Ti M n b g sk rt fc wf) {a x : Int} (ha : 0 ≤ a ∧ a < 6) (hx : -2147483648 ≤ x ∧ x < 2147483648) : Ct l yX5_fill cX5_fill 3 none rX5_fill [.ref b, jI a, jI x] n M (fun vv n' M' => vv = none ∧ n = n' ∧ Ti M' n b g (up sk a.toNat x) rt fc wf ∧ fr (TiS b) M M') := by
  refine Ct_of [some (.ref b), some (jI a), some (jI x)] (by decide) (Nat.le_of_ble_eq_true rfl) rfl (fun κ hl h hR hRt hmn hn0 => ?_)
  have h : Ok κ RX5 cX5_fill 3 none := h
  obtain ⟨hnb, hOb, hSb, hRb, hFb, hGb, hWb⟩ := id hTi
  refine jr_iload_n (pc := 0) h dX5_fill_0 rfl ?_
  refine iv_X5_29 (pc := 1) h hl hR dX5_fill_1 ⟨(Nat.le_of_ble_eq_true rfl), (Nat.le_of_ble_eq_true rfl), (Nat.le_of_ble_eq_true rfl), (Nat.le_of_ble_eq_true rfl)⟩ (Nat.le_of_ble_eq_true rfl) (s_X5_isCoin (by omega)) (fun v_1 n_1 M_1 hn_1 hp => ?_)
  obtain ⟨⟨rfl, rfl, rfl⟩, gr_c⟩ := hp
  have bc := bz_0 (P := 0 ≤ a ∧ a < 6)
  refine jr_if_eq (pc := 4) h 14 dX5_fill_4 (by decide) (by omega) (fun c_4 => ?_) (fun c_4 => ?_)
  · skip
    refine jr_vret (pc := 14) h hRt dX5_fill_14 (Nat.le_of_ble_eq_true rfl) (Nat.le_of_ble_eq_true rfl) ?_
    first
      | exact ⟨rfl, rfl, Ti_sk hTi rfl, fr_up rfl ⟨by omega, by omega⟩⟩
      | (exfalso; omega)
  · skip
    refine jr_aload_n (pc := 7) h dX5_fill_7 rfl ?_
    refine gf_X5_9 (pc := 8) h dX5_fill_8 (by assumption) (by omega) ?_
    refine jr_iload_n (pc := 11) h dX5_fill_11 rfl ?_
    refine jr_iload_n (pc := 12) h dX5_fill_12 rfl ?_
    refine jr_iast (pc := 13) h dX5_fill_13 (by assumption) (by omega) (by omega) ?_
    refine jr_vret (pc := 14) h hRt dX5_fill_14 (Nat.le_of_ble_eq_true rfl) (Nat.le_of_ble_eq_true rfl) ?_
    first
      | exact ⟨rfl, rfl, Ti_sk hTi rfl, fr_up rfl ⟨by omega, by omega⟩⟩
      | (exfalso; omega)
set_option maxHeartbeats 1000000 in
set_option maxRecDepth 20000 in
theorem s_X5_isFullOf {l : Launch} {n : Nat} {M : jdM} {b : Nat} {g sk rt wf : Nat → Int} {fc : Nat → Nat → Int} (hTi : Ti M n b g sk rt fc wf) {a : Int} (ha : -2147483648 ≤ a ∧ a < 2147483648) (hsk : ∀ j : Nat, 0 ≤ sk j ∧ sk j ≤ 100000) : Ct l yX5_isFullOf cX5_isFullOf 2 (some .boolean) rX5_isFullOf [.ref b, jI a] n M (fun vv n' M' => (vv = some (jI (bz (0 ≤ a ∧ a < 6 ∧ 99 ≤ sk a.toNat))) ∧ n = n' ∧ M = M') ∧ (0) ≤ (bz (0 ≤ a ∧ a < 6 ∧ 99 ≤ sk a.toNat)) ∧ (bz (0 ≤ a ∧ a < 6 ∧ 99 ≤ sk a.toNat)) ≤ 1) := by
  refine Ct_of [some (.ref b), some (jI a)] (by decide) (Nat.le_of_ble_eq_true rfl) rfl (fun κ hl h hR hRt hmn hn0 => ?_)
  have h : Ok κ RX5 cX5_isFullOf 2 (some .boolean) := h
  obtain ⟨hnb, hOb, hSb, hRb, hFb, hGb, hWb⟩ := id hTi
  have sa := hsk a.toNat
  refine jr_iload_n (pc := 0) h dX5_isFullOf_0 rfl ?_
  refine iv_X5_29 (pc := 1) h hl hR dX5_isFullOf_1 ⟨(Nat.le_of_ble_eq_true rfl), (Nat.le_of_ble_eq_true rfl), (Nat.le_of_ble_eq_true rfl), (Nat.le_of_ble_eq_true rfl)⟩ (Nat.le_of_ble_eq_true rfl) (s_X5_isCoin (by omega)) (fun v_1 n_1 M_1 hn_1 hp => ?_)
  obtain ⟨⟨rfl, rfl, rfl⟩, gr_c⟩ := hp
  have bc := bz_0 (P := 0 ≤ a ∧ a < 6)
  refine jr_if_eq (pc := 4) h 22 dX5_isFullOf_4 (by decide) (by omega) (fun c_4 => ?_) (fun c_4 => ?_)
  · skip
    refine jr_iconst (pc := 22) h dX5_isFullOf_22 ?_
    refine jr_iret (pc := 23) h hRt dX5_isFullOf_23 rfl (Nat.le_of_ble_eq_true rfl) (Nat.le_of_ble_eq_true rfl) ?_
    refine ⟨⟨ji_c ?_, rfl, rfl⟩, bz_r _⟩
    first | rw [bz_t (by omega)] | rw [bz_f (by omega)]
  · skip
    refine jr_aload_n (pc := 7) h dX5_isFullOf_7 rfl ?_
    refine gf_X5_9 (pc := 8) h dX5_isFullOf_8 (by assumption) (by omega) ?_
    refine jr_iload_n (pc := 11) h dX5_isFullOf_11 rfl ?_
    refine jr_iald (pc := 12) h dX5_isFullOf_12 (by assumption) (by omega) (by omega) ?_
    refine jr_bipush (pc := 13) h dX5_isFullOf_13 bp_99 ?_
    refine jr_icmp_lt (pc := 15) h 22 dX5_isFullOf_15 (by decide) (by omega) (by omega) (fun c_15 => ?_) (fun c_15 => ?_)
    · skip
      refine jr_iconst (pc := 22) h dX5_isFullOf_22 ?_
      refine jr_iret (pc := 23) h hRt dX5_isFullOf_23 rfl (Nat.le_of_ble_eq_true rfl) (Nat.le_of_ble_eq_true rfl) ?_
      refine ⟨⟨ji_c ?_, rfl, rfl⟩, bz_r _⟩
      first | rw [bz_t (by omega)] | rw [bz_f (by omega)]
    · skip
      refine jr_iconst (pc := 18) h dX5_isFullOf_18 ?_
      refine jr_goto (pc := 19) h 23 dX5_isFullOf_19 (by decide) ?_
      refine jr_iret (pc := 23) h hRt dX5_isFullOf_23 rfl (Nat.le_of_ble_eq_true rfl) (Nat.le_of_ble_eq_true rfl) ?_
      refine ⟨⟨ji_c ?_, rfl, rfl⟩, bz_r _⟩
      first | rw [bz_t (by omega)] | rw [bz_f (by omega)]
set_option maxHeartbeats 1000000 in
set_option maxRecDepth 20000 in
theorem s_X5_take {l : Launch} {n : Nat} {M : jdM} {b : Nat} {g sk rt wf : Nat → Int} {fc : Nat → Nat → Int} (hTi : Ti M n b g sk rt fc wf) {a : Int} (ha : -2147483648 ≤ a ∧ a < 2147483648) : Ct l yX5_take cX5_take 2 none rX5_take [.ref b, jI a] n M (fun vv n' M' => vv = none ∧ n = n' ∧ Ti M' n b (if 0 ≤ a ∧ a < 6 then g else up g 2 (g 2 + 1)) (if 0 ≤ a ∧ a < 6 then up sk a.toNat (sk a.toNat + 1) else sk) rt fc wf ∧ fr (TiS b) M M') := by
  refine Ct_of [some (.ref b), some (jI a)] (by decide) (Nat.le_of_ble_eq_true rfl) rfl (fun κ hl h hR hRt hmn hn0 => ?_)
  have h : Ok κ RX5 cX5_take 2 none := h
  obtain ⟨hnb, hOb, hSb, hRb, hFb, hGb, hWb⟩ := id hTi
  refine jr_iload_n (pc := 0) h dX5_take_0 rfl ?_
  refine iv_X5_29 (pc := 1) h hl hR dX5_take_1 ⟨(Nat.le_of_ble_eq_true rfl), (Nat.le_of_ble_eq_true rfl), (Nat.le_of_ble_eq_true rfl), (Nat.le_of_ble_eq_true rfl)⟩ (Nat.le_of_ble_eq_true rfl) (s_X5_isCoin (by omega)) (fun v_1 n_1 M_1 hn_1 hp => ?_)
  obtain ⟨⟨rfl, rfl, rfl⟩, gr_c⟩ := hp
  have bc := bz_0 (P := 0 ≤ a ∧ a < 6)
  refine jr_if_eq (pc := 4) h 20 dX5_take_4 (by decide) (by omega) (fun c_4 => ?_) (fun c_4 => ?_)
  · skip
    refine jr_aload_n (pc := 20) h dX5_take_20 rfl ?_
    refine jr_dup (pc := 21) h dX5_take_21 rfl ?_
    refine gf_X5_33 (pc := 22) h dX5_take_22 (by assumption) (by omega) ?_
    refine jr_iconst (pc := 25) h dX5_take_25 ?_
    refine jr_iadd (pc := 26) h dX5_take_26 ?_
    refine pf_X5_33 (pc := 27) h dX5_take_27 (by assumption) (by omega) ?_
    refine jr_vret (pc := 30) h hRt dX5_take_30 (Nat.le_of_ble_eq_true rfl) (Nat.le_of_ble_eq_true rfl) ?_
    refine ⟨rfl, rfl, ?_, fr_up rfl ⟨by omega, by omega⟩⟩
    first
      | (rw [if_pos (by omega), if_pos (by omega)]; exact Ti_sk hTi rfl)
      | (rw [if_neg (by omega), if_neg (by omega)]; exact Ti_f2 hTi rfl)
  · skip
    refine jr_aload_n (pc := 7) h dX5_take_7 rfl ?_
    refine gf_X5_9 (pc := 8) h dX5_take_8 (by assumption) (by omega) ?_
    refine jr_iload_n (pc := 11) h dX5_take_11 rfl ?_
    refine jr_dup2 (pc := 12) h dX5_take_12 rfl rfl ?_
    refine jr_iald (pc := 13) h dX5_take_13 (by assumption) (by omega) (by omega) ?_
    refine jr_iconst (pc := 14) h dX5_take_14 ?_
    refine jr_iadd (pc := 15) h dX5_take_15 ?_
    refine jr_iast (pc := 16) h dX5_take_16 (by assumption) (by omega) (by omega) ?_
    refine jr_goto (pc := 17) h 30 dX5_take_17 (by decide) ?_
    refine jr_vret (pc := 30) h hRt dX5_take_30 (Nat.le_of_ble_eq_true rfl) (Nat.le_of_ble_eq_true rfl) ?_
    refine ⟨rfl, rfl, ?_, fr_up rfl ⟨by omega, by omega⟩⟩
    first
      | (rw [if_pos (by omega), if_pos (by omega)]; exact Ti_sk hTi rfl)
      | (rw [if_neg (by omega), if_neg (by omega)]; exact Ti_f2 hTi rfl)
set_option maxHeartbeats 1000000 in
set_option maxRecDepth 20000 in
theorem s_X5_notes {l : Launch} {n : Nat} {M : jdM} {b : Nat} {g sk rt wf : Nat → Int} {fc : Nat → Nat → Int} (hTi : Ti M n b g sk rt fc wf) : Ct l yX5_notes cX5_notes 1 (some .int) rX5_notes [.ref b] n M (fun vv n' M' => vv = some (jI (g 2)) ∧ n = n' ∧ M = M') := by
  refine Ct_of [some (.ref b)] (by decide) (Nat.le_of_ble_eq_true rfl) rfl (fun κ hl h hR hRt hmn hn0 => ?_)
  have h : Ok κ RX5 cX5_notes 1 (some .int) := h
  obtain ⟨hnb, hOb, hSb, hRb, hFb, hGb, hWb⟩ := id hTi
  refine jr_aload_n (pc := 0) h dX5_notes_0 rfl ?_
  refine gf_X5_33 (pc := 1) h dX5_notes_1 (by assumption) (by omega) ?_
  refine jr_iret (pc := 4) h hRt dX5_notes_4 rfl (Nat.le_of_ble_eq_true rfl) (Nat.le_of_ble_eq_true rfl) ?_
  exact ⟨rfl, rfl, rfl⟩
set_option maxHeartbeats 1000000 in
set_option maxRecDepth 20000 in
theorem s_X5_givenOf {l : Launch} {n : Nat} {M : jdM} {b : Nat} {g sk rt wf : Nat → Int} {fc : Nat → Nat → Int} (hTi : Ti M n b g sk rt fc wf) {a : Int} (ha : -2147483648 ≤ a ∧ a < 2147483648) : Ct l yX5_givenOf cX5_givenOf 2 (some .int) rX5_givenOf [.ref b, jI a] n M (fun vv n' M' => vv = some (jI (if 0 ≤ a ∧ a < 6 then rt a.toNat else 0)) ∧ n = n' ∧ M = M') := by
  refine Ct_of [some (.ref b), some (jI a)] (by decide) (Nat.le_of_ble_eq_true rfl) rfl (fun κ hl h hR hRt hmn hn0 => ?_)
  have h : Ok κ RX5 cX5_givenOf 2 (some .int) := h
  obtain ⟨hnb, hOb, hSb, hRb, hFb, hGb, hWb⟩ := id hTi
  refine jr_iload_n (pc := 0) h dX5_givenOf_0 rfl ?_
  refine iv_X5_29 (pc := 1) h hl hR dX5_givenOf_1 ⟨(Nat.le_of_ble_eq_true rfl), (Nat.le_of_ble_eq_true rfl), (Nat.le_of_ble_eq_true rfl), (Nat.le_of_ble_eq_true rfl)⟩ (Nat.le_of_ble_eq_true rfl) (s_X5_isCoin (by omega)) (fun v_1 n_1 M_1 hn_1 hp => ?_)
  obtain ⟨⟨rfl, rfl, rfl⟩, gr_c⟩ := hp
  have bc := bz_0 (P := 0 ≤ a ∧ a < 6)
  refine jr_if_eq (pc := 4) h 16 dX5_givenOf_4 (by decide) (by omega) (fun c_4 => ?_) (fun c_4 => ?_)
  · skip
    refine jr_iconst (pc := 16) h dX5_givenOf_16 ?_
    refine jr_iret (pc := 17) h hRt dX5_givenOf_17 rfl (Nat.le_of_ble_eq_true rfl) (Nat.le_of_ble_eq_true rfl) ?_
    refine ⟨ji_c ?_, rfl, rfl⟩
    first | rw [if_pos (by omega)] | rw [if_neg (by omega)]
  · skip
    refine jr_aload_n (pc := 7) h dX5_givenOf_7 rfl ?_
    refine gf_X5_15 (pc := 8) h dX5_givenOf_8 (by assumption) (by omega) ?_
    refine jr_iload_n (pc := 11) h dX5_givenOf_11 rfl ?_
    refine jr_iald (pc := 12) h dX5_givenOf_12 (by assumption) (by omega) (by omega) ?_
    refine jr_goto (pc := 13) h 17 dX5_givenOf_13 (by decide) ?_
    refine jr_iret (pc := 17) h hRt dX5_givenOf_17 rfl (Nat.le_of_ble_eq_true rfl) (Nat.le_of_ble_eq_true rfl) ?_
    refine ⟨ji_c ?_, rfl, rfl⟩
    first | rw [if_pos (by omega)] | rw [if_neg (by omega)]
set_option maxHeartbeats 2000000 in
set_option maxRecDepth 20000 in
theorem s_X5_worth {l : Launch} {n : Nat} {M : jdM} {b : Nat} {g sk rt wf : Nat → Int} {fc : Nat → Nat → Int} (hTi : Ti M n b g sk rt fc wf) : Ct l yX5_worth cX5_worth 3 (some .int) rX5_worth [.ref b] n M (fun vv n' M' => vv = some (jI (sumZ (fun i => cv i * sk i.toNat) 6)) ∧ n = n' ∧ M = M') := by
  refine Ct_of [some (.ref b), none, none] (by decide) (Nat.le_of_ble_eq_true rfl) rfl (fun κ hl h hR hRt hmn hn0 => ?_)
  have h : Ok κ RX5 cX5_worth 3 (some .int) := h
  obtain ⟨hnb, hOb, hSb, hRb, hFb, hGb, hWb⟩ := id hTi
  have loop : ∀ (dq : Nat) (x i : Int), (0 ≤ i ∧ i ≤ 6) → (x = sumZ (fun i => cv i * sk i.toNat) i.toNat) → (10 - i).toNat < dq → J κ 3 0 0 n 4 [some (.ref b), some (jI x), some (jI i)] [] M := by
    intro dq
    induction dq with
    | zero => intro x i hi hx hd; omega
    | succ dq ih =>
      intro x i hi hx hd
      refine jr_iload_n (pc := 4) h dX5_worth_4 rfl ?_
      refine jr_bipush (pc := 5) h dX5_worth_5 bp_6 ?_
      refine jr_icmp_ge (pc := 7) h 31 dX5_worth_7 (by decide) (by omega) (by omega) (fun c_7 => ?_) (fun c_7 => ?_)
      · skip
        refine jr_iload_n (pc := 31) h dX5_worth_31 rfl ?_
        refine jr_iret (pc := 32) h hRt dX5_worth_32 rfl (Nat.le_of_ble_eq_true rfl) (Nat.le_of_ble_eq_true rfl) ?_
        have e : i = 6 := by omega
        subst e
        exact ⟨ji_c hx, rfl, rfl⟩
      · skip
        refine jr_iload_n (pc := 10) h dX5_worth_10 rfl ?_
        refine jr_getsN (pc := 11) h (host := "TwoTrolleys") 2 (by decide) (by decide +kernel) dX5_worth_11 ?_
        refine jr_iload_n (pc := 14) h dX5_worth_14 rfl ?_
        refine jr_tabld (pc := 15) h 2 (by decide) dX5_worth_15 ⟨by omega, by show _ < ((6 : Nat) : Int); omega, by omega⟩ ?_
        refine jr_aload_n (pc := 16) h dX5_worth_16 rfl ?_
        refine gf_X5_9 (pc := 17) h dX5_worth_17 (by assumption) (by omega) ?_
        refine jr_iload_n (pc := 20) h dX5_worth_20 rfl ?_
        refine jr_iald (pc := 21) h dX5_worth_21 (by assumption) (by omega) (by omega) ?_
        refine jr_imul (pc := 22) h dX5_worth_22 ?_
        refine jr_iadd (pc := 23) h dX5_worth_23 ?_
        refine jr_istore_n (pc := 24) h [_, _, _] dX5_worth_24 (by decide) rfl ?_
        refine jr_iinc (pc := 25) h [_, _, _] dX5_worth_25 (by decide) rfl rfl ?_
        refine jr_goto (pc := 28) h 4 dX5_worth_28 (by decide) ?_
        refine ih _ _ (by omega) ?_ (by omega)
        rw [sumZ_s (by omega), hx]; rfl
  refine jr_iconst (pc := 0) h dX5_worth_0 ?_
  refine jr_istore_n (pc := 1) h [_, _, _] dX5_worth_1 (by decide) rfl ?_
  refine jr_iconst (pc := 2) h dX5_worth_2 ?_
  refine jr_istore_n (pc := 3) h [_, _, _] dX5_worth_3 (by decide) rfl ?_
  exact loop _ _ _ (by omega) rfl (Nat.lt_succ_self _)
set_option maxHeartbeats 1000000 in
set_option maxRecDepth 20000 in
theorem s_X5_most {l : Launch} {n : Nat} {M : jdM} {b : Nat} {g sk rt wf : Nat → Int} {fc : Nat → Nat → Int} (hTi : Ti M n b g sk rt fc wf) {a x : Int} (ha : 0 ≤ a ∧ a < 6) (hx : 0 ≤ x ∧ x ≤ 1000) (hsk : ∀ j : Nat, 0 ≤ sk j ∧ sk j ≤ 100000) : Ct l yX5_most cX5_most 3 (some .int) rX5_most [.ref b, jI a, jI x] n M (fun vv n' M' => (vv = some (jI (min (sk a.toNat) (x / cv a))) ∧ n = n' ∧ M = M') ∧ (0) ≤ (min (sk a.toNat) (x / cv a)) ∧ (min (sk a.toNat) (x / cv a)) ≤ 1000) := by
  refine Ct_of [some (.ref b), some (jI a), some (jI x)] (by decide) (Nat.le_of_ble_eq_true rfl) rfl (fun κ hl h hR hRt hmn hn0 => ?_)
  have h : Ok κ RX5 cX5_most 3 (some .int) := h
  obtain ⟨hnb, hOb, hSb, hRb, hFb, hGb, hWb⟩ := id hTi
  have sa := hsk a.toNat
  have cb := cv_b ha
  have d1 := Int.ediv_nonneg (a := x) (b := cv a) (by omega) (by omega)
  have d2 := Int.ediv_le_self (a := x) (cv a) (by omega)
  refine jr_aload_n (pc := 0) h dX5_most_0 rfl ?_
  refine gf_X5_9 (pc := 1) h dX5_most_1 (by assumption) (by omega) ?_
  refine jr_iload_n (pc := 4) h dX5_most_4 rfl ?_
  refine jr_iald (pc := 5) h dX5_most_5 (by assumption) (by omega) (by omega) ?_
  refine jr_iload_n (pc := 6) h dX5_most_6 rfl ?_
  refine jr_getsN (pc := 7) h (host := "TwoTrolleys") 2 (by decide) (by decide +kernel) dX5_most_7 ?_
  refine jr_iload_n (pc := 10) h dX5_most_10 rfl ?_
  refine jr_tabld (pc := 11) h 2 (by decide) dX5_most_11 ⟨by omega, by show _ < ((6 : Nat) : Int); omega, by omega⟩ ?_
  change J κ 3 0 0 n (11 + 1) _ (jI (cv a) :: _) _
  refine jr_idivp (pc := 12) h dX5_most_12 (by omega) (by omega) ?_
  refine im_X5_45 (pc := 13) h hR dX5_most_13 ⟨(Nat.le_of_ble_eq_true rfl), (Nat.le_of_ble_eq_true rfl), (Nat.le_of_ble_eq_true rfl), (Nat.le_of_ble_eq_true rfl)⟩ (by omega) (by omega) ?_
  refine jr_iret (pc := 16) h hRt dX5_most_16 rfl (Nat.le_of_ble_eq_true rfl) (Nat.le_of_ble_eq_true rfl) ?_
  exact ⟨⟨rfl, rfl, rfl⟩, by omega⟩
