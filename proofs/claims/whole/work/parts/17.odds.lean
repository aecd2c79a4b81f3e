/-! 17: Odds -/
def ad1 (W : Nat → Int) (w o : Int) : Nat → Int := fun m => if m = 0 then W 0 * o else if m ≤ 10 then W m * o + W (m - 1) * w else W m
def c_wab (W : Nat → Int) (m : Int) : Int := sumZ (fun i => if m < i then W i.toNat else 0) 11
def fewR (W : Nat → Int) (p : Int) : Int → Nat → Int
  | i, 0 => i
  | i, d + 1 => if c_wab W (-1) * p < c_wab W i * 100 then fewR W p (i + 1) d else i
theorem fewR_t {W : Nat → Int} {p i : Int} (h : i < 10) (hp : c_wab W (-1) * p < c_wab W i * 100) : fewR W p i (10 - i).toNat = fewR W p (i + 1) (10 - (i + 1)).toNat := by
  rw [show (10 - i).toNat = (10 - (i + 1)).toNat + 1 by omega, fewR, if_pos hp]
theorem fewR_f {W : Nat → Int} {p i : Int} (h : i < 10) (hp : ¬ c_wab W (-1) * p < c_wab W i * 100) : fewR W p i (10 - i).toNat = i := by
  rw [show (10 - i).toNat = (10 - (i + 1)).toNat + 1 by omega, fewR, if_neg hp]
theorem fewR_r {W : Nat → Int} {p : Int} : ∀ {d : Nat} {i : Int}, i ≤ fewR W p i d ∧ fewR W p i d ≤ i + d
  | 0, i => by simp [fewR]
  | d + 1, i => by
    rw [fewR]
    have := fewR_r (W := W) (p := p) (d := d) (i := i + 1)
    split <;> omega
def c_unn (ct td si : Nat → Int) (r : Int) : Int := c_sit si r - c_named ct td r
def c_oth (ct td bk : Nat → Int) (k r : Int) : Int := c_weights td bk r - c_win td (c_blk bk r) k
/-- the ways, after the ROWS 1 .. e -/
def c_wgh (ct td bk si : Nat → Int) (k : Int) (e : Nat) : Nat → Int := foldS (fun W r => foldS (fun W _ => ad1 W (c_win td (c_blk bk (1 + r)) k) (c_oth ct td bk k (1 + r))) W (c_unn ct td si (1 + r)).toNat) (fun m => if m = 0 then 1 else 0) e
def c_ahead (ct td si : Nat → Int) (e : Nat) : Int := sumZ (fun r => c_unn ct td si (1 + r)) e
/-- the arrays agree on the eleven places -/
def agw (a b : Nat → Int) : Prop := ∀ j : Nat, j < 11 → a j = b j
theorem ad1_agw {a b : Nat → Int} {w o : Int} (h : agw a b) : agw (ad1 a w o) (ad1 b w o) := by
  intro j hj
  unfold ad1
  split
  · rw [h 0 (by omega)]
  · split
    · rw [h j hj, h (j - 1) (by omega)]
    · exact h j hj
theorem c_wab_agw {a b : Nat → Int} (h : agw a b) (m : Int) : c_wab a m = c_wab b m := by
  unfold c_wab
  exact sumZ_cong (fun i h1 h2 => by rw [h i.toNat (by omega)])
set_option maxHeartbeats 1000000 in
set_option maxRecDepth 20000 in
theorem s_X2_addOne {l : Launch} {n : Nat} {M : jdM} {q : Nat} {g ww : Nat → Int} (hOd : Od M n q g ww) {a b : Int} (ha : -2147483648 ≤ a ∧ a < 2147483648) (hb : -2147483648 ≤ b ∧ b < 2147483648) : Ct l yX2_addOne cX2_addOne 4 none rX2_addOne [.ref q, jI a, jI b] n M (fun vv n' M' => vv = none ∧ n = n' ∧ Od M' n q g (ad1 ww a b) ∧ fr (OdS q) M M') := by
  refine Ct_of [some (.ref q), some (jI a), some (jI b), none] (by decide) (Nat.le_of_ble_eq_true rfl) rfl (fun κ hl h hR hRt hmn hn0 => ?_)
  have h : Ok κ RX2 cX2_addOne 4 none := h
  obtain ⟨hnq, hOq, hAq⟩ := id hOd
  have loop : ∀ (dq : Nat) (i : Int) (M1 : jdM), (0 ≤ i ∧ i ≤ 10) → (Od M1 n q g (fun m : Nat => if i < (m : Int) ∧ m ≤ 10 then ww m * b + ww (m - 1) * a else ww m)) → (fr (OdS q) M M1) → (i).toNat < dq → J κ 4 0 0 n 3 [some (.ref q), some (jI a), some (jI b), some (jI i)] [] M1 := by
    intro dq
    induction dq with
    | zero => intro i M1 hi hO1 hf1 hd; omega
    | succ dq ih =>
      intro i M1 hi hO1 hf1 hd
      obtain ⟨hnq, hOq, hAq⟩ := id hO1
      refine jr_iload_n (pc := 3) h dX2_addOne_3 rfl ?_
      refine jr_if_le (pc := 4) h 40 dX2_addOne_4 (by decide) (by omega) (fun c_4 => ?_) (fun c_4 => ?_)
      · skip
        refine jr_aload_n (pc := 40) h dX2_addOne_40 rfl ?_
        refine gf_X2_11 (pc := 41) h dX2_addOne_41 (by assumption) (by omega) ?_
        refine jr_iconst (pc := 44) h dX2_addOne_44 ?_
        refine jr_dup2 (pc := 45) h dX2_addOne_45 rfl rfl ?_
        refine jr_lald (pc := 46) h dX2_addOne_46 (by assumption) (by omega) (by omega) ?_
        refine jr_iload_n (pc := 47) h dX2_addOne_47 rfl ?_
        refine jr_i2l (pc := 48) h dX2_addOne_48 (by omega) ?_
        refine jr_lmul (pc := 49) h dX2_addOne_49 ?_
        refine jr_last (pc := 50) h dX2_addOne_50 (by assumption) (by omega) (by omega) ?_
        refine jr_vret (pc := 51) h hRt dX2_addOne_51 (Nat.le_of_ble_eq_true rfl) (Nat.le_of_ble_eq_true rfl) ?_
        have e0 : i = 0 := by omega
        subst e0
        refine ⟨rfl, rfl, Od_ww hO1 ?_, fr_tr hf1 (fr_up rfl ⟨by omega, by omega⟩)⟩
        refine congrArg (fun z => up M1 (q + 1) (jdL 11 z)) (funext fun m => ?_)
        unfold ad1
        by_cases hm : m = 0
        · rw [hm, if_pos rfl]; refine Eq.trans up_eq ?_; rw [if_neg (by omega)]; rfl
        · rw [if_neg hm]; refine Eq.trans (up_ne hm) ?_
          by_cases h2 : m ≤ 10
          · rw [if_pos h2, if_pos (by omega)]
          · rw [if_neg h2, if_neg (by omega)]
      · skip
        refine jr_aload_n (pc := 7) h dX2_addOne_7 rfl ?_
        refine gf_X2_11 (pc := 8) h dX2_addOne_8 (by assumption) (by omega) ?_
        refine jr_iload_n (pc := 11) h dX2_addOne_11 rfl ?_
        refine jr_aload_n (pc := 12) h dX2_addOne_12 rfl ?_
        refine gf_X2_11 (pc := 13) h dX2_addOne_13 (by assumption) (by omega) ?_
        refine jr_iload_n (pc := 16) h dX2_addOne_16 rfl ?_
        refine jr_lald (pc := 17) h dX2_addOne_17 (by assumption) (by omega) (by omega) ?_
        refine jr_iload_n (pc := 18) h dX2_addOne_18 rfl ?_
        refine jr_i2l (pc := 19) h dX2_addOne_19 (by omega) ?_
        refine jr_lmul (pc := 20) h dX2_addOne_20 ?_
        refine jr_aload_n (pc := 21) h dX2_addOne_21 rfl ?_
        refine gf_X2_11 (pc := 22) h dX2_addOne_22 (by assumption) (by omega) ?_
        refine jr_iload_n (pc := 25) h dX2_addOne_25 rfl ?_
        refine jr_iconst (pc := 26) h dX2_addOne_26 ?_
        refine jr_isub (pc := 27) h dX2_addOne_27 ?_
        refine jr_lald (pc := 28) h dX2_addOne_28 (by assumption) (by omega) (by omega) ?_
        refine jr_iload_n (pc := 29) h dX2_addOne_29 rfl ?_
        refine jr_i2l (pc := 30) h dX2_addOne_30 (by omega) ?_
        refine jr_lmul (pc := 31) h dX2_addOne_31 ?_
        refine jr_ladd (pc := 32) h dX2_addOne_32 ?_
        refine jr_last (pc := 33) h dX2_addOne_33 (by assumption) (by omega) (by omega) ?_
        refine jm_gen (fun M2 hM2 => ?_)
        refine jr_iinc (pc := 34) h [_, _, _, _] dX2_addOne_34 (by decide) rfl rfl ?_
        refine jr_goto (pc := 37) h 3 dX2_addOne_37 (by decide) ?_
        refine ih _ M2 (by omega) (Od_ww hO1 ?_) (fr_tr hf1 (fr_up hM2 ⟨by omega, by omega⟩)) (by omega)
        rw [hM2]
        refine congrArg (fun z => up M1 (q + 1) (jdL 11 z)) (funext fun m => ?_)
        by_cases hm : m = i.toNat
        · rw [hm, up_eq, if_neg (by omega), if_neg (by omega), if_pos (by omega), show (i - 1).toNat = i.toNat - 1 by omega]
        · rw [up_ne hm]
          by_cases h2 : i < (m : Int) ∧ m ≤ 10
          · rw [if_pos h2, if_pos (by omega)]
          · rw [if_neg h2, if_neg (by omega)]
  refine jr_bipush (pc := 0) h dX2_addOne_0 bp_10 ?_
  refine jr_istore_n (pc := 2) h [_, _, _, _] dX2_addOne_2 (by decide) rfl ?_
  refine loop _ _ M (by omega) ?_ fr_rf (Nat.lt_succ_self _)
  rw [show (fun m : Nat => if (10 : Int) < (m : Int) ∧ m ≤ 10 then ww m * b + ww (m - 1) * a else ww m) = ww from funext (fun m => if_neg (by omega))]
  exact hOd
set_option maxHeartbeats 2000000 in
set_option maxRecDepth 20000 in
theorem s_X2_waysAbove {l : Launch} {n : Nat} {M : jdM} {q : Nat} {g ww : Nat → Int} (hOd : Od M n q g ww) {a : Int} (ha : -1 ≤ a ∧ a ≤ 1000) : Ct l yX2_waysAbove cX2_waysAbove 5 (some .long) rX2_waysAbove [.ref q, jI a] n M (fun vv n' M' => vv = some (jL (c_wab ww a)) ∧ n = n' ∧ M = M') := by
  refine Ct_of [some (.ref q), some (jI a), none, none, none] (by decide) (Nat.le_of_ble_eq_true rfl) rfl (fun κ hl h hR hRt hmn hn0 => ?_)
  have h : Ok κ RX2 cX2_waysAbove 5 (some .long) := h
  obtain ⟨hnq, hOq, hAq⟩ := id hOd
  have loop : ∀ (dq : Nat) (x i : Int), (0 ≤ i ∧ a < i ∧ (i ≤ 11 ∨ i = a + 1)) → (i ≤ 11 → x = sumZ (fun i => if a < i then ww i.toNat else 0) i.toNat) → (11 < i → x = 0) → (2000 - i).toNat < dq → J κ 5 0 0 n 11 [some (.ref q), some (jI a), some (jL x), none, some (jI i)] [] M := by
    intro dq
    induction dq with
    | zero => intro x i hi hx hy hd; omega
    | succ dq ih =>
      intro x i hi hx hy hd
      refine jr_iload (pc := 11) h dX2_waysAbove_11 rfl ?_
      refine jr_bipush (pc := 13) h dX2_waysAbove_13 bp_10 ?_
      refine jr_icmp_gt (pc := 15) h 34 dX2_waysAbove_15 (by decide) (by omega) (by omega) (fun c_15 => ?_) (fun c_15 => ?_)
      · skip
        refine jr_lload_n (pc := 34) h dX2_waysAbove_34 rfl ?_
        refine jr_lret (pc := 35) h hRt dX2_waysAbove_35 (Nat.le_of_ble_eq_true rfl) (Nat.le_of_ble_eq_true rfl) ?_
        refine ⟨jl_c ?_, rfl, rfl⟩
        by_cases h11 : i ≤ 11
        · have e : i = 11 := by omega
          subst e
          rw [hx (by omega)]; rfl
        · rw [hy (by omega)]
          have z : ∀ k : Nat, (k : Int) ≤ 11 → sumZ (fun i => if a < i then ww i.toNat else 0) k = 0 := by
            intro k
            induction k with
            | zero => intro _; rfl
            | succ k ihk => intro h; rw [sumZ, ihk (by omega), if_neg (by omega)]; rfl
          exact (z 11 (by omega)).symm
      · skip
        refine jr_lload_n (pc := 18) h dX2_waysAbove_18 rfl ?_
        refine jr_aload_n (pc := 19) h dX2_waysAbove_19 rfl ?_
        refine gf_X2_11 (pc := 20) h dX2_waysAbove_20 (by assumption) (by omega) ?_
        refine jr_iload (pc := 23) h dX2_waysAbove_23 rfl ?_
        refine jr_lald (pc := 25) h dX2_waysAbove_25 (by assumption) (by omega) (by omega) ?_
        refine jr_ladd (pc := 26) h dX2_waysAbove_26 ?_
        refine jr_lstore_n (pc := 27) h [_, _, _, _, _] dX2_waysAbove_27 (by decide) rfl ?_
        refine jr_iinc (pc := 28) h [_, _, _, _, _] dX2_waysAbove_28 (by decide) rfl rfl ?_
        refine jr_goto (pc := 31) h 11 dX2_waysAbove_31 (by decide) ?_
        refine ih _ _ (by omega) (fun _ => ?_) (fun h => by omega) (by omega)
        rw [sumZ_s (by omega), if_pos (by omega), hx (by omega)]
  refine jr_lconst (pc := 0) h dX2_waysAbove_0 ?_
  refine jr_lstore_n (pc := 1) h [_, _, _, _, _] dX2_waysAbove_1 (by decide) rfl ?_
  refine jr_iconst (pc := 2) h dX2_waysAbove_2 ?_
  refine jr_iload_n (pc := 3) h dX2_waysAbove_3 rfl ?_
  refine jr_iconst (pc := 4) h dX2_waysAbove_4 ?_
  refine jr_iadd (pc := 5) h dX2_waysAbove_5 ?_
  refine im_X2_38 (pc := 6) h hR dX2_waysAbove_6 ⟨(Nat.le_of_ble_eq_true rfl), (Nat.le_of_ble_eq_true rfl), (Nat.le_of_ble_eq_true rfl), (Nat.le_of_ble_eq_true rfl)⟩ (by omega) (by omega) ?_
  refine jr_istore (pc := 9) h [_, _, _, _, _] dX2_waysAbove_9 (by decide) rfl ?_
  refine loop _ _ _ (by omega) (fun h => ?_) (fun _ => rfl) (Nat.lt_succ_self _)
  have z : ∀ k : Nat, (k : Int) ≤ max 0 (a + 1) → sumZ (fun i => if a < i then ww i.toNat else 0) k = 0 := by
    intro k
    induction k with
    | zero => intro _; rfl
    | succ k ihk => intro h; rw [sumZ, ihk (by omega), if_neg (by omega)]; rfl
  exact (z _ (by omega)).symm
set_option maxHeartbeats 1000000 in
set_option maxRecDepth 20000 in
theorem s_X2_allWays {l : Launch} {n : Nat} {M : jdM} {q : Nat} {g ww : Nat → Int} (hOd : Od M n q g ww) : Ct l yX2_allWays cX2_allWays 1 (some .long) rX2_allWays [.ref q] n M (fun vv n' M' => vv = some (jL (c_wab ww (-1))) ∧ n = n' ∧ M = M') := by
  refine Ct_of [some (.ref q)] (by decide) (Nat.le_of_ble_eq_true rfl) rfl (fun κ hl h hR hRt hmn hn0 => ?_)
  have h : Ok κ RX2 cX2_allWays 1 (some .long) := h
  obtain ⟨hnq, hOq, hAq⟩ := id hOd
  refine jr_aload_n (pc := 0) h dX2_allWays_0 rfl ?_
  refine jr_iconst (pc := 1) h dX2_allWays_1 ?_
  refine iv_X2_43 (pc := 2) h hl hR dX2_allWays_2 ⟨(Nat.le_of_ble_eq_true rfl), (Nat.le_of_ble_eq_true rfl), (Nat.le_of_ble_eq_true rfl), (Nat.le_of_ble_eq_true rfl)⟩ (Nat.le_of_ble_eq_true rfl) (by assumption) (by omega) (s_X2_waysAbove hOd (by omega)) (fun v_2 n_2 M_2 hn_2 hp => ?_)
  obtain ⟨rfl, rfl, rfl⟩ := hp
  refine jr_lret (pc := 5) h hRt dX2_allWays_5 (Nat.le_of_ble_eq_true rfl) (Nat.le_of_ble_eq_true rfl) ?_
  exact ⟨rfl, rfl, rfl⟩
set_option maxHeartbeats 2000000 in
set_option maxRecDepth 20000 in
theorem s_X2_fewestFor {l : Launch} {n : Nat} {M : jdM} {q : Nat} {g ww : Nat → Int} (hOd : Od M n q g ww) {a : Int} (ha : 0 ≤ a ∧ a ≤ 99) (hW : ∀ m : Int, 0 ≤ c_wab ww m ∧ c_wab ww m ≤ 90000000000000000) : Ct l yX2_fewestFor cX2_fewestFor 5 (some .int) rX2_fewestFor [.ref q, jI a] n M (fun vv n' M' => (vv = some (jI (fewR ww a 0 10)) ∧ n = n' ∧ M = M') ∧ (0) ≤ (fewR ww a 0 10) ∧ (fewR ww a 0 10) ≤ 10) := by
  refine Ct_of [some (.ref q), some (jI a), none, none, none] (by decide) (Nat.le_of_ble_eq_true rfl) rfl (fun κ hl h hR hRt hmn hn0 => ?_)
  have h : Ok κ RX2 cX2_fewestFor 5 (some .int) := h
  obtain ⟨hnq, hOq, hAq⟩ := id hOd
  have hr := fewR_r (W := ww) (p := a) (d := 10) (i := 0)
  have w1 := mulb (A := 90000000000000000) (B := 99) (hW (-1)) ha
  have loop : ∀ (dq : Nat) (i : Int), (0 ≤ i ∧ i ≤ 10) → (fewR ww a 0 10 = fewR ww a i (10 - i).toNat) → (20 - i).toNat < dq → J κ 5 0 0 n 11 [some (.ref q), some (jI a), some (jL (c_wab ww (-1) * a)), none, some (jI i)] [] M := by
    intro dq
    induction dq with
    | zero => intro i hi hx hd; omega
    | succ dq ih =>
      intro i hi hx hd
      refine jr_iload (pc := 11) h dX2_fewestFor_11 rfl ?_
      refine jr_bipush (pc := 13) h dX2_fewestFor_13 bp_10 ?_
      refine jr_icmp_ge (pc := 15) h 39 dX2_fewestFor_15 (by decide) (by omega) (by omega) (fun c_15 => ?_) (fun c_15 => ?_)
      · skip
        refine jr_iload (pc := 39) h dX2_fewestFor_39 rfl ?_
        refine jr_iret (pc := 41) h hRt dX2_fewestFor_41 rfl (Nat.le_of_ble_eq_true rfl) (Nat.le_of_ble_eq_true rfl) ?_
        refine ⟨⟨ji_c ?_, rfl, rfl⟩, by omega⟩
        rw [hx]
        by_cases q : i < 10
        · rw [fewR_f q (by omega)]
        · rw [show (10 - i).toNat = 0 by omega, fewR]
      · skip
        refine jr_aload_n (pc := 18) h dX2_fewestFor_18 rfl ?_
        refine jr_iload (pc := 19) h dX2_fewestFor_19 rfl ?_
        refine iv_X2_43 (pc := 21) h hl hR dX2_fewestFor_21 ⟨(Nat.le_of_ble_eq_true rfl), (Nat.le_of_ble_eq_true rfl), (Nat.le_of_ble_eq_true rfl), (Nat.le_of_ble_eq_true rfl)⟩ (Nat.le_of_ble_eq_true rfl) (by assumption) (by omega) (s_X2_waysAbove hOd (by omega)) (fun v_21 n_21 M_21 hn_21 hp => ?_)
        obtain ⟨rfl, rfl, rfl⟩ := hp
        refine jr_ldc2 (pc := 24) h dX2_fewestFor_24 (x := Int64.ofInt 100) wm_1242 ?_
        refine jr_lmul (pc := 27) h dX2_fewestFor_27 ?_
        refine jr_lload_n (pc := 28) h dX2_fewestFor_28 rfl ?_
        have w2 := hW i
        have lz := lcz_s (c_wab ww i * 100) (c_wab ww (-1) * a)
        refine jr_lcmp (pc := 29) h dX2_fewestFor_29 (by omega) (by omega) ?_
        refine jr_if_le (pc := 30) h 39 dX2_fewestFor_30 (by decide) (by omega) (fun c_30 => ?_) (fun c_30 => ?_)
        · skip
          refine jr_iload (pc := 39) h dX2_fewestFor_39 rfl ?_
          refine jr_iret (pc := 41) h hRt dX2_fewestFor_41 rfl (Nat.le_of_ble_eq_true rfl) (Nat.le_of_ble_eq_true rfl) ?_
          refine ⟨⟨ji_c ?_, rfl, rfl⟩, by omega⟩
          rw [hx]
          by_cases q : i < 10
          · rw [fewR_f q (by omega)]
          · rw [show (10 - i).toNat = 0 by omega, fewR]
        · skip
          refine jr_iinc (pc := 33) h [_, _, _, _, _] dX2_fewestFor_33 (by decide) rfl rfl ?_
          refine jr_goto (pc := 36) h 11 dX2_fewestFor_36 (by decide) ?_
          refine ih _ (by omega) ?_ (by omega)
          rw [hx, fewR_t (by omega) (by omega)]
  refine jr_aload_n (pc := 0) h dX2_fewestFor_0 rfl ?_
  refine iv_X2_47 (pc := 1) h hl hR dX2_fewestFor_1 ⟨(Nat.le_of_ble_eq_true rfl), (Nat.le_of_ble_eq_true rfl), (Nat.le_of_ble_eq_true rfl), (Nat.le_of_ble_eq_true rfl)⟩ (Nat.le_of_ble_eq_true rfl) (by assumption) (by omega) (s_X2_allWays hOd) (fun v_1 n_1 M_1 hn_1 hp => ?_)
  obtain ⟨rfl, rfl, rfl⟩ := hp
  refine jr_iload_n (pc := 4) h dX2_fewestFor_4 rfl ?_
  refine jr_i2l (pc := 5) h dX2_fewestFor_5 (by omega) ?_
  refine jr_lmul (pc := 6) h dX2_fewestFor_6 ?_
  refine jr_lstore_n (pc := 7) h [_, _, _, _, _] dX2_fewestFor_7 (by decide) rfl ?_
  refine jr_iconst (pc := 8) h dX2_fewestFor_8 ?_
  refine jr_istore (pc := 9) h [_, _, _, _, _] dX2_fewestFor_9 (by decide) rfl ?_
  exact loop _ _ (by omega) rfl (Nat.lt_succ_self _)
theorem c_ahead_s {ct td si : Nat → Int} {i : Int} (h : 1 ≤ i) : c_ahead ct td si i.toNat = c_ahead ct td si (i - 1).toNat + c_unn ct td si i := by
  have this : sumZ (fun r => c_unn ct td si (1 + r)) (i - 1 + 1).toNat = sumZ (fun r => c_unn ct td si (1 + r)) (i - 1).toNat + c_unn ct td si (1 + (i - 1)) := sumZ_s (by omega)
  rw [show i - 1 + 1 = i by omega, show 1 + (i - 1) = i by omega] at this
  exact this
theorem c_winr {td : Nat → Int} (rB : ∀ j, 0 ≤ td j ∧ td j ≤ 999) (a b : Int) : 0 ≤ c_win td a b ∧ c_win td a b ≤ 999 := by
  unfold c_win
  have : ∀ (d : Nat) (i : Int), 0 ≤ firstW (fun i => c_get td 7 a (4 + 2 * i)) (fun i => c_get td 7 a (4 + 2 * i + 1)) b i d ∧ firstW (fun i => c_get td 7 a (4 + 2 * i)) (fun i => c_get td 7 a (4 + 2 * i + 1)) b i d ≤ 999 := by
    intro d
    induction d with
    | zero => intro i; simp [firstW]
    | succ d ih =>
      intro i
      rw [firstW]
      split
      · exact c_getr rB _ _ _
      · exact ih _
  exact this _ _
theorem c_weightsr {td bk : Nat → Int} (rB : ∀ j, 0 ≤ td j ∧ td j ≤ 999) (a : Int) : 0 ≤ c_weights td bk a ∧ c_weights td bk a ≤ 3996 := by
  have := sumZ_b (f := fun i => c_get td 7 (c_blk bk a) (4 + 2 * i + 1)) (k := 4) (lo := 0) (hi := 999) (fun i _ _ => c_getr rB _ _ _)
  unfold c_weights
  omega
set_option maxHeartbeats 1000000 in
set_option maxRecDepth 20000 in
theorem s_X2_weigh {l : Launch} {n : Nat} {M : jdM} {q : Nat} {g ww : Nat → Int} (hOd : Od M n q g ww) {f : Nat} {ct td bk si ld : Nat → Int} (hF : Fl M n f ct td bk si ld) (hsep : f + 5 < q) (hun : ∀ r : Int, 0 ≤ c_unn ct td si r ∧ c_unn ct td si r ≤ 9) {a b : Int} (ha : 1 ≤ a ∧ a ≤ 40) (hb : -2147483648 ≤ b ∧ b < 2147483648) : Ct l yX2_weigh cX2_weigh 10 (some .boolean) rX2_weigh [.ref q, .ref f, jI a, jI b] n M (fun vv n' M' => (vv = some (jI (bz (c_ahead ct td si (a - 1).toNat ≤ 10))) ∧ n = n') ∧ ∃ ww', Od M' n q g ww' ∧ fr (OdS q) M M' ∧ (c_ahead ct td si (a - 1).toNat ≤ 10 → agw ww' (c_wgh ct td bk si b (a - 1).toNat))) := by
  refine Ct_of [some (.ref q), some (.ref f), some (jI a), some (jI b), none, none, none, none, none, none] (by decide) (Nat.le_of_ble_eq_true rfl) rfl (fun κ hl h hR hRt hmn hn0 => ?_)
  have h : Ok κ RX2 cX2_weigh 10 (some .boolean) := h
  obtain ⟨hnq, hOq, hAq⟩ := id hOd
  obtain ⟨hn, hO, hA, hB, hC, hD, hE, rA, rB, r0, rC, rD, rE⟩ := id hF
  have hmono : ∀ {e : Nat}, (e : Int) ≤ a - 1 → c_ahead ct td si e ≤ c_ahead ct td si (a - 1).toNat := by
    intro e he
    have : ∀ (k : Nat) (e : Nat), c_ahead ct td si e ≤ c_ahead ct td si (e + k) := by
      intro k
      induction k with
      | zero => intro e; exact Int.le_refl _
      | succ k ih => intro e; have := ih e; have h2 := hun (1 + ((e + k : Nat) : Int)); unfold c_ahead at this ⊢; rw [← Nat.add_assoc, sumZ]; omega
    have h3 := this ((a - 1).toNat - e) e
    rw [show e + ((a - 1).toNat - e) = (a - 1).toNat by omega] at h3
    exact h3
  have loop : ∀ (dq : Nat) (x i : Int) (u6 : Option Value) (u7 : Option Value) (u8 : Option Value) (u9 : Option Value) (M1 : jdM) (ww1 : Nat → Int), (1 ≤ i ∧ i ≤ a) → (x = c_ahead ct td si (i - 1).toNat) → (0 ≤ x ∧ x ≤ 10) → (Od M1 n q g ww1) → (fr (OdS q) M M1) → (agw ww1 (c_wgh ct td bk si b (i - 1).toNat)) → (50 - i).toNat < dq → J κ 10 0 0 n 21 [some (.ref q), some (.ref f), some (jI a), some (jI b), some (jI x), some (jI i), u6, u7, u8, u9] [] M1 := by
    intro dq
    induction dq with
    | zero => intro x i u6 u7 u8 u9 M1 ww1 hi hx hx2 hO1 hf1 hw1 hd; omega
    | succ dq ih =>
      intro x i u6 u7 u8 u9 M1 ww1 hi hx hx2 hO1 hf1 hw1 hd
      have hF1 := Fl_fr hF hf1 (Nat.le_refl _) (fun k h1 h2 h3 => by unfold OdS at h3; omega)
      obtain ⟨hnq, hOq, hAq⟩ := id hO1
      obtain ⟨hn, hO, hA, hB, hC, hD, hE, rA, rB, r0, rC, rD, rE⟩ := id hF1
      refine jr_iload (pc := 21) h dX2_weigh_21 rfl ?_
      refine jr_iload_n (pc := 23) h dX2_weigh_23 rfl ?_
      refine jr_icmp_ge (pc := 24) h 108 dX2_weigh_24 (by decide) (by omega) (by omega) (fun c_24 => ?_) (fun c_24 => ?_)
      · skip
        refine jr_iconst (pc := 108) h dX2_weigh_108 ?_
        refine jr_iret (pc := 109) h hRt dX2_weigh_109 rfl (Nat.le_of_ble_eq_true rfl) (Nat.le_of_ble_eq_true rfl) ?_
        have ei : i = a := by omega
        subst ei
        exact ⟨⟨ji_c (bz_t (by omega)).symm, rfl⟩, _, hO1, hf1, fun _ => hw1⟩
      · skip
        refine jr_iload (pc := 27) h dX2_weigh_27 rfl ?_
        refine jr_bipush (pc := 29) h dX2_weigh_29 bp_40 ?_
        refine jr_icmp_gt (pc := 31) h 108 dX2_weigh_31 (by decide) (by omega) (by omega) (fun c_31 => ?_) (fun c_31 => ?_)
        · skip
          refine jr_iconst (pc := 108) h dX2_weigh_108 ?_
          refine jr_iret (pc := 109) h hRt dX2_weigh_109 rfl (Nat.le_of_ble_eq_true rfl) (Nat.le_of_ble_eq_true rfl) ?_
          have ei : i = a := by omega
          subst ei
          exact ⟨⟨ji_c (bz_t (by omega)).symm, rfl⟩, _, hO1, hf1, fun _ => hw1⟩
        · skip
          refine jr_aload_n (pc := 34) h dX2_weigh_34 rfl ?_
          refine jr_iload (pc := 35) h dX2_weigh_35 rfl ?_
          refine iv_X2_21 (pc := 37) h hl hR dX2_weigh_37 ⟨(Nat.le_of_ble_eq_true rfl), (Nat.le_of_ble_eq_true rfl), (Nat.le_of_ble_eq_true rfl), (Nat.le_of_ble_eq_true rfl)⟩ (Nat.le_of_ble_eq_true rfl) (by assumption) (by omega) (s_X1_unnamedIn hF1 (by omega)) (fun v_37 n_37 M_37 hn_37 hp => ?_)
          obtain ⟨⟨rfl, rfl, rfl⟩, gr_37⟩ := hp
          have gu := hun i
          change J κ 10 0 0 n (37 + 3) _ (jI (c_unn ct td si i) :: _) _
          refine jr_istore (pc := 40) h [_, _, _, _, _, _, _, _, _, _] dX2_weigh_40 (by decide) rfl ?_
          refine jr_iload (pc := 42) h dX2_weigh_42 rfl ?_
          refine jr_iload (pc := 44) h dX2_weigh_44 rfl ?_
          refine jr_iadd (pc := 46) h dX2_weigh_46 ?_
          refine jr_istore (pc := 47) h [_, _, _, _, _, _, _, _, _, _] dX2_weigh_47 (by decide) rfl ?_
          refine jr_iload (pc := 49) h dX2_weigh_49 rfl ?_
          refine jr_bipush (pc := 51) h dX2_weigh_51 bp_10 ?_
          refine jr_icmp_le (pc := 53) h 58 dX2_weigh_53 (by decide) (by omega) (by omega) (fun c_53 => ?_) (fun c_53 => ?_)
          · skip
            refine jr_aload_n (pc := 58) h dX2_weigh_58 rfl ?_
            refine jr_iload (pc := 59) h dX2_weigh_59 rfl ?_
            refine jr_iload_n (pc := 61) h dX2_weigh_61 rfl ?_
            refine iv_X2_27 (pc := 62) h hl hR dX2_weigh_62 ⟨(Nat.le_of_ble_eq_true rfl), (Nat.le_of_ble_eq_true rfl), (Nat.le_of_ble_eq_true rfl), (Nat.le_of_ble_eq_true rfl)⟩ (Nat.le_of_ble_eq_true rfl) (by assumption) (by omega) (s_X1_weight hF1 (by omega) (by omega)) (fun v_62 n_62 M_62 hn_62 hp => ?_)
            obtain ⟨⟨rfl, rfl, rfl⟩, gr_62⟩ := hp
            refine jr_istore (pc := 65) h [_, _, _, _, _, _, _, _, _, _] dX2_weigh_65 (by decide) rfl ?_
            refine jr_aload_n (pc := 67) h dX2_weigh_67 rfl ?_
            refine jr_iload (pc := 68) h dX2_weigh_68 rfl ?_
            refine iv_X2_31 (pc := 70) h hl hR dX2_weigh_70 ⟨(Nat.le_of_ble_eq_true rfl), (Nat.le_of_ble_eq_true rfl), (Nat.le_of_ble_eq_true rfl), (Nat.le_of_ble_eq_true rfl)⟩ (Nat.le_of_ble_eq_true rfl) (by assumption) (by omega) (s_X1_weights hF1 (by omega)) (fun v_70 n_70 M_70 hn_70 hp => ?_)
            obtain ⟨⟨rfl, rfl, rfl⟩, gr_70⟩ := hp
            refine jr_iload (pc := 73) h dX2_weigh_73 rfl ?_
            refine jr_isub (pc := 75) h dX2_weigh_75 ?_
            change J κ 10 0 0 n (75 + 1) _ (jI (c_oth ct td bk b i) :: _) _
            refine jr_istore (pc := 76) h [_, _, _, _, _, _, _, _, _, _] dX2_weigh_76 (by decide) rfl ?_
            refine jr_iconst (pc := 78) h dX2_weigh_78 ?_
            refine jr_istore (pc := 79) h [_, _, _, _, _, _, _, _, _, _] dX2_weigh_79 (by decide) rfl ?_
            have gw := c_winr rB (c_blk bk i) b
            have gs := c_weightsr (bk := bk) rB i
            have inner : ∀ (dq2 : Nat) (j : Int) (M1 : jdM) (ww1 : Nat → Int), (0 ≤ j ∧ j ≤ c_unn ct td si i) → (Od M1 n q g ww1) → (fr (OdS q) M M1) → (agw ww1 (foldS (fun W _ => ad1 W (c_win td (c_blk bk i) b) (c_oth ct td bk b i)) (c_wgh ct td bk si b (i - 1).toNat) j.toNat)) → (20 - j).toNat < dq2 → J κ 10 0 0 n 81 [some (.ref q), some (.ref f), some (jI a), some (jI b), some (jI (x + c_unn ct td si i)), some (jI i), some (jI (c_unn ct td si i)), some (jI (c_win td (c_blk bk i) b)), some (jI (c_oth ct td bk b i)), some (jI j)] [] M1 := by
              intro dq2
              induction dq2 with
              | zero => intro j M1 ww1 hj hO1 hf1 hw1 hd; omega
              | succ dq2 ih2 =>
                intro j M1 ww1 hj hO1 hf1 hw1 hd
                have hF1 := Fl_fr hF hf1 (Nat.le_refl _) (fun k h1 h2 h3 => by unfold OdS at h3; omega)
                obtain ⟨hnq, hOq, hAq⟩ := id hO1
                obtain ⟨hn, hO, hA, hB, hC, hD, hE, rA, rB, r0, rC, rD, rE⟩ := id hF1
                refine jr_iload (pc := 81) h dX2_weigh_81 rfl ?_
                refine jr_iload (pc := 83) h dX2_weigh_83 rfl ?_
                refine jr_icmp_ge (pc := 85) h 102 dX2_weigh_85 (by decide) (by omega) (by omega) (fun c_85 => ?_) (fun c_85 => ?_)
                · skip
                  refine jr_iinc (pc := 102) h [_, _, _, _, _, _, _, _, _, _] dX2_weigh_102 (by decide) rfl rfl ?_
                  refine jr_goto (pc := 105) h 21 dX2_weigh_105 (by decide) ?_
                  have ej : j = c_unn ct td si i := by omega
                  subst ej
                  refine ih _ _ _ _ _ _ M1 _ (by omega) ?_ (by omega) hO1 hf1 ?_ (by omega)
                  · unfold c_ahead; rw [show i + 1 - 1 = (i - 1) + 1 by omega, sumZ_s (by omega), show 1 + (i - 1) = i by omega, hx]; rfl
                  · unfold c_wgh at hw1 ⊢; rw [show i + 1 - 1 = (i - 1) + 1 by omega, foldS_s (by omega), show 1 + (i - 1) = i by omega]; exact hw1
                · skip
                  refine jr_aload_n (pc := 88) h dX2_weigh_88 rfl ?_
                  refine jr_iload (pc := 89) h dX2_weigh_89 rfl ?_
                  refine jr_iload (pc := 91) h dX2_weigh_91 rfl ?_
                  refine iv_X2_34 (pc := 93) h hl hR dX2_weigh_93 ⟨(Nat.le_of_ble_eq_true rfl), (Nat.le_of_ble_eq_true rfl), (Nat.le_of_ble_eq_true rfl), (Nat.le_of_ble_eq_true rfl)⟩ (Nat.le_of_ble_eq_true rfl) (by assumption) (by omega) (s_X2_addOne hO1 (by omega) (by unfold c_oth; omega)) (fun v_93 n_93 M_93 hn_93 hp => ?_)
                  obtain ⟨rfl, rfl, hO2, hf2⟩ := hp
                  refine jr_iinc (pc := 96) h [_, _, _, _, _, _, _, _, _, _] dX2_weigh_96 (by decide) rfl rfl ?_
                  refine jr_goto (pc := 99) h 81 dX2_weigh_99 (by decide) ?_
                  refine ih2 _ M_93 _ (by omega) hO2 (fr_tr hf1 hf2) ?_ (by omega)
                  rw [foldS_s (by omega)]
                  exact ad1_agw hw1
            exact inner _ _ M1 ww1 (by omega) hO1 hf1 hw1 (Nat.lt_succ_self _)
          · skip
            refine jr_iconst (pc := 56) h dX2_weigh_56 ?_
            refine jr_iret (pc := 57) h hRt dX2_weigh_57 rfl (Nat.le_of_ble_eq_true rfl) (Nat.le_of_ble_eq_true rfl) ?_
            refine ⟨⟨ji_c ?_, rfl⟩, _, hO1, hf1, fun h => ?_⟩
            · rw [bz_f (fun h => ?_)]
              have := hmono (e := i.toNat) (by omega)
              have e2 := c_ahead_s (ct := ct) (td := td) (si := si) (i := i) (by omega)
              omega
            · have := hmono (e := i.toNat) (by omega)
              have e2 := c_ahead_s (ct := ct) (td := td) (si := si) (i := i) (by omega)
              omega
  refine jr_aload_n (pc := 0) h dX2_weigh_0 rfl ?_
  refine gf_X2_11 (pc := 1) h dX2_weigh_1 (by assumption) (by omega) ?_
  refine jr_lconst (pc := 4) h dX2_weigh_4 ?_
  refine iv_X2_15 (pc := 5) h hl hR dX2_weigh_5 ⟨(Nat.le_of_ble_eq_true rfl), (Nat.le_of_ble_eq_true rfl), (Nat.le_of_ble_eq_true rfl), (Nat.le_of_ble_eq_true rfl)⟩ (Nat.le_of_ble_eq_true rfl) (s_J7_fill_d0a16 (by assumption) (by omega) (by omega)) (fun v_5 n_5 M_5 hn_5 hp => ?_)
  obtain ⟨rfl, rfl, hM5⟩ := hp
  have hO5 := Od_ww hOd hM5
  have hf5 : fr (OdS q) M M_5 := fr_up hM5 ⟨by omega, by omega⟩
  obtain ⟨hnq, hOq, hAq⟩ := id hO5
  refine jr_aload_n (pc := 8) h dX2_weigh_8 rfl ?_
  refine gf_X2_11 (pc := 9) h dX2_weigh_9 (by assumption) (by omega) ?_
  refine jr_iconst (pc := 12) h dX2_weigh_12 ?_
  refine jr_lconst (pc := 13) h dX2_weigh_13 ?_
  refine jr_last (pc := 14) h dX2_weigh_14 (by assumption) (by omega) (by omega) ?_
  refine jm_gen (fun M6 hM6 => ?_)
  refine jr_iconst (pc := 15) h dX2_weigh_15 ?_
  refine jr_istore (pc := 16) h [_, _, _, _, _, _, _, _, _, _] dX2_weigh_16 (by decide) rfl ?_
  refine jr_iconst (pc := 18) h dX2_weigh_18 ?_
  refine jr_istore (pc := 19) h [_, _, _, _, _, _, _, _, _, _] dX2_weigh_19 (by decide) rfl ?_
  refine loop _ _ _ _ _ _ _ M6 _ (by omega) rfl (by omega) (Od_ww hO5 hM6) (fr_tr hf5 (fr_up hM6 ⟨by omega, by omega⟩)) ?_ (Nat.lt_succ_self _)
  intro m hm
  unfold c_wgh
  show up _ 0 _ m = if m = 0 then 1 else 0
  by_cases h0 : m = 0
  · rw [h0, up_eq]; rfl
  · rw [up_ne h0, if_neg h0, if_pos hm]; rfl
