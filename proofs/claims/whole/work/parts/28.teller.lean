/-! 28: Tokens.write; Teller: its cells, small methods -/
/-- a byte of a number, the highest first -/
def byI (x i : Int) : Int := (Int32.ofInt x >>> (Int32.ofInt (24 - 8 * i) &&& 31)).toInt8.toInt
def wrB (bs : Nat → Int) (a x : Int) (e : Int) : Nat → Int := fun j => if a ≤ j ∧ (j : Int) < a + e ∧ j < 900 then byI x (j - a) else bs j
theorem byI_b {x i : Int} : -128 ≤ byI x i ∧ byI x i < 128 := by
  unfold byI
  have h1 := Int8.le_toInt (Int32.ofInt x >>> (Int32.ofInt (24 - 8 * i) &&& 31)).toInt8
  have h2 := Int8.toInt_lt (Int32.ofInt x >>> (Int32.ofInt (24 - 8 * i) &&& 31)).toInt8
  omega
theorem wrB_b {bs : Nat → Int} {a x e : Int} (h : ∀ i, -128 ≤ bs i ∧ bs i < 128) : ∀ i, -128 ≤ wrB bs a x e i ∧ wrB bs a x e i < 128 := by
  intro i
  unfold wrB
  split
  · exact byI_b
  · exact h i
theorem wrB_s {bs : Nat → Int} {a x i : Int} (h : 0 ≤ a ∧ 0 ≤ i ∧ a + i < 900) : up (wrB bs a x i) (a + i).toNat (byI x i) = wrB bs a x (i + 1) := by
  funext j
  unfold up wrB
  by_cases q : j = (a + i).toNat
  · rw [if_pos q, if_pos (by omega), show (j : Int) - a = i by omega]
  · rw [if_neg q]
    by_cases q2 : a ≤ (j : Int) ∧ (j : Int) < a + i ∧ j < 900
    · rw [if_pos q2, if_pos (by omega)]
    · rw [if_neg q2, if_neg (by omega)]
theorem wrB_o {bs : Nat → Int} {a x i : Int} (h : 900 ≤ a + i) : wrB bs a x i = wrB bs a x (i + 1) := by
  funext j
  unfold wrB
  by_cases q2 : a ≤ (j : Int) ∧ (j : Int) < a + i ∧ j < 900
  · rw [if_pos q2, if_pos (by omega)]
  · rw [if_neg q2, if_neg (by omega)]
set_option maxHeartbeats 1000000 in
set_option maxRecDepth 20000 in
theorem s_X6_write {l : Launch} {n : Nat} {M : jdM} {b : Nat} {g : Nat → Int} {w : Int} {bs nm ns nn : Nat → Int} (hTk : Tok M n b g w bs nm ns nn) {a x : Int} (ha : 0 ≤ a ∧ a ≤ 900) (hx : -2147483648 ≤ x ∧ x < 2147483648) : Ct l yX6_write cX6_write 4 none rX6_write [.ref b, jI a, jI x] n M (fun vv n' M' => (vv = none ∧ n = n') ∧ Tok M' n b g w (wrB bs a x 4) nm ns nn ∧ fr (TokS b) M M') := by
  refine Ct_of [some (.ref b), some (jI a), some (jI x), none] (by decide) (Nat.le_of_ble_eq_true rfl) rfl (fun κ hl h hR hRt hmn hn0 => ?_)
  have h : Ok κ RX6 cX6_write 4 none := h
  have loop : ∀ (dq : Nat) (i : Int) (M1 : jdM), (0 ≤ i ∧ i ≤ 4) → (Tok M1 n b g w (wrB bs a x i) nm ns nn) → (fr (TokS b) M M1) → (5 - i).toNat < dq → J κ 4 0 0 n 2 [some (.ref b), some (jI a), some (jI x), some (jI i)] [] M1 := by
    intro dq
    induction dq with
    | zero => intro i M1 hi T1 f1 hd; omega
    | succ dq ih =>
      intro i M1 hi T1 f1 hd
      obtain ⟨hnb, hOb, hYb, hNb, hSb, hKb⟩ := id T1
      refine jr_iload_n (pc := 2) h dX6_write_2 rfl ?_
      refine jr_iconst (pc := 3) h dX6_write_3 ?_
      refine jr_icmp_ge (pc := 4) h 46 dX6_write_4 (by decide) (by omega) (by omega) (fun c_4 => ?_) (fun c_4 => ?_)
      · skip
        refine jr_vret (pc := 46) h hRt dX6_write_46 (Nat.le_of_ble_eq_true rfl) (Nat.le_of_ble_eq_true rfl) ?_
        have e4 : i = 4 := by omega
        subst e4
        exact ⟨⟨rfl, rfl⟩, T1, f1⟩
      · skip
        refine jr_iload_n (pc := 7) h dX6_write_7 rfl ?_
        refine jr_iload_n (pc := 8) h dX6_write_8 rfl ?_
        refine jr_iadd (pc := 9) h dX6_write_9 ?_
        refine jr_if_lt (pc := 10) h 40 dX6_write_10 (by decide) (by omega) (fun c_10 => ?_) (fun c_10 => ?_)
        · skip
          refine jr_iinc (pc := 40) h [_, _, _, _] dX6_write_40 (by decide) rfl rfl ?_
          refine jr_goto (pc := 43) h 2 dX6_write_43 (by decide) ?_
          first
          | (exact ih _ M2 (by omega) T2 f2 (by omega))
          | (rw [wrB_o (by omega)] at T1
             exact ih _ M1 (by omega) T1 f1 (by omega))
        · skip
          refine jr_iload_n (pc := 13) h dX6_write_13 rfl ?_
          refine jr_iload_n (pc := 14) h dX6_write_14 rfl ?_
          refine jr_iadd (pc := 15) h dX6_write_15 ?_
          refine jr_sipush (pc := 16) h dX6_write_16 sp_900 ?_
          refine jr_icmp_ge (pc := 19) h 40 dX6_write_19 (by decide) (by omega) (by omega) (fun c_19 => ?_) (fun c_19 => ?_)
          · skip
            refine jr_iinc (pc := 40) h [_, _, _, _] dX6_write_40 (by decide) rfl rfl ?_
            refine jr_goto (pc := 43) h 2 dX6_write_43 (by decide) ?_
            first
            | (exact ih _ M2 (by omega) T2 f2 (by omega))
            | (rw [wrB_o (by omega)] at T1
               exact ih _ M1 (by omega) T1 f1 (by omega))
          · skip
            refine jr_aload_n (pc := 22) h dX6_write_22 rfl ?_
            refine gf_X6_9 (pc := 23) h dX6_write_23 (by assumption) (by omega) ?_
            refine jr_iload_n (pc := 26) h dX6_write_26 rfl ?_
            refine jr_iload_n (pc := 27) h dX6_write_27 rfl ?_
            refine jr_iadd (pc := 28) h dX6_write_28 ?_
            refine jr_iload_n (pc := 29) h dX6_write_29 rfl ?_
            refine jr_bipush (pc := 30) h dX6_write_30 bp_24 ?_
            refine jr_bipush (pc := 32) h dX6_write_32 bp_8 ?_
            refine jr_iload_n (pc := 34) h dX6_write_34 rfl ?_
            refine jr_imul (pc := 35) h dX6_write_35 ?_
            refine jr_isub (pc := 36) h dX6_write_36 ?_
            refine jr_ishr (pc := 37) h dX6_write_37 ?_
            refine jr_i2b (pc := 38) h dX6_write_38 ?_
            refine jr_bast (pc := 39) h (f := wrB bs a x i) (x := byI x i) dX6_write_39 (by assumption) (by omega) (by omega) (by unfold byI; rw [Int32.ofInt_int8ToInt]; simp) ?_
            rw [wrB_s (by omega)]
            refine jm_gen (fun M2 hM2 => ?_)
            have T2 := Tok_bs T1 hM2
            have f2 := fr_tr f1 (fr_up hM2 ⟨by omega, by omega⟩)
            refine jr_iinc (pc := 40) h [_, _, _, _] dX6_write_40 (by decide) rfl rfl ?_
            refine jr_goto (pc := 43) h 2 dX6_write_43 (by decide) ?_
            first
            | (exact ih _ M2 (by omega) T2 f2 (by omega))
            | (rw [wrB_o (by omega)] at T1
               exact ih _ M1 (by omega) T1 f1 (by omega))
  refine jr_iconst (pc := 0) h dX6_write_0 ?_
  refine jr_istore_n (pc := 1) h [_, _, _, _] dX6_write_1 (by decide) rfl ?_
  have e0 : wrB bs a x 0 = bs := by
    funext j
    unfold wrB
    rw [if_neg (by omega)]
  exact loop _ _ M (by omega) (by rw [e0]; exact hTk) fr_rf (Nat.lt_succ_self _)
def fX4 (b : Nat) : Nat → Value
  | 0 => .ref b
  | _ => .null
/-- a teller at t with its tokens at b -/
def Te (M : jdM) (n t b : Nat) (bs : Nat → Int) (p : TS) : Prop := t < n ∧ M t = jdO 4 (fX4 b) ∧ TkP M n b bs p ∧ PO p ∧ (t < b ∨ b + 4 < t)
theorem Te_tk {M M1 : jdM} {n t b : Nat} {bs bs1 : Nat → Int} {p p1 : TS} (h : Te M n t b bs p) (h1 : TkP M1 n b bs1 p1) (h2 : fr (TokS b) M M1) (h3 : PO p1) : Te M1 n t b bs1 p1 := by
  obtain ⟨a1, a2, a3, a4, a5⟩ := h
  exact ⟨a1, by rw [h2 t (fun q => by have := q.1; have := q.2; omega)]; exact a2, h1, h3, a5⟩
theorem Te_fr {M M1 : jdM} {n n1 t b : Nat} {bs : Nat → Int} {p : TS} {S : Nat → Prop} (h : Te M n t b bs p) (h1 : fr S M M1) (hn : n ≤ n1) (hs : ∀ k, b ≤ k → k ≤ b + 4 → ¬ S k) (ht : ¬ S t) : Te M1 n1 t b bs p := by
  obtain ⟨a1, a2, a3, a4, a5⟩ := h
  exact ⟨by omega, by rw [h1 t ht]; exact a2, Tok_fr a3 h1 hn hs, a4, a5⟩
noncomputable def lbP (bs : Nat → Int) (k : Nat) (lo hi : Int) (p : TS) : Int × TS := ehP bs lo hi (ewP bs k p)
set_option maxHeartbeats 1000000 in
set_option maxRecDepth 20000 in
theorem s_X4_labelled {l : Launch} {n : Nat} {M : jdM} {t b : Nat} {bs : Nat → Int} {p : TS} (E1 : Te M n t b bs p) (hby : ∀ i, -128 ≤ bs i ∧ bs i < 128) {k : Nat} (hk58 : k < 58) {a c : Int} (ha : -2147483648 ≤ a ∧ a < 2147483648) (hc : -2147483648 ≤ c ∧ c < 2147483648) : Ct l yX4_labelled cX4_labelled 4 (some .int) rX4_labelled [.ref t, .ref (1000000 + 100 + k), jI a, jI c] n M (fun vv n' M' => (vv = some (jI (lbP bs k a c p).1) ∧ n = n') ∧ Te M' n t b bs (lbP bs k a c p).2 ∧ fr (TokS b) M M') := by
  refine Ct_of [some (.ref t), some (.ref (1000000 + 100 + k)), some (jI a), some (jI c)] (by decide) (Nat.le_of_ble_eq_true rfl) rfl (fun κ hl h hR hRt hmn hn0 => ?_)
  have h : Ok κ RX4 cX4_labelled 4 (some .int) := h
  obtain ⟨ht, hOt, X1, hPO, hsep⟩ := id E1
  obtain ⟨hnb, hOb, hYb, hNb, hSb, hKb⟩ := id X1
  have f1 : fr (TokS b) M M := fr_rf
  refine jr_aload_n (pc := 0) h dX4_labelled_0 rfl ?_
  refine gf_X4_12 (pc := 1) h dX4_labelled_1 (by assumption) (by omega) ?_
  refine jr_aload_n (pc := 4) h dX4_labelled_4 rfl ?_
  refine iv_X4_142 (pc := 5) h hl hR dX4_labelled_5 ⟨(Nat.le_of_ble_eq_true rfl), (Nat.le_of_ble_eq_true rfl), (Nat.le_of_ble_eq_true rfl), (Nat.le_of_ble_eq_true rfl)⟩ (Nat.le_of_ble_eq_true rfl) (by assumption) (by omega) (s_X6_expectWord X1 hPO hby hk58) (fun v_5 n_5 M_5 hn_5 hp => ?_)
  obtain ⟨⟨rfl, rfl⟩, X1, fx⟩ := hp
  have E1 := Te_tk E1 X1 fx (ewP_O hPO)
  have f1 := fr_tr f1 fx
  obtain ⟨ht, hOt, X1, hPO, hsep⟩ := id E1
  obtain ⟨hnb, hOb, hYb, hNb, hSb, hKb⟩ := id X1
  refine jr_aload_n (pc := 8) h dX4_labelled_8 rfl ?_
  refine gf_X4_12 (pc := 9) h dX4_labelled_9 (by assumption) (by omega) ?_
  refine jr_iload_n (pc := 12) h dX4_labelled_12 rfl ?_
  refine jr_iload_n (pc := 13) h dX4_labelled_13 rfl ?_
  refine iv_X4_116 (pc := 14) h hl hR dX4_labelled_14 ⟨(Nat.le_of_ble_eq_true rfl), (Nat.le_of_ble_eq_true rfl), (Nat.le_of_ble_eq_true rfl), (Nat.le_of_ble_eq_true rfl)⟩ (Nat.le_of_ble_eq_true rfl) (by assumption) (by omega) (s_X6_expectWhole X1 hPO hby (by omega) (by omega)) (fun v_14 n_14 M_14 hn_14 hp => ?_)
  obtain ⟨⟨hv, rfl⟩, X1, fx⟩ := hp
  subst hv
  have E1 := Te_tk E1 X1 fx (ehP_O hPO)
  have f1 := fr_tr f1 fx
  obtain ⟨ht, hOt, X1, hPO, hsep⟩ := id E1
  obtain ⟨hnb, hOb, hYb, hNb, hSb, hKb⟩ := id X1
  refine jr_iret (pc := 17) h hRt dX4_labelled_17 rfl (Nat.le_of_ble_eq_true rfl) (Nat.le_of_ble_eq_true rfl) ?_
  exact ⟨⟨rfl, rfl⟩, E1, f1⟩
set_option maxHeartbeats 1000000 in
set_option maxRecDepth 20000 in
theorem s_X4_faultPlace {l : Launch} {n : Nat} {M : jdM} {t b : Nat} {bs : Nat → Int} {p : TS} (E1 : Te M n t b bs p) (hby : ∀ i, -128 ≤ bs i ∧ bs i < 128) : Ct l yX4_faultPlace cX4_faultPlace 1 (some .int) rX4_faultPlace [.ref t] n M (fun vv n' M' => vv = some (jI (p.1 8)) ∧ n = n' ∧ M = M') := by
  refine Ct_of [some (.ref t)] (by decide) (Nat.le_of_ble_eq_true rfl) rfl (fun κ hl h hR hRt hmn hn0 => ?_)
  have h : Ok κ RX4 cX4_faultPlace 1 (some .int) := h
  obtain ⟨ht, hOt, X1, hPO, hsep⟩ := id E1
  obtain ⟨hnb, hOb, hYb, hNb, hSb, hKb⟩ := id X1
  have f1 : fr (TokS b) M M := fr_rf
  refine jr_aload_n (pc := 0) h dX4_faultPlace_0 rfl ?_
  refine gf_X4_12 (pc := 1) h dX4_faultPlace_1 (by assumption) (by omega) ?_
  refine iv_X4_22 (pc := 4) h hl hR dX4_faultPlace_4 ⟨(Nat.le_of_ble_eq_true rfl), (Nat.le_of_ble_eq_true rfl), (Nat.le_of_ble_eq_true rfl), (Nat.le_of_ble_eq_true rfl)⟩ (Nat.le_of_ble_eq_true rfl) (by assumption) (by omega) (s_X6_faultPlace X1) (fun v_4 n_4 M_4 hn_4 hp => ?_)
  obtain ⟨rfl, rfl, rfl⟩ := hp
  refine jr_iret (pc := 7) h hRt dX4_faultPlace_7 rfl (Nat.le_of_ble_eq_true rfl) (Nat.le_of_ble_eq_true rfl) ?_
  exact ⟨rfl, rfl, rfl⟩
set_option maxHeartbeats 1000000 in
set_option maxRecDepth 20000 in
theorem s_X4_write {l : Launch} {n : Nat} {M : jdM} {t b : Nat} {bs : Nat → Int} {p : TS} (E1 : Te M n t b bs p) (hby : ∀ i, -128 ≤ bs i ∧ bs i < 128) {a x : Int} (ha : 0 ≤ a ∧ a ≤ 900) (hx : -2147483648 ≤ x ∧ x < 2147483648) : Ct l yX4_write cX4_write 3 none rX4_write [.ref t, jI a, jI x] n M (fun vv n' M' => (vv = none ∧ n = n') ∧ Te M' n t b (wrB bs a x 4) p ∧ fr (TokS b) M M') := by
  refine Ct_of [some (.ref t), some (jI a), some (jI x)] (by decide) (Nat.le_of_ble_eq_true rfl) rfl (fun κ hl h hR hRt hmn hn0 => ?_)
  have h : Ok κ RX4 cX4_write 3 none := h
  obtain ⟨ht, hOt, X1, hPO, hsep⟩ := id E1
  obtain ⟨hnb, hOb, hYb, hNb, hSb, hKb⟩ := id X1
  have f1 : fr (TokS b) M M := fr_rf
  refine jr_aload_n (pc := 0) h dX4_write_0 rfl ?_
  refine gf_X4_12 (pc := 1) h dX4_write_1 (by assumption) (by omega) ?_
  refine jr_iload_n (pc := 4) h dX4_write_4 rfl ?_
  refine jr_iload_n (pc := 5) h dX4_write_5 rfl ?_
  refine iv_X4_18 (pc := 6) h hl hR dX4_write_6 ⟨(Nat.le_of_ble_eq_true rfl), (Nat.le_of_ble_eq_true rfl), (Nat.le_of_ble_eq_true rfl), (Nat.le_of_ble_eq_true rfl)⟩ (Nat.le_of_ble_eq_true rfl) (by assumption) (by omega) (s_X6_write X1 ha hx) (fun v_6 n_6 M_6 hn_6 hp => ?_)
  obtain ⟨⟨rfl, rfl⟩, X2, fx⟩ := hp
  refine jr_vret (pc := 9) h hRt dX4_write_9 (Nat.le_of_ble_eq_true rfl) (Nat.le_of_ble_eq_true rfl) ?_
  exact ⟨⟨rfl, rfl⟩, Te_tk E1 X2 fx hPO, fx⟩
