/-! 12: what changes: frames; Arrays.fill; Flight's writes -/
def fr (S : Nat → Prop) (M M' : jdM) : Prop := ∀ k, ¬ S k → M' k = M k
theorem fr_rf {S : Nat → Prop} {M : jdM} : fr S M M := fun _ _ => rfl
theorem fr_tr {S : Nat → Prop} {M M1 M2 : jdM} (h1 : fr S M M1) (h2 : fr S M1 M2) : fr S M M2 := fun k hk => (h2 k hk).trans (h1 k hk)
theorem fr_up {S : Nat → Prop} {M M1 : jdM} {k : Nat} {e : jdE} (h : M1 = up M k e) (hk : S k) : fr S M M1 := fun j hj => by rw [h]; exact up_ne (fun q => hj (q ▸ hk))
theorem fr_mo {S S' : Nat → Prop} {M M1 : jdM} (h : fr S M M1) (hs : ∀ k, S k → S' k) : fr S' M M1 := fun k hk => h k (fun q => hk (hs k q))
theorem up_up {α : Type} {f : Nat → α} {k : Nat} {a b : α} : up (up f k a) k b = up f k b := by
  funext j
  by_cases h : j = k
  · rw [h, up_eq, up_eq]
  · rw [up_ne h, up_ne h, up_ne h]
theorem up_id {α : Type} {f : Nat → α} {k : Nat} {a : α} (h : f k = a) : up f k a = f := by
  funext j
  by_cases q : j = k
  · rw [q, up_eq, h]
  · rw [up_ne q]
theorem jm_gen {κ : jC} {nL c sl n pc : Nat} {ls : List (Option Value)} {st : List Value} {X : jdM} (k : ∀ M1, M1 = X → J κ nL c sl n pc ls st M1) : J κ nL c sl n pc ls st X := k X rfl
theorem jm_eq {κ : jC} {nL c sl n pc : Nat} {ls : List (Option Value)} {st : List Value} {M M' : jdM} (e : M' = M) (k : J κ nL c sl n pc ls st M') : J κ nL c sl n pc ls st M := e ▸ k
theorem jls_eq {κ : jC} {nL c sl n pc : Nat} {ls ls' : List (Option Value)} {st : List Value} {M : jdM} (e : ls' = ls) (k : J κ nL c sl n pc ls' st M) : J κ nL c sl n pc ls st M := e ▸ k
set_option maxHeartbeats 1000000 in
set_option maxRecDepth 20000 in
theorem s_J7_fill_53178 {l : Launch} {n : Nat} {M : jdM} {k len : Nat} {f : Nat → Int} {v : Int} (hM : M k = jdA len f) (hk : k < n) (hlen : len < 100000) : Ct l yJ7_fill_53178 cJ7_fill_53178 4 none rJ7_fill_53178 [.ref k, jI v] n M (fun vv n' M' => vv = none ∧ n = n' ∧ M' = up M k (jdA len (fun j : Nat => if j < len then v else f j))) := by
  refine Ct_of [some (.ref k), some (jI v), none, none] (by decide) (Nat.le_of_ble_eq_true rfl) rfl (fun κ hl h hR hRt hmn hn0 => ?_)
  have h : Ok κ RJ7 cJ7_fill_53178 4 none := h
  have loop : ∀ (dq : Nat) (i : Int), (0 ≤ i ∧ i ≤ len) → (len - i).toNat < dq → J κ 4 0 0 n 5 [some (.ref k), some (jI v), some (jI i), some (jI (len : Int))] [] (up M k (jdA len (fun j : Nat => if (j : Int) < i then v else f j))) := by
    intro dq
    induction dq with
    | zero => intro i hi hd; omega
    | succ dq ih =>
      intro i hi hd
      have hA : (up M k (jdA len (fun j : Nat => if (j : Int) < i then v else f j))) k = _ := up_eq
      refine jr_iload_n (pc := 5) h dJ7_fill_53178_5 rfl ?_
      refine jr_iload_n (pc := 6) h dJ7_fill_53178_6 rfl ?_
      refine jr_icmp_ge (pc := 7) h 20 dJ7_fill_53178_7 (by decide) (by omega) (by omega) (fun c_7 => ?_) (fun c_7 => ?_)
      · skip
        refine jr_vret (pc := 20) h hRt dJ7_fill_53178_20 (Nat.le_of_ble_eq_true rfl) (Nat.le_of_ble_eq_true rfl) ?_
        refine ⟨rfl, rfl, ?_⟩
        refine congrArg (fun g => up M k (jdA len g)) ?_
        funext j
        by_cases q : j < len
        · rw [if_pos q, if_pos (by omega)]
        · rw [if_neg q, if_neg (by omega)]
      · skip
        refine jr_aload_n (pc := 10) h dJ7_fill_53178_10 rfl ?_
        refine jr_iload_n (pc := 11) h dJ7_fill_53178_11 rfl ?_
        refine jr_iload_n (pc := 12) h dJ7_fill_53178_12 rfl ?_
        refine jr_iast (pc := 13) h dJ7_fill_53178_13 (by assumption) (by omega) (by omega) ?_
        refine jr_iinc (pc := 14) h [_, _, _, _] dJ7_fill_53178_14 (by decide) rfl rfl ?_
        refine jr_goto (pc := 17) h 5 dJ7_fill_53178_17 (by decide) ?_
        rw [up_up, show up (fun j : Nat => if (j : Int) < i then v else f j) i.toNat v = fun j : Nat => if (j : Int) < i + 1 then v else f j by
          funext j
          by_cases q : j = i.toNat
          · rw [q, up_eq, if_pos (by omega)]
          · rw [up_ne q]
            by_cases q2 : (j : Int) < i
            · rw [if_pos q2, if_pos (by omega)]
            · rw [if_neg q2, if_neg (by omega)]]
        exact ih _ (by omega) (by omega)
  refine jr_iconst (pc := 0) h dJ7_fill_53178_0 ?_
  refine jr_istore_n (pc := 1) h [_, _, _, _] dJ7_fill_53178_1 (by decide) rfl ?_
  refine jr_aload_n (pc := 2) h dJ7_fill_53178_2 rfl ?_
  refine jr_alen (pc := 3) h dJ7_fill_53178_3 (by assumption) (by omega) ?_
  refine jr_istore_n (pc := 4) h [_, _, _, _] dJ7_fill_53178_4 (by decide) rfl ?_
  refine jm_eq (M' := up M k (jdA len (fun j : Nat => if (j : Int) < 0 then v else f j))) ?_ (loop _ 0 (by omega) (Nat.lt_succ_self _))
  rw [show (fun j : Nat => if (j : Int) < 0 then v else f j) = f from funext (fun j => if_neg (by omega))]
  exact up_id hM
set_option maxHeartbeats 1000000 in
set_option maxRecDepth 20000 in
theorem s_J7_fill_d0a16 {l : Launch} {n : Nat} {M : jdM} {k len : Nat} {f : Nat → Int} {v : Int} (hM : M k = jdL len f) (hk : k < n) (hlen : len < 100000) : Ct l yJ7_fill_d0a16 cJ7_fill_d0a16 5 none rJ7_fill_d0a16 [.ref k, jL v] n M (fun vv n' M' => vv = none ∧ n = n' ∧ M' = up M k (jdL len (fun j : Nat => if j < len then v else f j))) := by
  refine Ct_of [some (.ref k), some (jL v), none, none, none] (by decide) (Nat.le_of_ble_eq_true rfl) rfl (fun κ hl h hR hRt hmn hn0 => ?_)
  have h : Ok κ RJ7 cJ7_fill_d0a16 5 none := h
  have loop : ∀ (dq : Nat) (i : Int), (0 ≤ i ∧ i ≤ len) → (len - i).toNat < dq → J κ 5 0 0 n 6 [some (.ref k), some (jL v), none, some (jI i), some (jI (len : Int))] [] (up M k (jdL len (fun j : Nat => if (j : Int) < i then v else f j))) := by
    intro dq
    induction dq with
    | zero => intro i hi hd; omega
    | succ dq ih =>
      intro i hi hd
      have hA : (up M k (jdL len (fun j : Nat => if (j : Int) < i then v else f j))) k = _ := up_eq
      refine jr_iload_n (pc := 6) h dJ7_fill_d0a16_6 rfl ?_
      refine jr_iload (pc := 7) h dJ7_fill_d0a16_7 rfl ?_
      refine jr_icmp_ge (pc := 9) h 22 dJ7_fill_d0a16_9 (by decide) (by omega) (by omega) (fun c_9 => ?_) (fun c_9 => ?_)
      · skip
        refine jr_vret (pc := 22) h hRt dJ7_fill_d0a16_22 (Nat.le_of_ble_eq_true rfl) (Nat.le_of_ble_eq_true rfl) ?_
        refine ⟨rfl, rfl, ?_⟩
        refine congrArg (fun g => up M k (jdL len g)) ?_
        funext j
        by_cases q : j < len
        · rw [if_pos q, if_pos (by omega)]
        · rw [if_neg q, if_neg (by omega)]
      · skip
        refine jr_aload_n (pc := 12) h dJ7_fill_d0a16_12 rfl ?_
        refine jr_iload_n (pc := 13) h dJ7_fill_d0a16_13 rfl ?_
        refine jr_lload_n (pc := 14) h dJ7_fill_d0a16_14 rfl ?_
        refine jr_last (pc := 15) h dJ7_fill_d0a16_15 (by assumption) (by omega) (by omega) ?_
        refine jr_iinc (pc := 16) h [_, _, _, _, _] dJ7_fill_d0a16_16 (by decide) rfl rfl ?_
        refine jr_goto (pc := 19) h 6 dJ7_fill_d0a16_19 (by decide) ?_
        rw [up_up, show up (fun j : Nat => if (j : Int) < i then v else f j) i.toNat v = fun j : Nat => if (j : Int) < i + 1 then v else f j by
          funext j
          by_cases q : j = i.toNat
          · rw [q, up_eq, if_pos (by omega)]
          · rw [up_ne q]
            by_cases q2 : (j : Int) < i
            · rw [if_pos q2, if_pos (by omega)]
            · rw [if_neg q2, if_neg (by omega)]]
        exact ih _ (by omega) (by omega)
  refine jr_iconst (pc := 0) h dJ7_fill_d0a16_0 ?_
  refine jr_istore_n (pc := 1) h [_, _, _, _, _] dJ7_fill_d0a16_1 (by decide) rfl ?_
  refine jr_aload_n (pc := 2) h dJ7_fill_d0a16_2 rfl ?_
  refine jr_alenL (pc := 3) h dJ7_fill_d0a16_3 (by assumption) (by omega) ?_
  refine jr_istore (pc := 4) h [_, _, _, _, _] dJ7_fill_d0a16_4 (by decide) rfl ?_
  refine jm_eq (M' := up M k (jdL len (fun j : Nat => if (j : Int) < 0 then v else f j))) ?_ (loop _ 0 (by omega) (Nat.lt_succ_self _))
  rw [show (fun j : Nat => if (j : Int) < 0 then v else f j) = f from funext (fun j => if_neg (by omega))]
  exact up_id hM
def FlS (f : Nat) : Nat → Prop := fun k => f < k ∧ k ≤ f + 5
theorem Fl_ct {M M1 : jdM} {n f : Nat} {ct td bk si ld ct' : Nat → Int} (h : Fl M n f ct td bk si ld) (h1 : M1 = up M (f + 1) (jdA 13 ct')) (r : ∀ j, 0 ≤ ct' j ∧ ct' j ≤ 8) : Fl M1 n f ct' td bk si ld := by
  obtain ⟨a, b, c, d, e, g, i, -, k⟩ := h
  subst h1
  refine ⟨a, ?_, up_eq, ?_, ?_, ?_, ?_, r, k⟩ <;> (rw [up_ne (by omega)]; assumption)
theorem Fl_td {M M1 : jdM} {n f : Nat} {ct td bk si ld td' : Nat → Int} (h : Fl M n f ct td bk si ld) (h1 : M1 = up M (f + 2) (jdA 1248 td')) (r : ∀ j, 0 ≤ td' j ∧ td' j ≤ 999) (r0 : td' 0 ≤ 40) : Fl M1 n f ct td' bk si ld := by
  obtain ⟨a, b, c, d, e, g, i, j, -, -, k⟩ := h
  subst h1
  refine ⟨a, ?_, ?_, up_eq, ?_, ?_, ?_, j, r, r0, k⟩ <;> (rw [up_ne (by omega)]; assumption)
theorem Fl_bk {M M1 : jdM} {n f : Nat} {ct td bk si ld bk' : Nat → Int} (h : Fl M n f ct td bk si ld) (h1 : M1 = up M (f + 3) (jdA 41 bk')) (r : ∀ j, -1 ≤ bk' j ∧ bk' j ≤ 8) : Fl M1 n f ct td bk' si ld := by
  obtain ⟨a, b, c, d, e, g, i, j, k, l, -, m⟩ := h
  subst h1
  refine ⟨a, ?_, ?_, ?_, up_eq, ?_, ?_, j, k, l, r, m⟩ <;> (rw [up_ne (by omega)]; assumption)
theorem Fl_si {M M1 : jdM} {n f : Nat} {ct td bk si ld si' : Nat → Int} (h : Fl M n f ct td bk si ld) (h1 : M1 = up M (f + 4) (jdA 41 si')) (r : ∀ j, 0 ≤ si' j ∧ si' j ≤ 9) : Fl M1 n f ct td bk si' ld := by
  obtain ⟨a, b, c, d, e, g, i, j, k, l, m, -, o⟩ := h
  subst h1
  refine ⟨a, ?_, ?_, ?_, ?_, up_eq, ?_, j, k, l, m, r, o⟩ <;> (rw [up_ne (by omega)]; assumption)
theorem Fl_ld {M M1 : jdM} {n f : Nat} {ct td bk si ld ld' : Nat → Int} (h : Fl M n f ct td bk si ld) (h1 : M1 = up M (f + 5) (jdA 8 ld')) (r : ∀ j, 0 ≤ ld' j ∧ ld' j ≤ 9999) : Fl M1 n f ct td bk si ld' := by
  obtain ⟨a, b, c, d, e, g, i, j, k, l, m, o, -⟩ := h
  subst h1
  refine ⟨a, ?_, ?_, ?_, ?_, ?_, up_eq, j, k, l, m, o, r⟩ <;> (rw [up_ne (by omega)]; assumption)
theorem Fl_fr {M M1 : jdM} {n n1 f : Nat} {ct td bk si ld : Nat → Int} {S : Nat → Prop} (h : Fl M n f ct td bk si ld) (h1 : fr S M M1) (hn : n ≤ n1) (hs : ∀ k, f ≤ k → k ≤ f + 5 → ¬ S k) : Fl M1 n1 f ct td bk si ld := by
  obtain ⟨a, b, c, d, e, g, i, j⟩ := h
  refine ⟨by omega, ?_, ?_, ?_, ?_, ?_, ?_, j⟩ <;> (rw [h1 _ (hs _ (by omega) (by omega))]; assumption)
/-- the column of the line that is open -/
def c_ix (ct : Nat → Int) (a b : Int) : Nat := ((a * 8 + ct a.toNat) * 12 + b).toNat
set_option maxHeartbeats 1000000 in
set_option maxRecDepth 20000 in
theorem s_X1_put {l : Launch} {n : Nat} {M : jdM} {f : Nat} {ct td bk si ld : Nat → Int} (hF : Fl M n f ct td bk si ld) {a b x : Int} (ha : 0 ≤ a ∧ a < 13) (hb : 0 ≤ b ∧ b < 12) (hc : ct a.toNat < 8) (hx : -2147483648 ≤ x ∧ x < 2147483648) : Ct l yX1_put cX1_put 5 none rX1_put [.ref f, jI a, jI b, jI x] n M (fun vv n' M' => vv = none ∧ n = n' ∧ (M' = up M (f + 2) (jdA 1248 (up td (c_ix ct a b) x)))) := by
  refine Ct_of [some (.ref f), some (jI a), some (jI b), some (jI x), none] (by decide) (Nat.le_of_ble_eq_true rfl) rfl (fun κ hl h hR hRt hmn hn0 => ?_)
  have h : Ok κ RX1 cX1_put 5 none := h
  obtain ⟨hn, hO, hA, hB, hC, hD, hE, rA, rB, r0, rC, rD, rE⟩ := id hF
  have ra := rA a.toNat
  refine jr_iload_n (pc := 0) h dX1_put_0 rfl ?_
  refine jr_if_lt (pc := 1) h 20 dX1_put_1 (by decide) (by omega) (fun c_1 => ?_) (fun c_1 => ?_)
  · skip
    exfalso; omega
  · skip
    refine jr_iload_n (pc := 4) h dX1_put_4 rfl ?_
    refine jr_bipush (pc := 5) h dX1_put_5 bp_13 ?_
    refine jr_icmp_ge (pc := 7) h 20 dX1_put_7 (by decide) (by omega) (by omega) (fun c_7 => ?_) (fun c_7 => ?_)
    · skip
      exfalso; omega
    · skip
      refine jr_iload_n (pc := 10) h dX1_put_10 rfl ?_
      refine jr_if_lt (pc := 11) h 20 dX1_put_11 (by decide) (by omega) (fun c_11 => ?_) (fun c_11 => ?_)
      · skip
        exfalso; omega
      · skip
        refine jr_iload_n (pc := 14) h dX1_put_14 rfl ?_
        refine jr_bipush (pc := 15) h dX1_put_15 bp_12 ?_
        refine jr_icmp_lt (pc := 17) h 21 dX1_put_17 (by decide) (by omega) (by omega) (fun c_17 => ?_) (fun c_17 => ?_)
        · skip
          refine jr_aload_n (pc := 21) h dX1_put_21 rfl ?_
          refine gf_X1_9 (pc := 22) h dX1_put_22 (by assumption) (by omega) ?_
          refine jr_iload_n (pc := 25) h dX1_put_25 rfl ?_
          refine jr_iald (pc := 26) h dX1_put_26 (by assumption) (by omega) (by omega) ?_
          refine jr_istore (pc := 27) h [_, _, _, _, _] dX1_put_27 (by decide) rfl ?_
          refine jr_iload (pc := 29) h dX1_put_29 rfl ?_
          refine jr_if_lt (pc := 31) h 59 dX1_put_31 (by decide) (by omega) (fun c_31 => ?_) (fun c_31 => ?_)
          · skip
            refine jr_vret (pc := 59) h hRt dX1_put_59 (Nat.le_of_ble_eq_true rfl) (Nat.le_of_ble_eq_true rfl) ?_
            first | exact ⟨rfl, rfl, rfl⟩ | (exfalso; omega)
          · skip
            refine jr_iload (pc := 34) h dX1_put_34 rfl ?_
            refine jr_bipush (pc := 36) h dX1_put_36 bp_8 ?_
            refine jr_icmp_ge (pc := 38) h 59 dX1_put_38 (by decide) (by omega) (by omega) (fun c_38 => ?_) (fun c_38 => ?_)
            · skip
              refine jr_vret (pc := 59) h hRt dX1_put_59 (Nat.le_of_ble_eq_true rfl) (Nat.le_of_ble_eq_true rfl) ?_
              first | exact ⟨rfl, rfl, rfl⟩ | (exfalso; omega)
            · skip
              refine jr_aload_n (pc := 41) h dX1_put_41 rfl ?_
              refine gf_X1_15 (pc := 42) h dX1_put_42 (by assumption) (by omega) ?_
              refine jr_iload_n (pc := 45) h dX1_put_45 rfl ?_
              refine jr_bipush (pc := 46) h dX1_put_46 bp_8 ?_
              refine jr_imul (pc := 48) h dX1_put_48 ?_
              refine jr_iload (pc := 49) h dX1_put_49 rfl ?_
              refine jr_iadd (pc := 51) h dX1_put_51 ?_
              refine jr_bipush (pc := 52) h dX1_put_52 bp_12 ?_
              refine jr_imul (pc := 54) h dX1_put_54 ?_
              refine jr_iload_n (pc := 55) h dX1_put_55 rfl ?_
              refine jr_iadd (pc := 56) h dX1_put_56 ?_
              refine jr_iload_n (pc := 57) h dX1_put_57 rfl ?_
              refine jr_iast (pc := 58) h dX1_put_58 (by assumption) (by omega) (by omega) ?_
              refine jr_vret (pc := 59) h hRt dX1_put_59 (Nat.le_of_ble_eq_true rfl) (Nat.le_of_ble_eq_true rfl) ?_
              first | exact ⟨rfl, rfl, rfl⟩ | (exfalso; omega)
        · skip
          exfalso; omega
set_option maxHeartbeats 1000000 in
set_option maxRecDepth 20000 in
theorem s_X1_close {l : Launch} {n : Nat} {M : jdM} {f : Nat} {ct td bk si ld : Nat → Int} (hF : Fl M n f ct td bk si ld) {a : Int} (ha : 0 ≤ a ∧ a < 13) (hc : ct a.toNat < (jtab 0).2.2 a.toNat) : Ct l yX1_close cX1_close 2 none rX1_close [.ref f, jI a] n M (fun vv n' M' => vv = none ∧ n = n' ∧ (M' = up M (f + 1) (jdA 13 (up ct a.toNat (ct a.toNat + 1))))) := by
  refine Ct_of [some (.ref f), some (jI a)] (by decide) (Nat.le_of_ble_eq_true rfl) rfl (fun κ hl h hR hRt hmn hn0 => ?_)
  have h : Ok κ RX1 cX1_close 2 none := h
  obtain ⟨hn, hO, hA, hB, hC, hD, hE, rA, rB, r0, rC, rD, rE⟩ := id hF
  have ra := rA a.toNat
  refine jr_aload_n (pc := 0) h dX1_close_0 rfl ?_
  refine jr_iload_n (pc := 1) h dX1_close_1 rfl ?_
  refine iv_X1_40 (pc := 2) h hl hR dX1_close_2 ⟨(Nat.le_of_ble_eq_true rfl), (Nat.le_of_ble_eq_true rfl), (Nat.le_of_ble_eq_true rfl), (Nat.le_of_ble_eq_true rfl)⟩ (Nat.le_of_ble_eq_true rfl) (by assumption) (by omega) (s_X1_isFull hF (by omega)) (fun v_2 n_2 M_2 hn_2 hp => ?_)
  obtain ⟨⟨rfl, rfl, rfl⟩, gr_2⟩ := hp
  have z0 : bz (a < 0 ∨ 13 ≤ a ∨ (jtab 0).2.2 a.toNat ≤ ct a.toNat) = 0 := bz_f (by omega)
  rw [z0]
  refine jr_if_ne (pc := 5) h 18 dX1_close_5 (by decide) (by omega) (fun c_5 => ?_) (fun c_5 => ?_)
  · skip
    refine jr_vret (pc := 18) h hRt dX1_close_18 (Nat.le_of_ble_eq_true rfl) (Nat.le_of_ble_eq_true rfl) ?_
    first | exact ⟨rfl, rfl, rfl⟩ | (exfalso; omega)
  · skip
    refine jr_aload_n (pc := 8) h dX1_close_8 rfl ?_
    refine gf_X1_9 (pc := 9) h dX1_close_9 (by assumption) (by omega) ?_
    refine jr_iload_n (pc := 12) h dX1_close_12 rfl ?_
    refine jr_dup2 (pc := 13) h dX1_close_13 rfl rfl ?_
    refine jr_iald (pc := 14) h dX1_close_14 (by assumption) (by omega) (by omega) ?_
    refine jr_iconst (pc := 15) h dX1_close_15 ?_
    refine jr_iadd (pc := 16) h dX1_close_16 ?_
    refine jr_iast (pc := 17) h dX1_close_17 (by assumption) (by omega) (by omega) ?_
    refine jr_vret (pc := 18) h hRt dX1_close_18 (Nat.le_of_ble_eq_true rfl) (Nat.le_of_ble_eq_true rfl) ?_
    first | exact ⟨rfl, rfl, rfl⟩ | (exfalso; omega)
set_option maxHeartbeats 1000000 in
set_option maxRecDepth 20000 in
theorem s_X1_forget {l : Launch} {n : Nat} {M : jdM} {f : Nat} {ct td bk si ld : Nat → Int} (hF : Fl M n f ct td bk si ld) : Ct l yX1_forget cX1_forget 1 none rX1_forget [.ref f] n M (fun vv n' M' => vv = none ∧ n = n' ∧ (M' = up M (f + 1) (jdA 13 (fun j => if j < 13 then 0 else ct j)))) := by
  refine Ct_of [some (.ref f)] (by decide) (Nat.le_of_ble_eq_true rfl) rfl (fun κ hl h hR hRt hmn hn0 => ?_)
  have h : Ok κ RX1 cX1_forget 1 none := h
  obtain ⟨hn, hO, hA, hB, hC, hD, hE, rA, rB, r0, rC, rD, rE⟩ := id hF
  refine jr_aload_n (pc := 0) h dX1_forget_0 rfl ?_
  refine gf_X1_9 (pc := 1) h dX1_forget_1 (by assumption) (by omega) ?_
  refine jr_iconst (pc := 4) h dX1_forget_4 ?_
  refine iv_X1_27 (pc := 5) h hl hR dX1_forget_5 ⟨(Nat.le_of_ble_eq_true rfl), (Nat.le_of_ble_eq_true rfl), (Nat.le_of_ble_eq_true rfl), (Nat.le_of_ble_eq_true rfl)⟩ (Nat.le_of_ble_eq_true rfl) (s_J7_fill_53178 (by assumption) (by omega) (by omega)) (fun v_5 n_5 M_5 hn_5 hp => ?_)
  obtain ⟨rfl, rfl, rfl⟩ := hp
  refine jr_vret (pc := 8) h hRt dX1_forget_8 (Nat.le_of_ble_eq_true rfl) (Nat.le_of_ble_eq_true rfl) ?_
  exact ⟨rfl, rfl, rfl⟩
set_option maxHeartbeats 1000000 in
set_option maxRecDepth 20000 in
theorem s_X1_open {l : Launch} {n : Nat} {M : jdM} {f : Nat} {ct td bk si ld : Nat → Int} (hF : Fl M n f ct td bk si ld) {a : Int} (ha : 0 ≤ a ∧ a < 13) (hc : ct a.toNat < 8) : Ct l yX1_open cX1_open 3 none rX1_open [.ref f, jI a] n M (fun vv n' M' => vv = none ∧ n = n' ∧ (M' = up M (f + 2) (jdA 1248 (fun j : Nat => if c_ix ct a 0 ≤ j ∧ j < c_ix ct a 0 + 12 then 0 else td j)))) := by
  refine Ct_of [some (.ref f), some (jI a), none] (by decide) (Nat.le_of_ble_eq_true rfl) rfl (fun κ hl h hR hRt hmn hn0 => ?_)
  have h : Ok κ RX1 cX1_open 3 none := h
  obtain ⟨hn, hO, hA, hB, hC, hD, hE, rA, rB, r0, rC, rD, rE⟩ := id hF
  have ra := rA a.toNat
  have loop : ∀ (dq : Nat) (i : Int), (0 ≤ i ∧ i ≤ 12) → (12 - i).toNat < dq → J κ 3 0 0 n 2 [some (.ref f), some (jI a), some (jI i)] [] (up M (f + 2) (jdA 1248 (fun j : Nat => if c_ix ct a 0 ≤ j ∧ (j : Int) < c_ix ct a 0 + i then 0 else td j))) := by
    intro dq
    induction dq with
    | zero => intro i hi hd; omega
    | succ dq ih =>
      intro i hi hd
      have hFi : Fl (up M (f + 2) (jdA 1248 (fun j : Nat => if c_ix ct a 0 ≤ j ∧ (j : Int) < c_ix ct a 0 + i then 0 else td j))) n f ct (fun j : Nat => if c_ix ct a 0 ≤ j ∧ (j : Int) < c_ix ct a 0 + i then 0 else td j) bk si ld := Fl_td hF rfl (fun j => by have := rB j; split <;> omega) (by have := rB 0; split <;> omega)
      obtain ⟨hn, hO, hA, hB, hC, hD, hE, rA, rB, r0, rC, rD, rE⟩ := id hFi
      refine jr_iload_n (pc := 2) h dX1_open_2 rfl ?_
      refine jr_bipush (pc := 3) h dX1_open_3 bp_12 ?_
      refine jr_icmp_ge (pc := 5) h 21 dX1_open_5 (by decide) (by omega) (by omega) (fun c_5 => ?_) (fun c_5 => ?_)
      · skip
        refine jr_vret (pc := 21) h hRt dX1_open_21 (Nat.le_of_ble_eq_true rfl) (Nat.le_of_ble_eq_true rfl) ?_
        refine ⟨rfl, rfl, congrArg (fun g => up M (f + 2) (jdA 1248 g)) (funext fun j => ?_)⟩
        by_cases q : c_ix ct a 0 ≤ j ∧ j < c_ix ct a 0 + 12
        · rw [if_pos q, if_pos (by omega)]
        · rw [if_neg q, if_neg (by omega)]
      · skip
        refine jr_aload_n (pc := 8) h dX1_open_8 rfl ?_
        refine jr_iload_n (pc := 9) h dX1_open_9 rfl ?_
        refine jr_iload_n (pc := 10) h dX1_open_10 rfl ?_
        refine jr_iconst (pc := 11) h dX1_open_11 ?_
        refine iv_X1_36 (pc := 12) h hl hR dX1_open_12 ⟨(Nat.le_of_ble_eq_true rfl), (Nat.le_of_ble_eq_true rfl), (Nat.le_of_ble_eq_true rfl), (Nat.le_of_ble_eq_true rfl)⟩ (Nat.le_of_ble_eq_true rfl) (by assumption) (by omega) (s_X1_put hFi (by omega) (by omega) (by omega) (by omega)) (fun v_12 n_12 M_12 hn_12 hp => ?_)
        obtain ⟨rfl, rfl, rfl⟩ := hp
        refine jr_iinc (pc := 15) h [_, _, _] dX1_open_15 (by decide) rfl rfl ?_
        refine jr_goto (pc := 18) h 2 dX1_open_18 (by decide) ?_
        rw [up_up, show up (fun j : Nat => if c_ix ct a 0 ≤ j ∧ (j : Int) < c_ix ct a 0 + i then 0 else td j) (c_ix ct a i) 0 = (fun j : Nat => if c_ix ct a 0 ≤ j ∧ (j : Int) < c_ix ct a 0 + (i + 1) then 0 else td j) by
          funext j
          have e1 : (c_ix ct a i : Int) = c_ix ct a 0 + i := by unfold c_ix; omega
          by_cases q : j = c_ix ct a i
          · rw [q, up_eq, if_pos (by omega)]
          · rw [up_ne q]
            by_cases q2 : c_ix ct a 0 ≤ j ∧ (j : Int) < c_ix ct a 0 + i
            · rw [if_pos q2, if_pos (by omega)]
            · rw [if_neg q2, if_neg (by omega)]]
        exact ih _ (by omega) (by omega)
  refine jr_iconst (pc := 0) h dX1_open_0 ?_
  refine jr_istore_n (pc := 1) h [_, _, _] dX1_open_1 (by decide) rfl ?_
  refine jm_eq (M' := up M (f + 2) (jdA 1248 (fun j : Nat => if c_ix ct a 0 ≤ j ∧ (j : Int) < c_ix ct a 0 + 0 then 0 else td j))) ?_ (loop _ 0 (by omega) (Nat.lt_succ_self _))
  rw [show (fun j : Nat => if c_ix ct a 0 ≤ j ∧ (j : Int) < c_ix ct a 0 + 0 then 0 else td j) = td from funext (fun j => if_neg (by omega))]
  exact up_id hB
theorem r7 {td : Nat → Int} (k : Nat) (v : Int) (r : ∀ j, 0 ≤ td j ∧ td j ≤ 999) (hv : 0 ≤ v ∧ v ≤ 999) : ∀ j, 0 ≤ up td k v j ∧ up td k v j ≤ 999 := by
  intro j
  by_cases q : j = k
  · rw [q, up_eq]; exact hv
  · rw [up_ne q]; exact r j
set_option maxHeartbeats 1000000 in
set_option maxRecDepth 20000 in
theorem s_X1_addLiking {l : Launch} {n : Nat} {M : jdM} {f : Nat} {ct td bk si ld : Nat → Int} (hF : Fl M n f ct td bk si ld) {a b : Int} (ha : 0 ≤ a ∧ a ≤ 999) (hb : 0 ≤ b ∧ b ≤ 999) (hc : ct 7 < 8) (hk : c_get td 7 (ct 7) 3 ≤ 3) : Ct l yX1_addLiking cX1_addLiking 4 none rX1_addLiking [.ref f, jI a, jI b] n M (fun vv n' M' => vv = none ∧ n = n' ∧ (M' = up M (f + 2) (jdA 1248 (up (up (up td (c_ix ct 7 (4 + 2 * c_get td 7 (ct 7) 3)) a) (c_ix ct 7 (4 + 2 * c_get td 7 (ct 7) 3 + 1)) b) (c_ix ct 7 3) (c_get td 7 (ct 7) 3 + 1))))) := by
  refine Ct_of [some (.ref f), some (jI a), some (jI b), none] (by decide) (Nat.le_of_ble_eq_true rfl) rfl (fun κ hl h hR hRt hmn hn0 => ?_)
  have h : Ok κ RX1 cX1_addLiking 4 none := h
  obtain ⟨hn, hO, hA, hB, hC, hD, hE, rA, rB, r0, rC, rD, rE⟩ := id hF
  have a7 := rA 7
  have ec : c_count ct 7 = ct 7 := by unfold c_count; rw [if_pos (by omega)]; rfl
  have gk := c_getr rB 7 (ct 7) 3
  refine jr_aload_n (pc := 0) h dX1_addLiking_0 rfl ?_
  refine jr_bipush (pc := 1) h dX1_addLiking_1 bp_7 ?_
  refine jr_aload_n (pc := 3) h dX1_addLiking_3 rfl ?_
  refine jr_bipush (pc := 4) h dX1_addLiking_4 bp_7 ?_
  refine iv_X1_44 (pc := 6) h hl hR dX1_addLiking_6 ⟨(Nat.le_of_ble_eq_true rfl), (Nat.le_of_ble_eq_true rfl), (Nat.le_of_ble_eq_true rfl), (Nat.le_of_ble_eq_true rfl)⟩ (Nat.le_of_ble_eq_true rfl) (by assumption) (by omega) (s_X1_count hF (by omega)) (fun v_6 n_6 M_6 hn_6 hp => ?_)
  obtain ⟨⟨rfl, rfl, rfl⟩, gr_6⟩ := hp
  rw [ec]
  refine jr_iconst (pc := 9) h dX1_addLiking_9 ?_
  refine iv_X1_48 (pc := 10) h hl hR dX1_addLiking_10 ⟨(Nat.le_of_ble_eq_true rfl), (Nat.le_of_ble_eq_true rfl), (Nat.le_of_ble_eq_true rfl), (Nat.le_of_ble_eq_true rfl)⟩ (Nat.le_of_ble_eq_true rfl) (by assumption) (by omega) (s_X1_get hF (by omega) (by omega) (by omega)) (fun v_10 n_10 M_10 hn_10 hp => ?_)
  obtain ⟨⟨rfl, rfl, rfl⟩, gr_10⟩ := hp
  refine jr_istore_n (pc := 13) h [_, _, _, _] dX1_addLiking_13 (by decide) rfl ?_
  refine jr_aload_n (pc := 14) h dX1_addLiking_14 rfl ?_
  refine jr_bipush (pc := 15) h dX1_addLiking_15 bp_7 ?_
  refine jr_iconst (pc := 17) h dX1_addLiking_17 ?_
  refine jr_iconst (pc := 18) h dX1_addLiking_18 ?_
  refine jr_iload_n (pc := 19) h dX1_addLiking_19 rfl ?_
  refine jr_imul (pc := 20) h dX1_addLiking_20 ?_
  refine jr_iadd (pc := 21) h dX1_addLiking_21 ?_
  refine jr_iload_n (pc := 22) h dX1_addLiking_22 rfl ?_
  refine iv_X1_36 (pc := 23) h hl hR dX1_addLiking_23 ⟨(Nat.le_of_ble_eq_true rfl), (Nat.le_of_ble_eq_true rfl), (Nat.le_of_ble_eq_true rfl), (Nat.le_of_ble_eq_true rfl)⟩ (Nat.le_of_ble_eq_true rfl) (by assumption) (by omega) (s_X1_put hF (by omega) (by omega) (by simpa using hc) (by omega)) (fun v_23 n_23 M_23 hn_23 hp => ?_)
  obtain ⟨rfl, rfl, hM23⟩ := hp
  have hF2 := Fl_td hF hM23 (r7 _ _ hF.2.2.2.2.2.2.2.2.1 (by omega)) (by rw [up_ne (by unfold c_ix; have := rA (Int.toNat 7); omega)]; exact hF.2.2.2.2.2.2.2.2.2.1)
  obtain ⟨hn, hO, hA, hB, hC, hD, hE, rA, rB, r0, rC, rD, rE⟩ := id hF2
  refine jr_aload_n (pc := 26) h dX1_addLiking_26 rfl ?_
  refine jr_bipush (pc := 27) h dX1_addLiking_27 bp_7 ?_
  refine jr_iconst (pc := 29) h dX1_addLiking_29 ?_
  refine jr_iconst (pc := 30) h dX1_addLiking_30 ?_
  refine jr_iload_n (pc := 31) h dX1_addLiking_31 rfl ?_
  refine jr_imul (pc := 32) h dX1_addLiking_32 ?_
  refine jr_iadd (pc := 33) h dX1_addLiking_33 ?_
  refine jr_iconst (pc := 34) h dX1_addLiking_34 ?_
  refine jr_iadd (pc := 35) h dX1_addLiking_35 ?_
  refine jr_iload_n (pc := 36) h dX1_addLiking_36 rfl ?_
  refine iv_X1_36 (pc := 37) h hl hR dX1_addLiking_37 ⟨(Nat.le_of_ble_eq_true rfl), (Nat.le_of_ble_eq_true rfl), (Nat.le_of_ble_eq_true rfl), (Nat.le_of_ble_eq_true rfl)⟩ (Nat.le_of_ble_eq_true rfl) (by assumption) (by omega) (s_X1_put hF2 (by omega) (by omega) (by simpa using hc) (by omega)) (fun v_37 n_37 M_37 hn_37 hp => ?_)
  obtain ⟨rfl, rfl, hM37⟩ := hp
  have hF3 := Fl_td hF2 hM37 (r7 _ _ hF2.2.2.2.2.2.2.2.2.1 (by omega)) (by rw [up_ne (by unfold c_ix; have := rA (Int.toNat 7); omega)]; exact hF2.2.2.2.2.2.2.2.2.2.1)
  obtain ⟨hn, hO, hA, hB, hC, hD, hE, rA, rB, r0, rC, rD, rE⟩ := id hF3
  refine jr_aload_n (pc := 40) h dX1_addLiking_40 rfl ?_
  refine jr_bipush (pc := 41) h dX1_addLiking_41 bp_7 ?_
  refine jr_iconst (pc := 43) h dX1_addLiking_43 ?_
  refine jr_iload_n (pc := 44) h dX1_addLiking_44 rfl ?_
  refine jr_iconst (pc := 45) h dX1_addLiking_45 ?_
  refine jr_iadd (pc := 46) h dX1_addLiking_46 ?_
  refine iv_X1_36 (pc := 47) h hl hR dX1_addLiking_47 ⟨(Nat.le_of_ble_eq_true rfl), (Nat.le_of_ble_eq_true rfl), (Nat.le_of_ble_eq_true rfl), (Nat.le_of_ble_eq_true rfl)⟩ (Nat.le_of_ble_eq_true rfl) (by assumption) (by omega) (s_X1_put hF3 (by omega) (by omega) (by simpa using hc) (by omega)) (fun v_47 n_47 M_47 hn_47 hp => ?_)
  obtain ⟨rfl, rfl, hM47⟩ := hp
  refine jr_vret (pc := 50) h hRt dX1_addLiking_50 (Nat.le_of_ble_eq_true rfl) (Nat.le_of_ble_eq_true rfl) ?_
  refine ⟨rfl, rfl, ?_⟩
  rw [hM47, hM37, hM23, up_up, up_up]
