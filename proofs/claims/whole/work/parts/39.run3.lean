/-! 39: Run: who gets what -/
def mostG (L : Int → Int) (a k : Int) : Int := if (if a = -1 then 0 else L a) < L k then k else a
theorem mostF_e {L : Int → Int} : mostF L = foldZ (mostG L) (-1) 4 := rfl
theorem mostG_r {L : Int → Int} {k : Nat} : -1 ≤ foldZ (mostG L) (-1) k ∧ foldZ (mostG L) (-1) k < k := mostF_r
set_option maxHeartbeats 2000000 in
set_option maxRecDepth 20000 in
theorem s_X3_mostLeft {l : Launch} {n : Nat} {M : jdM} {r : Nat} {g sp sk fa go : Nat → Int} (hRn : Rn M n r g sp sk fa go) {t : Int} (ht : 0 ≤ t ∧ t ≤ 1) (hsk : ∀ k : Int, 0 ≤ k → k < 4 → -100000 ≤ c_left sk t k ∧ c_left sk t k ≤ 100000) : Ct l yX3_mostLeft cX3_mostLeft 4 (some .int) rX3_mostLeft [.ref r, jI t] n M (fun vv n' M' => (vv = some (jI (mostF (fun k => c_left sk t k))) ∧ n = n' ∧ M = M') ∧ (-1) ≤ (mostF (fun k => c_left sk t k)) ∧ (mostF (fun k => c_left sk t k)) ≤ 3) := by
  refine Ct_of [some (.ref r), some (jI t), none, none] (by decide) (Nat.le_of_ble_eq_true rfl) rfl (fun κ hl h hR hRt hmn hn0 => ?_)
  have h : Ok κ RX3 cX3_mostLeft 4 (some .int) := h
  obtain ⟨hn, hO, hA, hB, hC, hD⟩ := id hRn
  have loop : ∀ (dq : Nat) (x i : Int), (0 ≤ i ∧ i ≤ 4) → (x = foldZ (mostG (fun k => c_left sk t k)) (-1) i.toNat) → (4 - i).toNat < dq → J κ 4 0 0 n 4 [some (.ref r), some (jI t), some (jI x), some (jI i)] [] M := by
    intro dq
    induction dq with
    | zero => intro x i hi hx hd; omega
    | succ dq ih =>
      intro x i hi hx hd
      have xr := mostG_r (L := fun k => c_left sk t k) (k := i.toNat)
      rw [← hx] at xr
      refine jr_iload_n (pc := 4) h dX3_mostLeft_4 rfl ?_
      refine jr_iconst (pc := 5) h dX3_mostLeft_5 ?_
      refine jr_icmp_ge (pc := 6) h 41 dX3_mostLeft_6 (by decide) (by omega) (by omega) (fun c_6 => ?_) (fun c_6 => ?_)
      · skip
        refine jr_iload_n (pc := 41) h dX3_mostLeft_41 rfl ?_
        refine jr_iret (pc := 42) h hRt dX3_mostLeft_42 rfl (Nat.le_of_ble_eq_true rfl) (Nat.le_of_ble_eq_true rfl) ?_
        have e : i = 4 := by omega
        subst e
        refine ⟨⟨ji_c hx, rfl, rfl⟩, ?_⟩
        have := mostF_b (L := fun k => c_left sk t k)
        omega
      · skip
        have ri := hsk i (by omega) (by omega)
        refine jr_aload_n (pc := 9) h dX3_mostLeft_9 rfl ?_
        refine jr_iload_n (pc := 10) h dX3_mostLeft_10 rfl ?_
        refine jr_iload_n (pc := 11) h dX3_mostLeft_11 rfl ?_
        refine iv_X3_99 (pc := 12) h hl hR dX3_mostLeft_12 ⟨(Nat.le_of_ble_eq_true rfl), (Nat.le_of_ble_eq_true rfl), (Nat.le_of_ble_eq_true rfl), (Nat.le_of_ble_eq_true rfl)⟩ (Nat.le_of_ble_eq_true rfl) (by assumption) (by omega) (s_X3_leftOf hRn (by omega) (by omega)) (fun v_12 n_12 M_12 hn_12 hp => ?_)
        obtain ⟨rfl, rfl, rfl⟩ := hp
        refine jr_iload_n (pc := 15) h dX3_mostLeft_15 rfl ?_
        refine jr_iconst (pc := 16) h dX3_mostLeft_16 ?_
        refine jr_icmp_ne (pc := 17) h 24 dX3_mostLeft_17 (by decide) (by omega) (by omega) (fun c_17 => ?_) (fun c_17 => ?_)
        · skip
          have rx := hsk x (by omega) (by omega)
          refine jr_aload_n (pc := 24) h dX3_mostLeft_24 rfl ?_
          refine jr_iload_n (pc := 25) h dX3_mostLeft_25 rfl ?_
          refine jr_iload_n (pc := 26) h dX3_mostLeft_26 rfl ?_
          refine iv_X3_99 (pc := 27) h hl hR dX3_mostLeft_27 ⟨(Nat.le_of_ble_eq_true rfl), (Nat.le_of_ble_eq_true rfl), (Nat.le_of_ble_eq_true rfl), (Nat.le_of_ble_eq_true rfl)⟩ (Nat.le_of_ble_eq_true rfl) (by assumption) (by omega) (s_X3_leftOf hRn (by omega) (by omega)) (fun v_27 n_27 M_27 hn_27 hp => ?_)
          obtain ⟨rfl, rfl, rfl⟩ := hp
          refine jr_icmp_le (pc := 30) h 35 dX3_mostLeft_30 (by decide) (by omega) (by omega) (fun c_30 => ?_) (fun c_30 => ?_)
          · skip
            refine jr_iinc (pc := 35) h [_, _, _, _] dX3_mostLeft_35 (by decide) rfl rfl ?_
            refine jr_goto (pc := 38) h 4 dX3_mostLeft_38 (by decide) ?_
            refine ih _ _ (by omega) ?_ (by omega)
            rw [foldZ_s (by omega), ← hx]
            unfold mostG
            dsimp only
            first
            | (rw [if_pos (show x = -1 by omega), if_pos (by omega)])
            | (rw [if_pos (show x = -1 by omega), if_neg (by omega)])
            | (rw [if_neg (show ¬ x = -1 by omega), if_pos (by omega)])
            | (rw [if_neg (show ¬ x = -1 by omega), if_neg (by omega)])
          · skip
            refine jr_iload_n (pc := 33) h dX3_mostLeft_33 rfl ?_
            refine jr_istore_n (pc := 34) h [_, _, _, _] dX3_mostLeft_34 (by decide) rfl ?_
            refine jr_iinc (pc := 35) h [_, _, _, _] dX3_mostLeft_35 (by decide) rfl rfl ?_
            refine jr_goto (pc := 38) h 4 dX3_mostLeft_38 (by decide) ?_
            refine ih _ _ (by omega) ?_ (by omega)
            rw [foldZ_s (by omega), ← hx]
            unfold mostG
            dsimp only
            first
            | (rw [if_pos (show x = -1 by omega), if_pos (by omega)])
            | (rw [if_pos (show x = -1 by omega), if_neg (by omega)])
            | (rw [if_neg (show ¬ x = -1 by omega), if_pos (by omega)])
            | (rw [if_neg (show ¬ x = -1 by omega), if_neg (by omega)])
        · skip
          refine jr_iconst (pc := 20) h dX3_mostLeft_20 ?_
          refine jr_goto (pc := 21) h 30 dX3_mostLeft_21 (by decide) ?_
          refine jr_icmp_le (pc := 30) h 35 dX3_mostLeft_30 (by decide) (by omega) (by omega) (fun c_30 => ?_) (fun c_30 => ?_)
          · skip
            refine jr_iinc (pc := 35) h [_, _, _, _] dX3_mostLeft_35 (by decide) rfl rfl ?_
            refine jr_goto (pc := 38) h 4 dX3_mostLeft_38 (by decide) ?_
            refine ih _ _ (by omega) ?_ (by omega)
            rw [foldZ_s (by omega), ← hx]
            unfold mostG
            dsimp only
            first
            | (rw [if_pos (show x = -1 by omega), if_pos (by omega)])
            | (rw [if_pos (show x = -1 by omega), if_neg (by omega)])
            | (rw [if_neg (show ¬ x = -1 by omega), if_pos (by omega)])
            | (rw [if_neg (show ¬ x = -1 by omega), if_neg (by omega)])
          · skip
            refine jr_iload_n (pc := 33) h dX3_mostLeft_33 rfl ?_
            refine jr_istore_n (pc := 34) h [_, _, _, _] dX3_mostLeft_34 (by decide) rfl ?_
            refine jr_iinc (pc := 35) h [_, _, _, _] dX3_mostLeft_35 (by decide) rfl rfl ?_
            refine jr_goto (pc := 38) h 4 dX3_mostLeft_38 (by decide) ?_
            refine ih _ _ (by omega) ?_ (by omega)
            rw [foldZ_s (by omega), ← hx]
            unfold mostG
            dsimp only
            first
            | (rw [if_pos (show x = -1 by omega), if_pos (by omega)])
            | (rw [if_pos (show x = -1 by omega), if_neg (by omega)])
            | (rw [if_neg (show ¬ x = -1 by omega), if_pos (by omega)])
            | (rw [if_neg (show ¬ x = -1 by omega), if_neg (by omega)])
  refine jr_iconst (pc := 0) h dX3_mostLeft_0 ?_
  refine jr_istore_n (pc := 1) h [_, _, _, _] dX3_mostLeft_1 (by decide) rfl ?_
  refine jr_iconst (pc := 2) h dX3_mostLeft_2 ?_
  refine jr_istore_n (pc := 3) h [_, _, _, _] dX3_mostLeft_3 (by decide) rfl ?_
  exact loop _ _ _ (by omega) rfl (Nat.lt_succ_self _)
def c_nxt (ct td sp : Nat → Int) : Int := if ct 5 < 2 then 0 else if sp 0 = sp 1 then (if c_get td 5 0 0 = 0 then 0 else 1) else if sp 0 < sp 1 then 0 else 1
theorem c_nxt_r {ct td sp : Nat → Int} : 0 ≤ c_nxt ct td sp ∧ c_nxt ct td sp ≤ 1 := by
  unfold c_nxt
  (repeat' split) <;> omega
set_option maxHeartbeats 1000000 in
set_option maxRecDepth 20000 in
theorem s_X3_nextTrolley {l : Launch} {n : Nat} {M : jdM} {r : Nat} {g sp sk fa go : Nat → Int} (hRn : Rn M n r g sp sk fa go) {f : Nat} {ct td bk si ld : Nat → Int} (hF : Fl M n f ct td bk si ld) (hs0 : 0 ≤ sp 0 ∧ sp 0 ≤ 100000000) (hs1 : 0 ≤ sp 1 ∧ sp 1 ≤ 100000000) : Ct l yX3_nextTrolley cX3_nextTrolley 2 (some .int) rX3_nextTrolley [.ref r, .ref f] n M (fun vv n' M' => (vv = some (jI (c_nxt ct td sp)) ∧ n = n' ∧ M = M') ∧ (0) ≤ (c_nxt ct td sp) ∧ (c_nxt ct td sp) ≤ 1) := by
  refine Ct_of [some (.ref r), some (.ref f)] (by decide) (Nat.le_of_ble_eq_true rfl) rfl (fun κ hl h hR hRt hmn hn0 => ?_)
  have h : Ok κ RX3 cX3_nextTrolley 2 (some .int) := h
  obtain ⟨hn, hO, hA, hB, hC, hD⟩ := id hRn
  obtain ⟨hnF, hOF, hAF, hBF, hCF, hDF, hEF, rA, rB, r0, rC, rD, rE⟩ := id hF
  have ecn : c_count ct 5 = ct 5 := if_pos (by omega)
  have r5 := rA 5
  have z0 : (Int.toNat 0) = 0 := rfl
  have z1 : (Int.toNat 1) = 1 := rfl
  refine jr_aload_n (pc := 0) h dX3_nextTrolley_0 rfl ?_
  refine jr_iconst (pc := 1) h dX3_nextTrolley_1 ?_
  refine iv_X3_92 (pc := 2) h hl hR dX3_nextTrolley_2 ⟨(Nat.le_of_ble_eq_true rfl), (Nat.le_of_ble_eq_true rfl), (Nat.le_of_ble_eq_true rfl), (Nat.le_of_ble_eq_true rfl)⟩ (Nat.le_of_ble_eq_true rfl) (by assumption) (by omega) (s_X1_count hF (by omega)) (fun v_2 n_2 M_2 hn_2 hp => ?_)
  obtain ⟨⟨rfl, rfl, rfl⟩, gr_2⟩ := hp
  rw [ecn]
  refine jr_iconst (pc := 5) h dX3_nextTrolley_5 ?_
  refine jr_icmp_ge (pc := 6) h 11 dX3_nextTrolley_6 (by decide) (by omega) (by omega) (fun c_6 => ?_) (fun c_6 => ?_)
  · skip
    refine jr_aload_n (pc := 11) h dX3_nextTrolley_11 rfl ?_
    refine gf_X3_9 (pc := 12) h dX3_nextTrolley_12 (by assumption) (by omega) ?_
    refine jr_iconst (pc := 15) h dX3_nextTrolley_15 ?_
    refine jr_ialdc (pc := 16) h (0 : Nat) rfl dX3_nextTrolley_16 (by assumption) (by omega) (by decide) ?_
    refine jr_aload_n (pc := 17) h dX3_nextTrolley_17 rfl ?_
    refine gf_X3_9 (pc := 18) h dX3_nextTrolley_18 (by assumption) (by omega) ?_
    refine jr_iconst (pc := 21) h dX3_nextTrolley_21 ?_
    refine jr_ialdc (pc := 22) h (1 : Nat) rfl dX3_nextTrolley_22 (by assumption) (by omega) (by decide) ?_
    refine jr_icmp_ne (pc := 23) h 40 dX3_nextTrolley_23 (by decide) (by omega) (by omega) (fun c_23 => ?_) (fun c_23 => ?_)
    · skip
      refine jr_aload_n (pc := 40) h dX3_nextTrolley_40 rfl ?_
      refine gf_X3_9 (pc := 41) h dX3_nextTrolley_41 (by assumption) (by omega) ?_
      refine jr_iconst (pc := 44) h dX3_nextTrolley_44 ?_
      refine jr_ialdc (pc := 45) h (0 : Nat) rfl dX3_nextTrolley_45 (by assumption) (by omega) (by decide) ?_
      refine jr_aload_n (pc := 46) h dX3_nextTrolley_46 rfl ?_
      refine gf_X3_9 (pc := 47) h dX3_nextTrolley_47 (by assumption) (by omega) ?_
      refine jr_iconst (pc := 50) h dX3_nextTrolley_50 ?_
      refine jr_ialdc (pc := 51) h (1 : Nat) rfl dX3_nextTrolley_51 (by assumption) (by omega) (by decide) ?_
      refine jr_icmp_ge (pc := 52) h 59 dX3_nextTrolley_52 (by decide) (by omega) (by omega) (fun c_52 => ?_) (fun c_52 => ?_)
      · skip
        refine jr_iconst (pc := 59) h dX3_nextTrolley_59 ?_
        refine jr_iret (pc := 60) h hRt dX3_nextTrolley_60 rfl (Nat.le_of_ble_eq_true rfl) (Nat.le_of_ble_eq_true rfl) ?_
        refine ⟨⟨ji_c ?_, rfl, rfl⟩, c_nxt_r⟩
        unfold c_nxt
        first
        | (rw [if_pos (by omega)])
        | (rw [if_neg (by omega), if_pos (by omega), if_pos (bz_1.mp c_31)])
        | (rw [if_neg (by omega), if_pos (by omega), if_neg (bz_0.mp c_31)])
        | (rw [if_neg (by omega), if_neg (by omega), if_pos (by omega)])
        | (rw [if_neg (by omega), if_neg (by omega), if_neg (by omega)])
      · skip
        refine jr_iconst (pc := 55) h dX3_nextTrolley_55 ?_
        refine jr_goto (pc := 56) h 60 dX3_nextTrolley_56 (by decide) ?_
        refine jr_iret (pc := 60) h hRt dX3_nextTrolley_60 rfl (Nat.le_of_ble_eq_true rfl) (Nat.le_of_ble_eq_true rfl) ?_
        refine ⟨⟨ji_c ?_, rfl, rfl⟩, c_nxt_r⟩
        unfold c_nxt
        first
        | (rw [if_pos (by omega)])
        | (rw [if_neg (by omega), if_pos (by omega), if_pos (bz_1.mp c_31)])
        | (rw [if_neg (by omega), if_pos (by omega), if_neg (bz_0.mp c_31)])
        | (rw [if_neg (by omega), if_neg (by omega), if_pos (by omega)])
        | (rw [if_neg (by omega), if_neg (by omega), if_neg (by omega)])
    · skip
      refine jr_aload_n (pc := 26) h dX3_nextTrolley_26 rfl ?_
      refine jr_iconst (pc := 27) h dX3_nextTrolley_27 ?_
      refine iv_X3_66 (pc := 28) h hl hR dX3_nextTrolley_28 ⟨(Nat.le_of_ble_eq_true rfl), (Nat.le_of_ble_eq_true rfl), (Nat.le_of_ble_eq_true rfl), (Nat.le_of_ble_eq_true rfl)⟩ (Nat.le_of_ble_eq_true rfl) (by assumption) (by omega) (s_X1_isFront hF (by omega)) (fun v_28 n_28 M_28 hn_28 hp => ?_)
      obtain ⟨⟨rfl, rfl, rfl⟩, gr_28⟩ := hp
      refine jr_if_eq (pc := 31) h 38 dX3_nextTrolley_31 (by decide) (by omega) (fun c_31 => ?_) (fun c_31 => ?_)
      · skip
        refine jr_iconst (pc := 38) h dX3_nextTrolley_38 ?_
        refine jr_iret (pc := 39) h hRt dX3_nextTrolley_39 rfl (Nat.le_of_ble_eq_true rfl) (Nat.le_of_ble_eq_true rfl) ?_
        refine ⟨⟨ji_c ?_, rfl, rfl⟩, c_nxt_r⟩
        unfold c_nxt
        first
        | (rw [if_pos (by omega)])
        | (rw [if_neg (by omega), if_pos (by omega), if_pos (bz_1.mp c_31)])
        | (rw [if_neg (by omega), if_pos (by omega), if_neg (bz_0.mp c_31)])
        | (rw [if_neg (by omega), if_neg (by omega), if_pos (by omega)])
        | (rw [if_neg (by omega), if_neg (by omega), if_neg (by omega)])
      · skip
        refine jr_iconst (pc := 34) h dX3_nextTrolley_34 ?_
        refine jr_goto (pc := 35) h 39 dX3_nextTrolley_35 (by decide) ?_
        refine jr_iret (pc := 39) h hRt dX3_nextTrolley_39 rfl (Nat.le_of_ble_eq_true rfl) (Nat.le_of_ble_eq_true rfl) ?_
        refine ⟨⟨ji_c ?_, rfl, rfl⟩, c_nxt_r⟩
        unfold c_nxt
        first
        | (rw [if_pos (by omega)])
        | (rw [if_neg (by omega), if_pos (by omega), if_pos (bz_1.mp c_31)])
        | (rw [if_neg (by omega), if_pos (by omega), if_neg (bz_0.mp c_31)])
        | (rw [if_neg (by omega), if_neg (by omega), if_pos (by omega)])
        | (rw [if_neg (by omega), if_neg (by omega), if_neg (by omega)])
  · skip
    refine jr_iconst (pc := 9) h dX3_nextTrolley_9 ?_
    refine jr_iret (pc := 10) h hRt dX3_nextTrolley_10 rfl (Nat.le_of_ble_eq_true rfl) (Nat.le_of_ble_eq_true rfl) ?_
    refine ⟨⟨ji_c ?_, rfl, rfl⟩, c_nxt_r⟩
    unfold c_nxt
    first
    | (rw [if_pos (by omega)])
    | (rw [if_neg (by omega), if_pos (by omega), if_pos (bz_1.mp c_31)])
    | (rw [if_neg (by omega), if_pos (by omega), if_neg (bz_0.mp c_31)])
    | (rw [if_neg (by omega), if_neg (by omega), if_pos (by omega)])
    | (rw [if_neg (by omega), if_neg (by omega), if_neg (by omega)])
theorem nm1_B {ct td w : Nat → Int} {ρ : Nat} {c i B : Int} (h : WB w B) (hk : 0 ≤ c_get td 8 i 1 ∧ c_get td 8 i 1 ≤ 3) (rB : ∀ j, 0 ≤ td j ∧ td j ≤ 999) : WB (nm1 ct td ρ c w i) (B + 999) := by
  unfold nm1
  split
  · split
    · exact WB_up (WB_hd h (by omega) (by assumption) rB) (Or.inr (by omega))
    · exact WB_mo (WB_up h (Or.inl (by omega))) (by omega)
  · exact WB_mo h (by omega)
theorem nmF_B {ct td w : Nat → Int} {ρ : Nat} {c B : Int} (h : WB w B) (rB : ∀ j, 0 ≤ td j ∧ td j ≤ 999) : ∀ {k : Nat}, (∀ i : Int, 0 ≤ i → i < k → 0 ≤ c_get td 8 i 1 ∧ c_get td 8 i 1 ≤ 3) → WB (foldS (nm1 ct td ρ c) w k) (B + 999 * k)
  | 0, _ => WB_mo h (by omega)
  | k + 1, hk => WB_mo (nm1_B (nmF_B h rB (k := k) (fun i a b => hk i a (by omega))) (hk k (by omega) (by omega)) rB) (by omega)
set_option maxHeartbeats 1000000 in
set_option maxRecDepth 20000 in
theorem s_X3_serveNamed {l : Launch} {n : Nat} {M : jdM} {r : Nat} {g sp sk fa w : Nat → Int} {ρ τ : Nat} (hW : RWp M n r g sp sk fa ρ τ w) {f : Nat} {ct td bk si ld : Nat → Int} (hF : Fl M n f ct td bk si ld) (hsep : f + 5 < r ∨ r + 4 < f) (hkn : ∀ i : Int, 0 ≤ i → i < ct 8 → 0 ≤ c_get td 8 i 1 ∧ c_get td 8 i 1 ≤ 3) (h86 : ct 8 ≤ 6) {B : Int} (h0 : WB w B) (hB : B ≤ 5800000) {c : Int} (hc : 0 ≤ c ∧ c ≤ 1) : Ct l yX3_serveNamed cX3_serveNamed 6 none rX3_serveNamed [.ref r, .ref f, jI (ρ : Int), jI c] n M (fun vv n' M' => (vv = none ∧ n = n') ∧ RWp M' n r g sp sk fa ρ τ (nmW ct td ρ c w) ∧ fr (RnS r) M M') := by
  refine Ct_of [some (.ref r), some (.ref f), some (jI (ρ : Int)), some (jI c), none, none] (by decide) (Nat.le_of_ble_eq_true rfl) rfl (fun κ hl h hR hRt hmn hn0 => ?_)
  have h : Ok κ RX3 cX3_serveNamed 6 none := h
  obtain ⟨R1, hby0, hρ, hτ⟩ := id hW
  obtain ⟨hn, hO, hA, hB, hC, hD⟩ := id R1
  obtain ⟨hnF, hOF, hAF, hBF, hCF, hDF, hEF, rA, rB, r0, rC, rD, rE⟩ := id hF
  have r8 := rA 8
  have loop : ∀ (dq : Nat) (i : Int) (u5 : Option Value) (M1 : jdM) (w1 : Nat → Int), (0 ≤ i ∧ i ≤ ct 8) → (RWp M1 n r g sp sk fa ρ τ w1) → (Fl M1 n f ct td bk si ld) → (fr (RnS r) M M1) → (WB w1 (B + 999 * i)) → (w1 = foldS (nm1 ct td ρ c) w i.toNat) → (ct 8 - i).toNat < dq → J κ 6 0 0 n 3 [some (.ref r), some (.ref f), some (jI (ρ : Int)), some (jI c), some (jI i), u5] [] M1 := by
    intro dq
    induction dq with
    | zero => intro i u5 M1 w1 hi hW hF f1 hWB hx hd; omega
    | succ dq ih =>
      intro i u5 M1 w1 hi hW hF f1 hWB hx hd
      obtain ⟨R1, hby0, hρ, hτ⟩ := id hW
      obtain ⟨hn, hO, hA, hB, hC, hD⟩ := id R1
      obtain ⟨hnF, hOF, hAF, hBF, hCF, hDF, hEF, rA, rB, r0, rC, rD, rE⟩ := id hF
      have r8 := rA 8
      refine jr_iload (pc := 3) h dX3_serveNamed_3 rfl ?_
      refine jr_aload_n (pc := 5) h dX3_serveNamed_5 rfl ?_
      refine jr_bipush (pc := 6) h dX3_serveNamed_6 bp_8 ?_
      refine iv_X3_92 (pc := 8) h hl hR dX3_serveNamed_8 ⟨(Nat.le_of_ble_eq_true rfl), (Nat.le_of_ble_eq_true rfl), (Nat.le_of_ble_eq_true rfl), (Nat.le_of_ble_eq_true rfl)⟩ (Nat.le_of_ble_eq_true rfl) (by assumption) (by omega) (s_X1_count hF (by omega)) (fun v_8 n_8 M_8 hn_8 hp => ?_)
      obtain ⟨⟨rfl, rfl, rfl⟩, gr_8⟩ := hp
      rw [show c_count ct 8 = ct 8 from if_pos (by omega)]
      refine jr_icmp_ge (pc := 11) h 105 dX3_serveNamed_11 (by decide) (by omega) (by omega) (fun c_11 => ?_) (fun c_11 => ?_)
      · skip
        refine jr_vret (pc := 105) h hRt dX3_serveNamed_105 (Nat.le_of_ble_eq_true rfl) (Nat.le_of_ble_eq_true rfl) ?_
        refine ⟨⟨rfl, rfl⟩, ?_, f1⟩
        unfold nmW
        rw [show ct 8 = i by omega, ← hx]
        exact hW
      · skip
        refine jr_iload (pc := 14) h dX3_serveNamed_14 rfl ?_
        refine jr_bipush (pc := 16) h dX3_serveNamed_16 bp_6 ?_
        refine jr_icmp_ge (pc := 18) h 105 dX3_serveNamed_18 (by decide) (by omega) (by omega) (fun c_18 => ?_) (fun c_18 => ?_)
        · skip
          refine jr_vret (pc := 105) h hRt dX3_serveNamed_105 (Nat.le_of_ble_eq_true rfl) (Nat.le_of_ble_eq_true rfl) ?_
          refine ⟨⟨rfl, rfl⟩, ?_, f1⟩
          unfold nmW
          rw [show ct 8 = i by omega, ← hx]
          exact hW
        · skip
          refine jr_aload_n (pc := 21) h dX3_serveNamed_21 rfl ?_
          refine jr_bipush (pc := 22) h dX3_serveNamed_22 bp_8 ?_
          refine jr_iload (pc := 24) h dX3_serveNamed_24 rfl ?_
          refine jr_iconst (pc := 26) h dX3_serveNamed_26 ?_
          refine iv_X3_95 (pc := 27) h hl hR dX3_serveNamed_27 ⟨(Nat.le_of_ble_eq_true rfl), (Nat.le_of_ble_eq_true rfl), (Nat.le_of_ble_eq_true rfl), (Nat.le_of_ble_eq_true rfl)⟩ (Nat.le_of_ble_eq_true rfl) (by assumption) (by omega) (s_X1_get hF (by omega) (by omega) (by omega)) (fun v_27 n_27 M_27 hn_27 hp => ?_)
          obtain ⟨⟨rfl, rfl, rfl⟩, gr_27⟩ := hp
          refine jr_iload_n (pc := 30) h dX3_serveNamed_30 rfl ?_
          refine jr_icmp_ne (pc := 31) h 99 dX3_serveNamed_31 (by decide) (by omega) (by omega) (fun c_31 => ?_) (fun c_31 => ?_)
          · skip
            refine jr_iinc (pc := 99) h [_, _, _, _, _, _] dX3_serveNamed_99 (by decide) rfl rfl ?_
            refine jr_goto (pc := 102) h 3 dX3_serveNamed_102 (by decide) ?_
            refine ih (i + 1) _ _ (nm1 ct td ρ c w1 i) (by omega) ?_ hF f1 ?_ ?_ (by omega)
            · unfold nm1
              first
              | (rw [if_neg (by omega)]; exact hW)
              | (rw [if_pos (by omega), if_pos (by omega)]; exact hW)
              | (rw [if_pos (by omega), if_neg (by omega)]; exact hW)
            · exact WB_mo (nm1_B hWB (hkn i (by omega) (by omega)) rB) (by omega)
            · rw [foldS_s (by omega), ← hx]
          · skip
            refine jr_aload_n (pc := 34) h dX3_serveNamed_34 rfl ?_
            refine jr_bipush (pc := 35) h dX3_serveNamed_35 bp_8 ?_
            refine jr_iload (pc := 37) h dX3_serveNamed_37 rfl ?_
            refine jr_iconst (pc := 39) h dX3_serveNamed_39 ?_
            refine iv_X3_95 (pc := 40) h hl hR dX3_serveNamed_40 ⟨(Nat.le_of_ble_eq_true rfl), (Nat.le_of_ble_eq_true rfl), (Nat.le_of_ble_eq_true rfl), (Nat.le_of_ble_eq_true rfl)⟩ (Nat.le_of_ble_eq_true rfl) (by assumption) (by omega) (s_X1_get hF (by omega) (by omega) (by omega)) (fun v_40 n_40 M_40 hn_40 hp => ?_)
            obtain ⟨⟨rfl, rfl, rfl⟩, gr_40⟩ := hp
            refine jr_iload_n (pc := 43) h dX3_serveNamed_43 rfl ?_
            refine jr_icmp_ne (pc := 44) h 99 dX3_serveNamed_44 (by decide) (by omega) (by omega) (fun c_44 => ?_) (fun c_44 => ?_)
            · skip
              refine jr_iinc (pc := 99) h [_, _, _, _, _, _] dX3_serveNamed_99 (by decide) rfl rfl ?_
              refine jr_goto (pc := 102) h 3 dX3_serveNamed_102 (by decide) ?_
              refine ih (i + 1) _ _ (nm1 ct td ρ c w1 i) (by omega) ?_ hF f1 ?_ ?_ (by omega)
              · unfold nm1
                first
                | (rw [if_neg (by omega)]; exact hW)
                | (rw [if_pos (by omega), if_pos (by omega)]; exact hW)
                | (rw [if_pos (by omega), if_neg (by omega)]; exact hW)
              · exact WB_mo (nm1_B hWB (hkn i (by omega) (by omega)) rB) (by omega)
              · rw [foldS_s (by omega), ← hx]
            · skip
              have kr := hkn i (by omega) (by omega)
              have lr := hWB.2.1 (c_get td 8 i 1).toNat (by omega)
              refine jr_aload_n (pc := 47) h dX3_serveNamed_47 rfl ?_
              refine jr_bipush (pc := 48) h dX3_serveNamed_48 bp_8 ?_
              refine jr_iload (pc := 50) h dX3_serveNamed_50 rfl ?_
              refine jr_iconst (pc := 52) h dX3_serveNamed_52 ?_
              refine iv_X3_95 (pc := 53) h hl hR dX3_serveNamed_53 ⟨(Nat.le_of_ble_eq_true rfl), (Nat.le_of_ble_eq_true rfl), (Nat.le_of_ble_eq_true rfl), (Nat.le_of_ble_eq_true rfl)⟩ (Nat.le_of_ble_eq_true rfl) (by assumption) (by omega) (s_X1_get hF (by omega) (by omega) (by omega)) (fun v_53 n_53 M_53 hn_53 hp => ?_)
              obtain ⟨⟨rfl, rfl, rfl⟩, gr_53⟩ := hp
              refine jr_istore (pc := 56) h [_, _, _, _, _, _] dX3_serveNamed_56 (by decide) rfl ?_
              refine jr_aload_n (pc := 58) h dX3_serveNamed_58 rfl ?_
              refine jr_aload_n (pc := 59) h dX3_serveNamed_59 rfl ?_
              refine jr_iload_n (pc := 60) h dX3_serveNamed_60 rfl ?_
              refine jr_iconst (pc := 61) h dX3_serveNamed_61 ?_
              refine iv_X3_59 (pc := 62) h hl hR dX3_serveNamed_62 ⟨(Nat.le_of_ble_eq_true rfl), (Nat.le_of_ble_eq_true rfl), (Nat.le_of_ble_eq_true rfl), (Nat.le_of_ble_eq_true rfl)⟩ (Nat.le_of_ble_eq_true rfl) (by assumption) (by omega) (s_X3_fact R1 (by omega) (by omega)) (fun v_62 n_62 M_62 hn_62 hp => ?_)
              obtain ⟨rfl, rfl, rfl⟩ := hp
              rw [cf_by hρ, hby0]
              refine jr_iload (pc := 65) h dX3_serveNamed_65 rfl ?_
              refine iv_X3_99 (pc := 67) h hl hR dX3_serveNamed_67 ⟨(Nat.le_of_ble_eq_true rfl), (Nat.le_of_ble_eq_true rfl), (Nat.le_of_ble_eq_true rfl), (Nat.le_of_ble_eq_true rfl)⟩ (Nat.le_of_ble_eq_true rfl) (by assumption) (by omega) (s_X3_leftOf R1 (by omega) (by omega)) (fun v_67 n_67 M_67 hn_67 hp => ?_)
              obtain ⟨rfl, rfl, rfl⟩ := hp
              rw [cl_w hτ (by omega)]
              refine jr_if_le (pc := 70) h 92 dX3_serveNamed_70 (by decide) (by omega) (fun c_70 => ?_) (fun c_70 => ?_)
              · skip
                refine jr_aload_n (pc := 92) h dX3_serveNamed_92 rfl ?_
                refine jr_iload_n (pc := 93) h dX3_serveNamed_93 rfl ?_
                refine jr_iconst (pc := 94) h dX3_serveNamed_94 ?_
                refine jr_iconst (pc := 95) h dX3_serveNamed_95 ?_
                refine iv_X3_77 (pc := 96) h hl hR dX3_serveNamed_96 ⟨(Nat.le_of_ble_eq_true rfl), (Nat.le_of_ble_eq_true rfl), (Nat.le_of_ble_eq_true rfl), (Nat.le_of_ble_eq_true rfl)⟩ (Nat.le_of_ble_eq_true rfl) (by assumption) (by omega) (s_X3_addFact R1 (by omega) (by omega)) (fun v_96 n_96 M_96 hn_96 hp => ?_)
                obtain ⟨rfl, rfl, R9, f9⟩ := hp
                rw [show ((ρ : Int) * 11 + 4).toNat = 11 * ρ + 2 + 2 by omega, rwX_at (by omega)] at R9
                have hW := RWp_fa hW (by omega) R9
                have hF := Fl_fr hF f9 (Nat.le_refl _) (fun k h1 h2 q => by have := q.1; have := q.2; omega)
                have f1 := fr_tr f1 f9
                obtain ⟨hnF, hOF, hAF, hBF, -⟩ := id hF
                obtain ⟨R1, hby0, hρ, hτ⟩ := id hW
                obtain ⟨hn, hO, hA, hB, hC, hD⟩ := id R1
                refine jr_iinc (pc := 99) h [_, _, _, _, _, _] dX3_serveNamed_99 (by decide) rfl rfl ?_
                refine jr_goto (pc := 102) h 3 dX3_serveNamed_102 (by decide) ?_
                refine ih (i + 1) _ _ (nm1 ct td ρ c w1 i) (by omega) ?_ hF f1 ?_ ?_ (by omega)
                · unfold nm1
                  first
                  | (rw [if_neg (by omega)]; exact hW)
                  | (rw [if_pos (by omega), if_pos (by omega)]; exact hW)
                  | (rw [if_pos (by omega), if_neg (by omega)]; exact hW)
                · exact WB_mo (nm1_B hWB (hkn i (by omega) (by omega)) rB) (by omega)
                · rw [foldS_s (by omega), ← hx]
              · skip
                refine jr_aload_n (pc := 73) h dX3_serveNamed_73 rfl ?_
                refine jr_aload_n (pc := 74) h dX3_serveNamed_74 rfl ?_
                refine jr_iload_n (pc := 75) h dX3_serveNamed_75 rfl ?_
                rw [show c_get td 8 i 1 = (((c_get td 8 i 1).toNat : Nat) : Int) by omega]
                refine jr_iload (pc := 76) h dX3_serveNamed_76 rfl ?_
                refine iv_X3_102 (pc := 78) h hl hR dX3_serveNamed_78 ⟨(Nat.le_of_ble_eq_true rfl), (Nat.le_of_ble_eq_true rfl), (Nat.le_of_ble_eq_true rfl), (Nat.le_of_ble_eq_true rfl)⟩ (Nat.le_of_ble_eq_true rfl) (by assumption) (by omega) (s_X3_hand (k := (c_get td 8 i 1).toNat) hW hF hsep (by omega) ⟨hWB.1.1, by have := hWB.1.2; omega⟩) (fun v_78 n_78 M_78 hn_78 hp => ?_)
                obtain ⟨⟨rfl, rfl⟩, hW, f9⟩ := hp
                have hF := Fl_fr hF f9 (Nat.le_refl _) (fun k h1 h2 q => by have := q.1; have := q.2; omega)
                have f1 := fr_tr f1 f9
                obtain ⟨hnF, hOF, hAF, hBF, -⟩ := id hF
                obtain ⟨R1, hby0, hρ, hτ⟩ := id hW
                obtain ⟨hn, hO, hA, hB, hC, hD⟩ := id R1
                refine jr_aload_n (pc := 81) h dX3_serveNamed_81 rfl ?_
                refine gf_X3_21 (pc := 82) h dX3_serveNamed_82 (by assumption) (by omega) ?_
                refine jr_iload (pc := 85) h dX3_serveNamed_85 rfl ?_
                refine jr_iconst (pc := 87) h dX3_serveNamed_87 ?_
                refine jr_iast (pc := 88) h dX3_serveNamed_88 (by assumption) (by omega) (by omega) ?_
                refine jm_gen (fun M2 hM2 => ?_)
                have R9 := Rn_go R1 hM2
                have hW := RWp_go hW R9
                have f9 : fr (RnS r) _ M2 := fr_up hM2 ⟨by omega, by omega⟩
                have hF := Fl_fr hF f9 (Nat.le_refl _) (fun k h1 h2 q => by have := q.1; have := q.2; omega)
                have f1 := fr_tr f1 f9
                obtain ⟨hnF, hOF, hAF, hBF, -⟩ := id hF
                refine jr_goto (pc := 89) h 99 dX3_serveNamed_89 (by decide) ?_
                refine jr_iinc (pc := 99) h [_, _, _, _, _, _] dX3_serveNamed_99 (by decide) rfl rfl ?_
                refine jr_goto (pc := 102) h 3 dX3_serveNamed_102 (by decide) ?_
                refine ih (i + 1) _ _ (nm1 ct td ρ c w1 i) (by omega) ?_ hF f1 ?_ ?_ (by omega)
                · unfold nm1
                  first
                  | (rw [if_neg (by omega)]; exact hW)
                  | (rw [if_pos (by omega), if_pos (by omega)]; exact hW)
                  | (rw [if_pos (by omega), if_neg (by omega)]; exact hW)
                · exact WB_mo (nm1_B hWB (hkn i (by omega) (by omega)) rB) (by omega)
                · rw [foldS_s (by omega), ← hx]
  refine jr_iconst (pc := 0) h dX3_serveNamed_0 ?_
  refine jr_istore (pc := 1) h [_, _, _, _, _, _] dX3_serveNamed_1 (by decide) rfl ?_
  exact loop _ _ _ _ _ (by omega) hW hF fr_rf (WB_mo h0 (by omega)) rfl (Nat.lt_succ_self _)
theorem ld65537 : (65537 : Int32) = Int32.ofInt 65537 := by decide
theorem ot1_B {ct td bk w : Nat → Int} {ρ : Nat} {i B : Int} (h : WB w B) (hk : ∀ v, 0 ≤ c_liked td bk ρ v ∧ c_liked td bk ρ v ≤ 3) (rB : ∀ j, 0 ≤ td j ∧ td j ≤ 999) : WB (ot1 ct td bk ρ w i) (B + 999) := by
  unfold ot1
  have h1 : WB (up w 13 ((75 * w 13 + 74) % 65537)) B := WB_13 h (by omega)
  have hl := hk ((75 * w 13 + 74) % 65537 % max 1 (c_weights td bk ρ))
  generalize c_liked td bk ρ ((75 * w 13 + 74) % 65537 % max 1 (c_weights td bk ρ)) = lk at hl
  generalize up w 13 ((75 * w 13 + 74) % 65537) = w1 at h1
  show WB (if (if 0 < w1 (9 + lk.toNat) then lk else mostF (fun k => w1 (9 + k.toNat))) = -1 then _ else _) (B + 999)
  have hm := mostF_b (L := fun k : Int => w1 (9 + k.toNat))
  have hm2 := mostF_p (L := fun k : Int => w1 (9 + k.toNat)) (k := 4)
  have hm3 : mostF (fun k : Int => w1 (9 + k.toNat)) ≠ -1 → 0 < w1 (9 + (mostF (fun k : Int => w1 (9 + k.toNat))).toNat) := hm2
  by_cases q : 0 < w1 (9 + lk.toNat)
  · rw [if_pos q, if_neg (by omega)]
    exact WB_hd (WB_up h1 (Or.inl (by omega))) (by omega) (by rw [up_ne (by omega)]; exact q) rB
  · rw [if_neg q]
    by_cases q2 : mostF (fun k : Int => w1 (9 + k.toNat)) = -1
    · rw [if_pos q2]
      exact WB_mo (WB_up h1 (Or.inl (by omega))) (by omega)
    · rw [if_neg q2]
      exact WB_hd (WB_up h1 (Or.inl (by omega))) (by omega) (by rw [up_ne (by omega)]; exact hm3 q2) rB
theorem otF_B {ct td bk w : Nat → Int} {ρ : Nat} {B : Int} (h : WB w B) (hk : ∀ v, 0 ≤ c_liked td bk ρ v ∧ c_liked td bk ρ v ≤ 3) (rB : ∀ j, 0 ≤ td j ∧ td j ≤ 999) : ∀ {k : Nat}, WB (foldS (ot1 ct td bk ρ) w k) (B + 999 * k)
  | 0 => WB_mo h (by omega)
  | k + 1 => WB_mo (ot1_B (otF_B h hk rB (k := k)) hk rB) (by omega)
set_option maxHeartbeats 1000000 in
set_option maxRecDepth 20000 in
theorem s_X3_serveOthers {l : Launch} {n : Nat} {M : jdM} {r : Nat} {g sp sk fa w : Nat → Int} {ρ τ : Nat} (hW : RWp M n r g sp sk fa ρ τ w) {f : Nat} {ct td bk si ld : Nat → Int} (hF : Fl M n f ct td bk si ld) (hsep : f + 5 < r ∨ r + 4 < f) (hlk : ∀ v, 0 ≤ c_liked td bk ρ v ∧ c_liked td bk ρ v ≤ 3) (hun : 0 ≤ c_unn ct td si ρ ∧ c_unn ct td si ρ ≤ 9) {B : Int} (h0 : WB w B) (hB : B ≤ 5800000) : Ct l yX3_serveOthers cX3_serveOthers 9 none rX3_serveOthers [.ref r, .ref f, jI (ρ : Int)] n M (fun vv n' M' => (vv = none ∧ n = n') ∧ RWp M' n r g sp sk fa ρ τ (otW ct td bk si ρ w) ∧ fr (RnS r) M M') := by
  refine Ct_of [some (.ref r), some (.ref f), some (jI (ρ : Int)), none, none, none, none, none, none] (by decide) (Nat.le_of_ble_eq_true rfl) rfl (fun κ hl h hR hRt hmn hn0 => ?_)
  have h : Ok κ RX3 cX3_serveOthers 9 none := h
  obtain ⟨R1, hby0, hρ, hτ⟩ := id hW
  obtain ⟨hn, hO, hA, hB, hC, hD⟩ := id R1
  obtain ⟨hnF, hOF, hAF, hBF, hCF, hDF, hEF, rA, rB, r0, rC, rD, rE⟩ := id hF
  have wrr : 0 ≤ c_weights td bk ρ ∧ c_weights td bk ρ ≤ 3996 := by
    have := sumZ_b (f := fun i => c_get td 7 (c_blk bk ρ) (4 + 2 * i + 1)) (k := 4) (lo := 0) (hi := 999) (fun i _ _ => c_getr rB _ _ _)
    unfold c_weights
    omega
  have eun : c_unn ct td si ρ = c_sit si ρ - c_named ct td ρ := rfl
  have loop : ∀ (dq : Nat) (i : Int) (u7 : Option Value) (u8 : Option Value) (M1 : jdM) (w1 : Nat → Int), (0 ≤ i ∧ i ≤ c_unn ct td si ρ) → (RWp M1 n r g sp sk fa ρ τ w1) → (Fl M1 n f ct td bk si ld) → (fr (RnS r) M M1) → (WB w1 (B + 999 * i)) → (w1 = foldS (ot1 ct td bk ρ) w i.toNat) → (c_unn ct td si ρ - i).toNat < dq → J κ 9 0 0 n 28 [some (.ref r), some (.ref f), some (jI (ρ : Int)), some (jI (c_sit si ρ - c_named ct td ρ)), some (jI (max 1 (c_weights td bk ρ))), some (jI (τ : Int)), some (jI i), u7, u8] [] M1 := by
    intro dq
    induction dq with
    | zero => intro i u7 u8 M1 w1 hi hW hF f1 hWB hx hd; omega
    | succ dq ih =>
      intro i u7 u8 M1 w1 hi hW hF f1 hWB hx hd
      replace hun : 0 ≤ c_unn ct td si ρ ∧ c_unn ct td si ρ ≤ 9 := hun
      have eun : c_unn ct td si ρ = c_sit si ρ - c_named ct td ρ := rfl
      obtain ⟨R1, hby0, hρ, hτ⟩ := id hW
      obtain ⟨hn, hO, hA, hB, hC, hD⟩ := id R1
      obtain ⟨hnF, hOF, hAF, hBF, hCF, hDF, hEF, rA, rB, r0, rC, rD, rE⟩ := id hF
      refine jr_iload (pc := 28) h dX3_serveOthers_28 rfl ?_
      refine jr_iload_n (pc := 30) h dX3_serveOthers_30 rfl ?_
      refine jr_icmp_ge (pc := 31) h 137 dX3_serveOthers_31 (by decide) (by omega) (by omega) (fun c_31 => ?_) (fun c_31 => ?_)
      · skip
        refine jr_vret (pc := 137) h hRt dX3_serveOthers_137 (Nat.le_of_ble_eq_true rfl) (Nat.le_of_ble_eq_true rfl) ?_
        refine ⟨⟨rfl, rfl⟩, ?_, f1⟩
        unfold otW
        rw [show c_unn ct td si ρ = i by show c_sit si ρ - c_named ct td ρ = i; omega, ← hx]
        exact hW
      · skip
        have hWB0 := hWB
        have w13 := hWB.2.2
        refine jr_aload_n (pc := 34) h dX3_serveOthers_34 rfl ?_
        refine jr_bipush (pc := 35) h dX3_serveOthers_35 bp_75 ?_
        refine jr_aload_n (pc := 37) h dX3_serveOthers_37 rfl ?_
        refine gf_X3_50 (pc := 38) h dX3_serveOthers_38 (by assumption) (by omega) ?_
        refine jr_imul (pc := 41) h dX3_serveOthers_41 ?_
        rw [show up g 7 (w1 13) 7 = w1 13 from up_eq]
        refine jr_bipush (pc := 42) h dX3_serveOthers_42 bp_74 ?_
        refine jr_iadd (pc := 44) h dX3_serveOthers_44 ?_
        refine jr_ldc (pc := 45) h dX3_serveOthers_45 wm_862 ?_
        rw [ld65537]
        refine jr_irem (pc := 47) h dX3_serveOthers_47 (by omega) (by omega) ?_
        refine pf_X3_50 (pc := 48) h dX3_serveOthers_48 (by assumption) (by omega) ?_
        refine jm_gen (fun M2 hM2 => ?_)
        have R9 := Rn_f7 R1 hM2
        have hW := RWp_13 hW R9
        have f9 : fr (RnS r) _ M2 := fr_up hM2 ⟨by omega, by omega⟩
        have hF := Fl_fr hF f9 (Nat.le_refl _) (fun k h1 h2 q => by have := q.1; have := q.2; omega)
        have f1 := fr_tr f1 f9
        obtain ⟨hnF, hOF, hAF, hBF, -⟩ := id hF
        have hWB : WB (up w1 13 ((75 * w1 13 + 74) % 65537)) (B + 999 * i) := WB_13 hWB (by omega)
        obtain ⟨w2, ew2⟩ : ∃ w2, (up w1 13 ((75 * w1 13 + 74) % 65537)) = w2 := ⟨_, rfl⟩
        rw [ew2] at hW hWB
        have e13 : w2 13 = (75 * w1 13 + 74) % 65537 := by rw [← ew2, up_eq]
        obtain ⟨R1, hby0, hρ, hτ⟩ := id hW
        obtain ⟨hn, hO, hA, hB, hC, hD⟩ := id R1
        refine jr_aload_n (pc := 51) h dX3_serveOthers_51 rfl ?_
        refine jr_iload_n (pc := 52) h dX3_serveOthers_52 rfl ?_
        refine jr_aload_n (pc := 53) h dX3_serveOthers_53 rfl ?_
        refine gf_X3_50 (pc := 54) h dX3_serveOthers_54 (by assumption) (by omega) ?_
        refine jr_iload (pc := 57) h dX3_serveOthers_57 rfl ?_
        refine jr_irem (pc := 59) (x := w2 13) (y := max 1 (c_weights td bk ρ)) h dX3_serveOthers_59 (by omega) (by omega) ?_
        have vr : 0 ≤ w2 13 % max 1 (c_weights td bk ρ) ∧ w2 13 % max 1 (c_weights td bk ρ) ≤ 100000 := ⟨Int.emod_nonneg _ (by omega), Int.le_trans (Int.le_of_lt (Int.emod_lt_of_pos _ (by omega))) (by omega)⟩
        refine iv_X3_117 (pc := 60) h hl hR dX3_serveOthers_60 ⟨(Nat.le_of_ble_eq_true rfl), (Nat.le_of_ble_eq_true rfl), (Nat.le_of_ble_eq_true rfl), (Nat.le_of_ble_eq_true rfl)⟩ (Nat.le_of_ble_eq_true rfl) (by assumption) (by omega) (s_X1_likedBy hF (by omega) (by omega)) (fun v_60 n_60 M_60 hn_60 hp => ?_)
        obtain ⟨⟨rfl, rfl, rfl⟩, gr_60⟩ := hp
        have hlq := hlk (w2 13 % max 1 (c_weights td bk ρ))
        obtain ⟨lk, elk⟩ : ∃ lk, c_liked td bk ρ (w2 13 % max 1 (c_weights td bk ρ)) = lk := ⟨_, rfl⟩
        rw [elk] at hlq ⊢
        have lrl := hWB.2.1 lk.toNat (by omega)
        refine jr_istore (pc := 63) h [_, _, _, _, _, _, _, _, _] dX3_serveOthers_63 (by decide) rfl ?_
        refine jr_aload_n (pc := 65) h dX3_serveOthers_65 rfl ?_
        refine jr_iload (pc := 66) h dX3_serveOthers_66 rfl ?_
        refine jr_iload (pc := 68) h dX3_serveOthers_68 rfl ?_
        refine iv_X3_99 (pc := 70) h hl hR dX3_serveOthers_70 ⟨(Nat.le_of_ble_eq_true rfl), (Nat.le_of_ble_eq_true rfl), (Nat.le_of_ble_eq_true rfl), (Nat.le_of_ble_eq_true rfl)⟩ (Nat.le_of_ble_eq_true rfl) (by assumption) (by omega) (s_X3_leftOf R1 (by omega) (by omega)) (fun v_70 n_70 M_70 hn_70 hp => ?_)
        obtain ⟨rfl, rfl, rfl⟩ := hp
        rw [cl_w hτ (by omega)]
        refine jr_if_le (pc := 73) h 81 dX3_serveOthers_73 (by decide) (by omega) (fun c_73 => ?_) (fun c_73 => ?_)
        · skip
          skip
          refine jr_aload_n (pc := 81) h dX3_serveOthers_81 rfl ?_
          refine jr_iload (pc := 82) h dX3_serveOthers_82 rfl ?_
          refine iv_X3_120 (pc := 84) h hl hR dX3_serveOthers_84 ⟨(Nat.le_of_ble_eq_true rfl), (Nat.le_of_ble_eq_true rfl), (Nat.le_of_ble_eq_true rfl), (Nat.le_of_ble_eq_true rfl)⟩ (Nat.le_of_ble_eq_true rfl) (by assumption) (by omega) (s_X3_mostLeft R1 (by omega) (fun k h1 h2 => by rw [cl_w hτ (by omega)]; have := hWB.2.1 k.toNat (by omega); omega)) (fun v_84 n_84 M_84 hn_84 hp => ?_)
          obtain ⟨⟨rfl, rfl, rfl⟩, gr_84⟩ := hp
          rw [show mostF (fun k => c_left (rwS sk τ w2) τ k) = mostF (fun k : Int => w2 (9 + k.toNat)) from mostF_c (fun k h1 h2 => cl_w hτ ⟨h1, h2⟩)] at gr_84 ⊢
          have hmp : mostF (fun k : Int => w2 (9 + k.toNat)) ≠ -1 → 0 < w2 (9 + (mostF (fun k : Int => w2 (9 + k.toNat))).toNat) := mostF_p (L := fun k : Int => w2 (9 + k.toNat)) (k := 4)
          obtain ⟨mf, emf⟩ : ∃ z, mostF (fun k : Int => w2 (9 + k.toNat)) = z := ⟨_, rfl⟩
          rw [emf] at gr_84 hmp ⊢
          refine jr_istore (pc := 87) h [_, _, _, _, _, _, _, _, _] dX3_serveOthers_87 (by decide) rfl ?_
          refine jr_iload (pc := 89) h dX3_serveOthers_89 rfl ?_
          refine jr_iconst (pc := 91) h dX3_serveOthers_91 ?_
          refine jr_icmp_ne (pc := 92) h 105 dX3_serveOthers_92 (by decide) (by omega) (by omega) (fun c_92 => ?_) (fun c_92 => ?_)
          · skip
            refine jr_aload_n (pc := 105) h dX3_serveOthers_105 rfl ?_
            refine jr_iload_n (pc := 106) h dX3_serveOthers_106 rfl ?_
            refine jr_iconst (pc := 107) h dX3_serveOthers_107 ?_
            refine jr_iload (pc := 108) h dX3_serveOthers_108 rfl ?_
            refine jr_iload (pc := 110) h dX3_serveOthers_110 rfl ?_
            refine jr_icmp_ne (pc := 112) h 119 dX3_serveOthers_112 (by decide) (by omega) (by omega) (fun c_112 => ?_) (fun c_112 => ?_)
            · skip
              refine jr_iconst (pc := 119) h dX3_serveOthers_119 ?_
              refine iv_X3_77 (pc := 120) h hl hR dX3_serveOthers_120 ⟨(Nat.le_of_ble_eq_true rfl), (Nat.le_of_ble_eq_true rfl), (Nat.le_of_ble_eq_true rfl), (Nat.le_of_ble_eq_true rfl)⟩ (Nat.le_of_ble_eq_true rfl) (by assumption) (by omega) (s_X3_addFact R1 (by omega) (by omega)) (fun v_120 n_120 M_120 hn_120 hp => ?_)
              obtain ⟨rfl, rfl, R9, f9⟩ := hp
              rw [show ((ρ : Int) * 11 + 3).toNat = 11 * ρ + 2 + 1 by omega, rwX_at (by omega)] at R9
              have hW := RWp_fa hW (by omega) R9
              have hF := Fl_fr hF f9 (Nat.le_refl _) (fun k h1 h2 q => by have := q.1; have := q.2; omega)
              have f1 := fr_tr f1 f9
              obtain ⟨hnF, hOF, hAF, hBF, -⟩ := id hF
              obtain ⟨R1, hby0, hρ, hτ⟩ := id hW
              obtain ⟨hn, hO, hA, hB, hC, hD⟩ := id R1
              refine jr_aload_n (pc := 123) h dX3_serveOthers_123 rfl ?_
              refine jr_aload_n (pc := 124) h dX3_serveOthers_124 rfl ?_
              refine jr_iload_n (pc := 125) h dX3_serveOthers_125 rfl ?_
              refine jr_iload (pc := 126) h dX3_serveOthers_126 rfl ?_
              rw [show mf = ((mf.toNat : Nat) : Int) by omega]
              refine iv_X3_102 (pc := 128) h hl hR dX3_serveOthers_128 ⟨(Nat.le_of_ble_eq_true rfl), (Nat.le_of_ble_eq_true rfl), (Nat.le_of_ble_eq_true rfl), (Nat.le_of_ble_eq_true rfl)⟩ (Nat.le_of_ble_eq_true rfl) (by assumption) (by omega) (s_X3_hand (k := mf.toNat) hW hF hsep (by omega) ⟨by rw [up_ne (by omega)]; exact hWB.1.1, by rw [up_ne (by omega)]; have := hWB.1.2; omega⟩) (fun v_128 n_128 M_128 hn_128 hp => ?_)
              obtain ⟨⟨rfl, rfl⟩, hW, f9⟩ := hp
              have hF := Fl_fr hF f9 (Nat.le_refl _) (fun k h1 h2 q => by have := q.1; have := q.2; omega)
              have f1 := fr_tr f1 f9
              obtain ⟨hnF, hOF, hAF, hBF, -⟩ := id hF
              refine jr_iinc (pc := 131) h [_, _, _, _, _, _, _, _, _] dX3_serveOthers_131 (by decide) rfl rfl ?_
              refine jr_goto (pc := 134) h 28 dX3_serveOthers_134 (by decide) ?_
              refine ih (i + 1) _ _ _ (ot1 ct td bk ρ w1 i) (by omega) ?_ hF f1 ?_ ?_ (by omega)
              · unfold ot1
                rw [ew2, ← e13, elk]
                show RWp _ n r g sp sk fa ρ τ (if (if 0 < w2 (9 + lk.toNat) then lk else mostF (fun k : Int => w2 (9 + k.toNat))) = -1 then _ else _)
                rw [show (if 0 < w2 (9 + lk.toNat) then lk else mostF (fun k : Int => w2 (9 + k.toNat))) = mf from (if_neg (by omega)).trans emf]
                first
                | (rw [if_pos (show mf = -1 by omega)]; exact hW)
                | (rw [if_neg (show ¬ mf = -1 by omega), if_pos (show mf = lk by omega)]; exact hW)
                | (rw [if_neg (show ¬ mf = -1 by omega), if_neg (show ¬ mf = lk by omega)]; exact hW)
              · exact WB_mo (ot1_B hWB0 hlk rB) (by omega)
              · rw [foldS_s (by omega), ← hx]
            · skip
              refine jr_iconst (pc := 115) h dX3_serveOthers_115 ?_
              refine jr_goto (pc := 116) h 120 dX3_serveOthers_116 (by decide) ?_
              refine iv_X3_77 (pc := 120) h hl hR dX3_serveOthers_120 ⟨(Nat.le_of_ble_eq_true rfl), (Nat.le_of_ble_eq_true rfl), (Nat.le_of_ble_eq_true rfl), (Nat.le_of_ble_eq_true rfl)⟩ (Nat.le_of_ble_eq_true rfl) (by assumption) (by omega) (s_X3_addFact R1 (by omega) (by omega)) (fun v_120 n_120 M_120 hn_120 hp => ?_)
              obtain ⟨rfl, rfl, R9, f9⟩ := hp
              rw [show ((ρ : Int) * 11 + 3).toNat = 11 * ρ + 2 + 1 by omega, rwX_at (by omega)] at R9
              have hW := RWp_fa hW (by omega) R9
              have hF := Fl_fr hF f9 (Nat.le_refl _) (fun k h1 h2 q => by have := q.1; have := q.2; omega)
              have f1 := fr_tr f1 f9
              obtain ⟨hnF, hOF, hAF, hBF, -⟩ := id hF
              obtain ⟨R1, hby0, hρ, hτ⟩ := id hW
              obtain ⟨hn, hO, hA, hB, hC, hD⟩ := id R1
              refine jr_aload_n (pc := 123) h dX3_serveOthers_123 rfl ?_
              refine jr_aload_n (pc := 124) h dX3_serveOthers_124 rfl ?_
              refine jr_iload_n (pc := 125) h dX3_serveOthers_125 rfl ?_
              refine jr_iload (pc := 126) h dX3_serveOthers_126 rfl ?_
              rw [show mf = ((mf.toNat : Nat) : Int) by omega]
              refine iv_X3_102 (pc := 128) h hl hR dX3_serveOthers_128 ⟨(Nat.le_of_ble_eq_true rfl), (Nat.le_of_ble_eq_true rfl), (Nat.le_of_ble_eq_true rfl), (Nat.le_of_ble_eq_true rfl)⟩ (Nat.le_of_ble_eq_true rfl) (by assumption) (by omega) (s_X3_hand (k := mf.toNat) hW hF hsep (by omega) ⟨by rw [up_ne (by omega)]; exact hWB.1.1, by rw [up_ne (by omega)]; have := hWB.1.2; omega⟩) (fun v_128 n_128 M_128 hn_128 hp => ?_)
              obtain ⟨⟨rfl, rfl⟩, hW, f9⟩ := hp
              have hF := Fl_fr hF f9 (Nat.le_refl _) (fun k h1 h2 q => by have := q.1; have := q.2; omega)
              have f1 := fr_tr f1 f9
              obtain ⟨hnF, hOF, hAF, hBF, -⟩ := id hF
              refine jr_iinc (pc := 131) h [_, _, _, _, _, _, _, _, _] dX3_serveOthers_131 (by decide) rfl rfl ?_
              refine jr_goto (pc := 134) h 28 dX3_serveOthers_134 (by decide) ?_
              refine ih (i + 1) _ _ _ (ot1 ct td bk ρ w1 i) (by omega) ?_ hF f1 ?_ ?_ (by omega)
              · unfold ot1
                rw [ew2, ← e13, elk]
                show RWp _ n r g sp sk fa ρ τ (if (if 0 < w2 (9 + lk.toNat) then lk else mostF (fun k : Int => w2 (9 + k.toNat))) = -1 then _ else _)
                rw [show (if 0 < w2 (9 + lk.toNat) then lk else mostF (fun k : Int => w2 (9 + k.toNat))) = mf from (if_neg (by omega)).trans emf]
                first
                | (rw [if_pos (show mf = -1 by omega)]; exact hW)
                | (rw [if_neg (show ¬ mf = -1 by omega), if_pos (show mf = lk by omega)]; exact hW)
                | (rw [if_neg (show ¬ mf = -1 by omega), if_neg (show ¬ mf = lk by omega)]; exact hW)
              · exact WB_mo (ot1_B hWB0 hlk rB) (by omega)
              · rw [foldS_s (by omega), ← hx]
          · skip
            refine jr_aload_n (pc := 95) h dX3_serveOthers_95 rfl ?_
            refine jr_iload_n (pc := 96) h dX3_serveOthers_96 rfl ?_
            refine jr_iconst (pc := 97) h dX3_serveOthers_97 ?_
            refine jr_iconst (pc := 98) h dX3_serveOthers_98 ?_
            refine iv_X3_77 (pc := 99) h hl hR dX3_serveOthers_99 ⟨(Nat.le_of_ble_eq_true rfl), (Nat.le_of_ble_eq_true rfl), (Nat.le_of_ble_eq_true rfl), (Nat.le_of_ble_eq_true rfl)⟩ (Nat.le_of_ble_eq_true rfl) (by assumption) (by omega) (s_X3_addFact R1 (by omega) (by omega)) (fun v_99 n_99 M_99 hn_99 hp => ?_)
            obtain ⟨rfl, rfl, R9, f9⟩ := hp
            rw [show ((ρ : Int) * 11 + 4).toNat = 11 * ρ + 2 + 2 by omega, rwX_at (by omega)] at R9
            have hW := RWp_fa hW (by omega) R9
            have hF := Fl_fr hF f9 (Nat.le_refl _) (fun k h1 h2 q => by have := q.1; have := q.2; omega)
            have f1 := fr_tr f1 f9
            obtain ⟨hnF, hOF, hAF, hBF, -⟩ := id hF
            obtain ⟨R1, hby0, hρ, hτ⟩ := id hW
            obtain ⟨hn, hO, hA, hB, hC, hD⟩ := id R1
            refine jr_goto (pc := 102) h 131 dX3_serveOthers_102 (by decide) ?_
            refine jr_iinc (pc := 131) h [_, _, _, _, _, _, _, _, _] dX3_serveOthers_131 (by decide) rfl rfl ?_
            refine jr_goto (pc := 134) h 28 dX3_serveOthers_134 (by decide) ?_
            refine ih (i + 1) _ _ _ (ot1 ct td bk ρ w1 i) (by omega) ?_ hF f1 ?_ ?_ (by omega)
            · unfold ot1
              rw [ew2, ← e13, elk]
              show RWp _ n r g sp sk fa ρ τ (if (if 0 < w2 (9 + lk.toNat) then lk else mostF (fun k : Int => w2 (9 + k.toNat))) = -1 then _ else _)
              rw [show (if 0 < w2 (9 + lk.toNat) then lk else mostF (fun k : Int => w2 (9 + k.toNat))) = mf from (if_neg (by omega)).trans emf]
              first
              | (rw [if_pos (show mf = -1 by omega)]; exact hW)
              | (rw [if_neg (show ¬ mf = -1 by omega), if_pos (show mf = lk by omega)]; exact hW)
              | (rw [if_neg (show ¬ mf = -1 by omega), if_neg (show ¬ mf = lk by omega)]; exact hW)
            · exact WB_mo (ot1_B hWB0 hlk rB) (by omega)
            · rw [foldS_s (by omega), ← hx]
        · skip
          skip
          refine jr_iload (pc := 76) h dX3_serveOthers_76 rfl ?_
          refine jr_goto (pc := 78) h 87 dX3_serveOthers_78 (by decide) ?_
          refine jr_istore (pc := 87) h [_, _, _, _, _, _, _, _, _] dX3_serveOthers_87 (by decide) rfl ?_
          refine jr_iload (pc := 89) h dX3_serveOthers_89 rfl ?_
          refine jr_iconst (pc := 91) h dX3_serveOthers_91 ?_
          refine jr_icmp_ne (pc := 92) h 105 dX3_serveOthers_92 (by decide) (by omega) (by omega) (fun c_92 => ?_) (fun c_92 => ?_)
          · skip
            refine jr_aload_n (pc := 105) h dX3_serveOthers_105 rfl ?_
            refine jr_iload_n (pc := 106) h dX3_serveOthers_106 rfl ?_
            refine jr_iconst (pc := 107) h dX3_serveOthers_107 ?_
            refine jr_iload (pc := 108) h dX3_serveOthers_108 rfl ?_
            refine jr_iload (pc := 110) h dX3_serveOthers_110 rfl ?_
            refine jr_icmp_ne (pc := 112) h 119 dX3_serveOthers_112 (by decide) (by omega) (by omega) (fun c_112 => ?_) (fun c_112 => ?_)
            · skip
              refine jr_iconst (pc := 119) h dX3_serveOthers_119 ?_
              refine iv_X3_77 (pc := 120) h hl hR dX3_serveOthers_120 ⟨(Nat.le_of_ble_eq_true rfl), (Nat.le_of_ble_eq_true rfl), (Nat.le_of_ble_eq_true rfl), (Nat.le_of_ble_eq_true rfl)⟩ (Nat.le_of_ble_eq_true rfl) (by assumption) (by omega) (s_X3_addFact R1 (by omega) (by omega)) (fun v_120 n_120 M_120 hn_120 hp => ?_)
              obtain ⟨rfl, rfl, R9, f9⟩ := hp
              rw [show ((ρ : Int) * 11 + 3).toNat = 11 * ρ + 2 + 1 by omega, rwX_at (by omega)] at R9
              have hW := RWp_fa hW (by omega) R9
              have hF := Fl_fr hF f9 (Nat.le_refl _) (fun k h1 h2 q => by have := q.1; have := q.2; omega)
              have f1 := fr_tr f1 f9
              obtain ⟨hnF, hOF, hAF, hBF, -⟩ := id hF
              obtain ⟨R1, hby0, hρ, hτ⟩ := id hW
              obtain ⟨hn, hO, hA, hB, hC, hD⟩ := id R1
              refine jr_aload_n (pc := 123) h dX3_serveOthers_123 rfl ?_
              refine jr_aload_n (pc := 124) h dX3_serveOthers_124 rfl ?_
              refine jr_iload_n (pc := 125) h dX3_serveOthers_125 rfl ?_
              refine jr_iload (pc := 126) h dX3_serveOthers_126 rfl ?_
              rw [show lk = ((lk.toNat : Nat) : Int) by omega]
              refine iv_X3_102 (pc := 128) h hl hR dX3_serveOthers_128 ⟨(Nat.le_of_ble_eq_true rfl), (Nat.le_of_ble_eq_true rfl), (Nat.le_of_ble_eq_true rfl), (Nat.le_of_ble_eq_true rfl)⟩ (Nat.le_of_ble_eq_true rfl) (by assumption) (by omega) (s_X3_hand (k := lk.toNat) hW hF hsep (by omega) ⟨by rw [up_ne (by omega)]; exact hWB.1.1, by rw [up_ne (by omega)]; have := hWB.1.2; omega⟩) (fun v_128 n_128 M_128 hn_128 hp => ?_)
              obtain ⟨⟨rfl, rfl⟩, hW, f9⟩ := hp
              have hF := Fl_fr hF f9 (Nat.le_refl _) (fun k h1 h2 q => by have := q.1; have := q.2; omega)
              have f1 := fr_tr f1 f9
              obtain ⟨hnF, hOF, hAF, hBF, -⟩ := id hF
              refine jr_iinc (pc := 131) h [_, _, _, _, _, _, _, _, _] dX3_serveOthers_131 (by decide) rfl rfl ?_
              refine jr_goto (pc := 134) h 28 dX3_serveOthers_134 (by decide) ?_
              refine ih (i + 1) _ _ _ (ot1 ct td bk ρ w1 i) (by omega) ?_ hF f1 ?_ ?_ (by omega)
              · unfold ot1
                rw [ew2, ← e13, elk]
                show RWp _ n r g sp sk fa ρ τ (if (if 0 < w2 (9 + lk.toNat) then lk else mostF (fun k : Int => w2 (9 + k.toNat))) = -1 then _ else _)
                first
                | (exfalso; omega)
                | (rw [show (if 0 < w2 (9 + lk.toNat) then lk else mostF (fun k : Int => w2 (9 + k.toNat))) = lk from if_pos (by omega), if_neg (show ¬ lk = -1 by omega), if_pos rfl]
                   exact hW)
              · exact WB_mo (ot1_B hWB0 hlk rB) (by omega)
              · rw [foldS_s (by omega), ← hx]
            · skip
              refine jr_iconst (pc := 115) h dX3_serveOthers_115 ?_
              refine jr_goto (pc := 116) h 120 dX3_serveOthers_116 (by decide) ?_
              refine iv_X3_77 (pc := 120) h hl hR dX3_serveOthers_120 ⟨(Nat.le_of_ble_eq_true rfl), (Nat.le_of_ble_eq_true rfl), (Nat.le_of_ble_eq_true rfl), (Nat.le_of_ble_eq_true rfl)⟩ (Nat.le_of_ble_eq_true rfl) (by assumption) (by omega) (s_X3_addFact R1 (by omega) (by omega)) (fun v_120 n_120 M_120 hn_120 hp => ?_)
              obtain ⟨rfl, rfl, R9, f9⟩ := hp
              rw [show ((ρ : Int) * 11 + 3).toNat = 11 * ρ + 2 + 1 by omega, rwX_at (by omega)] at R9
              have hW := RWp_fa hW (by omega) R9
              have hF := Fl_fr hF f9 (Nat.le_refl _) (fun k h1 h2 q => by have := q.1; have := q.2; omega)
              have f1 := fr_tr f1 f9
              obtain ⟨hnF, hOF, hAF, hBF, -⟩ := id hF
              obtain ⟨R1, hby0, hρ, hτ⟩ := id hW
              obtain ⟨hn, hO, hA, hB, hC, hD⟩ := id R1
              refine jr_aload_n (pc := 123) h dX3_serveOthers_123 rfl ?_
              refine jr_aload_n (pc := 124) h dX3_serveOthers_124 rfl ?_
              refine jr_iload_n (pc := 125) h dX3_serveOthers_125 rfl ?_
              refine jr_iload (pc := 126) h dX3_serveOthers_126 rfl ?_
              rw [show lk = ((lk.toNat : Nat) : Int) by omega]
              refine iv_X3_102 (pc := 128) h hl hR dX3_serveOthers_128 ⟨(Nat.le_of_ble_eq_true rfl), (Nat.le_of_ble_eq_true rfl), (Nat.le_of_ble_eq_true rfl), (Nat.le_of_ble_eq_true rfl)⟩ (Nat.le_of_ble_eq_true rfl) (by assumption) (by omega) (s_X3_hand (k := lk.toNat) hW hF hsep (by omega) ⟨by rw [up_ne (by omega)]; exact hWB.1.1, by rw [up_ne (by omega)]; have := hWB.1.2; omega⟩) (fun v_128 n_128 M_128 hn_128 hp => ?_)
              obtain ⟨⟨rfl, rfl⟩, hW, f9⟩ := hp
              have hF := Fl_fr hF f9 (Nat.le_refl _) (fun k h1 h2 q => by have := q.1; have := q.2; omega)
              have f1 := fr_tr f1 f9
              obtain ⟨hnF, hOF, hAF, hBF, -⟩ := id hF
              refine jr_iinc (pc := 131) h [_, _, _, _, _, _, _, _, _] dX3_serveOthers_131 (by decide) rfl rfl ?_
              refine jr_goto (pc := 134) h 28 dX3_serveOthers_134 (by decide) ?_
              refine ih (i + 1) _ _ _ (ot1 ct td bk ρ w1 i) (by omega) ?_ hF f1 ?_ ?_ (by omega)
              · unfold ot1
                rw [ew2, ← e13, elk]
                show RWp _ n r g sp sk fa ρ τ (if (if 0 < w2 (9 + lk.toNat) then lk else mostF (fun k : Int => w2 (9 + k.toNat))) = -1 then _ else _)
                first
                | (exfalso; omega)
                | (rw [show (if 0 < w2 (9 + lk.toNat) then lk else mostF (fun k : Int => w2 (9 + k.toNat))) = lk from if_pos (by omega), if_neg (show ¬ lk = -1 by omega), if_pos rfl]
                   exact hW)
              · exact WB_mo (ot1_B hWB0 hlk rB) (by omega)
              · rw [foldS_s (by omega), ← hx]
          · skip
            refine jr_aload_n (pc := 95) h dX3_serveOthers_95 rfl ?_
            refine jr_iload_n (pc := 96) h dX3_serveOthers_96 rfl ?_
            refine jr_iconst (pc := 97) h dX3_serveOthers_97 ?_
            refine jr_iconst (pc := 98) h dX3_serveOthers_98 ?_
            refine iv_X3_77 (pc := 99) h hl hR dX3_serveOthers_99 ⟨(Nat.le_of_ble_eq_true rfl), (Nat.le_of_ble_eq_true rfl), (Nat.le_of_ble_eq_true rfl), (Nat.le_of_ble_eq_true rfl)⟩ (Nat.le_of_ble_eq_true rfl) (by assumption) (by omega) (s_X3_addFact R1 (by omega) (by omega)) (fun v_99 n_99 M_99 hn_99 hp => ?_)
            obtain ⟨rfl, rfl, R9, f9⟩ := hp
            rw [show ((ρ : Int) * 11 + 4).toNat = 11 * ρ + 2 + 2 by omega, rwX_at (by omega)] at R9
            have hW := RWp_fa hW (by omega) R9
            have hF := Fl_fr hF f9 (Nat.le_refl _) (fun k h1 h2 q => by have := q.1; have := q.2; omega)
            have f1 := fr_tr f1 f9
            obtain ⟨hnF, hOF, hAF, hBF, -⟩ := id hF
            obtain ⟨R1, hby0, hρ, hτ⟩ := id hW
            obtain ⟨hn, hO, hA, hB, hC, hD⟩ := id R1
            refine jr_goto (pc := 102) h 131 dX3_serveOthers_102 (by decide) ?_
            refine jr_iinc (pc := 131) h [_, _, _, _, _, _, _, _, _] dX3_serveOthers_131 (by decide) rfl rfl ?_
            refine jr_goto (pc := 134) h 28 dX3_serveOthers_134 (by decide) ?_
            refine ih (i + 1) _ _ _ (ot1 ct td bk ρ w1 i) (by omega) ?_ hF f1 ?_ ?_ (by omega)
            · unfold ot1
              rw [ew2, ← e13, elk]
              show RWp _ n r g sp sk fa ρ τ (if (if 0 < w2 (9 + lk.toNat) then lk else mostF (fun k : Int => w2 (9 + k.toNat))) = -1 then _ else _)
              first
              | (exfalso; omega)
              | (rw [show (if 0 < w2 (9 + lk.toNat) then lk else mostF (fun k : Int => w2 (9 + k.toNat))) = lk from if_pos (by omega), if_neg (show ¬ lk = -1 by omega), if_pos rfl]
                 exact hW)
            · exact WB_mo (ot1_B hWB0 hlk rB) (by omega)
            · rw [foldS_s (by omega), ← hx]
  refine jr_aload_n (pc := 0) h dX3_serveOthers_0 rfl ?_
  refine jr_iload_n (pc := 1) h dX3_serveOthers_1 rfl ?_
  refine iv_X3_105 (pc := 2) h hl hR dX3_serveOthers_2 ⟨(Nat.le_of_ble_eq_true rfl), (Nat.le_of_ble_eq_true rfl), (Nat.le_of_ble_eq_true rfl), (Nat.le_of_ble_eq_true rfl)⟩ (Nat.le_of_ble_eq_true rfl) (by assumption) (by omega) (s_X1_unnamedIn hF (by omega)) (fun v_2 n_2 M_2 hn_2 hp => ?_)
  obtain ⟨⟨rfl, rfl, rfl⟩, gr_2⟩ := hp
  refine jr_istore_n (pc := 5) h [_, _, _, _, _, _, _, _, _] dX3_serveOthers_5 (by decide) rfl ?_
  refine jr_iconst (pc := 6) h dX3_serveOthers_6 ?_
  refine jr_aload_n (pc := 7) h dX3_serveOthers_7 rfl ?_
  refine jr_iload_n (pc := 8) h dX3_serveOthers_8 rfl ?_
  refine iv_X3_108 (pc := 9) h hl hR dX3_serveOthers_9 ⟨(Nat.le_of_ble_eq_true rfl), (Nat.le_of_ble_eq_true rfl), (Nat.le_of_ble_eq_true rfl), (Nat.le_of_ble_eq_true rfl)⟩ (Nat.le_of_ble_eq_true rfl) (by assumption) (by omega) (s_X1_weights hF (by omega)) (fun v_9 n_9 M_9 hn_9 hp => ?_)
  obtain ⟨⟨rfl, rfl, rfl⟩, gr_9⟩ := hp
  refine im_X3_111 (pc := 12) h hR dX3_serveOthers_12 ⟨(Nat.le_of_ble_eq_true rfl), (Nat.le_of_ble_eq_true rfl), (Nat.le_of_ble_eq_true rfl), (Nat.le_of_ble_eq_true rfl)⟩ (by omega) (by omega) ?_
  refine jr_istore (pc := 15) h [_, _, _, _, _, _, _, _, _] dX3_serveOthers_15 (by decide) rfl ?_
  refine jr_aload_n (pc := 17) h dX3_serveOthers_17 rfl ?_
  refine jr_iload_n (pc := 18) h dX3_serveOthers_18 rfl ?_
  refine jr_iconst (pc := 19) h dX3_serveOthers_19 ?_
  refine iv_X3_59 (pc := 20) h hl hR dX3_serveOthers_20 ⟨(Nat.le_of_ble_eq_true rfl), (Nat.le_of_ble_eq_true rfl), (Nat.le_of_ble_eq_true rfl), (Nat.le_of_ble_eq_true rfl)⟩ (Nat.le_of_ble_eq_true rfl) (by assumption) (by omega) (s_X3_fact R1 (by omega) (by omega)) (fun v_20 n_20 M_20 hn_20 hp => ?_)
  obtain ⟨rfl, rfl, rfl⟩ := hp
  rw [cf_by hρ, hby0]
  refine jr_istore (pc := 23) h [_, _, _, _, _, _, _, _, _] dX3_serveOthers_23 (by decide) rfl ?_
  refine jr_iconst (pc := 25) h dX3_serveOthers_25 ?_
  refine jr_istore (pc := 26) h [_, _, _, _, _, _, _, _, _] dX3_serveOthers_26 (by decide) rfl ?_
  exact loop _ _ _ _ _ _ (by omega) hW hF fr_rf (WB_mo h0 (by omega)) rfl (Nat.lt_succ_self _)
