/-! 29: Teller: a flight that is told -/
def TlS (b f : Nat) : Nat → Prop := fun k => TokS b k ∨ FlS f k
def TF (M : jdM) (n t b f : Nat) (bs : Nat → Int) (p : TS) (ct td bk si ld : Nat → Int) : Prop := Te M n t b bs p ∧ Fl M n f ct td bk si ld ∧ (b + 4 < f ∨ f + 5 < b) ∧ (t < f ∨ f + 5 < t)
theorem TF_tk {M M1 : jdM} {n t b f : Nat} {bs : Nat → Int} {p p1 : TS} {ct td bk si ld : Nat → Int} (h : TF M n t b f bs p ct td bk si ld) (h1 : TkP M1 n b bs p1) (h2 : fr (TokS b) M M1) (h3 : PO p1) : TF M1 n t b f bs p1 ct td bk si ld := by
  obtain ⟨a1, a2, a3, a4⟩ := h
  exact ⟨Te_tk a1 h1 h2 h3, Fl_fr a2 h2 (Nat.le_refl _) (fun k h1 h2 q => by have := q.1; have := q.2; omega), a3, a4⟩
theorem TF_te {M M1 : jdM} {n t b f : Nat} {bs : Nat → Int} {p p1 : TS} {ct td bk si ld : Nat → Int} (h : TF M n t b f bs p ct td bk si ld) (h1 : Te M1 n t b bs p1) (h2 : fr (TokS b) M M1) : TF M1 n t b f bs p1 ct td bk si ld := by
  obtain ⟨a1, a2, a3, a4⟩ := h
  exact ⟨h1, Fl_fr a2 h2 (Nat.le_refl _) (fun k h1 h2 q => by have := q.1; have := q.2; omega), a3, a4⟩
theorem TF_fl {M M1 : jdM} {n t b f : Nat} {bs : Nat → Int} {p : TS} {ct td bk si ld ct' td' bk' si' ld' : Nat → Int} (h : TF M n t b f bs p ct td bk si ld) (h1 : Fl M1 n f ct' td' bk' si' ld') (h2 : fr (FlS f) M M1) : TF M1 n t b f bs p ct' td' bk' si' ld' := by
  obtain ⟨a1, a2, a3, a4⟩ := h
  exact ⟨Te_fr a1 h2 (Nat.le_refl _) (fun k h1 h2 q => by have := q.1; have := q.2; omega) (fun q => by have := q.1; have := q.2; omega), h1, a3, a4⟩
theorem TF_td {M M1 : jdM} {n t b f : Nat} {bs : Nat → Int} {p : TS} {ct td bk si ld : Nat → Int} {i : Nat} {x : Int} (h : TF M n t b f bs p ct td bk si ld) (h1 : M1 = up M (f + 2) (jdA 1248 (up td i x))) (hx : 0 ≤ x ∧ x ≤ 999) (h0 : i = 0 → x ≤ 40) : TF M1 n t b f bs p ct (up td i x) bk si ld := by
  obtain ⟨-, -, -, -, -, -, -, -, r1, r0, -⟩ := id h.2.1
  refine TF_fl h (Fl_td h.2.1 h1 (fun j => ?_) ?_) (fr_up h1 ⟨by omega, by omega⟩)
  · unfold up; split
    · exact hx
    · exact r1 j
  · unfold up; split
    · rename_i q; exact h0 q.symm
    · exact r0
noncomputable def trA (bs ct td : Nat → Int) (p : TS) (s : Int) : Int × TS := @ite (Int × TS) (∃ i : Int, 0 ≤ i ∧ i < ct 5 ∧ c_get td 5 i 0 = s) (Classical.propDecidable _) (s, flP 3 p) (s, nxP bs p)
noncomputable def trP (bs ct td : Nat → Int) (p : TS) : Int × TS := if p.1 7 ≠ 0 then (0, p) else @ite (Int × TS) (wordIs bs p.1 3) (Classical.propDecidable _) (trA bs ct td p 1) (@ite (Int × TS) (wordIs bs p.1 4) (Classical.propDecidable _) (trA bs ct td p 0) (0, flP 1 p))
theorem trA_O {bs ct td : Nat → Int} {p : TS} {s : Int} (h : PO p) : PO (trA bs ct td p s).2 := by
  unfold trA
  split
  · exact flP_O h (by omega)
  · exact nxP_O h
theorem trP_O {bs ct td : Nat → Int} {p : TS} (h : PO p) : PO (trP bs ct td p).2 := by
  unfold trP
  split
  · exact h
  · split
    · exact trA_O h
    · split
      · exact trA_O h
      · exact flP_O h (by omega)
theorem trP_b {bs ct td : Nat → Int} {p : TS} : 0 ≤ (trP bs ct td p).1 ∧ (trP bs ct td p).1 ≤ 1 := by
  unfold trP trA
  (repeat' split) <;> refine ⟨?_, ?_⟩ <;> (first | exact (by decide : (0 : Int) ≤ 0) | exact (by decide : (0 : Int) ≤ 1) | exact (by decide : (1 : Int) ≤ 1))
set_option maxHeartbeats 1000000 in
set_option maxRecDepth 20000 in
theorem s_X4_trolleyEnd {l : Launch} {n : Nat} {M : jdM} {t b f : Nat} {bs : Nat → Int} {p : TS} {ct td bk si ld : Nat → Int} (H1 : TF M n t b f bs p ct td bk si ld) (hby : ∀ i, -128 ≤ bs i ∧ bs i < 128) : Ct l yX4_trolleyEnd cX4_trolleyEnd 3 (some .int) rX4_trolleyEnd [.ref t, .ref f] n M (fun vv n' M' => (vv = some (jI (trP bs ct td p).1) ∧ n = n') ∧ TkP M' n b bs (trP bs ct td p).2 ∧ fr (TokS b) M M') := by
  refine Ct_of [some (.ref t), some (.ref f), none] (by decide) (Nat.le_of_ble_eq_true rfl) rfl (fun κ hl h hR hRt hmn hn0 => ?_)
  have h : Ok κ RX4 cX4_trolleyEnd 3 (some .int) := h
  obtain ⟨E1, F1, hbf, htf⟩ := id H1
  obtain ⟨ht, hOt, X1, hPO, hsep⟩ := id E1
  obtain ⟨hnb, hOb, hYb, hNb, hSb, hKb⟩ := id X1
  obtain ⟨hfn, hFf, -⟩ := id F1
  refine jr_aload_n (pc := 0) h dX4_trolleyEnd_0 rfl ?_
  refine gf_X4_12 (pc := 1) h dX4_trolleyEnd_1 (by assumption) (by omega) ?_
  refine iv_X4_35 (pc := 4) h hl hR dX4_trolleyEnd_4 ⟨(Nat.le_of_ble_eq_true rfl), (Nat.le_of_ble_eq_true rfl), (Nat.le_of_ble_eq_true rfl), (Nat.le_of_ble_eq_true rfl)⟩ (Nat.le_of_ble_eq_true rfl) (by assumption) (by omega) (s_X6_isFine X1 hPO.1.2.2.2.2.1) (fun v_4 n_4 M_4 hn_4 hp => ?_)
  obtain ⟨⟨rfl, rfl, rfl⟩, gr_4⟩ := hp
  refine jr_if_ne (pc := 7) h 12 dX4_trolleyEnd_7 (by decide) (by omega) (fun c_7 => ?_) (fun c_7 => ?_)
  · skip
    have e7 : p.1 7 = 0 := by
      by_cases q : p.1 7 = 0
      · exact q
      · exact absurd (bz_f q) c_7
    refine jr_aload_n (pc := 12) h dX4_trolleyEnd_12 rfl ?_
    refine gf_X4_12 (pc := 13) h dX4_trolleyEnd_13 (by assumption) (by omega) ?_
    refine jr_ldcS (pc := 16) h 3 (by decide) ⟨rfl, rfl⟩ dX4_trolleyEnd_16 ?_
    refine iv_X4_151 (pc := 18) h hl hR dX4_trolleyEnd_18 ⟨(Nat.le_of_ble_eq_true rfl), (Nat.le_of_ble_eq_true rfl), (Nat.le_of_ble_eq_true rfl), (Nat.le_of_ble_eq_true rfl)⟩ (Nat.le_of_ble_eq_true rfl) (by assumption) (by omega) (s_X6_isWord (k := 3) X1 hby hPO.1 (by omega)) (fun v_18 n_18 M_18 hn_18 hp => ?_)
    obtain ⟨⟨rfl, rfl, rfl⟩, gr_18⟩ := hp
    refine jr_if_eq (pc := 21) h 28 dX4_trolleyEnd_21 (by decide) (by omega) (fun c_21 => ?_) (fun c_21 => ?_)
    · skip
      refine jr_iconst (pc := 28) h dX4_trolleyEnd_28 ?_
      refine jr_istore_n (pc := 29) h [_, _, _] dX4_trolleyEnd_29 (by decide) rfl ?_
      refine jr_iload_n (pc := 30) h dX4_trolleyEnd_30 rfl ?_
      refine jr_if_ne (pc := 31) h 57 dX4_trolleyEnd_31 (by decide) (by omega) (fun c_31 => ?_) (fun c_31 => ?_)
      · skip
        refine jr_aload_n (pc := 57) h dX4_trolleyEnd_57 rfl ?_
        refine jr_iload_n (pc := 58) h dX4_trolleyEnd_58 rfl ?_
        refine iv_X4_190 (pc := 59) h hl hR dX4_trolleyEnd_59 ⟨(Nat.le_of_ble_eq_true rfl), (Nat.le_of_ble_eq_true rfl), (Nat.le_of_ble_eq_true rfl), (Nat.le_of_ble_eq_true rfl)⟩ (Nat.le_of_ble_eq_true rfl) (by assumption) (by omega) (s_X1_hasTrolleyFrom F1 (by omega)) (fun v_59 n_59 M_59 hn_59 hp => ?_)
        obtain ⟨⟨rfl, rfl, rfl⟩, gr_59⟩ := hp
        refine jr_if_eq (pc := 62) h 76 dX4_trolleyEnd_62 (by decide) (by omega) (fun c_62 => ?_) (fun c_62 => ?_)
        · skip
          refine jr_aload_n (pc := 76) h dX4_trolleyEnd_76 rfl ?_
          refine gf_X4_12 (pc := 77) h dX4_trolleyEnd_77 (by assumption) (by omega) ?_
          refine iv_X4_69 (pc := 80) h hl hR dX4_trolleyEnd_80 ⟨(Nat.le_of_ble_eq_true rfl), (Nat.le_of_ble_eq_true rfl), (Nat.le_of_ble_eq_true rfl), (Nat.le_of_ble_eq_true rfl)⟩ (Nat.le_of_ble_eq_true rfl) (by assumption) (by omega) (s_X6_next X1 hby ⟨hPO.1.1, hPO.1.2.2.1⟩ rfl rfl rfl) (fun v_80 n_80 M_80 hn_80 hp => ?_)
          obtain ⟨⟨rfl, rfl⟩, g9, T9, f9, q1, q2, q3, q4, q5, q7, q8, q12⟩ := hp
          have X9 := nxP_of (w := p.2.1) T9 q1 q2 q3 q4 q5 q7 q8 q12
          have H9 := TF_tk H1 X9 f9 (nxP_O hPO)
          refine jr_iload_n (pc := 83) h dX4_trolleyEnd_83 rfl ?_
          refine jr_iret (pc := 84) h hRt dX4_trolleyEnd_84 rfl (Nat.le_of_ble_eq_true rfl) (Nat.le_of_ble_eq_true rfl) ?_
          first
          | (exfalso; omega)
          | (have e9 : trP bs ct td p = (1, flP 3 p) := by
               unfold trP trA
               rw [if_neg (show ¬ (p.1 7 ≠ 0) by omega)]
               rw [if_pos (bz_1.mp c_21)]
               rw [if_pos (bz_1.mp c_62)]
             exact ⟨⟨by (rw [e9]) <;> rfl, rfl⟩, by rw [e9]; exact X9, f9⟩)
          | (have e9 : trP bs ct td p = (1, nxP bs p) := by
               unfold trP trA
               rw [if_neg (show ¬ (p.1 7 ≠ 0) by omega)]
               rw [if_pos (bz_1.mp c_21)]
               rw [if_neg (bz_0.mp c_62)]
             exact ⟨⟨by (rw [e9]) <;> rfl, rfl⟩, by rw [e9]; exact X9, f9⟩)
          | (have e9 : trP bs ct td p = (0, flP 3 p) := by
               unfold trP trA
               rw [if_neg (show ¬ (p.1 7 ≠ 0) by omega)]
               rw [if_neg (bz_0.mp c_21)]
               rw [if_pos (bz_1.mp c_43)]
               rw [if_pos (bz_1.mp c_62)]
             exact ⟨⟨by (rw [e9]) <;> rfl, rfl⟩, by rw [e9]; exact X9, f9⟩)
          | (have e9 : trP bs ct td p = (0, nxP bs p) := by
               unfold trP trA
               rw [if_neg (show ¬ (p.1 7 ≠ 0) by omega)]
               rw [if_neg (bz_0.mp c_21)]
               rw [if_pos (bz_1.mp c_43)]
               rw [if_neg (bz_0.mp c_62)]
             exact ⟨⟨by (rw [e9]) <;> rfl, rfl⟩, by rw [e9]; exact X9, f9⟩)
          | (have e9 : trP bs ct td p = (0, flP 1 p) := by
               unfold trP trA
               rw [if_neg (show ¬ (p.1 7 ≠ 0) by omega)]
               rw [if_neg (bz_0.mp c_21)]
               rw [if_neg (bz_0.mp c_43)]
             exact ⟨⟨by (rw [e9]) <;> rfl, rfl⟩, by rw [e9]; exact X9, f9⟩)
        · skip
          refine jr_aload_n (pc := 65) h dX4_trolleyEnd_65 rfl ?_
          refine gf_X4_12 (pc := 66) h dX4_trolleyEnd_66 (by assumption) (by omega) ?_
          refine jr_iconst (pc := 69) h dX4_trolleyEnd_69 ?_
          refine iv_X4_56 (pc := 70) h hl hR dX4_trolleyEnd_70 ⟨(Nat.le_of_ble_eq_true rfl), (Nat.le_of_ble_eq_true rfl), (Nat.le_of_ble_eq_true rfl), (Nat.le_of_ble_eq_true rfl)⟩ (Nat.le_of_ble_eq_true rfl) (by assumption) (by omega) (s_X6_fail X1 hPO.1.2.2.2.2.1) (fun v_70 n_70 M_70 hn_70 hp => ?_)
          obtain ⟨⟨rfl, rfl⟩, g9, T9, f9, q1, q2, q3, q4, q5, q7, q8, q12⟩ := hp
          have X9 := flP_of T9 q1 q2 q3 q4 q5 q7 q8 q12
          have H9 := TF_tk H1 X9 f9 (flP_O hPO (by omega))
          refine jr_goto (pc := 73) h 83 dX4_trolleyEnd_73 (by decide) ?_
          refine jr_iload_n (pc := 83) h dX4_trolleyEnd_83 rfl ?_
          refine jr_iret (pc := 84) h hRt dX4_trolleyEnd_84 rfl (Nat.le_of_ble_eq_true rfl) (Nat.le_of_ble_eq_true rfl) ?_
          first
          | (exfalso; omega)
          | (have e9 : trP bs ct td p = (1, flP 3 p) := by
               unfold trP trA
               rw [if_neg (show ¬ (p.1 7 ≠ 0) by omega)]
               rw [if_pos (bz_1.mp c_21)]
               rw [if_pos (bz_1.mp c_62)]
             exact ⟨⟨by (rw [e9]) <;> rfl, rfl⟩, by rw [e9]; exact X9, f9⟩)
          | (have e9 : trP bs ct td p = (1, nxP bs p) := by
               unfold trP trA
               rw [if_neg (show ¬ (p.1 7 ≠ 0) by omega)]
               rw [if_pos (bz_1.mp c_21)]
               rw [if_neg (bz_0.mp c_62)]
             exact ⟨⟨by (rw [e9]) <;> rfl, rfl⟩, by rw [e9]; exact X9, f9⟩)
          | (have e9 : trP bs ct td p = (0, flP 3 p) := by
               unfold trP trA
               rw [if_neg (show ¬ (p.1 7 ≠ 0) by omega)]
               rw [if_neg (bz_0.mp c_21)]
               rw [if_pos (bz_1.mp c_43)]
               rw [if_pos (bz_1.mp c_62)]
             exact ⟨⟨by (rw [e9]) <;> rfl, rfl⟩, by rw [e9]; exact X9, f9⟩)
          | (have e9 : trP bs ct td p = (0, nxP bs p) := by
               unfold trP trA
               rw [if_neg (show ¬ (p.1 7 ≠ 0) by omega)]
               rw [if_neg (bz_0.mp c_21)]
               rw [if_pos (bz_1.mp c_43)]
               rw [if_neg (bz_0.mp c_62)]
             exact ⟨⟨by (rw [e9]) <;> rfl, rfl⟩, by rw [e9]; exact X9, f9⟩)
          | (have e9 : trP bs ct td p = (0, flP 1 p) := by
               unfold trP trA
               rw [if_neg (show ¬ (p.1 7 ≠ 0) by omega)]
               rw [if_neg (bz_0.mp c_21)]
               rw [if_neg (bz_0.mp c_43)]
             exact ⟨⟨by (rw [e9]) <;> rfl, rfl⟩, by rw [e9]; exact X9, f9⟩)
      · skip
        refine jr_aload_n (pc := 34) h dX4_trolleyEnd_34 rfl ?_
        refine gf_X4_12 (pc := 35) h dX4_trolleyEnd_35 (by assumption) (by omega) ?_
        refine jr_ldcS (pc := 38) h 4 (by decide) ⟨rfl, rfl⟩ dX4_trolleyEnd_38 ?_
        refine iv_X4_151 (pc := 40) h hl hR dX4_trolleyEnd_40 ⟨(Nat.le_of_ble_eq_true rfl), (Nat.le_of_ble_eq_true rfl), (Nat.le_of_ble_eq_true rfl), (Nat.le_of_ble_eq_true rfl)⟩ (Nat.le_of_ble_eq_true rfl) (by assumption) (by omega) (s_X6_isWord (k := 4) X1 hby hPO.1 (by omega)) (fun v_40 n_40 M_40 hn_40 hp => ?_)
        obtain ⟨⟨rfl, rfl, rfl⟩, gr_40⟩ := hp
        refine jr_if_ne (pc := 43) h 57 dX4_trolleyEnd_43 (by decide) (by omega) (fun c_43 => ?_) (fun c_43 => ?_)
        · skip
          refine jr_aload_n (pc := 57) h dX4_trolleyEnd_57 rfl ?_
          refine jr_iload_n (pc := 58) h dX4_trolleyEnd_58 rfl ?_
          refine iv_X4_190 (pc := 59) h hl hR dX4_trolleyEnd_59 ⟨(Nat.le_of_ble_eq_true rfl), (Nat.le_of_ble_eq_true rfl), (Nat.le_of_ble_eq_true rfl), (Nat.le_of_ble_eq_true rfl)⟩ (Nat.le_of_ble_eq_true rfl) (by assumption) (by omega) (s_X1_hasTrolleyFrom F1 (by omega)) (fun v_59 n_59 M_59 hn_59 hp => ?_)
          obtain ⟨⟨rfl, rfl, rfl⟩, gr_59⟩ := hp
          refine jr_if_eq (pc := 62) h 76 dX4_trolleyEnd_62 (by decide) (by omega) (fun c_62 => ?_) (fun c_62 => ?_)
          · skip
            refine jr_aload_n (pc := 76) h dX4_trolleyEnd_76 rfl ?_
            refine gf_X4_12 (pc := 77) h dX4_trolleyEnd_77 (by assumption) (by omega) ?_
            refine iv_X4_69 (pc := 80) h hl hR dX4_trolleyEnd_80 ⟨(Nat.le_of_ble_eq_true rfl), (Nat.le_of_ble_eq_true rfl), (Nat.le_of_ble_eq_true rfl), (Nat.le_of_ble_eq_true rfl)⟩ (Nat.le_of_ble_eq_true rfl) (by assumption) (by omega) (s_X6_next X1 hby ⟨hPO.1.1, hPO.1.2.2.1⟩ rfl rfl rfl) (fun v_80 n_80 M_80 hn_80 hp => ?_)
            obtain ⟨⟨rfl, rfl⟩, g9, T9, f9, q1, q2, q3, q4, q5, q7, q8, q12⟩ := hp
            have X9 := nxP_of (w := p.2.1) T9 q1 q2 q3 q4 q5 q7 q8 q12
            have H9 := TF_tk H1 X9 f9 (nxP_O hPO)
            refine jr_iload_n (pc := 83) h dX4_trolleyEnd_83 rfl ?_
            refine jr_iret (pc := 84) h hRt dX4_trolleyEnd_84 rfl (Nat.le_of_ble_eq_true rfl) (Nat.le_of_ble_eq_true rfl) ?_
            first
            | (exfalso; omega)
            | (have e9 : trP bs ct td p = (1, flP 3 p) := by
                 unfold trP trA
                 rw [if_neg (show ¬ (p.1 7 ≠ 0) by omega)]
                 rw [if_pos (bz_1.mp c_21)]
                 rw [if_pos (bz_1.mp c_62)]
               exact ⟨⟨by (rw [e9]) <;> rfl, rfl⟩, by rw [e9]; exact X9, f9⟩)
            | (have e9 : trP bs ct td p = (1, nxP bs p) := by
                 unfold trP trA
                 rw [if_neg (show ¬ (p.1 7 ≠ 0) by omega)]
                 rw [if_pos (bz_1.mp c_21)]
                 rw [if_neg (bz_0.mp c_62)]
               exact ⟨⟨by (rw [e9]) <;> rfl, rfl⟩, by rw [e9]; exact X9, f9⟩)
            | (have e9 : trP bs ct td p = (0, flP 3 p) := by
                 unfold trP trA
                 rw [if_neg (show ¬ (p.1 7 ≠ 0) by omega)]
                 rw [if_neg (bz_0.mp c_21)]
                 rw [if_pos (bz_1.mp c_43)]
                 rw [if_pos (bz_1.mp c_62)]
               exact ⟨⟨by (rw [e9]) <;> rfl, rfl⟩, by rw [e9]; exact X9, f9⟩)
            | (have e9 : trP bs ct td p = (0, nxP bs p) := by
                 unfold trP trA
                 rw [if_neg (show ¬ (p.1 7 ≠ 0) by omega)]
                 rw [if_neg (bz_0.mp c_21)]
                 rw [if_pos (bz_1.mp c_43)]
                 rw [if_neg (bz_0.mp c_62)]
               exact ⟨⟨by (rw [e9]) <;> rfl, rfl⟩, by rw [e9]; exact X9, f9⟩)
            | (have e9 : trP bs ct td p = (0, flP 1 p) := by
                 unfold trP trA
                 rw [if_neg (show ¬ (p.1 7 ≠ 0) by omega)]
                 rw [if_neg (bz_0.mp c_21)]
                 rw [if_neg (bz_0.mp c_43)]
               exact ⟨⟨by (rw [e9]) <;> rfl, rfl⟩, by rw [e9]; exact X9, f9⟩)
          · skip
            refine jr_aload_n (pc := 65) h dX4_trolleyEnd_65 rfl ?_
            refine gf_X4_12 (pc := 66) h dX4_trolleyEnd_66 (by assumption) (by omega) ?_
            refine jr_iconst (pc := 69) h dX4_trolleyEnd_69 ?_
            refine iv_X4_56 (pc := 70) h hl hR dX4_trolleyEnd_70 ⟨(Nat.le_of_ble_eq_true rfl), (Nat.le_of_ble_eq_true rfl), (Nat.le_of_ble_eq_true rfl), (Nat.le_of_ble_eq_true rfl)⟩ (Nat.le_of_ble_eq_true rfl) (by assumption) (by omega) (s_X6_fail X1 hPO.1.2.2.2.2.1) (fun v_70 n_70 M_70 hn_70 hp => ?_)
            obtain ⟨⟨rfl, rfl⟩, g9, T9, f9, q1, q2, q3, q4, q5, q7, q8, q12⟩ := hp
            have X9 := flP_of T9 q1 q2 q3 q4 q5 q7 q8 q12
            have H9 := TF_tk H1 X9 f9 (flP_O hPO (by omega))
            refine jr_goto (pc := 73) h 83 dX4_trolleyEnd_73 (by decide) ?_
            refine jr_iload_n (pc := 83) h dX4_trolleyEnd_83 rfl ?_
            refine jr_iret (pc := 84) h hRt dX4_trolleyEnd_84 rfl (Nat.le_of_ble_eq_true rfl) (Nat.le_of_ble_eq_true rfl) ?_
            first
            | (exfalso; omega)
            | (have e9 : trP bs ct td p = (1, flP 3 p) := by
                 unfold trP trA
                 rw [if_neg (show ¬ (p.1 7 ≠ 0) by omega)]
                 rw [if_pos (bz_1.mp c_21)]
                 rw [if_pos (bz_1.mp c_62)]
               exact ⟨⟨by (rw [e9]) <;> rfl, rfl⟩, by rw [e9]; exact X9, f9⟩)
            | (have e9 : trP bs ct td p = (1, nxP bs p) := by
                 unfold trP trA
                 rw [if_neg (show ¬ (p.1 7 ≠ 0) by omega)]
                 rw [if_pos (bz_1.mp c_21)]
                 rw [if_neg (bz_0.mp c_62)]
               exact ⟨⟨by (rw [e9]) <;> rfl, rfl⟩, by rw [e9]; exact X9, f9⟩)
            | (have e9 : trP bs ct td p = (0, flP 3 p) := by
                 unfold trP trA
                 rw [if_neg (show ¬ (p.1 7 ≠ 0) by omega)]
                 rw [if_neg (bz_0.mp c_21)]
                 rw [if_pos (bz_1.mp c_43)]
                 rw [if_pos (bz_1.mp c_62)]
               exact ⟨⟨by (rw [e9]) <;> rfl, rfl⟩, by rw [e9]; exact X9, f9⟩)
            | (have e9 : trP bs ct td p = (0, nxP bs p) := by
                 unfold trP trA
                 rw [if_neg (show ¬ (p.1 7 ≠ 0) by omega)]
                 rw [if_neg (bz_0.mp c_21)]
                 rw [if_pos (bz_1.mp c_43)]
                 rw [if_neg (bz_0.mp c_62)]
               exact ⟨⟨by (rw [e9]) <;> rfl, rfl⟩, by rw [e9]; exact X9, f9⟩)
            | (have e9 : trP bs ct td p = (0, flP 1 p) := by
                 unfold trP trA
                 rw [if_neg (show ¬ (p.1 7 ≠ 0) by omega)]
                 rw [if_neg (bz_0.mp c_21)]
                 rw [if_neg (bz_0.mp c_43)]
               exact ⟨⟨by (rw [e9]) <;> rfl, rfl⟩, by rw [e9]; exact X9, f9⟩)
        · skip
          refine jr_aload_n (pc := 46) h dX4_trolleyEnd_46 rfl ?_
          refine gf_X4_12 (pc := 47) h dX4_trolleyEnd_47 (by assumption) (by omega) ?_
          refine jr_iconst (pc := 50) h dX4_trolleyEnd_50 ?_
          refine iv_X4_56 (pc := 51) h hl hR dX4_trolleyEnd_51 ⟨(Nat.le_of_ble_eq_true rfl), (Nat.le_of_ble_eq_true rfl), (Nat.le_of_ble_eq_true rfl), (Nat.le_of_ble_eq_true rfl)⟩ (Nat.le_of_ble_eq_true rfl) (by assumption) (by omega) (s_X6_fail X1 hPO.1.2.2.2.2.1) (fun v_51 n_51 M_51 hn_51 hp => ?_)
          obtain ⟨⟨rfl, rfl⟩, g9, T9, f9, q1, q2, q3, q4, q5, q7, q8, q12⟩ := hp
          have X9 := flP_of T9 q1 q2 q3 q4 q5 q7 q8 q12
          have H9 := TF_tk H1 X9 f9 (flP_O hPO (by omega))
          refine jr_goto (pc := 54) h 83 dX4_trolleyEnd_54 (by decide) ?_
          refine jr_iload_n (pc := 83) h dX4_trolleyEnd_83 rfl ?_
          refine jr_iret (pc := 84) h hRt dX4_trolleyEnd_84 rfl (Nat.le_of_ble_eq_true rfl) (Nat.le_of_ble_eq_true rfl) ?_
          first
          | (exfalso; omega)
          | (have e9 : trP bs ct td p = (1, flP 3 p) := by
               unfold trP trA
               rw [if_neg (show ¬ (p.1 7 ≠ 0) by omega)]
               rw [if_pos (bz_1.mp c_21)]
               rw [if_pos (bz_1.mp c_62)]
             exact ⟨⟨by (rw [e9]) <;> rfl, rfl⟩, by rw [e9]; exact X9, f9⟩)
          | (have e9 : trP bs ct td p = (1, nxP bs p) := by
               unfold trP trA
               rw [if_neg (show ¬ (p.1 7 ≠ 0) by omega)]
               rw [if_pos (bz_1.mp c_21)]
               rw [if_neg (bz_0.mp c_62)]
             exact ⟨⟨by (rw [e9]) <;> rfl, rfl⟩, by rw [e9]; exact X9, f9⟩)
          | (have e9 : trP bs ct td p = (0, flP 3 p) := by
               unfold trP trA
               rw [if_neg (show ¬ (p.1 7 ≠ 0) by omega)]
               rw [if_neg (bz_0.mp c_21)]
               rw [if_pos (bz_1.mp c_43)]
               rw [if_pos (bz_1.mp c_62)]
             exact ⟨⟨by (rw [e9]) <;> rfl, rfl⟩, by rw [e9]; exact X9, f9⟩)
          | (have e9 : trP bs ct td p = (0, nxP bs p) := by
               unfold trP trA
               rw [if_neg (show ¬ (p.1 7 ≠ 0) by omega)]
               rw [if_neg (bz_0.mp c_21)]
               rw [if_pos (bz_1.mp c_43)]
               rw [if_neg (bz_0.mp c_62)]
             exact ⟨⟨by (rw [e9]) <;> rfl, rfl⟩, by rw [e9]; exact X9, f9⟩)
          | (have e9 : trP bs ct td p = (0, flP 1 p) := by
               unfold trP trA
               rw [if_neg (show ¬ (p.1 7 ≠ 0) by omega)]
               rw [if_neg (bz_0.mp c_21)]
               rw [if_neg (bz_0.mp c_43)]
             exact ⟨⟨by (rw [e9]) <;> rfl, rfl⟩, by rw [e9]; exact X9, f9⟩)
    · skip
      refine jr_iconst (pc := 24) h dX4_trolleyEnd_24 ?_
      refine jr_goto (pc := 25) h 29 dX4_trolleyEnd_25 (by decide) ?_
      refine jr_istore_n (pc := 29) h [_, _, _] dX4_trolleyEnd_29 (by decide) rfl ?_
      refine jr_iload_n (pc := 30) h dX4_trolleyEnd_30 rfl ?_
      refine jr_if_ne (pc := 31) h 57 dX4_trolleyEnd_31 (by decide) (by omega) (fun c_31 => ?_) (fun c_31 => ?_)
      · skip
        refine jr_aload_n (pc := 57) h dX4_trolleyEnd_57 rfl ?_
        refine jr_iload_n (pc := 58) h dX4_trolleyEnd_58 rfl ?_
        refine iv_X4_190 (pc := 59) h hl hR dX4_trolleyEnd_59 ⟨(Nat.le_of_ble_eq_true rfl), (Nat.le_of_ble_eq_true rfl), (Nat.le_of_ble_eq_true rfl), (Nat.le_of_ble_eq_true rfl)⟩ (Nat.le_of_ble_eq_true rfl) (by assumption) (by omega) (s_X1_hasTrolleyFrom F1 (by omega)) (fun v_59 n_59 M_59 hn_59 hp => ?_)
        obtain ⟨⟨rfl, rfl, rfl⟩, gr_59⟩ := hp
        refine jr_if_eq (pc := 62) h 76 dX4_trolleyEnd_62 (by decide) (by omega) (fun c_62 => ?_) (fun c_62 => ?_)
        · skip
          refine jr_aload_n (pc := 76) h dX4_trolleyEnd_76 rfl ?_
          refine gf_X4_12 (pc := 77) h dX4_trolleyEnd_77 (by assumption) (by omega) ?_
          refine iv_X4_69 (pc := 80) h hl hR dX4_trolleyEnd_80 ⟨(Nat.le_of_ble_eq_true rfl), (Nat.le_of_ble_eq_true rfl), (Nat.le_of_ble_eq_true rfl), (Nat.le_of_ble_eq_true rfl)⟩ (Nat.le_of_ble_eq_true rfl) (by assumption) (by omega) (s_X6_next X1 hby ⟨hPO.1.1, hPO.1.2.2.1⟩ rfl rfl rfl) (fun v_80 n_80 M_80 hn_80 hp => ?_)
          obtain ⟨⟨rfl, rfl⟩, g9, T9, f9, q1, q2, q3, q4, q5, q7, q8, q12⟩ := hp
          have X9 := nxP_of (w := p.2.1) T9 q1 q2 q3 q4 q5 q7 q8 q12
          have H9 := TF_tk H1 X9 f9 (nxP_O hPO)
          refine jr_iload_n (pc := 83) h dX4_trolleyEnd_83 rfl ?_
          refine jr_iret (pc := 84) h hRt dX4_trolleyEnd_84 rfl (Nat.le_of_ble_eq_true rfl) (Nat.le_of_ble_eq_true rfl) ?_
          first
          | (exfalso; omega)
          | (have e9 : trP bs ct td p = (1, flP 3 p) := by
               unfold trP trA
               rw [if_neg (show ¬ (p.1 7 ≠ 0) by omega)]
               rw [if_pos (bz_1.mp c_21)]
               rw [if_pos (bz_1.mp c_62)]
             exact ⟨⟨by (rw [e9]) <;> rfl, rfl⟩, by rw [e9]; exact X9, f9⟩)
          | (have e9 : trP bs ct td p = (1, nxP bs p) := by
               unfold trP trA
               rw [if_neg (show ¬ (p.1 7 ≠ 0) by omega)]
               rw [if_pos (bz_1.mp c_21)]
               rw [if_neg (bz_0.mp c_62)]
             exact ⟨⟨by (rw [e9]) <;> rfl, rfl⟩, by rw [e9]; exact X9, f9⟩)
          | (have e9 : trP bs ct td p = (0, flP 3 p) := by
               unfold trP trA
               rw [if_neg (show ¬ (p.1 7 ≠ 0) by omega)]
               rw [if_neg (bz_0.mp c_21)]
               rw [if_pos (bz_1.mp c_43)]
               rw [if_pos (bz_1.mp c_62)]
             exact ⟨⟨by (rw [e9]) <;> rfl, rfl⟩, by rw [e9]; exact X9, f9⟩)
          | (have e9 : trP bs ct td p = (0, nxP bs p) := by
               unfold trP trA
               rw [if_neg (show ¬ (p.1 7 ≠ 0) by omega)]
               rw [if_neg (bz_0.mp c_21)]
               rw [if_pos (bz_1.mp c_43)]
               rw [if_neg (bz_0.mp c_62)]
             exact ⟨⟨by (rw [e9]) <;> rfl, rfl⟩, by rw [e9]; exact X9, f9⟩)
          | (have e9 : trP bs ct td p = (0, flP 1 p) := by
               unfold trP trA
               rw [if_neg (show ¬ (p.1 7 ≠ 0) by omega)]
               rw [if_neg (bz_0.mp c_21)]
               rw [if_neg (bz_0.mp c_43)]
             exact ⟨⟨by (rw [e9]) <;> rfl, rfl⟩, by rw [e9]; exact X9, f9⟩)
        · skip
          refine jr_aload_n (pc := 65) h dX4_trolleyEnd_65 rfl ?_
          refine gf_X4_12 (pc := 66) h dX4_trolleyEnd_66 (by assumption) (by omega) ?_
          refine jr_iconst (pc := 69) h dX4_trolleyEnd_69 ?_
          refine iv_X4_56 (pc := 70) h hl hR dX4_trolleyEnd_70 ⟨(Nat.le_of_ble_eq_true rfl), (Nat.le_of_ble_eq_true rfl), (Nat.le_of_ble_eq_true rfl), (Nat.le_of_ble_eq_true rfl)⟩ (Nat.le_of_ble_eq_true rfl) (by assumption) (by omega) (s_X6_fail X1 hPO.1.2.2.2.2.1) (fun v_70 n_70 M_70 hn_70 hp => ?_)
          obtain ⟨⟨rfl, rfl⟩, g9, T9, f9, q1, q2, q3, q4, q5, q7, q8, q12⟩ := hp
          have X9 := flP_of T9 q1 q2 q3 q4 q5 q7 q8 q12
          have H9 := TF_tk H1 X9 f9 (flP_O hPO (by omega))
          refine jr_goto (pc := 73) h 83 dX4_trolleyEnd_73 (by decide) ?_
          refine jr_iload_n (pc := 83) h dX4_trolleyEnd_83 rfl ?_
          refine jr_iret (pc := 84) h hRt dX4_trolleyEnd_84 rfl (Nat.le_of_ble_eq_true rfl) (Nat.le_of_ble_eq_true rfl) ?_
          first
          | (exfalso; omega)
          | (have e9 : trP bs ct td p = (1, flP 3 p) := by
               unfold trP trA
               rw [if_neg (show ¬ (p.1 7 ≠ 0) by omega)]
               rw [if_pos (bz_1.mp c_21)]
               rw [if_pos (bz_1.mp c_62)]
             exact ⟨⟨by (rw [e9]) <;> rfl, rfl⟩, by rw [e9]; exact X9, f9⟩)
          | (have e9 : trP bs ct td p = (1, nxP bs p) := by
               unfold trP trA
               rw [if_neg (show ¬ (p.1 7 ≠ 0) by omega)]
               rw [if_pos (bz_1.mp c_21)]
               rw [if_neg (bz_0.mp c_62)]
             exact ⟨⟨by (rw [e9]) <;> rfl, rfl⟩, by rw [e9]; exact X9, f9⟩)
          | (have e9 : trP bs ct td p = (0, flP 3 p) := by
               unfold trP trA
               rw [if_neg (show ¬ (p.1 7 ≠ 0) by omega)]
               rw [if_neg (bz_0.mp c_21)]
               rw [if_pos (bz_1.mp c_43)]
               rw [if_pos (bz_1.mp c_62)]
             exact ⟨⟨by (rw [e9]) <;> rfl, rfl⟩, by rw [e9]; exact X9, f9⟩)
          | (have e9 : trP bs ct td p = (0, nxP bs p) := by
               unfold trP trA
               rw [if_neg (show ¬ (p.1 7 ≠ 0) by omega)]
               rw [if_neg (bz_0.mp c_21)]
               rw [if_pos (bz_1.mp c_43)]
               rw [if_neg (bz_0.mp c_62)]
             exact ⟨⟨by (rw [e9]) <;> rfl, rfl⟩, by rw [e9]; exact X9, f9⟩)
          | (have e9 : trP bs ct td p = (0, flP 1 p) := by
               unfold trP trA
               rw [if_neg (show ¬ (p.1 7 ≠ 0) by omega)]
               rw [if_neg (bz_0.mp c_21)]
               rw [if_neg (bz_0.mp c_43)]
             exact ⟨⟨by (rw [e9]) <;> rfl, rfl⟩, by rw [e9]; exact X9, f9⟩)
      · skip
        refine jr_aload_n (pc := 34) h dX4_trolleyEnd_34 rfl ?_
        refine gf_X4_12 (pc := 35) h dX4_trolleyEnd_35 (by assumption) (by omega) ?_
        refine jr_ldcS (pc := 38) h 4 (by decide) ⟨rfl, rfl⟩ dX4_trolleyEnd_38 ?_
        refine iv_X4_151 (pc := 40) h hl hR dX4_trolleyEnd_40 ⟨(Nat.le_of_ble_eq_true rfl), (Nat.le_of_ble_eq_true rfl), (Nat.le_of_ble_eq_true rfl), (Nat.le_of_ble_eq_true rfl)⟩ (Nat.le_of_ble_eq_true rfl) (by assumption) (by omega) (s_X6_isWord (k := 4) X1 hby hPO.1 (by omega)) (fun v_40 n_40 M_40 hn_40 hp => ?_)
        obtain ⟨⟨rfl, rfl, rfl⟩, gr_40⟩ := hp
        refine jr_if_ne (pc := 43) h 57 dX4_trolleyEnd_43 (by decide) (by omega) (fun c_43 => ?_) (fun c_43 => ?_)
        · skip
          refine jr_aload_n (pc := 57) h dX4_trolleyEnd_57 rfl ?_
          refine jr_iload_n (pc := 58) h dX4_trolleyEnd_58 rfl ?_
          refine iv_X4_190 (pc := 59) h hl hR dX4_trolleyEnd_59 ⟨(Nat.le_of_ble_eq_true rfl), (Nat.le_of_ble_eq_true rfl), (Nat.le_of_ble_eq_true rfl), (Nat.le_of_ble_eq_true rfl)⟩ (Nat.le_of_ble_eq_true rfl) (by assumption) (by omega) (s_X1_hasTrolleyFrom F1 (by omega)) (fun v_59 n_59 M_59 hn_59 hp => ?_)
          obtain ⟨⟨rfl, rfl, rfl⟩, gr_59⟩ := hp
          refine jr_if_eq (pc := 62) h 76 dX4_trolleyEnd_62 (by decide) (by omega) (fun c_62 => ?_) (fun c_62 => ?_)
          · skip
            refine jr_aload_n (pc := 76) h dX4_trolleyEnd_76 rfl ?_
            refine gf_X4_12 (pc := 77) h dX4_trolleyEnd_77 (by assumption) (by omega) ?_
            refine iv_X4_69 (pc := 80) h hl hR dX4_trolleyEnd_80 ⟨(Nat.le_of_ble_eq_true rfl), (Nat.le_of_ble_eq_true rfl), (Nat.le_of_ble_eq_true rfl), (Nat.le_of_ble_eq_true rfl)⟩ (Nat.le_of_ble_eq_true rfl) (by assumption) (by omega) (s_X6_next X1 hby ⟨hPO.1.1, hPO.1.2.2.1⟩ rfl rfl rfl) (fun v_80 n_80 M_80 hn_80 hp => ?_)
            obtain ⟨⟨rfl, rfl⟩, g9, T9, f9, q1, q2, q3, q4, q5, q7, q8, q12⟩ := hp
            have X9 := nxP_of (w := p.2.1) T9 q1 q2 q3 q4 q5 q7 q8 q12
            have H9 := TF_tk H1 X9 f9 (nxP_O hPO)
            refine jr_iload_n (pc := 83) h dX4_trolleyEnd_83 rfl ?_
            refine jr_iret (pc := 84) h hRt dX4_trolleyEnd_84 rfl (Nat.le_of_ble_eq_true rfl) (Nat.le_of_ble_eq_true rfl) ?_
            first
            | (exfalso; omega)
            | (have e9 : trP bs ct td p = (1, flP 3 p) := by
                 unfold trP trA
                 rw [if_neg (show ¬ (p.1 7 ≠ 0) by omega)]
                 rw [if_pos (bz_1.mp c_21)]
                 rw [if_pos (bz_1.mp c_62)]
               exact ⟨⟨by (rw [e9]) <;> rfl, rfl⟩, by rw [e9]; exact X9, f9⟩)
            | (have e9 : trP bs ct td p = (1, nxP bs p) := by
                 unfold trP trA
                 rw [if_neg (show ¬ (p.1 7 ≠ 0) by omega)]
                 rw [if_pos (bz_1.mp c_21)]
                 rw [if_neg (bz_0.mp c_62)]
               exact ⟨⟨by (rw [e9]) <;> rfl, rfl⟩, by rw [e9]; exact X9, f9⟩)
            | (have e9 : trP bs ct td p = (0, flP 3 p) := by
                 unfold trP trA
                 rw [if_neg (show ¬ (p.1 7 ≠ 0) by omega)]
                 rw [if_neg (bz_0.mp c_21)]
                 rw [if_pos (bz_1.mp c_43)]
                 rw [if_pos (bz_1.mp c_62)]
               exact ⟨⟨by (rw [e9]) <;> rfl, rfl⟩, by rw [e9]; exact X9, f9⟩)
            | (have e9 : trP bs ct td p = (0, nxP bs p) := by
                 unfold trP trA
                 rw [if_neg (show ¬ (p.1 7 ≠ 0) by omega)]
                 rw [if_neg (bz_0.mp c_21)]
                 rw [if_pos (bz_1.mp c_43)]
                 rw [if_neg (bz_0.mp c_62)]
               exact ⟨⟨by (rw [e9]) <;> rfl, rfl⟩, by rw [e9]; exact X9, f9⟩)
            | (have e9 : trP bs ct td p = (0, flP 1 p) := by
                 unfold trP trA
                 rw [if_neg (show ¬ (p.1 7 ≠ 0) by omega)]
                 rw [if_neg (bz_0.mp c_21)]
                 rw [if_neg (bz_0.mp c_43)]
               exact ⟨⟨by (rw [e9]) <;> rfl, rfl⟩, by rw [e9]; exact X9, f9⟩)
          · skip
            refine jr_aload_n (pc := 65) h dX4_trolleyEnd_65 rfl ?_
            refine gf_X4_12 (pc := 66) h dX4_trolleyEnd_66 (by assumption) (by omega) ?_
            refine jr_iconst (pc := 69) h dX4_trolleyEnd_69 ?_
            refine iv_X4_56 (pc := 70) h hl hR dX4_trolleyEnd_70 ⟨(Nat.le_of_ble_eq_true rfl), (Nat.le_of_ble_eq_true rfl), (Nat.le_of_ble_eq_true rfl), (Nat.le_of_ble_eq_true rfl)⟩ (Nat.le_of_ble_eq_true rfl) (by assumption) (by omega) (s_X6_fail X1 hPO.1.2.2.2.2.1) (fun v_70 n_70 M_70 hn_70 hp => ?_)
            obtain ⟨⟨rfl, rfl⟩, g9, T9, f9, q1, q2, q3, q4, q5, q7, q8, q12⟩ := hp
            have X9 := flP_of T9 q1 q2 q3 q4 q5 q7 q8 q12
            have H9 := TF_tk H1 X9 f9 (flP_O hPO (by omega))
            refine jr_goto (pc := 73) h 83 dX4_trolleyEnd_73 (by decide) ?_
            refine jr_iload_n (pc := 83) h dX4_trolleyEnd_83 rfl ?_
            refine jr_iret (pc := 84) h hRt dX4_trolleyEnd_84 rfl (Nat.le_of_ble_eq_true rfl) (Nat.le_of_ble_eq_true rfl) ?_
            first
            | (exfalso; omega)
            | (have e9 : trP bs ct td p = (1, flP 3 p) := by
                 unfold trP trA
                 rw [if_neg (show ¬ (p.1 7 ≠ 0) by omega)]
                 rw [if_pos (bz_1.mp c_21)]
                 rw [if_pos (bz_1.mp c_62)]
               exact ⟨⟨by (rw [e9]) <;> rfl, rfl⟩, by rw [e9]; exact X9, f9⟩)
            | (have e9 : trP bs ct td p = (1, nxP bs p) := by
                 unfold trP trA
                 rw [if_neg (show ¬ (p.1 7 ≠ 0) by omega)]
                 rw [if_pos (bz_1.mp c_21)]
                 rw [if_neg (bz_0.mp c_62)]
               exact ⟨⟨by (rw [e9]) <;> rfl, rfl⟩, by rw [e9]; exact X9, f9⟩)
            | (have e9 : trP bs ct td p = (0, flP 3 p) := by
                 unfold trP trA
                 rw [if_neg (show ¬ (p.1 7 ≠ 0) by omega)]
                 rw [if_neg (bz_0.mp c_21)]
                 rw [if_pos (bz_1.mp c_43)]
                 rw [if_pos (bz_1.mp c_62)]
               exact ⟨⟨by (rw [e9]) <;> rfl, rfl⟩, by rw [e9]; exact X9, f9⟩)
            | (have e9 : trP bs ct td p = (0, nxP bs p) := by
                 unfold trP trA
                 rw [if_neg (show ¬ (p.1 7 ≠ 0) by omega)]
                 rw [if_neg (bz_0.mp c_21)]
                 rw [if_pos (bz_1.mp c_43)]
                 rw [if_neg (bz_0.mp c_62)]
               exact ⟨⟨by (rw [e9]) <;> rfl, rfl⟩, by rw [e9]; exact X9, f9⟩)
            | (have e9 : trP bs ct td p = (0, flP 1 p) := by
                 unfold trP trA
                 rw [if_neg (show ¬ (p.1 7 ≠ 0) by omega)]
                 rw [if_neg (bz_0.mp c_21)]
                 rw [if_neg (bz_0.mp c_43)]
               exact ⟨⟨by (rw [e9]) <;> rfl, rfl⟩, by rw [e9]; exact X9, f9⟩)
        · skip
          refine jr_aload_n (pc := 46) h dX4_trolleyEnd_46 rfl ?_
          refine gf_X4_12 (pc := 47) h dX4_trolleyEnd_47 (by assumption) (by omega) ?_
          refine jr_iconst (pc := 50) h dX4_trolleyEnd_50 ?_
          refine iv_X4_56 (pc := 51) h hl hR dX4_trolleyEnd_51 ⟨(Nat.le_of_ble_eq_true rfl), (Nat.le_of_ble_eq_true rfl), (Nat.le_of_ble_eq_true rfl), (Nat.le_of_ble_eq_true rfl)⟩ (Nat.le_of_ble_eq_true rfl) (by assumption) (by omega) (s_X6_fail X1 hPO.1.2.2.2.2.1) (fun v_51 n_51 M_51 hn_51 hp => ?_)
          obtain ⟨⟨rfl, rfl⟩, g9, T9, f9, q1, q2, q3, q4, q5, q7, q8, q12⟩ := hp
          have X9 := flP_of T9 q1 q2 q3 q4 q5 q7 q8 q12
          have H9 := TF_tk H1 X9 f9 (flP_O hPO (by omega))
          refine jr_goto (pc := 54) h 83 dX4_trolleyEnd_54 (by decide) ?_
          refine jr_iload_n (pc := 83) h dX4_trolleyEnd_83 rfl ?_
          refine jr_iret (pc := 84) h hRt dX4_trolleyEnd_84 rfl (Nat.le_of_ble_eq_true rfl) (Nat.le_of_ble_eq_true rfl) ?_
          first
          | (exfalso; omega)
          | (have e9 : trP bs ct td p = (1, flP 3 p) := by
               unfold trP trA
               rw [if_neg (show ¬ (p.1 7 ≠ 0) by omega)]
               rw [if_pos (bz_1.mp c_21)]
               rw [if_pos (bz_1.mp c_62)]
             exact ⟨⟨by (rw [e9]) <;> rfl, rfl⟩, by rw [e9]; exact X9, f9⟩)
          | (have e9 : trP bs ct td p = (1, nxP bs p) := by
               unfold trP trA
               rw [if_neg (show ¬ (p.1 7 ≠ 0) by omega)]
               rw [if_pos (bz_1.mp c_21)]
               rw [if_neg (bz_0.mp c_62)]
             exact ⟨⟨by (rw [e9]) <;> rfl, rfl⟩, by rw [e9]; exact X9, f9⟩)
          | (have e9 : trP bs ct td p = (0, flP 3 p) := by
               unfold trP trA
               rw [if_neg (show ¬ (p.1 7 ≠ 0) by omega)]
               rw [if_neg (bz_0.mp c_21)]
               rw [if_pos (bz_1.mp c_43)]
               rw [if_pos (bz_1.mp c_62)]
             exact ⟨⟨by (rw [e9]) <;> rfl, rfl⟩, by rw [e9]; exact X9, f9⟩)
          | (have e9 : trP bs ct td p = (0, nxP bs p) := by
               unfold trP trA
               rw [if_neg (show ¬ (p.1 7 ≠ 0) by omega)]
               rw [if_neg (bz_0.mp c_21)]
               rw [if_pos (bz_1.mp c_43)]
               rw [if_neg (bz_0.mp c_62)]
             exact ⟨⟨by (rw [e9]) <;> rfl, rfl⟩, by rw [e9]; exact X9, f9⟩)
          | (have e9 : trP bs ct td p = (0, flP 1 p) := by
               unfold trP trA
               rw [if_neg (show ¬ (p.1 7 ≠ 0) by omega)]
               rw [if_neg (bz_0.mp c_21)]
               rw [if_neg (bz_0.mp c_43)]
             exact ⟨⟨by (rw [e9]) <;> rfl, rfl⟩, by rw [e9]; exact X9, f9⟩)
  · skip
    refine jr_iconst (pc := 10) h dX4_trolleyEnd_10 ?_
    refine jr_iret (pc := 11) h hRt dX4_trolleyEnd_11 rfl (Nat.le_of_ble_eq_true rfl) (Nat.le_of_ble_eq_true rfl) ?_
    have e9 : trP bs ct td p = (0, p) := by
      unfold trP
      rw [if_pos (show p.1 7 ≠ 0 from bz_0.mp c_7)]
    exact ⟨⟨by (rw [e9]) <;> rfl, rfl⟩, by rw [e9]; exact X1, fr_rf⟩
