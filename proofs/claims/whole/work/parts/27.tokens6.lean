/-! 27: Tokens: names -/
set_option maxHeartbeats 1000000 in
set_option maxRecDepth 20000 in
theorem s_X6_seeName {l : Launch} {n : Nat} {M : jdM} {b : Nat} {bs : Nat → Int} {p : TS} (hTp : TkP M n b bs p) (hPO : PO p) (hby : ∀ i, -128 ≤ bs i ∧ bs i < 128) {a : Int} (ha : -2147483648 ≤ a ∧ a < 2147483648) : Ct l yX6_seeName cX6_seeName 3 (some .int) rX6_seeName [.ref b, jI a] n M (fun vv n' M' => (vv = some (jI (snP bs a p).1) ∧ n = n') ∧ TkP M' n b bs (snP bs a p).2 ∧ fr (TokS b) M M') := by
  refine Ct_of [some (.ref b), some (jI a), none] (by decide) (Nat.le_of_ble_eq_true rfl) rfl (fun κ hl h hR hRt hmn hn0 => ?_)
  have h : Ok κ RX6 cX6_seeName 3 (some .int) := h
  obtain ⟨g, w, nm, ns, nn⟩ := p
  obtain ⟨hTO, hw, hnm, hns, hnn⟩ := id hPO
  have T1 : Tok M n b g w bs nm ns nn := hTp
  obtain ⟨o1, o2, o3, o4, o7, o12, ow, oh⟩ := id hTO
  obtain ⟨hnb, hOb, hYb, hNb, hSb, hKb⟩ := id T1
  simp only at hw hnm hns hnn o1 o2 o3 o4 o7 o12 ow oh
  refine jr_aload_n (pc := 0) h dX6_seeName_0 rfl ?_
  refine gf_X6_39 (pc := 1) h dX6_seeName_1 (by assumption) (by omega) ?_
  refine jr_if_eq (pc := 4) h 9 dX6_seeName_4 (by decide) (by omega) (fun c_4 => ?_) (fun c_4 => ?_)
  · skip
    refine jr_aload_n (pc := 9) h dX6_seeName_9 rfl ?_
    refine gf_X6_51 (pc := 10) h dX6_seeName_10 (by assumption) (by omega) ?_
    refine jr_iconst (pc := 13) h dX6_seeName_13 ?_
    refine jr_icmp_ne (pc := 14) h 25 dX6_seeName_14 (by decide) (by omega) (by omega) (fun c_14 => ?_) (fun c_14 => ?_)
    · skip
      refine jr_aload_n (pc := 25) h dX6_seeName_25 rfl ?_
      refine jr_iconst (pc := 26) h dX6_seeName_26 ?_
      refine iv_X6_80 (pc := 27) h hl hR dX6_seeName_27 ⟨(Nat.le_of_ble_eq_true rfl), (Nat.le_of_ble_eq_true rfl), (Nat.le_of_ble_eq_true rfl), (Nat.le_of_ble_eq_true rfl)⟩ (Nat.le_of_ble_eq_true rfl) (by assumption) (by omega) (s_X6_fail T1 o7) (fun v_27 n_27 M_27 hn_27 hp => ?_)
      obtain ⟨⟨rfl, rfl⟩, g9, T9, f9, q1, q2, q3, q4, q5, q7, q8, q12⟩ := hp
      have X9 := flP_of T9 q1 q2 q3 q4 q5 q7 q8 q12
      refine jr_iconst (pc := 30) h dX6_seeName_30 ?_
      refine jr_iret (pc := 31) h hRt dX6_seeName_31 rfl (Nat.le_of_ble_eq_true rfl) (Nat.le_of_ble_eq_true rfl) ?_
      have e9 : snP bs a (g, w, nm, ns, nn) = (0, flP 1 (g, w, nm, ns, nn)) := by
        unfold snP
        rw [if_neg (show ¬ (g 7 ≠ 0) by omega), if_pos (show g 4 ≠ 1 ∨ resI bs g ≠ -1 by omega)]
      exact ⟨⟨by rw [e9], rfl⟩, by rw [e9]; exact X9, f9⟩
    · skip
      refine jr_aload_n (pc := 17) h dX6_seeName_17 rfl ?_
      refine iv_X6_88 (pc := 18) h hl hR dX6_seeName_18 ⟨(Nat.le_of_ble_eq_true rfl), (Nat.le_of_ble_eq_true rfl), (Nat.le_of_ble_eq_true rfl), (Nat.le_of_ble_eq_true rfl)⟩ (Nat.le_of_ble_eq_true rfl) (by assumption) (by omega) (s_X6_reserved T1 hby hTO) (fun v_18 n_18 M_18 hn_18 hp => ?_)
      obtain ⟨⟨rfl, rfl, rfl⟩, gr_18⟩ := hp
      refine jr_iconst (pc := 21) h dX6_seeName_21 ?_
      refine jr_icmp_eq (pc := 22) h 32 dX6_seeName_22 (by decide) (by omega) (by omega) (fun c_22 => ?_) (fun c_22 => ?_)
      · skip
        refine jr_aload_n (pc := 32) h dX6_seeName_32 rfl ?_
        refine iv_X6_91 (pc := 33) h hl hR dX6_seeName_33 ⟨(Nat.le_of_ble_eq_true rfl), (Nat.le_of_ble_eq_true rfl), (Nat.le_of_ble_eq_true rfl), (Nat.le_of_ble_eq_true rfl)⟩ (Nat.le_of_ble_eq_true rfl) (by assumption) (by omega) (s_X6_findName T1 hTO (fun i => ⟨by have := hnm i; omega, (hnm i).2⟩) ⟨by have := hw (by omega); omega, (hw (by omega)).2⟩) (fun v_33 n_33 M_33 hn_33 hp => ?_)
        obtain ⟨⟨rfl, rfl, rfl⟩, gr_33⟩ := hp
        refine jr_istore_n (pc := 36) h [_, _, _] dX6_seeName_36 (by decide) rfl ?_
        refine jr_iload_n (pc := 37) h dX6_seeName_37 rfl ?_
        refine jr_iconst (pc := 38) h dX6_seeName_38 ?_
        refine jr_icmp_eq (pc := 39) h 52 dX6_seeName_39 (by decide) (by omega) (by omega) (fun c_39 => ?_) (fun c_39 => ?_)
        · skip
          refine jr_aload_n (pc := 52) h dX6_seeName_52 rfl ?_
          refine jr_iconst (pc := 53) h dX6_seeName_53 ?_
          refine iv_X6_80 (pc := 54) h hl hR dX6_seeName_54 ⟨(Nat.le_of_ble_eq_true rfl), (Nat.le_of_ble_eq_true rfl), (Nat.le_of_ble_eq_true rfl), (Nat.le_of_ble_eq_true rfl)⟩ (Nat.le_of_ble_eq_true rfl) (by assumption) (by omega) (s_X6_fail T1 o7) (fun v_54 n_54 M_54 hn_54 hp => ?_)
          obtain ⟨⟨rfl, rfl⟩, g9, T9, f9, q1, q2, q3, q4, q5, q7, q8, q12⟩ := hp
          have X9 := flP_of T9 q1 q2 q3 q4 q5 q7 q8 q12
          refine jr_iconst (pc := 57) h dX6_seeName_57 ?_
          refine jr_iret (pc := 58) h hRt dX6_seeName_58 rfl (Nat.le_of_ble_eq_true rfl) (Nat.le_of_ble_eq_true rfl) ?_
          have e9 : snP bs a (g, w, nm, ns, nn) = (0, flP 2 (g, w, nm, ns, nn)) := by
            unfold snP
            rw [if_neg (show ¬ (g 7 ≠ 0) by omega), if_neg (show ¬ (g 4 ≠ 1 ∨ resI bs g ≠ -1) by omega), if_pos (show (fnI nm w (g 12)) = -1 ∨ ns (fnI nm w (g 12)).toNat ≠ a by omega)]
          exact ⟨⟨by rw [e9], rfl⟩, by rw [e9]; exact X9, f9⟩
        · skip
          refine jr_aload_n (pc := 42) h dX6_seeName_42 rfl ?_
          refine gf_X6_19 (pc := 43) h dX6_seeName_43 (by assumption) (by omega) ?_
          have hnsb := hns (fnI nm w (g 12)).toNat
          refine jr_iload_n (pc := 46) h dX6_seeName_46 rfl ?_
          refine jr_iald (pc := 47) h dX6_seeName_47 (by assumption) (by omega) (by omega) ?_
          refine jr_iload_n (pc := 48) h dX6_seeName_48 rfl ?_
          refine jr_icmp_eq (pc := 49) h 59 dX6_seeName_49 (by decide) (by omega) (by omega) (fun c_49 => ?_) (fun c_49 => ?_)
          · skip
            refine jr_aload_n (pc := 59) h dX6_seeName_59 rfl ?_
            refine gf_X6_23 (pc := 60) h dX6_seeName_60 (by assumption) (by omega) ?_
            refine jr_iload_n (pc := 63) h dX6_seeName_63 rfl ?_
            refine jr_iald (pc := 64) h dX6_seeName_64 (by assumption) (by omega) (by omega) ?_
            refine jr_iret (pc := 65) h hRt dX6_seeName_65 rfl (Nat.le_of_ble_eq_true rfl) (Nat.le_of_ble_eq_true rfl) ?_
            have e9 : snP bs a (g, w, nm, ns, nn) = (nn (fnI nm w (g 12)).toNat, (g, w, nm, ns, nn)) := by
              unfold snP
              rw [if_neg (show ¬ (g 7 ≠ 0) by omega), if_neg (show ¬ (g 4 ≠ 1 ∨ resI bs g ≠ -1) by omega), if_neg (show ¬ ((fnI nm w (g 12)) = -1 ∨ ns (fnI nm w (g 12)).toNat ≠ a) by omega)]
            exact ⟨⟨by rw [e9], rfl⟩, by rw [e9]; exact hTp, fr_rf⟩
          · skip
            refine jr_aload_n (pc := 52) h dX6_seeName_52 rfl ?_
            refine jr_iconst (pc := 53) h dX6_seeName_53 ?_
            refine iv_X6_80 (pc := 54) h hl hR dX6_seeName_54 ⟨(Nat.le_of_ble_eq_true rfl), (Nat.le_of_ble_eq_true rfl), (Nat.le_of_ble_eq_true rfl), (Nat.le_of_ble_eq_true rfl)⟩ (Nat.le_of_ble_eq_true rfl) (by assumption) (by omega) (s_X6_fail T1 o7) (fun v_54 n_54 M_54 hn_54 hp => ?_)
            obtain ⟨⟨rfl, rfl⟩, g9, T9, f9, q1, q2, q3, q4, q5, q7, q8, q12⟩ := hp
            have X9 := flP_of T9 q1 q2 q3 q4 q5 q7 q8 q12
            refine jr_iconst (pc := 57) h dX6_seeName_57 ?_
            refine jr_iret (pc := 58) h hRt dX6_seeName_58 rfl (Nat.le_of_ble_eq_true rfl) (Nat.le_of_ble_eq_true rfl) ?_
            have e9 : snP bs a (g, w, nm, ns, nn) = (0, flP 2 (g, w, nm, ns, nn)) := by
              unfold snP
              rw [if_neg (show ¬ (g 7 ≠ 0) by omega), if_neg (show ¬ (g 4 ≠ 1 ∨ resI bs g ≠ -1) by omega), if_pos (show (fnI nm w (g 12)) = -1 ∨ ns (fnI nm w (g 12)).toNat ≠ a by omega)]
            exact ⟨⟨by rw [e9], rfl⟩, by rw [e9]; exact X9, f9⟩
      · skip
        refine jr_aload_n (pc := 25) h dX6_seeName_25 rfl ?_
        refine jr_iconst (pc := 26) h dX6_seeName_26 ?_
        refine iv_X6_80 (pc := 27) h hl hR dX6_seeName_27 ⟨(Nat.le_of_ble_eq_true rfl), (Nat.le_of_ble_eq_true rfl), (Nat.le_of_ble_eq_true rfl), (Nat.le_of_ble_eq_true rfl)⟩ (Nat.le_of_ble_eq_true rfl) (by assumption) (by omega) (s_X6_fail T1 o7) (fun v_27 n_27 M_27 hn_27 hp => ?_)
        obtain ⟨⟨rfl, rfl⟩, g9, T9, f9, q1, q2, q3, q4, q5, q7, q8, q12⟩ := hp
        have X9 := flP_of T9 q1 q2 q3 q4 q5 q7 q8 q12
        refine jr_iconst (pc := 30) h dX6_seeName_30 ?_
        refine jr_iret (pc := 31) h hRt dX6_seeName_31 rfl (Nat.le_of_ble_eq_true rfl) (Nat.le_of_ble_eq_true rfl) ?_
        have e9 : snP bs a (g, w, nm, ns, nn) = (0, flP 1 (g, w, nm, ns, nn)) := by
          unfold snP
          rw [if_neg (show ¬ (g 7 ≠ 0) by omega), if_pos (show g 4 ≠ 1 ∨ resI bs g ≠ -1 by omega)]
        exact ⟨⟨by rw [e9], rfl⟩, by rw [e9]; exact X9, f9⟩
  · skip
    refine jr_iconst (pc := 7) h dX6_seeName_7 ?_
    refine jr_iret (pc := 8) h hRt dX6_seeName_8 rfl (Nat.le_of_ble_eq_true rfl) (Nat.le_of_ble_eq_true rfl) ?_
    have e9 : snP bs a (g, w, nm, ns, nn) = (0, (g, w, nm, ns, nn)) := by
      unfold snP
      rw [if_pos (show g 7 ≠ 0 from c_4)]
    exact ⟨⟨by rw [e9], rfl⟩, by rw [e9]; exact hTp, fr_rf⟩
theorem snP_O {bs : Nat → Int} {a : Int} {p : TS} (h : PO p) : PO (snP bs a p).2 := by
  unfold snP
  split
  · exact h
  · split
    · exact flP_O h (by omega)
    · split
      · exact flP_O h (by omega)
      · exact h
theorem enP_O {bs : Nat → Int} {a : Int} {p : TS} (h : PO p) : PO (enP bs a p).2 := by
  unfold enP
  split
  · exact nxP_O (snP_O h)
  · exact snP_O h
theorem esP_O {bs : Nat → Int} {a : Int} {p : TS} (h : PO p) : PO (esP bs a p) := by
  unfold esP
  split
  · exact h
  · split
    · exact nxP_O h
    · exact flP_O h (by omega)
theorem ewP_O {bs : Nat → Int} {k : Nat} {p : TS} (h : PO p) : PO (ewP bs k p) := by
  unfold ewP
  split
  · exact h
  · split
    · exact nxP_O h
    · exact flP_O h (by omega)
theorem ehP_O {bs : Nat → Int} {a c : Int} {p : TS} (h : PO p) : PO (ehP bs a c p).2 := by
  unfold ehP
  split
  · exact h
  · split
    · exact flP_O h (by omega)
    · split
      · exact flP_O h (by omega)
      · exact nxP_O h
theorem ehP_b {bs : Nat → Int} {a c : Int} {p : TS} (h : a ≤ c) : a ≤ (ehP bs a c p).1 ∧ (ehP bs a c p).1 ≤ c := by
  unfold ehP
  split
  · exact ⟨Int.le_refl _, h⟩
  · split
    · exact ⟨Int.le_refl _, h⟩
    · split
      · exact ⟨Int.le_refl _, h⟩
      · rename_i q; exact ⟨by show a ≤ p.1 5; omega, by show p.1 5 ≤ c; omega⟩
theorem nnP_O {bs : Nat → Int} {a c : Int} {p : TS} (h : PO p) (ha : 0 ≤ a ∧ a ≤ 100) (hc : 0 ≤ c ∧ c ≤ 100) : PO (nnP bs a c p) := by
  unfold nnP
  split
  · exact h
  · split
    · exact flP_O h (by omega)
    · split
      · exact flP_O h (by omega)
      · rename_i q1 q2 q3
        obtain ⟨⟨o1, o2, o3, o4, o7, o12, o⟩, hw, h1, h2, h3⟩ := h
        refine nxP_O0 o1 o3 o7 (by show 0 ≤ p.1 12 + 1 ∧ p.1 12 + 1 ≤ 16; omega) ⟨fun i => ?_, fun i => ?_, fun i => ?_⟩
        · show 0 ≤ up _ _ _ i ∧ up _ _ _ i < _
          unfold up; split
          · exact hw (by omega)
          · exact h1 i
        · show 0 ≤ up _ _ _ i ∧ up _ _ _ i ≤ _
          unfold up; split
          · exact ha
          · exact h2 i
        · show 0 ≤ up _ _ _ i ∧ up _ _ _ i ≤ _
          unfold up; split
          · exact hc
          · exact h3 i
set_option maxHeartbeats 1000000 in
set_option maxRecDepth 20000 in
theorem s_X6_expectName {l : Launch} {n : Nat} {M : jdM} {b : Nat} {bs : Nat → Int} {p : TS} (hTp : TkP M n b bs p) (hPO : PO p) (hby : ∀ i, -128 ≤ bs i ∧ bs i < 128) {a : Int} (ha : -2147483648 ≤ a ∧ a < 2147483648) : Ct l yX6_expectName cX6_expectName 3 (some .int) rX6_expectName [.ref b, jI a] n M (fun vv n' M' => (vv = some (jI (enP bs a p).1) ∧ n = n') ∧ TkP M' n b bs (enP bs a p).2 ∧ fr (TokS b) M M') := by
  refine Ct_of [some (.ref b), some (jI a), none] (by decide) (Nat.le_of_ble_eq_true rfl) rfl (fun κ hl h hR hRt hmn hn0 => ?_)
  have h : Ok κ RX6 cX6_expectName 3 (some .int) := h
  have hs0 : ∃ v g w nm ns nn, snP bs a p = (v, (g, w, nm, ns, nn)) := ⟨_, _, _, _, _, _, rfl⟩
  obtain ⟨v0, g, w, nm, ns, nn, hs⟩ := hs0
  have hPO2 := snP_O (bs := bs) (a := a) hPO
  rw [hs] at hPO2
  have hPO3 : PO (g, w, nm, ns, nn) := hPO2
  obtain ⟨hTO, hw, hnm, hns, hnn⟩ := id hPO3
  obtain ⟨o1, o2, o3, o4, o7, o12, ow, oh⟩ := id hTO
  have hnb0 := hTp.1
  obtain ⟨hnb9, hO9, -⟩ := id hTp
  simp only at hw hnm hns hnn o1 o2 o3 o4 o7 o12 ow oh
  refine jr_aload_n (pc := 0) h dX6_expectName_0 rfl ?_
  refine jr_iload_n (pc := 1) h dX6_expectName_1 rfl ?_
  refine iv_X6_94 (pc := 2) h hl hR dX6_expectName_2 ⟨(Nat.le_of_ble_eq_true rfl), (Nat.le_of_ble_eq_true rfl), (Nat.le_of_ble_eq_true rfl), (Nat.le_of_ble_eq_true rfl)⟩ (Nat.le_of_ble_eq_true rfl) (by assumption) (by omega) (s_X6_seeName hTp hPO hby ha) (fun v_2 n_2 M_2 hn_2 hp => ?_)
  obtain ⟨⟨hv, rfl⟩, X1, f1⟩ := hp
  rw [hs] at hv X1
  have T1 : Tok M_2 n b g w bs nm ns nn := X1
  obtain ⟨hnb, hOb, hYb, hNb, hSb, hKb⟩ := id T1
  subst hv
  change J κ _ _ _ _ _ _ (jI v0 :: _) _
  refine jr_istore_n (pc := 5) h [_, _, _] dX6_expectName_5 (by decide) rfl ?_
  refine jr_aload_n (pc := 6) h dX6_expectName_6 rfl ?_
  refine gf_X6_39 (pc := 7) h dX6_expectName_7 (by assumption) (by omega) ?_
  refine jr_if_ne (pc := 10) h 17 dX6_expectName_10 (by decide) (by omega) (fun c_10 => ?_) (fun c_10 => ?_)
  · skip
    refine jr_iload_n (pc := 17) h dX6_expectName_17 rfl ?_
    refine jr_iret (pc := 18) h hRt dX6_expectName_18 rfl (Nat.le_of_ble_eq_true rfl) (Nat.le_of_ble_eq_true rfl) ?_
    first
    | (have e9 : enP bs a p = (v0, nxP bs (g, w, nm, ns, nn)) := by
         unfold enP
         rw [hs, if_pos (show g 7 = 0 by omega)]
       exact ⟨⟨by rw [e9], rfl⟩, by rw [e9]; exact X9, fr_tr f1 f9⟩)
    | (have e9 : enP bs a p = (v0, (g, w, nm, ns, nn)) := by
         unfold enP
         rw [hs, if_neg (show ¬ g 7 = 0 by omega)]
       exact ⟨⟨by rw [e9], rfl⟩, by rw [e9]; exact X1, f1⟩)
  · skip
    refine jr_aload_n (pc := 13) h dX6_expectName_13 rfl ?_
    refine iv_X6_48 (pc := 14) h hl hR dX6_expectName_14 ⟨(Nat.le_of_ble_eq_true rfl), (Nat.le_of_ble_eq_true rfl), (Nat.le_of_ble_eq_true rfl), (Nat.le_of_ble_eq_true rfl)⟩ (Nat.le_of_ble_eq_true rfl) (by assumption) (by omega) (s_X6_next T1 hby ⟨o1, o3⟩ rfl rfl rfl) (fun v_14 n_14 M_14 hn_14 hp => ?_)
    obtain ⟨⟨rfl, rfl⟩, g9, T9, f9, q1, q2, q3, q4, q5, q7, q8, q12⟩ := hp
    have X9 : TkP M_14 n b bs (nxP bs (g, w, nm, ns, nn)) := nxP_of T9 q1 q2 q3 q4 q5 q7 q8 q12
    refine jr_iload_n (pc := 17) h dX6_expectName_17 rfl ?_
    refine jr_iret (pc := 18) h hRt dX6_expectName_18 rfl (Nat.le_of_ble_eq_true rfl) (Nat.le_of_ble_eq_true rfl) ?_
    first
    | (have e9 : enP bs a p = (v0, nxP bs (g, w, nm, ns, nn)) := by
         unfold enP
         rw [hs, if_pos (show g 7 = 0 by omega)]
       exact ⟨⟨by rw [e9], rfl⟩, by rw [e9]; exact X9, fr_tr f1 f9⟩)
    | (have e9 : enP bs a p = (v0, (g, w, nm, ns, nn)) := by
         unfold enP
         rw [hs, if_neg (show ¬ g 7 = 0 by omega)]
       exact ⟨⟨by rw [e9], rfl⟩, by rw [e9]; exact X1, f1⟩)
set_option maxHeartbeats 1000000 in
set_option maxRecDepth 20000 in
theorem s_X6_expectNewName {l : Launch} {n : Nat} {M : jdM} {b : Nat} {bs : Nat → Int} {p : TS} (hTp : TkP M n b bs p) (hPO : PO p) (hby : ∀ i, -128 ≤ bs i ∧ bs i < 128) {a c : Int} : Ct l yX6_expectNewName cX6_expectNewName 3 none rX6_expectNewName [.ref b, jI a, jI c] n M (fun vv n' M' => (vv = none ∧ n = n') ∧ TkP M' n b bs (nnP bs a c p) ∧ fr (TokS b) M M') := by
  refine Ct_of [some (.ref b), some (jI a), some (jI c)] (by decide) (Nat.le_of_ble_eq_true rfl) rfl (fun κ hl h hR hRt hmn hn0 => ?_)
  have h : Ok κ RX6 cX6_expectNewName 3 none := h
  obtain ⟨g, w, nm, ns, nn⟩ := p
  obtain ⟨hTO, hw, hnm, hns, hnn⟩ := id hPO
  have T1 : Tok M n b g w bs nm ns nn := hTp
  obtain ⟨o1, o2, o3, o4, o7, o12, ow, oh⟩ := id hTO
  obtain ⟨hnb, hOb, hYb, hNb, hSb, hKb⟩ := id T1
  simp only at hw hnm hns hnn o1 o2 o3 o4 o7 o12 ow oh
  have f1 : fr (TokS b) M M := fr_rf
  refine jr_aload_n (pc := 0) h dX6_expectNewName_0 rfl ?_
  refine gf_X6_39 (pc := 1) h dX6_expectNewName_1 (by assumption) (by omega) ?_
  refine jr_if_eq (pc := 4) h 8 dX6_expectNewName_4 (by decide) (by omega) (fun c_4 => ?_) (fun c_4 => ?_)
  · skip
    refine jr_aload_n (pc := 8) h dX6_expectNewName_8 rfl ?_
    refine gf_X6_51 (pc := 9) h dX6_expectNewName_9 (by assumption) (by omega) ?_
    refine jr_iconst (pc := 12) h dX6_expectNewName_12 ?_
    refine jr_icmp_ne (pc := 13) h 24 dX6_expectNewName_13 (by decide) (by omega) (by omega) (fun c_13 => ?_) (fun c_13 => ?_)
    · skip
      refine jr_aload_n (pc := 24) h dX6_expectNewName_24 rfl ?_
      refine jr_iconst (pc := 25) h dX6_expectNewName_25 ?_
      refine iv_X6_80 (pc := 26) h hl hR dX6_expectNewName_26 ⟨(Nat.le_of_ble_eq_true rfl), (Nat.le_of_ble_eq_true rfl), (Nat.le_of_ble_eq_true rfl), (Nat.le_of_ble_eq_true rfl)⟩ (Nat.le_of_ble_eq_true rfl) (by assumption) (by omega) (s_X6_fail T1 o7) (fun v_26 n_26 M_26 hn_26 hp => ?_)
      obtain ⟨⟨rfl, rfl⟩, g9, T9, f9, q1, q2, q3, q4, q5, q7, q8, q12⟩ := hp
      have X9 := flP_of T9 q1 q2 q3 q4 q5 q7 q8 q12
      refine jr_goto (pc := 29) h 104 dX6_expectNewName_29 (by decide) ?_
      refine jr_vret (pc := 104) h hRt dX6_expectNewName_104 (Nat.le_of_ble_eq_true rfl) (Nat.le_of_ble_eq_true rfl) ?_
      first
      | (have e9 : nnP bs a c (g, w, nm, ns, nn) = flP 1 (g, w, nm, ns, nn) := by
           unfold nnP
           rw [if_neg (show ¬ (g 7 ≠ 0) by omega), if_pos (show g 4 ≠ 1 ∨ resI bs g ≠ -1 by omega)]
         exact ⟨⟨rfl, rfl⟩, by rw [e9]; exact X9, f9⟩)
      | (have e9 : nnP bs a c (g, w, nm, ns, nn) = flP 3 (g, w, nm, ns, nn) := by
           unfold nnP
           rw [if_neg (show ¬ (g 7 ≠ 0) by omega), if_neg (show ¬ (g 4 ≠ 1 ∨ resI bs g ≠ -1) by omega), if_pos (show (fnI nm w (g 12)) ≠ -1 ∨ 16 ≤ g 12 by omega)]
         exact ⟨⟨rfl, rfl⟩, by rw [e9]; exact X9, f9⟩)
      | (have e9 : nnP bs a c (g, w, nm, ns, nn) = nxP bs (up g 12 (g 12 + 1), w, up nm (g 12).toNat w, up ns (g 12).toNat a, up nn (g 12).toNat c) := by
           unfold nnP
           rw [if_neg (show ¬ (g 7 ≠ 0) by omega), if_neg (show ¬ (g 4 ≠ 1 ∨ resI bs g ≠ -1) by omega), if_neg (show ¬ ((fnI nm w (g 12)) ≠ -1 ∨ 16 ≤ g 12) by omega)]
         exact ⟨⟨rfl, rfl⟩, by rw [e9]; exact X9, f9⟩)
    · skip
      refine jr_aload_n (pc := 16) h dX6_expectNewName_16 rfl ?_
      refine iv_X6_88 (pc := 17) h hl hR dX6_expectNewName_17 ⟨(Nat.le_of_ble_eq_true rfl), (Nat.le_of_ble_eq_true rfl), (Nat.le_of_ble_eq_true rfl), (Nat.le_of_ble_eq_true rfl)⟩ (Nat.le_of_ble_eq_true rfl) (by assumption) (by omega) (s_X6_reserved T1 hby hTO) (fun v_17 n_17 M_17 hn_17 hp => ?_)
      obtain ⟨⟨rfl, rfl, rfl⟩, gr_17⟩ := hp
      refine jr_iconst (pc := 20) h dX6_expectNewName_20 ?_
      refine jr_icmp_eq (pc := 21) h 32 dX6_expectNewName_21 (by decide) (by omega) (by omega) (fun c_21 => ?_) (fun c_21 => ?_)
      · skip
        refine jr_aload_n (pc := 32) h dX6_expectNewName_32 rfl ?_
        refine iv_X6_91 (pc := 33) h hl hR dX6_expectNewName_33 ⟨(Nat.le_of_ble_eq_true rfl), (Nat.le_of_ble_eq_true rfl), (Nat.le_of_ble_eq_true rfl), (Nat.le_of_ble_eq_true rfl)⟩ (Nat.le_of_ble_eq_true rfl) (by assumption) (by omega) (s_X6_findName T1 hTO (fun i => ⟨by have := hnm i; omega, (hnm i).2⟩) ⟨by have := hw (by omega); omega, (hw (by omega)).2⟩) (fun v_33 n_33 M_33 hn_33 hp => ?_)
        obtain ⟨⟨rfl, rfl, rfl⟩, gr_33⟩ := hp
        refine jr_iconst (pc := 36) h dX6_expectNewName_36 ?_
        refine jr_icmp_ne (pc := 37) h 49 dX6_expectNewName_37 (by decide) (by omega) (by omega) (fun c_37 => ?_) (fun c_37 => ?_)
        · skip
          refine jr_aload_n (pc := 49) h dX6_expectNewName_49 rfl ?_
          refine jr_iconst (pc := 50) h dX6_expectNewName_50 ?_
          refine iv_X6_80 (pc := 51) h hl hR dX6_expectNewName_51 ⟨(Nat.le_of_ble_eq_true rfl), (Nat.le_of_ble_eq_true rfl), (Nat.le_of_ble_eq_true rfl), (Nat.le_of_ble_eq_true rfl)⟩ (Nat.le_of_ble_eq_true rfl) (by assumption) (by omega) (s_X6_fail T1 o7) (fun v_51 n_51 M_51 hn_51 hp => ?_)
          obtain ⟨⟨rfl, rfl⟩, g9, T9, f9, q1, q2, q3, q4, q5, q7, q8, q12⟩ := hp
          have X9 := flP_of T9 q1 q2 q3 q4 q5 q7 q8 q12
          refine jr_goto (pc := 54) h 104 dX6_expectNewName_54 (by decide) ?_
          refine jr_vret (pc := 104) h hRt dX6_expectNewName_104 (Nat.le_of_ble_eq_true rfl) (Nat.le_of_ble_eq_true rfl) ?_
          first
          | (have e9 : nnP bs a c (g, w, nm, ns, nn) = flP 1 (g, w, nm, ns, nn) := by
               unfold nnP
               rw [if_neg (show ¬ (g 7 ≠ 0) by omega), if_pos (show g 4 ≠ 1 ∨ resI bs g ≠ -1 by omega)]
             exact ⟨⟨rfl, rfl⟩, by rw [e9]; exact X9, f9⟩)
          | (have e9 : nnP bs a c (g, w, nm, ns, nn) = flP 3 (g, w, nm, ns, nn) := by
               unfold nnP
               rw [if_neg (show ¬ (g 7 ≠ 0) by omega), if_neg (show ¬ (g 4 ≠ 1 ∨ resI bs g ≠ -1) by omega), if_pos (show (fnI nm w (g 12)) ≠ -1 ∨ 16 ≤ g 12 by omega)]
             exact ⟨⟨rfl, rfl⟩, by rw [e9]; exact X9, f9⟩)
          | (have e9 : nnP bs a c (g, w, nm, ns, nn) = nxP bs (up g 12 (g 12 + 1), w, up nm (g 12).toNat w, up ns (g 12).toNat a, up nn (g 12).toNat c) := by
               unfold nnP
               rw [if_neg (show ¬ (g 7 ≠ 0) by omega), if_neg (show ¬ (g 4 ≠ 1 ∨ resI bs g ≠ -1) by omega), if_neg (show ¬ ((fnI nm w (g 12)) ≠ -1 ∨ 16 ≤ g 12) by omega)]
             exact ⟨⟨rfl, rfl⟩, by rw [e9]; exact X9, f9⟩)
        · skip
          refine jr_aload_n (pc := 40) h dX6_expectNewName_40 rfl ?_
          refine gf_X6_45 (pc := 41) h dX6_expectNewName_41 (by assumption) (by omega) ?_
          refine jr_bipush (pc := 44) h dX6_expectNewName_44 bp_16 ?_
          refine jr_icmp_lt (pc := 46) h 57 dX6_expectNewName_46 (by decide) (by omega) (by omega) (fun c_46 => ?_) (fun c_46 => ?_)
          · skip
            refine jr_aload_n (pc := 57) h dX6_expectNewName_57 rfl ?_
            refine gf_X6_15 (pc := 58) h dX6_expectNewName_58 (by assumption) (by omega) ?_
            refine jr_aload_n (pc := 61) h dX6_expectNewName_61 rfl ?_
            refine gf_X6_45 (pc := 62) h dX6_expectNewName_62 (by assumption) (by omega) ?_
            refine jr_aload_n (pc := 65) h dX6_expectNewName_65 rfl ?_
            refine gf_X6_57 (pc := 66) h dX6_expectNewName_66 (by assumption) (by omega) ?_
            refine jr_last (pc := 69) h dX6_expectNewName_69 (by assumption) (by omega) (by omega) ?_
            refine jm_gen (fun M1 hM1 => ?_)
            have T1 := Tok_nm T1 hM1
            have f1 := fr_tr f1 (fr_up hM1 ⟨by omega, by omega⟩)
            obtain ⟨hnb, hOb, hYb, hNb, hSb, hKb⟩ := id T1
            refine jr_aload_n (pc := 70) h dX6_expectNewName_70 rfl ?_
            refine gf_X6_19 (pc := 71) h dX6_expectNewName_71 (by assumption) (by omega) ?_
            refine jr_aload_n (pc := 74) h dX6_expectNewName_74 rfl ?_
            refine gf_X6_45 (pc := 75) h dX6_expectNewName_75 (by assumption) (by omega) ?_
            refine jr_iload_n (pc := 78) h dX6_expectNewName_78 rfl ?_
            refine jr_iast (pc := 79) h dX6_expectNewName_79 (by assumption) (by omega) (by omega) ?_
            refine jm_gen (fun M1 hM1 => ?_)
            have T1 := Tok_ns T1 hM1
            have f1 := fr_tr f1 (fr_up hM1 ⟨by omega, by omega⟩)
            obtain ⟨hnb, hOb, hYb, hNb, hSb, hKb⟩ := id T1
            refine jr_aload_n (pc := 80) h dX6_expectNewName_80 rfl ?_
            refine gf_X6_23 (pc := 81) h dX6_expectNewName_81 (by assumption) (by omega) ?_
            refine jr_aload_n (pc := 84) h dX6_expectNewName_84 rfl ?_
            refine gf_X6_45 (pc := 85) h dX6_expectNewName_85 (by assumption) (by omega) ?_
            refine jr_iload_n (pc := 88) h dX6_expectNewName_88 rfl ?_
            refine jr_iast (pc := 89) h dX6_expectNewName_89 (by assumption) (by omega) (by omega) ?_
            refine jm_gen (fun M1 hM1 => ?_)
            have T1 := Tok_nn T1 hM1
            have f1 := fr_tr f1 (fr_up hM1 ⟨by omega, by omega⟩)
            obtain ⟨hnb, hOb, hYb, hNb, hSb, hKb⟩ := id T1
            refine jr_aload_n (pc := 90) h dX6_expectNewName_90 rfl ?_
            refine jr_dup (pc := 91) h dX6_expectNewName_91 rfl ?_
            refine gf_X6_45 (pc := 92) h dX6_expectNewName_92 (by assumption) (by omega) ?_
            refine jr_iconst (pc := 95) h dX6_expectNewName_95 ?_
            refine jr_iadd (pc := 96) h dX6_expectNewName_96 ?_
            refine pf_X6_45 (pc := 97) h dX6_expectNewName_97 (by assumption) (by omega) ?_
            refine jm_gen (fun M1 hM1 => ?_)
            have T1 := Tok_f12 T1 hM1
            have f1 := fr_tr f1 (fr_up hM1 ⟨by omega, by omega⟩)
            obtain ⟨hnb, hOb, hYb, hNb, hSb, hKb⟩ := id T1
            refine jr_aload_n (pc := 100) h dX6_expectNewName_100 rfl ?_
            refine iv_X6_48 (pc := 101) h hl hR dX6_expectNewName_101 ⟨(Nat.le_of_ble_eq_true rfl), (Nat.le_of_ble_eq_true rfl), (Nat.le_of_ble_eq_true rfl), (Nat.le_of_ble_eq_true rfl)⟩ (Nat.le_of_ble_eq_true rfl) (by assumption) (by omega) (s_X6_next T1 hby ⟨o1, o3⟩ rfl rfl rfl) (fun v_101 n_101 M_101 hn_101 hp => ?_)
            obtain ⟨⟨rfl, rfl⟩, g9, T9, f9, q1, q2, q3, q4, q5, q7, q8, q12⟩ := hp
            have X9 : TkP M_101 n b bs (nxP bs (up g 12 (g 12 + 1), w, up nm (g 12).toNat w, up ns (g 12).toNat a, up nn (g 12).toNat c)) := nxP_of T9 q1 q2 q3 q4 q5 q7 q8 q12
            have f9 := fr_tr f1 f9
            refine jr_vret (pc := 104) h hRt dX6_expectNewName_104 (Nat.le_of_ble_eq_true rfl) (Nat.le_of_ble_eq_true rfl) ?_
            first
            | (have e9 : nnP bs a c (g, w, nm, ns, nn) = flP 1 (g, w, nm, ns, nn) := by
                 unfold nnP
                 rw [if_neg (show ¬ (g 7 ≠ 0) by omega), if_pos (show g 4 ≠ 1 ∨ resI bs g ≠ -1 by omega)]
               exact ⟨⟨rfl, rfl⟩, by rw [e9]; exact X9, f9⟩)
            | (have e9 : nnP bs a c (g, w, nm, ns, nn) = flP 3 (g, w, nm, ns, nn) := by
                 unfold nnP
                 rw [if_neg (show ¬ (g 7 ≠ 0) by omega), if_neg (show ¬ (g 4 ≠ 1 ∨ resI bs g ≠ -1) by omega), if_pos (show (fnI nm w (g 12)) ≠ -1 ∨ 16 ≤ g 12 by omega)]
               exact ⟨⟨rfl, rfl⟩, by rw [e9]; exact X9, f9⟩)
            | (have e9 : nnP bs a c (g, w, nm, ns, nn) = nxP bs (up g 12 (g 12 + 1), w, up nm (g 12).toNat w, up ns (g 12).toNat a, up nn (g 12).toNat c) := by
                 unfold nnP
                 rw [if_neg (show ¬ (g 7 ≠ 0) by omega), if_neg (show ¬ (g 4 ≠ 1 ∨ resI bs g ≠ -1) by omega), if_neg (show ¬ ((fnI nm w (g 12)) ≠ -1 ∨ 16 ≤ g 12) by omega)]
               exact ⟨⟨rfl, rfl⟩, by rw [e9]; exact X9, f9⟩)
          · skip
            refine jr_aload_n (pc := 49) h dX6_expectNewName_49 rfl ?_
            refine jr_iconst (pc := 50) h dX6_expectNewName_50 ?_
            refine iv_X6_80 (pc := 51) h hl hR dX6_expectNewName_51 ⟨(Nat.le_of_ble_eq_true rfl), (Nat.le_of_ble_eq_true rfl), (Nat.le_of_ble_eq_true rfl), (Nat.le_of_ble_eq_true rfl)⟩ (Nat.le_of_ble_eq_true rfl) (by assumption) (by omega) (s_X6_fail T1 o7) (fun v_51 n_51 M_51 hn_51 hp => ?_)
            obtain ⟨⟨rfl, rfl⟩, g9, T9, f9, q1, q2, q3, q4, q5, q7, q8, q12⟩ := hp
            have X9 := flP_of T9 q1 q2 q3 q4 q5 q7 q8 q12
            refine jr_goto (pc := 54) h 104 dX6_expectNewName_54 (by decide) ?_
            refine jr_vret (pc := 104) h hRt dX6_expectNewName_104 (Nat.le_of_ble_eq_true rfl) (Nat.le_of_ble_eq_true rfl) ?_
            first
            | (have e9 : nnP bs a c (g, w, nm, ns, nn) = flP 1 (g, w, nm, ns, nn) := by
                 unfold nnP
                 rw [if_neg (show ¬ (g 7 ≠ 0) by omega), if_pos (show g 4 ≠ 1 ∨ resI bs g ≠ -1 by omega)]
               exact ⟨⟨rfl, rfl⟩, by rw [e9]; exact X9, f9⟩)
            | (have e9 : nnP bs a c (g, w, nm, ns, nn) = flP 3 (g, w, nm, ns, nn) := by
                 unfold nnP
                 rw [if_neg (show ¬ (g 7 ≠ 0) by omega), if_neg (show ¬ (g 4 ≠ 1 ∨ resI bs g ≠ -1) by omega), if_pos (show (fnI nm w (g 12)) ≠ -1 ∨ 16 ≤ g 12 by omega)]
               exact ⟨⟨rfl, rfl⟩, by rw [e9]; exact X9, f9⟩)
            | (have e9 : nnP bs a c (g, w, nm, ns, nn) = nxP bs (up g 12 (g 12 + 1), w, up nm (g 12).toNat w, up ns (g 12).toNat a, up nn (g 12).toNat c) := by
                 unfold nnP
                 rw [if_neg (show ¬ (g 7 ≠ 0) by omega), if_neg (show ¬ (g 4 ≠ 1 ∨ resI bs g ≠ -1) by omega), if_neg (show ¬ ((fnI nm w (g 12)) ≠ -1 ∨ 16 ≤ g 12) by omega)]
               exact ⟨⟨rfl, rfl⟩, by rw [e9]; exact X9, f9⟩)
      · skip
        refine jr_aload_n (pc := 24) h dX6_expectNewName_24 rfl ?_
        refine jr_iconst (pc := 25) h dX6_expectNewName_25 ?_
        refine iv_X6_80 (pc := 26) h hl hR dX6_expectNewName_26 ⟨(Nat.le_of_ble_eq_true rfl), (Nat.le_of_ble_eq_true rfl), (Nat.le_of_ble_eq_true rfl), (Nat.le_of_ble_eq_true rfl)⟩ (Nat.le_of_ble_eq_true rfl) (by assumption) (by omega) (s_X6_fail T1 o7) (fun v_26 n_26 M_26 hn_26 hp => ?_)
        obtain ⟨⟨rfl, rfl⟩, g9, T9, f9, q1, q2, q3, q4, q5, q7, q8, q12⟩ := hp
        have X9 := flP_of T9 q1 q2 q3 q4 q5 q7 q8 q12
        refine jr_goto (pc := 29) h 104 dX6_expectNewName_29 (by decide) ?_
        refine jr_vret (pc := 104) h hRt dX6_expectNewName_104 (Nat.le_of_ble_eq_true rfl) (Nat.le_of_ble_eq_true rfl) ?_
        first
        | (have e9 : nnP bs a c (g, w, nm, ns, nn) = flP 1 (g, w, nm, ns, nn) := by
             unfold nnP
             rw [if_neg (show ¬ (g 7 ≠ 0) by omega), if_pos (show g 4 ≠ 1 ∨ resI bs g ≠ -1 by omega)]
           exact ⟨⟨rfl, rfl⟩, by rw [e9]; exact X9, f9⟩)
        | (have e9 : nnP bs a c (g, w, nm, ns, nn) = flP 3 (g, w, nm, ns, nn) := by
             unfold nnP
             rw [if_neg (show ¬ (g 7 ≠ 0) by omega), if_neg (show ¬ (g 4 ≠ 1 ∨ resI bs g ≠ -1) by omega), if_pos (show (fnI nm w (g 12)) ≠ -1 ∨ 16 ≤ g 12 by omega)]
           exact ⟨⟨rfl, rfl⟩, by rw [e9]; exact X9, f9⟩)
        | (have e9 : nnP bs a c (g, w, nm, ns, nn) = nxP bs (up g 12 (g 12 + 1), w, up nm (g 12).toNat w, up ns (g 12).toNat a, up nn (g 12).toNat c) := by
             unfold nnP
             rw [if_neg (show ¬ (g 7 ≠ 0) by omega), if_neg (show ¬ (g 4 ≠ 1 ∨ resI bs g ≠ -1) by omega), if_neg (show ¬ ((fnI nm w (g 12)) ≠ -1 ∨ 16 ≤ g 12) by omega)]
           exact ⟨⟨rfl, rfl⟩, by rw [e9]; exact X9, f9⟩)
  · skip
    refine jr_vret (pc := 7) h hRt dX6_expectNewName_7 (Nat.le_of_ble_eq_true rfl) (Nat.le_of_ble_eq_true rfl) ?_
    have e9 : nnP bs a c (g, w, nm, ns, nn) = (g, w, nm, ns, nn) := by
      unfold nnP
      rw [if_pos (show g 7 ≠ 0 from c_4)]
    exact ⟨⟨rfl, rfl⟩, by rw [e9]; exact hTp, fr_rf⟩
def bgP (a : Int) (p : TS) : TS := (up (up (up (up (up p.1 1 (min a 900)) 3 0) 7 0) 8 (-1)) 12 0, p.2)
theorem bgP_O {bs : Nat → Int} {a : Int} {p : TS} (h : PO p) (ha : -2147483648 ≤ a) : PO (nxP bs (bgP a p)) :=
  nxP_O0 (by show _ ≤ min a 900 ∧ min a 900 ≤ 900; omega) (by show 0 ≤ (0 : Int) ∧ (0 : Int) ≤ 900; omega) (by show _ ≤ (0 : Int) ∧ (0 : Int) < _; omega) (by show 0 ≤ (0 : Int) ∧ (0 : Int) ≤ 16; omega) h.2.2
set_option maxHeartbeats 1000000 in
set_option maxRecDepth 20000 in
theorem s_X6_begin {l : Launch} {n : Nat} {M : jdM} {b : Nat} {bs : Nat → Int} {p : TS} (hTp : TkP M n b bs p) (hPO : PO p) (hby : ∀ i, -128 ≤ bs i ∧ bs i < 128) {a : Int} (ha : -2147483648 ≤ a ∧ a < 2147483648) : Ct l yX6_begin cX6_begin 2 none rX6_begin [.ref b, jI a] n M (fun vv n' M' => (vv = none ∧ n = n') ∧ TkP M' n b bs (nxP bs (bgP a p)) ∧ fr (TokS b) M M') := by
  refine Ct_of [some (.ref b), some (jI a)] (by decide) (Nat.le_of_ble_eq_true rfl) rfl (fun κ hl h hR hRt hmn hn0 => ?_)
  have h : Ok κ RX6 cX6_begin 2 none := h
  obtain ⟨g, w, nm, ns, nn⟩ := p
  obtain ⟨hTO, hw, hnm, hns, hnn⟩ := id hPO
  have T1 : Tok M n b g w bs nm ns nn := hTp
  obtain ⟨o1, o2, o3, o4, o7, o12, ow, oh⟩ := id hTO
  obtain ⟨hnb, hOb, hYb, hNb, hSb, hKb⟩ := id T1
  simp only at hw hnm hns hnn o1 o2 o3 o4 o7 o12 ow oh
  have f1 : fr (TokS b) M M := fr_rf
  refine jr_aload_n (pc := 0) h dX6_begin_0 rfl ?_
  refine jr_iload_n (pc := 1) h dX6_begin_1 rfl ?_
  refine jr_sipush (pc := 2) h dX6_begin_2 sp_900 ?_
  refine im_X6_26 (pc := 5) h hR dX6_begin_5 ⟨(Nat.le_of_ble_eq_true rfl), (Nat.le_of_ble_eq_true rfl), (Nat.le_of_ble_eq_true rfl), (Nat.le_of_ble_eq_true rfl)⟩ (by omega) (by omega) ?_
  refine pf_X6_32 (pc := 8) h dX6_begin_8 (by assumption) (by omega) ?_
  refine jm_gen (fun M1 hM1 => ?_)
  have T1 := Tok_f1 T1 hM1
  have f1 := fr_tr f1 (fr_up hM1 ⟨by omega, by omega⟩)
  obtain ⟨hnb, hOb, hYb, hNb, hSb, hKb⟩ := id T1
  refine jr_aload_n (pc := 11) h dX6_begin_11 rfl ?_
  refine jr_iconst (pc := 12) h dX6_begin_12 ?_
  refine pf_X6_36 (pc := 13) h dX6_begin_13 (by assumption) (by omega) ?_
  refine jm_gen (fun M1 hM1 => ?_)
  have T1 := Tok_f3 T1 hM1
  have f1 := fr_tr f1 (fr_up hM1 ⟨by omega, by omega⟩)
  obtain ⟨hnb, hOb, hYb, hNb, hSb, hKb⟩ := id T1
  refine jr_aload_n (pc := 16) h dX6_begin_16 rfl ?_
  refine jr_iconst (pc := 17) h dX6_begin_17 ?_
  refine pf_X6_39 (pc := 18) h dX6_begin_18 (by assumption) (by omega) ?_
  refine jm_gen (fun M1 hM1 => ?_)
  have T1 := Tok_f7 T1 hM1
  have f1 := fr_tr f1 (fr_up hM1 ⟨by omega, by omega⟩)
  obtain ⟨hnb, hOb, hYb, hNb, hSb, hKb⟩ := id T1
  refine jr_aload_n (pc := 21) h dX6_begin_21 rfl ?_
  refine jr_iconst (pc := 22) h dX6_begin_22 ?_
  refine pf_X6_42 (pc := 23) h dX6_begin_23 (by assumption) (by omega) ?_
  refine jm_gen (fun M1 hM1 => ?_)
  have T1 := Tok_f8 T1 hM1
  have f1 := fr_tr f1 (fr_up hM1 ⟨by omega, by omega⟩)
  obtain ⟨hnb, hOb, hYb, hNb, hSb, hKb⟩ := id T1
  refine jr_aload_n (pc := 26) h dX6_begin_26 rfl ?_
  refine jr_iconst (pc := 27) h dX6_begin_27 ?_
  refine pf_X6_45 (pc := 28) h dX6_begin_28 (by assumption) (by omega) ?_
  refine jm_gen (fun M1 hM1 => ?_)
  have T1 := Tok_f12 T1 hM1
  have f1 := fr_tr f1 (fr_up hM1 ⟨by omega, by omega⟩)
  obtain ⟨hnb, hOb, hYb, hNb, hSb, hKb⟩ := id T1
  refine jr_aload_n (pc := 31) h dX6_begin_31 rfl ?_
  refine iv_X6_48 (pc := 32) h hl hR dX6_begin_32 ⟨(Nat.le_of_ble_eq_true rfl), (Nat.le_of_ble_eq_true rfl), (Nat.le_of_ble_eq_true rfl), (Nat.le_of_ble_eq_true rfl)⟩ (Nat.le_of_ble_eq_true rfl) (by assumption) (by omega) (s_X6_next T1 hby (by show (-2147483648 ≤ min a 900 ∧ min a 900 ≤ 900) ∧ 0 ≤ (0 : Int) ∧ (0 : Int) ≤ 900; omega) rfl rfl rfl) (fun v_32 n_32 M_32 hn_32 hp => ?_)
  obtain ⟨⟨rfl, rfl⟩, g9, T9, f9, q1, q2, q3, q4, q5, q7, q8, q12⟩ := hp
  have X9 : TkP M_32 n b bs (nxP bs (bgP a (g, w, nm, ns, nn))) := nxP_of T9 q1 q2 q3 q4 q5 q7 q8 q12
  have f9 := fr_tr f1 f9
  refine jr_vret (pc := 35) h hRt dX6_begin_35 (Nat.le_of_ble_eq_true rfl) (Nat.le_of_ble_eq_true rfl) ?_
  exact ⟨⟨rfl, rfl⟩, X9, f9⟩
