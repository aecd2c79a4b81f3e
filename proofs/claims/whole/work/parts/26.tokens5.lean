/-! 26: Tokens: what is expected -/
theorem nxP_of {M : jdM} {n b : Nat} {g g' : Nat → Int} {w : Int} {bs nm ns nn : Nat → Int} (h : Tok M n b g' (tokW bs (nxF bs g) (nxA bs g)) bs nm ns nn) (e1 : g' 1 = g 1) (e2 : g' 2 = nxF bs g) (e3 : g' 3 = tokT (g 1) (nxF bs g) (nxA bs g) (nxD bs g)) (e4 : g' 4 = tokS bs (g 1) (nxF bs g) (nxA bs g) (nxD bs g)) (e5 : g' 5 = tokV bs (nxF bs g) (nxA bs g) (nxD bs g)) (e7 : g' 7 = g 7) (e8 : g' 8 = g 8) (e12 : g' 12 = g 12) : TkP M n b bs (nxP bs (g, w, nm, ns, nn)) :=
  Tok_ext h e1 e2 e3 e4 e5 e7 e8 e12 rfl
theorem flP_of {M : jdM} {n b : Nat} {g g' : Nat → Int} {w k : Int} {bs nm ns nn : Nat → Int} (h : Tok M n b g' w bs nm ns nn) (e1 : g' 1 = g 1) (e2 : g' 2 = g 2) (e3 : g' 3 = g 3) (e4 : g' 4 = g 4) (e5 : g' 5 = g 5) (e7 : g' 7 = if g 7 = 0 then k else g 7) (e8 : g' 8 = if g 7 = 0 then g 2 else g 8) (e12 : g' 12 = g 12) : TkP M n b bs (flP k (g, w, nm, ns, nn)) := by
  unfold flP
  by_cases q : g 7 = 0
  · rw [if_pos q] at e7 e8
    rw [if_pos (show (g, w, nm, ns, nn).1 7 = 0 from q)]
    exact Tok_ext h e1 e2 e3 e4 e5 e7 e8 e12 rfl
  · rw [if_neg q] at e7 e8
    rw [if_neg (show ¬ (g, w, nm, ns, nn).1 7 = 0 from q)]
    exact Tok_ext h e1 e2 e3 e4 e5 e7 e8 e12 rfl
set_option maxHeartbeats 1000000 in
set_option maxRecDepth 20000 in
theorem s_X6_expectSign {l : Launch} {n : Nat} {M : jdM} {b : Nat} {bs : Nat → Int} {p : TS} (hTp : TkP M n b bs p) (hPO : PO p) (hby : ∀ i, -128 ≤ bs i ∧ bs i < 128) {a : Int} (hA : -2147483648 ≤ a ∧ a < 2147483648) : Ct l yX6_expectSign cX6_expectSign 2 none rX6_expectSign [.ref b, jI a] n M (fun vv n' M' => (vv = none ∧ n = n') ∧ TkP M' n b bs (esP bs a p) ∧ fr (TokS b) M M') := by
  refine Ct_of [some (.ref b), some (jI a)] (by decide) (Nat.le_of_ble_eq_true rfl) rfl (fun κ hl h hR hRt hmn hn0 => ?_)
  have h : Ok κ RX6 cX6_expectSign 2 none := h
  obtain ⟨g, w, nm, ns, nn⟩ := p
  obtain ⟨hTO, hw, hnm, hns, hnn⟩ := id hPO
  have T1 : Tok M n b g w bs nm ns nn := hTp
  obtain ⟨o1, o2, o3, o4, o7, o12, ow, oh⟩ := id hTO
  obtain ⟨hnb, hOb, hYb, hNb, hSb, hKb⟩ := id T1
  simp only at hw hnm hns hnn o1 o2 o3 o4 o7 o12 ow oh
  refine jr_aload_n (pc := 0) h dX6_expectSign_0 rfl ?_
  refine gf_X6_39 (pc := 1) h dX6_expectSign_1 (by assumption) (by omega) ?_
  refine jr_if_eq (pc := 4) h 8 dX6_expectSign_4 (by decide) (by omega) (fun c_4 => ?_) (fun c_4 => ?_)
  · skip
    refine jr_aload_n (pc := 8) h dX6_expectSign_8 rfl ?_
    refine jr_iload_n (pc := 9) h dX6_expectSign_9 rfl ?_
    refine iv_X6_76 (pc := 10) h hl hR dX6_expectSign_10 ⟨(Nat.le_of_ble_eq_true rfl), (Nat.le_of_ble_eq_true rfl), (Nat.le_of_ble_eq_true rfl), (Nat.le_of_ble_eq_true rfl)⟩ (Nat.le_of_ble_eq_true rfl) (by assumption) (by omega) (s_X6_isSign T1 hby hTO hA) (fun v_10 n_10 M_10 hn_10 hp => ?_)
    obtain ⟨⟨rfl, rfl, rfl⟩, gr_10⟩ := hp
    refine jr_if_eq (pc := 13) h 23 dX6_expectSign_13 (by decide) (by omega) (fun c_13 => ?_) (fun c_13 => ?_)
    · skip
      refine jr_aload_n (pc := 23) h dX6_expectSign_23 rfl ?_
      refine jr_iconst (pc := 24) h dX6_expectSign_24 ?_
      refine iv_X6_80 (pc := 25) h hl hR dX6_expectSign_25 ⟨(Nat.le_of_ble_eq_true rfl), (Nat.le_of_ble_eq_true rfl), (Nat.le_of_ble_eq_true rfl), (Nat.le_of_ble_eq_true rfl)⟩ (Nat.le_of_ble_eq_true rfl) (by assumption) (by omega) (s_X6_fail T1 o7) (fun v_25 n_25 M_25 hn_25 hp => ?_)
      obtain ⟨⟨rfl, rfl⟩, g9, T9, f9, q1, q2, q3, q4, q5, q7, q8, q12⟩ := hp
      have X9 := flP_of T9 q1 q2 q3 q4 q5 q7 q8 q12
      refine jr_vret (pc := 28) h hRt dX6_expectSign_28 (Nat.le_of_ble_eq_true rfl) (Nat.le_of_ble_eq_true rfl) ?_
      first
      | (have e9 : esP bs a (g, w, nm, ns, nn) = nxP bs (g, w, nm, ns, nn) := by
           unfold esP
           rw [if_neg (show ¬ (g 7 ≠ 0) by omega), if_pos (bz_1.mp c_13)]
         exact ⟨⟨rfl, rfl⟩, by rw [e9]; exact X9, f9⟩)
      | (have e9 : esP bs a (g, w, nm, ns, nn) = flP 1 (g, w, nm, ns, nn) := by
           unfold esP
           rw [if_neg (show ¬ (g 7 ≠ 0) by omega), if_neg (bz_0.mp c_13)]
         exact ⟨⟨rfl, rfl⟩, by rw [e9]; exact X9, f9⟩)
    · skip
      refine jr_aload_n (pc := 16) h dX6_expectSign_16 rfl ?_
      refine iv_X6_48 (pc := 17) h hl hR dX6_expectSign_17 ⟨(Nat.le_of_ble_eq_true rfl), (Nat.le_of_ble_eq_true rfl), (Nat.le_of_ble_eq_true rfl), (Nat.le_of_ble_eq_true rfl)⟩ (Nat.le_of_ble_eq_true rfl) (by assumption) (by omega) (s_X6_next T1 hby ⟨o1, o3⟩ rfl rfl rfl) (fun v_17 n_17 M_17 hn_17 hp => ?_)
      obtain ⟨⟨rfl, rfl⟩, g9, T9, f9, q1, q2, q3, q4, q5, q7, q8, q12⟩ := hp
      have X9 : TkP M_17 n b bs (nxP bs (g, w, nm, ns, nn)) := nxP_of T9 q1 q2 q3 q4 q5 q7 q8 q12
      refine jr_goto (pc := 20) h 28 dX6_expectSign_20 (by decide) ?_
      refine jr_vret (pc := 28) h hRt dX6_expectSign_28 (Nat.le_of_ble_eq_true rfl) (Nat.le_of_ble_eq_true rfl) ?_
      first
      | (have e9 : esP bs a (g, w, nm, ns, nn) = nxP bs (g, w, nm, ns, nn) := by
           unfold esP
           rw [if_neg (show ¬ (g 7 ≠ 0) by omega), if_pos (bz_1.mp c_13)]
         exact ⟨⟨rfl, rfl⟩, by rw [e9]; exact X9, f9⟩)
      | (have e9 : esP bs a (g, w, nm, ns, nn) = flP 1 (g, w, nm, ns, nn) := by
           unfold esP
           rw [if_neg (show ¬ (g 7 ≠ 0) by omega), if_neg (bz_0.mp c_13)]
         exact ⟨⟨rfl, rfl⟩, by rw [e9]; exact X9, f9⟩)
  · skip
    refine jr_vret (pc := 7) h hRt dX6_expectSign_7 (Nat.le_of_ble_eq_true rfl) (Nat.le_of_ble_eq_true rfl) ?_
    have e9 : esP bs a (g, w, nm, ns, nn) = (g, w, nm, ns, nn) := by
      unfold esP
      exact if_pos c_4
    exact ⟨⟨rfl, rfl⟩, by rw [e9]; exact hTp, fr_rf⟩
set_option maxHeartbeats 1000000 in
set_option maxRecDepth 20000 in
theorem s_X6_expectWord {l : Launch} {n : Nat} {M : jdM} {b : Nat} {bs : Nat → Int} {p : TS} (hTp : TkP M n b bs p) (hPO : PO p) (hby : ∀ i, -128 ≤ bs i ∧ bs i < 128) {k : Nat} (hk58 : k < 58) : Ct l yX6_expectWord cX6_expectWord 2 none rX6_expectWord [.ref b, .ref (1000000 + 100 + k)] n M (fun vv n' M' => (vv = none ∧ n = n') ∧ TkP M' n b bs (ewP bs k p) ∧ fr (TokS b) M M') := by
  refine Ct_of [some (.ref b), some (.ref (1000000 + 100 + k))] (by decide) (Nat.le_of_ble_eq_true rfl) rfl (fun κ hl h hR hRt hmn hn0 => ?_)
  have h : Ok κ RX6 cX6_expectWord 2 none := h
  obtain ⟨g, w, nm, ns, nn⟩ := p
  obtain ⟨hTO, hw, hnm, hns, hnn⟩ := id hPO
  have T1 : Tok M n b g w bs nm ns nn := hTp
  obtain ⟨o1, o2, o3, o4, o7, o12, ow, oh⟩ := id hTO
  obtain ⟨hnb, hOb, hYb, hNb, hSb, hKb⟩ := id T1
  simp only at hw hnm hns hnn o1 o2 o3 o4 o7 o12 ow oh
  refine jr_aload_n (pc := 0) h dX6_expectWord_0 rfl ?_
  refine gf_X6_39 (pc := 1) h dX6_expectWord_1 (by assumption) (by omega) ?_
  refine jr_if_eq (pc := 4) h 8 dX6_expectWord_4 (by decide) (by omega) (fun c_4 => ?_) (fun c_4 => ?_)
  · skip
    refine jr_aload_n (pc := 8) h dX6_expectWord_8 rfl ?_
    refine jr_aload_n (pc := 9) h dX6_expectWord_9 rfl ?_
    refine iv_X6_84 (pc := 10) h hl hR dX6_expectWord_10 ⟨(Nat.le_of_ble_eq_true rfl), (Nat.le_of_ble_eq_true rfl), (Nat.le_of_ble_eq_true rfl), (Nat.le_of_ble_eq_true rfl)⟩ (Nat.le_of_ble_eq_true rfl) (by assumption) (by omega) (s_X6_isWord T1 hby hTO hk58) (fun v_10 n_10 M_10 hn_10 hp => ?_)
    obtain ⟨⟨rfl, rfl, rfl⟩, gr_10⟩ := hp
    refine jr_if_eq (pc := 13) h 23 dX6_expectWord_13 (by decide) (by omega) (fun c_13 => ?_) (fun c_13 => ?_)
    · skip
      refine jr_aload_n (pc := 23) h dX6_expectWord_23 rfl ?_
      refine jr_iconst (pc := 24) h dX6_expectWord_24 ?_
      refine iv_X6_80 (pc := 25) h hl hR dX6_expectWord_25 ⟨(Nat.le_of_ble_eq_true rfl), (Nat.le_of_ble_eq_true rfl), (Nat.le_of_ble_eq_true rfl), (Nat.le_of_ble_eq_true rfl)⟩ (Nat.le_of_ble_eq_true rfl) (by assumption) (by omega) (s_X6_fail T1 o7) (fun v_25 n_25 M_25 hn_25 hp => ?_)
      obtain ⟨⟨rfl, rfl⟩, g9, T9, f9, q1, q2, q3, q4, q5, q7, q8, q12⟩ := hp
      have X9 := flP_of T9 q1 q2 q3 q4 q5 q7 q8 q12
      refine jr_vret (pc := 28) h hRt dX6_expectWord_28 (Nat.le_of_ble_eq_true rfl) (Nat.le_of_ble_eq_true rfl) ?_
      first
      | (have e9 : ewP bs k (g, w, nm, ns, nn) = nxP bs (g, w, nm, ns, nn) := by
           unfold ewP
           rw [if_neg (show ¬ (g 7 ≠ 0) by omega), if_pos (bz_1.mp c_13)]
         exact ⟨⟨rfl, rfl⟩, by rw [e9]; exact X9, f9⟩)
      | (have e9 : ewP bs k (g, w, nm, ns, nn) = flP 1 (g, w, nm, ns, nn) := by
           unfold ewP
           rw [if_neg (show ¬ (g 7 ≠ 0) by omega), if_neg (bz_0.mp c_13)]
         exact ⟨⟨rfl, rfl⟩, by rw [e9]; exact X9, f9⟩)
    · skip
      refine jr_aload_n (pc := 16) h dX6_expectWord_16 rfl ?_
      refine iv_X6_48 (pc := 17) h hl hR dX6_expectWord_17 ⟨(Nat.le_of_ble_eq_true rfl), (Nat.le_of_ble_eq_true rfl), (Nat.le_of_ble_eq_true rfl), (Nat.le_of_ble_eq_true rfl)⟩ (Nat.le_of_ble_eq_true rfl) (by assumption) (by omega) (s_X6_next T1 hby ⟨o1, o3⟩ rfl rfl rfl) (fun v_17 n_17 M_17 hn_17 hp => ?_)
      obtain ⟨⟨rfl, rfl⟩, g9, T9, f9, q1, q2, q3, q4, q5, q7, q8, q12⟩ := hp
      have X9 : TkP M_17 n b bs (nxP bs (g, w, nm, ns, nn)) := nxP_of T9 q1 q2 q3 q4 q5 q7 q8 q12
      refine jr_goto (pc := 20) h 28 dX6_expectWord_20 (by decide) ?_
      refine jr_vret (pc := 28) h hRt dX6_expectWord_28 (Nat.le_of_ble_eq_true rfl) (Nat.le_of_ble_eq_true rfl) ?_
      first
      | (have e9 : ewP bs k (g, w, nm, ns, nn) = nxP bs (g, w, nm, ns, nn) := by
           unfold ewP
           rw [if_neg (show ¬ (g 7 ≠ 0) by omega), if_pos (bz_1.mp c_13)]
         exact ⟨⟨rfl, rfl⟩, by rw [e9]; exact X9, f9⟩)
      | (have e9 : ewP bs k (g, w, nm, ns, nn) = flP 1 (g, w, nm, ns, nn) := by
           unfold ewP
           rw [if_neg (show ¬ (g 7 ≠ 0) by omega), if_neg (bz_0.mp c_13)]
         exact ⟨⟨rfl, rfl⟩, by rw [e9]; exact X9, f9⟩)
  · skip
    refine jr_vret (pc := 7) h hRt dX6_expectWord_7 (Nat.le_of_ble_eq_true rfl) (Nat.le_of_ble_eq_true rfl) ?_
    have e9 : ewP bs k (g, w, nm, ns, nn) = (g, w, nm, ns, nn) := by
      unfold ewP
      exact if_pos c_4
    exact ⟨⟨rfl, rfl⟩, by rw [e9]; exact hTp, fr_rf⟩
set_option maxHeartbeats 1000000 in
set_option maxRecDepth 20000 in
theorem s_X6_expectWhole {l : Launch} {n : Nat} {M : jdM} {b : Nat} {bs : Nat → Int} {p : TS} (hTp : TkP M n b bs p) (hPO : PO p) (hby : ∀ i, -128 ≤ bs i ∧ bs i < 128) {a c : Int} (ha : -2147483648 ≤ a ∧ a < 2147483648) (hc : -2147483648 ≤ c ∧ c < 2147483648) : Ct l yX6_expectWhole cX6_expectWhole 4 (some .int) rX6_expectWhole [.ref b, jI a, jI c] n M (fun vv n' M' => (vv = some (jI (ehP bs a c p).1) ∧ n = n') ∧ TkP M' n b bs (ehP bs a c p).2 ∧ fr (TokS b) M M') := by
  refine Ct_of [some (.ref b), some (jI a), some (jI c), none] (by decide) (Nat.le_of_ble_eq_true rfl) rfl (fun κ hl h hR hRt hmn hn0 => ?_)
  have h : Ok κ RX6 cX6_expectWhole 4 (some .int) := h
  obtain ⟨g, w, nm, ns, nn⟩ := p
  obtain ⟨hTO, hw, hnm, hns, hnn⟩ := id hPO
  have T1 : Tok M n b g w bs nm ns nn := hTp
  obtain ⟨o1, o2, o3, o4, o7, o12, ow, oh⟩ := id hTO
  obtain ⟨hnb, hOb, hYb, hNb, hSb, hKb⟩ := id T1
  simp only at hw hnm hns hnn o1 o2 o3 o4 o7 o12 ow oh
  refine jr_aload_n (pc := 0) h dX6_expectWhole_0 rfl ?_
  refine gf_X6_39 (pc := 1) h dX6_expectWhole_1 (by assumption) (by omega) ?_
  refine jr_if_eq (pc := 4) h 9 dX6_expectWhole_4 (by decide) (by omega) (fun c_4 => ?_) (fun c_4 => ?_)
  · skip
    refine jr_aload_n (pc := 9) h dX6_expectWhole_9 rfl ?_
    refine gf_X6_51 (pc := 10) h dX6_expectWhole_10 (by assumption) (by omega) ?_
    refine jr_iconst (pc := 13) h dX6_expectWhole_13 ?_
    refine jr_icmp_eq (pc := 14) h 24 dX6_expectWhole_14 (by decide) (by omega) (by omega) (fun c_14 => ?_) (fun c_14 => ?_)
    · skip
      refine jr_aload_n (pc := 24) h dX6_expectWhole_24 rfl ?_
      refine gf_X6_61 (pc := 25) h dX6_expectWhole_25 (by assumption) (by omega) ?_
      refine jr_iload_n (pc := 28) h dX6_expectWhole_28 rfl ?_
      refine jr_icmp_lt (pc := 29) h 40 dX6_expectWhole_29 (by decide) (by omega) (by omega) (fun c_29 => ?_) (fun c_29 => ?_)
      · skip
        refine jr_aload_n (pc := 40) h dX6_expectWhole_40 rfl ?_
        refine jr_iconst (pc := 41) h dX6_expectWhole_41 ?_
        refine iv_X6_80 (pc := 42) h hl hR dX6_expectWhole_42 ⟨(Nat.le_of_ble_eq_true rfl), (Nat.le_of_ble_eq_true rfl), (Nat.le_of_ble_eq_true rfl), (Nat.le_of_ble_eq_true rfl)⟩ (Nat.le_of_ble_eq_true rfl) (by assumption) (by omega) (s_X6_fail T1 o7) (fun v_42 n_42 M_42 hn_42 hp => ?_)
        obtain ⟨⟨rfl, rfl⟩, g9, T9, f9, q1, q2, q3, q4, q5, q7, q8, q12⟩ := hp
        have X9 := flP_of T9 q1 q2 q3 q4 q5 q7 q8 q12
        refine jr_iload_n (pc := 45) h dX6_expectWhole_45 rfl ?_
        refine jr_iret (pc := 46) h hRt dX6_expectWhole_46 rfl (Nat.le_of_ble_eq_true rfl) (Nat.le_of_ble_eq_true rfl) ?_
        have e9 : ehP bs a c (g, w, nm, ns, nn) = (a, flP 4 (g, w, nm, ns, nn)) := by
          unfold ehP
          rw [if_neg (show ¬ (g 7 ≠ 0) by omega), if_neg (show ¬ (g 4 ≠ 2) by omega), if_pos (show g 5 < a ∨ c < g 5 by omega)]
        exact ⟨⟨by rw [e9], rfl⟩, by rw [e9]; exact X9, f9⟩
      · skip
        refine jr_aload_n (pc := 32) h dX6_expectWhole_32 rfl ?_
        refine gf_X6_61 (pc := 33) h dX6_expectWhole_33 (by assumption) (by omega) ?_
        refine jr_iload_n (pc := 36) h dX6_expectWhole_36 rfl ?_
        refine jr_icmp_le (pc := 37) h 47 dX6_expectWhole_37 (by decide) (by omega) (by omega) (fun c_37 => ?_) (fun c_37 => ?_)
        · skip
          refine jr_aload_n (pc := 47) h dX6_expectWhole_47 rfl ?_
          refine gf_X6_61 (pc := 48) h dX6_expectWhole_48 (by assumption) (by omega) ?_
          refine jr_istore_n (pc := 51) h [_, _, _, _] dX6_expectWhole_51 (by decide) rfl ?_
          refine jr_aload_n (pc := 52) h dX6_expectWhole_52 rfl ?_
          refine iv_X6_48 (pc := 53) h hl hR dX6_expectWhole_53 ⟨(Nat.le_of_ble_eq_true rfl), (Nat.le_of_ble_eq_true rfl), (Nat.le_of_ble_eq_true rfl), (Nat.le_of_ble_eq_true rfl)⟩ (Nat.le_of_ble_eq_true rfl) (by assumption) (by omega) (s_X6_next T1 hby ⟨o1, o3⟩ rfl rfl rfl) (fun v_53 n_53 M_53 hn_53 hp => ?_)
          obtain ⟨⟨rfl, rfl⟩, g9, T9, f9, q1, q2, q3, q4, q5, q7, q8, q12⟩ := hp
          have X9 : TkP M_53 n b bs (nxP bs (g, w, nm, ns, nn)) := nxP_of T9 q1 q2 q3 q4 q5 q7 q8 q12
          refine jr_iload_n (pc := 56) h dX6_expectWhole_56 rfl ?_
          refine jr_iret (pc := 57) h hRt dX6_expectWhole_57 rfl (Nat.le_of_ble_eq_true rfl) (Nat.le_of_ble_eq_true rfl) ?_
          have e9 : ehP bs a c (g, w, nm, ns, nn) = (g 5, nxP bs (g, w, nm, ns, nn)) := by
            unfold ehP
            rw [if_neg (show ¬ (g 7 ≠ 0) by omega), if_neg (show ¬ (g 4 ≠ 2) by omega), if_neg (show ¬ (g 5 < a ∨ c < g 5) by omega)]
          exact ⟨⟨by rw [e9], rfl⟩, by rw [e9]; exact X9, f9⟩
        · skip
          refine jr_aload_n (pc := 40) h dX6_expectWhole_40 rfl ?_
          refine jr_iconst (pc := 41) h dX6_expectWhole_41 ?_
          refine iv_X6_80 (pc := 42) h hl hR dX6_expectWhole_42 ⟨(Nat.le_of_ble_eq_true rfl), (Nat.le_of_ble_eq_true rfl), (Nat.le_of_ble_eq_true rfl), (Nat.le_of_ble_eq_true rfl)⟩ (Nat.le_of_ble_eq_true rfl) (by assumption) (by omega) (s_X6_fail T1 o7) (fun v_42 n_42 M_42 hn_42 hp => ?_)
          obtain ⟨⟨rfl, rfl⟩, g9, T9, f9, q1, q2, q3, q4, q5, q7, q8, q12⟩ := hp
          have X9 := flP_of T9 q1 q2 q3 q4 q5 q7 q8 q12
          refine jr_iload_n (pc := 45) h dX6_expectWhole_45 rfl ?_
          refine jr_iret (pc := 46) h hRt dX6_expectWhole_46 rfl (Nat.le_of_ble_eq_true rfl) (Nat.le_of_ble_eq_true rfl) ?_
          have e9 : ehP bs a c (g, w, nm, ns, nn) = (a, flP 4 (g, w, nm, ns, nn)) := by
            unfold ehP
            rw [if_neg (show ¬ (g 7 ≠ 0) by omega), if_neg (show ¬ (g 4 ≠ 2) by omega), if_pos (show g 5 < a ∨ c < g 5 by omega)]
          exact ⟨⟨by rw [e9], rfl⟩, by rw [e9]; exact X9, f9⟩
    · skip
      refine jr_aload_n (pc := 17) h dX6_expectWhole_17 rfl ?_
      refine jr_iconst (pc := 18) h dX6_expectWhole_18 ?_
      refine iv_X6_80 (pc := 19) h hl hR dX6_expectWhole_19 ⟨(Nat.le_of_ble_eq_true rfl), (Nat.le_of_ble_eq_true rfl), (Nat.le_of_ble_eq_true rfl), (Nat.le_of_ble_eq_true rfl)⟩ (Nat.le_of_ble_eq_true rfl) (by assumption) (by omega) (s_X6_fail T1 o7) (fun v_19 n_19 M_19 hn_19 hp => ?_)
      obtain ⟨⟨rfl, rfl⟩, g9, T9, f9, q1, q2, q3, q4, q5, q7, q8, q12⟩ := hp
      have X9 := flP_of T9 q1 q2 q3 q4 q5 q7 q8 q12
      refine jr_iload_n (pc := 22) h dX6_expectWhole_22 rfl ?_
      refine jr_iret (pc := 23) h hRt dX6_expectWhole_23 rfl (Nat.le_of_ble_eq_true rfl) (Nat.le_of_ble_eq_true rfl) ?_
      have e9 : ehP bs a c (g, w, nm, ns, nn) = (a, flP 1 (g, w, nm, ns, nn)) := by
        unfold ehP
        rw [if_neg (show ¬ (g 7 ≠ 0) by omega), if_pos (show g 4 ≠ 2 by omega)]
      exact ⟨⟨by rw [e9], rfl⟩, by rw [e9]; exact X9, f9⟩
  · skip
    refine jr_iload_n (pc := 7) h dX6_expectWhole_7 rfl ?_
    refine jr_iret (pc := 8) h hRt dX6_expectWhole_8 rfl (Nat.le_of_ble_eq_true rfl) (Nat.le_of_ble_eq_true rfl) ?_
    have e9 : ehP bs a c (g, w, nm, ns, nn) = (a, (g, w, nm, ns, nn)) := by
      unfold ehP
      rw [if_pos (show g 7 ≠ 0 from c_4)]
    exact ⟨⟨by rw [e9], rfl⟩, by rw [e9]; exact hTp, fr_rf⟩
