/-! 37: Teller.read -/
def HS (td : Nat → Int) : Prop := ∀ i : Int, c_get td 7 i 2 ≤ 9
theorem HS_up {ct td : Nat → Int} {s c x : Int} (h : HS td) (hs : 0 ≤ s ∧ s < 13) (hc : 0 ≤ c ∧ c < 12) (hct : 0 ≤ ct s.toNat ∧ ct s.toNat < 8) (hx : s ≠ 7 ∨ c ≠ 2 ∨ x ≤ 9) : HS (up td (c_ix ct s c) x) := by
  intro i
  have := h i
  unfold c_get at this ⊢
  unfold up c_ix
  split
  · rename_i q
    rw [if_pos q] at this
    split
    · omega
    · exact this
  · omega
theorem HS_op {ct td : Nat → Int} {s : Int} (h : HS td) : HS (opT ct td s) := by
  intro i
  have := h i
  unfold c_get at this ⊢
  unfold opT
  split
  · rename_i q
    rw [if_pos q] at this
    split
    · omega
    · exact this
  · omega
theorem HS_tl {bs ct td : Nat → Int} {p : TS} (h : HS td) (hL : LKI ct td) (hP : PO p) (hN : NO p) (hc : 0 ≤ ct 7 ∧ ct 7 < 8) : HS (tlP bs ct td p).2 := by
  unfold tlP
  split
  · rename_i q
    have h4 := LKI_4 hL (snP_k (bs := bs) hP hN)
    have h3 : c_get td 7 (ct 7) 3 ≤ 3 := by
      rcases h4 with h4 | h4
      · exact h4
      · exfalso
        unfold tlQ at q
        by_cases q2 : (snP bs 2 p).2.1 7 = 0
        · rw [if_pos ⟨q2, h4⟩] at q
          exact flP_7 q2 (by decide) q
        · rw [if_neg (fun z => q2 z.1)] at q
          exact q2 q
    have h0 := hL.1.1
    refine HS_up (HS_up (HS_up h (by omega) (by omega) hc (by omega)) (by omega) (by omega) hc (by omega)) (by omega) (by omega) hc (by omega)
  · exact h
theorem lbP_O {bs : Nat → Int} {k : Nat} {a c : Int} {p : TS} (h : PO p) : PO (lbP bs k a c p).2 := ehP_O (ewP_O h)
theorem tlP_O {bs ct td : Nat → Int} {p : TS} (h : PO p) : PO (tlP bs ct td p).1 := by
  have hq : PO (tlQ bs ct td p) := by
    unfold tlQ
    split
    · exact flP_O (snP_O h) (by omega)
    · exact snP_O h
  unfold tlP
  split
  · exact ehP_O (nxP_O hq)
  · exact hq
theorem HS_bl {bs ct : Nat → Int} (hc : 0 ≤ ct 7 ∧ ct 7 < 8) : ∀ (k : Nat) {td : Nat → Int} {p : TS}, HS td → LKI ct td → PO p → NO p → HS (blR bs ct k p td).2
  | 0, _, _, h, _, _, _ => h
  | k + 1, td, p, h, hL, hP, hN => by
    rw [blR]
    split
    · have hP2 : PO (nxP bs p) := nxP_O hP
      have hN2 : NO (nxP bs p) := NO_of hN rfl
      refine HS_bl hc k (HS_tl h hL hP2 hN2 hc) (tlP_L hL hP2 hN2 hc) ?_ (NO_of hN2 tlP_n)
      exact tlP_O hP2
    · exact h
theorem nxP_n {bs : Nat → Int} {p : TS} : (nxP bs p).2.2 = p.2.2 := rfl
theorem blR_n {bs ct : Nat → Int} : ∀ (k : Nat) {td : Nat → Int} {p : TS}, (blR bs ct k p td).1.2.2 = p.2.2
  | 0, _, _ => rfl
  | k + 1, td, p => by
    rw [blR]
    split
    · rw [blR_n k, tlP_n, nxP_n]
    · rfl
theorem HS_ln0 {bs ct td : Nat → Int} {p : TS} (h : HS td) (hc : 0 ≤ ct 0 ∧ ct 0 < 8) : HS (ln_0 bs ct p td).2 := (HS_up (HS_up (HS_up h (by omega) (by omega) hc (by omega)) (by omega) (by omega) hc (by omega)) (by omega) (by omega) hc (by omega))
theorem HS_ln1 {bs ct td : Nat → Int} {p : TS} (h : HS td) (hc : 0 ≤ ct 1 ∧ ct 1 < 8) : HS (ln_1 bs ct p td).2 := (HS_up (HS_up h (by omega) (by omega) hc (by omega)) (by omega) (by omega) hc (by omega))
theorem HS_ln2 {bs ct td : Nat → Int} {p : TS} (h : HS td) (hc : 0 ≤ ct 2 ∧ ct 2 < 8) : HS (ln_2 bs ct p td).2 := (HS_up (HS_up h (by omega) (by omega) hc (by omega)) (by omega) (by omega) hc (by omega))
theorem HS_ln3 {bs ct td : Nat → Int} {p : TS} (h : HS td) (hc : 0 ≤ ct 3 ∧ ct 3 < 8) : HS (ln_3 bs ct p td).2 := (HS_up (HS_up h (by omega) (by omega) hc (by omega)) (by omega) (by omega) hc (by omega))
theorem HS_ln4 {bs ct td : Nat → Int} {p : TS} (h : HS td) (hc : 0 ≤ ct 4 ∧ ct 4 < 8) : HS (ln_4 bs ct p td).2 := (HS_up (HS_up (HS_up h (by omega) (by omega) hc (by omega)) (by omega) (by omega) hc (by omega)) (by omega) (by omega) hc (by omega))
theorem HS_ln5 {bs ct td : Nat → Int} {p : TS} (h : HS td) (hc : 0 ≤ ct 5 ∧ ct 5 < 8) : HS (ln_5 bs ct p td).2 := (HS_up (HS_up (HS_up h (by omega) (by omega) hc (by omega)) (by omega) (by omega) hc (by omega)) (by omega) (by omega) hc (by omega))
theorem HS_ln6 {bs ct td : Nat → Int} {p : TS} (h : HS td) (hc : 0 ≤ ct 6 ∧ ct 6 < 8) : HS (ln_6 bs ct p td).2 := (HS_up (HS_up (HS_up h (by omega) (by omega) hc (by omega)) (by omega) (by omega) hc (by omega)) (by omega) (by omega) hc (by omega))
theorem HS_ln7 {bs ct td : Nat → Int} {p : TS} (h : HS td) (hc : 0 ≤ ct 7 ∧ ct 7 < 8) (h30 : c_get td 7 (ct 7) 3 = 0) (hP : PO p) (hN : NO p) : HS (ln_7 bs ct p td).2 := by
  have h0 : HS (up (up (up td (c_ix ct 7 0) (ehP bs 1 40 p).1) (c_ix ct 7 1) (lbP bs 14 (ehP bs 1 40 p).1 40 (ehP bs 1 40 p).2).1) (c_ix ct 7 2) (lbP bs 15 1 9 (lbP bs 14 (ehP bs 1 40 p).1 40 (ehP bs 1 40 p).2).2).1) :=
    HS_up (HS_up (HS_up h (by omega) (by omega) hc (by omega)) (by omega) (by omega) hc (by omega)) (by omega) (by omega) hc (Or.inr (Or.inr (lbP_b (by omega)).2))
  have hL : LKI ct (up (up (up td (c_ix ct 7 0) (ehP bs 1 40 p).1) (c_ix ct 7 1) (lbP bs 14 (ehP bs 1 40 p).1 40 (ehP bs 1 40 p).2).1) (c_ix ct 7 2) (lbP bs 15 1 9 (lbP bs 14 (ehP bs 1 40 p).1 40 (ehP bs 1 40 p).2).2).1) := LKI_0 (by rw [cg_up hc (by omega) (by omega), cg_up hc (by omega) (by omega), cg_up hc (by omega) (by omega)]; exact h30)
  have hP1 : PO (ewP bs 16 (lbP bs 15 1 9 (lbP bs 14 (ehP bs 1 40 p).1 40 (ehP bs 1 40 p).2).2).2) := ewP_O (lbP_O (lbP_O (ehP_O hP)))
  have hN1 : NO (ewP bs 16 (lbP bs 15 1 9 (lbP bs 14 (ehP bs 1 40 p).1 40 (ehP bs 1 40 p).2).2).2) := NO_of hN (by rw [ewP_n, lbP_n, lbP_n, ehP_n])
  exact HS_bl hc 4 (HS_tl h0 hL hP1 hN1 hc) (tlP_L hL hP1 hN1 hc) (tlP_O hP1) (NO_of hN1 tlP_n)
theorem HS_ln8 {bs ct td : Nat → Int} {p : TS} (h : HS td) (hc : 0 ≤ ct 8 ∧ ct 8 < 8) : HS (ln_8 bs ct p td).2 := by
  unfold ln_8
  dsimp only
  split
  · exact HS_up (HS_up (HS_up h (by omega) (by omega) hc (by omega)) (by omega) (by omega) hc (by omega)) (by omega) (by omega) hc (by omega)
  · exact HS_up (HS_up h (by omega) (by omega) hc (by omega)) (by omega) (by omega) hc (by omega)
theorem HS_ln9 {bs ct td : Nat → Int} {p : TS} (h : HS td) (hc : 0 ≤ ct 9 ∧ ct 9 < 8) : HS (ln_9 bs ct p td).2 := (HS_up (HS_up h (by omega) (by omega) hc (by omega)) (by omega) (by omega) hc (by omega))
theorem HS_ln10 {bs ct td : Nat → Int} {p : TS} (h : HS td) (hc : 0 ≤ ct 10 ∧ ct 10 < 8) : HS (ln_10 bs ct p td).2 := (HS_up h (by omega) (by omega) hc (by omega))
theorem HS_ln11 {bs ct td : Nat → Int} {p : TS} (h : HS td) (hc : 0 ≤ ct 11 ∧ ct 11 < 8) : HS (ln_11 bs ct p td).2 := (HS_up (HS_up (HS_up h (by omega) (by omega) hc (by omega)) (by omega) (by omega) hc (by omega)) (by omega) (by omega) hc (by omega))
theorem HS_ln12 {bs ct td : Nat → Int} {p : TS} (h : HS td) (hc : 0 ≤ ct 12 ∧ ct 12 < 8) : HS (ln_12 bs ct p td).2 := (HS_up h (by omega) (by omega) hc (by omega))
theorem ln0_n {bs ct td : Nat → Int} {p : TS} : (ln_0 bs ct p td).1.2.2 = p.2.2 := by
  unfold ln_0
  simp only [nxP_n, lbP_n, ehP_n, ewP_n, enP_n, trP_n, tlP_n, blR_n]
theorem ln1_n {bs ct td : Nat → Int} {p : TS} : (ln_1 bs ct p td).1.2.2 = p.2.2 := by
  unfold ln_1
  simp only [nxP_n, lbP_n, ehP_n, ewP_n, enP_n, trP_n, tlP_n, blR_n]
theorem ln2_n {bs ct td : Nat → Int} {p : TS} : (ln_2 bs ct p td).1.2.2 = p.2.2 := by
  unfold ln_2
  simp only [nxP_n, lbP_n, ehP_n, ewP_n, enP_n, trP_n, tlP_n, blR_n]
theorem ln3_n {bs ct td : Nat → Int} {p : TS} : (ln_3 bs ct p td).1.2.2 = p.2.2 := by
  unfold ln_3
  simp only [nxP_n, lbP_n, ehP_n, ewP_n, enP_n, trP_n, tlP_n, blR_n]
theorem ln4_n {bs ct td : Nat → Int} {p : TS} : (ln_4 bs ct p td).1.2.2 = p.2.2 := by
  unfold ln_4
  simp only [nxP_n, lbP_n, ehP_n, ewP_n, enP_n, trP_n, tlP_n, blR_n]
theorem ln5_n {bs ct td : Nat → Int} {p : TS} : (ln_5 bs ct p td).1.2.2 = p.2.2 := by
  unfold ln_5
  simp only [nxP_n, lbP_n, ehP_n, ewP_n, enP_n, trP_n, tlP_n, blR_n]
theorem ln6_n {bs ct td : Nat → Int} {p : TS} : (ln_6 bs ct p td).1.2.2 = p.2.2 := by
  unfold ln_6
  simp only [nxP_n, lbP_n, ehP_n, ewP_n, enP_n, trP_n, tlP_n, blR_n]
theorem ln7_n {bs ct td : Nat → Int} {p : TS} : (ln_7 bs ct p td).1.2.2 = p.2.2 := by
  unfold ln_7
  simp only [nxP_n, lbP_n, ehP_n, ewP_n, enP_n, trP_n, tlP_n, blR_n]
theorem ln8_n {bs ct td : Nat → Int} {p : TS} : (ln_8 bs ct p td).1.2.2 = p.2.2 := by
  unfold ln_8
  dsimp only
  split
  · simp only [nxP_n, lbP_n, ehP_n, ewP_n, enP_n]
  · simp only [nxP_n, lbP_n, ehP_n, ewP_n, enP_n]
theorem ln9_n {bs ct td : Nat → Int} {p : TS} : (ln_9 bs ct p td).1.2.2 = p.2.2 := by
  unfold ln_9
  simp only [nxP_n, lbP_n, ehP_n, ewP_n, enP_n, trP_n, tlP_n, blR_n]
theorem ln10_n {bs ct td : Nat → Int} {p : TS} : (ln_10 bs ct p td).1.2.2 = p.2.2 := by
  unfold ln_10
  simp only [nxP_n, lbP_n, ehP_n, ewP_n, enP_n, trP_n, tlP_n, blR_n]
theorem ln11_n {bs ct td : Nat → Int} {p : TS} : (ln_11 bs ct p td).1.2.2 = p.2.2 := by
  unfold ln_11
  simp only [nxP_n, lbP_n, ehP_n, ewP_n, enP_n, trP_n, tlP_n, blR_n]
theorem ln12_n {bs ct td : Nat → Int} {p : TS} : (ln_12 bs ct p td).1.2.2 = p.2.2 := by
  unfold ln_12
  simp only [nxP_n, lbP_n, ehP_n, ewP_n, enP_n, trP_n, tlP_n, blR_n]
theorem tlnP_HS {bs ct td : Nat → Int} {s : Int} {p : TS} (h : HS td) (hr : ∀ j, 0 ≤ ct j ∧ ct j ≤ 8) (hP : PO p) (hN : NO p) : HS (tlnP bs ct td s p).2.2 := by
  unfold tlnP
  split
  · exact h
  · rename_i q
    split
    · exact h
    · rename_i q2
      have hc : 0 ≤ ct s.toNat ∧ ct s.toNat < 8 := by
        have := hr s.toNat
        have := lim_r s.toNat (by omega)
        omega
      show HS (lnP bs ct (nxP bs p) (opT ct td s) s).2
      have ho : HS (opT ct td s) := HS_op h
      have h3 : s = 0 ∨ s = 1 ∨ s = 2 ∨ s = 3 ∨ s = 4 ∨ s = 5 ∨ s = 6 ∨ s = 7 ∨ s = 8 ∨ s = 9 ∨ s = 10 ∨ s = 11 ∨ s = 12 := by omega
      rcases h3 with rfl | rfl | rfl | rfl | rfl | rfl | rfl | rfl | rfl | rfl | rfl | rfl | rfl
      · exact HS_ln0 ho hc
      · exact HS_ln1 ho hc
      · exact HS_ln2 ho hc
      · exact HS_ln3 ho hc
      · exact HS_ln4 ho hc
      · exact HS_ln5 ho hc
      · exact HS_ln6 ho hc
      · exact HS_ln7 ho hc (opT_7 hc) (nxP_O hP) (NO_of hN rfl)
      · exact HS_ln8 ho hc
      · exact HS_ln9 ho hc
      · exact HS_ln10 ho hc
      · exact HS_ln11 ho hc
      · exact HS_ln12 ho hc
theorem tlnP_N {bs ct td : Nat → Int} {s : Int} {p : TS} (hN : NO p) : NO (tlnP bs ct td s p).1 := by
  unfold tlnP
  split
  · exact NO_of hN flP_n
  · rename_i q
    split
    · exact NO_of hN flP_n
    · rename_i q2
      show NO (lnP bs ct (nxP bs p) (opT ct td s) s).1
      have hN2 : NO (nxP bs p) := NO_of hN rfl
      have h3 : s = 0 ∨ s = 1 ∨ s = 2 ∨ s = 3 ∨ s = 4 ∨ s = 5 ∨ s = 6 ∨ s = 7 ∨ s = 8 ∨ s = 9 ∨ s = 10 ∨ s = 11 ∨ s = 12 := by omega
      rcases h3 with rfl | rfl | rfl | rfl | rfl | rfl | rfl | rfl | rfl | rfl | rfl | rfl | rfl
      · exact NO_of hN2 ln0_n
      · exact NO_of hN2 ln1_n
      · exact NO_of (nnP_N hN2 (fun z => by have q3 : ¬ ((4 : Int) ≤ ct 2) := q2; omega)) ln2_n
      · exact NO_of hN2 ln3_n
      · exact NO_of hN2 ln4_n
      · exact NO_of (nnP_N hN2 (fun z => absurd z (by decide))) ln5_n
      · exact NO_of hN2 ln6_n
      · exact NO_of hN2 ln7_n
      · exact NO_of (nnP_N hN2 (fun z => absurd z (by decide))) ln8_n
      · exact NO_of hN2 ln9_n
      · exact NO_of hN2 ln10_n
      · exact NO_of hN2 ln11_n
      · exact NO_of (nnP_N hN2 (fun z => absurd z (by decide))) ln12_n
noncomputable def rdR (bs : Nat → Int) : Nat → TS × (Nat → Int) × (Nat → Int) → TS × (Nat → Int) × (Nat → Int)
  | 0, r => r
  | k + 1, r => if r.1.1 7 = 0 then (if (tlnP bs r.2.1 r.2.2 (resI bs r.1.1) r.1).1.1 4 = 0 then tlnP bs r.2.1 r.2.2 (resI bs r.1.1) r.1 else rdR bs k (esP bs 59 (tlnP bs r.2.1 r.2.2 (resI bs r.1.1) r.1).1, (tlnP bs r.2.1 r.2.2 (resI bs r.1.1) r.1).2)) else r
noncomputable def rdB (bs : Nat → Int) (L : Int) (p : TS) (ct td : Nat → Int) : TS × (Nat → Int) × (Nat → Int) := rdR bs (L + 1 - 0).toNat (nxP bs (bgP L p), (fun j => if j < 13 then 0 else ct j), td)
def rdQ (r : TS × (Nat → Int) × (Nat → Int)) : TS := if r.2.1 0 = 0 ∨ r.2.1 1 = 0 ∨ r.2.1 2 = 0 ∨ r.2.1 5 = 0 then flP 6 r.1 else r.1
theorem rdQ_N {r : TS × (Nat → Int) × (Nat → Int)} (h : NO r.1) : NO (rdQ r) := by
  unfold rdQ
  split
  · exact NO_of h flP_n
  · exact h
set_option maxHeartbeats 1000000 in
set_option maxRecDepth 20000 in
theorem s_X4_read {l : Launch} {n : Nat} {M : jdM} {t b f : Nat} {bs : Nat → Int} {p : TS} {ct td bk si ld : Nat → Int} (H1 : TF M n t b f bs p ct td bk si ld) (hby : ∀ i, -128 ≤ bs i ∧ bs i < 128) (hS : HS td) (hN0 : NO p) {a : Int} (ha : 0 ≤ a ∧ a ≤ 900) : Ct l yX4_read cX4_read 4 (some .int) rX4_read [.ref t, .ref f, jI a] n M (fun vv n' M' => (vv = some (jI ((rdQ (rdB bs a p ct td)).1 7)) ∧ n = n') ∧ ∃ bk' si' ld', TF M' n t b f bs (rdQ (rdB bs a p ct td)) (rdB bs a p ct td).2.1 (rdB bs a p ct td).2.2 bk' si' ld' ∧ fr (TlS b f) M M' ∧ HS (rdB bs a p ct td).2.2 ∧ NO (rdQ (rdB bs a p ct td)) ∧ ((rdQ (rdB bs a p ct td)).1 7 = 0 → bk' = c_bkp (rdB bs a p ct td).2.1 (rdB bs a p ct td).2.2 bk 41 ∧ si' = c_sip (rdB bs a p ct td).2.1 (rdB bs a p ct td).2.2 si 41 ∧ ld' = c_ldp (rdB bs a p ct td).2.1 (rdB bs a p ct td).2.2 ld ((rdB bs a p ct td).2.1 6).toNat)) := by
  refine Ct_of [some (.ref t), some (.ref f), some (jI a), none] (by decide) (Nat.le_of_ble_eq_true rfl) rfl (fun κ hl h hR hRt hmn hn0 => ?_)
  have h : Ok κ RX4 cX4_read 4 (some .int) := h
  obtain ⟨E1, F1, hbf, htf⟩ := id H1
  obtain ⟨ht, hOt, X1, hPO, hsep⟩ := id E1
  obtain ⟨hnb, hOb, hYb, hNb, hSb, hKb⟩ := id X1
  obtain ⟨hfn, hFf, -⟩ := id F1
  have f1 : fr (TlS b f) M M := fr_rf
  obtain ⟨RR, eRR⟩ : ∃ r, rdR bs (a + 1 - 0).toNat (nxP bs (bgP a p), (fun j => if j < 13 then 0 else ct j), td) = r := ⟨_, rfl⟩
  have eB : rdB bs a p ct td = RR := eRR
  rw [eB] at hRt
  have tail : ∀ (M1 : jdM) (r : TS × (Nat → Int) × (Nat → Int)) (u : Option Value), TF M1 n t b f bs r.1 r.2.1 r.2.2 bk si ld → fr (TlS b f) M M1 → HS r.2.2 → NO r.1 → RR = r → J κ 4 0 0 n 69 [some (.ref t), some (.ref f), some (jI a), u] [] M1 := by
    intro M1 r u H1 f1 hS1 hNI hRR
    obtain ⟨E1, F1, hbf, htf⟩ := id H1
    obtain ⟨ht, hOt, X1, hPO, hsep⟩ := id E1
    obtain ⟨hnb, hOb, hYb, hNb, hSb, hKb⟩ := id X1
    obtain ⟨hfn, hFf, -⟩ := id F1
    refine jr_aload_n (pc := 69) h dX4_read_69 rfl ?_
    refine iv_X4_53 (pc := 70) h hl hR dX4_read_70 ⟨(Nat.le_of_ble_eq_true rfl), (Nat.le_of_ble_eq_true rfl), (Nat.le_of_ble_eq_true rfl), (Nat.le_of_ble_eq_true rfl)⟩ (Nat.le_of_ble_eq_true rfl) (by assumption) (by omega) (s_X1_lacks F1) (fun v_70 n_70 M_70 hn_70 hp => ?_)
    obtain ⟨⟨rfl, rfl, rfl⟩, gr_70⟩ := hp
    refine jr_if_eq (pc := 73) h 85 dX4_read_73 (by decide) (by omega) (fun c_73 => ?_) (fun c_73 => ?_)
    · skip
      have e3 : rdQ r = r.1 := by
        unfold rdQ
        rw [if_neg (bz_0.mp c_73)]
      obtain ⟨p2, e2⟩ : ∃ q, q = rdQ r := ⟨_, rfl⟩
      have H1 : TF M1 n t b f bs p2 r.2.1 r.2.2 bk si ld := by rw [e2, e3]; exact H1
      obtain ⟨E1, F1, hbf, htf⟩ := id H1
      obtain ⟨ht, hOt, X1, hPO, hsep⟩ := id E1
      obtain ⟨hnb, hOb, hYb, hNb, hSb, hKb⟩ := id X1
      obtain ⟨hfn, hFf, -⟩ := id F1
      refine jr_aload_n (pc := 85) h dX4_read_85 rfl ?_
      refine gf_X4_12 (pc := 86) h dX4_read_86 (by assumption) (by omega) ?_
      refine iv_X4_35 (pc := 89) h hl hR dX4_read_89 ⟨(Nat.le_of_ble_eq_true rfl), (Nat.le_of_ble_eq_true rfl), (Nat.le_of_ble_eq_true rfl), (Nat.le_of_ble_eq_true rfl)⟩ (Nat.le_of_ble_eq_true rfl) (by assumption) (by omega) (s_X6_isFine X1 hPO.1.2.2.2.2.1) (fun v_89 n_89 M_89 hn_89 hp => ?_)
      obtain ⟨⟨rfl, rfl, rfl⟩, gr_89⟩ := hp
      refine jr_if_eq (pc := 92) h 99 dX4_read_92 (by decide) (by omega) (fun c_92 => ?_) (fun c_92 => ?_)
      · skip
        refine jr_aload_n (pc := 99) h dX4_read_99 rfl ?_
        refine gf_X4_12 (pc := 100) h dX4_read_100 (by assumption) (by omega) ?_
        refine iv_X4_62 (pc := 103) h hl hR dX4_read_103 ⟨(Nat.le_of_ble_eq_true rfl), (Nat.le_of_ble_eq_true rfl), (Nat.le_of_ble_eq_true rfl), (Nat.le_of_ble_eq_true rfl)⟩ (Nat.le_of_ble_eq_true rfl) (by assumption) (by omega) (s_X6_firstFault X1) (fun v_103 n_103 M_103 hn_103 hp => ?_)
        obtain ⟨rfl, rfl, rfl⟩ := hp
        refine jr_iret (pc := 106) h hRt dX4_read_106 rfl (Nat.le_of_ble_eq_true rfl) (Nat.le_of_ble_eq_true rfl) ?_
        subst hRR
        refine ⟨⟨by rw [← e2], rfl⟩, _, _, _, by rw [← e2]; exact H1, f1, hS1, rdQ_N hNI, fun q => ?_⟩
        rw [← e2] at q
        first
        | exact ⟨rfl, rfl, rfl⟩
        | exact absurd q (bz_0.mp c_92)
      · skip
        refine jr_aload_n (pc := 95) h dX4_read_95 rfl ?_
        refine iv_X4_59 (pc := 96) h hl hR dX4_read_96 ⟨(Nat.le_of_ble_eq_true rfl), (Nat.le_of_ble_eq_true rfl), (Nat.le_of_ble_eq_true rfl), (Nat.le_of_ble_eq_true rfl)⟩ (Nat.le_of_ble_eq_true rfl) (by assumption) (by omega) (s_X1_settle F1 hS1) (fun v_96 n_96 M_96 hn_96 hp => ?_)
        obtain ⟨rfl, rfl, F9, f9⟩ := hp
        have H1 := TF_fl H1 F9 f9
        have f1 := fr_tr f1 (fr_mo f9 (fun k hk => Or.inr hk))
        obtain ⟨E1, F1, hbf, htf⟩ := id H1
        obtain ⟨ht, hOt, X1, hPO, hsep⟩ := id E1
        obtain ⟨hnb, hOb, hYb, hNb, hSb, hKb⟩ := id X1
        obtain ⟨hfn, hFf, -⟩ := id F1
        refine jr_aload_n (pc := 99) h dX4_read_99 rfl ?_
        refine gf_X4_12 (pc := 100) h dX4_read_100 (by assumption) (by omega) ?_
        refine iv_X4_62 (pc := 103) h hl hR dX4_read_103 ⟨(Nat.le_of_ble_eq_true rfl), (Nat.le_of_ble_eq_true rfl), (Nat.le_of_ble_eq_true rfl), (Nat.le_of_ble_eq_true rfl)⟩ (Nat.le_of_ble_eq_true rfl) (by assumption) (by omega) (s_X6_firstFault X1) (fun v_103 n_103 M_103 hn_103 hp => ?_)
        obtain ⟨rfl, rfl, rfl⟩ := hp
        refine jr_iret (pc := 106) h hRt dX4_read_106 rfl (Nat.le_of_ble_eq_true rfl) (Nat.le_of_ble_eq_true rfl) ?_
        subst hRR
        refine ⟨⟨by rw [← e2], rfl⟩, _, _, _, by rw [← e2]; exact H1, f1, hS1, rdQ_N hNI, fun q => ?_⟩
        rw [← e2] at q
        first
        | exact ⟨rfl, rfl, rfl⟩
        | exact absurd q (bz_0.mp c_92)
    · skip
      refine jr_aload_n (pc := 76) h dX4_read_76 rfl ?_
      refine gf_X4_12 (pc := 77) h dX4_read_77 (by assumption) (by omega) ?_
      refine jr_bipush (pc := 80) h dX4_read_80 bp_6 ?_
      refine iv_X4_56 (pc := 82) h hl hR dX4_read_82 ⟨(Nat.le_of_ble_eq_true rfl), (Nat.le_of_ble_eq_true rfl), (Nat.le_of_ble_eq_true rfl), (Nat.le_of_ble_eq_true rfl)⟩ (Nat.le_of_ble_eq_true rfl) (by assumption) (by omega) (s_X6_fail X1 hPO.1.2.2.2.2.1) (fun v_82 n_82 M_82 hn_82 hp => ?_)
      obtain ⟨⟨rfl, rfl⟩, g9, T9, f9, q1, q2, q3, q4, q5, q7, q8, q12⟩ := hp
      have X9 := flP_of T9 q1 q2 q3 q4 q5 q7 q8 q12
      have H1 := TF_tk H1 X9 f9 (flP_O hPO (by omega))
      have f1 := fr_tr f1 (fr_mo f9 (fun k hk => Or.inl hk))
      obtain ⟨E1, F1, hbf, htf⟩ := id H1
      obtain ⟨ht, hOt, X1, hPO, hsep⟩ := id E1
      obtain ⟨hnb, hOb, hYb, hNb, hSb, hKb⟩ := id X1
      obtain ⟨hfn, hFf, -⟩ := id F1
      have e3 : rdQ r = flP 6 r.1 := by
        unfold rdQ
        rw [if_pos (bz_1.mp c_73)]
      obtain ⟨p2, e2⟩ : ∃ q, q = rdQ r := ⟨_, rfl⟩
      have H1 : TF M_82 n t b f bs p2 r.2.1 r.2.2 bk si ld := by rw [e2, e3]; exact H1
      obtain ⟨E1, F1, hbf, htf⟩ := id H1
      obtain ⟨ht, hOt, X1, hPO, hsep⟩ := id E1
      obtain ⟨hnb, hOb, hYb, hNb, hSb, hKb⟩ := id X1
      obtain ⟨hfn, hFf, -⟩ := id F1
      refine jr_aload_n (pc := 85) h dX4_read_85 rfl ?_
      refine gf_X4_12 (pc := 86) h dX4_read_86 (by assumption) (by omega) ?_
      refine iv_X4_35 (pc := 89) h hl hR dX4_read_89 ⟨(Nat.le_of_ble_eq_true rfl), (Nat.le_of_ble_eq_true rfl), (Nat.le_of_ble_eq_true rfl), (Nat.le_of_ble_eq_true rfl)⟩ (Nat.le_of_ble_eq_true rfl) (by assumption) (by omega) (s_X6_isFine X1 hPO.1.2.2.2.2.1) (fun v_89 n_89 M_89 hn_89 hp => ?_)
      obtain ⟨⟨rfl, rfl, rfl⟩, gr_89⟩ := hp
      refine jr_if_eq (pc := 92) h 99 dX4_read_92 (by decide) (by omega) (fun c_92 => ?_) (fun c_92 => ?_)
      · skip
        refine jr_aload_n (pc := 99) h dX4_read_99 rfl ?_
        refine gf_X4_12 (pc := 100) h dX4_read_100 (by assumption) (by omega) ?_
        refine iv_X4_62 (pc := 103) h hl hR dX4_read_103 ⟨(Nat.le_of_ble_eq_true rfl), (Nat.le_of_ble_eq_true rfl), (Nat.le_of_ble_eq_true rfl), (Nat.le_of_ble_eq_true rfl)⟩ (Nat.le_of_ble_eq_true rfl) (by assumption) (by omega) (s_X6_firstFault X1) (fun v_103 n_103 M_103 hn_103 hp => ?_)
        obtain ⟨rfl, rfl, rfl⟩ := hp
        refine jr_iret (pc := 106) h hRt dX4_read_106 rfl (Nat.le_of_ble_eq_true rfl) (Nat.le_of_ble_eq_true rfl) ?_
        subst hRR
        refine ⟨⟨by rw [← e2], rfl⟩, _, _, _, by rw [← e2]; exact H1, f1, hS1, rdQ_N hNI, fun q => ?_⟩
        rw [← e2] at q
        first
        | exact ⟨rfl, rfl, rfl⟩
        | exact absurd q (bz_0.mp c_92)
      · skip
        refine jr_aload_n (pc := 95) h dX4_read_95 rfl ?_
        refine iv_X4_59 (pc := 96) h hl hR dX4_read_96 ⟨(Nat.le_of_ble_eq_true rfl), (Nat.le_of_ble_eq_true rfl), (Nat.le_of_ble_eq_true rfl), (Nat.le_of_ble_eq_true rfl)⟩ (Nat.le_of_ble_eq_true rfl) (by assumption) (by omega) (s_X1_settle F1 hS1) (fun v_96 n_96 M_96 hn_96 hp => ?_)
        obtain ⟨rfl, rfl, F9, f9⟩ := hp
        have H1 := TF_fl H1 F9 f9
        have f1 := fr_tr f1 (fr_mo f9 (fun k hk => Or.inr hk))
        obtain ⟨E1, F1, hbf, htf⟩ := id H1
        obtain ⟨ht, hOt, X1, hPO, hsep⟩ := id E1
        obtain ⟨hnb, hOb, hYb, hNb, hSb, hKb⟩ := id X1
        obtain ⟨hfn, hFf, -⟩ := id F1
        refine jr_aload_n (pc := 99) h dX4_read_99 rfl ?_
        refine gf_X4_12 (pc := 100) h dX4_read_100 (by assumption) (by omega) ?_
        refine iv_X4_62 (pc := 103) h hl hR dX4_read_103 ⟨(Nat.le_of_ble_eq_true rfl), (Nat.le_of_ble_eq_true rfl), (Nat.le_of_ble_eq_true rfl), (Nat.le_of_ble_eq_true rfl)⟩ (Nat.le_of_ble_eq_true rfl) (by assumption) (by omega) (s_X6_firstFault X1) (fun v_103 n_103 M_103 hn_103 hp => ?_)
        obtain ⟨rfl, rfl, rfl⟩ := hp
        refine jr_iret (pc := 106) h hRt dX4_read_106 rfl (Nat.le_of_ble_eq_true rfl) (Nat.le_of_ble_eq_true rfl) ?_
        subst hRR
        refine ⟨⟨by rw [← e2], rfl⟩, _, _, _, by rw [← e2]; exact H1, f1, hS1, rdQ_N hNI, fun q => ?_⟩
        rw [← e2] at q
        first
        | exact ⟨rfl, rfl, rfl⟩
        | exact absurd q (bz_0.mp c_92)
  have loop : ∀ (dq : Nat) (i : Int) (M1 : jdM) (r1 : TS × (Nat → Int) × (Nat → Int)), (0 ≤ i ∧ i ≤ a + 1) → (TF M1 n t b f bs r1.1 r1.2.1 r1.2.2 bk si ld) → (fr (TlS b f) M M1) → (HS r1.2.2) → (NO r1.1) → (rdR bs (a + 1 - i).toNat r1 = RR) → (a + 2 - i).toNat < dq → J κ 4 0 0 n 14 [some (.ref t), some (.ref f), some (jI a), some (jI i)] [] M1 := by
    intro dq
    induction dq with
    | zero => intro i M1 r1 hi H1 f1 hS1 hNI hfin hd; omega
    | succ dq ih =>
      intro i M1 r1 hi H1 f1 hS1 hNI hfin hd
      obtain ⟨p1, ct1, td1⟩ := r1
      replace H1 : TF M1 n t b f bs p1 ct1 td1 bk si ld := H1
      replace hS1 : HS td1 := hS1
      replace hNI : NO p1 := hNI
      obtain ⟨E1, F1, hbf, htf⟩ := id H1
      obtain ⟨ht, hOt, X1, hPO, hsep⟩ := id E1
      obtain ⟨hnb, hOb, hYb, hNb, hSb, hKb⟩ := id X1
      obtain ⟨hfn, hFf, -⟩ := id F1
      refine jr_iload_n (pc := 14) h dX4_read_14 rfl ?_
      refine jr_iload_n (pc := 15) h dX4_read_15 rfl ?_
      refine jr_icmp_gt (pc := 16) h 69 dX4_read_16 (by decide) (by omega) (by omega) (fun c_16 => ?_) (fun c_16 => ?_)
      · skip
        first
        | (refine tail _ (p2, ct2, td2) _ H1 f1 hS1 hNI ?_
           rw [← hfin, show (a + 1 - i).toNat = (a + 1 - (i + 1)).toNat + 1 by omega, rdR, if_pos (bz_1.mp c_26)]
           rw [e9]
           rw [if_pos (bz_1.mp c_48)])
        | (refine tail _ (p1, ct1, td1) _ H1 f1 hS1 hNI ?_
           rw [← hfin]
           first
           | (rw [show (a + 1 - i).toNat = (a + 1 - (i + 1)).toNat + 1 by omega, rdR, if_neg (bz_0.mp c_26)])
           | (rw [show (a + 1 - i).toNat = 0 by omega, rdR]))
      · skip
        refine jr_aload_n (pc := 19) h dX4_read_19 rfl ?_
        refine gf_X4_12 (pc := 20) h dX4_read_20 (by assumption) (by omega) ?_
        refine iv_X4_35 (pc := 23) h hl hR dX4_read_23 ⟨(Nat.le_of_ble_eq_true rfl), (Nat.le_of_ble_eq_true rfl), (Nat.le_of_ble_eq_true rfl), (Nat.le_of_ble_eq_true rfl)⟩ (Nat.le_of_ble_eq_true rfl) (by assumption) (by omega) (s_X6_isFine X1 hPO.1.2.2.2.2.1) (fun v_23 n_23 M_23 hn_23 hp => ?_)
        obtain ⟨⟨rfl, rfl, rfl⟩, gr_23⟩ := hp
        refine jr_if_eq (pc := 26) h 69 dX4_read_26 (by decide) (by omega) (fun c_26 => ?_) (fun c_26 => ?_)
        · skip
          first
          | (refine tail _ (p2, ct2, td2) _ H1 f1 hS1 hNI ?_
             rw [← hfin, show (a + 1 - i).toNat = (a + 1 - (i + 1)).toNat + 1 by omega, rdR, if_pos (bz_1.mp c_26)]
             rw [e9]
             rw [if_pos (bz_1.mp c_48)])
          | (refine tail _ (p1, ct1, td1) _ H1 f1 hS1 hNI ?_
             rw [← hfin]
             first
             | (rw [show (a + 1 - i).toNat = (a + 1 - (i + 1)).toNat + 1 by omega, rdR, if_neg (bz_0.mp c_26)])
             | (rw [show (a + 1 - i).toNat = 0 by omega, rdR]))
        · skip
          refine jr_aload_n (pc := 29) h dX4_read_29 rfl ?_
          refine jr_aload_n (pc := 30) h dX4_read_30 rfl ?_
          refine jr_aload_n (pc := 31) h dX4_read_31 rfl ?_
          refine gf_X4_12 (pc := 32) h dX4_read_32 (by assumption) (by omega) ?_
          refine iv_X4_39 (pc := 35) h hl hR dX4_read_35 ⟨(Nat.le_of_ble_eq_true rfl), (Nat.le_of_ble_eq_true rfl), (Nat.le_of_ble_eq_true rfl), (Nat.le_of_ble_eq_true rfl)⟩ (Nat.le_of_ble_eq_true rfl) (by assumption) (by omega) (s_X6_reserved X1 hby hPO.1) (fun v_35 n_35 M_35 hn_35 hp => ?_)
          obtain ⟨⟨rfl, rfl, rfl⟩, gr_35⟩ := hp
          refine iv_X4_42 (pc := 38) h hl hR dX4_read_38 ⟨(Nat.le_of_ble_eq_true rfl), (Nat.le_of_ble_eq_true rfl), (Nat.le_of_ble_eq_true rfl), (Nat.le_of_ble_eq_true rfl)⟩ (Nat.le_of_ble_eq_true rfl) (by assumption) (by omega) (s_X4_tellLine H1 hby hNI (a := resI bs p1.1) (by omega)) (fun v_38 n_38 M_38 hn_38 hp => ?_)
          obtain ⟨⟨rfl, rfl⟩, H1, fx⟩ := hp
          have f1 := fr_tr f1 fx
          have hS1 := tlnP_HS (bs := bs) (s := resI bs p1.1) hS1 (F1.2.2.2.2.2.2.2.1) hPO hNI
          have hNI := tlnP_N (bs := bs) (ct := ct1) (td := td1) (s := resI bs p1.1) hNI
          obtain ⟨⟨p2, ct2, td2⟩, e9⟩ : ∃ r, tlnP bs ct1 td1 (resI bs p1.1) p1 = r := ⟨_, rfl⟩
          rw [e9] at H1 hS1 hNI
          replace H1 : TF _ n t b f bs p2 ct2 td2 bk si ld := H1
          replace hS1 : HS td2 := hS1
          replace hNI : NO p2 := hNI
          obtain ⟨E1, F1, hbf, htf⟩ := id H1
          obtain ⟨ht, hOt, X1, hPO, hsep⟩ := id E1
          obtain ⟨hnb, hOb, hYb, hNb, hSb, hKb⟩ := id X1
          obtain ⟨hfn, hFf, -⟩ := id F1
          refine jr_aload_n (pc := 41) h dX4_read_41 rfl ?_
          refine gf_X4_12 (pc := 42) h dX4_read_42 (by assumption) (by omega) ?_
          refine iv_X4_46 (pc := 45) h hl hR dX4_read_45 ⟨(Nat.le_of_ble_eq_true rfl), (Nat.le_of_ble_eq_true rfl), (Nat.le_of_ble_eq_true rfl), (Nat.le_of_ble_eq_true rfl)⟩ (Nat.le_of_ble_eq_true rfl) (by assumption) (by omega) (s_X6_isAtEnd X1 (by have := hPO.1.2.2.2.1; omega)) (fun v_45 n_45 M_45 hn_45 hp => ?_)
          obtain ⟨⟨rfl, rfl, rfl⟩, gr_45⟩ := hp
          refine jr_if_eq (pc := 48) h 54 dX4_read_48 (by decide) (by omega) (fun c_48 => ?_) (fun c_48 => ?_)
          · skip
            refine jr_aload_n (pc := 54) h dX4_read_54 rfl ?_
            refine gf_X4_12 (pc := 55) h dX4_read_55 (by assumption) (by omega) ?_
            refine jr_bipush (pc := 58) h dX4_read_58 bp_59 ?_
            refine iv_X4_49 (pc := 60) h hl hR dX4_read_60 ⟨(Nat.le_of_ble_eq_true rfl), (Nat.le_of_ble_eq_true rfl), (Nat.le_of_ble_eq_true rfl), (Nat.le_of_ble_eq_true rfl)⟩ (Nat.le_of_ble_eq_true rfl) (by assumption) (by omega) (s_X6_expectSign X1 hPO hby (a := 59) (by omega)) (fun v_60 n_60 M_60 hn_60 hp => ?_)
            obtain ⟨⟨rfl, rfl⟩, X9, f9⟩ := hp
            have H1 := TF_tk H1 X9 f9 (esP_O hPO)
            have f1 := fr_tr f1 (fr_mo f9 (fun k hk => Or.inl hk))
            obtain ⟨E1, F1, hbf, htf⟩ := id H1
            obtain ⟨ht, hOt, X1, hPO, hsep⟩ := id E1
            obtain ⟨hnb, hOb, hYb, hNb, hSb, hKb⟩ := id X1
            obtain ⟨hfn, hFf, -⟩ := id F1
            refine jr_iinc (pc := 63) h [_, _, _, _] dX4_read_63 (by decide) rfl rfl ?_
            refine jr_goto (pc := 66) h 14 dX4_read_66 (by decide) ?_
            refine ih (i + 1) _ (esP bs 59 p2, ct2, td2) (by omega) H1 f1 hS1 (NO_of hNI esP_n) ?_ (by omega)
            rw [show (a + 1 - i).toNat = (a + 1 - (i + 1)).toNat + 1 by omega, rdR, if_pos (bz_1.mp c_26)] at hfin
            replace hfin := hfin
            rw [e9] at hfin
            rw [if_neg (bz_0.mp c_48)] at hfin
            exact hfin
          · skip
            refine jr_goto (pc := 51) h 69 dX4_read_51 (by decide) ?_
            first
            | (refine tail _ (p2, ct2, td2) _ H1 f1 hS1 hNI ?_
               rw [← hfin, show (a + 1 - i).toNat = (a + 1 - (i + 1)).toNat + 1 by omega, rdR, if_pos (bz_1.mp c_26)]
               rw [e9]
               rw [if_pos (bz_1.mp c_48)])
            | (refine tail _ (p1, ct1, td1) _ H1 f1 hS1 hNI ?_
               rw [← hfin]
               first
               | (rw [show (a + 1 - i).toNat = (a + 1 - (i + 1)).toNat + 1 by omega, rdR, if_neg (bz_0.mp c_26)])
               | (rw [show (a + 1 - i).toNat = 0 by omega, rdR]))
  refine jr_aload_n (pc := 0) h dX4_read_0 rfl ?_
  refine iv_X4_26 (pc := 1) h hl hR dX4_read_1 ⟨(Nat.le_of_ble_eq_true rfl), (Nat.le_of_ble_eq_true rfl), (Nat.le_of_ble_eq_true rfl), (Nat.le_of_ble_eq_true rfl)⟩ (Nat.le_of_ble_eq_true rfl) (by assumption) (by omega) (s_X1_forget F1) (fun v_1 n_1 M_1 hn_1 hp => ?_)
  obtain ⟨rfl, rfl, hM⟩ := hp
  have H1 := TF_fl H1 (Fl_ct F1 hM (fun j => by have := F1.2.2.2.2.2.2.2.1 j; split <;> omega)) (fr_up hM ⟨by omega, by omega⟩)
  have f1 : fr (TlS b f) M _ := fr_up hM (Or.inr ⟨by omega, by omega⟩)
  obtain ⟨E1, F1, hbf, htf⟩ := id H1
  obtain ⟨ht, hOt, X1, hPO, hsep⟩ := id E1
  obtain ⟨hnb, hOb, hYb, hNb, hSb, hKb⟩ := id X1
  obtain ⟨hfn, hFf, -⟩ := id F1
  refine jr_aload_n (pc := 4) h dX4_read_4 rfl ?_
  refine gf_X4_12 (pc := 5) h dX4_read_5 (by assumption) (by omega) ?_
  refine jr_iload_n (pc := 8) h dX4_read_8 rfl ?_
  refine iv_X4_31 (pc := 9) h hl hR dX4_read_9 ⟨(Nat.le_of_ble_eq_true rfl), (Nat.le_of_ble_eq_true rfl), (Nat.le_of_ble_eq_true rfl), (Nat.le_of_ble_eq_true rfl)⟩ (Nat.le_of_ble_eq_true rfl) (by assumption) (by omega) (s_X6_begin X1 hPO hby (a := a) (by omega)) (fun v_9 n_9 M_9 hn_9 hp => ?_)
  obtain ⟨⟨rfl, rfl⟩, X9, f9⟩ := hp
  have H1 := TF_tk H1 X9 f9 (bgP_O hPO (by omega))
  have f1 := fr_tr f1 (fr_mo f9 (fun k hk => Or.inl hk))
  have hN1 : NO (nxP bs (bgP a p)) := hN0
  obtain ⟨E1, F1, hbf, htf⟩ := id H1
  obtain ⟨ht, hOt, X1, hPO, hsep⟩ := id E1
  obtain ⟨hnb, hOb, hYb, hNb, hSb, hKb⟩ := id X1
  obtain ⟨hfn, hFf, -⟩ := id F1
  refine jr_iconst (pc := 12) h dX4_read_12 ?_
  refine jr_istore_n (pc := 13) h [_, _, _, _] dX4_read_13 (by decide) rfl ?_
  exact loop _ _ _ (nxP bs (bgP a p), (fun j => if j < 13 then 0 else ct j), td) (by omega) H1 f1 hS hN1 eRR (Nat.lt_succ_self _)
