/-! 98.c: the reference: a line, and all lines -/
/-- reading goes forward -/
def SG (p : TS) : Prop := p.1 4 = 3 → p.1 2 + 1 ≤ p.1 3
def MO (p p' : TS) : Prop := p.1 2 ≤ p.1 3 ∧ SG p → p.1 2 ≤ p'.1 2 ∧ p'.1 2 ≤ p'.1 3 ∧ SG p'
theorem MO_r {p : TS} : MO p p := fun h => ⟨Int.le_refl _, h⟩
theorem MO_t {p p' p'' : TS} (h : MO p p') (h' : MO p' p'') : MO p p'' := fun q => by
  have a := h q
  have b := h' a.2
  exact ⟨by omega, b.2⟩
theorem mo_nx {bs : Nat → Int} {p : TS} : MO p (nxP bs p) := fun q => by
  have e2 : (nxP bs p).1 2 = nxF bs p.1 := rfl
  have e3 : (nxP bs p).1 3 = tokT (p.1 1) (nxF bs p.1) (nxA bs p.1) (nxD bs p.1) := rfl
  have e4 : (nxP bs p).1 4 = tokS bs (p.1 1) (nxF bs p.1) (nxA bs p.1) (nxD bs p.1) := rfl
  have h1 := runI_b (lo := 32) (hi := 32) (bs := bs) (e := p.1 1) (i := p.1 3)
  have h2 := runI_b (lo := 97) (hi := 122) (bs := bs) (e := p.1 1) (i := nxF bs p.1)
  have h4 := runI_b (lo := 48) (hi := 57) (bs := bs) (e := p.1 1) (i := nxF bs p.1)
  have q1 := q.1
  unfold SG
  rw [e2, e3, e4]
  unfold tokT tokS nxA nxD
  unfold nxF at h2 h4 ⊢
  refine ⟨by omega, ?_, ?_⟩
  · split
    · omega
    · split
      · omega
      · split <;> omega
  · intro hs
    split at hs
    · split at hs <;> omega
    · rename_i c1
      split at hs
      · split at hs <;> omega
      · rename_i c2
        split at hs
        · omega
        · rename_i c3
          rw [if_neg c1, if_neg c2, if_neg c3]
          exact Int.le_refl _
theorem nxP_ge {bs : Nat → Int} {p : TS} : p.1 3 ≤ (nxP bs p).1 2 := (runI_b (lo := 32) (hi := 32) (bs := bs) (e := p.1 1) (i := p.1 3)).1
theorem mo_nm {s x : Int} {p : TS} : MO p (nmP s x p) := fun q => ⟨Int.le_refl _, q⟩
theorem mo_go {bs : Nat → Int} {p : TS} : MO p (goP bs p) := by
  unfold goP
  split
  · exact mo_nx
  · exact MO_r
theorem mo_eh {bs : Nat → Int} {lo hi : Int} {p : TS} (h : (ehP bs lo hi p).2.1 7 = 0) : p.1 7 = 0 ∧ MO p (ehP bs lo hi p).2 := by
  refine ⟨(ok_eh h).1, ?_⟩
  by_cases q : p.1 7 = 0 ∧ p.1 4 = 2
  · by_cases q2 : lo ≤ p.1 5 ∧ p.1 5 ≤ hi
    · rw [ehP_2 q q2]; exact mo_nx
    · rw [ehP_4 q q2] at h; exact absurd h (flP_x (by omega))
  · rw [ehP_1 q] at h; exact absurd h (flP_x (by omega))
theorem mo_ew {bs : Nat → Int} {k : Nat} {p : TS} (h : (ewP bs k p).1 7 = 0) : p.1 7 = 0 ∧ MO p (ewP bs k p) := by
  by_cases q : p.1 7 = 0 ∧ wordIs bs p.1 k
  · rw [ewP_ye q]; exact ⟨q.1, mo_nx⟩
  · rw [ewP_no q] at h; exact absurd h (flP_x (by omega))
theorem mo_lb {bs : Nat → Int} {k : Nat} {lo hi : Int} {p : TS} (h : (lbP bs k lo hi p).2.1 7 = 0) : p.1 7 = 0 ∧ MO p (lbP bs k lo hi p).2 := by
  unfold lbP at h ⊢
  have h1 := mo_eh h
  have h2 := mo_ew h1.1
  exact ⟨h2.1, MO_t h2.2 h1.2⟩
theorem mo_sn {bs : Nat → Int} {s : Int} {p : TS} (h : (snP bs s p).2.1 7 = 0) : p.1 7 = 0 ∧ MO p (snP bs s p).2 := by
  have h1 := ok_sn h
  rw [h1.2.2.1]
  exact ⟨h1.1, MO_r⟩
theorem mo_en {bs : Nat → Int} {s : Int} {p : TS} (h : (enP bs s p).2.1 7 = 0) : p.1 7 = 0 ∧ MO p (enP bs s p).2 := by
  have h1 := ok_en h
  rw [enP_g] at h ⊢
  by_cases q : (snP bs s p).2.1 7 = 0
  · exact ⟨h1.1, MO_t (mo_sn q).2 mo_go⟩
  · replace h : (goP bs (snP bs s p).2).1 7 = 0 := h
    rw [goP_1 q] at h
    exact absurd h q
theorem mo_nn {bs : Nat → Int} {s x : Int} {p : TS} (h : (nnP bs s x p).1 7 = 0) : p.1 7 = 0 ∧ MO p (nnP bs s x p) := by
  have h1 := ok_nn h
  rw [h1.2.2]
  exact ⟨h1.1, MO_t mo_nm mo_nx⟩
theorem mo_eb {bs : Nat → Int} {k : Nat} {p : TS} (h : (ewB bs k p).1 7 = 0) : p.1 7 = 0 ∧ MO p (ewB bs k p) := by
  refine ⟨(ok_eb h).1, ?_⟩
  unfold ewB
  split
  · exact mo_nx
  · exact MO_r
theorem mo_tr {bs ct td : Nat → Int} {p : TS} (h : (trP bs ct td p).2.1 7 = 0) : p.1 7 = 0 ∧ MO p (trP bs ct td p).2 := by
  have key : ∀ s : Int, (trA bs ct td p s).2.1 7 = 0 → MO p (trA bs ct td p s).2 := fun s hs => by
    by_cases q : ∃ i : Int, 0 ≤ i ∧ i < ct 5 ∧ c_get td 5 i 0 = s
    · rw [trA_d q] at hs; exact absurd hs (flP_x (by omega))
    · rw [trA_n q]; exact mo_nx
  by_cases q7 : p.1 7 = 0
  · refine ⟨q7, ?_⟩
    by_cases q3 : p.1 7 = 0 ∧ wordIs bs p.1 3
    · rw [trP_3 q3] at h ⊢; exact key 1 h
    · by_cases q4 : p.1 7 = 0 ∧ wordIs bs p.1 4
      · rw [trP_4 q4] at h ⊢; exact key 0 h
      · rw [trP_no q3 q4] at h; exact absurd h (flP_x (by omega))
  · rw [xP_f_tr q7] at h; exact absurd h q7
theorem mo_tl {bs ct td : Nat → Int} {p : TS} (h : (tlP bs ct td p).1.1 7 = 0) : p.1 7 = 0 ∧ MO p (tlP bs ct td p).1 := by
  rw [tlP_1] at h ⊢
  have h1 := mo_eh h
  have hq : (tlQ bs ct td p).1 7 = 0 := Classical.byContradiction (fun q => by have := h1.1; rw [goP_1 q] at this; exact q this)
  have hk := tlQ_k hq
  have hs := mo_sn hk.1
  refine ⟨hs.1, MO_t (MO_t hs.2 ?_) h1.2⟩
  rw [← hk.2.2]
  exact mo_go
theorem mo_bl {bs ct : Nat → Int} : ∀ (k : Nat) {p : TS} {td : Nat → Int}, (blR bs ct k p td).1.1 7 = 0 → p.1 7 = 0 ∧ MO p (blR bs ct k p td).1
  | 0, p, td, h => ⟨h, MO_r⟩
  | k + 1, p, td, h => by
    by_cases q : sgIs bs 44 p
    · rw [blR_s q] at h ⊢
      have h1 := mo_bl k h
      have h2 := mo_tl h1.1
      exact ⟨q.1, MO_t mo_nx (MO_t h2.2 h1.2)⟩
    · rw [blR_no q] at h ⊢
      exact ⟨h, MO_r⟩
theorem mo_ln0 {bs ct td : Nat → Int} {p : TS} (h : (ln_0 bs ct (p) td).1.1 7 = 0) : p.1 7 = 0 ∧ MO p (ln_0 bs ct (p) td).1 := by
  unfold ln_0 at h ⊢
  have h0 := mo_lb h
  have h1 := mo_lb h0.1
  have h2 := mo_lb h1.1
  exact ⟨h2.1, MO_t (MO_t (h2.2) h1.2) h0.2⟩
theorem mo_ln1 {bs ct td : Nat → Int} {p : TS} (h : (ln_1 bs ct (p) td).1.1 7 = 0) : p.1 7 = 0 ∧ MO p (ln_1 bs ct (p) td).1 := by
  unfold ln_1 at h ⊢
  have h0 := mo_lb h
  have h1 := mo_lb h0.1
  exact ⟨h1.1, MO_t (h1.2) h0.2⟩
theorem mo_ln2 {bs ct td : Nat → Int} {p : TS} (h : (ln_2 bs ct (nnP bs 2 (ct 2) p) td).1.1 7 = 0) : p.1 7 = 0 ∧ MO p (ln_2 bs ct (nnP bs 2 (ct 2) p) td).1 := by
  unfold ln_2 at h ⊢
  have h0 := mo_lb h
  have h1 := mo_lb h0.1
  have h2 := mo_nn h1.1
  exact ⟨h2.1, MO_t (MO_t (h2.2) h1.2) h0.2⟩
theorem mo_ln3 {bs ct td : Nat → Int} {p : TS} (h : (ln_3 bs ct (p) td).1.1 7 = 0) : p.1 7 = 0 ∧ MO p (ln_3 bs ct (p) td).1 := by
  unfold ln_3 at h ⊢
  have h0 := mo_lb h
  have h1 := mo_en h0.1
  exact ⟨h1.1, MO_t (h1.2) h0.2⟩
theorem mo_ln4 {bs ct td : Nat → Int} {p : TS} (h : (ln_4 bs ct (p) td).1.1 7 = 0) : p.1 7 = 0 ∧ MO p (ln_4 bs ct (p) td).1 := by
  unfold ln_4 at h ⊢
  have h0 := mo_lb h
  have h1 := mo_eh h0.1
  have h2 := mo_en h1.1
  exact ⟨h2.1, MO_t (MO_t (h2.2) h1.2) h0.2⟩
theorem mo_ln5 {bs ct td : Nat → Int} {p : TS} (h : (ln_5 bs ct (nnP bs 5 (ct 5) p) td).1.1 7 = 0) : p.1 7 = 0 ∧ MO p (ln_5 bs ct (nnP bs 5 (ct 5) p) td).1 := by
  unfold ln_5 at h ⊢
  have h0 := mo_lb h
  have h1 := mo_lb h0.1
  have h2 := mo_tr h1.1
  have h3 := mo_nn h2.1
  exact ⟨h3.1, MO_t (MO_t (MO_t (h3.2) h2.2) h1.2) h0.2⟩
theorem mo_ln6 {bs ct td : Nat → Int} {p : TS} (h : (ln_6 bs ct (p) td).1.1 7 = 0) : p.1 7 = 0 ∧ MO p (ln_6 bs ct (p) td).1 := by
  unfold ln_6 at h ⊢
  have h0 := mo_lb h
  have h1 := mo_en h0.1
  have h2 := mo_en h1.1
  exact ⟨h2.1, MO_t (MO_t (h2.2) h1.2) h0.2⟩
theorem mo_ln7 {bs ct td : Nat → Int} {p : TS} (h : (ln_7 bs ct (p) td).1.1 7 = 0) : p.1 7 = 0 ∧ MO p (ln_7 bs ct (p) td).1 := by
  unfold ln_7 at h ⊢
  have h0 := mo_bl 4 h
  have h1 := mo_tl h0.1
  have h2 := mo_ew h1.1
  have h3 := mo_lb h2.1
  have h4 := mo_lb h3.1
  have h5 := mo_eh h4.1
  exact ⟨h5.1, MO_t (MO_t (MO_t (MO_t (MO_t (h5.2) h4.2) h3.2) h2.2) h1.2) h0.2⟩
theorem mo_ln8 {bs ct td : Nat → Int} {p : TS} (h : (ln_8 bs ct (nnP bs 8 (ct 8) p) td).1.1 7 = 0) : p.1 7 = 0 ∧ MO p (ln_8 bs ct (nnP bs 8 (ct 8) p) td).1 := by
  replace h : (ewB bs 9 (enP bs 2 (ewP bs 8 (lbP bs 7 1 40 (nnP bs 8 (ct 8) p)).2)).2).1 7 = 0 := h
  show p.1 7 = 0 ∧ MO p (ewB bs 9 (enP bs 2 (ewP bs 8 (lbP bs 7 1 40 (nnP bs 8 (ct 8) p)).2)).2)
  have h0 := mo_eb h
  have h1 := mo_en h0.1
  have h2 := mo_ew h1.1
  have h3 := mo_lb h2.1
  have h4 := mo_nn h3.1
  exact ⟨h4.1, MO_t (MO_t (MO_t (MO_t (h4.2) h3.2) h2.2) h1.2) h0.2⟩
theorem mo_ln9 {bs ct td : Nat → Int} {p : TS} (h : (ln_9 bs ct (p) td).1.1 7 = 0) : p.1 7 = 0 ∧ MO p (ln_9 bs ct (p) td).1 := by
  unfold ln_9 at h ⊢
  have h0 := mo_lb h
  have h1 := mo_eh h0.1
  exact ⟨h1.1, MO_t (h1.2) h0.2⟩
theorem mo_ln10 {bs ct td : Nat → Int} {p : TS} (h : (ln_10 bs ct (p) td).1.1 7 = 0) : p.1 7 = 0 ∧ MO p (ln_10 bs ct (p) td).1 := by
  unfold ln_10 at h ⊢
  have h0 := mo_eh h
  exact ⟨h0.1, h0.2⟩
theorem mo_ln11 {bs ct td : Nat → Int} {p : TS} (h : (ln_11 bs ct (p) td).1.1 7 = 0) : p.1 7 = 0 ∧ MO p (ln_11 bs ct (p) td).1 := by
  unfold ln_11 at h ⊢
  have h0 := mo_lb h
  have h1 := mo_lb h0.1
  have h2 := mo_lb h1.1
  exact ⟨h2.1, MO_t (MO_t (h2.2) h1.2) h0.2⟩
theorem mo_ln12 {bs ct td : Nat → Int} {p : TS} (h : (ln_12 bs ct (nnP bs 12 (ct 12) p) td).1.1 7 = 0) : p.1 7 = 0 ∧ MO p (ln_12 bs ct (nnP bs 12 (ct 12) p) td).1 := by
  unfold ln_12 at h ⊢
  have h0 := mo_lb h
  have h1 := mo_nn h0.1
  exact ⟨h1.1, MO_t (h1.2) h0.2⟩
theorem tln_mo {bs ct td : Nat → Int} {s : Int} {p : TS} (h : (tlnP bs ct td s p).1.1 7 = 0) : MO p (tlnP bs ct td s p).1 := by
  by_cases hs : s < 0 ∨ 13 ≤ s
  · unfold tlnP at h
    rw [if_pos hs] at h
    exact absurd h (flP_x (by omega))
  · by_cases hl : (jtab 0).2.2 s.toNat ≤ ct s.toNat
    · rw [tln_0 hs hl] at h
      exact absurd h (flP_x (by split <;> omega))
    · rw [tln_1 hs hl] at h ⊢
      unfold tlnC at h ⊢
      have hs9 : s = 0 ∨ s = 1 ∨ s = 2 ∨ s = 3 ∨ s = 4 ∨ s = 5 ∨ s = 6 ∨ s = 7 ∨ s = 8 ∨ s = 9 ∨ s = 10 ∨ s = 11 ∨ s = 12 := by omega
      rcases hs9 with rfl | rfl | rfl | rfl | rfl | rfl | rfl | rfl | rfl | rfl | rfl | rfl | rfl
      · exact MO_t mo_nx (mo_ln0 (ct := ct) (td := opT ct td 0) (p := nxP bs p) h).2
      · exact MO_t mo_nx (mo_ln1 (ct := ct) (td := opT ct td 1) (p := nxP bs p) h).2
      · exact MO_t mo_nx (mo_ln2 (ct := ct) (td := opT ct td 2) (p := nxP bs p) h).2
      · exact MO_t mo_nx (mo_ln3 (ct := ct) (td := opT ct td 3) (p := nxP bs p) h).2
      · exact MO_t mo_nx (mo_ln4 (ct := ct) (td := opT ct td 4) (p := nxP bs p) h).2
      · exact MO_t mo_nx (mo_ln5 (ct := ct) (td := opT ct td 5) (p := nxP bs p) h).2
      · exact MO_t mo_nx (mo_ln6 (ct := ct) (td := opT ct td 6) (p := nxP bs p) h).2
      · exact MO_t mo_nx (mo_ln7 (ct := ct) (td := opT ct td 7) (p := nxP bs p) h).2
      · exact MO_t mo_nx (mo_ln8 (ct := ct) (td := opT ct td 8) (p := nxP bs p) h).2
      · exact MO_t mo_nx (mo_ln9 (ct := ct) (td := opT ct td 9) (p := nxP bs p) h).2
      · exact MO_t mo_nx (mo_ln10 (ct := ct) (td := opT ct td 10) (p := nxP bs p) h).2
      · exact MO_t mo_nx (mo_ln11 (ct := ct) (td := opT ct td 11) (p := nxP bs p) h).2
      · exact MO_t mo_nx (mo_ln12 (ct := ct) (td := opT ct td 12) (p := nxP bs p) h).2
theorem blR_O {bs ct : Nat → Int} : ∀ (k : Nat) {p : TS} {td : Nat → Int}, PO p → PO (blR bs ct k p td).1
  | 0, p, td, h => h
  | k + 1, p, td, h => by
    by_cases q : sgIs bs 44 p
    · rw [blR_s q]; exact blR_O k (tlP_O (nxP_O h))
    · rw [blR_no q]; exact h
theorem po_ln0 {bs ct td : Nat → Int} {p : TS} (h : PO p) (hc : ∀ s : Nat, s < 13 → 0 ≤ ct s ∧ ct s ≤ 8) : PO (ln_0 bs ct (p) td).1 := by
  unfold ln_0
  exact ehP_O (ewP_O (ehP_O (ewP_O (ehP_O (ewP_O (h))))))
theorem po_ln1 {bs ct td : Nat → Int} {p : TS} (h : PO p) (hc : ∀ s : Nat, s < 13 → 0 ≤ ct s ∧ ct s ≤ 8) : PO (ln_1 bs ct (p) td).1 := by
  unfold ln_1
  exact ehP_O (ewP_O (ehP_O (ewP_O (h))))
theorem po_ln2 {bs ct td : Nat → Int} {p : TS} (h : PO p) (hc : ∀ s : Nat, s < 13 → 0 ≤ ct s ∧ ct s ≤ 8) : PO (ln_2 bs ct (nnP bs 2 (ct 2) p) td).1 := by
  unfold ln_2
  exact ehP_O (ewP_O (ehP_O (ewP_O (nnP_O (h) (by omega) (by have := hc 2 (by omega); omega)))))
theorem po_ln3 {bs ct td : Nat → Int} {p : TS} (h : PO p) (hc : ∀ s : Nat, s < 13 → 0 ≤ ct s ∧ ct s ≤ 8) : PO (ln_3 bs ct (p) td).1 := by
  unfold ln_3
  exact ehP_O (ewP_O (enP_O (h)))
theorem po_ln4 {bs ct td : Nat → Int} {p : TS} (h : PO p) (hc : ∀ s : Nat, s < 13 → 0 ≤ ct s ∧ ct s ≤ 8) : PO (ln_4 bs ct (p) td).1 := by
  unfold ln_4
  exact ehP_O (ewP_O (ehP_O (enP_O (h))))
theorem po_ln5 {bs ct td : Nat → Int} {p : TS} (h : PO p) (hc : ∀ s : Nat, s < 13 → 0 ≤ ct s ∧ ct s ≤ 8) : PO (ln_5 bs ct (nnP bs 5 (ct 5) p) td).1 := by
  unfold ln_5
  exact ehP_O (ewP_O (ehP_O (ewP_O (trP_O (nnP_O (h) (by omega) (by have := hc 5 (by omega); omega))))))
theorem po_ln6 {bs ct td : Nat → Int} {p : TS} (h : PO p) (hc : ∀ s : Nat, s < 13 → 0 ≤ ct s ∧ ct s ≤ 8) : PO (ln_6 bs ct (p) td).1 := by
  unfold ln_6
  exact ehP_O (ewP_O (enP_O (enP_O (h))))
theorem po_ln7 {bs ct td : Nat → Int} {p : TS} (h : PO p) (hc : ∀ s : Nat, s < 13 → 0 ≤ ct s ∧ ct s ≤ 8) : PO (ln_7 bs ct (p) td).1 := by
  unfold ln_7
  exact blR_O 4 (tlP_O (ewP_O (ehP_O (ewP_O (ehP_O (ewP_O (ehP_O (h))))))))
theorem po_ln8 {bs ct td : Nat → Int} {p : TS} (h : PO p) (hc : ∀ s : Nat, s < 13 → 0 ≤ ct s ∧ ct s ≤ 8) : PO (ln_8 bs ct (nnP bs 8 (ct 8) p) td).1 := by
  show PO (ewB bs 9 (enP bs 2 (ewP bs 8 (lbP bs 7 1 40 (nnP bs 8 (ct 8) p)).2)).2)
  exact ewB_O (enP_O (ewP_O (ehP_O (ewP_O (nnP_O (h) (by omega) (by have := hc 8 (by omega); omega))))))
theorem po_ln9 {bs ct td : Nat → Int} {p : TS} (h : PO p) (hc : ∀ s : Nat, s < 13 → 0 ≤ ct s ∧ ct s ≤ 8) : PO (ln_9 bs ct (p) td).1 := by
  unfold ln_9
  exact ehP_O (ewP_O (ehP_O (h)))
theorem po_ln10 {bs ct td : Nat → Int} {p : TS} (h : PO p) (hc : ∀ s : Nat, s < 13 → 0 ≤ ct s ∧ ct s ≤ 8) : PO (ln_10 bs ct (p) td).1 := by
  unfold ln_10
  exact ehP_O (h)
theorem po_ln11 {bs ct td : Nat → Int} {p : TS} (h : PO p) (hc : ∀ s : Nat, s < 13 → 0 ≤ ct s ∧ ct s ≤ 8) : PO (ln_11 bs ct (p) td).1 := by
  unfold ln_11
  exact ehP_O (ewP_O (ehP_O (ewP_O (ehP_O (ewP_O (h))))))
theorem po_ln12 {bs ct td : Nat → Int} {p : TS} (h : PO p) (hc : ∀ s : Nat, s < 13 → 0 ≤ ct s ∧ ct s ≤ 8) : PO (ln_12 bs ct (nnP bs 12 (ct 12) p) td).1 := by
  unfold ln_12
  exact ehP_O (ewP_O (nnP_O (h) (by omega) (by have := hc 12 (by omega); omega)))
theorem tln_O {bs ct td : Nat → Int} {s : Int} {p : TS} (h : PO p) (hc : ∀ s : Nat, s < 13 → 0 ≤ ct s ∧ ct s ≤ 8) : PO (tlnP bs ct td s p).1 := by
  by_cases hs : s < 0 ∨ 13 ≤ s
  · unfold tlnP
    rw [if_pos hs]
    exact flP_O h (by omega)
  · by_cases hl : (jtab 0).2.2 s.toNat ≤ ct s.toNat
    · rw [tln_0 hs hl]
      exact flP_O h (by split <;> omega)
    · rw [tln_1 hs hl]
      unfold tlnC
      have hs9 : s = 0 ∨ s = 1 ∨ s = 2 ∨ s = 3 ∨ s = 4 ∨ s = 5 ∨ s = 6 ∨ s = 7 ∨ s = 8 ∨ s = 9 ∨ s = 10 ∨ s = 11 ∨ s = 12 := by omega
      rcases hs9 with rfl | rfl | rfl | rfl | rfl | rfl | rfl | rfl | rfl | rfl | rfl | rfl | rfl
      · exact po_ln0 (ct := ct) (td := opT ct td 0) (nxP_O h) hc
      · exact po_ln1 (ct := ct) (td := opT ct td 1) (nxP_O h) hc
      · exact po_ln2 (ct := ct) (td := opT ct td 2) (nxP_O h) hc
      · exact po_ln3 (ct := ct) (td := opT ct td 3) (nxP_O h) hc
      · exact po_ln4 (ct := ct) (td := opT ct td 4) (nxP_O h) hc
      · exact po_ln5 (ct := ct) (td := opT ct td 5) (nxP_O h) hc
      · exact po_ln6 (ct := ct) (td := opT ct td 6) (nxP_O h) hc
      · exact po_ln7 (ct := ct) (td := opT ct td 7) (nxP_O h) hc
      · exact po_ln8 (ct := ct) (td := opT ct td 8) (nxP_O h) hc
      · exact po_ln9 (ct := ct) (td := opT ct td 9) (nxP_O h) hc
      · exact po_ln10 (ct := ct) (td := opT ct td 10) (nxP_O h) hc
      · exact po_ln11 (ct := ct) (td := opT ct td 11) (nxP_O h) hc
      · exact po_ln12 (ct := ct) (td := opT ct td 12) (nxP_O h) hc
set_option maxHeartbeats 1000000 in
set_option maxRecDepth 20000 in
theorem s_X9_readLine {l : Launch} {n : Nat} {M : jdM} {m f2 : Nat} {g : Nat → Int} {w : Int} {fl : Value} {B : Nat → Nat → Int} (hX : MX M n m g w fl (.ref f2) B) {bs : Nat → Int} (hbt : ∀ j, j < 900 → B 1 j = bs j) (hbb : ∀ j, -128 ≤ bs j ∧ bs j ≤ 127) {p : TS} (hTR : TR bs p g w) (hPO : PO p) {gF : Nat → Int} {A : Nat → Nat → Int} (hMF : MF M n f2 gF A) (hsep : f2 + 30 < m ∨ m + 12 < f2) (hRB : RB gF A) {ct td : Nat → Int} (hFR : FR p ct td gF A) (q7 : p.1 7 = 0) : Ct l yX9_readLine cX9_readLine 1 none rX9_readLine [.ref m] n M (fun vv n' M' => (vv = none ∧ n = n') ∧ ∃ g' w' gF' A', MX M' n m g' w' fl (.ref f2) B ∧ gkp g g' ∧ TR bs (tlnP bs ct td (resI bs p.1) p).1 g' w' ∧ MF M' n f2 gF' A' ∧ RB gF' A' ∧ ((tlnP bs ct td (resI bs p.1) p).1.1 7 = 0 → FR (tlnP bs ct td (resI bs p.1) p).1 (tlnP bs ct td (resI bs p.1) p).2.1 (tlnP bs ct td (resI bs p.1) p).2.2 gF' A') ∧ fr (RFS m f2) M M') := by
  refine Ct_of [some (.ref m)] (by decide) (Nat.le_of_ble_eq_true rfl) rfl (fun κ hl h hR hRt hmn hn0 => ?_)
  have h : Ok κ RX9 cX9_readLine 1 none := h
  obtain ⟨hnm, hOm, hBm⟩ := id hX
  have hOm : M m = jdO 9 (fX9 m _ _ fl (.ref f2)) := hOm
  obtain ⟨hnf, hOf, hAf⟩ := id hMF
  refine jr_aload_n (pc := 0) h dX9_readLine_0 rfl ?_
  refine jr_ldcS (pc := 1) h 23 (by decide) ⟨rfl, rfl⟩ dX9_readLine_1 ?_
  refine iv_X9_119 (pc := 3) h hl hR dX9_readLine_3 ⟨(Nat.le_of_ble_eq_true rfl), (Nat.le_of_ble_eq_true rfl), (Nat.le_of_ble_eq_true rfl), (Nat.le_of_ble_eq_true rfl)⟩ (Nat.le_of_ble_eq_true rfl) (by assumption) (by omega) (s_X9_isWord_t hX hTR hPO (k := 23) (by omega) (by omega)) (fun v_3 n_3 M_3 hn_3 hp => ?_)
  obtain ⟨⟨rfl, rfl, rfl⟩, gr_3⟩ := hp
  refine jr_if_eq (pc := 6) h 16 dX9_readLine_6 (by decide) (by omega) (fun c_6 => ?_) (fun c_6 => ?_)
  · first | have d_6 := bz_0.mp c_6 | have d_6 := bz_1.mp c_6 | skip
    refine jr_aload_n (pc := 16) h dX9_readLine_16 rfl ?_
    refine jr_ldcS (pc := 17) h 27 (by decide) ⟨rfl, rfl⟩ dX9_readLine_17 ?_
    refine iv_X9_119 (pc := 19) h hl hR dX9_readLine_19 ⟨(Nat.le_of_ble_eq_true rfl), (Nat.le_of_ble_eq_true rfl), (Nat.le_of_ble_eq_true rfl), (Nat.le_of_ble_eq_true rfl)⟩ (Nat.le_of_ble_eq_true rfl) (by assumption) (by omega) (s_X9_isWord_t hX hTR hPO (k := 27) (by omega) (by omega)) (fun v_19 n_19 M_19 hn_19 hp => ?_)
    obtain ⟨⟨rfl, rfl, rfl⟩, gr_19⟩ := hp
    refine jr_if_eq (pc := 22) h 32 dX9_readLine_22 (by decide) (by omega) (fun c_22 => ?_) (fun c_22 => ?_)
    · first | have d_22 := bz_0.mp c_22 | have d_22 := bz_1.mp c_22 | skip
      refine jr_aload_n (pc := 32) h dX9_readLine_32 rfl ?_
      refine jr_ldcS (pc := 33) h 30 (by decide) ⟨rfl, rfl⟩ dX9_readLine_33 ?_
      refine iv_X9_119 (pc := 35) h hl hR dX9_readLine_35 ⟨(Nat.le_of_ble_eq_true rfl), (Nat.le_of_ble_eq_true rfl), (Nat.le_of_ble_eq_true rfl), (Nat.le_of_ble_eq_true rfl)⟩ (Nat.le_of_ble_eq_true rfl) (by assumption) (by omega) (s_X9_isWord_t hX hTR hPO (k := 30) (by omega) (by omega)) (fun v_35 n_35 M_35 hn_35 hp => ?_)
      obtain ⟨⟨rfl, rfl, rfl⟩, gr_35⟩ := hp
      refine jr_if_eq (pc := 38) h 48 dX9_readLine_38 (by decide) (by omega) (fun c_38 => ?_) (fun c_38 => ?_)
      · first | have d_38 := bz_0.mp c_38 | have d_38 := bz_1.mp c_38 | skip
        refine jr_aload_n (pc := 48) h dX9_readLine_48 rfl ?_
        refine jr_ldcS (pc := 49) h 31 (by decide) ⟨rfl, rfl⟩ dX9_readLine_49 ?_
        refine iv_X9_119 (pc := 51) h hl hR dX9_readLine_51 ⟨(Nat.le_of_ble_eq_true rfl), (Nat.le_of_ble_eq_true rfl), (Nat.le_of_ble_eq_true rfl), (Nat.le_of_ble_eq_true rfl)⟩ (Nat.le_of_ble_eq_true rfl) (by assumption) (by omega) (s_X9_isWord_t hX hTR hPO (k := 31) (by omega) (by omega)) (fun v_51 n_51 M_51 hn_51 hp => ?_)
        obtain ⟨⟨rfl, rfl, rfl⟩, gr_51⟩ := hp
        refine jr_if_eq (pc := 54) h 64 dX9_readLine_54 (by decide) (by omega) (fun c_54 => ?_) (fun c_54 => ?_)
        · first | have d_54 := bz_0.mp c_54 | have d_54 := bz_1.mp c_54 | skip
          refine jr_aload_n (pc := 64) h dX9_readLine_64 rfl ?_
          refine jr_ldcS (pc := 65) h 32 (by decide) ⟨rfl, rfl⟩ dX9_readLine_65 ?_
          refine iv_X9_119 (pc := 67) h hl hR dX9_readLine_67 ⟨(Nat.le_of_ble_eq_true rfl), (Nat.le_of_ble_eq_true rfl), (Nat.le_of_ble_eq_true rfl), (Nat.le_of_ble_eq_true rfl)⟩ (Nat.le_of_ble_eq_true rfl) (by assumption) (by omega) (s_X9_isWord_t hX hTR hPO (k := 32) (by omega) (by omega)) (fun v_67 n_67 M_67 hn_67 hp => ?_)
          obtain ⟨⟨rfl, rfl, rfl⟩, gr_67⟩ := hp
          refine jr_if_eq (pc := 70) h 80 dX9_readLine_70 (by decide) (by omega) (fun c_70 => ?_) (fun c_70 => ?_)
          · first | have d_70 := bz_0.mp c_70 | have d_70 := bz_1.mp c_70 | skip
            refine jr_aload_n (pc := 80) h dX9_readLine_80 rfl ?_
            refine jr_ldcS (pc := 81) h 33 (by decide) ⟨rfl, rfl⟩ dX9_readLine_81 ?_
            refine iv_X9_119 (pc := 83) h hl hR dX9_readLine_83 ⟨(Nat.le_of_ble_eq_true rfl), (Nat.le_of_ble_eq_true rfl), (Nat.le_of_ble_eq_true rfl), (Nat.le_of_ble_eq_true rfl)⟩ (Nat.le_of_ble_eq_true rfl) (by assumption) (by omega) (s_X9_isWord_t hX hTR hPO (k := 33) (by omega) (by omega)) (fun v_83 n_83 M_83 hn_83 hp => ?_)
            obtain ⟨⟨rfl, rfl, rfl⟩, gr_83⟩ := hp
            refine jr_if_eq (pc := 86) h 96 dX9_readLine_86 (by decide) (by omega) (fun c_86 => ?_) (fun c_86 => ?_)
            · first | have d_86 := bz_0.mp c_86 | have d_86 := bz_1.mp c_86 | skip
              refine jr_aload_n (pc := 96) h dX9_readLine_96 rfl ?_
              refine jr_ldcS (pc := 97) h 34 (by decide) ⟨rfl, rfl⟩ dX9_readLine_97 ?_
              refine iv_X9_119 (pc := 99) h hl hR dX9_readLine_99 ⟨(Nat.le_of_ble_eq_true rfl), (Nat.le_of_ble_eq_true rfl), (Nat.le_of_ble_eq_true rfl), (Nat.le_of_ble_eq_true rfl)⟩ (Nat.le_of_ble_eq_true rfl) (by assumption) (by omega) (s_X9_isWord_t hX hTR hPO (k := 34) (by omega) (by omega)) (fun v_99 n_99 M_99 hn_99 hp => ?_)
              obtain ⟨⟨rfl, rfl, rfl⟩, gr_99⟩ := hp
              refine jr_if_eq (pc := 102) h 112 dX9_readLine_102 (by decide) (by omega) (fun c_102 => ?_) (fun c_102 => ?_)
              · first | have d_102 := bz_0.mp c_102 | have d_102 := bz_1.mp c_102 | skip
                refine jr_aload_n (pc := 112) h dX9_readLine_112 rfl ?_
                refine jr_ldcS (pc := 113) h 35 (by decide) ⟨rfl, rfl⟩ dX9_readLine_113 ?_
                refine iv_X9_119 (pc := 115) h hl hR dX9_readLine_115 ⟨(Nat.le_of_ble_eq_true rfl), (Nat.le_of_ble_eq_true rfl), (Nat.le_of_ble_eq_true rfl), (Nat.le_of_ble_eq_true rfl)⟩ (Nat.le_of_ble_eq_true rfl) (by assumption) (by omega) (s_X9_isWord_t hX hTR hPO (k := 35) (by omega) (by omega)) (fun v_115 n_115 M_115 hn_115 hp => ?_)
                obtain ⟨⟨rfl, rfl, rfl⟩, gr_115⟩ := hp
                refine jr_if_eq (pc := 118) h 128 dX9_readLine_118 (by decide) (by omega) (fun c_118 => ?_) (fun c_118 => ?_)
                · first | have d_118 := bz_0.mp c_118 | have d_118 := bz_1.mp c_118 | skip
                  refine jr_aload_n (pc := 128) h dX9_readLine_128 rfl ?_
                  refine jr_ldcS (pc := 129) h 36 (by decide) ⟨rfl, rfl⟩ dX9_readLine_129 ?_
                  refine iv_X9_119 (pc := 131) h hl hR dX9_readLine_131 ⟨(Nat.le_of_ble_eq_true rfl), (Nat.le_of_ble_eq_true rfl), (Nat.le_of_ble_eq_true rfl), (Nat.le_of_ble_eq_true rfl)⟩ (Nat.le_of_ble_eq_true rfl) (by assumption) (by omega) (s_X9_isWord_t hX hTR hPO (k := 36) (by omega) (by omega)) (fun v_131 n_131 M_131 hn_131 hp => ?_)
                  obtain ⟨⟨rfl, rfl, rfl⟩, gr_131⟩ := hp
                  refine jr_if_eq (pc := 134) h 144 dX9_readLine_134 (by decide) (by omega) (fun c_134 => ?_) (fun c_134 => ?_)
                  · first | have d_134 := bz_0.mp c_134 | have d_134 := bz_1.mp c_134 | skip
                    refine jr_aload_n (pc := 144) h dX9_readLine_144 rfl ?_
                    refine jr_ldcS (pc := 145) h 37 (by decide) ⟨rfl, rfl⟩ dX9_readLine_145 ?_
                    refine iv_X9_119 (pc := 147) h hl hR dX9_readLine_147 ⟨(Nat.le_of_ble_eq_true rfl), (Nat.le_of_ble_eq_true rfl), (Nat.le_of_ble_eq_true rfl), (Nat.le_of_ble_eq_true rfl)⟩ (Nat.le_of_ble_eq_true rfl) (by assumption) (by omega) (s_X9_isWord_t hX hTR hPO (k := 37) (by omega) (by omega)) (fun v_147 n_147 M_147 hn_147 hp => ?_)
                    obtain ⟨⟨rfl, rfl, rfl⟩, gr_147⟩ := hp
                    refine jr_if_eq (pc := 150) h 160 dX9_readLine_150 (by decide) (by omega) (fun c_150 => ?_) (fun c_150 => ?_)
                    · first | have d_150 := bz_0.mp c_150 | have d_150 := bz_1.mp c_150 | skip
                      refine jr_aload_n (pc := 160) h dX9_readLine_160 rfl ?_
                      refine jr_ldcS (pc := 161) h 38 (by decide) ⟨rfl, rfl⟩ dX9_readLine_161 ?_
                      refine iv_X9_119 (pc := 163) h hl hR dX9_readLine_163 ⟨(Nat.le_of_ble_eq_true rfl), (Nat.le_of_ble_eq_true rfl), (Nat.le_of_ble_eq_true rfl), (Nat.le_of_ble_eq_true rfl)⟩ (Nat.le_of_ble_eq_true rfl) (by assumption) (by omega) (s_X9_isWord_t hX hTR hPO (k := 38) (by omega) (by omega)) (fun v_163 n_163 M_163 hn_163 hp => ?_)
                      obtain ⟨⟨rfl, rfl, rfl⟩, gr_163⟩ := hp
                      refine jr_if_eq (pc := 166) h 176 dX9_readLine_166 (by decide) (by omega) (fun c_166 => ?_) (fun c_166 => ?_)
                      · first | have d_166 := bz_0.mp c_166 | have d_166 := bz_1.mp c_166 | skip
                        refine jr_aload_n (pc := 176) h dX9_readLine_176 rfl ?_
                        refine jr_ldcS (pc := 177) h 39 (by decide) ⟨rfl, rfl⟩ dX9_readLine_177 ?_
                        refine iv_X9_119 (pc := 179) h hl hR dX9_readLine_179 ⟨(Nat.le_of_ble_eq_true rfl), (Nat.le_of_ble_eq_true rfl), (Nat.le_of_ble_eq_true rfl), (Nat.le_of_ble_eq_true rfl)⟩ (Nat.le_of_ble_eq_true rfl) (by assumption) (by omega) (s_X9_isWord_t hX hTR hPO (k := 39) (by omega) (by omega)) (fun v_179 n_179 M_179 hn_179 hp => ?_)
                        obtain ⟨⟨rfl, rfl, rfl⟩, gr_179⟩ := hp
                        refine jr_if_eq (pc := 182) h 192 dX9_readLine_182 (by decide) (by omega) (fun c_182 => ?_) (fun c_182 => ?_)
                        · first | have d_182 := bz_0.mp c_182 | have d_182 := bz_1.mp c_182 | skip
                          refine jr_aload_n (pc := 192) h dX9_readLine_192 rfl ?_
                          refine jr_ldcS (pc := 193) h 40 (by decide) ⟨rfl, rfl⟩ dX9_readLine_193 ?_
                          refine iv_X9_119 (pc := 195) h hl hR dX9_readLine_195 ⟨(Nat.le_of_ble_eq_true rfl), (Nat.le_of_ble_eq_true rfl), (Nat.le_of_ble_eq_true rfl), (Nat.le_of_ble_eq_true rfl)⟩ (Nat.le_of_ble_eq_true rfl) (by assumption) (by omega) (s_X9_isWord_t hX hTR hPO (k := 40) (by omega) (by omega)) (fun v_195 n_195 M_195 hn_195 hp => ?_)
                          obtain ⟨⟨rfl, rfl, rfl⟩, gr_195⟩ := hp
                          refine jr_if_eq (pc := 198) h 208 dX9_readLine_198 (by decide) (by omega) (fun c_198 => ?_) (fun c_198 => ?_)
                          · first | have d_198 := bz_0.mp c_198 | have d_198 := bz_1.mp c_198 | skip
                            refine jr_aload_n (pc := 208) h dX9_readLine_208 rfl ?_
                            refine jr_iconst (pc := 209) h dX9_readLine_209 ?_
                            refine iv_X9_126 (pc := 210) h hl hR dX9_readLine_210 ⟨(Nat.le_of_ble_eq_true rfl), (Nat.le_of_ble_eq_true rfl), (Nat.le_of_ble_eq_true rfl), (Nat.le_of_ble_eq_true rfl)⟩ (Nat.le_of_ble_eq_true rfl) (by assumption) (by omega) (s_X9_wrong hX (p := p) (k := 1) hTR hPO (by omega)) (fun v_210 n_210 M_210 hn_210 hp => ?_)
                            obtain ⟨⟨rfl, rfl⟩, g1, w1, hX, hg1, hTR1, f9⟩ := hp
                            refine jr_vret (pc := 213) h hRt dX9_readLine_213 (Nat.le_of_ble_eq_true rfl) (Nat.le_of_ble_eq_true rfl) ?_
                            first
                            | (rw [er]; exact ⟨⟨rfl, rfl⟩, hpr⟩)
                            | (have er : (tlnP bs ct td (resI bs p.1) p) = (flP 1 p, ct, td) := by
                                 have hs : resI bs p.1 < 0 ∨ 13 ≤ resI bs p.1 := by
                                   by_cases q13 : wordIs bs p.1 (rk 13)
                                   · have := TR_i hTR hPO q7 (r := 13) (by omega) q13
                                     omega
                                   · have := TR_in hTR hPO q7 (rk_all (P := fun k => ¬ wordIs bs p.1 k) (fun q => d_6 ⟨q7, q⟩) (fun q => d_22 ⟨q7, q⟩) (fun q => d_38 ⟨q7, q⟩) (fun q => d_54 ⟨q7, q⟩) (fun q => d_70 ⟨q7, q⟩) (fun q => d_86 ⟨q7, q⟩) (fun q => d_102 ⟨q7, q⟩) (fun q => d_118 ⟨q7, q⟩) (fun q => d_134 ⟨q7, q⟩) (fun q => d_150 ⟨q7, q⟩) (fun q => d_166 ⟨q7, q⟩) (fun q => d_182 ⟨q7, q⟩) (fun q => d_198 ⟨q7, q⟩) q13)
                                     omega
                                 unfold tlnP
                                 rw [if_pos hs]
                               rw [er]
                               exact ⟨⟨rfl, rfl⟩, g1, w1, gF, A, hX, hg1, hTR1, MF_fr hMF f9 (Nat.le_refl _) (fun k h1 h2 q => by have := q.1; have := q.2; omega), hRB, fun q => absurd q (flP_x (by omega)), fr_mo f9 (fun k q => Or.inl q)⟩)
                          · first | have d_198 := bz_0.mp c_198 | have d_198 := bz_1.mp c_198 | skip
                            refine jr_aload_n (pc := 201) h dX9_readLine_201 rfl ?_
                            refine iv_X9_253 (pc := 202) h hl hR dX9_readLine_202 ⟨(Nat.le_of_ble_eq_true rfl), (Nat.le_of_ble_eq_true rfl), (Nat.le_of_ble_eq_true rfl), (Nat.le_of_ble_eq_true rfl)⟩ (Nat.le_of_ble_eq_true rfl) (by assumption) (by omega) (s_X9_readDrink hX hbt hbb hTR hPO hMF hsep hRB hFR q7 d_198.2.1) (fun v_202 n_202 M_202 hn_202 hp => ?_)
                            have er : resI bs p.1 = 12 := TR_i hTR hPO q7 (r := 12) (by omega) d_198.2
                            obtain ⟨⟨rfl, rfl⟩, hpr⟩ := hp
                            refine jr_goto (pc := 205) h 213 dX9_readLine_205 (by decide) ?_
                            refine jr_vret (pc := 213) h hRt dX9_readLine_213 (Nat.le_of_ble_eq_true rfl) (Nat.le_of_ble_eq_true rfl) ?_
                            first
                            | (rw [er]; exact ⟨⟨rfl, rfl⟩, hpr⟩)
                            | (have er : (tlnP bs ct td (resI bs p.1) p) = (flP 1 p, ct, td) := by
                                 have hs : resI bs p.1 < 0 ∨ 13 ≤ resI bs p.1 := by
                                   by_cases q13 : wordIs bs p.1 (rk 13)
                                   · have := TR_i hTR hPO q7 (r := 13) (by omega) q13
                                     omega
                                   · have := TR_in hTR hPO q7 (rk_all (P := fun k => ¬ wordIs bs p.1 k) (fun q => d_6 ⟨q7, q⟩) (fun q => d_22 ⟨q7, q⟩) (fun q => d_38 ⟨q7, q⟩) (fun q => d_54 ⟨q7, q⟩) (fun q => d_70 ⟨q7, q⟩) (fun q => d_86 ⟨q7, q⟩) (fun q => d_102 ⟨q7, q⟩) (fun q => d_118 ⟨q7, q⟩) (fun q => d_134 ⟨q7, q⟩) (fun q => d_150 ⟨q7, q⟩) (fun q => d_166 ⟨q7, q⟩) (fun q => d_182 ⟨q7, q⟩) (fun q => d_198 ⟨q7, q⟩) q13)
                                     omega
                                 unfold tlnP
                                 rw [if_pos hs]
                               rw [er]
                               exact ⟨⟨rfl, rfl⟩, g1, w1, gF, A, hX, hg1, hTR1, MF_fr hMF f9 (Nat.le_refl _) (fun k h1 h2 q => by have := q.1; have := q.2; omega), hRB, fun q => absurd q (flP_x (by omega)), fr_mo f9 (fun k q => Or.inl q)⟩)
                        · first | have d_182 := bz_0.mp c_182 | have d_182 := bz_1.mp c_182 | skip
                          refine jr_aload_n (pc := 185) h dX9_readLine_185 rfl ?_
                          refine iv_X9_250 (pc := 186) h hl hR dX9_readLine_186 ⟨(Nat.le_of_ble_eq_true rfl), (Nat.le_of_ble_eq_true rfl), (Nat.le_of_ble_eq_true rfl), (Nat.le_of_ble_eq_true rfl)⟩ (Nat.le_of_ble_eq_true rfl) (by assumption) (by omega) (s_X9_readPast hX hbt hbb hTR hPO hMF hsep hRB hFR q7 d_182.2.1) (fun v_186 n_186 M_186 hn_186 hp => ?_)
                          have er : resI bs p.1 = 11 := TR_i hTR hPO q7 (r := 11) (by omega) d_182.2
                          obtain ⟨⟨rfl, rfl⟩, hpr⟩ := hp
                          refine jr_goto (pc := 189) h 213 dX9_readLine_189 (by decide) ?_
                          refine jr_vret (pc := 213) h hRt dX9_readLine_213 (Nat.le_of_ble_eq_true rfl) (Nat.le_of_ble_eq_true rfl) ?_
                          first
                          | (rw [er]; exact ⟨⟨rfl, rfl⟩, hpr⟩)
                          | (have er : (tlnP bs ct td (resI bs p.1) p) = (flP 1 p, ct, td) := by
                               have hs : resI bs p.1 < 0 ∨ 13 ≤ resI bs p.1 := by
                                 by_cases q13 : wordIs bs p.1 (rk 13)
                                 · have := TR_i hTR hPO q7 (r := 13) (by omega) q13
                                   omega
                                 · have := TR_in hTR hPO q7 (rk_all (P := fun k => ¬ wordIs bs p.1 k) (fun q => d_6 ⟨q7, q⟩) (fun q => d_22 ⟨q7, q⟩) (fun q => d_38 ⟨q7, q⟩) (fun q => d_54 ⟨q7, q⟩) (fun q => d_70 ⟨q7, q⟩) (fun q => d_86 ⟨q7, q⟩) (fun q => d_102 ⟨q7, q⟩) (fun q => d_118 ⟨q7, q⟩) (fun q => d_134 ⟨q7, q⟩) (fun q => d_150 ⟨q7, q⟩) (fun q => d_166 ⟨q7, q⟩) (fun q => d_182 ⟨q7, q⟩) (fun q => d_198 ⟨q7, q⟩) q13)
                                   omega
                               unfold tlnP
                               rw [if_pos hs]
                             rw [er]
                             exact ⟨⟨rfl, rfl⟩, g1, w1, gF, A, hX, hg1, hTR1, MF_fr hMF f9 (Nat.le_refl _) (fun k h1 h2 q => by have := q.1; have := q.2; omega), hRB, fun q => absurd q (flP_x (by omega)), fr_mo f9 (fun k q => Or.inl q)⟩)
                      · first | have d_166 := bz_0.mp c_166 | have d_166 := bz_1.mp c_166 | skip
                        refine jr_aload_n (pc := 169) h dX9_readLine_169 rfl ?_
                        refine iv_X9_247 (pc := 170) h hl hR dX9_readLine_170 ⟨(Nat.le_of_ble_eq_true rfl), (Nat.le_of_ble_eq_true rfl), (Nat.le_of_ble_eq_true rfl), (Nat.le_of_ble_eq_true rfl)⟩ (Nat.le_of_ble_eq_true rfl) (by assumption) (by omega) (s_X9_readGap hX hbt hbb hTR hPO hMF hsep hRB hFR q7 d_166.2.1) (fun v_170 n_170 M_170 hn_170 hp => ?_)
                        have er : resI bs p.1 = 10 := TR_i hTR hPO q7 (r := 10) (by omega) d_166.2
                        obtain ⟨⟨rfl, rfl⟩, hpr⟩ := hp
                        refine jr_goto (pc := 173) h 213 dX9_readLine_173 (by decide) ?_
                        refine jr_vret (pc := 213) h hRt dX9_readLine_213 (Nat.le_of_ble_eq_true rfl) (Nat.le_of_ble_eq_true rfl) ?_
                        first
                        | (rw [er]; exact ⟨⟨rfl, rfl⟩, hpr⟩)
                        | (have er : (tlnP bs ct td (resI bs p.1) p) = (flP 1 p, ct, td) := by
                             have hs : resI bs p.1 < 0 ∨ 13 ≤ resI bs p.1 := by
                               by_cases q13 : wordIs bs p.1 (rk 13)
                               · have := TR_i hTR hPO q7 (r := 13) (by omega) q13
                                 omega
                               · have := TR_in hTR hPO q7 (rk_all (P := fun k => ¬ wordIs bs p.1 k) (fun q => d_6 ⟨q7, q⟩) (fun q => d_22 ⟨q7, q⟩) (fun q => d_38 ⟨q7, q⟩) (fun q => d_54 ⟨q7, q⟩) (fun q => d_70 ⟨q7, q⟩) (fun q => d_86 ⟨q7, q⟩) (fun q => d_102 ⟨q7, q⟩) (fun q => d_118 ⟨q7, q⟩) (fun q => d_134 ⟨q7, q⟩) (fun q => d_150 ⟨q7, q⟩) (fun q => d_166 ⟨q7, q⟩) (fun q => d_182 ⟨q7, q⟩) (fun q => d_198 ⟨q7, q⟩) q13)
                                 omega
                             unfold tlnP
                             rw [if_pos hs]
                           rw [er]
                           exact ⟨⟨rfl, rfl⟩, g1, w1, gF, A, hX, hg1, hTR1, MF_fr hMF f9 (Nat.le_refl _) (fun k h1 h2 q => by have := q.1; have := q.2; omega), hRB, fun q => absurd q (flP_x (by omega)), fr_mo f9 (fun k q => Or.inl q)⟩)
                    · first | have d_150 := bz_0.mp c_150 | have d_150 := bz_1.mp c_150 | skip
                      refine jr_aload_n (pc := 153) h dX9_readLine_153 rfl ?_
                      refine iv_X9_244 (pc := 154) h hl hR dX9_readLine_154 ⟨(Nat.le_of_ble_eq_true rfl), (Nat.le_of_ble_eq_true rfl), (Nat.le_of_ble_eq_true rfl), (Nat.le_of_ble_eq_true rfl)⟩ (Nat.le_of_ble_eq_true rfl) (by assumption) (by omega) (s_X9_readBelts hX hbt hbb hTR hPO hMF hsep hRB hFR q7 d_150.2.1) (fun v_154 n_154 M_154 hn_154 hp => ?_)
                      have er : resI bs p.1 = 9 := TR_i hTR hPO q7 (r := 9) (by omega) d_150.2
                      obtain ⟨⟨rfl, rfl⟩, hpr⟩ := hp
                      refine jr_goto (pc := 157) h 213 dX9_readLine_157 (by decide) ?_
                      refine jr_vret (pc := 213) h hRt dX9_readLine_213 (Nat.le_of_ble_eq_true rfl) (Nat.le_of_ble_eq_true rfl) ?_
                      first
                      | (rw [er]; exact ⟨⟨rfl, rfl⟩, hpr⟩)
                      | (have er : (tlnP bs ct td (resI bs p.1) p) = (flP 1 p, ct, td) := by
                           have hs : resI bs p.1 < 0 ∨ 13 ≤ resI bs p.1 := by
                             by_cases q13 : wordIs bs p.1 (rk 13)
                             · have := TR_i hTR hPO q7 (r := 13) (by omega) q13
                               omega
                             · have := TR_in hTR hPO q7 (rk_all (P := fun k => ¬ wordIs bs p.1 k) (fun q => d_6 ⟨q7, q⟩) (fun q => d_22 ⟨q7, q⟩) (fun q => d_38 ⟨q7, q⟩) (fun q => d_54 ⟨q7, q⟩) (fun q => d_70 ⟨q7, q⟩) (fun q => d_86 ⟨q7, q⟩) (fun q => d_102 ⟨q7, q⟩) (fun q => d_118 ⟨q7, q⟩) (fun q => d_134 ⟨q7, q⟩) (fun q => d_150 ⟨q7, q⟩) (fun q => d_166 ⟨q7, q⟩) (fun q => d_182 ⟨q7, q⟩) (fun q => d_198 ⟨q7, q⟩) q13)
                               omega
                           unfold tlnP
                           rw [if_pos hs]
                         rw [er]
                         exact ⟨⟨rfl, rfl⟩, g1, w1, gF, A, hX, hg1, hTR1, MF_fr hMF f9 (Nat.le_refl _) (fun k h1 h2 q => by have := q.1; have := q.2; omega), hRB, fun q => absurd q (flP_x (by omega)), fr_mo f9 (fun k q => Or.inl q)⟩)
                  · first | have d_134 := bz_0.mp c_134 | have d_134 := bz_1.mp c_134 | skip
                    refine jr_aload_n (pc := 137) h dX9_readLine_137 rfl ?_
                    refine iv_X9_241 (pc := 138) h hl hR dX9_readLine_138 ⟨(Nat.le_of_ble_eq_true rfl), (Nat.le_of_ble_eq_true rfl), (Nat.le_of_ble_eq_true rfl), (Nat.le_of_ble_eq_true rfl)⟩ (Nat.le_of_ble_eq_true rfl) (by assumption) (by omega) (s_X9_readNamed hX hbt hbb hTR hPO hMF hsep hRB hFR q7 d_134.2.1) (fun v_138 n_138 M_138 hn_138 hp => ?_)
                    have er : resI bs p.1 = 8 := TR_i hTR hPO q7 (r := 8) (by omega) d_134.2
                    obtain ⟨⟨rfl, rfl⟩, hpr⟩ := hp
                    refine jr_goto (pc := 141) h 213 dX9_readLine_141 (by decide) ?_
                    refine jr_vret (pc := 213) h hRt dX9_readLine_213 (Nat.le_of_ble_eq_true rfl) (Nat.le_of_ble_eq_true rfl) ?_
                    first
                    | (rw [er]; exact ⟨⟨rfl, rfl⟩, hpr⟩)
                    | (have er : (tlnP bs ct td (resI bs p.1) p) = (flP 1 p, ct, td) := by
                         have hs : resI bs p.1 < 0 ∨ 13 ≤ resI bs p.1 := by
                           by_cases q13 : wordIs bs p.1 (rk 13)
                           · have := TR_i hTR hPO q7 (r := 13) (by omega) q13
                             omega
                           · have := TR_in hTR hPO q7 (rk_all (P := fun k => ¬ wordIs bs p.1 k) (fun q => d_6 ⟨q7, q⟩) (fun q => d_22 ⟨q7, q⟩) (fun q => d_38 ⟨q7, q⟩) (fun q => d_54 ⟨q7, q⟩) (fun q => d_70 ⟨q7, q⟩) (fun q => d_86 ⟨q7, q⟩) (fun q => d_102 ⟨q7, q⟩) (fun q => d_118 ⟨q7, q⟩) (fun q => d_134 ⟨q7, q⟩) (fun q => d_150 ⟨q7, q⟩) (fun q => d_166 ⟨q7, q⟩) (fun q => d_182 ⟨q7, q⟩) (fun q => d_198 ⟨q7, q⟩) q13)
                             omega
                         unfold tlnP
                         rw [if_pos hs]
                       rw [er]
                       exact ⟨⟨rfl, rfl⟩, g1, w1, gF, A, hX, hg1, hTR1, MF_fr hMF f9 (Nat.le_refl _) (fun k h1 h2 q => by have := q.1; have := q.2; omega), hRB, fun q => absurd q (flP_x (by omega)), fr_mo f9 (fun k q => Or.inl q)⟩)
                · first | have d_118 := bz_0.mp c_118 | have d_118 := bz_1.mp c_118 | skip
                  refine jr_aload_n (pc := 121) h dX9_readLine_121 rfl ?_
                  refine iv_X9_238 (pc := 122) h hl hR dX9_readLine_122 ⟨(Nat.le_of_ble_eq_true rfl), (Nat.le_of_ble_eq_true rfl), (Nat.le_of_ble_eq_true rfl), (Nat.le_of_ble_eq_true rfl)⟩ (Nat.le_of_ble_eq_true rfl) (by assumption) (by omega) (s_X9_readBlock hX hbt hbb hTR hPO hMF hsep hRB hFR q7 d_118.2.1) (fun v_122 n_122 M_122 hn_122 hp => ?_)
                  have er : resI bs p.1 = 7 := TR_i hTR hPO q7 (r := 7) (by omega) d_118.2
                  obtain ⟨⟨rfl, rfl⟩, hpr⟩ := hp
                  refine jr_goto (pc := 125) h 213 dX9_readLine_125 (by decide) ?_
                  refine jr_vret (pc := 213) h hRt dX9_readLine_213 (Nat.le_of_ble_eq_true rfl) (Nat.le_of_ble_eq_true rfl) ?_
                  first
                  | (rw [er]; exact ⟨⟨rfl, rfl⟩, hpr⟩)
                  | (have er : (tlnP bs ct td (resI bs p.1) p) = (flP 1 p, ct, td) := by
                       have hs : resI bs p.1 < 0 ∨ 13 ≤ resI bs p.1 := by
                         by_cases q13 : wordIs bs p.1 (rk 13)
                         · have := TR_i hTR hPO q7 (r := 13) (by omega) q13
                           omega
                         · have := TR_in hTR hPO q7 (rk_all (P := fun k => ¬ wordIs bs p.1 k) (fun q => d_6 ⟨q7, q⟩) (fun q => d_22 ⟨q7, q⟩) (fun q => d_38 ⟨q7, q⟩) (fun q => d_54 ⟨q7, q⟩) (fun q => d_70 ⟨q7, q⟩) (fun q => d_86 ⟨q7, q⟩) (fun q => d_102 ⟨q7, q⟩) (fun q => d_118 ⟨q7, q⟩) (fun q => d_134 ⟨q7, q⟩) (fun q => d_150 ⟨q7, q⟩) (fun q => d_166 ⟨q7, q⟩) (fun q => d_182 ⟨q7, q⟩) (fun q => d_198 ⟨q7, q⟩) q13)
                           omega
                       unfold tlnP
                       rw [if_pos hs]
                     rw [er]
                     exact ⟨⟨rfl, rfl⟩, g1, w1, gF, A, hX, hg1, hTR1, MF_fr hMF f9 (Nat.le_refl _) (fun k h1 h2 q => by have := q.1; have := q.2; omega), hRB, fun q => absurd q (flP_x (by omega)), fr_mo f9 (fun k q => Or.inl q)⟩)
              · first | have d_102 := bz_0.mp c_102 | have d_102 := bz_1.mp c_102 | skip
                refine jr_aload_n (pc := 105) h dX9_readLine_105 rfl ?_
                refine iv_X9_235 (pc := 106) h hl hR dX9_readLine_106 ⟨(Nat.le_of_ble_eq_true rfl), (Nat.le_of_ble_eq_true rfl), (Nat.le_of_ble_eq_true rfl), (Nat.le_of_ble_eq_true rfl)⟩ (Nat.le_of_ble_eq_true rfl) (by assumption) (by omega) (s_X9_readLoad hX hbt hbb hTR hPO hMF hsep hRB hFR q7 d_102.2.1) (fun v_106 n_106 M_106 hn_106 hp => ?_)
                have er : resI bs p.1 = 6 := TR_i hTR hPO q7 (r := 6) (by omega) d_102.2
                obtain ⟨⟨rfl, rfl⟩, hpr⟩ := hp
                refine jr_goto (pc := 109) h 213 dX9_readLine_109 (by decide) ?_
                refine jr_vret (pc := 213) h hRt dX9_readLine_213 (Nat.le_of_ble_eq_true rfl) (Nat.le_of_ble_eq_true rfl) ?_
                first
                | (rw [er]; exact ⟨⟨rfl, rfl⟩, hpr⟩)
                | (have er : (tlnP bs ct td (resI bs p.1) p) = (flP 1 p, ct, td) := by
                     have hs : resI bs p.1 < 0 ∨ 13 ≤ resI bs p.1 := by
                       by_cases q13 : wordIs bs p.1 (rk 13)
                       · have := TR_i hTR hPO q7 (r := 13) (by omega) q13
                         omega
                       · have := TR_in hTR hPO q7 (rk_all (P := fun k => ¬ wordIs bs p.1 k) (fun q => d_6 ⟨q7, q⟩) (fun q => d_22 ⟨q7, q⟩) (fun q => d_38 ⟨q7, q⟩) (fun q => d_54 ⟨q7, q⟩) (fun q => d_70 ⟨q7, q⟩) (fun q => d_86 ⟨q7, q⟩) (fun q => d_102 ⟨q7, q⟩) (fun q => d_118 ⟨q7, q⟩) (fun q => d_134 ⟨q7, q⟩) (fun q => d_150 ⟨q7, q⟩) (fun q => d_166 ⟨q7, q⟩) (fun q => d_182 ⟨q7, q⟩) (fun q => d_198 ⟨q7, q⟩) q13)
                         omega
                     unfold tlnP
                     rw [if_pos hs]
                   rw [er]
                   exact ⟨⟨rfl, rfl⟩, g1, w1, gF, A, hX, hg1, hTR1, MF_fr hMF f9 (Nat.le_refl _) (fun k h1 h2 q => by have := q.1; have := q.2; omega), hRB, fun q => absurd q (flP_x (by omega)), fr_mo f9 (fun k q => Or.inl q)⟩)
            · first | have d_86 := bz_0.mp c_86 | have d_86 := bz_1.mp c_86 | skip
              refine jr_aload_n (pc := 89) h dX9_readLine_89 rfl ?_
              refine iv_X9_232 (pc := 90) h hl hR dX9_readLine_90 ⟨(Nat.le_of_ble_eq_true rfl), (Nat.le_of_ble_eq_true rfl), (Nat.le_of_ble_eq_true rfl), (Nat.le_of_ble_eq_true rfl)⟩ (Nat.le_of_ble_eq_true rfl) (by assumption) (by omega) (s_X9_readTrolley hX hbt hbb hTR hPO hMF hsep hRB hFR q7 d_86.2.1) (fun v_90 n_90 M_90 hn_90 hp => ?_)
              have er : resI bs p.1 = 5 := TR_i hTR hPO q7 (r := 5) (by omega) d_86.2
              obtain ⟨⟨rfl, rfl⟩, hpr⟩ := hp
              refine jr_goto (pc := 93) h 213 dX9_readLine_93 (by decide) ?_
              refine jr_vret (pc := 213) h hRt dX9_readLine_213 (Nat.le_of_ble_eq_true rfl) (Nat.le_of_ble_eq_true rfl) ?_
              first
              | (rw [er]; exact ⟨⟨rfl, rfl⟩, hpr⟩)
              | (have er : (tlnP bs ct td (resI bs p.1) p) = (flP 1 p, ct, td) := by
                   have hs : resI bs p.1 < 0 ∨ 13 ≤ resI bs p.1 := by
                     by_cases q13 : wordIs bs p.1 (rk 13)
                     · have := TR_i hTR hPO q7 (r := 13) (by omega) q13
                       omega
                     · have := TR_in hTR hPO q7 (rk_all (P := fun k => ¬ wordIs bs p.1 k) (fun q => d_6 ⟨q7, q⟩) (fun q => d_22 ⟨q7, q⟩) (fun q => d_38 ⟨q7, q⟩) (fun q => d_54 ⟨q7, q⟩) (fun q => d_70 ⟨q7, q⟩) (fun q => d_86 ⟨q7, q⟩) (fun q => d_102 ⟨q7, q⟩) (fun q => d_118 ⟨q7, q⟩) (fun q => d_134 ⟨q7, q⟩) (fun q => d_150 ⟨q7, q⟩) (fun q => d_166 ⟨q7, q⟩) (fun q => d_182 ⟨q7, q⟩) (fun q => d_198 ⟨q7, q⟩) q13)
                       omega
                   unfold tlnP
                   rw [if_pos hs]
                 rw [er]
                 exact ⟨⟨rfl, rfl⟩, g1, w1, gF, A, hX, hg1, hTR1, MF_fr hMF f9 (Nat.le_refl _) (fun k h1 h2 q => by have := q.1; have := q.2; omega), hRB, fun q => absurd q (flP_x (by omega)), fr_mo f9 (fun k q => Or.inl q)⟩)
          · first | have d_70 := bz_0.mp c_70 | have d_70 := bz_1.mp c_70 | skip
            refine jr_aload_n (pc := 73) h dX9_readLine_73 rfl ?_
            refine iv_X9_229 (pc := 74) h hl hR dX9_readLine_74 ⟨(Nat.le_of_ble_eq_true rfl), (Nat.le_of_ble_eq_true rfl), (Nat.le_of_ble_eq_true rfl), (Nat.le_of_ble_eq_true rfl)⟩ (Nat.le_of_ble_eq_true rfl) (by assumption) (by omega) (s_X9_readTook hX hbt hbb hTR hPO hMF hsep hRB hFR q7 d_70.2.1) (fun v_74 n_74 M_74 hn_74 hp => ?_)
            have er : resI bs p.1 = 4 := TR_i hTR hPO q7 (r := 4) (by omega) d_70.2
            obtain ⟨⟨rfl, rfl⟩, hpr⟩ := hp
            refine jr_goto (pc := 77) h 213 dX9_readLine_77 (by decide) ?_
            refine jr_vret (pc := 213) h hRt dX9_readLine_213 (Nat.le_of_ble_eq_true rfl) (Nat.le_of_ble_eq_true rfl) ?_
            first
            | (rw [er]; exact ⟨⟨rfl, rfl⟩, hpr⟩)
            | (have er : (tlnP bs ct td (resI bs p.1) p) = (flP 1 p, ct, td) := by
                 have hs : resI bs p.1 < 0 ∨ 13 ≤ resI bs p.1 := by
                   by_cases q13 : wordIs bs p.1 (rk 13)
                   · have := TR_i hTR hPO q7 (r := 13) (by omega) q13
                     omega
                   · have := TR_in hTR hPO q7 (rk_all (P := fun k => ¬ wordIs bs p.1 k) (fun q => d_6 ⟨q7, q⟩) (fun q => d_22 ⟨q7, q⟩) (fun q => d_38 ⟨q7, q⟩) (fun q => d_54 ⟨q7, q⟩) (fun q => d_70 ⟨q7, q⟩) (fun q => d_86 ⟨q7, q⟩) (fun q => d_102 ⟨q7, q⟩) (fun q => d_118 ⟨q7, q⟩) (fun q => d_134 ⟨q7, q⟩) (fun q => d_150 ⟨q7, q⟩) (fun q => d_166 ⟨q7, q⟩) (fun q => d_182 ⟨q7, q⟩) (fun q => d_198 ⟨q7, q⟩) q13)
                     omega
                 unfold tlnP
                 rw [if_pos hs]
               rw [er]
               exact ⟨⟨rfl, rfl⟩, g1, w1, gF, A, hX, hg1, hTR1, MF_fr hMF f9 (Nat.le_refl _) (fun k h1 h2 q => by have := q.1; have := q.2; omega), hRB, fun q => absurd q (flP_x (by omega)), fr_mo f9 (fun k q => Or.inl q)⟩)
        · first | have d_54 := bz_0.mp c_54 | have d_54 := bz_1.mp c_54 | skip
          refine jr_aload_n (pc := 57) h dX9_readLine_57 rfl ?_
          refine iv_X9_226 (pc := 58) h hl hR dX9_readLine_58 ⟨(Nat.le_of_ble_eq_true rfl), (Nat.le_of_ble_eq_true rfl), (Nat.le_of_ble_eq_true rfl), (Nat.le_of_ble_eq_true rfl)⟩ (Nat.le_of_ble_eq_true rfl) (by assumption) (by omega) (s_X9_readBatch hX hbt hbb hTR hPO hMF hsep hRB hFR q7 d_54.2.1) (fun v_58 n_58 M_58 hn_58 hp => ?_)
          have er : resI bs p.1 = 3 := TR_i hTR hPO q7 (r := 3) (by omega) d_54.2
          obtain ⟨⟨rfl, rfl⟩, hpr⟩ := hp
          refine jr_goto (pc := 61) h 213 dX9_readLine_61 (by decide) ?_
          refine jr_vret (pc := 213) h hRt dX9_readLine_213 (Nat.le_of_ble_eq_true rfl) (Nat.le_of_ble_eq_true rfl) ?_
          first
          | (rw [er]; exact ⟨⟨rfl, rfl⟩, hpr⟩)
          | (have er : (tlnP bs ct td (resI bs p.1) p) = (flP 1 p, ct, td) := by
               have hs : resI bs p.1 < 0 ∨ 13 ≤ resI bs p.1 := by
                 by_cases q13 : wordIs bs p.1 (rk 13)
                 · have := TR_i hTR hPO q7 (r := 13) (by omega) q13
                   omega
                 · have := TR_in hTR hPO q7 (rk_all (P := fun k => ¬ wordIs bs p.1 k) (fun q => d_6 ⟨q7, q⟩) (fun q => d_22 ⟨q7, q⟩) (fun q => d_38 ⟨q7, q⟩) (fun q => d_54 ⟨q7, q⟩) (fun q => d_70 ⟨q7, q⟩) (fun q => d_86 ⟨q7, q⟩) (fun q => d_102 ⟨q7, q⟩) (fun q => d_118 ⟨q7, q⟩) (fun q => d_134 ⟨q7, q⟩) (fun q => d_150 ⟨q7, q⟩) (fun q => d_166 ⟨q7, q⟩) (fun q => d_182 ⟨q7, q⟩) (fun q => d_198 ⟨q7, q⟩) q13)
                   omega
               unfold tlnP
               rw [if_pos hs]
             rw [er]
             exact ⟨⟨rfl, rfl⟩, g1, w1, gF, A, hX, hg1, hTR1, MF_fr hMF f9 (Nat.le_refl _) (fun k h1 h2 q => by have := q.1; have := q.2; omega), hRB, fun q => absurd q (flP_x (by omega)), fr_mo f9 (fun k q => Or.inl q)⟩)
      · first | have d_38 := bz_0.mp c_38 | have d_38 := bz_1.mp c_38 | skip
        refine jr_aload_n (pc := 41) h dX9_readLine_41 rfl ?_
        refine iv_X9_223 (pc := 42) h hl hR dX9_readLine_42 ⟨(Nat.le_of_ble_eq_true rfl), (Nat.le_of_ble_eq_true rfl), (Nat.le_of_ble_eq_true rfl), (Nat.le_of_ble_eq_true rfl)⟩ (Nat.le_of_ble_eq_true rfl) (by assumption) (by omega) (s_X9_readKind hX hbt hbb hTR hPO hMF hsep hRB hFR q7 d_38.2.1) (fun v_42 n_42 M_42 hn_42 hp => ?_)
        have er : resI bs p.1 = 2 := TR_i hTR hPO q7 (r := 2) (by omega) d_38.2
        obtain ⟨⟨rfl, rfl⟩, hpr⟩ := hp
        refine jr_goto (pc := 45) h 213 dX9_readLine_45 (by decide) ?_
        refine jr_vret (pc := 213) h hRt dX9_readLine_213 (Nat.le_of_ble_eq_true rfl) (Nat.le_of_ble_eq_true rfl) ?_
        first
        | (rw [er]; exact ⟨⟨rfl, rfl⟩, hpr⟩)
        | (have er : (tlnP bs ct td (resI bs p.1) p) = (flP 1 p, ct, td) := by
             have hs : resI bs p.1 < 0 ∨ 13 ≤ resI bs p.1 := by
               by_cases q13 : wordIs bs p.1 (rk 13)
               · have := TR_i hTR hPO q7 (r := 13) (by omega) q13
                 omega
               · have := TR_in hTR hPO q7 (rk_all (P := fun k => ¬ wordIs bs p.1 k) (fun q => d_6 ⟨q7, q⟩) (fun q => d_22 ⟨q7, q⟩) (fun q => d_38 ⟨q7, q⟩) (fun q => d_54 ⟨q7, q⟩) (fun q => d_70 ⟨q7, q⟩) (fun q => d_86 ⟨q7, q⟩) (fun q => d_102 ⟨q7, q⟩) (fun q => d_118 ⟨q7, q⟩) (fun q => d_134 ⟨q7, q⟩) (fun q => d_150 ⟨q7, q⟩) (fun q => d_166 ⟨q7, q⟩) (fun q => d_182 ⟨q7, q⟩) (fun q => d_198 ⟨q7, q⟩) q13)
                 omega
             unfold tlnP
             rw [if_pos hs]
           rw [er]
           exact ⟨⟨rfl, rfl⟩, g1, w1, gF, A, hX, hg1, hTR1, MF_fr hMF f9 (Nat.le_refl _) (fun k h1 h2 q => by have := q.1; have := q.2; omega), hRB, fun q => absurd q (flP_x (by omega)), fr_mo f9 (fun k q => Or.inl q)⟩)
    · first | have d_22 := bz_0.mp c_22 | have d_22 := bz_1.mp c_22 | skip
      refine jr_aload_n (pc := 25) h dX9_readLine_25 rfl ?_
      refine iv_X9_220 (pc := 26) h hl hR dX9_readLine_26 ⟨(Nat.le_of_ble_eq_true rfl), (Nat.le_of_ble_eq_true rfl), (Nat.le_of_ble_eq_true rfl), (Nat.le_of_ble_eq_true rfl)⟩ (Nat.le_of_ble_eq_true rfl) (by assumption) (by omega) (s_X9_readHeat hX hbt hbb hTR hPO hMF hsep hRB hFR q7 d_22.2.1) (fun v_26 n_26 M_26 hn_26 hp => ?_)
      have er : resI bs p.1 = 1 := TR_i hTR hPO q7 (r := 1) (by omega) d_22.2
      obtain ⟨⟨rfl, rfl⟩, hpr⟩ := hp
      refine jr_goto (pc := 29) h 213 dX9_readLine_29 (by decide) ?_
      refine jr_vret (pc := 213) h hRt dX9_readLine_213 (Nat.le_of_ble_eq_true rfl) (Nat.le_of_ble_eq_true rfl) ?_
      first
      | (rw [er]; exact ⟨⟨rfl, rfl⟩, hpr⟩)
      | (have er : (tlnP bs ct td (resI bs p.1) p) = (flP 1 p, ct, td) := by
           have hs : resI bs p.1 < 0 ∨ 13 ≤ resI bs p.1 := by
             by_cases q13 : wordIs bs p.1 (rk 13)
             · have := TR_i hTR hPO q7 (r := 13) (by omega) q13
               omega
             · have := TR_in hTR hPO q7 (rk_all (P := fun k => ¬ wordIs bs p.1 k) (fun q => d_6 ⟨q7, q⟩) (fun q => d_22 ⟨q7, q⟩) (fun q => d_38 ⟨q7, q⟩) (fun q => d_54 ⟨q7, q⟩) (fun q => d_70 ⟨q7, q⟩) (fun q => d_86 ⟨q7, q⟩) (fun q => d_102 ⟨q7, q⟩) (fun q => d_118 ⟨q7, q⟩) (fun q => d_134 ⟨q7, q⟩) (fun q => d_150 ⟨q7, q⟩) (fun q => d_166 ⟨q7, q⟩) (fun q => d_182 ⟨q7, q⟩) (fun q => d_198 ⟨q7, q⟩) q13)
               omega
           unfold tlnP
           rw [if_pos hs]
         rw [er]
         exact ⟨⟨rfl, rfl⟩, g1, w1, gF, A, hX, hg1, hTR1, MF_fr hMF f9 (Nat.le_refl _) (fun k h1 h2 q => by have := q.1; have := q.2; omega), hRB, fun q => absurd q (flP_x (by omega)), fr_mo f9 (fun k q => Or.inl q)⟩)
  · first | have d_6 := bz_0.mp c_6 | have d_6 := bz_1.mp c_6 | skip
    refine jr_aload_n (pc := 9) h dX9_readLine_9 rfl ?_
    refine iv_X9_217 (pc := 10) h hl hR dX9_readLine_10 ⟨(Nat.le_of_ble_eq_true rfl), (Nat.le_of_ble_eq_true rfl), (Nat.le_of_ble_eq_true rfl), (Nat.le_of_ble_eq_true rfl)⟩ (Nat.le_of_ble_eq_true rfl) (by assumption) (by omega) (s_X9_readCabin hX hbt hbb hTR hPO hMF hsep hRB hFR q7 d_6.2.1) (fun v_10 n_10 M_10 hn_10 hp => ?_)
    have er : resI bs p.1 = 0 := TR_i hTR hPO q7 (r := 0) (by omega) d_6.2
    obtain ⟨⟨rfl, rfl⟩, hpr⟩ := hp
    refine jr_goto (pc := 13) h 213 dX9_readLine_13 (by decide) ?_
    refine jr_vret (pc := 213) h hRt dX9_readLine_213 (Nat.le_of_ble_eq_true rfl) (Nat.le_of_ble_eq_true rfl) ?_
    first
    | (rw [er]; exact ⟨⟨rfl, rfl⟩, hpr⟩)
    | (have er : (tlnP bs ct td (resI bs p.1) p) = (flP 1 p, ct, td) := by
         have hs : resI bs p.1 < 0 ∨ 13 ≤ resI bs p.1 := by
           by_cases q13 : wordIs bs p.1 (rk 13)
           · have := TR_i hTR hPO q7 (r := 13) (by omega) q13
             omega
           · have := TR_in hTR hPO q7 (rk_all (P := fun k => ¬ wordIs bs p.1 k) (fun q => d_6 ⟨q7, q⟩) (fun q => d_22 ⟨q7, q⟩) (fun q => d_38 ⟨q7, q⟩) (fun q => d_54 ⟨q7, q⟩) (fun q => d_70 ⟨q7, q⟩) (fun q => d_86 ⟨q7, q⟩) (fun q => d_102 ⟨q7, q⟩) (fun q => d_118 ⟨q7, q⟩) (fun q => d_134 ⟨q7, q⟩) (fun q => d_150 ⟨q7, q⟩) (fun q => d_166 ⟨q7, q⟩) (fun q => d_182 ⟨q7, q⟩) (fun q => d_198 ⟨q7, q⟩) q13)
             omega
         unfold tlnP
         rw [if_pos hs]
       rw [er]
       exact ⟨⟨rfl, rfl⟩, g1, w1, gF, A, hX, hg1, hTR1, MF_fr hMF f9 (Nat.le_refl _) (fun k h1 h2 q => by have := q.1; have := q.2; omega), hRB, fun q => absurd q (flP_x (by omega)), fr_mo f9 (fun k q => Or.inl q)⟩)
