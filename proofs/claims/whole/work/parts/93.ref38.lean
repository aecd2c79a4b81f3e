/-! 93: the reference: lines of two or three numbers -/
def Imp (P Q : Prop) : Prop := P → Q
/-- no fault stands -/
def OKp (p : TS) : Prop := p.1 7 = 0
theorem ldcwStr {p : Program} {l : Launch} {e : Env} {R : Room} {s : State} {m : MethodId} {args : Array Value} {below : List Frame} {meth : Method} {c : Code} {T : State} {locs : List Loc} {cells slots : Nat}
    (X : Stand p l e R s m args below meth c T locs cells slots) (hexec : p.tables.exec = Jvm.exec) {own text : String} {index : Nat} {a : Addr} (hown : s.vm.findClass own = some m.cls)
    (hconst : (Cond.stringRef own index text).before args s = true) (hev : (Term.string own index).eval args s none [] s = some (.ref a)) {g : JFrame} (hg : g.method = m) (hdg : decode c.code g.pc = .ok (.ldc_w index, 3)) :
    ∀ target, Steps p.tables e below (T.setTop { g with pc := g.pc + 3, stack := .ref a :: g.stack }) target → Steps p.tables e below (T.setTop g) target := by
  obtain ⟨k, cf, i, a', hk, hcf, hcp, -, hr, hev'⟩ := Cond.stringRef_spec hown hconst
  cases hev.symm.trans hev'
  obtain ⟨k', hk', he⟩ := X.warmed.alike.2.2 _ _ hk
  have hr' : k'.resolved[index]? = some (some (.string a)) := by
    rcases X.warmed.entry hk hk' index with h | ⟨h, -⟩
    · rw [h]; exact hr
    · rw [hr] at h; cases h
  intro target hrest
  subst hg
  jvm_step X.here [hexec, hdg, ldc_w.wp_string (e := e) (s := T) (f := g) X.here.top hk' (by rw [he]; exact hcf) hcp hr']
  exact hrest
theorem jr_ldcwS {κ : jC} {own : String} {cc : ByteArray} {nL : Nat} {ret : Option FieldType} {c sl n pc : Nat} {ls : List (Option Value)} {st : List Value} {M : jdM} (h : Ok κ own cc nL ret) {index : Nat} (i : Nat) (hi : i < 58) (ho : (jstr i).1 = own ∧ (jstr i).2.1 = index) (hd : decode cc pc = .ok (.ldc_w index, 3)) (kk : J κ nL c sl n (pc + 3) ls (.ref (1000000 + 100 + i) :: st) M) : J κ nL c sl n pc ls st M := by
  obtain ⟨rfl, rfl⟩ := ho
  refine jr_liftM h (fun a b => ⟨a, jk_cons (v := .ref (1000000 + 100 + i)) (Or.inr (Nat.le_trans (Nat.le_add_right 1000000 100) (Nat.le_add_right _ _))) b⟩) (fun {p l e R s m args below meth c0 H locs Q A dC dI dA} ad la hx hb hts hown hK hA hSF hM0 hP hD hS kk => ?_) kk
  intro T hT X
  obtain ⟨t, a1, b1⟩ := (kk H locs hP hD hS) T hT X
  exact ⟨t, ldcwStr X hx hown (hSF.2.2.2.2.2.2 i hi).1.1 (hSF.2.2.2.2.2.2 i hi).1.2 (g := F0 m pc _ _) rfl (by rw [hb]; exact hd) t a1, b1⟩
theorem NB_k {gF gF' : Nat → Int} {A A' : Nat → Nat → Int} (h : NB gF A) (h16 : gF' 16 = gF 16) (hA : ∀ j, 28 ≤ j → A' j = A j) : NB gF' A' := by
  unfold NB
  rw [h16, hA 28 (by omega), hA 29 (by omega), hA 30 (by omega)]
  exact h
theorem RB_up {gF : Nat → Int} {A A' : Nat → Nat → Int} {k : Nat} (h : RB gF A) (hk : 5 ≤ k ∧ k ≤ 15) (hl : gF k < (jtab 0).2.2 (k - 3)) (h8 : ∀ i : Nat, i < 2 → 0 ≤ A' 8 i ∧ A' 8 i ≤ 1) (hA : ∀ j, 28 ≤ j → A' j = A j) : RB (up gF k (gF k + 1)) A' := by
  obtain ⟨hn, ⟨c5, c6, c7, c8, c9, c10, c11, c12, c13, c14, c15⟩, h0, h3, -⟩ := h
  have h16 : NB (up gF k (gF k + 1)) A' := NB_k hn (up_ne (by omega)) hA
  have hk' : k = 5 ∨ k = 6 ∨ k = 7 ∨ k = 8 ∨ k = 9 ∨ k = 10 ∨ k = 11 ∨ k = 12 ∨ k = 13 ∨ k = 14 ∨ k = 15 := by omega
  rcases hk' with rfl | rfl | rfl | rfl | rfl | rfl | rfl | rfl | rfl | rfl | rfl
  · have hl : gF 5 < 4 := hl
    refine ⟨h16, ⟨by rw [up_eq]; omega, by rw [up_ne (by omega)]; exact c6, by rw [up_ne (by omega)]; exact c7, by rw [up_ne (by omega)]; exact c8, by rw [up_ne (by omega)]; exact c9, by rw [up_ne (by omega)]; exact c10, by rw [up_ne (by omega)]; exact c11, by rw [up_ne (by omega)]; exact c12, by rw [up_ne (by omega)]; exact c13, by rw [up_ne (by omega)]; exact c14, by rw [up_ne (by omega)]; exact c15⟩, by rw [up_ne (by omega)]; exact h0, by rw [up_ne (by omega)]; exact h3, h8⟩
  · have hl : gF 6 < 6 := hl
    refine ⟨h16, ⟨by rw [up_ne (by omega)]; exact c5, by rw [up_eq]; omega, by rw [up_ne (by omega)]; exact c7, by rw [up_ne (by omega)]; exact c8, by rw [up_ne (by omega)]; exact c9, by rw [up_ne (by omega)]; exact c10, by rw [up_ne (by omega)]; exact c11, by rw [up_ne (by omega)]; exact c12, by rw [up_ne (by omega)]; exact c13, by rw [up_ne (by omega)]; exact c14, by rw [up_ne (by omega)]; exact c15⟩, by rw [up_ne (by omega)]; exact h0, by rw [up_ne (by omega)]; exact h3, h8⟩
  · have hl : gF 7 < 6 := hl
    refine ⟨h16, ⟨by rw [up_ne (by omega)]; exact c5, by rw [up_ne (by omega)]; exact c6, by rw [up_eq]; omega, by rw [up_ne (by omega)]; exact c8, by rw [up_ne (by omega)]; exact c9, by rw [up_ne (by omega)]; exact c10, by rw [up_ne (by omega)]; exact c11, by rw [up_ne (by omega)]; exact c12, by rw [up_ne (by omega)]; exact c13, by rw [up_ne (by omega)]; exact c14, by rw [up_ne (by omega)]; exact c15⟩, by rw [up_ne (by omega)]; exact h0, by rw [up_ne (by omega)]; exact h3, h8⟩
  · have hl : gF 8 < 2 := hl
    refine ⟨h16, ⟨by rw [up_ne (by omega)]; exact c5, by rw [up_ne (by omega)]; exact c6, by rw [up_ne (by omega)]; exact c7, by rw [up_eq]; omega, by rw [up_ne (by omega)]; exact c9, by rw [up_ne (by omega)]; exact c10, by rw [up_ne (by omega)]; exact c11, by rw [up_ne (by omega)]; exact c12, by rw [up_ne (by omega)]; exact c13, by rw [up_ne (by omega)]; exact c14, by rw [up_ne (by omega)]; exact c15⟩, by rw [up_ne (by omega)]; exact h0, by rw [up_ne (by omega)]; exact h3, h8⟩
  · have hl : gF 9 < 8 := hl
    refine ⟨h16, ⟨by rw [up_ne (by omega)]; exact c5, by rw [up_ne (by omega)]; exact c6, by rw [up_ne (by omega)]; exact c7, by rw [up_ne (by omega)]; exact c8, by rw [up_eq]; omega, by rw [up_ne (by omega)]; exact c10, by rw [up_ne (by omega)]; exact c11, by rw [up_ne (by omega)]; exact c12, by rw [up_ne (by omega)]; exact c13, by rw [up_ne (by omega)]; exact c14, by rw [up_ne (by omega)]; exact c15⟩, by rw [up_ne (by omega)]; exact h0, by rw [up_ne (by omega)]; exact h3, h8⟩
  · have hl : gF 10 < 5 := hl
    refine ⟨h16, ⟨by rw [up_ne (by omega)]; exact c5, by rw [up_ne (by omega)]; exact c6, by rw [up_ne (by omega)]; exact c7, by rw [up_ne (by omega)]; exact c8, by rw [up_ne (by omega)]; exact c9, by rw [up_eq]; omega, by rw [up_ne (by omega)]; exact c11, by rw [up_ne (by omega)]; exact c12, by rw [up_ne (by omega)]; exact c13, by rw [up_ne (by omega)]; exact c14, by rw [up_ne (by omega)]; exact c15⟩, by rw [up_ne (by omega)]; exact h0, by rw [up_ne (by omega)]; exact h3, h8⟩
  · have hl : gF 11 < 6 := hl
    refine ⟨h16, ⟨by rw [up_ne (by omega)]; exact c5, by rw [up_ne (by omega)]; exact c6, by rw [up_ne (by omega)]; exact c7, by rw [up_ne (by omega)]; exact c8, by rw [up_ne (by omega)]; exact c9, by rw [up_ne (by omega)]; exact c10, by rw [up_eq]; omega, by rw [up_ne (by omega)]; exact c12, by rw [up_ne (by omega)]; exact c13, by rw [up_ne (by omega)]; exact c14, by rw [up_ne (by omega)]; exact c15⟩, by rw [up_ne (by omega)]; exact h0, by rw [up_ne (by omega)]; exact h3, h8⟩
  · have hl : gF 12 < 3 := hl
    refine ⟨h16, ⟨by rw [up_ne (by omega)]; exact c5, by rw [up_ne (by omega)]; exact c6, by rw [up_ne (by omega)]; exact c7, by rw [up_ne (by omega)]; exact c8, by rw [up_ne (by omega)]; exact c9, by rw [up_ne (by omega)]; exact c10, by rw [up_ne (by omega)]; exact c11, by rw [up_eq]; omega, by rw [up_ne (by omega)]; exact c13, by rw [up_ne (by omega)]; exact c14, by rw [up_ne (by omega)]; exact c15⟩, by rw [up_ne (by omega)]; exact h0, by rw [up_ne (by omega)]; exact h3, h8⟩
  · have hl : gF 13 < 3 := hl
    refine ⟨h16, ⟨by rw [up_ne (by omega)]; exact c5, by rw [up_ne (by omega)]; exact c6, by rw [up_ne (by omega)]; exact c7, by rw [up_ne (by omega)]; exact c8, by rw [up_ne (by omega)]; exact c9, by rw [up_ne (by omega)]; exact c10, by rw [up_ne (by omega)]; exact c11, by rw [up_ne (by omega)]; exact c12, by rw [up_eq]; omega, by rw [up_ne (by omega)]; exact c14, by rw [up_ne (by omega)]; exact c15⟩, by rw [up_ne (by omega)]; exact h0, by rw [up_ne (by omega)]; exact h3, h8⟩
  · have hl : gF 14 < 4 := hl
    refine ⟨h16, ⟨by rw [up_ne (by omega)]; exact c5, by rw [up_ne (by omega)]; exact c6, by rw [up_ne (by omega)]; exact c7, by rw [up_ne (by omega)]; exact c8, by rw [up_ne (by omega)]; exact c9, by rw [up_ne (by omega)]; exact c10, by rw [up_ne (by omega)]; exact c11, by rw [up_ne (by omega)]; exact c12, by rw [up_ne (by omega)]; exact c13, by rw [up_eq]; omega, by rw [up_ne (by omega)]; exact c15⟩, by rw [up_ne (by omega)]; exact h0, by rw [up_ne (by omega)]; exact h3, h8⟩
  · have hl : gF 15 < 4 := hl
    refine ⟨h16, ⟨by rw [up_ne (by omega)]; exact c5, by rw [up_ne (by omega)]; exact c6, by rw [up_ne (by omega)]; exact c7, by rw [up_ne (by omega)]; exact c8, by rw [up_ne (by omega)]; exact c9, by rw [up_ne (by omega)]; exact c10, by rw [up_ne (by omega)]; exact c11, by rw [up_ne (by omega)]; exact c12, by rw [up_ne (by omega)]; exact c13, by rw [up_ne (by omega)]; exact c14, by rw [up_eq]; omega⟩, by rw [up_ne (by omega)]; exact h0, by rw [up_ne (by omega)]; exact h3, h8⟩
theorem NI_nm {bs : Nat → Int} {p : TS} {ct ct' : Nat → Int} {s x : Int} (h : NI p ct) (h2 : s = 2 → 0 ≤ x ∧ x < ct' 2) (h5 : s = 5 → 0 ≤ x ∧ x < ct' 5) (c2 : ct 2 ≤ ct' 2) (c5 : ct 5 ≤ ct' 5) : NI (nxP bs (nmP s x p)) ct' := by
  have e12 : (nxP bs (nmP s x p)).1 12 = p.1 12 + 1 := by
    rw [K12_nx.2]
    show up p.1 12 (p.1 12 + 1) 12 = _
    rw [up_eq]
  intro i hi
  rw [e12] at hi
  show (up p.2.2.2.1 (p.1 12).toNat s i = 2 → 0 ≤ up p.2.2.2.2 (p.1 12).toNat x i ∧ up p.2.2.2.2 (p.1 12).toNat x i < ct' 2) ∧ (up p.2.2.2.1 (p.1 12).toNat s i = 5 → 0 ≤ up p.2.2.2.2 (p.1 12).toNat x i ∧ up p.2.2.2.2 (p.1 12).toNat x i < ct' 5)
  by_cases q : i = (p.1 12).toNat
  · rw [q, up_eq, up_eq]; exact ⟨h2, h5⟩
  · rw [up_ne q, up_ne q]
    have := h i (by omega)
    exact ⟨fun e => by have := this.1 e; omega, fun e => by have := this.2 e; omega⟩
theorem lb_lo {bs : Nat → Int} {k : Nat} {lo lo' hi : Int} {c : TS} (h : c.1 7 = 0 → lo = lo') : (lbP bs k lo hi c).2 = (lbP bs k lo' hi c).2 ∧ ((lbP bs k lo hi c).2.1 7 = 0 → (lbP bs k lo hi c).1 = (lbP bs k lo' hi c).1) := by
  by_cases q : c.1 7 = 0
  · rw [h q]; exact ⟨rfl, fun _ => rfl⟩
  · refine ⟨by rw [xP_f_lb q, xP_f_lb q], fun q2 => ?_⟩
    rw [xP_f_lb q] at q2
    exact absurd q2 q
set_option maxHeartbeats 1000000 in
set_option maxRecDepth 20000 in
theorem s_X9_readKind {l : Launch} {n : Nat} {M : jdM} {m f2 : Nat} {g : Nat → Int} {w : Int} {fl : Value} {B : Nat → Nat → Int} (hX : MX M n m g w fl (.ref f2) B) {bs : Nat → Int} (hbt : ∀ j, j < 900 → B 1 j = bs j) (hbb : ∀ j, -128 ≤ bs j ∧ bs j ≤ 127) {p : TS} (hTR : TR bs p g w) (hPO : PO p) {gF : Nat → Int} {A : Nat → Nat → Int} (hMF : MF M n f2 gF A) (hsep : f2 + 30 < m ∨ m + 12 < f2) (hRB : RB gF A) {ct td : Nat → Int} (hFR : FR p ct td gF A) (q7 : p.1 7 = 0) (q4 : p.1 4 = 1) : Ct l yX9_readKind cX9_readKind 3 none rX9_readKind [.ref m] n M (fun vv n' M' => (vv = none ∧ n = n') ∧ ∃ g' w' gF' A', MX M' n m g' w' fl (.ref f2) B ∧ gkp g g' ∧ TR bs (tlnP bs ct td 2 p).1 g' w' ∧ MF M' n f2 gF' A' ∧ RB gF' A' ∧ ((tlnP bs ct td 2 p).1.1 7 = 0 → FR (tlnP bs ct td 2 p).1 (tlnP bs ct td 2 p).2.1 (tlnP bs ct td 2 p).2.2 gF' A') ∧ fr (RFS m f2) M M') := by
  refine Ct_of [some (.ref m), none, none] (by decide) (Nat.le_of_ble_eq_true rfl) rfl (fun κ hl h hR hRt hmn hn0 => ?_)
  have h : Ok κ RX9 cX9_readKind 3 none := h
  obtain ⟨hnm, hOm, hBm⟩ := id hX
  have hOm : M m = jdO 9 (fX9 m _ _ fl (.ref f2)) := hOm
  obtain ⟨hnf, hOf, hAf⟩ := id hMF
  have fR : fr (RFS m f2) M M := fr_rf
  have hgk : gkp g g := gkp_r
  have hNB := hRB.1
  obtain ⟨hcb, h0b, h3b, h8b⟩ := hRB.2
  have hNRp := hFR.2.2.2.1
  have hNIp := hFR.2.2.2.2.1
  have hcnt := hFR.2.2.2.2.2.2
  obtain ⟨k5, k6, k7, k8, k9, k10, k11, k12, k13, k14, k15⟩ := hFR.2.1
  have hNBc := hNB.1
  refine jr_aload_n (pc := 0) h dX9_readKind_0 rfl ?_
  refine jr_aload_n (pc := 1) h dX9_readKind_1 rfl ?_
  refine gf_X9_174 (pc := 2) h dX9_readKind_2 (by assumption) (by omega) ?_
  refine gf_X9_211 (pc := 5) h dX9_readKind_5 (by assumption) (by omega) ?_
  refine jr_iconst (pc := 8) h dX9_readKind_8 ?_
  refine iv_X9_274 (pc := 9) h hl hR dX9_readKind_9 ⟨(Nat.le_of_ble_eq_true rfl), (Nat.le_of_ble_eq_true rfl), (Nat.le_of_ble_eq_true rfl), (Nat.le_of_ble_eq_true rfl)⟩ (Nat.le_of_ble_eq_true rfl) (by assumption) (by omega) (s_X9_begins hX hbt hbb hTR hPO q7 q4 (x := gF 5) (y := 4) (by omega) (by omega)) (fun v_9 n_9 M_9 hn_9 hp => ?_)
  obtain ⟨⟨rfl, rfl⟩, g1, w1, hX, hg1, hTR, f9⟩ := hp
  have fR := fr_tr fR (fr_mo f9 (fun k q => Or.inl q))
  have hgk := gkp_t hgk hg1
  have hMF := MF_fr hMF f9 (Nat.le_refl _) (fun k h1 h2 q => by have := q.1; have := q.2; omega)
  obtain ⟨p0, ep0⟩ : ∃ z, (if gF 5 = 4 then flP 5 p else nxP bs p) = z := ⟨_, rfl⟩
  rw [ep0] at hTR
  have hc0 : (ct 2 = 4 ∧ p0 = flP 5 p) ∨ (ct 2 < 4 ∧ p0 = nxP bs p) := by
    rw [← ep0]
    by_cases q : gF 5 = 4
    · rw [if_pos q]; exact Or.inl ⟨by omega, rfl⟩
    · rw [if_neg q]; exact Or.inr ⟨by omega, rfl⟩
  replace hPO : PO p0 := by
    rcases hc0 with ⟨-, e⟩ | ⟨-, e⟩ <;> rw [e]
    · exact flP_O hPO (by omega)
    · exact nxP_O hPO
  have hok0 : Imp (OKp p0) (ct 2 < 4 ∧ p0 = nxP bs p ∧ K12 p p0) := fun q => by
    rcases hc0 with ⟨-, e⟩ | ⟨h9, e⟩
    · rw [e] at q; exact absurd q (flP_x (by omega))
    · exact ⟨h9, e, by rw [e]; exact K12_nx⟩
  have hNRc : Imp (p0.1 7 = 0) (NR p0 gF A) := fun q => NR_K hNRp (hok0 q).2.2 rfl (fun _ _ => rfl)
  have hNIc : Imp (p0.1 7 = 0) (NI p0 ct) := fun q => NI_K hNIp (hok0 q).2.2 (Int.le_refl _) (Int.le_refl _)
  obtain ⟨hnm, hOm, hBm⟩ := id hX
  have hOm : M_9 m = jdO 9 (fX9 m _ _ fl (.ref f2)) := hOm
  obtain ⟨hnf, hOf, hAf⟩ := id hMF
  
  refine jr_aload_n (pc := 12) h dX9_readKind_12 rfl ?_
  refine jr_iconst (pc := 13) h dX9_readKind_13 ?_
  refine jr_aload_n (pc := 14) h dX9_readKind_14 rfl ?_
  refine gf_X9_174 (pc := 15) h dX9_readKind_15 (by assumption) (by omega) ?_
  refine gf_X9_211 (pc := 18) h dX9_readKind_18 (by assumption) (by omega) ?_
  refine iv_X9_278 (pc := 21) h hl hR dX9_readKind_21 ⟨(Nat.le_of_ble_eq_true rfl), (Nat.le_of_ble_eq_true rfl), (Nat.le_of_ble_eq_true rfl), (Nat.le_of_ble_eq_true rfl)⟩ (Nat.le_of_ble_eq_true rfl) (by assumption) (by omega) (s_X9_readFresh hX hbt hbb (p := p0) hTR hPO hMF hsep hNB hNRc (s := 2) (x := 0) (y := gF 5) (by omega) rfl (by omega) (by omega) (fun q => by have := hok0 q; have h12 := this.2.2.2; omega)) (fun v_21 n_21 M_21 hn_21 hp => ?_)
  obtain ⟨⟨rfl, rfl⟩, g1, w1, gF1, A1, hX, hg1, hTR, hMF, hNB, hNRc, hgo, hAo, f9⟩ := hp
  have fR := fr_tr fR f9
  have hgk := gkp_t hgk hg1
  rw [k5] at hTR hNRc
  obtain ⟨p1, ep1⟩ : ∃ z, nnP bs 2 (ct 2) p0 = z := ⟨_, rfl⟩
  rw [ep1] at hTR hNRc
  replace hPO : PO p1 := by rw [← ep1]; exact nnP_O hPO (by omega) (by omega)
  replace hNRc : Imp (p1.1 7 = 0) (NR p1 gF1 A1) := hNRc
  have hNIc : Imp (p1.1 7 = 0) (NI p1 (up ct 2 (ct 2 + 1))) := fun q => by
    rw [← ep1] at q ⊢
    have h9 := ok_nn q
    rw [h9.2.2]
    exact NI_nm (hNIc h9.1) (fun _ => by rw [up_eq]; omega) (fun q => absurd q (by decide)) (by rw [up_eq]; omega) (by rw [up_ne (by omega)]; omega)
  have hok1 : Imp (OKp p1) (OKp p0 ∧ p0.1 12 < 16 ∧ p1 = nxP bs (nmP 2 (ct 2) p0)) := fun q => by
    rw [← ep1] at q ⊢
    exact ok_nn q
  have hf1 : Imp (p0.1 7 ≠ 0) (p1 = p0) := fun q => by rw [← ep1]; exact xP_f_nn q
  have hRB1 : RB gF1 A1 := ⟨hNB, by rw [hgo 5 (by omega), hgo 6 (by omega), hgo 7 (by omega), hgo 8 (by omega), hgo 9 (by omega), hgo 10 (by omega), hgo 11 (by omega), hgo 12 (by omega), hgo 13 (by omega), hgo 14 (by omega), hgo 15 (by omega)]; exact hRB.2.1, by rw [hgo 0 (by omega)]; exact hRB.2.2.1, by rw [hgo 3 (by omega)]; exact hRB.2.2.2.1, by rw [hAo 8 (by omega)]; exact hRB.2.2.2.2⟩
  obtain ⟨hnm, hOm, hBm⟩ := id hX
  have hOm : M_21 m = jdO 9 (fX9 m _ _ fl (.ref f2)) := hOm
  obtain ⟨hnf, hOf, hAf⟩ := id hMF
  
  refine jr_aload_n (pc := 24) h dX9_readKind_24 rfl ?_
  refine jr_ldcwS (pc := 25) h 42 (by decide) ⟨rfl, rfl⟩ dX9_readKind_25 ?_
  refine jr_iconst (pc := 28) h dX9_readKind_28 ?_
  refine jr_bipush (pc := 29) h dX9_readKind_29 bp_8 ?_
  refine iv_X9_257 (pc := 31) h hl hR dX9_readKind_31 ⟨(Nat.le_of_ble_eq_true rfl), (Nat.le_of_ble_eq_true rfl), (Nat.le_of_ble_eq_true rfl), (Nat.le_of_ble_eq_true rfl)⟩ (Nat.le_of_ble_eq_true rfl) (by assumption) (by omega) (s_X9_readPart hX hbt hbb (p := p1) (k := 42) (x := 1) (y := 8) hTR hPO (by omega) (by omega) (by omega) (by omega)) (fun v_31 n_31 M_31 hn_31 hp => ?_)
  obtain ⟨v2, ⟨rfl, rfl⟩, hvr2, hve2, g1, w1, hX, hg1, hTR, f9⟩ := hp
  have fR := fr_tr fR (fr_mo f9 (fun k q => Or.inl q))
  have hgk := gkp_t hgk hg1
  have hMF := MF_fr hMF f9 (Nat.le_refl _) (fun k h1 h2 q => by have := q.1; have := q.2; omega)
  rw [lb_c (show jtxt 42 = jtxt 1 from rfl)] at hve2 hTR
  obtain ⟨p2, ep2⟩ : ∃ z, (lbP bs 1 1 8 p1).2 = z := ⟨_, rfl⟩
  rw [ep2] at hTR hve2
  replace hPO : PO p2 := by rw [← ep2]; exact (fun h => ehP_O (ewP_O h)) hPO
  have hok2 : Imp (OKp p2) (OKp p1 ∧ K12 p1 p2 ∧ v2 = (lbP bs 1 1 8 p1).1 ∧ (1 ≤ v2 ∧ v2 ≤ 8)) := fun q => by
    have e := hve2 q
    rw [← ep2] at q ⊢
    have h9 := ok_lb q
    rw [e]
    exact ⟨h9.1, h9.2.2, rfl, h9.2.1⟩
  clear hve2
  have hf2 : Imp (p1.1 7 ≠ 0) (p2 = p1) := fun q => by rw [← ep2]; exact xP_f_lb q
  have hNRc : Imp (p2.1 7 = 0) (NR p2 gF1 A1) := fun q => NR_K (hNRc (hok2 q).1) (hok2 q).2.1 rfl (fun _ _ => rfl)
  have hNIc : Imp (p2.1 7 = 0) (NI p2 (up ct 2 (ct 2 + 1))) := fun q => NI_K (hNIc (hok2 q).1) (hok2 q).2.1 (Int.le_refl _) (Int.le_refl _)
  obtain ⟨hnm, hOm, hBm⟩ := id hX
  have hOm : M_31 m = jdO 9 (fX9 m _ _ fl (.ref f2)) := hOm
  obtain ⟨hnf, hOf, hAf⟩ := id hMF
  
  have h5r := (TR_5 hTR hPO).2.2
  refine jr_istore_n (pc := 34) h [_, _, _] dX9_readKind_34 (by decide) rfl ?_
  refine jr_aload_n (pc := 35) h dX9_readKind_35 rfl ?_
  refine jr_ldcwS (pc := 36) h 43 (by decide) ⟨rfl, rfl⟩ dX9_readKind_36 ?_
  refine jr_iconst (pc := 39) h dX9_readKind_39 ?_
  refine jr_bipush (pc := 40) h dX9_readKind_40 bp_99 ?_
  refine iv_X9_257 (pc := 42) h hl hR dX9_readKind_42 ⟨(Nat.le_of_ble_eq_true rfl), (Nat.le_of_ble_eq_true rfl), (Nat.le_of_ble_eq_true rfl), (Nat.le_of_ble_eq_true rfl)⟩ (Nat.le_of_ble_eq_true rfl) (by assumption) (by omega) (s_X9_readPart hX hbt hbb (p := p2) (k := 43) (x := 0) (y := 99) hTR hPO (by omega) (by omega) (by omega) (by omega)) (fun v_42 n_42 M_42 hn_42 hp => ?_)
  obtain ⟨v3, ⟨rfl, rfl⟩, hvr3, hve3, g1, w1, hX, hg1, hTR, f9⟩ := hp
  have fR := fr_tr fR (fr_mo f9 (fun k q => Or.inl q))
  have hgk := gkp_t hgk hg1
  have hMF := MF_fr hMF f9 (Nat.le_refl _) (fun k h1 h2 q => by have := q.1; have := q.2; omega)
  rw [lb_c (show jtxt 43 = jtxt 2 from rfl)] at hve3 hTR
  obtain ⟨p3, ep3⟩ : ∃ z, (lbP bs 2 0 99 p2).2 = z := ⟨_, rfl⟩
  rw [ep3] at hTR hve3
  replace hPO : PO p3 := by rw [← ep3]; exact (fun h => ehP_O (ewP_O h)) hPO
  have hok3 : Imp (OKp p3) (OKp p2 ∧ K12 p2 p3 ∧ v3 = (lbP bs 2 0 99 p2).1 ∧ (0 ≤ v3 ∧ v3 ≤ 99)) := fun q => by
    have e := hve3 q
    rw [← ep3] at q ⊢
    have h9 := ok_lb q
    rw [e]
    exact ⟨h9.1, h9.2.2, rfl, h9.2.1⟩
  clear hve3
  have hf3 : Imp (p2.1 7 ≠ 0) (p3 = p2) := fun q => by rw [← ep3]; exact xP_f_lb q
  have hNRc : Imp (p3.1 7 = 0) (NR p3 gF1 A1) := fun q => NR_K (hNRc (hok3 q).1) (hok3 q).2.1 rfl (fun _ _ => rfl)
  have hNIc : Imp (p3.1 7 = 0) (NI p3 (up ct 2 (ct 2 + 1))) := fun q => NI_K (hNIc (hok3 q).1) (hok3 q).2.1 (Int.le_refl _) (Int.le_refl _)
  obtain ⟨hnm, hOm, hBm⟩ := id hX
  have hOm : M_42 m = jdO 9 (fX9 m _ _ fl (.ref f2)) := hOm
  obtain ⟨hnf, hOf, hAf⟩ := id hMF
  
  have h5r := (TR_5 hTR hPO).2.2
  refine jr_istore_n (pc := 45) h [_, _, _] dX9_readKind_45 (by decide) rfl ?_
  refine jr_aload_n (pc := 46) h dX9_readKind_46 rfl ?_
  refine gf_X9_80 (pc := 47) h dX9_readKind_47 (by assumption) (by omega) ?_
  refine jr_iconst (pc := 50) h dX9_readKind_50 ?_
  refine jr_icmp_ne (pc := 51) h 55 dX9_readKind_51 (by decide) (by omega) (by omega) (fun c_51 => ?_) (fun c_51 => ?_)
  · first | have d_51 := bz_0.mp c_51 | have d_51 := bz_1.mp c_51 | skip
    have h57 := (TR_5 hTR hPO).1
    have hpe : p3.1 7 = 0 := Classical.byContradiction (fun q => by have := h57.2 q; omega)
    have hk3 := hok3 hpe
    have hk2 := hok2 hk3.1
    have hk1 := hok1 hk2.1
    have hk0 := hok0 hk1.1
    have hl0 := hk0.1
    have hr2 := hk2.2.2.2
    have hv2 := hk2.2.2.1
    have hr3 := hk3.2.2.2
    have hv3 := hk3.2.2.1
    have g5o := hgo 5 (by omega)
    have g6o := hgo 6 (by omega)
    have g7o := hgo 7 (by omega)
    have g8o := hgo 8 (by omega)
    have g9o := hgo 9 (by omega)
    have g10o := hgo 10 (by omega)
    have g11o := hgo 11 (by omega)
    have g12o := hgo 12 (by omega)
    have g13o := hgo 13 (by omega)
    have g14o := hgo 14 (by omega)
    have g15o := hgo 15 (by omega)
    have hA1 : M_42 (f2 + 1) = jdA 4 (A1 1) := hAf 1 (by omega) (by omega)
    have hA2 : M_42 (f2 + 2) = jdA 4 (A1 2) := hAf 2 (by omega) (by omega)
    refine jr_aload_n (pc := 55) h dX9_readKind_55 rfl ?_
    refine gf_X9_174 (pc := 56) h dX9_readKind_56 (by assumption) (by omega) ?_
    refine gf_X9_285 (pc := 59) h dX9_readKind_59 (by assumption) (by omega) ?_
    refine jr_aload_n (pc := 62) h dX9_readKind_62 rfl ?_
    refine gf_X9_174 (pc := 63) h dX9_readKind_63 (by assumption) (by omega) ?_
    refine gf_X9_211 (pc := 66) h dX9_readKind_66 (by assumption) (by omega) ?_
    refine jr_iload_n (pc := 69) h dX9_readKind_69 rfl ?_
    refine jr_iast (pc := 70) h dX9_readKind_70 hA1 (by omega) (by omega) ?_
    refine jm_gen (fun M2 hM2 => ?_)
    have hMF := MF_A (i := 1) hMF hM2 (by omega)
    have f9 : fr (MFS f2) _ M2 := fr_up (S := MFS f2) hM2 ⟨by omega, by omega⟩
    have hX := MX_fr hX f9 (Nat.le_refl _) (fun k h1 h2 q => by have := q.1; have := q.2; omega)
    have fR := fr_tr fR (fr_mo f9 (fun k q => Or.inr q))
    obtain ⟨hnm, hOm, hBm⟩ := id hX
    have hOm : M2 m = jdO 9 (fX9 m _ _ fl (.ref f2)) := hOm
    obtain ⟨hnf, hOf, hAf⟩ := id hMF
    have hA2 : M2 (f2 + 2) = jdA 4 (A1 2) := hAf 2 (by omega) (by omega)
    refine jr_aload_n (pc := 71) h dX9_readKind_71 rfl ?_
    refine gf_X9_174 (pc := 72) h dX9_readKind_72 (by assumption) (by omega) ?_
    refine gf_X9_287 (pc := 75) h dX9_readKind_75 (by assumption) (by omega) ?_
    refine jr_aload_n (pc := 78) h dX9_readKind_78 rfl ?_
    refine gf_X9_174 (pc := 79) h dX9_readKind_79 (by assumption) (by omega) ?_
    refine gf_X9_211 (pc := 82) h dX9_readKind_82 (by assumption) (by omega) ?_
    refine jr_iload_n (pc := 85) h dX9_readKind_85 rfl ?_
    refine jr_iast (pc := 86) h dX9_readKind_86 hA2 (by omega) (by omega) ?_
    refine jm_gen (fun M2 hM2 => ?_)
    have hMF := MF_A (i := 2) hMF hM2 (by omega)
    have f9 : fr (MFS f2) _ M2 := fr_up (S := MFS f2) hM2 ⟨by omega, by omega⟩
    have hX := MX_fr hX f9 (Nat.le_refl _) (fun k h1 h2 q => by have := q.1; have := q.2; omega)
    have fR := fr_tr fR (fr_mo f9 (fun k q => Or.inr q))
    obtain ⟨hnm, hOm, hBm⟩ := id hX
    have hOm : M2 m = jdO 9 (fX9 m _ _ fl (.ref f2)) := hOm
    obtain ⟨hnf, hOf, hAf⟩ := id hMF
    
    refine jr_aload_n (pc := 87) h dX9_readKind_87 rfl ?_
    refine gf_X9_174 (pc := 88) h dX9_readKind_88 (by assumption) (by omega) ?_
    refine jr_dup (pc := 91) h dX9_readKind_91 rfl ?_
    refine gf_X9_211 (pc := 92) h dX9_readKind_92 (by assumption) (by omega) ?_
    refine jr_iconst (pc := 95) h dX9_readKind_95 ?_
    refine jr_iadd (pc := 96) h dX9_readKind_96 ?_
    refine pf_X9_211 (pc := 97) h dX9_readKind_97 hOf (by omega) ?_
    refine jm_gen (fun M2 hM2 => ?_)
    rw [fX8_5] at hM2
    have hMF := MF_g hMF hM2
    have f9 : fr (MFS f2) _ M2 := fr_up (S := MFS f2) hM2 ⟨by omega, by omega⟩
    have hX := MX_fr hX f9 (Nat.le_refl _) (fun k h1 h2 q => by have := q.1; have := q.2; omega)
    have fR := fr_tr fR (fr_mo f9 (fun k q => Or.inr q))
    obtain ⟨hnm, hOm, hBm⟩ := id hX
    have hOm : M2 m = jdO 9 (fX9 m _ _ fl (.ref f2)) := hOm
    obtain ⟨hnf, hOf, hAf⟩ := id hMF
    refine jr_vret (pc := 100) h hRt dX9_readKind_100 (Nat.le_of_ble_eq_true rfl) (Nat.le_of_ble_eq_true rfl) ?_
    have hcS : 0 ≤ ct (Int.toNat 2) ∧ ct (Int.toNat 2) < 8 := by show 0 ≤ ct 2 ∧ ct 2 < 8; omega
    have hFIr := hFR.2.2.1.2.2.2
    have e_ln : lnP bs ct (nxP bs p) (opT ct td 2) 2 = (p3, (up (up (opT ct td 2) (c_ix ct 2 0) v2) (c_ix ct 2 1) v3)) := by
      show ln_2 bs ct (nnP bs 2 (ct 2) (nxP bs p)) (opT ct td 2) = _
      unfold ln_2
      rw [hk2.2.2.1, hk3.2.2.1, ← ep3, ← ep2, ← ep1, hk0.2.1]
    have e_tln : tlnP bs ct td 2 p = (p3, up ct 2 (ct 2 + 1), (up (up (opT ct td 2) (c_ix ct 2 0) v2) (c_ix ct 2 1) v3)) := by
      rw [tln_1 (by omega) (by show ¬ (4 : Int) ≤ ct 2; omega), e_ln]
      unfold tlnC
      show (p3, (if p3.1 7 = 0 then up ct 2 (ct 2 + 1) else ct), (up (up (opT ct td 2) (c_ix ct 2 0) v2) (c_ix ct 2 1) v3)) = _
      rw [if_pos hpe]
    have t0 : c_get (up (up (opT ct td 2) (c_ix ct 2 0) v2) (c_ix ct 2 1) v3) 2 (ct 2) 0 = v2 := (gn_ne (by omega) hcS rfl (by omega) (by omega) (by omega)).trans (gn_eq (by omega) hcS rfl (by omega))
    have t1 : c_get (up (up (opT ct td 2) (c_ix ct 2 0) v2) (c_ix ct 2 1) v3) 2 (ct 2) 1 = v3 := gn_eq (by omega) hcS rfl (by omega)
    rw [e_tln]
    refine ⟨⟨rfl, rfl⟩, _, _, _, _, hX, hgk, hTR, hMF, ?_, fun _ => ?_, fR⟩
    · refine RB_up (k := 5) hRB1 ⟨by omega, by omega⟩ (by show gF1 5 < 4; omega) (fun i hi => by rw [up_ne (by omega), up_ne (by omega)]; exact hRB1.2.2.2.2 i hi) (fun j hj => by rw [up_ne (by omega), up_ne (by omega)])
    · show FR p3 (up ct 2 (ct 2 + 1)) (up (up (opT ct td 2) (c_ix ct 2 0) v2) (c_ix ct 2 1) v3) _ _
      refine FR_upd (s := 2) hFR ⟨by omega, by omega⟩ (by show ct 2 < 4; omega) (OUT_up (OUT_up OUT_op (by omega) hcS.1 (by omega)) (by omega) hcS.1 (by omega)) (rn_up (rn_up (rn_op hFIr) (by omega)) (by omega)) ?_ (fun q => absurd q (by decide)) (fun j h1 h2 h3 => by
        have hA9 := hAo j h2
        rw [up_ne (fun e => h3 (by rw [e]; rfl)), up_ne (fun e => h3 (by rw [e]; rfl)), hA9]) ⟨fun _ => ⟨by rw [t0]; show up (A1 1) (gF1 5).toNat v2 = up (A 1) (ct 2).toNat v2; rw [hAo 1 (by omega), hgo 5 (by omega), k5], by rw [t1]; show up (A1 2) (gF1 5).toNat v3 = up (A 2) (ct 2).toNat v3; rw [hAo 2 (by omega), hgo 5 (by omega), k5]⟩, fun q => absurd q (by decide), fun q => absurd q (by decide), fun q => absurd q (by decide), fun q => absurd q (by decide), fun q => absurd q (by decide), fun q => absurd q (by decide), fun q => absurd q (by decide), fun q => absurd q (by decide), fun q => absurd q (by decide), fun q => absurd q (by decide)⟩ (by show up gF1 5 (gF1 5 + 1) 5 = gF 5 + 1; rw [up_eq, hgo 5 (by omega)]) (fun j hj hne => by rw [up_ne (by omega), hgo j (by omega)]) (NR_K (hNRc hpe) K12_r (up_ne (by omega)) (fun j hj => by rw [up_ne (by omega), up_ne (by omega)])) (NI_K (hNIc hpe) K12_r (Int.le_refl _) (Int.le_refl _)) ?_
      · refine ⟨fun q => ?_, fun q => ?_, fun q => ?_, fun q => ?_, fun q => ?_, fun q => ?_, fun q => ?_, fun q => ?_, fun q => ?_, fun q => ?_, fun q => ?_, fun q => ?_, fun q => ?_⟩ <;> first | (exfalso; omega) | (rw [t0, t1]; omega)
      · rw [if_pos (by omega)]
        have e12 : p1.1 12 = p0.1 12 + 1 := by rw [hk1.2.2, K12_nx.2]; show up p0.1 12 (p0.1 12 + 1) 12 = _; rw [up_eq]
        have e0 := hk0.2.2.2
        have x2 := hk2.2.1.2
        have x3 := hk3.2.1.2
        omega
  · first | have d_51 := bz_0.mp c_51 | have d_51 := bz_1.mp c_51 | skip
    refine jr_vret (pc := 54) h hRt dX9_readKind_54 (Nat.le_of_ble_eq_true rfl) (Nat.le_of_ble_eq_true rfl) ?_
    have h57 := (TR_5 hTR hPO).1
    have hpf : p3.1 7 ≠ 0 := h57.1 (by omega)
    have e_end : (tlnP bs ct td 2 p).1 = p3 := by
      rcases hc0 with ⟨hlm, e0⟩ | ⟨hlm, e0⟩
      · have hb0 : p0.1 7 ≠ 0 := by rw [e0]; exact flP_x (by omega)
        have e1 := hf1 hb0
        have hb1 : p1.1 7 ≠ 0 := by rw [e1]; exact hb0
        have e2 := hf2 hb1
        have hb2 : p2.1 7 ≠ 0 := by rw [e2]; exact hb1
        have e3 := hf3 hb2
        have hb3 : p3.1 7 ≠ 0 := by rw [e3]; exact hb2
        rw [tln_0 (by omega) (by show (4 : Int) ≤ ct 2; omega)]
        show flP 5 p = p3
        rw [e3, e2, e1, e0]
      · rw [tln_1 (by omega) (by show ¬ (4 : Int) ≤ ct 2; omega)]
        show (ln_2 bs ct (nnP bs 2 (ct 2) (nxP bs p)) (opT ct td 2)).1 = p3
        rw [← ep3, ← ep2, ← ep1, e0]
        unfold ln_2
        rfl
    exact ⟨⟨rfl, rfl⟩, _, _, _, _, hX, hgk, (by rw [e_end]; exact hTR), hMF, hRB1, fun q => absurd q (by rw [e_end]; exact hpf), fR⟩
set_option maxHeartbeats 1000000 in
set_option maxRecDepth 20000 in
theorem s_X9_readBatch {l : Launch} {n : Nat} {M : jdM} {m f2 : Nat} {g : Nat → Int} {w : Int} {fl : Value} {B : Nat → Nat → Int} (hX : MX M n m g w fl (.ref f2) B) {bs : Nat → Int} (hbt : ∀ j, j < 900 → B 1 j = bs j) (hbb : ∀ j, -128 ≤ bs j ∧ bs j ≤ 127) {p : TS} (hTR : TR bs p g w) (hPO : PO p) {gF : Nat → Int} {A : Nat → Nat → Int} (hMF : MF M n f2 gF A) (hsep : f2 + 30 < m ∨ m + 12 < f2) (hRB : RB gF A) {ct td : Nat → Int} (hFR : FR p ct td gF A) (q7 : p.1 7 = 0) (q4 : p.1 4 = 1) : Ct l yX9_readBatch cX9_readBatch 3 none rX9_readBatch [.ref m] n M (fun vv n' M' => (vv = none ∧ n = n') ∧ ∃ g' w' gF' A', MX M' n m g' w' fl (.ref f2) B ∧ gkp g g' ∧ TR bs (tlnP bs ct td 3 p).1 g' w' ∧ MF M' n f2 gF' A' ∧ RB gF' A' ∧ ((tlnP bs ct td 3 p).1.1 7 = 0 → FR (tlnP bs ct td 3 p).1 (tlnP bs ct td 3 p).2.1 (tlnP bs ct td 3 p).2.2 gF' A') ∧ fr (RFS m f2) M M') := by
  refine Ct_of [some (.ref m), none, none] (by decide) (Nat.le_of_ble_eq_true rfl) rfl (fun κ hl h hR hRt hmn hn0 => ?_)
  have h : Ok κ RX9 cX9_readBatch 3 none := h
  obtain ⟨hnm, hOm, hBm⟩ := id hX
  have hOm : M m = jdO 9 (fX9 m _ _ fl (.ref f2)) := hOm
  obtain ⟨hnf, hOf, hAf⟩ := id hMF
  have fR : fr (RFS m f2) M M := fr_rf
  have hgk : gkp g g := gkp_r
  have hNB := hRB.1
  obtain ⟨hcb, h0b, h3b, h8b⟩ := hRB.2
  have hNRp := hFR.2.2.2.1
  have hNIp := hFR.2.2.2.2.1
  have hcnt := hFR.2.2.2.2.2.2
  obtain ⟨k5, k6, k7, k8, k9, k10, k11, k12, k13, k14, k15⟩ := hFR.2.1
  have hNBc := hNB.1
  refine jr_aload_n (pc := 0) h dX9_readBatch_0 rfl ?_
  refine jr_aload_n (pc := 1) h dX9_readBatch_1 rfl ?_
  refine gf_X9_174 (pc := 2) h dX9_readBatch_2 (by assumption) (by omega) ?_
  refine gf_X9_289 (pc := 5) h dX9_readBatch_5 (by assumption) (by omega) ?_
  refine jr_bipush (pc := 8) h dX9_readBatch_8 bp_6 ?_
  refine iv_X9_274 (pc := 10) h hl hR dX9_readBatch_10 ⟨(Nat.le_of_ble_eq_true rfl), (Nat.le_of_ble_eq_true rfl), (Nat.le_of_ble_eq_true rfl), (Nat.le_of_ble_eq_true rfl)⟩ (Nat.le_of_ble_eq_true rfl) (by assumption) (by omega) (s_X9_begins hX hbt hbb hTR hPO q7 q4 (x := gF 6) (y := 6) (by omega) (by omega)) (fun v_10 n_10 M_10 hn_10 hp => ?_)
  obtain ⟨⟨rfl, rfl⟩, g1, w1, hX, hg1, hTR, f9⟩ := hp
  have fR := fr_tr fR (fr_mo f9 (fun k q => Or.inl q))
  have hgk := gkp_t hgk hg1
  have hMF := MF_fr hMF f9 (Nat.le_refl _) (fun k h1 h2 q => by have := q.1; have := q.2; omega)
  obtain ⟨p0, ep0⟩ : ∃ z, (if gF 6 = 6 then flP 5 p else nxP bs p) = z := ⟨_, rfl⟩
  rw [ep0] at hTR
  have hc0 : (ct 3 = 6 ∧ p0 = flP 5 p) ∨ (ct 3 < 6 ∧ p0 = nxP bs p) := by
    rw [← ep0]
    by_cases q : gF 6 = 6
    · rw [if_pos q]; exact Or.inl ⟨by omega, rfl⟩
    · rw [if_neg q]; exact Or.inr ⟨by omega, rfl⟩
  replace hPO : PO p0 := by
    rcases hc0 with ⟨-, e⟩ | ⟨-, e⟩ <;> rw [e]
    · exact flP_O hPO (by omega)
    · exact nxP_O hPO
  have hok0 : Imp (OKp p0) (ct 3 < 6 ∧ p0 = nxP bs p ∧ K12 p p0) := fun q => by
    rcases hc0 with ⟨-, e⟩ | ⟨h9, e⟩
    · rw [e] at q; exact absurd q (flP_x (by omega))
    · exact ⟨h9, e, by rw [e]; exact K12_nx⟩
  have hNRc : Imp (p0.1 7 = 0) (NR p0 gF A) := fun q => NR_K hNRp (hok0 q).2.2 rfl (fun _ _ => rfl)
  have hNIc : Imp (p0.1 7 = 0) (NI p0 ct) := fun q => NI_K hNIp (hok0 q).2.2 (Int.le_refl _) (Int.le_refl _)
  obtain ⟨hnm, hOm, hBm⟩ := id hX
  have hOm : M_10 m = jdO 9 (fX9 m _ _ fl (.ref f2)) := hOm
  obtain ⟨hnf, hOf, hAf⟩ := id hMF
  
  refine jr_aload_n (pc := 13) h dX9_readBatch_13 rfl ?_
  refine jr_iconst (pc := 14) h dX9_readBatch_14 ?_
  refine iv_X9_292 (pc := 15) h hl hR dX9_readBatch_15 ⟨(Nat.le_of_ble_eq_true rfl), (Nat.le_of_ble_eq_true rfl), (Nat.le_of_ble_eq_true rfl), (Nat.le_of_ble_eq_true rfl)⟩ (Nat.le_of_ble_eq_true rfl) (by assumption) (by omega) (s_X9_readKnown hX hbt hbb (p := p0) hTR hPO hMF hsep hNB hNRc (s := 2) (x := 0) (by omega) rfl) (fun v_15 n_15 M_15 hn_15 hp => ?_)
  obtain ⟨v1, ⟨rfl, rfl⟩, hvr1, hve1, g1, w1, hX, hg1, hTR, f9⟩ := hp
  have fR := fr_tr fR (fr_mo f9 (fun k q => Or.inl q))
  have hgk := gkp_t hgk hg1
  have hMF := MF_fr hMF f9 (Nat.le_refl _) (fun k h1 h2 q => by have := q.1; have := q.2; omega)
  obtain ⟨p1, ep1⟩ : ∃ z, (enP bs 2 p0).2 = z := ⟨_, rfl⟩
  rw [ep1] at hTR hve1
  replace hPO : PO p1 := by rw [← ep1]; exact enP_O hPO
  have hok1 : Imp (OKp p1) (OKp p0 ∧ K12 p0 p1 ∧ v1 = (enP bs 2 p0).1 ∧ (0 ≤ v1 ∧ v1 < ct 2)) := fun q => by
    have e := hve1 q
    rw [← ep1] at q ⊢
    have h9 := ok_en q
    rw [e]
    obtain ⟨h91, h92, j9, hj1, hj2, hj3⟩ := h9
    refine ⟨h91, h92, rfl, ?_⟩
    rw [hj3]
    have hz9 := (hNIc h91 j9 hj1).1 hj2
    exact hz9
  clear hve1
  have hf1 : Imp (p0.1 7 ≠ 0) (p1 = p0) := fun q => by rw [← ep1]; exact xP_f_en q
  have hNRc : Imp (p1.1 7 = 0) (NR p1 gF A) := fun q => NR_K (hNRc (hok1 q).1) (hok1 q).2.1 rfl (fun _ _ => rfl)
  have hNIc : Imp (p1.1 7 = 0) (NI p1 ct) := fun q => NI_K (hNIc (hok1 q).1) (hok1 q).2.1 (Int.le_refl _) (Int.le_refl _)
  obtain ⟨hnm, hOm, hBm⟩ := id hX
  have hOm : M_15 m = jdO 9 (fX9 m _ _ fl (.ref f2)) := hOm
  obtain ⟨hnf, hOf, hAf⟩ := id hMF
  
  have h5r := (TR_5 hTR hPO).2.2
  refine jr_istore_n (pc := 18) h [_, _, _] dX9_readBatch_18 (by decide) rfl ?_
  refine jr_aload_n (pc := 19) h dX9_readBatch_19 rfl ?_
  refine jr_ldcwS (pc := 20) h 44 (by decide) ⟨rfl, rfl⟩ dX9_readBatch_20 ?_
  refine jr_iconst (pc := 23) h dX9_readBatch_23 ?_
  refine jr_sipush (pc := 24) h dX9_readBatch_24 sp_300 ?_
  refine iv_X9_257 (pc := 27) h hl hR dX9_readBatch_27 ⟨(Nat.le_of_ble_eq_true rfl), (Nat.le_of_ble_eq_true rfl), (Nat.le_of_ble_eq_true rfl), (Nat.le_of_ble_eq_true rfl)⟩ (Nat.le_of_ble_eq_true rfl) (by assumption) (by omega) (s_X9_readPart hX hbt hbb (p := p1) (k := 44) (x := 0) (y := 300) hTR hPO (by omega) (by omega) (by omega) (by omega)) (fun v_27 n_27 M_27 hn_27 hp => ?_)
  obtain ⟨v2, ⟨rfl, rfl⟩, hvr2, hve2, g1, w1, hX, hg1, hTR, f9⟩ := hp
  have fR := fr_tr fR (fr_mo f9 (fun k q => Or.inl q))
  have hgk := gkp_t hgk hg1
  have hMF := MF_fr hMF f9 (Nat.le_refl _) (fun k h1 h2 q => by have := q.1; have := q.2; omega)
  rw [lb_c (show jtxt 44 = jtxt 11 from rfl)] at hve2 hTR
  obtain ⟨p2, ep2⟩ : ∃ z, (lbP bs 11 0 300 p1).2 = z := ⟨_, rfl⟩
  rw [ep2] at hTR hve2
  replace hPO : PO p2 := by rw [← ep2]; exact (fun h => ehP_O (ewP_O h)) hPO
  have hok2 : Imp (OKp p2) (OKp p1 ∧ K12 p1 p2 ∧ v2 = (lbP bs 11 0 300 p1).1 ∧ (0 ≤ v2 ∧ v2 ≤ 300)) := fun q => by
    have e := hve2 q
    rw [← ep2] at q ⊢
    have h9 := ok_lb q
    rw [e]
    exact ⟨h9.1, h9.2.2, rfl, h9.2.1⟩
  clear hve2
  have hf2 : Imp (p1.1 7 ≠ 0) (p2 = p1) := fun q => by rw [← ep2]; exact xP_f_lb q
  have hNRc : Imp (p2.1 7 = 0) (NR p2 gF A) := fun q => NR_K (hNRc (hok2 q).1) (hok2 q).2.1 rfl (fun _ _ => rfl)
  have hNIc : Imp (p2.1 7 = 0) (NI p2 ct) := fun q => NI_K (hNIc (hok2 q).1) (hok2 q).2.1 (Int.le_refl _) (Int.le_refl _)
  obtain ⟨hnm, hOm, hBm⟩ := id hX
  have hOm : M_27 m = jdO 9 (fX9 m _ _ fl (.ref f2)) := hOm
  obtain ⟨hnf, hOf, hAf⟩ := id hMF
  
  have h5r := (TR_5 hTR hPO).2.2
  refine jr_istore_n (pc := 30) h [_, _, _] dX9_readBatch_30 (by decide) rfl ?_
  refine jr_aload_n (pc := 31) h dX9_readBatch_31 rfl ?_
  refine gf_X9_80 (pc := 32) h dX9_readBatch_32 (by assumption) (by omega) ?_
  refine jr_iconst (pc := 35) h dX9_readBatch_35 ?_
  refine jr_icmp_ne (pc := 36) h 40 dX9_readBatch_36 (by decide) (by omega) (by omega) (fun c_36 => ?_) (fun c_36 => ?_)
  · first | have d_36 := bz_0.mp c_36 | have d_36 := bz_1.mp c_36 | skip
    have h57 := (TR_5 hTR hPO).1
    have hpe : p2.1 7 = 0 := Classical.byContradiction (fun q => by have := h57.2 q; omega)
    have hk2 := hok2 hpe
    have hk1 := hok1 hk2.1
    have hk0 := hok0 hk1.1
    have hl0 := hk0.1
    have hr1 := hk1.2.2.2
    have hv1 := hk1.2.2.1
    have hr2 := hk2.2.2.2
    have hv2 := hk2.2.2.1
    have hA3 : M_27 (f2 + 3) = jdA 6 (A 3) := hAf 3 (by omega) (by omega)
    have hA4 : M_27 (f2 + 4) = jdA 6 (A 4) := hAf 4 (by omega) (by omega)
    refine jr_aload_n (pc := 40) h dX9_readBatch_40 rfl ?_
    refine gf_X9_174 (pc := 41) h dX9_readBatch_41 (by assumption) (by omega) ?_
    refine gf_X9_296 (pc := 44) h dX9_readBatch_44 (by assumption) (by omega) ?_
    refine jr_aload_n (pc := 47) h dX9_readBatch_47 rfl ?_
    refine gf_X9_174 (pc := 48) h dX9_readBatch_48 (by assumption) (by omega) ?_
    refine gf_X9_289 (pc := 51) h dX9_readBatch_51 (by assumption) (by omega) ?_
    refine jr_iload_n (pc := 54) h dX9_readBatch_54 rfl ?_
    refine jr_iast (pc := 55) h dX9_readBatch_55 hA3 (by omega) (by omega) ?_
    refine jm_gen (fun M2 hM2 => ?_)
    have hMF := MF_A (i := 3) hMF hM2 (by omega)
    have f9 : fr (MFS f2) _ M2 := fr_up (S := MFS f2) hM2 ⟨by omega, by omega⟩
    have hX := MX_fr hX f9 (Nat.le_refl _) (fun k h1 h2 q => by have := q.1; have := q.2; omega)
    have fR := fr_tr fR (fr_mo f9 (fun k q => Or.inr q))
    obtain ⟨hnm, hOm, hBm⟩ := id hX
    have hOm : M2 m = jdO 9 (fX9 m _ _ fl (.ref f2)) := hOm
    obtain ⟨hnf, hOf, hAf⟩ := id hMF
    have hA4 : M2 (f2 + 4) = jdA 6 (A 4) := hAf 4 (by omega) (by omega)
    refine jr_aload_n (pc := 56) h dX9_readBatch_56 rfl ?_
    refine gf_X9_174 (pc := 57) h dX9_readBatch_57 (by assumption) (by omega) ?_
    refine gf_X9_299 (pc := 60) h dX9_readBatch_60 (by assumption) (by omega) ?_
    refine jr_aload_n (pc := 63) h dX9_readBatch_63 rfl ?_
    refine gf_X9_174 (pc := 64) h dX9_readBatch_64 (by assumption) (by omega) ?_
    refine gf_X9_289 (pc := 67) h dX9_readBatch_67 (by assumption) (by omega) ?_
    refine jr_iload_n (pc := 70) h dX9_readBatch_70 rfl ?_
    refine jr_iast (pc := 71) h dX9_readBatch_71 hA4 (by omega) (by omega) ?_
    refine jm_gen (fun M2 hM2 => ?_)
    have hMF := MF_A (i := 4) hMF hM2 (by omega)
    have f9 : fr (MFS f2) _ M2 := fr_up (S := MFS f2) hM2 ⟨by omega, by omega⟩
    have hX := MX_fr hX f9 (Nat.le_refl _) (fun k h1 h2 q => by have := q.1; have := q.2; omega)
    have fR := fr_tr fR (fr_mo f9 (fun k q => Or.inr q))
    obtain ⟨hnm, hOm, hBm⟩ := id hX
    have hOm : M2 m = jdO 9 (fX9 m _ _ fl (.ref f2)) := hOm
    obtain ⟨hnf, hOf, hAf⟩ := id hMF
    
    refine jr_aload_n (pc := 72) h dX9_readBatch_72 rfl ?_
    refine gf_X9_174 (pc := 73) h dX9_readBatch_73 (by assumption) (by omega) ?_
    refine jr_dup (pc := 76) h dX9_readBatch_76 rfl ?_
    refine gf_X9_289 (pc := 77) h dX9_readBatch_77 (by assumption) (by omega) ?_
    refine jr_iconst (pc := 80) h dX9_readBatch_80 ?_
    refine jr_iadd (pc := 81) h dX9_readBatch_81 ?_
    refine pf_X9_289 (pc := 82) h dX9_readBatch_82 hOf (by omega) ?_
    refine jm_gen (fun M2 hM2 => ?_)
    rw [fX8_6] at hM2
    have hMF := MF_g hMF hM2
    have f9 : fr (MFS f2) _ M2 := fr_up (S := MFS f2) hM2 ⟨by omega, by omega⟩
    have hX := MX_fr hX f9 (Nat.le_refl _) (fun k h1 h2 q => by have := q.1; have := q.2; omega)
    have fR := fr_tr fR (fr_mo f9 (fun k q => Or.inr q))
    obtain ⟨hnm, hOm, hBm⟩ := id hX
    have hOm : M2 m = jdO 9 (fX9 m _ _ fl (.ref f2)) := hOm
    obtain ⟨hnf, hOf, hAf⟩ := id hMF
    refine jr_vret (pc := 85) h hRt dX9_readBatch_85 (Nat.le_of_ble_eq_true rfl) (Nat.le_of_ble_eq_true rfl) ?_
    have hcS : 0 ≤ ct (Int.toNat 3) ∧ ct (Int.toNat 3) < 8 := by show 0 ≤ ct 3 ∧ ct 3 < 8; omega
    have hFIr := hFR.2.2.1.2.2.2
    have e_ln : lnP bs ct (nxP bs p) (opT ct td 3) 3 = (p2, (up (up (opT ct td 3) (c_ix ct 3 0) v1) (c_ix ct 3 1) v2)) := by
      show ln_3 bs ct (nxP bs p) (opT ct td 3) = _
      unfold ln_3
      rw [hk1.2.2.1, hk2.2.2.1, ← ep2, ← ep1, hk0.2.1]
    have e_tln : tlnP bs ct td 3 p = (p2, up ct 3 (ct 3 + 1), (up (up (opT ct td 3) (c_ix ct 3 0) v1) (c_ix ct 3 1) v2)) := by
      rw [tln_1 (by omega) (by show ¬ (6 : Int) ≤ ct 3; omega), e_ln]
      unfold tlnC
      show (p2, (if p2.1 7 = 0 then up ct 3 (ct 3 + 1) else ct), (up (up (opT ct td 3) (c_ix ct 3 0) v1) (c_ix ct 3 1) v2)) = _
      rw [if_pos hpe]
    have t0 : c_get (up (up (opT ct td 3) (c_ix ct 3 0) v1) (c_ix ct 3 1) v2) 3 (ct 3) 0 = v1 := (gn_ne (by omega) hcS rfl (by omega) (by omega) (by omega)).trans (gn_eq (by omega) hcS rfl (by omega))
    have t1 : c_get (up (up (opT ct td 3) (c_ix ct 3 0) v1) (c_ix ct 3 1) v2) 3 (ct 3) 1 = v2 := gn_eq (by omega) hcS rfl (by omega)
    rw [e_tln]
    refine ⟨⟨rfl, rfl⟩, _, _, _, _, hX, hgk, hTR, hMF, ?_, fun _ => ?_, fR⟩
    · refine RB_up (k := 6) hRB ⟨by omega, by omega⟩ (by show gF 6 < 6; omega) (fun i hi => by rw [up_ne (by omega), up_ne (by omega)]; exact hRB.2.2.2.2 i hi) (fun j hj => by rw [up_ne (by omega), up_ne (by omega)])
    · show FR p2 (up ct 3 (ct 3 + 1)) (up (up (opT ct td 3) (c_ix ct 3 0) v1) (c_ix ct 3 1) v2) _ _
      refine FR_upd (s := 3) hFR ⟨by omega, by omega⟩ (by show ct 3 < 6; omega) (OUT_up (OUT_up OUT_op (by omega) hcS.1 (by omega)) (by omega) hcS.1 (by omega)) (rn_up (rn_up (rn_op hFIr) (by omega)) (by omega)) ?_ (fun q => absurd q (by decide)) (fun j h1 h2 h3 => by
        rw [up_ne (fun e => h3 (by rw [e]; rfl)), up_ne (fun e => h3 (by rw [e]; rfl))]) ⟨fun q => absurd q (by decide), fun _ => ⟨by rw [t0]; show up (A 3) (gF 6).toNat v1 = up (A 3) (ct 3).toNat v1; rw [k6], by rw [t1]; show up (A 4) (gF 6).toNat v2 = up (A 4) (ct 3).toNat v2; rw [k6]⟩, fun q => absurd q (by decide), fun q => absurd q (by decide), fun q => absurd q (by decide), fun q => absurd q (by decide), fun q => absurd q (by decide), fun q => absurd q (by decide), fun q => absurd q (by decide), fun q => absurd q (by decide), fun q => absurd q (by decide)⟩ (by show up gF 6 (gF 6 + 1) 6 = gF 6 + 1; rw [up_eq]) (fun j hj hne => by rw [up_ne (by omega)]) (NR_K (hNRc hpe) K12_r (up_ne (by omega)) (fun j hj => by rw [up_ne (by omega), up_ne (by omega)])) (NI_K (hNIc hpe) K12_r (by first | (rw [up_ne (by omega)]; omega) | (rw [up_eq]; omega)) (by first | (rw [up_ne (by omega)]; omega) | (rw [up_eq]; omega))) ?_
      · refine ⟨fun q => ?_, fun q => ?_, fun q => ?_, fun q => ?_, fun q => ?_, fun q => ?_, fun q => ?_, fun q => ?_, fun q => ?_, fun q => ?_, fun q => ?_, fun q => ?_, fun q => ?_⟩ <;> first | (exfalso; omega) | (rw [t0, t1]; omega)
      · rw [if_neg (by omega)]
        have e0 := hk0.2.2.2
        have x1 := hk1.2.1.2
        have x2 := hk2.2.1.2
        omega
  · first | have d_36 := bz_0.mp c_36 | have d_36 := bz_1.mp c_36 | skip
    refine jr_vret (pc := 39) h hRt dX9_readBatch_39 (Nat.le_of_ble_eq_true rfl) (Nat.le_of_ble_eq_true rfl) ?_
    have h57 := (TR_5 hTR hPO).1
    have hpf : p2.1 7 ≠ 0 := h57.1 (by omega)
    have e_end : (tlnP bs ct td 3 p).1 = p2 := by
      rcases hc0 with ⟨hlm, e0⟩ | ⟨hlm, e0⟩
      · have hb0 : p0.1 7 ≠ 0 := by rw [e0]; exact flP_x (by omega)
        have e1 := hf1 hb0
        have hb1 : p1.1 7 ≠ 0 := by rw [e1]; exact hb0
        have e2 := hf2 hb1
        have hb2 : p2.1 7 ≠ 0 := by rw [e2]; exact hb1
        rw [tln_0 (by omega) (by show (6 : Int) ≤ ct 3; omega)]
        show flP 5 p = p2
        rw [e2, e1, e0]
      · rw [tln_1 (by omega) (by show ¬ (6 : Int) ≤ ct 3; omega)]
        show (ln_3 bs ct (nxP bs p) (opT ct td 3)).1 = p2
        rw [← ep2, ← ep1, e0]
        unfold ln_3
        rfl
    exact ⟨⟨rfl, rfl⟩, _, _, _, _, hX, hgk, (by rw [e_end]; exact hTR), hMF, hRB, fun q => absurd q (by rw [e_end]; exact hpf), fR⟩
