/-! 98.i: methods that return or throw -/
/-- where the exception has left: memory as PostX says -/
def jXc (E0 : String) (dC : Nat → ClassId) (dI : Nat → Nat → Nat) (dA : Nat → ClassId) (ad : Nat → Nat) (sz n : Nat) (M : jdM) (PostX : Nat → jdM → Prop) : String → State → State → Prop := fun E st t =>
  E = E0 ∧ (∃ (ad' : Nat → Nat) (n' : Nat) (M' : jdM), (∀ k, (k < n ∨ 1000000 ≤ k) → ad' k = ad k) ∧ n ≤ n' ∧ n' ≤ 1000000 ∧ (∀ k, k < n' → jokE n' (M' k)) ∧ va_P (dC, dI) vwCl (jW dA ad' n' M') t.heap ∧ va_D (va_A (jW dA ad n M) sz) (jW dA ad' n' M') ∧ PostX n' M') ∧ va_F (va_A (jW dA ad n M) sz) st t
/-- a contract with two ends -/
def CtX (l : Launch) (E0 : String) (y : MethodName) (cc : ByteArray) (maxL : Nat) (ret : Option FieldType) (rm : Room) (vs : List Value) (n : Nat) (M : jdM) (Post : Option Value → Nat → jdM → Prop) (PostX : Nat → jdM → Prop) (X4 : List Cond) : Prop :=
  ∀ (dC : Nat → ClassId) (dI : Nat → Nat → Nat) (dA : Nat → ClassId) (ad : Nat → Nat) (sz : Nat), vx_Met l y (Cond.code y cc maxL ret :: wsL_law) rm (fun v U => jPc dC dI dA ad sz n M vs v U ∧ ∀ w ∈ X4, w.before v U = true) (jQc dC dI dA ad sz n M Post) (jXc E0 dC dI dA ad sz n M PostX) rm.cells rm.slots (va_A (jW dA ad n M) sz)
def RtX (κ : jC) (E0 : String) (mc ms : Nat) (Post : Option Value → Nat → jdM → Prop) (PostX : Nat → jdM → Prop) : Prop :=
  match κ with
  | (p, l, e, R, s, m, args, below, meth, c0, Q, A, dC, dI, dA, n0, ad0) => ∃ M0 : jdM, A = va_A (jW dA ad0 n0 M0) s.heap.size ∧ Q = vx_MQ below (jQc dC dI dA ad0 s.heap.size n0 M0 Post) (jXc E0 dC dI dA ad0 s.heap.size n0 M0 PostX) args s mc ms A
theorem CtX_of {l : Launch} {E0 : String} {y : MethodName} {cc : ByteArray} {maxL : Nat} {ret : Option FieldType} {rm : Room} {vs : List Value} {n : Nat} {M : jdM} {Post : Option Value → Nat → jdM → Prop} {PostX : Nat → jdM → Prop} {X4 : List Cond} (ls : List (Option Value)) (hy : plainName y.cls = true) (hlen : (lg_sl vs).length ≤ maxL) (hls : jargs vs ++ List.replicate (maxL - (jargs vs).length) none = ls)
    (body : ∀ κ : jC, κ.2.1 = l → Ok κ y.cls cc maxL ret → Rm κ rm.frames rm.locals rm.cells rm.slots → RtX κ E0 rm.cells rm.slots Post PostX → (κ.2.2.2.2.2.2.2.2.1).name = y.name → n ≤ 1000000 → (∀ x ∈ κ.2.2.2.2.2.2.2.2.2.1.exceptionTable.toList, False) → (∀ w ∈ X4, w.before κ.2.2.2.2.2.2.1 κ.2.2.2.2.1 = true) → J κ maxL 0 0 n 0 ls [] M) : CtX l E0 y cc maxL ret rm vs n M Post PostX X4 := by
  intro dC dI dA ad sz
  refine vx_ofW (cc := cc) (maxL := maxL) (ret := ret) hy rfl ?_
  intro p e s m args below meth c s₁ B hml hex hv
  obtain ⟨⟨rfl, hsz, hn, hM, hvs, hP, hD, hK, hSF⟩, hX4⟩ := hv
  subst hsz
  have hts0 := atoms_spec (ws := Cond.code y cc maxL ret :: wsL_law) B.pre
  have hb := body (p, l, e, (headSpec (Cond.code y cc maxL ret :: wsL_law) rm).room, s, m, (vs.map (jv ad)).toArray, below, meth, c, vx_MQ below (jQc dC dI dA ad s.heap.size n M Post) (jXc E0 dC dI dA ad s.heap.size n M PostX) (vs.map (jv ad)).toArray s rm.cells rm.slots (va_A (jW dA ad n M) s.heap.size), va_A (jW dA ad n M) s.heap.size, dC, dI, dA, n, ad) rfl
    ⟨B.exec, B.bytes, hml, findClass_of_methodNamed B.named, fun w hw => hts0 w (List.mem_cons_of_mem _ hw), hK, B.returns, B.notSynchronized, fun q h => Or.inr h, hSF⟩ ⟨Nat.le_refl _, Nat.le_refl _, Nat.le_refl _, Nat.le_refl _⟩ ⟨M, rfl, rfl⟩ (name_of_methodNamed B.named B.method).1 hn hex hX4
  have hl := lv_entry (vs.map (jv ad)) (n := maxL) (by
    have : lg_sl (vs.map (jv ad)) = lg_sl (vs.map (jv ad)) := rfl
    have h2 : (lg_sl (vs.map (jv ad))).length = (lg_sl vs).length := by
      simp only [lg_sl, List.length_flatMap, List.map_map]
      congr 1
      apply List.map_congr_left
      intro v _
      simp only [Function.comp, jv_cat]
      split <;> rfl
    omega)
  rw [lg_entry_eq]
  refine hb ad s.heap [] _ (fun _ _ => rfl) (Nat.le_refl _) hn hM (fun v hv => ?_) (fun v hv => (by cases hv)) hP (hD.self) va_S.rf ?_
  · rw [← hls] at hv
    rcases List.mem_append.mp hv with h | h
    · exact hvs v (jargs_mem h)
    · cases List.eq_of_mem_replicate h
  · rw [← hls, jls_args]
    exact hl
theorem jr_iretX {κ : jC} {own : String} {cc : ByteArray} {nL : Nat} {E0 : String} {mc ms c sl n pc : Nat} {ls : List (Option Value)} {M : jdM} {Post : Option Value → Nat → jdM → Prop} {PostX : Nat → jdM → Prop} {ty : FieldType} {x : Int32} (h : Ok κ own cc nL (some ty)) (hR : RtX κ E0 mc ms Post PostX) (hd : decode cc pc = .ok (.ireturn, 1)) (hn : narrow ty (.int x) = .int x) (hc : c ≤ mc) (hs : sl ≤ ms) (hp : Post (some (.int x)) n M) : J κ nL c sl n pc ls [.int x] M := by
  obtain ⟨p, l, e, R, s, m, args, below, meth, c0, Q, A, dC, dI, dA, n0, ad0⟩ := κ
  obtain ⟨hx, hb, hml, hown, hts, hK, hr, hlk, hA, hSF⟩ := h
  obtain ⟨M0, hAe, hQ⟩ := hR
  intro ad H locs la h1 h2 h3 h4 h5 h6 hP hD hS hl
  refine W.widen hc hs ?_
  rw [hQ]
  refine vx_ret ?_
  refine W.zret hx hb hr hn (fun t ht hW => ⟨⟨some (.int x), ad, n, M, rfl, h1, h2, h3, h4, fun w hw => (by cases hw; trivial), by rw [ht]; exact hP, by rw [← hAe]; exact hD, hp⟩, by rw [← hAe]; exact hS.F ht⟩) hS.2.2 hd hlk
theorem jr_throwX {κ : jC} {own : String} {cc : ByteArray} {nL : Nat} {E0 : String} {mc ms c sl n pc : Nat} {ls : List (Option Value)} {M : jdM} {ret : Option FieldType} {Post : Option Value → Nat → jdM → Prop} {PostX : Nat → jdM → Prop} {fr lo ce sl0 : Nat} {names : List String} {ik ic : Nat} (h : Ok κ own cc nL ret) (hRm : Rm κ fr lo ce sl0) (hR : RtX κ E0 mc ms Post PostX) (hst : κ.2.1.stackTraces = false) (hex : ∀ x ∈ κ.2.2.2.2.2.2.2.2.2.1.exceptionTable.toList, False)
    (hcls : Bundle.fit E0 = true) (hnames : ∀ q ∈ names, Bundle.fit q = true) (hk : Cond.classLink own ik E0 ∈ wsL_law) (hini : Cond.initialized E0 ∈ wsL_law) {X4 : List Cond} (hX4 : ∀ w ∈ X4, w.before κ.2.2.2.2.2.2.1 κ.2.2.2.2.1 = true) (hat : ∀ w ∈ vx_at0 own ic E0 names, w ∈ wsL_law ∨ w ∈ X4)
    (hgood : ∀ w ∈ Cond.classLink own ik E0 :: Cond.initialized E0 :: vx_at0 own ic E0 names, vx_ot w = true)
    (d0 : decode cc pc = .ok (.new ik, 3)) (d3 : decode cc (pc + 3) = .ok (.dup, 1)) (d4 : decode cc (pc + 4) = .ok (.invokespecial ic, 3)) (d7 : decode cc (pc + 7) = .ok (.athrow, 1))
    (hf : names.length + 3 < fr) (hlo : 13 * (names.length + 1) + 42 ≤ lo) (hce : c + 1 ≤ ce) (hsl : sl + 6 ≤ sl0) (hc : c + 1 ≤ mc) (hs : sl + 6 ≤ ms) (hp : PostX n M) : J κ nL c sl n pc ls [] M := by
  obtain ⟨p, l, e, R, s, m, args, below, meth, c0, Q, A, dC, dI, dA, n0, ad0⟩ := κ
  obtain ⟨hx, hb, hml, hown, hts, hK, hr, hlk, hA, hSF⟩ := h
  obtain ⟨M0, hAe, hQ⟩ := hR
  obtain ⟨r1, r2, r3, r4⟩ := hRm
  intro ad H locs la h1 h2 h3 h4 h5 h6 hP hD hS hl
  rw [hQ]
  refine vx_throw0 (cls := E0) (names := names) (A := A) hx hb hst hown hcls hnames (hts _ hk) (hts _ hini) (fun w hw => (hat w hw).elim (hts w) (hX4 w)) hgood hSF.2.2.2.2.1 hSF.2.2.2.2.2.1 hS (hl.1.trans hml.symm) d0 d3 d4 d7 (fun x hx9 => (hex x hx9).elim) (by omega) (by
    show 0 + (13 * (names.length + 1) + 42) ≤ R.locals
    omega) (by omega) (by omega) hlk (fun t ha hsz hq => ?_) hS.2.2 hc hs
  refine ⟨rfl, ⟨ad, n, M, h1, h2, h3, h4, hP.kept (fun k q hk9 => hq q.1 (vx_lt hP hk9)), by rw [← hAe]; exact hD, hp⟩, ?_⟩
  rw [← hAe]
  exact ⟨by have := hS.1; omega, fun q q1 q2 => (hq q (by have := hS.1; omega)).trans (hS.2.1 q q1 q2)⟩
