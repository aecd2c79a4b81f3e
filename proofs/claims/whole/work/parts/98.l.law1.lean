/-! 98.l: the law's led: a call that is caught -/
theorem wm_1521 : (.classLink RL 13 "java/util/NoSuchElementException" : Cond) ∈ wsL_law := sr_64 _ (List.mem_of_getElem? (i := 9) rfl)
theorem nseX_warm {args a' : Array Value} {s U : State} (hW : s.WarmedH U.vm) (h : ∀ w ∈ nseX, w.before args s = true) : ∀ w ∈ nseX, w.before a' U = true := by
  have h0 : va_Nw (.castable NSE NSE) U := va_Nw.warmC hW (va_Nw.of rfl (h _ (List.mem_of_getElem? (i := 0) rfl)))
  have h1 : va_Nw (.declares (Bundle.init0 "java/lang/RuntimeException")) U := va_Nw.warmD hW (va_Nw.of rfl (h _ (List.mem_of_getElem? (i := 1) rfl)))
  have h2 : va_Nw (.declares (Bundle.init0 "java/lang/Exception")) U := va_Nw.warmD hW (va_Nw.of rfl (h _ (List.mem_of_getElem? (i := 2) rfl)))
  have h3 : va_Nw (.declares (Bundle.init0 "java/lang/Throwable")) U := va_Nw.warmD hW (va_Nw.of rfl (h _ (List.mem_of_getElem? (i := 3) rfl)))
  intro w hw
  rcases List.mem_cons.mp hw with rfl | hw
  · exact va_Nw.use rfl h0
  rcases List.mem_cons.mp hw with rfl | hw
  · exact va_Nw.use rfl h1
  rcases List.mem_cons.mp hw with rfl | hw
  · exact va_Nw.use rfl h2
  rcases List.mem_cons.mp hw with rfl | hw
  · exact va_Nw.use rfl h3
  cases hw
theorem jPcX_blind {dC : Nat → ClassId} {dI : Nat → Nat → Nat} {dA : Nat → ClassId} {ad : Nat → Nat} {sz n : Nat} {M : jdM} {vs : List Value} : FrameBlind (fun v U => jPc dC dI dA ad sz n M vs v U ∧ ∀ w ∈ nseX, w.before v U = true) := by
  intro a U g mk h
  exact ⟨jPc_blind a U g mk h.1, nseX_warm (s := U) (U := U.calling g mk a) (State.WarmedH.refl U) h.2⟩
/-- a contract of a method that has a table of its own -/
def CtH (l : Launch) (y : MethodName) (cc : ByteArray) (maxL : Nat) (ret : Option FieldType) (hh : List (Nat × Nat × Nat × Nat)) (rm : Room) (vs : List Value) (n : Nat) (M : jdM) (Post : Option Value → Nat → jdM → Prop) : Prop :=
  ∀ (dC : Nat → ClassId) (dI : Nat → Nat → Nat) (dA : Nat → ClassId) (ad : Nat → Nat) (sz : Nat), Met l y (Cond.codeWith y cc maxL ret hh :: wsL_law) rm (fun v U => jPc dC dI dA ad sz n M vs v U ∧ ∀ w ∈ nseX, w.before v U = true) (jQc dC dI dA ad sz n M Post) rm.cells rm.slots (va_A (jW dA ad n M) sz)
theorem CtH_of {l : Launch} {y : MethodName} {cc : ByteArray} {maxL : Nat} {ret : Option FieldType} {hh : List (Nat × Nat × Nat × Nat)} {rm : Room} {vs : List Value} {n : Nat} {M : jdM} {Post : Option Value → Nat → jdM → Prop} (ls : List (Option Value)) (hy : plainName y.cls = true) (hlen : (lg_sl vs).length ≤ maxL) (hls : jargs vs ++ List.replicate (maxL - (jargs vs).length) none = ls)
    (body : ∀ κ : jC, κ.2.1 = l → Ok κ y.cls cc maxL ret → Rm κ rm.frames rm.locals rm.cells rm.slots → Rt κ rm.cells rm.slots Post → n ≤ 1000000 → κ.2.2.2.2.2.2.2.2.2.1.exceptionTable.toList = tableOf hh → (∀ w ∈ nseX, w.before κ.2.2.2.2.2.2.1 κ.2.2.2.2.1 = true) → J κ maxL 0 0 n 0 ls [] M) : CtH l y cc maxL ret hh rm vs n M Post := by
  intro dC dI dA ad sz
  refine va_MetW (cc := cc) (maxL := maxL) (ret := ret) (hh := hh) hy rfl ?_
  intro p e s m args below meth c s₁ B hml hv
  obtain ⟨⟨rfl, hsz, hn, hM, hvs, hP, hD, hK, hSF⟩, hX4⟩ := hv
  subst hsz
  have hts0 := atoms_spec (ws := Cond.codeWith y cc maxL ret hh :: wsL_law) B.pre
  have hb := body (p, l, e, (headSpec (Cond.codeWith y cc maxL ret hh :: wsL_law) rm).room, s, m, (vs.map (jv ad)).toArray, below, meth, c, MQ below (jQc dC dI dA ad s.heap.size n M Post) (vs.map (jv ad)).toArray s rm.cells rm.slots (va_A (jW dA ad n M) s.heap.size), va_A (jW dA ad n M) s.heap.size, dC, dI, dA, n, ad) rfl
    ⟨B.exec, B.bytes, hml, findClass_of_methodNamed B.named, fun w hw => hts0 w (List.mem_cons_of_mem _ hw), hK, B.returns, B.notSynchronized, fun q h => Or.inr h, hSF⟩ ⟨Nat.le_refl _, Nat.le_refl _, Nat.le_refl _, Nat.le_refl _⟩ ⟨M, rfl, rfl⟩ hn (vx_table (x := y) B (hts0 _ List.mem_cons_self)) hX4
  have hl := lv_entry (vs.map (jv ad)) (n := maxL) (by
    have : lg_sl (vs.map (jv ad)) = lg_sl (vs.map (jv ad)) := rfl
    have h2 : (lg_sl (vs.map (jv ad))).length = (lg_sl vs).length := by
      simp only [lg_sl, List.length_flatMap, List.map_map]
      congr 1
      apply List.map_congr_left
      intro v _
      simp only [Function.comp, jv_cat]
      split <;> rfl
    omega)
  rw [lg_entry_eq]
  refine hb ad s.heap [] _ (fun _ _ => rfl) (Nat.le_refl _) hn hM (fun v hv => ?_) (fun v hv => (by cases hv)) hP (hD.self) va_S.rf ?_
  · rw [← hls] at hv
    rcases List.mem_append.mp hv with h | h
    · exact hvs v (jargs_mem h)
    · cases List.eq_of_mem_replicate h
  · rw [← hls, jls_args]
    exact hl
/-- at a handler, with what was caught on the stack -/
def JH (κ : jC) (nL c sl n pc : Nat) (ls : List (Option Value)) (M : jdM) : Prop :=
  match κ with
  | (p, l, e, R, s, m, args, below, meth, c0, Q, A, dC, dI, dA, n0, ad0) =>
    ∀ (ad : Nat → Nat) (H : Heap) (locs : List Loc) (la : Array Slot) (q : Nat), (∀ k, (k < n0 ∨ 1000000 ≤ k) → ad k = ad0 k) → n0 ≤ n → n ≤ 1000000 → (∀ k, k < n → jokE n (M k)) → (∀ v, some v ∈ ls → jok n v) →
      va_P (dC, dI) vwCl (jW dA ad n M) H → va_D A (jW dA ad n M) → va_S A s.heap H locs → lv_has la nL (jls ad 0 ls) →
      W p l e R s m args below meth c0 H locs c sl Q (F0 m pc la [.ref q])
theorem jr_hand {κ : jC} {own : String} {cc : ByteArray} {nL : Nat} {ret : Option FieldType} {c sl n pc : Nat} {ls : List (Option Value)} {M : jdM} (h : Ok κ own cc nL ret) {i : Fin 4} (hd : decode cc pc = .ok (.astore_n i, 1)) (hn : (i : Nat) < nL)
    (hsub : ∀ (ad : Nat → Nat) (z : Nat × Value), z ∈ jls ad 0 ls → z ∈ (jls ad 0 ls).filter (fun q => !(q.1 == (i : Nat)) && !(q.1 + 1 == (i : Nat) && q.2.category == 2))) (k : J κ nL c sl n (pc + 1) ls [] M) : JH κ nL c sl n pc ls M := by
  obtain ⟨p, l, e, R, s, m, args, below, meth, c0, Q, A, dC, dI, dA, n0, ad0⟩ := κ
  obtain ⟨hx, hb, hml, hown, hts, hK, hr, hlk, hA, hSF⟩ := h
  intro ad H locs la q h1 h2 h3 h4 h5 hP hD hS hl
  exact lv_astore_n hx hb hd rfl hl hn rfl (fun la' hl' => k ad H locs la' h1 h2 h3 h4 h5 (fun v hv => by cases hv) hP hD hS ⟨hl'.1, hl'.2.1, fun z hz => hl'.2.2 z (List.mem_cons_of_mem _ (hsub ad z hz))⟩)
/-- a call that returns, or throws what is caught here -/
theorem jr_invVX {κ : jC} {own : String} {cc : ByteArray} {nL : Nat} {ret : Option FieldType} {c sl n pc : Nat} {ls : List (Option Value)} {st : List Value} {M : jdM} {Post : Option Value → Nat → jdM → Prop} {PostX : Nat → jdM → Prop} (h : Ok κ own cc nL ret) {l : Launch} (hlκ : κ.2.1 = l) {fr lo ce sl0 : Nat} (hRm : Rm κ fr lo ce sl0) {y : MethodName} {bytes : ByteArray} {maxL : Nat} {ret' : Option FieldType} {rm : Room} {k ci N index : Nat} {C : String} {T : u_T} {F : Nat → Value} {vs rest : List Value} (hcl : vwCl[ci]? = some (C, T, N)) (hyC : y.cls = C)
    (w1 : Cond.methodLink own index y ∈ wsL_law) (w2 : Cond.instanceMethod y ∈ wsL_law) (w3 : Cond.selects C y y ∈ wsL_law) (w4 : Cond.initialized C ∈ wsL_law) (w5 : Cond.code y bytes maxL ret' ∈ wsL_law) (hnm : y.cls ≠ "java/lang/invoke/MethodHandle" ∧ y.cls ≠ "java/lang/invoke/VarHandle" ∧ (parseMethodDescriptor y.desc).map (fun d => d.parameters.length) = some vs.length) (hd : decode cc pc = .ok (.invokevirtual index, 3))
    (hroom : rm.frames + 1 ≤ fr ∧ 8 + (maxL + 11) + rm.locals ≤ lo ∧ c + rm.cells ≤ ce ∧ sl + rm.slots ≤ sl0) (hcat : (rest.map fun v => v.category).sum ≤ 8) (hst : st = vs.reverse ++ .ref k :: rest) (hM : M k = jdO ci F) (hk : k < n)
    (hX4 : ∀ w ∈ nseX, w.before κ.2.2.2.2.2.2.1 κ.2.2.2.2.1 = true) {x : ExceptionTableEntry} (htab : κ.2.2.2.2.2.2.2.2.2.1.exceptionTable.toList = [x]) (hcov : covers x pc = true) (hct : x.catchType ≠ 0) (wc : Cond.classLink own x.catchType NSE ∈ wsL_law)
    (hC : CtX l NSE y bytes maxL ret' rm (.ref k :: vs) n M Post PostX nseX) (kk : ∀ (v : Option Value) (n' : Nat) (M' : jdM), n ≤ n' → Post v n' M' → J κ nL (c + rm.cells) (sl + rm.slots) n' (pc + 3) ls (v.toList ++ rest) M')
    (kx : ∀ (n' : Nat) (M' : jdM), n ≤ n' → PostX n' M' → JH κ nL (c + rm.cells) (sl + rm.slots) n' x.handlerPc ls M') : J κ nL c sl n pc ls st M := by
  obtain ⟨p, l2, e, R, s, m, args, below, meth, c0, Q, A, dC, dI, dA, n0, ad0⟩ := κ
  obtain ⟨hx, hb, hml, hown, hts, hK, hr, hlk, hA, hSF⟩ := h
  obtain ⟨r1, r2, r3, r4⟩ := hRm
  cases hlκ
  subst hst
  intro ad H locs la h1 h2 h3 h4 h5 h6 hP hD hS hl
  have hF := jr_F hD hS hA
  have hvs : ∀ v ∈ Value.ref k :: vs, jok n v := fun v hv => h6 v (by
    rcases List.mem_cons.mp hv with q | q
    · subst q; simp
    · simp [q])
  have hrest : ∀ v ∈ rest, jok n v := fun v hv => h6 v (by simp [hv])
  have hg : GoodIn wsL_law (wsV own index C y (Cond.code y bytes maxL ret' :: wsL_law)) := by
    intro w hw
    have hm : w ∈ wsL_law := by
      unfold wsV at hw
      simp only [List.cons_append, List.nil_append, List.mem_cons] at hw
      rcases hw with rfl | rfl | rfl | rfl | rfl | hw
      · exact w1
      · exact w2
      · exact w3
      · exact w4
      · exact w5
      · exact hw
    exact wsL_ok w hm
  have hpre := jr_pre h3 h4 hvs hP hD hS hF hK (hSF.ad (fun k hk => h1 k (Or.inr hk)))
  have hrun : vx_Run p l2 e R s m args below meth c0 H locs c sl rm.cells rm.slots (F0 m pc la ((vs.reverse ++ Value.ref k :: rest).map (jv ad))) (rest.map (jv ad)) (jQc dC dI dA ad H.size n M Post ((Value.ref (ad k)) :: vs.map (jv ad)).toArray) (jXc NSE dC dI dA ad H.size n M PostX) (va_A (jW dA ad n M) H.size) :=
    vx_runV (nL := nL) (cc := cc) (Ts := wsL_law) (own := own) (As := vs.map (jv ad)) (rest := rest.map (jv ad)) (b := ad k) ⟨hx, hb, hml, hown, hts⟩ (hC dC dI dA ad H.size) (cwV (vs.map (jv ad)).length hts hg rfl rfl rfl ⟨hyC, hnm.1, hnm.2.1, by rw [List.length_map]; exact hnm.2.2⟩ ⟨Nat.le_trans hroom.1 r1, Nat.le_trans hroom.2.1 r2⟩)
      ⟨jPcX_blind, va_recv hK hP (ci := ci) (q0 := k) hcl (by rw [jW_get hk, hM]; rfl), fun U hU hW => ⟨hpre U hU hW, nseX_warm hW hX4⟩⟩ rfl rfl hl.1 (by simp [jv]) (by
        refine lv_room ?_
        rw [List.map_map, show ((fun v : Value => v.category) ∘ jv ad) = fun v => v.category from funext (fun v => jv_cat ad v)]
        exact hcat) hd ⟨Nat.le_trans hroom.2.2.1 r3, Nat.le_trans hroom.2.2.2 r4⟩
  intro T hT X
  rcases hrun T hT X with ⟨v, st₀, t, T', L, h0, X', hL, e1, e2, ⟨⟨v', ad', n', M', hv, ha, hn1, hn2, hM', hvo, hP', hD', hp⟩, hz, hkp⟩, stp⟩ | ⟨q, st₀, t, T', L, E, ce, h0, X', hL, e1, e2, ⟨hE, ⟨ad', n', M', ha, hn1, hn2, hM', hP', hD', hp⟩, hz, hkp⟩, hce, hcv, hcl9, stp⟩
  · cases hv
    rw [h0] at hz hkp
    have hla : jls ad' 0 ls = jls ad 0 ls := jls_same ha h5
    have hst : rest.map (jv ad') = rest.map (jv ad) := jst_same ha hrest
    have hDA : va_D A (jW dA ad' n' M') := hD'.weaken (fun _ q _ h => hF q.1 h)
    have K := kk v' n' M' hn1 hp ad' T'.heap (locs ++ L) la (fun k hk => (ha k (hk.elim (fun q => Or.inl (Nat.lt_of_lt_of_le q h2)) Or.inr)).trans (h1 k hk)) (Nat.le_trans h2 hn1) hn2 hM' (fun w hw => jok_mono hn1 (h5 w hw)) (fun w hw => by
        rcases List.mem_append.mp hw with q | q
        · cases v' with
          | none => cases q
          | some z => rw [Option.toList_some, List.mem_singleton] at q; exact q ▸ hvo z rfl
        · exact jok_mono hn1 (hrest w q)) (by rw [e1]; exact hP') hDA
      ⟨Nat.le_trans hS.1 (by rw [e1]; exact hz), fun q g1 g2 => by rw [e1, hkp q (Nat.lt_of_lt_of_le g1 hS.1) (fun z => g2 (hF q z))]; exact hS.2.1 q g1 g2, fun q hq => by
        rcases List.mem_append.mp hq with h | h
        · exact hS.2.2 q h
        · exact hF _ (hL q h)⟩ (by rw [hla]; exact hl)
    obtain ⟨t2, a1, b1⟩ := K T' rfl X'
    refine ⟨t2, stp t2 ?_, b1⟩
    rw [List.map_append, hst] at a1
    have hv2 : (v'.map (jv ad')).toList = v'.toList.map (jv ad') := by cases v' <;> rfl
    rw [hv2]
    exact a1
  · subst hE
    rw [h0] at hz hkp
    have hla : jls ad' 0 ls = jls ad 0 ls := jls_same ha h5
    have hDA : va_D A (jW dA ad' n' M') := hD'.weaken (fun _ q _ h => hF q.1 h)
    have K := kx n' M' hn1 hp ad' T'.heap (locs ++ L) la q (fun k hk => (ha k (hk.elim (fun q => Or.inl (Nat.lt_of_lt_of_le q h2)) Or.inr)).trans (h1 k hk)) (Nat.le_trans h2 hn1) hn2 hM' (fun w hw => jok_mono hn1 (h5 w hw)) (by rw [e1]; exact hP') hDA
      ⟨Nat.le_trans hS.1 (by rw [e1]; exact hz), fun q g1 g2 => by rw [e1, hkp q (Nat.lt_of_lt_of_le g1 hS.1) (fun z => g2 (hF q z))]; exact hS.2.1 q g1 g2, fun q hq => by
        rcases List.mem_append.mp hq with h | h
        · exact hS.2.2 q h
        · exact hF _ (hL q h)⟩ (by rw [hla]; exact hl)
    obtain ⟨t2, a1, b1⟩ := vx_catch (own := own) (name := NSE) (E := NSE) (ce := ce) (q := q) (pc := pc) (rest := rest.map (jv ad)) hown [] x [] htab (fun z hz => by cases hz) hcov hct (hts _ wc) (hX4 _ (List.mem_of_getElem? (i := 0) rfl)) (by rw [e1]; exact hce) hcv hcl9 K T' rfl X'
    exact ⟨t2, stp.trans a1, b1⟩
/-- a static call of such a method -/
theorem jr_invSH {κ : jC} {own : String} {cc : ByteArray} {nL : Nat} {ret : Option FieldType} {c sl n pc : Nat} {ls : List (Option Value)} {st : List Value} {M : jdM} {Post : Option Value → Nat → jdM → Prop} (h : Ok κ own cc nL ret) {l : Launch} (hlκ : κ.2.1 = l) {fr lo ce sl0 : Nat} (hRm : Rm κ fr lo ce sl0) {y : MethodName} {bytes : ByteArray} {maxL : Nat} {ret' : Option FieldType} {hh : List (Nat × Nat × Nat × Nat)} {rm : Room} {index : Nat} {vs rest : List Value}
    (w1 : Cond.methodLink own index y ∈ wsL_law) (w2 : Cond.static y ∈ wsL_law) (w4 : Cond.initialized y.cls ∈ wsL_law) (w5 : Cond.codeWith y bytes maxL ret' hh ∈ wsL_law) (hnm : y.cls ≠ "java/lang/invoke/MethodHandle" ∧ y.cls ≠ "java/lang/invoke/VarHandle" ∧ (parseMethodDescriptor y.desc).map (fun d => d.parameters.length) = some vs.length) (hd : decode cc pc = .ok (.invokestatic index, 3))
    (hroom : rm.frames + 1 ≤ fr ∧ 8 + (maxL + 11) + rm.locals ≤ lo ∧ c + rm.cells ≤ ce ∧ sl + rm.slots ≤ sl0) (hcat : (rest.map fun v => v.category).sum ≤ 8) (hst : st = vs.reverse ++ rest) (hX4 : ∀ w ∈ nseX, w.before κ.2.2.2.2.2.2.1 κ.2.2.2.2.1 = true)
    (hC : CtH l y bytes maxL ret' hh rm vs n M Post) (kk : ∀ (v : Option Value) (n' : Nat) (M' : jdM), n ≤ n' → Post v n' M' → J κ nL (c + rm.cells) (sl + rm.slots) n' (pc + 3) ls (v.toList ++ rest) M') : J κ nL c sl n pc ls st M := by
  obtain ⟨p, l2, e, R, s, m, args, below, meth, c0, Q, A, dC, dI, dA, n0, ad0⟩ := κ
  obtain ⟨hx, hb, hml, hown, hts, hK, hr, hlk, hA, hSF⟩ := h
  obtain ⟨r1, r2, r3, r4⟩ := hRm
  cases hlκ
  subst hst
  intro ad H locs la h1 h2 h3 h4 h5 h6 hP hD hS hl
  have hF := jr_F hD hS hA
  have hvs : ∀ v ∈ vs, jok n v := fun v hv => h6 v (by simp [hv])
  have hrest : ∀ v ∈ rest, jok n v := fun v hv => h6 v (by simp [hv])
  have hg : GoodIn wsL_law (va_wsS own index y (Cond.codeWith y bytes maxL ret' hh :: wsL_law)) := by
    intro w hw
    have hm : w ∈ wsL_law := by
      unfold va_wsS at hw
      simp only [List.cons_append, List.nil_append, List.mem_cons] at hw
      rcases hw with rfl | rfl | rfl | rfl | hw
      · exact w1
      · exact w2
      · exact w4
      · exact w5
      · exact hw
    exact wsL_ok w hm
  have hpre := jr_pre h3 h4 hvs hP hD hS hF hK (hSF.ad (fun k hk => h1 k (Or.inr hk)))
  refine jr_ran (mc := rm.cells) (ms := rm.slots) (vx_runSW (nL := nL) (cc := cc) (Ts := wsL_law) (own := own) (As := vs.map (jv ad)) (rest := rest.map (jv ad)) ⟨hx, hb, hml, hown, hts⟩ (hC dC dI dA ad H.size) (vx_cwSW (vs.map (jv ad)).length hts hg rfl rfl rfl ⟨hnm.1, hnm.2.1, by rw [List.length_map]; exact hnm.2.2⟩ ⟨Nat.le_trans hroom.1 r1, Nat.le_trans hroom.2.1 r2⟩) ⟨jPcX_blind, fun U hU hW => ⟨hpre U hU hW, nseX_warm hW hX4⟩⟩ rfl rfl hl.1 ?_ ?_ hd ⟨Nat.le_trans hroom.2.2.1 r3, Nat.le_trans hroom.2.2.2 r4⟩) h1 h2 h5 hrest hS hF hl kk
  · simp
  · refine lv_room ?_
    rw [List.map_map, show ((fun v : Value => v.category) ∘ jv ad) = fun v => v.category from funext (fun v => jv_cat ad v)]
    exact hcat
def rL_ledX : Room := { frames := rX7_ledX.frames + 1, cells := 1, slots := 6, locals := rX7_ledX.locals + 23 }
theorem ledN_b {fa : Nat → Int} {x : Int} : ∀ (d : Nat) (i k : Int), 0 ≤ i → 0 ≤ ledN fa x i k d ∧ ledN fa x i k d ≤ i + d
  | 0, i, k, h => by rw [ledN]; omega
  | d + 1, i, k, h => by
    rw [ledN]
    have h1 := ledN_b (fa := fa) (x := x) d (i + 1) k (by omega)
    have h2 := ledN_b (fa := fa) (x := x) d (i + 1) (k + 1) (by omega)
    split
    · omega
    · split <;> omega
theorem x_led_b {ct td fa : Nat → Int} {x : Int} (h : c_rows ct td ≤ 1000) : 0 ≤ x_led ct td fa x ∧ x_led ct td fa x ≤ 1001 := by
  have := ledN_b (fa := fa) (x := x) (c_rows ct td).toNat 1 0 (by omega)
  unfold x_led
  omega
set_option maxHeartbeats 1000000 in
set_option maxRecDepth 20000 in
theorem s_L_led {l : Launch} (hst : l.stackTraces = false) {n : Nat} {M : jdM} {a cu dr : Nat} {g bs : Nat → Int} {p : TS} {ct td bk si ld : Nat → Int} {D : FS} {g3 sp sk fa go : Nat → Int} {mk : Nat → FS} {tg tk tr : Nat → Int} (hS : SXc M n a cu dr (g, bs, p, (ct, td, bk, si, ld), D, (g3, sp, sk, fa, go), mk, tg, tk, tr)) {x : Int} (hx : -2147483648 ≤ x ∧ x < 2147483648) (h45 : (0 ≤ g3 4 ∧ g3 4 ≤ 1000) ∧ -1 ≤ g3 5 ∧ g3 5 ≤ 1000) (hRI : RI ct td (g3, sp, sk, fa, go)) (hrw : c_rows ct td ≤ 1000) {q : Nat} {fo : Nat → Int} (ho : M q = jdL 1 fo) (hq : q < n) : CtH l yL_led cL_led 4 (some .int) [(0, 9, 12, 13)] rL_ledX [.ref a, jI x, .ref q] n M (fun vv n' M' => n = n' ∧ (((x_led ct td fa x) ≠ 0 ∧ vv = some (jI 0) ∧ M' = up M q (jdL 1 (up fo 0 (x_led ct td fa x)))) ∨ ((x_led ct td fa x) = 0 ∧ vv = some (jI 1) ∧ M' = M))) := by
  refine CtH_of [some (.ref a), some (jI x), some (.ref q), none] (by decide) (Nat.le_of_ble_eq_true rfl) rfl (fun κ hl h hR hRt hn0 hex hX4 => ?_)
  have h : Ok κ RL cL_led 4 (some .int) := h
  have hb9 := x_led_b (fa := fa) (x := x) hrw
  have hMa : M a = jdO 7 (fX7 a cu dr g) := hS.2.2.1
  have hka : a < n := by
    have := hS.1
    omega
  refine jr_aload_n (pc := 0) h dL_led_0 rfl ?_
  refine jr_iconst (pc := 1) h dL_led_1 ?_
  refine jr_aload_n (pc := 2) h dL_led_2 rfl ?_
  refine jr_iload_n (pc := 3) h dL_led_3 rfl ?_
  refine jr_invVX (pc := 4) h hl hR (ci := 7) (vs := [jI x]) (rest := [jI 0, .ref q]) rfl rfl wm_1522 wm_1523 wm_1524 wm_2 wm_1525 ⟨by decide, by decide, by show (parseMethodDescriptor yX7_led.desc).map (fun d => d.parameters.length) = some 1; decide +kernel⟩ dL_led_4 ⟨(Nat.le_of_ble_eq_true rfl), (Nat.le_of_ble_eq_true rfl), (Nat.le_of_ble_eq_true rfl), (Nat.le_of_ble_eq_true rfl)⟩ (Nat.le_of_ble_eq_true rfl) rfl hMa hka hX4 (x := ⟨0, 9, 12, 13⟩) (by rw [hex]; rfl) (by decide) (by decide) wm_1521 (s_X7_led hst hS hx h45 hRI) (fun v4 n4 M4 hn4 hp => ?_) (fun n4 M4 hn4 hp => ?_)
  · obtain ⟨hne, rfl, rfl, rfl⟩ := hp
    show J κ 4 _ _ _ 7 _ (jI (x_led ct td fa x) :: jI 0 :: .ref q :: []) _
    refine jr_i2l (pc := 7) h dL_led_7 (by omega) ?_
    refine jr_last (pc := 8) h dL_led_8 ho hq (by omega) ?_
    refine jr_goto (pc := 9) h 15 dL_led_9 (by decide) ?_
    refine jr_iconst (pc := 15) h dL_led_15 ?_
    exact jr_iret (pc := 16) h hRt dL_led_16 rfl (Nat.le_of_ble_eq_true rfl) (Nat.le_of_ble_eq_true rfl) ⟨rfl, Or.inl ⟨hne, rfl, rfl⟩⟩
  · obtain ⟨he, rfl, rfl⟩ := hp
    refine jr_hand (pc := 12) h dL_led_12 (by decide) (fun ad z hz => hz) ?_
    refine jr_iconst (pc := 13) h dL_led_13 ?_
    exact jr_iret (pc := 14) h hRt dL_led_14 rfl (Nat.le_of_ble_eq_true rfl) (Nat.le_of_ble_eq_true rfl) ⟨rfl, Or.inr ⟨he, rfl, rfl⟩⟩
