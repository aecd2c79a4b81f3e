/-! 07: returns, calls, what is made -/
theorem wsL_ok : GoodIn wsL_law wsL_law := goodIn_sub (fun _ h => h) (by decide +kernel)
theorem jPc_blind {dC : Nat → ClassId} {dI : Nat → Nat → Nat} {dA : Nat → ClassId} {ad : Nat → Nat} {sz n : Nat} {M : jdM} {vs : List Value} : FrameBlind (jPc dC dI dA ad sz n M vs) := by
  intro a U g mk h
  obtain ⟨h1, h2, h3, h4, h5, h6, h7, h8, h9⟩ := h
  exact ⟨h1, h2, h3, h4, h5, h6, h7, va_K.moved (u := U) (U := U.calling g mk a) (Vm.Alike.refl U.vm) h8, jSF.same (s := U) (U := U.calling g mk a) rfl h9⟩
theorem jls_same {ad ad' : Nat → Nat} {n : Nat} (he : ∀ k, (k < n ∨ 1000000 ≤ k) → ad' k = ad k) : ∀ {ls : List (Option Value)} {i : Nat}, (∀ v, some v ∈ ls → jok n v) → jls ad' i ls = jls ad i ls
  | [], _, _ => rfl
  | none :: t, i, h => jls_same (ls := t) he (fun v hv => h v (List.mem_cons_of_mem _ hv))
  | some w :: t, i, h => by
    simp only [jls]
    rw [jv_same he (h w List.mem_cons_self), jls_same (ls := t) he (fun v hv => h v (List.mem_cons_of_mem _ hv))]
theorem jst_same {ad ad' : Nat → Nat} {n : Nat} (he : ∀ k, (k < n ∨ 1000000 ≤ k) → ad' k = ad k) {st : List Value} (h : ∀ v ∈ st, jok n v) : st.map (jv ad') = st.map (jv ad) := List.map_congr_left (fun v hv => jv_same he (h v hv))
section JX
variable {κ : jC} {own : String} {cc : ByteArray} {nL : Nat} {ret : Option FieldType} {c sl n pc : Nat} {ls : List (Option Value)} {st : List Value} {M : jdM} {mc ms : Nat} {Post : Option Value → Nat → jdM → Prop}
theorem jr_iret {ty : FieldType} {x : Int32} (h : Ok κ own cc nL (some ty)) (hR : Rt κ mc ms Post) (hd : decode cc pc = .ok (.ireturn, 1)) (hn : narrow ty (.int x) = .int x) (hc : c ≤ mc) (hs : sl ≤ ms) (hp : Post (some (.int x)) n M) : J κ nL c sl n pc ls [.int x] M := by
  obtain ⟨p, l, e, R, s, m, args, below, meth, c0, Q, A, dC, dI, dA, n0, ad0⟩ := κ
  obtain ⟨hx, hb, hml, hown, hts, hK, hr, hlk, hA, hSF⟩ := h
  obtain ⟨M0, hAe, hQ⟩ := hR
  intro ad H locs la h1 h2 h3 h4 h5 h6 hP hD hS hl
  refine W.widen hc hs ?_
  rw [hQ]
  refine W.zret hx hb hr hn (fun t ht hW => ⟨⟨some (.int x), ad, n, M, rfl, h1, h2, h3, h4, fun w hw => (by cases hw; trivial), by rw [ht]; exact hP, by rw [← hAe]; exact hD, hp⟩, by rw [← hAe]; exact hS.F ht⟩) hS.2.2 hd hlk
theorem jr_lret {x : Int64} (h : Ok κ own cc nL (some .long)) (hR : Rt κ mc ms Post) (hd : decode cc pc = .ok (.lreturn, 1)) (hc : c ≤ mc) (hs : sl ≤ ms) (hp : Post (some (.long x)) n M) : J κ nL c sl n pc ls [.long x] M := by
  obtain ⟨p, l, e, R, s, m, args, below, meth, c0, Q, A, dC, dI, dA, n0, ad0⟩ := κ
  obtain ⟨hx, hb, hml, hown, hts, hK, hr, hlk, hA, hSF⟩ := h
  obtain ⟨M0, hAe, hQ⟩ := hR
  intro ad H locs la h1 h2 h3 h4 h5 h6 hP hD hS hl
  refine W.widen hc hs ?_
  rw [hQ]
  refine W.lret hx hb hr (fun t ht hW => ⟨⟨some (.long x), ad, n, M, rfl, h1, h2, h3, h4, fun w hw => (by cases hw; trivial), by rw [ht]; exact hP, by rw [← hAe]; exact hD, hp⟩, by rw [← hAe]; exact hS.F ht⟩) hS.2.2 hd hlk
theorem jr_vret (h : Ok κ own cc nL none) (hR : Rt κ mc ms Post) (hd : decode cc pc = .ok (.return_, 1)) (hc : c ≤ mc) (hs : sl ≤ ms) (hp : Post none n M) : J κ nL c sl n pc ls [] M := by
  obtain ⟨p, l, e, R, s, m, args, below, meth, c0, Q, A, dC, dI, dA, n0, ad0⟩ := κ
  obtain ⟨hx, hb, hml, hown, hts, hK, hr, hlk, hA, hSF⟩ := h
  obtain ⟨M0, hAe, hQ⟩ := hR
  intro ad H locs la h1 h2 h3 h4 h5 h6 hP hD hS hl
  refine W.widen hc hs ?_
  rw [hQ]
  refine W.vret hx hb hr (fun t ht hW => ⟨⟨none, ad, n, M, rfl, h1, h2, h3, h4, fun w hw => (by cases hw), by rw [ht]; exact hP, by rw [← hAe]; exact hD, hp⟩, by rw [← hAe]; exact hS.F ht⟩) hS.2.2 hd hlk
/-- a call that has been begun: what the callee left is the caller's memory -/
theorem jr_ran {p : Program} {l : Launch} {e : Env} {R : Room} {s : State} {m : MethodId} {args : Array Value} {below : List Frame} {meth : Method} {c0 : Code} {H : Heap} {locs : List Loc} {Q : State → Prop} {A : Nat → Prop} {dC : Nat → ClassId} {dI : Nat → Nat → Nat} {dA : Nat → ClassId} {n0 : Nat} {ad0 ad : Nat → Nat} {la : Array Slot} {rest : List Value} {st0 : List Value} {a : Array Value}
    (hr : va_Run p l e R s m args below meth c0 H locs c sl mc ms (F0 m pc la st0) (rest.map (jv ad)) (jQc dC dI dA ad H.size n M Post a) (va_A (jW dA ad n M) H.size))
    (h1 : ∀ k, (k < n0 ∨ 1000000 ≤ k) → ad k = ad0 k) (h2 : n0 ≤ n) (h5 : ∀ v, some v ∈ ls → jok n v) (h6 : ∀ v ∈ rest, jok n v) (hS : va_S A s.heap H locs) (hF : ∀ q, va_A (jW dA ad n M) H.size q → A q) (hl : lv_has la nL (jls ad 0 ls))
    (kk : ∀ (v : Option Value) (n' : Nat) (M' : jdM), n ≤ n' → Post v n' M' → J (p, l, e, R, s, m, args, below, meth, c0, Q, A, dC, dI, dA, n0, ad0) nL (c + mc) (sl + ms) n' (pc + 3) ls (v.toList ++ rest) M') :
    W p l e R s m args below meth c0 H locs c sl Q (F0 m pc la st0) := by
  intro T hT X
  obtain ⟨v, st₀, t, T', L, h0, X', hL, e1, e2, ⟨⟨v', ad', n', M', hv, ha, hn1, hn2, hM, hvo, hP, hD, hp⟩, hz, hk⟩, st⟩ := hr T hT X
  cases hv
  rw [h0] at hz hk
  have hla : jls ad' 0 ls = jls ad 0 ls := jls_same ha h5
  have hst : rest.map (jv ad') = rest.map (jv ad) := jst_same ha h6
  have hDA : va_D A (jW dA ad' n' M') := hD.weaken (fun _ q _ h => hF q.1 h)
  have K := kk v' n' M' hn1 hp ad' T'.heap (locs ++ L) la (fun k hk => (ha k (hk.elim (fun q => Or.inl (Nat.lt_of_lt_of_le q h2)) Or.inr)).trans (h1 k hk)) (Nat.le_trans h2 hn1) hn2 hM (fun w hw => jok_mono hn1 (h5 w hw)) (fun w hw => by
      rcases List.mem_append.mp hw with q | q
      · cases v' with
        | none => cases q
        | some z => rw [Option.toList_some, List.mem_singleton] at q; exact q ▸ hvo z rfl
      · exact jok_mono hn1 (h6 w q)) (by rw [e1]; exact hP) hDA
    ⟨Nat.le_trans hS.1 (by rw [e1]; exact hz), fun q g1 g2 => by rw [e1, hk q (Nat.lt_of_lt_of_le g1 hS.1) (fun z => g2 (hF q z))]; exact hS.2.1 q g1 g2, fun q hq => by
      rcases List.mem_append.mp hq with h | h
      · exact hS.2.2 q h
      · exact hF _ (hL q h)⟩ (by rw [hla]; exact hl)
  obtain ⟨t2, a1, b1⟩ := K T' rfl X'
  refine ⟨t2, st t2 ?_, b1⟩
  rw [List.map_append, hst] at a1
  have hv2 : (v'.map (jv ad')).toList = v'.toList.map (jv ad') := by cases v' <;> rfl
  rw [hv2]
  exact a1
theorem jr_pre {s : State} {H : Heap} {locs : List Loc} {A : Nat → Prop} {dC : Nat → ClassId} {dI : Nat → Nat → Nat} {dA : Nat → ClassId} {ad : Nat → Nat} {vs : List Value} (h3 : n ≤ 1000000) (h4 : ∀ k, k < n → jokE n (M k)) (hvs : ∀ v ∈ vs, jok n v) (hP : va_P (dC, dI) vwCl (jW dA ad n M) H) (hD : va_D A (jW dA ad n M)) (hS : va_S A s.heap H locs) (hF : ∀ q, va_A (jW dA ad n M) H.size q → A q) (hK : va_K (dC, dI) vwCl (jtys dA) s) (hSF : jSF ad A s s.heap) :
    ∀ U : State, U.heap = H → s.WarmedH U.vm → jPc dC dI dA ad H.size n M vs (vs.map (jv ad)).toArray U := by
  intro U hU hW
  exact ⟨rfl, by rw [hU], h3, h4, hvs, by rw [hU]; exact hP, hD.weaken (fun _ _ _ _ => trivial), va_K.moved hW.alike hK, by rw [hU]; exact ((hSF.kept hS.2.1).narrow hF).warm hW⟩
theorem jr_F {s : State} {H : Heap} {locs : List Loc} {A : Nat → Prop} {dA : Nat → ClassId} {ad : Nat → Nat} (hD : va_D A (jW dA ad n M)) (hS : va_S A s.heap H locs) (hA : ∀ q, s.heap.size ≤ q → A q) : ∀ q, va_A (jW dA ad n M) H.size q → A q := by
  intro q h
  rcases h with ⟨k, e, h⟩ | h
  · exact hD.2 k _ h
  · exact hA q (Nat.le_trans hS.1 h)
theorem jr_invV (h : Ok κ own cc nL ret) {l : Launch} (hlκ : κ.2.1 = l) {fr lo ce sl0 : Nat} (hRm : Rm κ fr lo ce sl0) {y : MethodName} {bytes : ByteArray} {maxL : Nat} {ret' : Option FieldType} {rm : Room} {k ci N index : Nat} {C : String} {T : u_T} {F : Nat → Value} {vs rest : List Value} (hcl : vwCl[ci]? = some (C, T, N)) (hyC : y.cls = C)
    (w1 : Cond.methodLink own index y ∈ wsL_law) (w2 : Cond.instanceMethod y ∈ wsL_law) (w3 : Cond.selects C y y ∈ wsL_law) (w4 : Cond.initialized C ∈ wsL_law) (w5 : Cond.code y bytes maxL ret' ∈ wsL_law) (hnm : y.cls ≠ "java/lang/invoke/MethodHandle" ∧ y.cls ≠ "java/lang/invoke/VarHandle" ∧ (parseMethodDescriptor y.desc).map (fun d => d.parameters.length) = some vs.length) (hd : decode cc pc = .ok (.invokevirtual index, 3))
    (hroom : rm.frames + 1 ≤ fr ∧ 8 + (maxL + 11) + rm.locals ≤ lo ∧ c + rm.cells ≤ ce ∧ sl + rm.slots ≤ sl0) (hcat : (rest.map fun v => v.category).sum ≤ 8) (hst : st = vs.reverse ++ .ref k :: rest) (hM : M k = jdO ci F) (hk : k < n)
    (hC : Ct l y bytes maxL ret' rm (.ref k :: vs) n M Post) (kk : ∀ (v : Option Value) (n' : Nat) (M' : jdM), n ≤ n' → Post v n' M' → J κ nL (c + rm.cells) (sl + rm.slots) n' (pc + 3) ls (v.toList ++ rest) M') : J κ nL c sl n pc ls st M := by
  obtain ⟨p, l2, e, R, s, m, args, below, meth, c0, Q, A, dC, dI, dA, n0, ad0⟩ := κ
  obtain ⟨hx, hb, hml, hown, hts, hK, hr, hlk, hA, hSF⟩ := h
  obtain ⟨r1, r2, r3, r4⟩ := hRm
  cases hlκ
  subst hst
  intro ad H locs la h1 h2 h3 h4 h5 h6 hP hD hS hl
  have hF := jr_F hD hS hA
  have hvs : ∀ v ∈ Value.ref k :: vs, jok n v := fun v hv => h6 v (by
    rcases List.mem_cons.mp hv with q | q
    · subst q; simp
    · simp [q])
  have hrest : ∀ v ∈ rest, jok n v := fun v hv => h6 v (by simp [hv])
  have hg : GoodIn wsL_law (wsV own index C y (Cond.code y bytes maxL ret' :: wsL_law)) := by
    intro w hw
    have hm : w ∈ wsL_law := by
      unfold wsV at hw
      simp only [List.cons_append, List.nil_append, List.mem_cons] at hw
      rcases hw with rfl | rfl | rfl | rfl | rfl | hw
      · exact w1
      · exact w2
      · exact w3
      · exact w4
      · exact w5
      · exact hw
    exact wsL_ok w hm
  refine jr_ran (mc := rm.cells) (ms := rm.slots) (va_runV (nL := nL) (cc := cc) (Ts := wsL_law) (own := own) (As := vs.map (jv ad)) (rest := rest.map (jv ad)) (b := ad k) ⟨hx, hb, hml, hown, hts⟩ (hC dC dI dA ad H.size) (cwV (vs.map (jv ad)).length hts hg rfl rfl rfl ⟨hyC, hnm.1, hnm.2.1, by rw [List.length_map]; exact hnm.2.2⟩ ⟨Nat.le_trans hroom.1 r1, Nat.le_trans hroom.2.1 r2⟩) ⟨jPc_blind, va_recv hK hP (ci := ci) (q0 := k) hcl (by rw [jW_get hk, hM]; rfl), jr_pre h3 h4 hvs hP hD hS hF hK (hSF.ad (fun k hk => h1 k (Or.inr hk)))⟩ rfl rfl hl.1 ?_ ?_ hd ⟨Nat.le_trans hroom.2.2.1 r3, Nat.le_trans hroom.2.2.2 r4⟩) h1 h2 h5 hrest hS hF hl kk
  · simp [jv]
  · refine lv_room ?_
    rw [List.map_map, show ((fun v : Value => v.category) ∘ jv ad) = fun v => v.category from funext (fun v => jv_cat ad v)]
    exact hcat
theorem jr_invS (h : Ok κ own cc nL ret) {l : Launch} (hlκ : κ.2.1 = l) {fr lo ce sl0 : Nat} (hRm : Rm κ fr lo ce sl0) {y : MethodName} {bytes : ByteArray} {maxL : Nat} {ret' : Option FieldType} {rm : Room} {index : Nat} {vs rest : List Value}
    (w1 : Cond.methodLink own index y ∈ wsL_law) (w2 : Cond.static y ∈ wsL_law) (w4 : Cond.initialized y.cls ∈ wsL_law) (w5 : Cond.code y bytes maxL ret' ∈ wsL_law) (hnm : y.cls ≠ "java/lang/invoke/MethodHandle" ∧ y.cls ≠ "java/lang/invoke/VarHandle" ∧ (parseMethodDescriptor y.desc).map (fun d => d.parameters.length) = some vs.length) (hd : decode cc pc = .ok (.invokestatic index, 3))
    (hroom : rm.frames + 1 ≤ fr ∧ 8 + (maxL + 11) + rm.locals ≤ lo ∧ c + rm.cells ≤ ce ∧ sl + rm.slots ≤ sl0) (hcat : (rest.map fun v => v.category).sum ≤ 8) (hst : st = vs.reverse ++ rest)
    (hC : Ct l y bytes maxL ret' rm vs n M Post) (kk : ∀ (v : Option Value) (n' : Nat) (M' : jdM), n ≤ n' → Post v n' M' → J κ nL (c + rm.cells) (sl + rm.slots) n' (pc + 3) ls (v.toList ++ rest) M') : J κ nL c sl n pc ls st M := by
  obtain ⟨p, l2, e, R, s, m, args, below, meth, c0, Q, A, dC, dI, dA, n0, ad0⟩ := κ
  obtain ⟨hx, hb, hml, hown, hts, hK, hr, hlk, hA, hSF⟩ := h
  obtain ⟨r1, r2, r3, r4⟩ := hRm
  cases hlκ
  subst hst
  intro ad H locs la h1 h2 h3 h4 h5 h6 hP hD hS hl
  have hF := jr_F hD hS hA
  have hvs : ∀ v ∈ vs, jok n v := fun v hv => h6 v (by simp [hv])
  have hrest : ∀ v ∈ rest, jok n v := fun v hv => h6 v (by simp [hv])
  have hg : GoodIn wsL_law (va_wsS own index y (Cond.code y bytes maxL ret' :: wsL_law)) := by
    intro w hw
    have hm : w ∈ wsL_law := by
      unfold va_wsS at hw
      simp only [List.cons_append, List.nil_append, List.mem_cons] at hw
      rcases hw with rfl | rfl | rfl | rfl | hw
      · exact w1
      · exact w2
      · exact w4
      · exact w5
      · exact hw
    exact wsL_ok w hm
  refine jr_ran (mc := rm.cells) (ms := rm.slots) (va_runS (nL := nL) (cc := cc) (Ts := wsL_law) (own := own) (As := vs.map (jv ad)) (rest := rest.map (jv ad)) ⟨hx, hb, hml, hown, hts⟩ (hC dC dI dA ad H.size) (va_cwS (vs.map (jv ad)).length hts hg rfl rfl rfl ⟨hnm.1, hnm.2.1, by rw [List.length_map]; exact hnm.2.2⟩ ⟨Nat.le_trans hroom.1 r1, Nat.le_trans hroom.2.1 r2⟩) ⟨jPc_blind, jr_pre h3 h4 hvs hP hD hS hF hK (hSF.ad (fun k hk => h1 k (Or.inr hk)))⟩ rfl rfl hl.1 ?_ ?_ hd ⟨Nat.le_trans hroom.2.2.1 r3, Nat.le_trans hroom.2.2.2 r4⟩) h1 h2 h5 hrest hS hF hl kk
  · simp
  · refine lv_room ?_
    rw [List.map_map, show ((fun v : Value => v.category) ∘ jv ad) = fun v => v.category from funext (fun v => jv_cat ad v)]
    exact hcat
theorem jr_invI (h : Ok κ own cc nL ret) {l : Launch} (hlκ : κ.2.1 = l) {fr lo ce sl0 : Nat} (hRm : Rm κ fr lo ce sl0) {y : MethodName} {bytes : ByteArray} {maxL : Nat} {rm : Room} {k index : Nat} {vs rest : List Value} (hyi : y.name = "<init>")
    (w1 : Cond.methodLink own index y ∈ wsL_law) (w2 : Cond.instanceMethod y ∈ wsL_law) (w4 : Cond.initialized y.cls ∈ wsL_law) (w5 : Cond.code y bytes maxL none ∈ wsL_law) (hnm : y.cls ≠ "java/lang/invoke/MethodHandle" ∧ y.cls ≠ "java/lang/invoke/VarHandle" ∧ (parseMethodDescriptor y.desc).map (fun d => d.parameters.length) = some vs.length) (hd : decode cc pc = .ok (.invokespecial index, 3))
    (hroom : rm.frames + 1 ≤ fr ∧ 8 + (maxL + 11) + rm.locals ≤ lo ∧ c + rm.cells ≤ ce ∧ sl + rm.slots ≤ sl0) (hcat : (rest.map fun v => v.category).sum ≤ 8) (hst : st = vs.reverse ++ .ref k :: rest)
    (hC : Ct l y bytes maxL none rm (.ref k :: vs) n M Post) (kk : ∀ (v : Option Value) (n' : Nat) (M' : jdM), n ≤ n' → Post v n' M' → J κ nL (c + rm.cells) (sl + rm.slots) n' (pc + 3) ls (v.toList ++ rest) M') : J κ nL c sl n pc ls st M := by
  obtain ⟨p, l2, e, R, s, m, args, below, meth, c0, Q, A, dC, dI, dA, n0, ad0⟩ := κ
  obtain ⟨hx, hb, hml, hown, hts, hK, hr, hlk, hA, hSF⟩ := h
  obtain ⟨r1, r2, r3, r4⟩ := hRm
  cases hlκ
  subst hst
  intro ad H locs la h1 h2 h3 h4 h5 h6 hP hD hS hl
  have hF := jr_F hD hS hA
  have hvs : ∀ v ∈ Value.ref k :: vs, jok n v := fun v hv => h6 v (by
    rcases List.mem_cons.mp hv with q | q
    · subst q; simp
    · simp [q])
  have hrest : ∀ v ∈ rest, jok n v := fun v hv => h6 v (by simp [hv])
  have hg : GoodIn wsL_law (Cond.code y bytes maxL none :: wsL_law) := by
    intro w hw
    have hm : w ∈ wsL_law := by
      rcases List.mem_cons.mp hw with rfl | hw
      · exact w5
      · exact hw
    exact wsL_ok w hm
  refine jr_ran (mc := rm.cells) (ms := rm.slots) (va_runI (nL := nL) (cc := cc) (Ts := wsL_law) (own := own) (As := vs.map (jv ad)) (rest := rest.map (jv ad)) (b := ad k) ⟨hx, hb, hml, hown, hts⟩ (hC dC dI dA ad H.size) (cwI (vs.map (jv ad)).length hts hg rfl rfl rfl (hts _ w4) (hts _ w1) (hts _ w2) hyi ⟨hnm.1, hnm.2.1, by rw [List.length_map]; exact hnm.2.2⟩ ⟨Nat.le_trans hroom.1 r1, Nat.le_trans hroom.2.1 r2⟩) ⟨jPc_blind, jr_pre h3 h4 hvs hP hD hS hF hK (hSF.ad (fun k hk => h1 k (Or.inr hk)))⟩ rfl rfl hl.1 ?_ ?_ hd ⟨Nat.le_trans hroom.2.2.1 r3, Nat.le_trans hroom.2.2.2 r4⟩) h1 h2 h5 hrest hS hF hl kk
  · simp [jv]
  · refine lv_room ?_
    rw [List.map_map, show ((fun v : Value => v.category) ∘ jv ad) = fun v => v.category from funext (fun v => jv_cat ad v)]
    exact hcat
theorem jr_invIN (h : Ok κ own cc nL ret) {l : Launch} (hlκ : κ.2.1 = l) {fr lo ce sl0 : Nat} (hRm : Rm κ fr lo ce sl0) {y : MethodName} {bytes : ByteArray} {maxL : Nat} {rm : Room} {k index : Nat} {vs rest : List Value} (hyi : y.name = "<init>")
    {host : String} (w1 : (own, index, y, host) ∈ jnM) (w2 : Cond.instanceMethod y ∈ wsL_law) (w4 : Cond.initialized y.cls ∈ wsL_law) (w5 : Cond.code y bytes maxL none ∈ wsL_law) (hnm : y.cls ≠ "java/lang/invoke/MethodHandle" ∧ y.cls ≠ "java/lang/invoke/VarHandle" ∧ (parseMethodDescriptor y.desc).map (fun d => d.parameters.length) = some vs.length) (hd : decode cc pc = .ok (.invokespecial index, 3))
    (hroom : rm.frames + 1 ≤ fr ∧ 8 + (maxL + 11) + rm.locals ≤ lo ∧ c + rm.cells ≤ ce ∧ sl + rm.slots ≤ sl0) (hcat : (rest.map fun v => v.category).sum ≤ 8) (hst : st = vs.reverse ++ .ref k :: rest)
    (hC : Ct l y bytes maxL none rm (.ref k :: vs) n M Post) (kk : ∀ (v : Option Value) (n' : Nat) (M' : jdM), n ≤ n' → Post v n' M' → J κ nL (c + rm.cells) (sl + rm.slots) n' (pc + 3) ls (v.toList ++ rest) M') : J κ nL c sl n pc ls st M := by
  obtain ⟨p, l2, e, R, s, m, args, below, meth, c0, Q, A, dC, dI, dA, n0, ad0⟩ := κ
  obtain ⟨hx, hb, hml, hown, hts, hK, hr, hlk, hA, hSF⟩ := h
  obtain ⟨r1, r2, r3, r4⟩ := hRm
  cases hlκ
  subst hst
  intro ad H locs la h1 h2 h3 h4 h5 h6 hP hD hS hl
  have hF := jr_F hD hS hA
  have hvs : ∀ v ∈ Value.ref k :: vs, jok n v := fun v hv => h6 v (by
    rcases List.mem_cons.mp hv with q | q
    · subst q; simp
    · simp [q])
  have hrest : ∀ v ∈ rest, jok n v := fun v hv => h6 v (by simp [hv])
  have hg : GoodIn wsL_law (Cond.code y bytes maxL none :: wsL_law) := by
    intro w hw
    have hm : w ∈ wsL_law := by
      rcases List.mem_cons.mp hw with rfl | hw
      · exact w5
      · exact hw
    exact wsL_ok w hm
  refine jr_ran (mc := rm.cells) (ms := rm.slots) (va_runIN (nL := nL) (cc := cc) (Ts := wsL_law) (own := own) (As := vs.map (jv ad)) (rest := rest.map (jv ad)) (b := ad k) ⟨hx, hb, hml, hown, hts⟩ (hC dC dI dA ad H.size) ⟨va_cnB (host := host) (vs.map (jv ad)).length hts hg rfl rfl rfl (hSF.1.2.1 _ w1) (hts _ w4) ⟨hnm.1, hnm.2.1, by rw [List.length_map]; exact hnm.2.2⟩ ⟨Nat.le_trans hroom.1 r1, Nat.le_trans hroom.2.1 r2⟩, hyi, hts _ w2⟩ ⟨jPc_blind, jr_pre h3 h4 hvs hP hD hS hF hK (hSF.ad (fun k hk => h1 k (Or.inr hk)))⟩ rfl rfl hl.1 ?_ ?_ hd ⟨Nat.le_trans hroom.2.2.1 r3, Nat.le_trans hroom.2.2.2 r4⟩) h1 h2 h5 hrest hS hF hl kk
  · simp [jv]
  · refine lv_room ?_
    rw [List.map_map, show ((fun v : Value => v.category) ∘ jv ad) = fun v => v.category from funext (fun v => jv_cat ad v)]
    exact hcat
/-- Object's own constructor -/
theorem jr_objInit (h : Ok κ own cc nL ret) {fr lo ce sl0 : Nat} (hRm : Rm κ fr lo ce sl0) {k index : Nat} {rest : List Value} (w1 : Cond.methodLink own index objectInit ∈ wsL_law) (w2 : Cond.instanceMethod objectInit ∈ wsL_law) (w5 : Cond.code objectInit ⟨#[0xb1]⟩ 1 none ∈ wsL_law) (hd : decode cc pc = .ok (.invokespecial index, 3)) (hroom : 1 ≤ fr ∧ (rest.map fun v => v.category).sum + 12 ≤ lo) (kk : J κ nL c sl n (pc + 3) ls rest M) : J κ nL c sl n pc ls (.ref k :: rest) M := by
  obtain ⟨p, l2, e, R, s, m, args, below, meth, c0, Q, A, dC, dI, dA, n0, ad0⟩ := κ
  obtain ⟨hx, hb, hml, hown, hts, hK, hr, hlk, hA, hSF⟩ := h
  obtain ⟨r1, r2, r3, r4⟩ := hRm
  intro ad H locs la h1 h2 h3 h4 h5 h6 hP hD hS hl
  refine W.objInit hx hb hown (hts _ w1) (hts _ w2) (hts _ w5) rfl (by rw [hml]; exact hl.1) rfl hd (Nat.le_trans hroom.1 r1) ?_ ?_
  · have e1 : ((rest.map (jv ad)).map fun v => v.category) = rest.map fun v => v.category := by
      rw [List.map_map]
      exact List.map_congr_left (fun v _ => jv_cat ad v)
    show 2 * 0 + ((rest.map (jv ad)).map fun v => v.category).sum + 12 ≤ R.locals
    rw [e1]
    omega
  · exact kk ad H locs la h1 h2 h3 h4 h5 (jk_tl h6) hP hD hS hl
theorem jr_new (h : Ok κ own cc nL ret) {fr lo ce sl0 : Nat} (hRm : Rm κ fr lo ce sl0) {ci N index : Nat} {C : String} {T : u_T} (tys0 : Nat → FieldType) (hty : ∀ k, k < N → parseFieldDescriptor (T k).2.2.1 = some (tys0 k)) (hc : vwCl[ci]? = some (C, T, N)) (hin : ∀ w ∈ u_ws C T N, w ∈ wsL_law) (w1 : Cond.classLink own index C ∈ wsL_law) (w2 : Cond.instantiable C N ∈ wsL_law) (w3 : Cond.initialized C ∈ wsL_law) (hd : decode cc pc = .ok (.new index, 3)) (hroom : c + 1 ≤ ce ∧ sl + N ≤ sl0) (hn : n < 1000000)
    (kk : J κ nL (c + 1) (sl + N) (n + 1) (pc + 3) ls (.ref n :: st) (up M n (jdO ci (fun j => defaultValue (tys0 j))))) : J κ nL c sl n pc ls st M := by
  have hnf : jd_nf ci = N := jd_nf_ok hc
  obtain ⟨p, l2, e, R, s, m, args, below, meth, c0, Q, A, dC, dI, dA, n0, ad0⟩ := κ
  obtain ⟨hx, hb, hml, hown, hts, hK, hr, hlk, hA, hSF⟩ := h
  obtain ⟨r1, r2, r3, r4⟩ := hRm
  intro ad H locs la h1 h2 h3 h4 h5 h6 hP hD hS hl
  have hdv : ∀ (a : Nat → Nat) (t : FieldType), jv a (defaultValue t) = defaultValue t := fun a t => by cases t <;> rfl
  have hdo : ∀ (k : Nat) (t : FieldType), jok k (defaultValue t) := fun k t => by cases t <;> trivial
  refine va_new (ci := ci) (C := C) (T := T) (N := N) (fs := (List.range (jd_nf ci)).map (fun j => defaultValue (tys0 j))) hx hb hts hin tys0 hty hown (hts _ w1) (hts _ w2) (hts _ w3) hK hP hD hS hA hc (fun j hj => ?_) (Nat.le_trans hroom.1 r3) (Nat.le_trans hroom.2 r4) hd (fun q H1 hP1 hD1 hS1 => ?_)
  · simp [vp_V, List.getD_eq_getElem?_getD, hnf, hj]
  · have he : je dA (up ad n q) (jdO ci (fun j => defaultValue (tys0 j))) = .inr (ci, (List.range (jd_nf ci)).map (fun j => defaultValue (tys0 j))) := by
      show (.inr (ci, _) : va_E) = _
      congr 2
      exact List.map_congr_left (fun j _ => hdv _ _)
    rw [jW_push hn h4 he] at hP1 hD1
    have ha : ∀ k, (k < n ∨ 1000000 ≤ k) → up ad n q k = ad k := fun k hk => up_ne (by rcases hk with h | h <;> omega)
    have K := kk (up ad n q) H1 locs la (fun k hk => (ha k (hk.elim (fun q => Or.inl (Nat.lt_of_lt_of_le q h2)) Or.inr)).trans (h1 k hk)) (by omega) (by omega) (fun k hk => ?_) (fun v hv => jok_mono (Nat.le_succ n) (h5 v hv)) (jk_cons (v := .ref n) (Or.inl (Nat.lt_succ_self n)) (fun w hw => jok_mono (Nat.le_succ n) (h6 w hw))) hP1 hD1 hS1 (by rw [jls_same ha h5]; exact hl)
    · rw [List.map_cons, jst_same ha h6, show jv (up ad n q) (.ref n) = .ref q from congrArg Value.ref up_eq] at K
      exact K
    · by_cases q : k = n
      · rw [q, up_eq]
        exact fun j _ => hdo _ _
      · rw [up_ne q]
        exact jokE_mono (Nat.le_succ n) (h4 k (by omega))
/-- a new array of numbers -/
theorem jr_newarr (h : Ok κ own cc nL ret) {fr lo ce sl0 : Nat} (hRm : Rm κ fr lo ce sl0) {t N' : Nat} {ty : FieldType} {atype : ArrayType} {z : Int} {a0 : vp_A} (hty : newarray.typeOf atype = ty) (ht : ∀ dA : Nat → ClassId, (jtys dA)[t]? = some (dA t, ty)) (hra : ∀ (U : State) (cA : ClassId), va_RA U cA ty → U.vm.findClass ("[" ++ ty.toString) = some cA) (w1 : Cond.arrayClass ty ∈ wsL_law) (hd : decode cc pc = .ok (.newarray atype, 2)) (hz : z = (N' : Int)) (hz2 : N' * componentBytes ty ≤ 536870912) (hz3 : N' < 2147483648) (hroom : c + 1 ≤ ce ∧ sl + N' ≤ sl0) (hn : n < 1000000) (ha0 : ∀ cA : ClassId, vp_cell cA a0 = arrV cA N' (fun _ => defaultValue ty)) (hja : ∀ ad : Nat → Nat, ja ad a0 = a0) (hjo : ∀ k, jokA k a0)
    (kk : J κ nL (c + 1) (sl + N') (n + 1) (pc + 2) ls (.ref n :: st) (up M n (.inl (t, a0)))) : J κ nL c sl n pc ls (jI z :: st) M := by
  subst hz
  obtain ⟨p, l2, e, R, s, m, args, below, meth, c0, Q, A, dC, dI, dA, n0, ad0⟩ := κ
  obtain ⟨hx, hb, hml, hown, hts, hK, hr, hlk, hA, hSF⟩ := h
  obtain ⟨r1, r2, r3, r4⟩ := hRm
  intro ad H locs la h1 h2 h3 h4 h5 h6 hP hD hS hl
  subst hty
  refine va_newaK hx hb (hts _ w1) rfl hd rfl (N := N') ?_ ?_ hz2 (Nat.le_trans hroom.1 r3) (Nat.le_trans hroom.2 r4) rfl fun H1 cA e1 z1 o1 hAr hNm => ?_
  · rw [ji_0, ji_lt (by omega) ji_z]; omega
  · rw [ji_cl (by omega)]; omega
  have hcA : cA = dA t := Option.some.inj (hNm.symm.trans (hra s _ (hK.2 t _ (ht dA)).2))
  subst hcA
  have hk : ∀ (k : Nat) (x : Nat × va_E), (jW dA ad n M)[k]? = some x → H1[x.1]? = H[x.1]? := fun k x hx => o1 x.1 ((hP k x hx).lt)
  have hP1 : va_P (dC, dI) vwCl (jW dA ad n M ++ [(H.size, .inl (dA t, a0))]) H1 := (hP.kept hk).app (fun k x hx => by
    have hz : k < 1 := (List.getElem?_eq_some_iff.mp hx).1
    rw [show k = 0 by omega] at hx
    cases hx
    show H1[H.size]? = some (vp_cell _ _)
    rw [ha0]
    exact e1)
  have hD1 : va_D A (jW dA ad n M ++ [(H.size, .inl (dA t, a0))]) := hD.push hP rfl (hA _ hS.1)
  have hS1 : va_S A s.heap H1 locs := ⟨Nat.le_trans hS.1 (by omega), fun x h1 h2 => (o1 x (Nat.lt_of_lt_of_le h1 hS.1)).trans (hS.2.1 x h1 h2), hS.2.2⟩
  have he : je dA (up ad n H.size) (.inl (t, a0)) = .inl (dA t, a0) := by
    show (.inl (dA t, ja _ a0) : va_E) = _
    rw [hja]
  rw [jW_push hn h4 he] at hP1 hD1
  have ha : ∀ k, (k < n ∨ 1000000 ≤ k) → up ad n H.size k = ad k := fun k hk => up_ne (by rcases hk with h | h <;> omega)
  have K := kk (up ad n H.size) H1 locs la (fun k hk => (ha k (hk.elim (fun q => Or.inl (Nat.lt_of_lt_of_le q h2)) Or.inr)).trans (h1 k hk)) (by omega) (by omega) (fun k hk => ?_) (fun v hv => jok_mono (Nat.le_succ n) (h5 v hv)) (jk_cons (v := .ref n) (Or.inl (Nat.lt_succ_self n)) (fun w hw => jok_mono (Nat.le_succ n) (jk_tl h6 w hw))) hP1 hD1 hS1 (by rw [jls_same ha h5]; exact hl)
  · rw [List.map_cons, jst_same ha (jk_tl h6), show jv (up ad n H.size) (.ref n) = .ref H.size from congrArg Value.ref up_eq] at K
    exact K
  · by_cases q : k = n
    · rw [q, up_eq]
      exact hjo _
    · rw [up_ne q]
      exact jokE_mono (Nat.le_succ n) (h4 k (by omega))
/-- Math.max, Math.min -/
theorem jr_mmax (h : Ok κ own cc nL ret) {fr lo ce sl0 : Nat} (hRm : Rm κ fr lo ce sl0) {x y : Int} {index : Nat} {rest : List Value} (w1 : Cond.methodLink own index Lib.Math.max.name ∈ wsL_law) (w2 : Cond.static Lib.Math.max.name ∈ wsL_law) (w3 : Cond.initialized "java/lang/Math" ∈ wsL_law) (w4 : Cond.code Lib.Math.max.name Lib.Math.max.code 2 (some .int) ∈ wsL_law) (hd : decode cc pc = .ok (.invokestatic index, 3)) (hroom : 1 ≤ fr ∧ (rest.map fun v => v.category).sum + 13 ≤ lo ∧ c ≤ ce ∧ sl ≤ sl0) (hx0 : -2147483648 ≤ x ∧ x < 2147483648) (hy0 : -2147483648 ≤ y ∧ y < 2147483648) (kk : J κ nL c sl n (pc + 3) ls (jI (max x y) :: rest) M) : J κ nL c sl n pc ls (jI y :: jI x :: rest) M := by
  obtain ⟨p, l2, e, R, s, m, args, below, meth, c0, Q, A, dC, dI, dA, n0, ad0⟩ := κ
  obtain ⟨hx, hb, hml, hown, hts, hK, hr, hlk, hA, hSF⟩ := h
  obtain ⟨r1, r2, r3, r4⟩ := hRm
  intro ad H locs la h1 h2 h3 h4 h5 h6 hP hD hS hl
  have K := kk ad H locs la h1 h2 h3 h4 h5 (jk_cons jok_i (jk_tl (jk_tl h6))) hP hD hS hl
  have e1 : ((rest.map (jv ad)).map fun v => v.category) = rest.map fun v => v.category := by
    rw [List.map_map]
    exact List.map_congr_left (fun v _ => jv_cat ad v)
  have e2 : (if Int32.ofInt x < Int32.ofInt y then Int32.ofInt y else Int32.ofInt x) = Int32.ofInt (max x y) := by
    by_cases q : x < y
    · rw [if_pos ((ji_lt hx0 hy0).mpr q)]; congr 1; omega
    · rw [if_neg (fun z => q ((ji_lt hx0 hy0).mp z))]; congr 1; omega
  exact va_mmax hx hb (by rw [hml]; exact hl.1.symm) hown (hts _ w1) (hts _ w2) (hts _ w3) (hts _ w4) (Nat.le_trans hroom.1 r1) (by rw [e1]; exact Nat.le_trans hroom.2.1 r2) (Nat.le_trans hroom.2.2.1 r3) (Nat.le_trans hroom.2.2.2 r4) hd (by rw [e2]; exact K)
theorem jr_mmin (h : Ok κ own cc nL ret) {fr lo ce sl0 : Nat} (hRm : Rm κ fr lo ce sl0) {x y : Int} {index : Nat} {rest : List Value} (w1 : Cond.methodLink own index Lib.Math.min.name ∈ wsL_law) (w2 : Cond.static Lib.Math.min.name ∈ wsL_law) (w3 : Cond.initialized "java/lang/Math" ∈ wsL_law) (w4 : Cond.code Lib.Math.min.name Lib.Math.min.code 2 (some .int) ∈ wsL_law) (hd : decode cc pc = .ok (.invokestatic index, 3)) (hroom : 1 ≤ fr ∧ (rest.map fun v => v.category).sum + 13 ≤ lo ∧ c ≤ ce ∧ sl ≤ sl0) (hx0 : -2147483648 ≤ x ∧ x < 2147483648) (hy0 : -2147483648 ≤ y ∧ y < 2147483648) (kk : J κ nL c sl n (pc + 3) ls (jI (min x y) :: rest) M) : J κ nL c sl n pc ls (jI y :: jI x :: rest) M := by
  obtain ⟨p, l2, e, R, s, m, args, below, meth, c0, Q, A, dC, dI, dA, n0, ad0⟩ := κ
  obtain ⟨hx, hb, hml, hown, hts, hK, hr, hlk, hA, hSF⟩ := h
  obtain ⟨r1, r2, r3, r4⟩ := hRm
  intro ad H locs la h1 h2 h3 h4 h5 h6 hP hD hS hl
  have K := kk ad H locs la h1 h2 h3 h4 h5 (jk_cons jok_i (jk_tl (jk_tl h6))) hP hD hS hl
  have e1 : ((rest.map (jv ad)).map fun v => v.category) = rest.map fun v => v.category := by
    rw [List.map_map]
    exact List.map_congr_left (fun v _ => jv_cat ad v)
  have e2 : (if Int32.ofInt y < Int32.ofInt x then Int32.ofInt y else Int32.ofInt x) = Int32.ofInt (min x y) := by
    by_cases q : y < x
    · rw [if_pos ((ji_lt hy0 hx0).mpr q)]; congr 1; omega
    · rw [if_neg (fun z => q ((ji_lt hy0 hx0).mp z))]; congr 1; omega
  exact va_mmin hx hb (by rw [hml]; exact hl.1.symm) hown (hts _ w1) (hts _ w2) (hts _ w3) (hts _ w4) (Nat.le_trans hroom.1 r1) (by rw [e1]; exact Nat.le_trans hroom.2.1 r2) (Nat.le_trans hroom.2.2.1 r3) (Nat.le_trans hroom.2.2.2 r4) hd (by rw [e2]; exact K)
end JX
